theorem d_Par_factor_0 : decode b_Par_factor 0 = .ok (.aload_n 0, 1) := by decide +kernel
theorem d_Par_factor_1 : decode b_Par_factor 1 = .ok (.invokevirtual 34, 3) := by decide +kernel
theorem d_Par_factor_4 : decode b_Par_factor 4 = .ok (.istore_n 2, 1) := by decide +kernel
theorem d_Par_factor_5 : decode b_Par_factor 5 = .ok (.iload_n 2, 1) := by decide +kernel
theorem d_Par_factor_6 : decode b_Par_factor 6 = .ok (.lookupswitch 130 #[(2, 42), (3, 42), (24, 66), (27, 97)], 42) := by decide +kernel
theorem d_Par_factor_48 : decode b_Par_factor 48 = .ok (.aload_n 0, 1) := by decide +kernel
theorem d_Par_factor_49 : decode b_Par_factor 49 = .ok (.getfield 26, 3) := by decide +kernel
theorem d_Par_factor_52 : decode b_Par_factor 52 = .ok (.iload_n 2, 1) := by decide +kernel
theorem d_Par_factor_53 : decode b_Par_factor 53 = .ok (.aload_n 0, 1) := by decide +kernel
theorem d_Par_factor_54 : decode b_Par_factor 54 = .ok (.invokevirtual 61, 3) := by decide +kernel
theorem d_Par_factor_57 : decode b_Par_factor 57 = .ok (.invokevirtual 143, 3) := by decide +kernel
theorem d_Par_factor_60 : decode b_Par_factor 60 = .ok (.aload_n 0, 1) := by decide +kernel
theorem d_Par_factor_61 : decode b_Par_factor 61 = .ok (.dup, 1) := by decide +kernel
theorem d_Par_factor_62 : decode b_Par_factor 62 = .ok (.getfield 27, 3) := by decide +kernel
theorem d_Par_factor_65 : decode b_Par_factor 65 = .ok (.iconst 1, 1) := by decide +kernel
theorem d_Par_factor_66 : decode b_Par_factor 66 = .ok (.iadd, 1) := by decide +kernel
theorem d_Par_factor_67 : decode b_Par_factor 67 = .ok (.putfield 27, 3) := by decide +kernel
theorem d_Par_factor_70 : decode b_Par_factor 70 = .ok (.iconst 1, 1) := by decide +kernel
theorem d_Par_factor_71 : decode b_Par_factor 71 = .ok (.ireturn, 1) := by decide +kernel
theorem d_Par_factor_72 : decode b_Par_factor 72 = .ok (.aload_n 0, 1) := by decide +kernel
theorem d_Par_factor_73 : decode b_Par_factor 73 = .ok (.iload_n 1, 1) := by decide +kernel
theorem d_Par_factor_74 : decode b_Par_factor 74 = .ok (.invokevirtual 149, 3) := by decide +kernel
theorem d_Par_factor_77 : decode b_Par_factor 77 = .ok (.ifCond .eq 13, 3) := by decide +kernel
theorem d_Par_factor_80 : decode b_Par_factor 80 = .ok (.aload_n 0, 1) := by decide +kernel
theorem d_Par_factor_81 : decode b_Par_factor 81 = .ok (.iload_n 1, 1) := by decide +kernel
theorem d_Par_factor_82 : decode b_Par_factor 82 = .ok (.iconst 1, 1) := by decide +kernel
theorem d_Par_factor_83 : decode b_Par_factor 83 = .ok (.iadd, 1) := by decide +kernel
theorem d_Par_factor_84 : decode b_Par_factor 84 = .ok (.invokevirtual 155, 3) := by decide +kernel
theorem d_Par_factor_87 : decode b_Par_factor 87 = .ok (.ifCond .ne 5, 3) := by decide +kernel
theorem d_Par_factor_90 : decode b_Par_factor 90 = .ok (.iconst 0, 1) := by decide +kernel
theorem d_Par_factor_91 : decode b_Par_factor 91 = .ok (.ireturn, 1) := by decide +kernel
theorem d_Par_factor_92 : decode b_Par_factor 92 = .ok (.aload_n 0, 1) := by decide +kernel
theorem d_Par_factor_93 : decode b_Par_factor 93 = .ok (.getfield 26, 3) := by decide +kernel
theorem d_Par_factor_96 : decode b_Par_factor 96 = .ok (.iconst (-1), 1) := by decide +kernel
theorem d_Par_factor_97 : decode b_Par_factor 97 = .ok (.iconst 0, 1) := by decide +kernel
theorem d_Par_factor_98 : decode b_Par_factor 98 = .ok (.invokevirtual 143, 3) := by decide +kernel
theorem d_Par_factor_101 : decode b_Par_factor 101 = .ok (.iconst 1, 1) := by decide +kernel
theorem d_Par_factor_102 : decode b_Par_factor 102 = .ok (.ireturn, 1) := by decide +kernel
theorem d_Par_factor_103 : decode b_Par_factor 103 = .ok (.aload_n 0, 1) := by decide +kernel
theorem d_Par_factor_104 : decode b_Par_factor 104 = .ok (.iload_n 1, 1) := by decide +kernel
theorem d_Par_factor_105 : decode b_Par_factor 105 = .ok (.invokevirtual 149, 3) := by decide +kernel
theorem d_Par_factor_108 : decode b_Par_factor 108 = .ok (.ifCond .eq 26, 3) := by decide +kernel
theorem d_Par_factor_111 : decode b_Par_factor 111 = .ok (.aload_n 0, 1) := by decide +kernel
theorem d_Par_factor_112 : decode b_Par_factor 112 = .ok (.iload_n 1, 1) := by decide +kernel
theorem d_Par_factor_113 : decode b_Par_factor 113 = .ok (.iconst 1, 1) := by decide +kernel
theorem d_Par_factor_114 : decode b_Par_factor 114 = .ok (.iadd, 1) := by decide +kernel
theorem d_Par_factor_115 : decode b_Par_factor 115 = .ok (.invokevirtual 152, 3) := by decide +kernel
theorem d_Par_factor_118 : decode b_Par_factor 118 = .ok (.ifCond .eq 16, 3) := by decide +kernel
theorem d_Par_factor_121 : decode b_Par_factor 121 = .ok (.aload_n 0, 1) := by decide +kernel
theorem d_Par_factor_122 : decode b_Par_factor 122 = .ok (.bipush 28, 2) := by decide +kernel
theorem d_Par_factor_124 : decode b_Par_factor 124 = .ok (.invokevirtual 47, 3) := by decide +kernel
theorem d_Par_factor_127 : decode b_Par_factor 127 = .ok (.ifCond .eq 7, 3) := by decide +kernel
theorem d_Par_factor_130 : decode b_Par_factor 130 = .ok (.iconst 1, 1) := by decide +kernel
theorem d_Par_factor_131 : decode b_Par_factor 131 = .ok (.goto 4, 3) := by decide +kernel
theorem d_Par_factor_134 : decode b_Par_factor 134 = .ok (.iconst 0, 1) := by decide +kernel
theorem d_Par_factor_135 : decode b_Par_factor 135 = .ok (.ireturn, 1) := by decide +kernel
theorem d_Par_factor_136 : decode b_Par_factor 136 = .ok (.iconst 0, 1) := by decide +kernel
theorem d_Par_factor_137 : decode b_Par_factor 137 = .ok (.ireturn, 1) := by decide +kernel
theorem d_Par_sum_0 : decode b_Par_sum 0 = .ok (.aload_n 0, 1) := by decide +kernel
theorem d_Par_sum_1 : decode b_Par_sum 1 = .ok (.iload_n 1, 1) := by decide +kernel
theorem d_Par_sum_2 : decode b_Par_sum 2 = .ok (.invokevirtual 155, 3) := by decide +kernel
theorem d_Par_sum_5 : decode b_Par_sum 5 = .ok (.ifCond .ne 5, 3) := by decide +kernel
theorem d_Par_sum_8 : decode b_Par_sum 8 = .ok (.iconst 0, 1) := by decide +kernel
theorem d_Par_sum_9 : decode b_Par_sum 9 = .ok (.ireturn, 1) := by decide +kernel
theorem d_Par_sum_10 : decode b_Par_sum 10 = .ok (.iconst (-1), 1) := by decide +kernel
theorem d_Par_sum_11 : decode b_Par_sum 11 = .ok (.istore_n 2, 1) := by decide +kernel
theorem d_Par_sum_12 : decode b_Par_sum 12 = .ok (.iconst 0, 1) := by decide +kernel
theorem d_Par_sum_13 : decode b_Par_sum 13 = .ok (.istore_n 3, 1) := by decide +kernel
theorem d_Par_sum_14 : decode b_Par_sum 14 = .ok (.iload_n 3, 1) := by decide +kernel
theorem d_Par_sum_15 : decode b_Par_sum 15 = .ok (.sipush 2000, 3) := by decide +kernel
theorem d_Par_sum_18 : decode b_Par_sum 18 = .ok (.if_icmp .ge 102, 3) := by decide +kernel
theorem d_Par_sum_21 : decode b_Par_sum 21 = .ok (.aload_n 0, 1) := by decide +kernel
theorem d_Par_sum_22 : decode b_Par_sum 22 = .ok (.invokevirtual 34, 3) := by decide +kernel
theorem d_Par_sum_25 : decode b_Par_sum 25 = .ok (.istore 4, 2) := by decide +kernel
theorem d_Par_sum_27 : decode b_Par_sum 27 = .ok (.iload_n 2, 1) := by decide +kernel
theorem d_Par_sum_28 : decode b_Par_sum 28 = .ok (.iconst (-1), 1) := by decide +kernel
theorem d_Par_sum_29 : decode b_Par_sum 29 = .ok (.if_icmp .eq 19, 3) := by decide +kernel
theorem d_Par_sum_32 : decode b_Par_sum 32 = .ok (.iload 4, 2) := by decide +kernel
theorem d_Par_sum_34 : decode b_Par_sum 34 = .ok (.bipush 25, 2) := by decide +kernel
theorem d_Par_sum_36 : decode b_Par_sum 36 = .ok (.if_icmp .eq 12, 3) := by decide +kernel
theorem d_Par_sum_39 : decode b_Par_sum 39 = .ok (.aload_n 0, 1) := by decide +kernel
theorem d_Par_sum_40 : decode b_Par_sum 40 = .ok (.getfield 26, 3) := by decide +kernel
theorem d_Par_sum_43 : decode b_Par_sum 43 = .ok (.iload_n 2, 1) := by decide +kernel
theorem d_Par_sum_44 : decode b_Par_sum 44 = .ok (.iconst 0, 1) := by decide +kernel
theorem d_Par_sum_45 : decode b_Par_sum 45 = .ok (.invokevirtual 143, 3) := by decide +kernel
theorem d_Par_sum_48 : decode b_Par_sum 48 = .ok (.iload 4, 2) := by decide +kernel
theorem d_Par_sum_50 : decode b_Par_sum 50 = .ok (.bipush 25, 2) := by decide +kernel
theorem d_Par_sum_52 : decode b_Par_sum 52 = .ok (.if_icmp .eq 19, 3) := by decide +kernel
theorem d_Par_sum_55 : decode b_Par_sum 55 = .ok (.iload 4, 2) := by decide +kernel
theorem d_Par_sum_57 : decode b_Par_sum 57 = .ok (.bipush 23, 2) := by decide +kernel
theorem d_Par_sum_59 : decode b_Par_sum 59 = .ok (.if_icmp .eq 12, 3) := by decide +kernel
theorem d_Par_sum_62 : decode b_Par_sum 62 = .ok (.iload 4, 2) := by decide +kernel
theorem d_Par_sum_64 : decode b_Par_sum 64 = .ok (.bipush 24, 2) := by decide +kernel
theorem d_Par_sum_66 : decode b_Par_sum 66 = .ok (.if_icmp .eq 5, 3) := by decide +kernel
theorem d_Par_sum_69 : decode b_Par_sum 69 = .ok (.iconst 1, 1) := by decide +kernel
theorem d_Par_sum_70 : decode b_Par_sum 70 = .ok (.ireturn, 1) := by decide +kernel
theorem d_Par_sum_71 : decode b_Par_sum 71 = .ok (.aload_n 0, 1) := by decide +kernel
theorem d_Par_sum_72 : decode b_Par_sum 72 = .ok (.dup, 1) := by decide +kernel
theorem d_Par_sum_73 : decode b_Par_sum 73 = .ok (.getfield 27, 3) := by decide +kernel
theorem d_Par_sum_76 : decode b_Par_sum 76 = .ok (.iconst 1, 1) := by decide +kernel
theorem d_Par_sum_77 : decode b_Par_sum 77 = .ok (.iadd, 1) := by decide +kernel
theorem d_Par_sum_78 : decode b_Par_sum 78 = .ok (.putfield 27, 3) := by decide +kernel
theorem d_Par_sum_81 : decode b_Par_sum 81 = .ok (.aload_n 0, 1) := by decide +kernel
theorem d_Par_sum_82 : decode b_Par_sum 82 = .ok (.iload_n 1, 1) := by decide +kernel
theorem d_Par_sum_83 : decode b_Par_sum 83 = .ok (.invokevirtual 155, 3) := by decide +kernel
theorem d_Par_sum_86 : decode b_Par_sum 86 = .ok (.ifCond .ne 5, 3) := by decide +kernel
theorem d_Par_sum_89 : decode b_Par_sum 89 = .ok (.iconst 0, 1) := by decide +kernel
theorem d_Par_sum_90 : decode b_Par_sum 90 = .ok (.ireturn, 1) := by decide +kernel
theorem d_Par_sum_91 : decode b_Par_sum 91 = .ok (.iload 4, 2) := by decide +kernel
theorem d_Par_sum_93 : decode b_Par_sum 93 = .ok (.bipush 25, 2) := by decide +kernel
theorem d_Par_sum_95 : decode b_Par_sum 95 = .ok (.if_icmp .ne 16, 3) := by decide +kernel
theorem d_Par_sum_98 : decode b_Par_sum 98 = .ok (.aload_n 0, 1) := by decide +kernel
theorem d_Par_sum_99 : decode b_Par_sum 99 = .ok (.getfield 26, 3) := by decide +kernel
theorem d_Par_sum_102 : decode b_Par_sum 102 = .ok (.bipush 25, 2) := by decide +kernel
theorem d_Par_sum_104 : decode b_Par_sum 104 = .ok (.iconst 0, 1) := by decide +kernel
theorem d_Par_sum_105 : decode b_Par_sum 105 = .ok (.invokevirtual 143, 3) := by decide +kernel
theorem d_Par_sum_108 : decode b_Par_sum 108 = .ok (.goto 6, 3) := by decide +kernel
theorem d_Par_sum_111 : decode b_Par_sum 111 = .ok (.iload 4, 2) := by decide +kernel
theorem d_Par_sum_113 : decode b_Par_sum 113 = .ok (.istore_n 2, 1) := by decide +kernel
theorem d_Par_sum_114 : decode b_Par_sum 114 = .ok (.iinc 3 1, 3) := by decide +kernel
theorem d_Par_sum_117 : decode b_Par_sum 117 = .ok (.goto (-103), 3) := by decide +kernel
theorem d_Par_sum_120 : decode b_Par_sum 120 = .ok (.iconst 0, 1) := by decide +kernel
theorem d_Par_sum_121 : decode b_Par_sum 121 = .ok (.ireturn, 1) := by decide +kernel
theorem d_Par_condition_0 : decode b_Par_condition 0 = .ok (.aload_n 0, 1) := by decide +kernel
theorem d_Par_condition_1 : decode b_Par_condition 1 = .ok (.iload_n 1, 1) := by decide +kernel
theorem d_Par_condition_2 : decode b_Par_condition 2 = .ok (.invokevirtual 138, 3) := by decide +kernel
theorem d_Par_condition_5 : decode b_Par_condition 5 = .ok (.ifCond .ne 5, 3) := by decide +kernel
theorem d_Par_condition_8 : decode b_Par_condition 8 = .ok (.iconst 0, 1) := by decide +kernel
theorem d_Par_condition_9 : decode b_Par_condition 9 = .ok (.ireturn, 1) := by decide +kernel
theorem d_Par_condition_10 : decode b_Par_condition 10 = .ok (.iconst 0, 1) := by decide +kernel
theorem d_Par_condition_11 : decode b_Par_condition 11 = .ok (.istore_n 2, 1) := by decide +kernel
theorem d_Par_condition_12 : decode b_Par_condition 12 = .ok (.iconst 0, 1) := by decide +kernel
theorem d_Par_condition_13 : decode b_Par_condition 13 = .ok (.istore_n 3, 1) := by decide +kernel
theorem d_Par_condition_14 : decode b_Par_condition 14 = .ok (.iload_n 3, 1) := by decide +kernel
theorem d_Par_condition_15 : decode b_Par_condition 15 = .ok (.sipush 2000, 3) := by decide +kernel
theorem d_Par_condition_18 : decode b_Par_condition 18 = .ok (.if_icmp .ge 91, 3) := by decide +kernel
theorem d_Par_condition_21 : decode b_Par_condition 21 = .ok (.aload_n 0, 1) := by decide +kernel
theorem d_Par_condition_22 : decode b_Par_condition 22 = .ok (.invokevirtual 34, 3) := by decide +kernel
theorem d_Par_condition_25 : decode b_Par_condition 25 = .ok (.istore 4, 2) := by decide +kernel
theorem d_Par_condition_27 : decode b_Par_condition 27 = .ok (.iload_n 2, 1) := by decide +kernel
theorem d_Par_condition_28 : decode b_Par_condition 28 = .ok (.ifCond .eq 20, 3) := by decide +kernel
theorem d_Par_condition_31 : decode b_Par_condition 31 = .ok (.iload 4, 2) := by decide +kernel
theorem d_Par_condition_33 : decode b_Par_condition 33 = .ok (.bipush 14, 2) := by decide +kernel
theorem d_Par_condition_35 : decode b_Par_condition 35 = .ok (.if_icmp .eq 13, 3) := by decide +kernel
theorem d_Par_condition_38 : decode b_Par_condition 38 = .ok (.aload_n 0, 1) := by decide +kernel
theorem d_Par_condition_39 : decode b_Par_condition 39 = .ok (.getfield 26, 3) := by decide +kernel
theorem d_Par_condition_42 : decode b_Par_condition 42 = .ok (.bipush 15, 2) := by decide +kernel
theorem d_Par_condition_44 : decode b_Par_condition 44 = .ok (.iconst 0, 1) := by decide +kernel
theorem d_Par_condition_45 : decode b_Par_condition 45 = .ok (.invokevirtual 143, 3) := by decide +kernel
theorem d_Par_condition_48 : decode b_Par_condition 48 = .ok (.iload 4, 2) := by decide +kernel
theorem d_Par_condition_50 : decode b_Par_condition 50 = .ok (.bipush 14, 2) := by decide +kernel
theorem d_Par_condition_52 : decode b_Par_condition 52 = .ok (.if_icmp .eq 12, 3) := by decide +kernel
theorem d_Par_condition_55 : decode b_Par_condition 55 = .ok (.iload 4, 2) := by decide +kernel
theorem d_Par_condition_57 : decode b_Par_condition 57 = .ok (.bipush 15, 2) := by decide +kernel
theorem d_Par_condition_59 : decode b_Par_condition 59 = .ok (.if_icmp .eq 5, 3) := by decide +kernel
theorem d_Par_condition_62 : decode b_Par_condition 62 = .ok (.iconst 1, 1) := by decide +kernel
theorem d_Par_condition_63 : decode b_Par_condition 63 = .ok (.ireturn, 1) := by decide +kernel
theorem d_Par_condition_64 : decode b_Par_condition 64 = .ok (.aload_n 0, 1) := by decide +kernel
theorem d_Par_condition_65 : decode b_Par_condition 65 = .ok (.invokevirtual 146, 3) := by decide +kernel
theorem d_Par_condition_68 : decode b_Par_condition 68 = .ok (.ifCond .eq 11, 3) := by decide +kernel
theorem d_Par_condition_71 : decode b_Par_condition 71 = .ok (.aload_n 0, 1) := by decide +kernel
theorem d_Par_condition_72 : decode b_Par_condition 72 = .ok (.iload_n 1, 1) := by decide +kernel
theorem d_Par_condition_73 : decode b_Par_condition 73 = .ok (.invokevirtual 138, 3) := by decide +kernel
theorem d_Par_condition_76 : decode b_Par_condition 76 = .ok (.ifCond .ne 5, 3) := by decide +kernel
theorem d_Par_condition_79 : decode b_Par_condition 79 = .ok (.iconst 0, 1) := by decide +kernel
theorem d_Par_condition_80 : decode b_Par_condition 80 = .ok (.ireturn, 1) := by decide +kernel
theorem d_Par_condition_81 : decode b_Par_condition 81 = .ok (.iload 4, 2) := by decide +kernel
theorem d_Par_condition_83 : decode b_Par_condition 83 = .ok (.bipush 14, 2) := by decide +kernel
theorem d_Par_condition_85 : decode b_Par_condition 85 = .ok (.if_icmp .ne 16, 3) := by decide +kernel
theorem d_Par_condition_88 : decode b_Par_condition 88 = .ok (.aload_n 0, 1) := by decide +kernel
theorem d_Par_condition_89 : decode b_Par_condition 89 = .ok (.getfield 26, 3) := by decide +kernel
theorem d_Par_condition_92 : decode b_Par_condition 92 = .ok (.bipush 14, 2) := by decide +kernel
theorem d_Par_condition_94 : decode b_Par_condition 94 = .ok (.iconst 0, 1) := by decide +kernel
theorem d_Par_condition_95 : decode b_Par_condition 95 = .ok (.invokevirtual 143, 3) := by decide +kernel
theorem d_Par_condition_98 : decode b_Par_condition 98 = .ok (.goto 5, 3) := by decide +kernel
theorem d_Par_condition_101 : decode b_Par_condition 101 = .ok (.iconst 1, 1) := by decide +kernel
theorem d_Par_condition_102 : decode b_Par_condition 102 = .ok (.istore_n 2, 1) := by decide +kernel
theorem d_Par_condition_103 : decode b_Par_condition 103 = .ok (.iinc 3 1, 3) := by decide +kernel
theorem d_Par_condition_106 : decode b_Par_condition 106 = .ok (.goto (-92), 3) := by decide +kernel
theorem d_Par_condition_109 : decode b_Par_condition 109 = .ok (.iconst 0, 1) := by decide +kernel
theorem d_Par_condition_110 : decode b_Par_condition 110 = .ok (.ireturn, 1) := by decide +kernel
theorem d_Par_truth_0 : decode b_Par_truth 0 = .ok (.aload_n 0, 1) := by decide +kernel
theorem d_Par_truth_1 : decode b_Par_truth 1 = .ok (.invokevirtual 34, 3) := by decide +kernel
theorem d_Par_truth_4 : decode b_Par_truth 4 = .ok (.istore_n 2, 1) := by decide +kernel
theorem d_Par_truth_5 : decode b_Par_truth 5 = .ok (.iload_n 2, 1) := by decide +kernel
theorem d_Par_truth_6 : decode b_Par_truth 6 = .ok (.bipush 16, 2) := by decide +kernel
theorem d_Par_truth_8 : decode b_Par_truth 8 = .ok (.if_icmp .ne 35, 3) := by decide +kernel
theorem d_Par_truth_11 : decode b_Par_truth 11 = .ok (.aload_n 0, 1) := by decide +kernel
theorem d_Par_truth_12 : decode b_Par_truth 12 = .ok (.iload_n 1, 1) := by decide +kernel
theorem d_Par_truth_13 : decode b_Par_truth 13 = .ok (.invokevirtual 149, 3) := by decide +kernel
theorem d_Par_truth_16 : decode b_Par_truth 16 = .ok (.ifCond .eq 13, 3) := by decide +kernel
theorem d_Par_truth_19 : decode b_Par_truth 19 = .ok (.aload_n 0, 1) := by decide +kernel
theorem d_Par_truth_20 : decode b_Par_truth 20 = .ok (.iload_n 1, 1) := by decide +kernel
theorem d_Par_truth_21 : decode b_Par_truth 21 = .ok (.iconst 1, 1) := by decide +kernel
theorem d_Par_truth_22 : decode b_Par_truth 22 = .ok (.iadd, 1) := by decide +kernel
theorem d_Par_truth_23 : decode b_Par_truth 23 = .ok (.invokevirtual 138, 3) := by decide +kernel
theorem d_Par_truth_26 : decode b_Par_truth 26 = .ok (.ifCond .ne 5, 3) := by decide +kernel
theorem d_Par_truth_29 : decode b_Par_truth 29 = .ok (.iconst 0, 1) := by decide +kernel
theorem d_Par_truth_30 : decode b_Par_truth 30 = .ok (.ireturn, 1) := by decide +kernel
theorem d_Par_truth_31 : decode b_Par_truth 31 = .ok (.aload_n 0, 1) := by decide +kernel
theorem d_Par_truth_32 : decode b_Par_truth 32 = .ok (.getfield 26, 3) := by decide +kernel
theorem d_Par_truth_35 : decode b_Par_truth 35 = .ok (.bipush 16, 2) := by decide +kernel
theorem d_Par_truth_37 : decode b_Par_truth 37 = .ok (.iconst 0, 1) := by decide +kernel
theorem d_Par_truth_38 : decode b_Par_truth 38 = .ok (.invokevirtual 143, 3) := by decide +kernel
theorem d_Par_truth_41 : decode b_Par_truth 41 = .ok (.iconst 1, 1) := by decide +kernel
theorem d_Par_truth_42 : decode b_Par_truth 42 = .ok (.ireturn, 1) := by decide +kernel
theorem d_Par_truth_43 : decode b_Par_truth 43 = .ok (.iload_n 2, 1) := by decide +kernel
theorem d_Par_truth_44 : decode b_Par_truth 44 = .ok (.bipush 29, 2) := by decide +kernel
theorem d_Par_truth_46 : decode b_Par_truth 46 = .ok (.if_icmp .ne 36, 3) := by decide +kernel
theorem d_Par_truth_49 : decode b_Par_truth 49 = .ok (.aload_n 0, 1) := by decide +kernel
theorem d_Par_truth_50 : decode b_Par_truth 50 = .ok (.iload_n 1, 1) := by decide +kernel
theorem d_Par_truth_51 : decode b_Par_truth 51 = .ok (.invokevirtual 149, 3) := by decide +kernel
theorem d_Par_truth_54 : decode b_Par_truth 54 = .ok (.ifCond .eq 26, 3) := by decide +kernel
theorem d_Par_truth_57 : decode b_Par_truth 57 = .ok (.aload_n 0, 1) := by decide +kernel
theorem d_Par_truth_58 : decode b_Par_truth 58 = .ok (.iload_n 1, 1) := by decide +kernel
theorem d_Par_truth_59 : decode b_Par_truth 59 = .ok (.iconst 1, 1) := by decide +kernel
theorem d_Par_truth_60 : decode b_Par_truth 60 = .ok (.iadd, 1) := by decide +kernel
theorem d_Par_truth_61 : decode b_Par_truth 61 = .ok (.invokevirtual 76, 3) := by decide +kernel
theorem d_Par_truth_64 : decode b_Par_truth 64 = .ok (.ifCond .eq 16, 3) := by decide +kernel
theorem d_Par_truth_67 : decode b_Par_truth 67 = .ok (.aload_n 0, 1) := by decide +kernel
theorem d_Par_truth_68 : decode b_Par_truth 68 = .ok (.bipush 30, 2) := by decide +kernel
theorem d_Par_truth_70 : decode b_Par_truth 70 = .ok (.invokevirtual 47, 3) := by decide +kernel
theorem d_Par_truth_73 : decode b_Par_truth 73 = .ok (.ifCond .eq 7, 3) := by decide +kernel
theorem d_Par_truth_76 : decode b_Par_truth 76 = .ok (.iconst 1, 1) := by decide +kernel
theorem d_Par_truth_77 : decode b_Par_truth 77 = .ok (.goto 4, 3) := by decide +kernel
theorem d_Par_truth_80 : decode b_Par_truth 80 = .ok (.iconst 0, 1) := by decide +kernel
theorem d_Par_truth_81 : decode b_Par_truth 81 = .ok (.ireturn, 1) := by decide +kernel
theorem d_Par_truth_82 : decode b_Par_truth 82 = .ok (.iload_n 2, 1) := by decide +kernel
theorem d_Par_truth_83 : decode b_Par_truth 83 = .ok (.iconst 4, 1) := by decide +kernel
theorem d_Par_truth_84 : decode b_Par_truth 84 = .ok (.if_icmp .ne 42, 3) := by decide +kernel
theorem d_Par_truth_87 : decode b_Par_truth 87 = .ok (.aload_n 0, 1) := by decide +kernel
theorem d_Par_truth_88 : decode b_Par_truth 88 = .ok (.getfield 9, 3) := by decide +kernel
theorem d_Par_truth_91 : decode b_Par_truth 91 = .ok (.aload_n 0, 1) := by decide +kernel
theorem d_Par_truth_92 : decode b_Par_truth 92 = .ok (.invokevirtual 61, 3) := by decide +kernel
theorem d_Par_truth_95 : decode b_Par_truth 95 = .ok (.invokevirtual 67, 3) := by decide +kernel
theorem d_Par_truth_98 : decode b_Par_truth 98 = .ok (.istore_n 3, 1) := by decide +kernel
theorem d_Par_truth_99 : decode b_Par_truth 99 = .ok (.aload_n 0, 1) := by decide +kernel
theorem d_Par_truth_100 : decode b_Par_truth 100 = .ok (.getfield 26, 3) := by decide +kernel
theorem d_Par_truth_103 : decode b_Par_truth 103 = .ok (.iconst 4, 1) := by decide +kernel
theorem d_Par_truth_104 : decode b_Par_truth 104 = .ok (.iload_n 3, 1) := by decide +kernel
theorem d_Par_truth_105 : decode b_Par_truth 105 = .ok (.invokevirtual 143, 3) := by decide +kernel
theorem d_Par_truth_108 : decode b_Par_truth 108 = .ok (.iload_n 3, 1) := by decide +kernel
theorem d_Par_truth_109 : decode b_Par_truth 109 = .ok (.iconst (-1), 1) := by decide +kernel
theorem d_Par_truth_110 : decode b_Par_truth 110 = .ok (.if_icmp .eq 14, 3) := by decide +kernel
theorem d_Par_truth_113 : decode b_Par_truth 113 = .ok (.aload_n 0, 1) := by decide +kernel
theorem d_Par_truth_114 : decode b_Par_truth 114 = .ok (.invokevirtual 146, 3) := by decide +kernel
theorem d_Par_truth_117 : decode b_Par_truth 117 = .ok (.ifCond .eq 7, 3) := by decide +kernel
theorem d_Par_truth_120 : decode b_Par_truth 120 = .ok (.iconst 1, 1) := by decide +kernel
theorem d_Par_truth_121 : decode b_Par_truth 121 = .ok (.goto 4, 3) := by decide +kernel
theorem d_Par_truth_124 : decode b_Par_truth 124 = .ok (.iconst 0, 1) := by decide +kernel
theorem d_Par_truth_125 : decode b_Par_truth 125 = .ok (.ireturn, 1) := by decide +kernel
theorem d_Par_truth_126 : decode b_Par_truth 126 = .ok (.aload_n 0, 1) := by decide +kernel
theorem d_Par_truth_127 : decode b_Par_truth 127 = .ok (.iload_n 1, 1) := by decide +kernel
theorem d_Par_truth_128 : decode b_Par_truth 128 = .ok (.invokevirtual 152, 3) := by decide +kernel
theorem d_Par_truth_131 : decode b_Par_truth 131 = .ok (.ifCond .ne 5, 3) := by decide +kernel
theorem d_Par_truth_134 : decode b_Par_truth 134 = .ok (.iconst 0, 1) := by decide +kernel
theorem d_Par_truth_135 : decode b_Par_truth 135 = .ok (.ireturn, 1) := by decide +kernel
theorem d_Par_truth_136 : decode b_Par_truth 136 = .ok (.aload_n 0, 1) := by decide +kernel
theorem d_Par_truth_137 : decode b_Par_truth 137 = .ok (.invokevirtual 34, 3) := by decide +kernel
theorem d_Par_truth_140 : decode b_Par_truth 140 = .ok (.istore_n 3, 1) := by decide +kernel
theorem d_Par_truth_141 : decode b_Par_truth 141 = .ok (.iload_n 3, 1) := by decide +kernel
theorem d_Par_truth_142 : decode b_Par_truth 142 = .ok (.bipush 17, 2) := by decide +kernel
theorem d_Par_truth_144 : decode b_Par_truth 144 = .ok (.if_icmp .lt 24, 3) := by decide +kernel
theorem d_Par_truth_147 : decode b_Par_truth 147 = .ok (.iload_n 3, 1) := by decide +kernel
theorem d_Par_truth_148 : decode b_Par_truth 148 = .ok (.bipush 22, 2) := by decide +kernel
theorem d_Par_truth_150 : decode b_Par_truth 150 = .ok (.if_icmp .gt 18, 3) := by decide +kernel
theorem d_Par_truth_153 : decode b_Par_truth 153 = .ok (.aload_n 0, 1) := by decide +kernel
theorem d_Par_truth_154 : decode b_Par_truth 154 = .ok (.invokevirtual 146, 3) := by decide +kernel
theorem d_Par_truth_157 : decode b_Par_truth 157 = .ok (.ifCond .eq 11, 3) := by decide +kernel
theorem d_Par_truth_160 : decode b_Par_truth 160 = .ok (.aload_n 0, 1) := by decide +kernel
theorem d_Par_truth_161 : decode b_Par_truth 161 = .ok (.iload_n 1, 1) := by decide +kernel
theorem d_Par_truth_162 : decode b_Par_truth 162 = .ok (.invokevirtual 152, 3) := by decide +kernel
theorem d_Par_truth_165 : decode b_Par_truth 165 = .ok (.ifCond .ne 5, 3) := by decide +kernel
theorem d_Par_truth_168 : decode b_Par_truth 168 = .ok (.iconst 0, 1) := by decide +kernel
theorem d_Par_truth_169 : decode b_Par_truth 169 = .ok (.ireturn, 1) := by decide +kernel
theorem d_Par_truth_170 : decode b_Par_truth 170 = .ok (.aload_n 0, 1) := by decide +kernel
theorem d_Par_truth_171 : decode b_Par_truth 171 = .ok (.getfield 26, 3) := by decide +kernel
theorem d_Par_truth_174 : decode b_Par_truth 174 = .ok (.iload_n 3, 1) := by decide +kernel
theorem d_Par_truth_175 : decode b_Par_truth 175 = .ok (.iconst 0, 1) := by decide +kernel
theorem d_Par_truth_176 : decode b_Par_truth 176 = .ok (.invokevirtual 143, 3) := by decide +kernel
theorem d_Par_truth_179 : decode b_Par_truth 179 = .ok (.iconst 1, 1) := by decide +kernel
theorem d_Par_truth_180 : decode b_Par_truth 180 = .ok (.ireturn, 1) := by decide +kernel
theorem k_751 : (.methodLink R_Par 155 y_Par_factor : Cond) ∈ wG := wGm 691 (by decide +kernel) (by decide +kernel)
theorem k_752 : (.instanceMethod y_Par_factor : Cond) ∈ wG := wGm 693 (by decide +kernel) (by decide +kernel)
theorem k_753 : (.selects R_Par y_Par_factor y_Par_factor : Cond) ∈ wG := wGm 14 (by decide +kernel) (by decide +kernel)
theorem k_754 : (.code y_Par_factor b_Par_factor 3 (some .boolean) : Cond) ∈ wG := wGm 694 (by decide +kernel) (by decide +kernel)
theorem k_755 : (.fieldLink R_Par 26 "PrivateQueries$Parser" "conditions" "LPrivateQueries$Conditions;" : Cond) ∈ wG := wGm 623 (by decide +kernel) (by decide +kernel)
theorem k_756 : (.methodLink R_Par 143 y_Cond_add : Cond) ∈ wG := wGm 679 (by decide +kernel) (by decide +kernel)
theorem k_757 : (.instanceMethod y_Cond_add : Cond) ∈ wG := wGm 680 (by decide +kernel) (by decide +kernel)
theorem k_758 : (.selects R_Cond y_Cond_add y_Cond_add : Cond) ∈ wG := wGm 681 (by decide +kernel) (by decide +kernel)
theorem k_759 : (.code y_Cond_add b_Cond_add 3 none : Cond) ∈ wG := wGm 682 (by decide +kernel) (by decide +kernel)
theorem k_760 : (.methodLink R_Par 149 y_Par_takeDeeper : Cond) ∈ wG := wGm 675 (by decide +kernel) (by decide +kernel)
theorem k_761 : (.instanceMethod y_Par_takeDeeper : Cond) ∈ wG := wGm 677 (by decide +kernel) (by decide +kernel)
theorem k_762 : (.selects R_Par y_Par_takeDeeper y_Par_takeDeeper : Cond) ∈ wG := wGm 11 (by decide +kernel) (by decide +kernel)
theorem k_763 : (.code y_Par_takeDeeper b_Par_takeDeeper 2 (some .boolean) : Cond) ∈ wG := wGm 678 (by decide +kernel) (by decide +kernel)
theorem k_764 : (.methodLink R_Par 152 y_Par_sum : Cond) ∈ wG := wGm 687 (by decide +kernel) (by decide +kernel)
theorem k_765 : (.instanceMethod y_Par_sum : Cond) ∈ wG := wGm 689 (by decide +kernel) (by decide +kernel)
theorem k_766 : (.selects R_Par y_Par_sum y_Par_sum : Cond) ∈ wG := wGm 13 (by decide +kernel) (by decide +kernel)
theorem k_767 : (.code y_Par_sum b_Par_sum 5 (some .boolean) : Cond) ∈ wG := wGm 690 (by decide +kernel) (by decide +kernel)
theorem k_768 : (.methodLink R_Par 138 y_Par_truth : Cond) ∈ wG := wGm 671 (by decide +kernel) (by decide +kernel)
theorem k_769 : (.instanceMethod y_Par_truth : Cond) ∈ wG := wGm 673 (by decide +kernel) (by decide +kernel)
theorem k_770 : (.selects R_Par y_Par_truth y_Par_truth : Cond) ∈ wG := wGm 10 (by decide +kernel) (by decide +kernel)
theorem k_771 : (.code y_Par_truth b_Par_truth 4 (some .boolean) : Cond) ∈ wG := wGm 674 (by decide +kernel) (by decide +kernel)
theorem k_772 : (.methodLink R_Par 146 y_Par_takeJoint : Cond) ∈ wG := wGm 683 (by decide +kernel) (by decide +kernel)
theorem k_773 : (.instanceMethod y_Par_takeJoint : Cond) ∈ wG := wGm 685 (by decide +kernel) (by decide +kernel)
theorem k_774 : (.selects R_Par y_Par_takeJoint y_Par_takeJoint : Cond) ∈ wG := wGm 12 (by decide +kernel) (by decide +kernel)
theorem k_775 : (.code y_Par_takeJoint b_Par_takeJoint 1 (some .boolean) : Cond) ∈ wG := wGm 686 (by decide +kernel) (by decide +kernel)
theorem k_776 : (.fieldLink R_Par 9 "PrivateQueries$Parser" "script" "LPrivateQueries$Script;" : Cond) ∈ wG := wGm 621 (by decide +kernel) (by decide +kernel)
theorem k_777 : (.methodLink R_Par 67 y_Scr_letOf : Cond) ∈ wG := wGm 655 (by decide +kernel) (by decide +kernel)
theorem k_778 : (.instanceMethod y_Scr_letOf : Cond) ∈ wG := wGm 656 (by decide +kernel) (by decide +kernel)
theorem k_779 : (.selects R_Scr y_Scr_letOf y_Scr_letOf : Cond) ∈ wG := wGm 657 (by decide +kernel) (by decide +kernel)
theorem k_780 : (.code y_Scr_letOf b_Scr_letOf 2 (some .int) : Cond) ∈ wG := wGm 658 (by decide +kernel) (by decide +kernel)
theorem k_781 : (.methodLink R_Par 76 y_Par_condition : Cond) ∈ wG := wGm 667 (by decide +kernel) (by decide +kernel)
theorem k_782 : (.instanceMethod y_Par_condition : Cond) ∈ wG := wGm 669 (by decide +kernel) (by decide +kernel)
theorem k_783 : (.selects R_Par y_Par_condition y_Par_condition : Cond) ∈ wG := wGm 9 (by decide +kernel) (by decide +kernel)
theorem k_784 : (.code y_Par_condition b_Par_condition 5 (some .boolean) : Cond) ∈ wG := wGm 670 (by decide +kernel) (by decide +kernel)
theorem g_Par_155 : GoodIn wG (wsV R_Par 155 R_Par y_Par_factor w_Par_factor) := wGa (fun w hw => by
  rcases List.mem_cons.mp hw with e | hw
  · exact e ▸ k_751
  rcases List.mem_cons.mp hw with e | hw
  · exact e ▸ k_752
  rcases List.mem_cons.mp hw with e | hw
  · exact e ▸ k_753
  rcases List.mem_cons.mp hw with e | hw
  · exact e ▸ k_137
  · exact absurd hw List.not_mem_nil) (wGc k_754)
theorem g_Par_143 : GoodIn wG (wsV R_Par 143 R_Cond y_Cond_add w_Cond_add) := wGa (fun w hw => by
  rcases List.mem_cons.mp hw with e | hw
  · exact e ▸ k_756
  rcases List.mem_cons.mp hw with e | hw
  · exact e ▸ k_757
  rcases List.mem_cons.mp hw with e | hw
  · exact e ▸ k_758
  rcases List.mem_cons.mp hw with e | hw
  · exact e ▸ k_84
  · exact absurd hw List.not_mem_nil) (wGc k_759)
theorem g_Par_149 : GoodIn wG (wsV R_Par 149 R_Par y_Par_takeDeeper w_Par_takeDeeper) := wGa (fun w hw => by
  rcases List.mem_cons.mp hw with e | hw
  · exact e ▸ k_760
  rcases List.mem_cons.mp hw with e | hw
  · exact e ▸ k_761
  rcases List.mem_cons.mp hw with e | hw
  · exact e ▸ k_762
  rcases List.mem_cons.mp hw with e | hw
  · exact e ▸ k_137
  · exact absurd hw List.not_mem_nil) (wGc k_763)
theorem g_Par_152 : GoodIn wG (wsV R_Par 152 R_Par y_Par_sum w_Par_sum) := wGa (fun w hw => by
  rcases List.mem_cons.mp hw with e | hw
  · exact e ▸ k_764
  rcases List.mem_cons.mp hw with e | hw
  · exact e ▸ k_765
  rcases List.mem_cons.mp hw with e | hw
  · exact e ▸ k_766
  rcases List.mem_cons.mp hw with e | hw
  · exact e ▸ k_137
  · exact absurd hw List.not_mem_nil) (wGc k_767)
theorem g_Par_138 : GoodIn wG (wsV R_Par 138 R_Par y_Par_truth w_Par_truth) := wGa (fun w hw => by
  rcases List.mem_cons.mp hw with e | hw
  · exact e ▸ k_768
  rcases List.mem_cons.mp hw with e | hw
  · exact e ▸ k_769
  rcases List.mem_cons.mp hw with e | hw
  · exact e ▸ k_770
  rcases List.mem_cons.mp hw with e | hw
  · exact e ▸ k_137
  · exact absurd hw List.not_mem_nil) (wGc k_771)
theorem g_Par_146 : GoodIn wG (wsV R_Par 146 R_Par y_Par_takeJoint w_Par_takeJoint) := wGa (fun w hw => by
  rcases List.mem_cons.mp hw with e | hw
  · exact e ▸ k_772
  rcases List.mem_cons.mp hw with e | hw
  · exact e ▸ k_773
  rcases List.mem_cons.mp hw with e | hw
  · exact e ▸ k_774
  rcases List.mem_cons.mp hw with e | hw
  · exact e ▸ k_137
  · exact absurd hw List.not_mem_nil) (wGc k_775)
theorem g_Par_67 : GoodIn wG (wsV R_Par 67 R_Scr y_Scr_letOf w_Scr_letOf) := wGa (fun w hw => by
  rcases List.mem_cons.mp hw with e | hw
  · exact e ▸ k_777
  rcases List.mem_cons.mp hw with e | hw
  · exact e ▸ k_778
  rcases List.mem_cons.mp hw with e | hw
  · exact e ▸ k_779
  rcases List.mem_cons.mp hw with e | hw
  · exact e ▸ k_491
  · exact absurd hw List.not_mem_nil) (wGc k_780)
theorem g_Par_76 : GoodIn wG (wsV R_Par 76 R_Par y_Par_condition w_Par_condition) := wGa (fun w hw => by
  rcases List.mem_cons.mp hw with e | hw
  · exact e ▸ k_781
  rcases List.mem_cons.mp hw with e | hw
  · exact e ▸ k_782
  rcases List.mem_cons.mp hw with e | hw
  · exact e ▸ k_783
  rcases List.mem_cons.mp hw with e | hw
  · exact e ▸ k_137
  · exact absurd hw List.not_mem_nil) (wGc k_784)
theorem zlp_Par_sum_14 {fac : RcF} {script_tokens_f_kinds : Nat → Int32} {script_tokens_f_values : Nat → Int32} {script_f_letOfLetter : Nat → Int32} {x : Int32} (zfac : ∀ {script_tokens_f_kinds : Nat → Int32} {script_tokens_f_values : Nat → Int32} {script_conditions_f_steps : Nat → Int32} {script_conditions_f_values : Nat → Int32} {script_conditions__size : Int32} {script_f_letOfLetter : Nat → Int32} {v_at : Int32} {v_joints : Int32} {x : Int32}, isB (fac script_tokens_f_kinds script_tokens_f_values script_conditions_f_steps script_conditions_f_values script_conditions__size script_f_letOfLetter v_at v_joints x).1) : ∀ {n : Nat} {i2 : Int32} {i3 : Int32} {w3_h : Int32} {w4_h : Int32} {w2_script_conditions_h : Int32} {g_script_conditions_a_steps : Nat → Int32} {g_script_conditions_a_values : Nat → Int32}, isB (lp_Par_sum_14 fac script_tokens_f_kinds script_tokens_f_values script_f_letOfLetter x n i2 i3 w3_h w4_h w2_script_conditions_h g_script_conditions_a_steps g_script_conditions_a_values).1 := by
  intro n
  induction n with
  | zero => intro i2 i3 w3_h w4_h w2_script_conditions_h g_script_conditions_a_steps g_script_conditions_a_values; unfold lp_Par_sum_14; exact isB_0
  | succ n ih =>
    intro i2 i3 w3_h w4_h w2_script_conditions_h g_script_conditions_a_steps g_script_conditions_a_values
    obtain ⟨r1, hr1⟩ : ∃ r, (s_Par_kind script_tokens_f_kinds w3_h) = r := ⟨_, rfl⟩
    obtain ⟨r2, hr2⟩ : ∃ r, (fac script_tokens_f_kinds script_tokens_f_values g_script_conditions_a_steps g_script_conditions_a_values w2_script_conditions_h script_f_letOfLetter (w3_h + 1) w4_h x) = r := ⟨_, rfl⟩
    have zb_r2 : isB r2.1 := by rw [← hr2]; exact zfac
    obtain ⟨r3, hr3⟩ : ∃ r, (s_Cond_add r2.2.2.2.2.1 r2.2.2.2.2.2 r2.2.2.2.1 25 0) = r := ⟨_, rfl⟩
    obtain ⟨r14, hr14⟩ : ∃ r, (s_Cond_add g_script_conditions_a_steps g_script_conditions_a_values w2_script_conditions_h i2 0) = r := ⟨_, rfl⟩
    obtain ⟨r15, hr15⟩ : ∃ r, (fac script_tokens_f_kinds script_tokens_f_values r14.2.1 r14.2.2 r14.1 script_f_letOfLetter (w3_h + 1) w4_h x) = r := ⟨_, rfl⟩
    have zb_r15 : isB r15.1 := by rw [← hr15]; exact zfac
    obtain ⟨r16, hr16⟩ : ∃ r, (s_Cond_add r15.2.2.2.2.1 r15.2.2.2.2.2 r15.2.2.2.1 25 0) = r := ⟨_, rfl⟩
    rw [lp_Par_sum_14]
    simp only [hr1, hr2, hr3, hr14, hr15, hr16]
    by_cases ct1 : 2000 ≤ i3
    · rw [if_pos ct1]
      first | exact isB_0 | exact isB_1 | exact ih | assumption
    rw [if_neg ct1]
    by_cases ct2 : i2 = (-1)
    · rw [if_pos ct2]
      by_cases ct3 : r1 = 25
      · rw [if_pos ct3]
        by_cases ct4 : r2.1 = 0
        · rw [if_pos ct4]
          first | exact isB_0 | exact isB_1 | exact ih | assumption
        rw [if_neg ct4]
        by_cases ct5 : r1 = 25
        · rw [if_pos ct5]
          first | exact isB_0 | exact isB_1 | exact ih | assumption
        rw [if_neg ct5]
        first | exact isB_0 | exact isB_1 | exact ih | assumption
      rw [if_neg ct3]
      by_cases ct6 : r1 = 23
      · rw [if_pos ct6]
        by_cases ct7 : r2.1 = 0
        · rw [if_pos ct7]
          first | exact isB_0 | exact isB_1 | exact ih | assumption
        rw [if_neg ct7]
        by_cases ct8 : r1 = 25
        · rw [if_pos ct8]
          first | exact isB_0 | exact isB_1 | exact ih | assumption
        rw [if_neg ct8]
        first | exact isB_0 | exact isB_1 | exact ih | assumption
      rw [if_neg ct6]
      by_cases ct9 : r1 = 24
      · rw [if_pos ct9]
        by_cases ct10 : r2.1 = 0
        · rw [if_pos ct10]
          first | exact isB_0 | exact isB_1 | exact ih | assumption
        rw [if_neg ct10]
        by_cases ct11 : r1 = 25
        · rw [if_pos ct11]
          first | exact isB_0 | exact isB_1 | exact ih | assumption
        rw [if_neg ct11]
        first | exact isB_0 | exact isB_1 | exact ih | assumption
      rw [if_neg ct9]
      first | exact isB_0 | exact isB_1 | exact ih | assumption
    rw [if_neg ct2]
    by_cases ct12 : r1 = 25
    · rw [if_pos ct12]
      by_cases ct13 : r1 = 25
      · rw [if_pos ct13]
        by_cases ct14 : r2.1 = 0
        · rw [if_pos ct14]
          first | exact isB_0 | exact isB_1 | exact ih | assumption
        rw [if_neg ct14]
        by_cases ct15 : r1 = 25
        · rw [if_pos ct15]
          first | exact isB_0 | exact isB_1 | exact ih | assumption
        rw [if_neg ct15]
        first | exact isB_0 | exact isB_1 | exact ih | assumption
      rw [if_neg ct13]
      by_cases ct16 : r1 = 23
      · rw [if_pos ct16]
        by_cases ct17 : r2.1 = 0
        · rw [if_pos ct17]
          first | exact isB_0 | exact isB_1 | exact ih | assumption
        rw [if_neg ct17]
        by_cases ct18 : r1 = 25
        · rw [if_pos ct18]
          first | exact isB_0 | exact isB_1 | exact ih | assumption
        rw [if_neg ct18]
        first | exact isB_0 | exact isB_1 | exact ih | assumption
      rw [if_neg ct16]
      by_cases ct19 : r1 = 24
      · rw [if_pos ct19]
        by_cases ct20 : r2.1 = 0
        · rw [if_pos ct20]
          first | exact isB_0 | exact isB_1 | exact ih | assumption
        rw [if_neg ct20]
        by_cases ct21 : r1 = 25
        · rw [if_pos ct21]
          first | exact isB_0 | exact isB_1 | exact ih | assumption
        rw [if_neg ct21]
        first | exact isB_0 | exact isB_1 | exact ih | assumption
      rw [if_neg ct19]
      first | exact isB_0 | exact isB_1 | exact ih | assumption
    rw [if_neg ct12]
    by_cases ct22 : r1 = 25
    · rw [if_pos ct22]
      by_cases ct23 : r15.1 = 0
      · rw [if_pos ct23]
        first | exact isB_0 | exact isB_1 | exact ih | assumption
      rw [if_neg ct23]
      by_cases ct24 : r1 = 25
      · rw [if_pos ct24]
        first | exact isB_0 | exact isB_1 | exact ih | assumption
      rw [if_neg ct24]
      first | exact isB_0 | exact isB_1 | exact ih | assumption
    rw [if_neg ct22]
    by_cases ct25 : r1 = 23
    · rw [if_pos ct25]
      by_cases ct26 : r15.1 = 0
      · rw [if_pos ct26]
        first | exact isB_0 | exact isB_1 | exact ih | assumption
      rw [if_neg ct26]
      by_cases ct27 : r1 = 25
      · rw [if_pos ct27]
        first | exact isB_0 | exact isB_1 | exact ih | assumption
      rw [if_neg ct27]
      first | exact isB_0 | exact isB_1 | exact ih | assumption
    rw [if_neg ct25]
    by_cases ct28 : r1 = 24
    · rw [if_pos ct28]
      by_cases ct29 : r15.1 = 0
      · rw [if_pos ct29]
        first | exact isB_0 | exact isB_1 | exact ih | assumption
      rw [if_neg ct29]
      by_cases ct30 : r1 = 25
      · rw [if_pos ct30]
        first | exact isB_0 | exact isB_1 | exact ih | assumption
      rw [if_neg ct30]
      first | exact isB_0 | exact isB_1 | exact ih | assumption
    rw [if_neg ct28]
    first | exact isB_0 | exact isB_1 | exact ih | assumption
theorem z_Par_sum {fac : RcF} {script_tokens_f_kinds : Nat → Int32} {script_tokens_f_values : Nat → Int32} {script_conditions_f_steps : Nat → Int32} {script_conditions_f_values : Nat → Int32} {script_conditions__size : Int32} {script_f_letOfLetter : Nat → Int32} {v_at : Int32} {v_joints : Int32} {x : Int32} (zfac : ∀ {script_tokens_f_kinds : Nat → Int32} {script_tokens_f_values : Nat → Int32} {script_conditions_f_steps : Nat → Int32} {script_conditions_f_values : Nat → Int32} {script_conditions__size : Int32} {script_f_letOfLetter : Nat → Int32} {v_at : Int32} {v_joints : Int32} {x : Int32}, isB (fac script_tokens_f_kinds script_tokens_f_values script_conditions_f_steps script_conditions_f_values script_conditions__size script_f_letOfLetter v_at v_joints x).1) : isB (s_Par_sum fac script_tokens_f_kinds script_tokens_f_values script_conditions_f_steps script_conditions_f_values script_conditions__size script_f_letOfLetter v_at v_joints x).1 := by
  obtain ⟨r1, hr1⟩ : ∃ r, (fac script_tokens_f_kinds script_tokens_f_values script_conditions_f_steps script_conditions_f_values script_conditions__size script_f_letOfLetter v_at v_joints x) = r := ⟨_, rfl⟩
  have zb_r1 : isB r1.1 := by rw [← hr1]; exact zfac
  rw [s_Par_sum]
  simp only [hr1]
  by_cases ct1 : r1.1 = 0
  · rw [if_pos ct1]
    first | exact zlp_Par_sum_14 zfac | exact isB_0 | exact isB_1 | assumption
  rw [if_neg ct1]
  first | exact zlp_Par_sum_14 zfac | exact isB_0 | exact isB_1 | assumption
set_option maxHeartbeats 4000000 in
set_option maxRecDepth 100000 in
theorem c_Par_sum (l : Launch) (G : GG) (b_ : Nat) (fac : RcF) (okfac : RcO) (zfac : ∀ {script_tokens_f_kinds : Nat → Int32} {script_tokens_f_values : Nat → Int32} {script_conditions_f_steps : Nat → Int32} {script_conditions_f_values : Nat → Int32} {script_conditions__size : Int32} {script_f_letOfLetter : Nat → Int32} {v_at : Int32} {v_joints : Int32} {x : Int32}, isB (fac script_tokens_f_kinds script_tokens_f_values script_conditions_f_steps script_conditions_f_values script_conditions__size script_f_letOfLetter v_at v_joints x).1) (hfac : DetF l G y_Par_factor w_Par_factor b_ fac okfac) (h : Nat) (script_h : Nat) (script_tokens_h : Nat) (script_tokens_a_kinds : Nat) (script_tokens_a_values : Nat) (script_tokens_a_places : Nat) (script_conditions_h : Nat) (script_conditions_a_steps : Nat) (script_conditions_a_values : Nat) (script_conditions_a_stack : Nat) (script_conditions_a_holding : Nat) (script_a_questions : Nat) (script_a_letStarts : Nat) (script_a_letEnds : Nat) (script_a_letOfLetter : Nat) (script_tokens_f_kinds : Nat → Int32) (script_tokens_f_values : Nat → Int32) (script_tokens__size : Int32) (script_conditions_f_steps : Nat → Int32) (script_conditions_f_values : Nat → Int32) (script_conditions__size : Int32) (script_conditions__height : Int32) (script__asked : Int32) (script_f_letOfLetter : Nat → Int32) (script__lets : Int32) (v_at : Int32) (v_joints : Int32) (x : Int32) (hok : ok_Par_sum fac okfac script_tokens_f_kinds script_tokens_f_values script_conditions_f_steps script_conditions_f_values script_conditions__size script_f_letOfLetter v_at v_joints x) : Det l G y_Par_sum w_Par_sum (rmD (b_ + 1)) 0 0 [.ref h, .int x] [(h, .inr (11, [.ref script_h, .ref script_tokens_h, .ref script_conditions_h, .int v_at, .int v_joints])), (script_h, .inr (10, [.ref script_tokens_h, .ref script_conditions_h, .ref script_a_questions, .int script__asked, .ref script_a_letStarts, .ref script_a_letEnds, .ref script_a_letOfLetter, .int script__lets])), (script_tokens_h, .inr (7, [.ref script_tokens_a_kinds, .ref script_tokens_a_values, .ref script_tokens_a_places, .int script_tokens__size])), (script_tokens_a_kinds, .inl (gI G, 2001, .inl script_tokens_f_kinds)), (script_tokens_a_values, .inl (gI G, 2001, .inl script_tokens_f_values)), (script_conditions_h, .inr (8, [.ref script_conditions_a_steps, .ref script_conditions_a_values, .int script_conditions__size, .ref script_conditions_a_stack, .int script_conditions__height, .ref script_conditions_a_holding])), (script_conditions_a_steps, .inl (gI G, 2000, .inl script_conditions_f_steps)), (script_conditions_a_values, .inl (gI G, 2000, .inl script_conditions_f_values)), (script_a_letOfLetter, .inl (gI G, 26, .inl script_f_letOfLetter))] (some (.int (s_Par_sum fac script_tokens_f_kinds script_tokens_f_values script_conditions_f_steps script_conditions_f_values script_conditions__size script_f_letOfLetter v_at v_joints x).1)) [(h, .inr (11, [.ref script_h, .ref script_tokens_h, .ref script_conditions_h, .int (s_Par_sum fac script_tokens_f_kinds script_tokens_f_values script_conditions_f_steps script_conditions_f_values script_conditions__size script_f_letOfLetter v_at v_joints x).2.1, .int (s_Par_sum fac script_tokens_f_kinds script_tokens_f_values script_conditions_f_steps script_conditions_f_values script_conditions__size script_f_letOfLetter v_at v_joints x).2.2.1])), (script_h, .inr (10, [.ref script_tokens_h, .ref script_conditions_h, .ref script_a_questions, .int script__asked, .ref script_a_letStarts, .ref script_a_letEnds, .ref script_a_letOfLetter, .int script__lets])), (script_tokens_h, .inr (7, [.ref script_tokens_a_kinds, .ref script_tokens_a_values, .ref script_tokens_a_places, .int script_tokens__size])), (script_tokens_a_kinds, .inl (gI G, 2001, .inl script_tokens_f_kinds)), (script_tokens_a_values, .inl (gI G, 2001, .inl script_tokens_f_values)), (script_conditions_h, .inr (8, [.ref script_conditions_a_steps, .ref script_conditions_a_values, .int (s_Par_sum fac script_tokens_f_kinds script_tokens_f_values script_conditions_f_steps script_conditions_f_values script_conditions__size script_f_letOfLetter v_at v_joints x).2.2.2.1, .ref script_conditions_a_stack, .int script_conditions__height, .ref script_conditions_a_holding])), (script_conditions_a_steps, .inl (gI G, 2000, .inl (s_Par_sum fac script_tokens_f_kinds script_tokens_f_values script_conditions_f_steps script_conditions_f_values script_conditions__size script_f_letOfLetter v_at v_joints x).2.2.2.2.1)), (script_conditions_a_values, .inl (gI G, 2000, .inl (s_Par_sum fac script_tokens_f_kinds script_tokens_f_values script_conditions_f_steps script_conditions_f_values script_conditions__size script_f_letOfLetter v_at v_joints x).2.2.2.2.2)), (script_a_letOfLetter, .inl (gI G, 26, .inl script_f_letOfLetter))] := by
  refine Det.of (cc := b_Par_sum) (maxL := 5) (ret := (some .boolean)) (by decide) rfl (Nat.le_of_ble_eq_true rfl) ?_
  intro p e s m args below meth c A ls hx hb hr hml hown hts hlocks hin hA hK hZ hP hD hS hl
  have hts : ∀ w ∈ wG, w.before args s = true := fun w h => hts w (List.mem_cons_of_mem _ h)
  have hown : s.vm.findClass R_Par = some m.cls := hown
  have loop_14 : ∀ (n : Nat) (i2 : Int32) (i3 : Int32) (w3_h : Int32) (w4_h : Int32) (w2_script_conditions_h : Int32) (g_script_conditions_a_steps : Nat → Int32) (g_script_conditions_a_values : Nat → Int32), (oklp_Par_sum_14 fac okfac script_tokens_f_kinds script_tokens_f_values script_f_letOfLetter x n i2 i3 w3_h w4_h w2_script_conditions_h g_script_conditions_a_steps g_script_conditions_a_values) → ∀ (H : Heap) (locs : List Loc) (ls : Array Slot), va_P G.1 classes [(h, .inr (11, [.ref script_h, .ref script_tokens_h, .ref script_conditions_h, .int w3_h, .int w4_h])), (script_h, .inr (10, [.ref script_tokens_h, .ref script_conditions_h, .ref script_a_questions, .int script__asked, .ref script_a_letStarts, .ref script_a_letEnds, .ref script_a_letOfLetter, .int script__lets])), (script_tokens_h, .inr (7, [.ref script_tokens_a_kinds, .ref script_tokens_a_values, .ref script_tokens_a_places, .int script_tokens__size])), (script_tokens_a_kinds, .inl (gI G, 2001, .inl script_tokens_f_kinds)), (script_tokens_a_values, .inl (gI G, 2001, .inl script_tokens_f_values)), (script_conditions_h, .inr (8, [.ref script_conditions_a_steps, .ref script_conditions_a_values, .int w2_script_conditions_h, .ref script_conditions_a_stack, .int script_conditions__height, .ref script_conditions_a_holding])), (script_conditions_a_steps, .inl (gI G, 2000, .inl g_script_conditions_a_steps)), (script_conditions_a_values, .inl (gI G, 2000, .inl g_script_conditions_a_values)), (script_a_letOfLetter, .inl (gI G, 26, .inl script_f_letOfLetter))] H → va_D A [(h, .inr (11, [.ref script_h, .ref script_tokens_h, .ref script_conditions_h, .int w3_h, .int w4_h])), (script_h, .inr (10, [.ref script_tokens_h, .ref script_conditions_h, .ref script_a_questions, .int script__asked, .ref script_a_letStarts, .ref script_a_letEnds, .ref script_a_letOfLetter, .int script__lets])), (script_tokens_h, .inr (7, [.ref script_tokens_a_kinds, .ref script_tokens_a_values, .ref script_tokens_a_places, .int script_tokens__size])), (script_tokens_a_kinds, .inl (gI G, 2001, .inl script_tokens_f_kinds)), (script_tokens_a_values, .inl (gI G, 2001, .inl script_tokens_f_values)), (script_conditions_h, .inr (8, [.ref script_conditions_a_steps, .ref script_conditions_a_values, .int w2_script_conditions_h, .ref script_conditions_a_stack, .int script_conditions__height, .ref script_conditions_a_holding])), (script_conditions_a_steps, .inl (gI G, 2000, .inl g_script_conditions_a_steps)), (script_conditions_a_values, .inl (gI G, 2000, .inl g_script_conditions_a_values)), (script_a_letOfLetter, .inl (gI G, 26, .inl script_f_letOfLetter))] → va_S A s.heap H locs → lv_has ls 5 [(3, .int i3), (2, .int i2), (0, .ref h), (1, .int x)] → W p l e (rmD (b_ + 1)) s m args below meth c H locs 0 0 (MQ below (ly_Q G A (some (.int (lp_Par_sum_14 fac script_tokens_f_kinds script_tokens_f_values script_f_letOfLetter x n i2 i3 w3_h w4_h w2_script_conditions_h g_script_conditions_a_steps g_script_conditions_a_values).1)) [(h, .inr (11, [.ref script_h, .ref script_tokens_h, .ref script_conditions_h, .int (lp_Par_sum_14 fac script_tokens_f_kinds script_tokens_f_values script_f_letOfLetter x n i2 i3 w3_h w4_h w2_script_conditions_h g_script_conditions_a_steps g_script_conditions_a_values).2.1, .int (lp_Par_sum_14 fac script_tokens_f_kinds script_tokens_f_values script_f_letOfLetter x n i2 i3 w3_h w4_h w2_script_conditions_h g_script_conditions_a_steps g_script_conditions_a_values).2.2.1])), (script_h, .inr (10, [.ref script_tokens_h, .ref script_conditions_h, .ref script_a_questions, .int script__asked, .ref script_a_letStarts, .ref script_a_letEnds, .ref script_a_letOfLetter, .int script__lets])), (script_tokens_h, .inr (7, [.ref script_tokens_a_kinds, .ref script_tokens_a_values, .ref script_tokens_a_places, .int script_tokens__size])), (script_tokens_a_kinds, .inl (gI G, 2001, .inl script_tokens_f_kinds)), (script_tokens_a_values, .inl (gI G, 2001, .inl script_tokens_f_values)), (script_conditions_h, .inr (8, [.ref script_conditions_a_steps, .ref script_conditions_a_values, .int (lp_Par_sum_14 fac script_tokens_f_kinds script_tokens_f_values script_f_letOfLetter x n i2 i3 w3_h w4_h w2_script_conditions_h g_script_conditions_a_steps g_script_conditions_a_values).2.2.2.1, .ref script_conditions_a_stack, .int script_conditions__height, .ref script_conditions_a_holding])), (script_conditions_a_steps, .inl (gI G, 2000, .inl (lp_Par_sum_14 fac script_tokens_f_kinds script_tokens_f_values script_f_letOfLetter x n i2 i3 w3_h w4_h w2_script_conditions_h g_script_conditions_a_steps g_script_conditions_a_values).2.2.2.2.1)), (script_conditions_a_values, .inl (gI G, 2000, .inl (lp_Par_sum_14 fac script_tokens_f_kinds script_tokens_f_values script_f_letOfLetter x n i2 i3 w3_h w4_h w2_script_conditions_h g_script_conditions_a_steps g_script_conditions_a_values).2.2.2.2.2)), (script_a_letOfLetter, .inl (gI G, 26, .inl script_f_letOfLetter))]) args s 0 0 A) (F0 m 14 ls []) := by
    intro n
    induction n with
    | zero => intro i2 i3 w3_h w4_h w2_script_conditions_h g_script_conditions_a_steps g_script_conditions_a_values hok; exact absurd hok (fun h => h)
    | succ n ih =>
      intro i2 i3 w3_h w4_h w2_script_conditions_h g_script_conditions_a_steps g_script_conditions_a_values hok H locs ls hP hD hS hl
      rw [oklp_Par_sum_14] at hok
      refine lv_iload_n hx hb d_Par_sum_14 rfl (lv_at hl 0 rfl) ?_
      refine lv_sipush (v := 2000) hx hb d_Par_sum_15 (by decide) ?_
      refine lv_icmp_ge (tgt := 120) hx hb d_Par_sum_18 (by decide) (fun c1 => ?_) (fun c1 => ?_)
      · skip
        rw [if_pos c1] at hok
        refine lv_iconst (v := 0) hx hb d_Par_sum_120 (by decide) ?_
        exact ly_zret hx hb hr hlocks hP hD hS d_Par_sum_121 (by decide) (by rw [lp_Par_sum_14, if_pos c1]) (by rw [lp_Par_sum_14, if_pos c1])
      rw [if_neg c1] at hok
      refine lv_aload_n hx hb d_Par_sum_21 rfl (lv_at hl 2 rfl) ?_
      obtain ⟨hv1, hok⟩ := hok
      obtain ⟨r1, hr1⟩ : ∃ r, (s_Par_kind script_tokens_f_kinds w3_h) = r := ⟨_, rfl⟩
      try simp only [hr1] at hok
      have hC_r1 := (c_Par_kind l G h script_h script_tokens_h script_tokens_a_kinds script_tokens_a_values script_tokens_a_places script_conditions_h script_tokens_f_kinds script_tokens__size w3_h w4_h hv1)
      rw [hr1] at hC_r1
      refine ly_callV (rest := []) (wf := [(h, .inr (11, [.ref script_h, .ref script_tokens_h, .ref script_conditions_h, .int w3_h, .int w4_h])), (script_h, .inr (10, [.ref script_tokens_h, .ref script_conditions_h, .ref script_a_questions, .int script__asked, .ref script_a_letStarts, .ref script_a_letEnds, .ref script_a_letOfLetter, .int script__lets])), (script_tokens_h, .inr (7, [.ref script_tokens_a_kinds, .ref script_tokens_a_values, .ref script_tokens_a_places, .int script_tokens__size])), (script_tokens_a_kinds, .inl (gI G, 2001, .inl script_tokens_f_kinds)), (script_tokens_a_values, .inl (gI G, 2001, .inl script_tokens_f_values)), (script_conditions_h, .inr (8, [.ref script_conditions_a_steps, .ref script_conditions_a_values, .int w2_script_conditions_h, .ref script_conditions_a_stack, .int script_conditions__height, .ref script_conditions_a_holding])), (script_conditions_a_steps, .inl (gI G, 2000, .inl g_script_conditions_a_steps)), (script_conditions_a_values, .inl (gI G, 2000, .inl g_script_conditions_a_values)), (script_a_letOfLetter, .inl (gI G, 26, .inl script_f_letOfLetter))]) ⟨hx, hb, hml, hown, hts⟩ hA hK hZ hP hD hS hC_r1 (cwV 0 hts g_Par_34 rfl rfl rfl (by decide +kernel) ⟨by simp only [rmD]; omega, by simp only [rmD]; omega⟩) (ci := 11) (q0 := 0) rfl rfl rfl [0, 2, 3] rfl (by decide) rfl rfl rfl hl.1 rfl (Nat.le_of_ble_eq_true rfl) d_Par_sum_22 ⟨Nat.le_of_ble_eq_true rfl, Nat.le_of_ble_eq_true rfl⟩ (st1 := [.int r1]) (c1 := 0) (s1 := 0) rfl rfl rfl (fun H locs hP hD hS => ?_)
      refine lv_istore (lv' := [(4, .int r1), (3, .int i3), (2, .int i2), (0, .ref h), (1, .int x)]) hx hb d_Par_sum_25 hl (by decide) rfl (fun ls hl => ?_)
      refine lv_iload_n hx hb d_Par_sum_27 rfl (lv_at hl 2 rfl) ?_
      refine lv_iconst (v := -1) hx hb d_Par_sum_28 (by decide) ?_
      refine lv_icmp_eq (tgt := 48) hx hb d_Par_sum_29 (by decide) (fun c2 => ?_) (fun c2 => ?_)
      · skip
        rw [if_pos c2] at hok
        refine lv_iload hx hb d_Par_sum_48 (lv_at hl 0 rfl) ?_
        refine lv_bipush (v := 25) hx hb d_Par_sum_50 (by decide) ?_
        refine lv_icmp_eq (tgt := 71) hx hb d_Par_sum_52 (by decide) (fun c3 => ?_) (fun c3 => ?_)
        · skip
          rw [if_pos c3] at hok
          refine lv_aload_n hx hb d_Par_sum_71 rfl (lv_at hl 3 rfl) ?_
          refine lv_dup hx hb d_Par_sum_72 rfl ?_
          refine va_get (D := G.1) (ci := 11) (C := R_Par) (T := F_Par) (N := 5) (v := .int w3_h) hx hb hts i_Par hown hK hP 0 rfl rfl 3 (by decide) (hts (.fieldLink R_Par 27 "PrivateQueries$Parser" "at" "I") k_129) (fun _ h9 => h9) rfl d_Par_sum_73 ?_
          refine lv_iconst (v := 1) hx hb d_Par_sum_76 (by decide) ?_
          refine lv_iadd hx hb d_Par_sum_77 ?_
          refine va_put (D := G.1) (ci := 11) (v := .int (w3_h + 1)) (ty := .int) (C := R_Par) (T := F_Par) (N := 5) hx hb hts i_Par t_Par t_Par_ok n_Par hown hK hP hD hS 0 rfl rfl 3 (by decide) (hts (.fieldLink R_Par 27 "PrivateQueries$Parser" "at" "I") k_129) (fun _ h9 => h9) rfl (by decide +kernel) rfl rfl (Nat.le_of_ble_eq_true rfl) d_Par_sum_78 (fun H locs hP hD hS => ?_)
          have hP : va_P G.1 classes [(h, .inr (11, [.ref script_h, .ref script_tokens_h, .ref script_conditions_h, .int (w3_h + 1), .int w4_h])), (script_h, .inr (10, [.ref script_tokens_h, .ref script_conditions_h, .ref script_a_questions, .int script__asked, .ref script_a_letStarts, .ref script_a_letEnds, .ref script_a_letOfLetter, .int script__lets])), (script_tokens_h, .inr (7, [.ref script_tokens_a_kinds, .ref script_tokens_a_values, .ref script_tokens_a_places, .int script_tokens__size])), (script_tokens_a_kinds, .inl (gI G, 2001, .inl script_tokens_f_kinds)), (script_tokens_a_values, .inl (gI G, 2001, .inl script_tokens_f_values)), (script_conditions_h, .inr (8, [.ref script_conditions_a_steps, .ref script_conditions_a_values, .int w2_script_conditions_h, .ref script_conditions_a_stack, .int script_conditions__height, .ref script_conditions_a_holding])), (script_conditions_a_steps, .inl (gI G, 2000, .inl g_script_conditions_a_steps)), (script_conditions_a_values, .inl (gI G, 2000, .inl g_script_conditions_a_values)), (script_a_letOfLetter, .inl (gI G, 26, .inl script_f_letOfLetter))] H := hP
          have hD : va_D A [(h, .inr (11, [.ref script_h, .ref script_tokens_h, .ref script_conditions_h, .int (w3_h + 1), .int w4_h])), (script_h, .inr (10, [.ref script_tokens_h, .ref script_conditions_h, .ref script_a_questions, .int script__asked, .ref script_a_letStarts, .ref script_a_letEnds, .ref script_a_letOfLetter, .int script__lets])), (script_tokens_h, .inr (7, [.ref script_tokens_a_kinds, .ref script_tokens_a_values, .ref script_tokens_a_places, .int script_tokens__size])), (script_tokens_a_kinds, .inl (gI G, 2001, .inl script_tokens_f_kinds)), (script_tokens_a_values, .inl (gI G, 2001, .inl script_tokens_f_values)), (script_conditions_h, .inr (8, [.ref script_conditions_a_steps, .ref script_conditions_a_values, .int w2_script_conditions_h, .ref script_conditions_a_stack, .int script_conditions__height, .ref script_conditions_a_holding])), (script_conditions_a_steps, .inl (gI G, 2000, .inl g_script_conditions_a_steps)), (script_conditions_a_values, .inl (gI G, 2000, .inl g_script_conditions_a_values)), (script_a_letOfLetter, .inl (gI G, 26, .inl script_f_letOfLetter))] := hD
          refine lv_aload_n hx hb d_Par_sum_81 rfl (lv_at hl 3 rfl) ?_
          refine lv_iload_n hx hb d_Par_sum_82 rfl (lv_at hl 4 rfl) ?_
          obtain ⟨hv2, hok⟩ := hok
          obtain ⟨r2, hr2⟩ : ∃ r, (fac script_tokens_f_kinds script_tokens_f_values g_script_conditions_a_steps g_script_conditions_a_values w2_script_conditions_h script_f_letOfLetter (w3_h + 1) w4_h x) = r := ⟨_, rfl⟩
          try simp only [hr2] at hok
          have hC_r2 := (hfac h script_h script_tokens_h script_tokens_a_kinds script_tokens_a_values script_tokens_a_places script_conditions_h script_conditions_a_steps script_conditions_a_values script_conditions_a_stack script_conditions_a_holding script_a_questions script_a_letStarts script_a_letEnds script_a_letOfLetter script_tokens_f_kinds script_tokens_f_values script_tokens__size g_script_conditions_a_steps g_script_conditions_a_values w2_script_conditions_h script_conditions__height script__asked script_f_letOfLetter script__lets (w3_h + 1) w4_h x hv2)
          rw [hr2] at hC_r2
          have hf_r2_1 : isB r2.1 := by rw [← hr2]; exact zfac
          have hc_ : ∀ (x0_ x1_ x2_ x3_ x4_ x5_ x6_ x7_ x8_ : Nat × va_E) (t_ : va_W), List.map (fun i => (x0_ :: x1_ :: x2_ :: x3_ :: x4_ :: x5_ :: x6_ :: x7_ :: x8_ :: t_)[i]?) [0, 1, 2, 3, 4, 5, 6, 7, 8] = List.map some [x0_, x1_, x2_, x3_, x4_, x5_, x6_, x7_, x8_] := fun _ _ _ _ _ _ _ _ _ _ => rfl
          have hf_ : ∀ (x0_ x1_ x2_ x3_ x4_ x5_ x6_ x7_ x8_ y0_ y1_ y2_ y3_ y4_ y5_ y6_ y7_ y8_ : Nat × va_E) (t_ : va_W), setAll (x0_ :: x1_ :: x2_ :: x3_ :: x4_ :: x5_ :: x6_ :: x7_ :: x8_ :: t_) [0, 1, 2, 3, 4, 5, 6, 7, 8] [y0_, y1_, y2_, y3_, y4_, y5_, y6_, y7_, y8_] = y0_ :: y1_ :: y2_ :: y3_ :: y4_ :: y5_ :: y6_ :: y7_ :: y8_ :: t_ := fun _ _ _ _ _ _ _ _ _ _ _ _ _ _ _ _ _ _ _ => Eq.trans (setAll_M (bs := [true, true, true, true, true, true, true, true, true]) trivial rfl) rfl
          refine ly_callV (rest := []) (wf := [(h, .inr (11, [.ref script_h, .ref script_tokens_h, .ref script_conditions_h, .int r2.2.1, .int r2.2.2.1])), (script_h, .inr (10, [.ref script_tokens_h, .ref script_conditions_h, .ref script_a_questions, .int script__asked, .ref script_a_letStarts, .ref script_a_letEnds, .ref script_a_letOfLetter, .int script__lets])), (script_tokens_h, .inr (7, [.ref script_tokens_a_kinds, .ref script_tokens_a_values, .ref script_tokens_a_places, .int script_tokens__size])), (script_tokens_a_kinds, .inl (gI G, 2001, .inl script_tokens_f_kinds)), (script_tokens_a_values, .inl (gI G, 2001, .inl script_tokens_f_values)), (script_conditions_h, .inr (8, [.ref script_conditions_a_steps, .ref script_conditions_a_values, .int r2.2.2.2.1, .ref script_conditions_a_stack, .int script_conditions__height, .ref script_conditions_a_holding])), (script_conditions_a_steps, .inl (gI G, 2000, .inl r2.2.2.2.2.1)), (script_conditions_a_values, .inl (gI G, 2000, .inl r2.2.2.2.2.2)), (script_a_letOfLetter, .inl (gI G, 26, .inl script_f_letOfLetter))]) ⟨hx, hb, hml, hown, hts⟩ hA hK hZ hP hD hS hC_r2 (cwV 1 hts g_Par_155 rfl rfl rfl (by decide +kernel) ⟨by simp only [rmD]; omega, by simp only [rmD]; omega⟩) (ci := 11) (q0 := 0) rfl rfl rfl [0, 1, 2, 3, 4, 5, 6, 7, 8] (hc_ _ _ _ _ _ _ _ _ _ _) (by decide) rfl (hf_ _ _ _ _ _ _ _ _ _ _ _ _ _ _ _ _ _ _ _) rfl hl.1 rfl (Nat.le_of_ble_eq_true rfl) d_Par_sum_83 ⟨Nat.le_of_ble_eq_true rfl, Nat.le_of_ble_eq_true rfl⟩ (st1 := [.int r2.1]) (c1 := 0) (s1 := 0) rfl rfl rfl (fun H locs hP hD hS => ?_)
          refine lv_if_ne (tgt := 91) hx hb d_Par_sum_86 (by decide) (fun c4 => ?_) (fun c4 => ?_)
          · skip
            rw [if_neg c4] at hok
            refine lv_iload hx hb d_Par_sum_91 (lv_at hl 0 rfl) ?_
            refine lv_bipush (v := 25) hx hb d_Par_sum_93 (by decide) ?_
            refine lv_icmp_ne (tgt := 111) hx hb d_Par_sum_95 (by decide) (fun c5 => ?_) (fun c5 => ?_)
            · skip
              rw [if_neg c5] at hok
              refine lv_iload hx hb d_Par_sum_111 (lv_at hl 0 rfl) ?_
              refine lv_istore_n (lv' := [(2, .int r1), (4, .int r1), (3, .int i3), (0, .ref h), (1, .int x)]) hx hb d_Par_sum_113 rfl hl (by decide) rfl (fun ls hl => ?_)
              refine lv_iinc (v := i3 + 1) (lv' := [(3, .int (i3 + 1)), (2, .int r1), (4, .int r1), (0, .ref h), (1, .int x)]) hx hb d_Par_sum_114 hl (k := 2) rfl (by rfl) (by decide) rfl (fun ls hl => ?_)
              refine lv_goto (tgt := 14) hx hb d_Par_sum_117 (by decide) ?_
              have e_ : (lp_Par_sum_14 fac script_tokens_f_kinds script_tokens_f_values script_f_letOfLetter x (n + 1) i2 i3 w3_h w4_h w2_script_conditions_h g_script_conditions_a_steps g_script_conditions_a_values) = (lp_Par_sum_14 fac script_tokens_f_kinds script_tokens_f_values script_f_letOfLetter x n r1 (i3 + 1) r2.2.1 r2.2.2.1 r2.2.2.2.1 r2.2.2.2.2.1 r2.2.2.2.2.2) := (by rw [lp_Par_sum_14] <;> simp only [hr1, hr2] <;> rw [if_neg c1, if_pos c2, if_pos c3, if_neg c4, if_neg c5])
              rw [e_]
              exact ih r1 (i3 + 1) r2.2.1 r2.2.2.1 r2.2.2.2.1 r2.2.2.2.2.1 r2.2.2.2.2.2 hok _ _ _ hP hD hS (lv_sub hl [0, 1, 3, 4] rfl)
            rw [if_pos c5] at hok
            refine lv_aload_n hx hb d_Par_sum_98 rfl (lv_at hl 3 rfl) ?_
            refine va_get (D := G.1) (ci := 11) (C := R_Par) (T := F_Par) (N := 5) (v := .ref script_conditions_h) hx hb hts i_Par hown hK hP 0 rfl rfl 2 (by decide) (hts (.fieldLink R_Par 26 "PrivateQueries$Parser" "conditions" "LPrivateQueries$Conditions;") k_755) (fun _ h9 => h9) rfl d_Par_sum_99 ?_
            refine lv_bipush (v := 25) hx hb d_Par_sum_102 (by decide) ?_
            refine lv_iconst (v := 0) hx hb d_Par_sum_104 (by decide) ?_
            obtain ⟨hv3, hok⟩ := hok
            obtain ⟨r3, hr3⟩ : ∃ r, (s_Cond_add r2.2.2.2.2.1 r2.2.2.2.2.2 r2.2.2.2.1 25 0) = r := ⟨_, rfl⟩
            try simp only [hr3] at hok
            have hC_r3 := (c_Cond_add l G script_conditions_h script_conditions_a_steps script_conditions_a_values script_conditions_a_stack script_conditions_a_holding r2.2.2.2.2.1 r2.2.2.2.2.2 r2.2.2.2.1 script_conditions__height 25 0 hv3)
            rw [hr3] at hC_r3
            refine ly_callV (rest := []) (wf := [(h, .inr (11, [.ref script_h, .ref script_tokens_h, .ref script_conditions_h, .int r2.2.1, .int r2.2.2.1])), (script_h, .inr (10, [.ref script_tokens_h, .ref script_conditions_h, .ref script_a_questions, .int script__asked, .ref script_a_letStarts, .ref script_a_letEnds, .ref script_a_letOfLetter, .int script__lets])), (script_tokens_h, .inr (7, [.ref script_tokens_a_kinds, .ref script_tokens_a_values, .ref script_tokens_a_places, .int script_tokens__size])), (script_tokens_a_kinds, .inl (gI G, 2001, .inl script_tokens_f_kinds)), (script_tokens_a_values, .inl (gI G, 2001, .inl script_tokens_f_values)), (script_conditions_h, .inr (8, [.ref script_conditions_a_steps, .ref script_conditions_a_values, .int r3.1, .ref script_conditions_a_stack, .int script_conditions__height, .ref script_conditions_a_holding])), (script_conditions_a_steps, .inl (gI G, 2000, .inl r3.2.1)), (script_conditions_a_values, .inl (gI G, 2000, .inl r3.2.2)), (script_a_letOfLetter, .inl (gI G, 26, .inl script_f_letOfLetter))]) ⟨hx, hb, hml, hown, hts⟩ hA hK hZ hP hD hS hC_r3 (cwV 2 hts g_Par_143 rfl rfl rfl (by decide +kernel) ⟨by simp only [rmD]; omega, by simp only [rmD]; omega⟩) (ci := 8) (q0 := 5) rfl rfl rfl [5, 6, 7] rfl (by decide) rfl rfl rfl hl.1 rfl (Nat.le_of_ble_eq_true rfl) d_Par_sum_105 ⟨Nat.le_of_ble_eq_true rfl, Nat.le_of_ble_eq_true rfl⟩ (st1 := []) (c1 := 0) (s1 := 0) rfl rfl rfl (fun H locs hP hD hS => ?_)
            refine lv_goto (tgt := 114) hx hb d_Par_sum_108 (by decide) ?_
            refine lv_iinc (v := i3 + 1) (lv' := [(3, .int (i3 + 1)), (4, .int r1), (2, .int i2), (0, .ref h), (1, .int x)]) hx hb d_Par_sum_114 hl (k := 1) rfl (by rfl) (by decide) rfl (fun ls hl => ?_)
            refine lv_goto (tgt := 14) hx hb d_Par_sum_117 (by decide) ?_
            have e_ : (lp_Par_sum_14 fac script_tokens_f_kinds script_tokens_f_values script_f_letOfLetter x (n + 1) i2 i3 w3_h w4_h w2_script_conditions_h g_script_conditions_a_steps g_script_conditions_a_values) = (lp_Par_sum_14 fac script_tokens_f_kinds script_tokens_f_values script_f_letOfLetter x n i2 (i3 + 1) r2.2.1 r2.2.2.1 r3.1 r3.2.1 r3.2.2) := (by rw [lp_Par_sum_14] <;> simp only [hr1, hr2, hr3] <;> rw [if_neg c1, if_pos c2, if_pos c3, if_neg c4, if_pos c5])
            rw [e_]
            exact ih i2 (i3 + 1) r2.2.1 r2.2.2.1 r3.1 r3.2.1 r3.2.2 hok _ _ _ hP hD hS (lv_sub hl [0, 2, 3, 4] rfl)
          rw [if_pos c4] at hok
          refine lv_iconst (v := 0) hx hb d_Par_sum_89 (by decide) ?_
          exact ly_zret hx hb hr hlocks hP hD hS d_Par_sum_90 (by decide) (by rw [lp_Par_sum_14] <;> simp only [hr1, hr2] <;> rw [if_neg c1, if_pos c2, if_pos c3, if_pos c4]) (by rw [lp_Par_sum_14] <;> simp only [hr1, hr2] <;> rw [if_neg c1, if_pos c2, if_pos c3, if_pos c4])
        rw [if_neg c3] at hok
        refine lv_iload hx hb d_Par_sum_55 (lv_at hl 0 rfl) ?_
        refine lv_bipush (v := 23) hx hb d_Par_sum_57 (by decide) ?_
        refine lv_icmp_eq (tgt := 71) hx hb d_Par_sum_59 (by decide) (fun c6 => ?_) (fun c6 => ?_)
        · skip
          rw [if_pos c6] at hok
          refine lv_aload_n hx hb d_Par_sum_71 rfl (lv_at hl 3 rfl) ?_
          refine lv_dup hx hb d_Par_sum_72 rfl ?_
          refine va_get (D := G.1) (ci := 11) (C := R_Par) (T := F_Par) (N := 5) (v := .int w3_h) hx hb hts i_Par hown hK hP 0 rfl rfl 3 (by decide) (hts (.fieldLink R_Par 27 "PrivateQueries$Parser" "at" "I") k_129) (fun _ h9 => h9) rfl d_Par_sum_73 ?_
          refine lv_iconst (v := 1) hx hb d_Par_sum_76 (by decide) ?_
          refine lv_iadd hx hb d_Par_sum_77 ?_
          refine va_put (D := G.1) (ci := 11) (v := .int (w3_h + 1)) (ty := .int) (C := R_Par) (T := F_Par) (N := 5) hx hb hts i_Par t_Par t_Par_ok n_Par hown hK hP hD hS 0 rfl rfl 3 (by decide) (hts (.fieldLink R_Par 27 "PrivateQueries$Parser" "at" "I") k_129) (fun _ h9 => h9) rfl (by decide +kernel) rfl rfl (Nat.le_of_ble_eq_true rfl) d_Par_sum_78 (fun H locs hP hD hS => ?_)
          have hP : va_P G.1 classes [(h, .inr (11, [.ref script_h, .ref script_tokens_h, .ref script_conditions_h, .int (w3_h + 1), .int w4_h])), (script_h, .inr (10, [.ref script_tokens_h, .ref script_conditions_h, .ref script_a_questions, .int script__asked, .ref script_a_letStarts, .ref script_a_letEnds, .ref script_a_letOfLetter, .int script__lets])), (script_tokens_h, .inr (7, [.ref script_tokens_a_kinds, .ref script_tokens_a_values, .ref script_tokens_a_places, .int script_tokens__size])), (script_tokens_a_kinds, .inl (gI G, 2001, .inl script_tokens_f_kinds)), (script_tokens_a_values, .inl (gI G, 2001, .inl script_tokens_f_values)), (script_conditions_h, .inr (8, [.ref script_conditions_a_steps, .ref script_conditions_a_values, .int w2_script_conditions_h, .ref script_conditions_a_stack, .int script_conditions__height, .ref script_conditions_a_holding])), (script_conditions_a_steps, .inl (gI G, 2000, .inl g_script_conditions_a_steps)), (script_conditions_a_values, .inl (gI G, 2000, .inl g_script_conditions_a_values)), (script_a_letOfLetter, .inl (gI G, 26, .inl script_f_letOfLetter))] H := hP
          have hD : va_D A [(h, .inr (11, [.ref script_h, .ref script_tokens_h, .ref script_conditions_h, .int (w3_h + 1), .int w4_h])), (script_h, .inr (10, [.ref script_tokens_h, .ref script_conditions_h, .ref script_a_questions, .int script__asked, .ref script_a_letStarts, .ref script_a_letEnds, .ref script_a_letOfLetter, .int script__lets])), (script_tokens_h, .inr (7, [.ref script_tokens_a_kinds, .ref script_tokens_a_values, .ref script_tokens_a_places, .int script_tokens__size])), (script_tokens_a_kinds, .inl (gI G, 2001, .inl script_tokens_f_kinds)), (script_tokens_a_values, .inl (gI G, 2001, .inl script_tokens_f_values)), (script_conditions_h, .inr (8, [.ref script_conditions_a_steps, .ref script_conditions_a_values, .int w2_script_conditions_h, .ref script_conditions_a_stack, .int script_conditions__height, .ref script_conditions_a_holding])), (script_conditions_a_steps, .inl (gI G, 2000, .inl g_script_conditions_a_steps)), (script_conditions_a_values, .inl (gI G, 2000, .inl g_script_conditions_a_values)), (script_a_letOfLetter, .inl (gI G, 26, .inl script_f_letOfLetter))] := hD
          refine lv_aload_n hx hb d_Par_sum_81 rfl (lv_at hl 3 rfl) ?_
          refine lv_iload_n hx hb d_Par_sum_82 rfl (lv_at hl 4 rfl) ?_
          obtain ⟨hv4, hok⟩ := hok
          obtain ⟨r4, hr4⟩ : ∃ r, (fac script_tokens_f_kinds script_tokens_f_values g_script_conditions_a_steps g_script_conditions_a_values w2_script_conditions_h script_f_letOfLetter (w3_h + 1) w4_h x) = r := ⟨_, rfl⟩
          try simp only [hr4] at hok
          have hC_r4 := (hfac h script_h script_tokens_h script_tokens_a_kinds script_tokens_a_values script_tokens_a_places script_conditions_h script_conditions_a_steps script_conditions_a_values script_conditions_a_stack script_conditions_a_holding script_a_questions script_a_letStarts script_a_letEnds script_a_letOfLetter script_tokens_f_kinds script_tokens_f_values script_tokens__size g_script_conditions_a_steps g_script_conditions_a_values w2_script_conditions_h script_conditions__height script__asked script_f_letOfLetter script__lets (w3_h + 1) w4_h x hv4)
          rw [hr4] at hC_r4
          have hf_r4_1 : isB r4.1 := by rw [← hr4]; exact zfac
          have hc_ : ∀ (x0_ x1_ x2_ x3_ x4_ x5_ x6_ x7_ x8_ : Nat × va_E) (t_ : va_W), List.map (fun i => (x0_ :: x1_ :: x2_ :: x3_ :: x4_ :: x5_ :: x6_ :: x7_ :: x8_ :: t_)[i]?) [0, 1, 2, 3, 4, 5, 6, 7, 8] = List.map some [x0_, x1_, x2_, x3_, x4_, x5_, x6_, x7_, x8_] := fun _ _ _ _ _ _ _ _ _ _ => rfl
          have hf_ : ∀ (x0_ x1_ x2_ x3_ x4_ x5_ x6_ x7_ x8_ y0_ y1_ y2_ y3_ y4_ y5_ y6_ y7_ y8_ : Nat × va_E) (t_ : va_W), setAll (x0_ :: x1_ :: x2_ :: x3_ :: x4_ :: x5_ :: x6_ :: x7_ :: x8_ :: t_) [0, 1, 2, 3, 4, 5, 6, 7, 8] [y0_, y1_, y2_, y3_, y4_, y5_, y6_, y7_, y8_] = y0_ :: y1_ :: y2_ :: y3_ :: y4_ :: y5_ :: y6_ :: y7_ :: y8_ :: t_ := fun _ _ _ _ _ _ _ _ _ _ _ _ _ _ _ _ _ _ _ => Eq.trans (setAll_M (bs := [true, true, true, true, true, true, true, true, true]) trivial rfl) rfl
          refine ly_callV (rest := []) (wf := [(h, .inr (11, [.ref script_h, .ref script_tokens_h, .ref script_conditions_h, .int r4.2.1, .int r4.2.2.1])), (script_h, .inr (10, [.ref script_tokens_h, .ref script_conditions_h, .ref script_a_questions, .int script__asked, .ref script_a_letStarts, .ref script_a_letEnds, .ref script_a_letOfLetter, .int script__lets])), (script_tokens_h, .inr (7, [.ref script_tokens_a_kinds, .ref script_tokens_a_values, .ref script_tokens_a_places, .int script_tokens__size])), (script_tokens_a_kinds, .inl (gI G, 2001, .inl script_tokens_f_kinds)), (script_tokens_a_values, .inl (gI G, 2001, .inl script_tokens_f_values)), (script_conditions_h, .inr (8, [.ref script_conditions_a_steps, .ref script_conditions_a_values, .int r4.2.2.2.1, .ref script_conditions_a_stack, .int script_conditions__height, .ref script_conditions_a_holding])), (script_conditions_a_steps, .inl (gI G, 2000, .inl r4.2.2.2.2.1)), (script_conditions_a_values, .inl (gI G, 2000, .inl r4.2.2.2.2.2)), (script_a_letOfLetter, .inl (gI G, 26, .inl script_f_letOfLetter))]) ⟨hx, hb, hml, hown, hts⟩ hA hK hZ hP hD hS hC_r4 (cwV 1 hts g_Par_155 rfl rfl rfl (by decide +kernel) ⟨by simp only [rmD]; omega, by simp only [rmD]; omega⟩) (ci := 11) (q0 := 0) rfl rfl rfl [0, 1, 2, 3, 4, 5, 6, 7, 8] (hc_ _ _ _ _ _ _ _ _ _ _) (by decide) rfl (hf_ _ _ _ _ _ _ _ _ _ _ _ _ _ _ _ _ _ _ _) rfl hl.1 rfl (Nat.le_of_ble_eq_true rfl) d_Par_sum_83 ⟨Nat.le_of_ble_eq_true rfl, Nat.le_of_ble_eq_true rfl⟩ (st1 := [.int r4.1]) (c1 := 0) (s1 := 0) rfl rfl rfl (fun H locs hP hD hS => ?_)
          refine lv_if_ne (tgt := 91) hx hb d_Par_sum_86 (by decide) (fun c7 => ?_) (fun c7 => ?_)
          · skip
            rw [if_neg c7] at hok
            refine lv_iload hx hb d_Par_sum_91 (lv_at hl 0 rfl) ?_
            refine lv_bipush (v := 25) hx hb d_Par_sum_93 (by decide) ?_
            refine lv_icmp_ne (tgt := 111) hx hb d_Par_sum_95 (by decide) (fun c8 => ?_) (fun c8 => ?_)
            · skip
              rw [if_neg c8] at hok
              refine lv_iload hx hb d_Par_sum_111 (lv_at hl 0 rfl) ?_
              refine lv_istore_n (lv' := [(2, .int r1), (4, .int r1), (3, .int i3), (0, .ref h), (1, .int x)]) hx hb d_Par_sum_113 rfl hl (by decide) rfl (fun ls hl => ?_)
              refine lv_iinc (v := i3 + 1) (lv' := [(3, .int (i3 + 1)), (2, .int r1), (4, .int r1), (0, .ref h), (1, .int x)]) hx hb d_Par_sum_114 hl (k := 2) rfl (by rfl) (by decide) rfl (fun ls hl => ?_)
              refine lv_goto (tgt := 14) hx hb d_Par_sum_117 (by decide) ?_
              have e_ : (lp_Par_sum_14 fac script_tokens_f_kinds script_tokens_f_values script_f_letOfLetter x (n + 1) i2 i3 w3_h w4_h w2_script_conditions_h g_script_conditions_a_steps g_script_conditions_a_values) = (lp_Par_sum_14 fac script_tokens_f_kinds script_tokens_f_values script_f_letOfLetter x n r1 (i3 + 1) r4.2.1 r4.2.2.1 r4.2.2.2.1 r4.2.2.2.2.1 r4.2.2.2.2.2) := (by rw [lp_Par_sum_14] <;> simp only [hr1, hr4] <;> rw [if_neg c1, if_pos c2, if_neg c3, if_pos c6, if_neg c7, if_neg c8])
              rw [e_]
              exact ih r1 (i3 + 1) r4.2.1 r4.2.2.1 r4.2.2.2.1 r4.2.2.2.2.1 r4.2.2.2.2.2 hok _ _ _ hP hD hS (lv_sub hl [0, 1, 3, 4] rfl)
            rw [if_pos c8] at hok
            refine lv_aload_n hx hb d_Par_sum_98 rfl (lv_at hl 3 rfl) ?_
            refine va_get (D := G.1) (ci := 11) (C := R_Par) (T := F_Par) (N := 5) (v := .ref script_conditions_h) hx hb hts i_Par hown hK hP 0 rfl rfl 2 (by decide) (hts (.fieldLink R_Par 26 "PrivateQueries$Parser" "conditions" "LPrivateQueries$Conditions;") k_755) (fun _ h9 => h9) rfl d_Par_sum_99 ?_
            refine lv_bipush (v := 25) hx hb d_Par_sum_102 (by decide) ?_
            refine lv_iconst (v := 0) hx hb d_Par_sum_104 (by decide) ?_
            obtain ⟨hv5, hok⟩ := hok
            obtain ⟨r5, hr5⟩ : ∃ r, (s_Cond_add r4.2.2.2.2.1 r4.2.2.2.2.2 r4.2.2.2.1 25 0) = r := ⟨_, rfl⟩
            try simp only [hr5] at hok
            have hC_r5 := (c_Cond_add l G script_conditions_h script_conditions_a_steps script_conditions_a_values script_conditions_a_stack script_conditions_a_holding r4.2.2.2.2.1 r4.2.2.2.2.2 r4.2.2.2.1 script_conditions__height 25 0 hv5)
            rw [hr5] at hC_r5
            refine ly_callV (rest := []) (wf := [(h, .inr (11, [.ref script_h, .ref script_tokens_h, .ref script_conditions_h, .int r4.2.1, .int r4.2.2.1])), (script_h, .inr (10, [.ref script_tokens_h, .ref script_conditions_h, .ref script_a_questions, .int script__asked, .ref script_a_letStarts, .ref script_a_letEnds, .ref script_a_letOfLetter, .int script__lets])), (script_tokens_h, .inr (7, [.ref script_tokens_a_kinds, .ref script_tokens_a_values, .ref script_tokens_a_places, .int script_tokens__size])), (script_tokens_a_kinds, .inl (gI G, 2001, .inl script_tokens_f_kinds)), (script_tokens_a_values, .inl (gI G, 2001, .inl script_tokens_f_values)), (script_conditions_h, .inr (8, [.ref script_conditions_a_steps, .ref script_conditions_a_values, .int r5.1, .ref script_conditions_a_stack, .int script_conditions__height, .ref script_conditions_a_holding])), (script_conditions_a_steps, .inl (gI G, 2000, .inl r5.2.1)), (script_conditions_a_values, .inl (gI G, 2000, .inl r5.2.2)), (script_a_letOfLetter, .inl (gI G, 26, .inl script_f_letOfLetter))]) ⟨hx, hb, hml, hown, hts⟩ hA hK hZ hP hD hS hC_r5 (cwV 2 hts g_Par_143 rfl rfl rfl (by decide +kernel) ⟨by simp only [rmD]; omega, by simp only [rmD]; omega⟩) (ci := 8) (q0 := 5) rfl rfl rfl [5, 6, 7] rfl (by decide) rfl rfl rfl hl.1 rfl (Nat.le_of_ble_eq_true rfl) d_Par_sum_105 ⟨Nat.le_of_ble_eq_true rfl, Nat.le_of_ble_eq_true rfl⟩ (st1 := []) (c1 := 0) (s1 := 0) rfl rfl rfl (fun H locs hP hD hS => ?_)
            refine lv_goto (tgt := 114) hx hb d_Par_sum_108 (by decide) ?_
            refine lv_iinc (v := i3 + 1) (lv' := [(3, .int (i3 + 1)), (4, .int r1), (2, .int i2), (0, .ref h), (1, .int x)]) hx hb d_Par_sum_114 hl (k := 1) rfl (by rfl) (by decide) rfl (fun ls hl => ?_)
            refine lv_goto (tgt := 14) hx hb d_Par_sum_117 (by decide) ?_
            have e_ : (lp_Par_sum_14 fac script_tokens_f_kinds script_tokens_f_values script_f_letOfLetter x (n + 1) i2 i3 w3_h w4_h w2_script_conditions_h g_script_conditions_a_steps g_script_conditions_a_values) = (lp_Par_sum_14 fac script_tokens_f_kinds script_tokens_f_values script_f_letOfLetter x n i2 (i3 + 1) r4.2.1 r4.2.2.1 r5.1 r5.2.1 r5.2.2) := (by rw [lp_Par_sum_14] <;> simp only [hr1, hr4, hr5] <;> rw [if_neg c1, if_pos c2, if_neg c3, if_pos c6, if_neg c7, if_pos c8])
            rw [e_]
            exact ih i2 (i3 + 1) r4.2.1 r4.2.2.1 r5.1 r5.2.1 r5.2.2 hok _ _ _ hP hD hS (lv_sub hl [0, 2, 3, 4] rfl)
          rw [if_pos c7] at hok
          refine lv_iconst (v := 0) hx hb d_Par_sum_89 (by decide) ?_
          exact ly_zret hx hb hr hlocks hP hD hS d_Par_sum_90 (by decide) (by rw [lp_Par_sum_14] <;> simp only [hr1, hr4] <;> rw [if_neg c1, if_pos c2, if_neg c3, if_pos c6, if_pos c7]) (by rw [lp_Par_sum_14] <;> simp only [hr1, hr4] <;> rw [if_neg c1, if_pos c2, if_neg c3, if_pos c6, if_pos c7])
        rw [if_neg c6] at hok
        refine lv_iload hx hb d_Par_sum_62 (lv_at hl 0 rfl) ?_
        refine lv_bipush (v := 24) hx hb d_Par_sum_64 (by decide) ?_
        refine lv_icmp_eq (tgt := 71) hx hb d_Par_sum_66 (by decide) (fun c9 => ?_) (fun c9 => ?_)
        · skip
          rw [if_pos c9] at hok
          refine lv_aload_n hx hb d_Par_sum_71 rfl (lv_at hl 3 rfl) ?_
          refine lv_dup hx hb d_Par_sum_72 rfl ?_
          refine va_get (D := G.1) (ci := 11) (C := R_Par) (T := F_Par) (N := 5) (v := .int w3_h) hx hb hts i_Par hown hK hP 0 rfl rfl 3 (by decide) (hts (.fieldLink R_Par 27 "PrivateQueries$Parser" "at" "I") k_129) (fun _ h9 => h9) rfl d_Par_sum_73 ?_
          refine lv_iconst (v := 1) hx hb d_Par_sum_76 (by decide) ?_
          refine lv_iadd hx hb d_Par_sum_77 ?_
          refine va_put (D := G.1) (ci := 11) (v := .int (w3_h + 1)) (ty := .int) (C := R_Par) (T := F_Par) (N := 5) hx hb hts i_Par t_Par t_Par_ok n_Par hown hK hP hD hS 0 rfl rfl 3 (by decide) (hts (.fieldLink R_Par 27 "PrivateQueries$Parser" "at" "I") k_129) (fun _ h9 => h9) rfl (by decide +kernel) rfl rfl (Nat.le_of_ble_eq_true rfl) d_Par_sum_78 (fun H locs hP hD hS => ?_)
          have hP : va_P G.1 classes [(h, .inr (11, [.ref script_h, .ref script_tokens_h, .ref script_conditions_h, .int (w3_h + 1), .int w4_h])), (script_h, .inr (10, [.ref script_tokens_h, .ref script_conditions_h, .ref script_a_questions, .int script__asked, .ref script_a_letStarts, .ref script_a_letEnds, .ref script_a_letOfLetter, .int script__lets])), (script_tokens_h, .inr (7, [.ref script_tokens_a_kinds, .ref script_tokens_a_values, .ref script_tokens_a_places, .int script_tokens__size])), (script_tokens_a_kinds, .inl (gI G, 2001, .inl script_tokens_f_kinds)), (script_tokens_a_values, .inl (gI G, 2001, .inl script_tokens_f_values)), (script_conditions_h, .inr (8, [.ref script_conditions_a_steps, .ref script_conditions_a_values, .int w2_script_conditions_h, .ref script_conditions_a_stack, .int script_conditions__height, .ref script_conditions_a_holding])), (script_conditions_a_steps, .inl (gI G, 2000, .inl g_script_conditions_a_steps)), (script_conditions_a_values, .inl (gI G, 2000, .inl g_script_conditions_a_values)), (script_a_letOfLetter, .inl (gI G, 26, .inl script_f_letOfLetter))] H := hP
          have hD : va_D A [(h, .inr (11, [.ref script_h, .ref script_tokens_h, .ref script_conditions_h, .int (w3_h + 1), .int w4_h])), (script_h, .inr (10, [.ref script_tokens_h, .ref script_conditions_h, .ref script_a_questions, .int script__asked, .ref script_a_letStarts, .ref script_a_letEnds, .ref script_a_letOfLetter, .int script__lets])), (script_tokens_h, .inr (7, [.ref script_tokens_a_kinds, .ref script_tokens_a_values, .ref script_tokens_a_places, .int script_tokens__size])), (script_tokens_a_kinds, .inl (gI G, 2001, .inl script_tokens_f_kinds)), (script_tokens_a_values, .inl (gI G, 2001, .inl script_tokens_f_values)), (script_conditions_h, .inr (8, [.ref script_conditions_a_steps, .ref script_conditions_a_values, .int w2_script_conditions_h, .ref script_conditions_a_stack, .int script_conditions__height, .ref script_conditions_a_holding])), (script_conditions_a_steps, .inl (gI G, 2000, .inl g_script_conditions_a_steps)), (script_conditions_a_values, .inl (gI G, 2000, .inl g_script_conditions_a_values)), (script_a_letOfLetter, .inl (gI G, 26, .inl script_f_letOfLetter))] := hD
          refine lv_aload_n hx hb d_Par_sum_81 rfl (lv_at hl 3 rfl) ?_
          refine lv_iload_n hx hb d_Par_sum_82 rfl (lv_at hl 4 rfl) ?_
          obtain ⟨hv6, hok⟩ := hok
          obtain ⟨r6, hr6⟩ : ∃ r, (fac script_tokens_f_kinds script_tokens_f_values g_script_conditions_a_steps g_script_conditions_a_values w2_script_conditions_h script_f_letOfLetter (w3_h + 1) w4_h x) = r := ⟨_, rfl⟩
          try simp only [hr6] at hok
          have hC_r6 := (hfac h script_h script_tokens_h script_tokens_a_kinds script_tokens_a_values script_tokens_a_places script_conditions_h script_conditions_a_steps script_conditions_a_values script_conditions_a_stack script_conditions_a_holding script_a_questions script_a_letStarts script_a_letEnds script_a_letOfLetter script_tokens_f_kinds script_tokens_f_values script_tokens__size g_script_conditions_a_steps g_script_conditions_a_values w2_script_conditions_h script_conditions__height script__asked script_f_letOfLetter script__lets (w3_h + 1) w4_h x hv6)
          rw [hr6] at hC_r6
          have hf_r6_1 : isB r6.1 := by rw [← hr6]; exact zfac
          have hc_ : ∀ (x0_ x1_ x2_ x3_ x4_ x5_ x6_ x7_ x8_ : Nat × va_E) (t_ : va_W), List.map (fun i => (x0_ :: x1_ :: x2_ :: x3_ :: x4_ :: x5_ :: x6_ :: x7_ :: x8_ :: t_)[i]?) [0, 1, 2, 3, 4, 5, 6, 7, 8] = List.map some [x0_, x1_, x2_, x3_, x4_, x5_, x6_, x7_, x8_] := fun _ _ _ _ _ _ _ _ _ _ => rfl
          have hf_ : ∀ (x0_ x1_ x2_ x3_ x4_ x5_ x6_ x7_ x8_ y0_ y1_ y2_ y3_ y4_ y5_ y6_ y7_ y8_ : Nat × va_E) (t_ : va_W), setAll (x0_ :: x1_ :: x2_ :: x3_ :: x4_ :: x5_ :: x6_ :: x7_ :: x8_ :: t_) [0, 1, 2, 3, 4, 5, 6, 7, 8] [y0_, y1_, y2_, y3_, y4_, y5_, y6_, y7_, y8_] = y0_ :: y1_ :: y2_ :: y3_ :: y4_ :: y5_ :: y6_ :: y7_ :: y8_ :: t_ := fun _ _ _ _ _ _ _ _ _ _ _ _ _ _ _ _ _ _ _ => Eq.trans (setAll_M (bs := [true, true, true, true, true, true, true, true, true]) trivial rfl) rfl
          refine ly_callV (rest := []) (wf := [(h, .inr (11, [.ref script_h, .ref script_tokens_h, .ref script_conditions_h, .int r6.2.1, .int r6.2.2.1])), (script_h, .inr (10, [.ref script_tokens_h, .ref script_conditions_h, .ref script_a_questions, .int script__asked, .ref script_a_letStarts, .ref script_a_letEnds, .ref script_a_letOfLetter, .int script__lets])), (script_tokens_h, .inr (7, [.ref script_tokens_a_kinds, .ref script_tokens_a_values, .ref script_tokens_a_places, .int script_tokens__size])), (script_tokens_a_kinds, .inl (gI G, 2001, .inl script_tokens_f_kinds)), (script_tokens_a_values, .inl (gI G, 2001, .inl script_tokens_f_values)), (script_conditions_h, .inr (8, [.ref script_conditions_a_steps, .ref script_conditions_a_values, .int r6.2.2.2.1, .ref script_conditions_a_stack, .int script_conditions__height, .ref script_conditions_a_holding])), (script_conditions_a_steps, .inl (gI G, 2000, .inl r6.2.2.2.2.1)), (script_conditions_a_values, .inl (gI G, 2000, .inl r6.2.2.2.2.2)), (script_a_letOfLetter, .inl (gI G, 26, .inl script_f_letOfLetter))]) ⟨hx, hb, hml, hown, hts⟩ hA hK hZ hP hD hS hC_r6 (cwV 1 hts g_Par_155 rfl rfl rfl (by decide +kernel) ⟨by simp only [rmD]; omega, by simp only [rmD]; omega⟩) (ci := 11) (q0 := 0) rfl rfl rfl [0, 1, 2, 3, 4, 5, 6, 7, 8] (hc_ _ _ _ _ _ _ _ _ _ _) (by decide) rfl (hf_ _ _ _ _ _ _ _ _ _ _ _ _ _ _ _ _ _ _ _) rfl hl.1 rfl (Nat.le_of_ble_eq_true rfl) d_Par_sum_83 ⟨Nat.le_of_ble_eq_true rfl, Nat.le_of_ble_eq_true rfl⟩ (st1 := [.int r6.1]) (c1 := 0) (s1 := 0) rfl rfl rfl (fun H locs hP hD hS => ?_)
          refine lv_if_ne (tgt := 91) hx hb d_Par_sum_86 (by decide) (fun c10 => ?_) (fun c10 => ?_)
          · skip
            rw [if_neg c10] at hok
            refine lv_iload hx hb d_Par_sum_91 (lv_at hl 0 rfl) ?_
            refine lv_bipush (v := 25) hx hb d_Par_sum_93 (by decide) ?_
            refine lv_icmp_ne (tgt := 111) hx hb d_Par_sum_95 (by decide) (fun c11 => ?_) (fun c11 => ?_)
            · skip
              rw [if_neg c11] at hok
              refine lv_iload hx hb d_Par_sum_111 (lv_at hl 0 rfl) ?_
              refine lv_istore_n (lv' := [(2, .int r1), (4, .int r1), (3, .int i3), (0, .ref h), (1, .int x)]) hx hb d_Par_sum_113 rfl hl (by decide) rfl (fun ls hl => ?_)
              refine lv_iinc (v := i3 + 1) (lv' := [(3, .int (i3 + 1)), (2, .int r1), (4, .int r1), (0, .ref h), (1, .int x)]) hx hb d_Par_sum_114 hl (k := 2) rfl (by rfl) (by decide) rfl (fun ls hl => ?_)
              refine lv_goto (tgt := 14) hx hb d_Par_sum_117 (by decide) ?_
              have e_ : (lp_Par_sum_14 fac script_tokens_f_kinds script_tokens_f_values script_f_letOfLetter x (n + 1) i2 i3 w3_h w4_h w2_script_conditions_h g_script_conditions_a_steps g_script_conditions_a_values) = (lp_Par_sum_14 fac script_tokens_f_kinds script_tokens_f_values script_f_letOfLetter x n r1 (i3 + 1) r6.2.1 r6.2.2.1 r6.2.2.2.1 r6.2.2.2.2.1 r6.2.2.2.2.2) := (by rw [lp_Par_sum_14] <;> simp only [hr1, hr6] <;> rw [if_neg c1, if_pos c2, if_neg c3, if_neg c6, if_pos c9, if_neg c10, if_neg c11])
              rw [e_]
              exact ih r1 (i3 + 1) r6.2.1 r6.2.2.1 r6.2.2.2.1 r6.2.2.2.2.1 r6.2.2.2.2.2 hok _ _ _ hP hD hS (lv_sub hl [0, 1, 3, 4] rfl)
            rw [if_pos c11] at hok
            refine lv_aload_n hx hb d_Par_sum_98 rfl (lv_at hl 3 rfl) ?_
            refine va_get (D := G.1) (ci := 11) (C := R_Par) (T := F_Par) (N := 5) (v := .ref script_conditions_h) hx hb hts i_Par hown hK hP 0 rfl rfl 2 (by decide) (hts (.fieldLink R_Par 26 "PrivateQueries$Parser" "conditions" "LPrivateQueries$Conditions;") k_755) (fun _ h9 => h9) rfl d_Par_sum_99 ?_
            refine lv_bipush (v := 25) hx hb d_Par_sum_102 (by decide) ?_
            refine lv_iconst (v := 0) hx hb d_Par_sum_104 (by decide) ?_
            obtain ⟨hv7, hok⟩ := hok
            obtain ⟨r7, hr7⟩ : ∃ r, (s_Cond_add r6.2.2.2.2.1 r6.2.2.2.2.2 r6.2.2.2.1 25 0) = r := ⟨_, rfl⟩
            try simp only [hr7] at hok
            have hC_r7 := (c_Cond_add l G script_conditions_h script_conditions_a_steps script_conditions_a_values script_conditions_a_stack script_conditions_a_holding r6.2.2.2.2.1 r6.2.2.2.2.2 r6.2.2.2.1 script_conditions__height 25 0 hv7)
            rw [hr7] at hC_r7
            refine ly_callV (rest := []) (wf := [(h, .inr (11, [.ref script_h, .ref script_tokens_h, .ref script_conditions_h, .int r6.2.1, .int r6.2.2.1])), (script_h, .inr (10, [.ref script_tokens_h, .ref script_conditions_h, .ref script_a_questions, .int script__asked, .ref script_a_letStarts, .ref script_a_letEnds, .ref script_a_letOfLetter, .int script__lets])), (script_tokens_h, .inr (7, [.ref script_tokens_a_kinds, .ref script_tokens_a_values, .ref script_tokens_a_places, .int script_tokens__size])), (script_tokens_a_kinds, .inl (gI G, 2001, .inl script_tokens_f_kinds)), (script_tokens_a_values, .inl (gI G, 2001, .inl script_tokens_f_values)), (script_conditions_h, .inr (8, [.ref script_conditions_a_steps, .ref script_conditions_a_values, .int r7.1, .ref script_conditions_a_stack, .int script_conditions__height, .ref script_conditions_a_holding])), (script_conditions_a_steps, .inl (gI G, 2000, .inl r7.2.1)), (script_conditions_a_values, .inl (gI G, 2000, .inl r7.2.2)), (script_a_letOfLetter, .inl (gI G, 26, .inl script_f_letOfLetter))]) ⟨hx, hb, hml, hown, hts⟩ hA hK hZ hP hD hS hC_r7 (cwV 2 hts g_Par_143 rfl rfl rfl (by decide +kernel) ⟨by simp only [rmD]; omega, by simp only [rmD]; omega⟩) (ci := 8) (q0 := 5) rfl rfl rfl [5, 6, 7] rfl (by decide) rfl rfl rfl hl.1 rfl (Nat.le_of_ble_eq_true rfl) d_Par_sum_105 ⟨Nat.le_of_ble_eq_true rfl, Nat.le_of_ble_eq_true rfl⟩ (st1 := []) (c1 := 0) (s1 := 0) rfl rfl rfl (fun H locs hP hD hS => ?_)
            refine lv_goto (tgt := 114) hx hb d_Par_sum_108 (by decide) ?_
            refine lv_iinc (v := i3 + 1) (lv' := [(3, .int (i3 + 1)), (4, .int r1), (2, .int i2), (0, .ref h), (1, .int x)]) hx hb d_Par_sum_114 hl (k := 1) rfl (by rfl) (by decide) rfl (fun ls hl => ?_)
            refine lv_goto (tgt := 14) hx hb d_Par_sum_117 (by decide) ?_
            have e_ : (lp_Par_sum_14 fac script_tokens_f_kinds script_tokens_f_values script_f_letOfLetter x (n + 1) i2 i3 w3_h w4_h w2_script_conditions_h g_script_conditions_a_steps g_script_conditions_a_values) = (lp_Par_sum_14 fac script_tokens_f_kinds script_tokens_f_values script_f_letOfLetter x n i2 (i3 + 1) r6.2.1 r6.2.2.1 r7.1 r7.2.1 r7.2.2) := (by rw [lp_Par_sum_14] <;> simp only [hr1, hr6, hr7] <;> rw [if_neg c1, if_pos c2, if_neg c3, if_neg c6, if_pos c9, if_neg c10, if_pos c11])
            rw [e_]
            exact ih i2 (i3 + 1) r6.2.1 r6.2.2.1 r7.1 r7.2.1 r7.2.2 hok _ _ _ hP hD hS (lv_sub hl [0, 2, 3, 4] rfl)
          rw [if_pos c10] at hok
          refine lv_iconst (v := 0) hx hb d_Par_sum_89 (by decide) ?_
          exact ly_zret hx hb hr hlocks hP hD hS d_Par_sum_90 (by decide) (by rw [lp_Par_sum_14] <;> simp only [hr1, hr6] <;> rw [if_neg c1, if_pos c2, if_neg c3, if_neg c6, if_pos c9, if_pos c10]) (by rw [lp_Par_sum_14] <;> simp only [hr1, hr6] <;> rw [if_neg c1, if_pos c2, if_neg c3, if_neg c6, if_pos c9, if_pos c10])
        rw [if_neg c9] at hok
        refine lv_iconst (v := 1) hx hb d_Par_sum_69 (by decide) ?_
        exact ly_zret hx hb hr hlocks hP hD hS d_Par_sum_70 (by decide) (by rw [lp_Par_sum_14] <;> simp only [hr1] <;> rw [if_neg c1, if_pos c2, if_neg c3, if_neg c6, if_neg c9]) (by rw [lp_Par_sum_14] <;> simp only [hr1] <;> rw [if_neg c1, if_pos c2, if_neg c3, if_neg c6, if_neg c9])
      rw [if_neg c2] at hok
      refine lv_iload hx hb d_Par_sum_32 (lv_at hl 0 rfl) ?_
      refine lv_bipush (v := 25) hx hb d_Par_sum_34 (by decide) ?_
      refine lv_icmp_eq (tgt := 48) hx hb d_Par_sum_36 (by decide) (fun c12 => ?_) (fun c12 => ?_)
      · skip
        rw [if_pos c12] at hok
        refine lv_iload hx hb d_Par_sum_48 (lv_at hl 0 rfl) ?_
        refine lv_bipush (v := 25) hx hb d_Par_sum_50 (by decide) ?_
        refine lv_icmp_eq (tgt := 71) hx hb d_Par_sum_52 (by decide) (fun c13 => ?_) (fun c13 => ?_)
        · skip
          rw [if_pos c13] at hok
          refine lv_aload_n hx hb d_Par_sum_71 rfl (lv_at hl 3 rfl) ?_
          refine lv_dup hx hb d_Par_sum_72 rfl ?_
          refine va_get (D := G.1) (ci := 11) (C := R_Par) (T := F_Par) (N := 5) (v := .int w3_h) hx hb hts i_Par hown hK hP 0 rfl rfl 3 (by decide) (hts (.fieldLink R_Par 27 "PrivateQueries$Parser" "at" "I") k_129) (fun _ h9 => h9) rfl d_Par_sum_73 ?_
          refine lv_iconst (v := 1) hx hb d_Par_sum_76 (by decide) ?_
          refine lv_iadd hx hb d_Par_sum_77 ?_
          refine va_put (D := G.1) (ci := 11) (v := .int (w3_h + 1)) (ty := .int) (C := R_Par) (T := F_Par) (N := 5) hx hb hts i_Par t_Par t_Par_ok n_Par hown hK hP hD hS 0 rfl rfl 3 (by decide) (hts (.fieldLink R_Par 27 "PrivateQueries$Parser" "at" "I") k_129) (fun _ h9 => h9) rfl (by decide +kernel) rfl rfl (Nat.le_of_ble_eq_true rfl) d_Par_sum_78 (fun H locs hP hD hS => ?_)
          have hP : va_P G.1 classes [(h, .inr (11, [.ref script_h, .ref script_tokens_h, .ref script_conditions_h, .int (w3_h + 1), .int w4_h])), (script_h, .inr (10, [.ref script_tokens_h, .ref script_conditions_h, .ref script_a_questions, .int script__asked, .ref script_a_letStarts, .ref script_a_letEnds, .ref script_a_letOfLetter, .int script__lets])), (script_tokens_h, .inr (7, [.ref script_tokens_a_kinds, .ref script_tokens_a_values, .ref script_tokens_a_places, .int script_tokens__size])), (script_tokens_a_kinds, .inl (gI G, 2001, .inl script_tokens_f_kinds)), (script_tokens_a_values, .inl (gI G, 2001, .inl script_tokens_f_values)), (script_conditions_h, .inr (8, [.ref script_conditions_a_steps, .ref script_conditions_a_values, .int w2_script_conditions_h, .ref script_conditions_a_stack, .int script_conditions__height, .ref script_conditions_a_holding])), (script_conditions_a_steps, .inl (gI G, 2000, .inl g_script_conditions_a_steps)), (script_conditions_a_values, .inl (gI G, 2000, .inl g_script_conditions_a_values)), (script_a_letOfLetter, .inl (gI G, 26, .inl script_f_letOfLetter))] H := hP
          have hD : va_D A [(h, .inr (11, [.ref script_h, .ref script_tokens_h, .ref script_conditions_h, .int (w3_h + 1), .int w4_h])), (script_h, .inr (10, [.ref script_tokens_h, .ref script_conditions_h, .ref script_a_questions, .int script__asked, .ref script_a_letStarts, .ref script_a_letEnds, .ref script_a_letOfLetter, .int script__lets])), (script_tokens_h, .inr (7, [.ref script_tokens_a_kinds, .ref script_tokens_a_values, .ref script_tokens_a_places, .int script_tokens__size])), (script_tokens_a_kinds, .inl (gI G, 2001, .inl script_tokens_f_kinds)), (script_tokens_a_values, .inl (gI G, 2001, .inl script_tokens_f_values)), (script_conditions_h, .inr (8, [.ref script_conditions_a_steps, .ref script_conditions_a_values, .int w2_script_conditions_h, .ref script_conditions_a_stack, .int script_conditions__height, .ref script_conditions_a_holding])), (script_conditions_a_steps, .inl (gI G, 2000, .inl g_script_conditions_a_steps)), (script_conditions_a_values, .inl (gI G, 2000, .inl g_script_conditions_a_values)), (script_a_letOfLetter, .inl (gI G, 26, .inl script_f_letOfLetter))] := hD
          refine lv_aload_n hx hb d_Par_sum_81 rfl (lv_at hl 3 rfl) ?_
          refine lv_iload_n hx hb d_Par_sum_82 rfl (lv_at hl 4 rfl) ?_
          obtain ⟨hv8, hok⟩ := hok
          obtain ⟨r8, hr8⟩ : ∃ r, (fac script_tokens_f_kinds script_tokens_f_values g_script_conditions_a_steps g_script_conditions_a_values w2_script_conditions_h script_f_letOfLetter (w3_h + 1) w4_h x) = r := ⟨_, rfl⟩
          try simp only [hr8] at hok
          have hC_r8 := (hfac h script_h script_tokens_h script_tokens_a_kinds script_tokens_a_values script_tokens_a_places script_conditions_h script_conditions_a_steps script_conditions_a_values script_conditions_a_stack script_conditions_a_holding script_a_questions script_a_letStarts script_a_letEnds script_a_letOfLetter script_tokens_f_kinds script_tokens_f_values script_tokens__size g_script_conditions_a_steps g_script_conditions_a_values w2_script_conditions_h script_conditions__height script__asked script_f_letOfLetter script__lets (w3_h + 1) w4_h x hv8)
          rw [hr8] at hC_r8
          have hf_r8_1 : isB r8.1 := by rw [← hr8]; exact zfac
          have hc_ : ∀ (x0_ x1_ x2_ x3_ x4_ x5_ x6_ x7_ x8_ : Nat × va_E) (t_ : va_W), List.map (fun i => (x0_ :: x1_ :: x2_ :: x3_ :: x4_ :: x5_ :: x6_ :: x7_ :: x8_ :: t_)[i]?) [0, 1, 2, 3, 4, 5, 6, 7, 8] = List.map some [x0_, x1_, x2_, x3_, x4_, x5_, x6_, x7_, x8_] := fun _ _ _ _ _ _ _ _ _ _ => rfl
          have hf_ : ∀ (x0_ x1_ x2_ x3_ x4_ x5_ x6_ x7_ x8_ y0_ y1_ y2_ y3_ y4_ y5_ y6_ y7_ y8_ : Nat × va_E) (t_ : va_W), setAll (x0_ :: x1_ :: x2_ :: x3_ :: x4_ :: x5_ :: x6_ :: x7_ :: x8_ :: t_) [0, 1, 2, 3, 4, 5, 6, 7, 8] [y0_, y1_, y2_, y3_, y4_, y5_, y6_, y7_, y8_] = y0_ :: y1_ :: y2_ :: y3_ :: y4_ :: y5_ :: y6_ :: y7_ :: y8_ :: t_ := fun _ _ _ _ _ _ _ _ _ _ _ _ _ _ _ _ _ _ _ => Eq.trans (setAll_M (bs := [true, true, true, true, true, true, true, true, true]) trivial rfl) rfl
          refine ly_callV (rest := []) (wf := [(h, .inr (11, [.ref script_h, .ref script_tokens_h, .ref script_conditions_h, .int r8.2.1, .int r8.2.2.1])), (script_h, .inr (10, [.ref script_tokens_h, .ref script_conditions_h, .ref script_a_questions, .int script__asked, .ref script_a_letStarts, .ref script_a_letEnds, .ref script_a_letOfLetter, .int script__lets])), (script_tokens_h, .inr (7, [.ref script_tokens_a_kinds, .ref script_tokens_a_values, .ref script_tokens_a_places, .int script_tokens__size])), (script_tokens_a_kinds, .inl (gI G, 2001, .inl script_tokens_f_kinds)), (script_tokens_a_values, .inl (gI G, 2001, .inl script_tokens_f_values)), (script_conditions_h, .inr (8, [.ref script_conditions_a_steps, .ref script_conditions_a_values, .int r8.2.2.2.1, .ref script_conditions_a_stack, .int script_conditions__height, .ref script_conditions_a_holding])), (script_conditions_a_steps, .inl (gI G, 2000, .inl r8.2.2.2.2.1)), (script_conditions_a_values, .inl (gI G, 2000, .inl r8.2.2.2.2.2)), (script_a_letOfLetter, .inl (gI G, 26, .inl script_f_letOfLetter))]) ⟨hx, hb, hml, hown, hts⟩ hA hK hZ hP hD hS hC_r8 (cwV 1 hts g_Par_155 rfl rfl rfl (by decide +kernel) ⟨by simp only [rmD]; omega, by simp only [rmD]; omega⟩) (ci := 11) (q0 := 0) rfl rfl rfl [0, 1, 2, 3, 4, 5, 6, 7, 8] (hc_ _ _ _ _ _ _ _ _ _ _) (by decide) rfl (hf_ _ _ _ _ _ _ _ _ _ _ _ _ _ _ _ _ _ _ _) rfl hl.1 rfl (Nat.le_of_ble_eq_true rfl) d_Par_sum_83 ⟨Nat.le_of_ble_eq_true rfl, Nat.le_of_ble_eq_true rfl⟩ (st1 := [.int r8.1]) (c1 := 0) (s1 := 0) rfl rfl rfl (fun H locs hP hD hS => ?_)
          refine lv_if_ne (tgt := 91) hx hb d_Par_sum_86 (by decide) (fun c14 => ?_) (fun c14 => ?_)
          · skip
            rw [if_neg c14] at hok
            refine lv_iload hx hb d_Par_sum_91 (lv_at hl 0 rfl) ?_
            refine lv_bipush (v := 25) hx hb d_Par_sum_93 (by decide) ?_
            refine lv_icmp_ne (tgt := 111) hx hb d_Par_sum_95 (by decide) (fun c15 => ?_) (fun c15 => ?_)
            · skip
              rw [if_neg c15] at hok
              refine lv_iload hx hb d_Par_sum_111 (lv_at hl 0 rfl) ?_
              refine lv_istore_n (lv' := [(2, .int r1), (4, .int r1), (3, .int i3), (0, .ref h), (1, .int x)]) hx hb d_Par_sum_113 rfl hl (by decide) rfl (fun ls hl => ?_)
              refine lv_iinc (v := i3 + 1) (lv' := [(3, .int (i3 + 1)), (2, .int r1), (4, .int r1), (0, .ref h), (1, .int x)]) hx hb d_Par_sum_114 hl (k := 2) rfl (by rfl) (by decide) rfl (fun ls hl => ?_)
              refine lv_goto (tgt := 14) hx hb d_Par_sum_117 (by decide) ?_
              have e_ : (lp_Par_sum_14 fac script_tokens_f_kinds script_tokens_f_values script_f_letOfLetter x (n + 1) i2 i3 w3_h w4_h w2_script_conditions_h g_script_conditions_a_steps g_script_conditions_a_values) = (lp_Par_sum_14 fac script_tokens_f_kinds script_tokens_f_values script_f_letOfLetter x n r1 (i3 + 1) r8.2.1 r8.2.2.1 r8.2.2.2.1 r8.2.2.2.2.1 r8.2.2.2.2.2) := (by rw [lp_Par_sum_14] <;> simp only [hr1, hr8] <;> rw [if_neg c1, if_neg c2, if_pos c12, if_pos c13, if_neg c14, if_neg c15])
              rw [e_]
              exact ih r1 (i3 + 1) r8.2.1 r8.2.2.1 r8.2.2.2.1 r8.2.2.2.2.1 r8.2.2.2.2.2 hok _ _ _ hP hD hS (lv_sub hl [0, 1, 3, 4] rfl)
            rw [if_pos c15] at hok
            refine lv_aload_n hx hb d_Par_sum_98 rfl (lv_at hl 3 rfl) ?_
            refine va_get (D := G.1) (ci := 11) (C := R_Par) (T := F_Par) (N := 5) (v := .ref script_conditions_h) hx hb hts i_Par hown hK hP 0 rfl rfl 2 (by decide) (hts (.fieldLink R_Par 26 "PrivateQueries$Parser" "conditions" "LPrivateQueries$Conditions;") k_755) (fun _ h9 => h9) rfl d_Par_sum_99 ?_
            refine lv_bipush (v := 25) hx hb d_Par_sum_102 (by decide) ?_
            refine lv_iconst (v := 0) hx hb d_Par_sum_104 (by decide) ?_
            obtain ⟨hv9, hok⟩ := hok
            obtain ⟨r9, hr9⟩ : ∃ r, (s_Cond_add r8.2.2.2.2.1 r8.2.2.2.2.2 r8.2.2.2.1 25 0) = r := ⟨_, rfl⟩
            try simp only [hr9] at hok
            have hC_r9 := (c_Cond_add l G script_conditions_h script_conditions_a_steps script_conditions_a_values script_conditions_a_stack script_conditions_a_holding r8.2.2.2.2.1 r8.2.2.2.2.2 r8.2.2.2.1 script_conditions__height 25 0 hv9)
            rw [hr9] at hC_r9
            refine ly_callV (rest := []) (wf := [(h, .inr (11, [.ref script_h, .ref script_tokens_h, .ref script_conditions_h, .int r8.2.1, .int r8.2.2.1])), (script_h, .inr (10, [.ref script_tokens_h, .ref script_conditions_h, .ref script_a_questions, .int script__asked, .ref script_a_letStarts, .ref script_a_letEnds, .ref script_a_letOfLetter, .int script__lets])), (script_tokens_h, .inr (7, [.ref script_tokens_a_kinds, .ref script_tokens_a_values, .ref script_tokens_a_places, .int script_tokens__size])), (script_tokens_a_kinds, .inl (gI G, 2001, .inl script_tokens_f_kinds)), (script_tokens_a_values, .inl (gI G, 2001, .inl script_tokens_f_values)), (script_conditions_h, .inr (8, [.ref script_conditions_a_steps, .ref script_conditions_a_values, .int r9.1, .ref script_conditions_a_stack, .int script_conditions__height, .ref script_conditions_a_holding])), (script_conditions_a_steps, .inl (gI G, 2000, .inl r9.2.1)), (script_conditions_a_values, .inl (gI G, 2000, .inl r9.2.2)), (script_a_letOfLetter, .inl (gI G, 26, .inl script_f_letOfLetter))]) ⟨hx, hb, hml, hown, hts⟩ hA hK hZ hP hD hS hC_r9 (cwV 2 hts g_Par_143 rfl rfl rfl (by decide +kernel) ⟨by simp only [rmD]; omega, by simp only [rmD]; omega⟩) (ci := 8) (q0 := 5) rfl rfl rfl [5, 6, 7] rfl (by decide) rfl rfl rfl hl.1 rfl (Nat.le_of_ble_eq_true rfl) d_Par_sum_105 ⟨Nat.le_of_ble_eq_true rfl, Nat.le_of_ble_eq_true rfl⟩ (st1 := []) (c1 := 0) (s1 := 0) rfl rfl rfl (fun H locs hP hD hS => ?_)
            refine lv_goto (tgt := 114) hx hb d_Par_sum_108 (by decide) ?_
            refine lv_iinc (v := i3 + 1) (lv' := [(3, .int (i3 + 1)), (4, .int r1), (2, .int i2), (0, .ref h), (1, .int x)]) hx hb d_Par_sum_114 hl (k := 1) rfl (by rfl) (by decide) rfl (fun ls hl => ?_)
            refine lv_goto (tgt := 14) hx hb d_Par_sum_117 (by decide) ?_
            have e_ : (lp_Par_sum_14 fac script_tokens_f_kinds script_tokens_f_values script_f_letOfLetter x (n + 1) i2 i3 w3_h w4_h w2_script_conditions_h g_script_conditions_a_steps g_script_conditions_a_values) = (lp_Par_sum_14 fac script_tokens_f_kinds script_tokens_f_values script_f_letOfLetter x n i2 (i3 + 1) r8.2.1 r8.2.2.1 r9.1 r9.2.1 r9.2.2) := (by rw [lp_Par_sum_14] <;> simp only [hr1, hr8, hr9] <;> rw [if_neg c1, if_neg c2, if_pos c12, if_pos c13, if_neg c14, if_pos c15])
            rw [e_]
            exact ih i2 (i3 + 1) r8.2.1 r8.2.2.1 r9.1 r9.2.1 r9.2.2 hok _ _ _ hP hD hS (lv_sub hl [0, 2, 3, 4] rfl)
          rw [if_pos c14] at hok
          refine lv_iconst (v := 0) hx hb d_Par_sum_89 (by decide) ?_
          exact ly_zret hx hb hr hlocks hP hD hS d_Par_sum_90 (by decide) (by rw [lp_Par_sum_14] <;> simp only [hr1, hr8] <;> rw [if_neg c1, if_neg c2, if_pos c12, if_pos c13, if_pos c14]) (by rw [lp_Par_sum_14] <;> simp only [hr1, hr8] <;> rw [if_neg c1, if_neg c2, if_pos c12, if_pos c13, if_pos c14])
        rw [if_neg c13] at hok
        refine lv_iload hx hb d_Par_sum_55 (lv_at hl 0 rfl) ?_
        refine lv_bipush (v := 23) hx hb d_Par_sum_57 (by decide) ?_
        refine lv_icmp_eq (tgt := 71) hx hb d_Par_sum_59 (by decide) (fun c16 => ?_) (fun c16 => ?_)
        · skip
          rw [if_pos c16] at hok
          refine lv_aload_n hx hb d_Par_sum_71 rfl (lv_at hl 3 rfl) ?_
          refine lv_dup hx hb d_Par_sum_72 rfl ?_
          refine va_get (D := G.1) (ci := 11) (C := R_Par) (T := F_Par) (N := 5) (v := .int w3_h) hx hb hts i_Par hown hK hP 0 rfl rfl 3 (by decide) (hts (.fieldLink R_Par 27 "PrivateQueries$Parser" "at" "I") k_129) (fun _ h9 => h9) rfl d_Par_sum_73 ?_
          refine lv_iconst (v := 1) hx hb d_Par_sum_76 (by decide) ?_
          refine lv_iadd hx hb d_Par_sum_77 ?_
          refine va_put (D := G.1) (ci := 11) (v := .int (w3_h + 1)) (ty := .int) (C := R_Par) (T := F_Par) (N := 5) hx hb hts i_Par t_Par t_Par_ok n_Par hown hK hP hD hS 0 rfl rfl 3 (by decide) (hts (.fieldLink R_Par 27 "PrivateQueries$Parser" "at" "I") k_129) (fun _ h9 => h9) rfl (by decide +kernel) rfl rfl (Nat.le_of_ble_eq_true rfl) d_Par_sum_78 (fun H locs hP hD hS => ?_)
          have hP : va_P G.1 classes [(h, .inr (11, [.ref script_h, .ref script_tokens_h, .ref script_conditions_h, .int (w3_h + 1), .int w4_h])), (script_h, .inr (10, [.ref script_tokens_h, .ref script_conditions_h, .ref script_a_questions, .int script__asked, .ref script_a_letStarts, .ref script_a_letEnds, .ref script_a_letOfLetter, .int script__lets])), (script_tokens_h, .inr (7, [.ref script_tokens_a_kinds, .ref script_tokens_a_values, .ref script_tokens_a_places, .int script_tokens__size])), (script_tokens_a_kinds, .inl (gI G, 2001, .inl script_tokens_f_kinds)), (script_tokens_a_values, .inl (gI G, 2001, .inl script_tokens_f_values)), (script_conditions_h, .inr (8, [.ref script_conditions_a_steps, .ref script_conditions_a_values, .int w2_script_conditions_h, .ref script_conditions_a_stack, .int script_conditions__height, .ref script_conditions_a_holding])), (script_conditions_a_steps, .inl (gI G, 2000, .inl g_script_conditions_a_steps)), (script_conditions_a_values, .inl (gI G, 2000, .inl g_script_conditions_a_values)), (script_a_letOfLetter, .inl (gI G, 26, .inl script_f_letOfLetter))] H := hP
          have hD : va_D A [(h, .inr (11, [.ref script_h, .ref script_tokens_h, .ref script_conditions_h, .int (w3_h + 1), .int w4_h])), (script_h, .inr (10, [.ref script_tokens_h, .ref script_conditions_h, .ref script_a_questions, .int script__asked, .ref script_a_letStarts, .ref script_a_letEnds, .ref script_a_letOfLetter, .int script__lets])), (script_tokens_h, .inr (7, [.ref script_tokens_a_kinds, .ref script_tokens_a_values, .ref script_tokens_a_places, .int script_tokens__size])), (script_tokens_a_kinds, .inl (gI G, 2001, .inl script_tokens_f_kinds)), (script_tokens_a_values, .inl (gI G, 2001, .inl script_tokens_f_values)), (script_conditions_h, .inr (8, [.ref script_conditions_a_steps, .ref script_conditions_a_values, .int w2_script_conditions_h, .ref script_conditions_a_stack, .int script_conditions__height, .ref script_conditions_a_holding])), (script_conditions_a_steps, .inl (gI G, 2000, .inl g_script_conditions_a_steps)), (script_conditions_a_values, .inl (gI G, 2000, .inl g_script_conditions_a_values)), (script_a_letOfLetter, .inl (gI G, 26, .inl script_f_letOfLetter))] := hD
          refine lv_aload_n hx hb d_Par_sum_81 rfl (lv_at hl 3 rfl) ?_
          refine lv_iload_n hx hb d_Par_sum_82 rfl (lv_at hl 4 rfl) ?_
          obtain ⟨hv10, hok⟩ := hok
          obtain ⟨r10, hr10⟩ : ∃ r, (fac script_tokens_f_kinds script_tokens_f_values g_script_conditions_a_steps g_script_conditions_a_values w2_script_conditions_h script_f_letOfLetter (w3_h + 1) w4_h x) = r := ⟨_, rfl⟩
          try simp only [hr10] at hok
          have hC_r10 := (hfac h script_h script_tokens_h script_tokens_a_kinds script_tokens_a_values script_tokens_a_places script_conditions_h script_conditions_a_steps script_conditions_a_values script_conditions_a_stack script_conditions_a_holding script_a_questions script_a_letStarts script_a_letEnds script_a_letOfLetter script_tokens_f_kinds script_tokens_f_values script_tokens__size g_script_conditions_a_steps g_script_conditions_a_values w2_script_conditions_h script_conditions__height script__asked script_f_letOfLetter script__lets (w3_h + 1) w4_h x hv10)
          rw [hr10] at hC_r10
          have hf_r10_1 : isB r10.1 := by rw [← hr10]; exact zfac
          have hc_ : ∀ (x0_ x1_ x2_ x3_ x4_ x5_ x6_ x7_ x8_ : Nat × va_E) (t_ : va_W), List.map (fun i => (x0_ :: x1_ :: x2_ :: x3_ :: x4_ :: x5_ :: x6_ :: x7_ :: x8_ :: t_)[i]?) [0, 1, 2, 3, 4, 5, 6, 7, 8] = List.map some [x0_, x1_, x2_, x3_, x4_, x5_, x6_, x7_, x8_] := fun _ _ _ _ _ _ _ _ _ _ => rfl
          have hf_ : ∀ (x0_ x1_ x2_ x3_ x4_ x5_ x6_ x7_ x8_ y0_ y1_ y2_ y3_ y4_ y5_ y6_ y7_ y8_ : Nat × va_E) (t_ : va_W), setAll (x0_ :: x1_ :: x2_ :: x3_ :: x4_ :: x5_ :: x6_ :: x7_ :: x8_ :: t_) [0, 1, 2, 3, 4, 5, 6, 7, 8] [y0_, y1_, y2_, y3_, y4_, y5_, y6_, y7_, y8_] = y0_ :: y1_ :: y2_ :: y3_ :: y4_ :: y5_ :: y6_ :: y7_ :: y8_ :: t_ := fun _ _ _ _ _ _ _ _ _ _ _ _ _ _ _ _ _ _ _ => Eq.trans (setAll_M (bs := [true, true, true, true, true, true, true, true, true]) trivial rfl) rfl
          refine ly_callV (rest := []) (wf := [(h, .inr (11, [.ref script_h, .ref script_tokens_h, .ref script_conditions_h, .int r10.2.1, .int r10.2.2.1])), (script_h, .inr (10, [.ref script_tokens_h, .ref script_conditions_h, .ref script_a_questions, .int script__asked, .ref script_a_letStarts, .ref script_a_letEnds, .ref script_a_letOfLetter, .int script__lets])), (script_tokens_h, .inr (7, [.ref script_tokens_a_kinds, .ref script_tokens_a_values, .ref script_tokens_a_places, .int script_tokens__size])), (script_tokens_a_kinds, .inl (gI G, 2001, .inl script_tokens_f_kinds)), (script_tokens_a_values, .inl (gI G, 2001, .inl script_tokens_f_values)), (script_conditions_h, .inr (8, [.ref script_conditions_a_steps, .ref script_conditions_a_values, .int r10.2.2.2.1, .ref script_conditions_a_stack, .int script_conditions__height, .ref script_conditions_a_holding])), (script_conditions_a_steps, .inl (gI G, 2000, .inl r10.2.2.2.2.1)), (script_conditions_a_values, .inl (gI G, 2000, .inl r10.2.2.2.2.2)), (script_a_letOfLetter, .inl (gI G, 26, .inl script_f_letOfLetter))]) ⟨hx, hb, hml, hown, hts⟩ hA hK hZ hP hD hS hC_r10 (cwV 1 hts g_Par_155 rfl rfl rfl (by decide +kernel) ⟨by simp only [rmD]; omega, by simp only [rmD]; omega⟩) (ci := 11) (q0 := 0) rfl rfl rfl [0, 1, 2, 3, 4, 5, 6, 7, 8] (hc_ _ _ _ _ _ _ _ _ _ _) (by decide) rfl (hf_ _ _ _ _ _ _ _ _ _ _ _ _ _ _ _ _ _ _ _) rfl hl.1 rfl (Nat.le_of_ble_eq_true rfl) d_Par_sum_83 ⟨Nat.le_of_ble_eq_true rfl, Nat.le_of_ble_eq_true rfl⟩ (st1 := [.int r10.1]) (c1 := 0) (s1 := 0) rfl rfl rfl (fun H locs hP hD hS => ?_)
          refine lv_if_ne (tgt := 91) hx hb d_Par_sum_86 (by decide) (fun c17 => ?_) (fun c17 => ?_)
          · skip
            rw [if_neg c17] at hok
            refine lv_iload hx hb d_Par_sum_91 (lv_at hl 0 rfl) ?_
            refine lv_bipush (v := 25) hx hb d_Par_sum_93 (by decide) ?_
            refine lv_icmp_ne (tgt := 111) hx hb d_Par_sum_95 (by decide) (fun c18 => ?_) (fun c18 => ?_)
            · skip
              rw [if_neg c18] at hok
              refine lv_iload hx hb d_Par_sum_111 (lv_at hl 0 rfl) ?_
              refine lv_istore_n (lv' := [(2, .int r1), (4, .int r1), (3, .int i3), (0, .ref h), (1, .int x)]) hx hb d_Par_sum_113 rfl hl (by decide) rfl (fun ls hl => ?_)
              refine lv_iinc (v := i3 + 1) (lv' := [(3, .int (i3 + 1)), (2, .int r1), (4, .int r1), (0, .ref h), (1, .int x)]) hx hb d_Par_sum_114 hl (k := 2) rfl (by rfl) (by decide) rfl (fun ls hl => ?_)
              refine lv_goto (tgt := 14) hx hb d_Par_sum_117 (by decide) ?_
              have e_ : (lp_Par_sum_14 fac script_tokens_f_kinds script_tokens_f_values script_f_letOfLetter x (n + 1) i2 i3 w3_h w4_h w2_script_conditions_h g_script_conditions_a_steps g_script_conditions_a_values) = (lp_Par_sum_14 fac script_tokens_f_kinds script_tokens_f_values script_f_letOfLetter x n r1 (i3 + 1) r10.2.1 r10.2.2.1 r10.2.2.2.1 r10.2.2.2.2.1 r10.2.2.2.2.2) := (by rw [lp_Par_sum_14] <;> simp only [hr1, hr10] <;> rw [if_neg c1, if_neg c2, if_pos c12, if_neg c13, if_pos c16, if_neg c17, if_neg c18])
              rw [e_]
              exact ih r1 (i3 + 1) r10.2.1 r10.2.2.1 r10.2.2.2.1 r10.2.2.2.2.1 r10.2.2.2.2.2 hok _ _ _ hP hD hS (lv_sub hl [0, 1, 3, 4] rfl)
            rw [if_pos c18] at hok
            refine lv_aload_n hx hb d_Par_sum_98 rfl (lv_at hl 3 rfl) ?_
            refine va_get (D := G.1) (ci := 11) (C := R_Par) (T := F_Par) (N := 5) (v := .ref script_conditions_h) hx hb hts i_Par hown hK hP 0 rfl rfl 2 (by decide) (hts (.fieldLink R_Par 26 "PrivateQueries$Parser" "conditions" "LPrivateQueries$Conditions;") k_755) (fun _ h9 => h9) rfl d_Par_sum_99 ?_
            refine lv_bipush (v := 25) hx hb d_Par_sum_102 (by decide) ?_
            refine lv_iconst (v := 0) hx hb d_Par_sum_104 (by decide) ?_
            obtain ⟨hv11, hok⟩ := hok
            obtain ⟨r11, hr11⟩ : ∃ r, (s_Cond_add r10.2.2.2.2.1 r10.2.2.2.2.2 r10.2.2.2.1 25 0) = r := ⟨_, rfl⟩
            try simp only [hr11] at hok
            have hC_r11 := (c_Cond_add l G script_conditions_h script_conditions_a_steps script_conditions_a_values script_conditions_a_stack script_conditions_a_holding r10.2.2.2.2.1 r10.2.2.2.2.2 r10.2.2.2.1 script_conditions__height 25 0 hv11)
            rw [hr11] at hC_r11
            refine ly_callV (rest := []) (wf := [(h, .inr (11, [.ref script_h, .ref script_tokens_h, .ref script_conditions_h, .int r10.2.1, .int r10.2.2.1])), (script_h, .inr (10, [.ref script_tokens_h, .ref script_conditions_h, .ref script_a_questions, .int script__asked, .ref script_a_letStarts, .ref script_a_letEnds, .ref script_a_letOfLetter, .int script__lets])), (script_tokens_h, .inr (7, [.ref script_tokens_a_kinds, .ref script_tokens_a_values, .ref script_tokens_a_places, .int script_tokens__size])), (script_tokens_a_kinds, .inl (gI G, 2001, .inl script_tokens_f_kinds)), (script_tokens_a_values, .inl (gI G, 2001, .inl script_tokens_f_values)), (script_conditions_h, .inr (8, [.ref script_conditions_a_steps, .ref script_conditions_a_values, .int r11.1, .ref script_conditions_a_stack, .int script_conditions__height, .ref script_conditions_a_holding])), (script_conditions_a_steps, .inl (gI G, 2000, .inl r11.2.1)), (script_conditions_a_values, .inl (gI G, 2000, .inl r11.2.2)), (script_a_letOfLetter, .inl (gI G, 26, .inl script_f_letOfLetter))]) ⟨hx, hb, hml, hown, hts⟩ hA hK hZ hP hD hS hC_r11 (cwV 2 hts g_Par_143 rfl rfl rfl (by decide +kernel) ⟨by simp only [rmD]; omega, by simp only [rmD]; omega⟩) (ci := 8) (q0 := 5) rfl rfl rfl [5, 6, 7] rfl (by decide) rfl rfl rfl hl.1 rfl (Nat.le_of_ble_eq_true rfl) d_Par_sum_105 ⟨Nat.le_of_ble_eq_true rfl, Nat.le_of_ble_eq_true rfl⟩ (st1 := []) (c1 := 0) (s1 := 0) rfl rfl rfl (fun H locs hP hD hS => ?_)
            refine lv_goto (tgt := 114) hx hb d_Par_sum_108 (by decide) ?_
            refine lv_iinc (v := i3 + 1) (lv' := [(3, .int (i3 + 1)), (4, .int r1), (2, .int i2), (0, .ref h), (1, .int x)]) hx hb d_Par_sum_114 hl (k := 1) rfl (by rfl) (by decide) rfl (fun ls hl => ?_)
            refine lv_goto (tgt := 14) hx hb d_Par_sum_117 (by decide) ?_
            have e_ : (lp_Par_sum_14 fac script_tokens_f_kinds script_tokens_f_values script_f_letOfLetter x (n + 1) i2 i3 w3_h w4_h w2_script_conditions_h g_script_conditions_a_steps g_script_conditions_a_values) = (lp_Par_sum_14 fac script_tokens_f_kinds script_tokens_f_values script_f_letOfLetter x n i2 (i3 + 1) r10.2.1 r10.2.2.1 r11.1 r11.2.1 r11.2.2) := (by rw [lp_Par_sum_14] <;> simp only [hr1, hr10, hr11] <;> rw [if_neg c1, if_neg c2, if_pos c12, if_neg c13, if_pos c16, if_neg c17, if_pos c18])
            rw [e_]
            exact ih i2 (i3 + 1) r10.2.1 r10.2.2.1 r11.1 r11.2.1 r11.2.2 hok _ _ _ hP hD hS (lv_sub hl [0, 2, 3, 4] rfl)
          rw [if_pos c17] at hok
          refine lv_iconst (v := 0) hx hb d_Par_sum_89 (by decide) ?_
          exact ly_zret hx hb hr hlocks hP hD hS d_Par_sum_90 (by decide) (by rw [lp_Par_sum_14] <;> simp only [hr1, hr10] <;> rw [if_neg c1, if_neg c2, if_pos c12, if_neg c13, if_pos c16, if_pos c17]) (by rw [lp_Par_sum_14] <;> simp only [hr1, hr10] <;> rw [if_neg c1, if_neg c2, if_pos c12, if_neg c13, if_pos c16, if_pos c17])
        rw [if_neg c16] at hok
        refine lv_iload hx hb d_Par_sum_62 (lv_at hl 0 rfl) ?_
        refine lv_bipush (v := 24) hx hb d_Par_sum_64 (by decide) ?_
        refine lv_icmp_eq (tgt := 71) hx hb d_Par_sum_66 (by decide) (fun c19 => ?_) (fun c19 => ?_)
        · skip
          rw [if_pos c19] at hok
          refine lv_aload_n hx hb d_Par_sum_71 rfl (lv_at hl 3 rfl) ?_
          refine lv_dup hx hb d_Par_sum_72 rfl ?_
          refine va_get (D := G.1) (ci := 11) (C := R_Par) (T := F_Par) (N := 5) (v := .int w3_h) hx hb hts i_Par hown hK hP 0 rfl rfl 3 (by decide) (hts (.fieldLink R_Par 27 "PrivateQueries$Parser" "at" "I") k_129) (fun _ h9 => h9) rfl d_Par_sum_73 ?_
          refine lv_iconst (v := 1) hx hb d_Par_sum_76 (by decide) ?_
          refine lv_iadd hx hb d_Par_sum_77 ?_
          refine va_put (D := G.1) (ci := 11) (v := .int (w3_h + 1)) (ty := .int) (C := R_Par) (T := F_Par) (N := 5) hx hb hts i_Par t_Par t_Par_ok n_Par hown hK hP hD hS 0 rfl rfl 3 (by decide) (hts (.fieldLink R_Par 27 "PrivateQueries$Parser" "at" "I") k_129) (fun _ h9 => h9) rfl (by decide +kernel) rfl rfl (Nat.le_of_ble_eq_true rfl) d_Par_sum_78 (fun H locs hP hD hS => ?_)
          have hP : va_P G.1 classes [(h, .inr (11, [.ref script_h, .ref script_tokens_h, .ref script_conditions_h, .int (w3_h + 1), .int w4_h])), (script_h, .inr (10, [.ref script_tokens_h, .ref script_conditions_h, .ref script_a_questions, .int script__asked, .ref script_a_letStarts, .ref script_a_letEnds, .ref script_a_letOfLetter, .int script__lets])), (script_tokens_h, .inr (7, [.ref script_tokens_a_kinds, .ref script_tokens_a_values, .ref script_tokens_a_places, .int script_tokens__size])), (script_tokens_a_kinds, .inl (gI G, 2001, .inl script_tokens_f_kinds)), (script_tokens_a_values, .inl (gI G, 2001, .inl script_tokens_f_values)), (script_conditions_h, .inr (8, [.ref script_conditions_a_steps, .ref script_conditions_a_values, .int w2_script_conditions_h, .ref script_conditions_a_stack, .int script_conditions__height, .ref script_conditions_a_holding])), (script_conditions_a_steps, .inl (gI G, 2000, .inl g_script_conditions_a_steps)), (script_conditions_a_values, .inl (gI G, 2000, .inl g_script_conditions_a_values)), (script_a_letOfLetter, .inl (gI G, 26, .inl script_f_letOfLetter))] H := hP
          have hD : va_D A [(h, .inr (11, [.ref script_h, .ref script_tokens_h, .ref script_conditions_h, .int (w3_h + 1), .int w4_h])), (script_h, .inr (10, [.ref script_tokens_h, .ref script_conditions_h, .ref script_a_questions, .int script__asked, .ref script_a_letStarts, .ref script_a_letEnds, .ref script_a_letOfLetter, .int script__lets])), (script_tokens_h, .inr (7, [.ref script_tokens_a_kinds, .ref script_tokens_a_values, .ref script_tokens_a_places, .int script_tokens__size])), (script_tokens_a_kinds, .inl (gI G, 2001, .inl script_tokens_f_kinds)), (script_tokens_a_values, .inl (gI G, 2001, .inl script_tokens_f_values)), (script_conditions_h, .inr (8, [.ref script_conditions_a_steps, .ref script_conditions_a_values, .int w2_script_conditions_h, .ref script_conditions_a_stack, .int script_conditions__height, .ref script_conditions_a_holding])), (script_conditions_a_steps, .inl (gI G, 2000, .inl g_script_conditions_a_steps)), (script_conditions_a_values, .inl (gI G, 2000, .inl g_script_conditions_a_values)), (script_a_letOfLetter, .inl (gI G, 26, .inl script_f_letOfLetter))] := hD
          refine lv_aload_n hx hb d_Par_sum_81 rfl (lv_at hl 3 rfl) ?_
          refine lv_iload_n hx hb d_Par_sum_82 rfl (lv_at hl 4 rfl) ?_
          obtain ⟨hv12, hok⟩ := hok
          obtain ⟨r12, hr12⟩ : ∃ r, (fac script_tokens_f_kinds script_tokens_f_values g_script_conditions_a_steps g_script_conditions_a_values w2_script_conditions_h script_f_letOfLetter (w3_h + 1) w4_h x) = r := ⟨_, rfl⟩
          try simp only [hr12] at hok
          have hC_r12 := (hfac h script_h script_tokens_h script_tokens_a_kinds script_tokens_a_values script_tokens_a_places script_conditions_h script_conditions_a_steps script_conditions_a_values script_conditions_a_stack script_conditions_a_holding script_a_questions script_a_letStarts script_a_letEnds script_a_letOfLetter script_tokens_f_kinds script_tokens_f_values script_tokens__size g_script_conditions_a_steps g_script_conditions_a_values w2_script_conditions_h script_conditions__height script__asked script_f_letOfLetter script__lets (w3_h + 1) w4_h x hv12)
          rw [hr12] at hC_r12
          have hf_r12_1 : isB r12.1 := by rw [← hr12]; exact zfac
          have hc_ : ∀ (x0_ x1_ x2_ x3_ x4_ x5_ x6_ x7_ x8_ : Nat × va_E) (t_ : va_W), List.map (fun i => (x0_ :: x1_ :: x2_ :: x3_ :: x4_ :: x5_ :: x6_ :: x7_ :: x8_ :: t_)[i]?) [0, 1, 2, 3, 4, 5, 6, 7, 8] = List.map some [x0_, x1_, x2_, x3_, x4_, x5_, x6_, x7_, x8_] := fun _ _ _ _ _ _ _ _ _ _ => rfl
          have hf_ : ∀ (x0_ x1_ x2_ x3_ x4_ x5_ x6_ x7_ x8_ y0_ y1_ y2_ y3_ y4_ y5_ y6_ y7_ y8_ : Nat × va_E) (t_ : va_W), setAll (x0_ :: x1_ :: x2_ :: x3_ :: x4_ :: x5_ :: x6_ :: x7_ :: x8_ :: t_) [0, 1, 2, 3, 4, 5, 6, 7, 8] [y0_, y1_, y2_, y3_, y4_, y5_, y6_, y7_, y8_] = y0_ :: y1_ :: y2_ :: y3_ :: y4_ :: y5_ :: y6_ :: y7_ :: y8_ :: t_ := fun _ _ _ _ _ _ _ _ _ _ _ _ _ _ _ _ _ _ _ => Eq.trans (setAll_M (bs := [true, true, true, true, true, true, true, true, true]) trivial rfl) rfl
          refine ly_callV (rest := []) (wf := [(h, .inr (11, [.ref script_h, .ref script_tokens_h, .ref script_conditions_h, .int r12.2.1, .int r12.2.2.1])), (script_h, .inr (10, [.ref script_tokens_h, .ref script_conditions_h, .ref script_a_questions, .int script__asked, .ref script_a_letStarts, .ref script_a_letEnds, .ref script_a_letOfLetter, .int script__lets])), (script_tokens_h, .inr (7, [.ref script_tokens_a_kinds, .ref script_tokens_a_values, .ref script_tokens_a_places, .int script_tokens__size])), (script_tokens_a_kinds, .inl (gI G, 2001, .inl script_tokens_f_kinds)), (script_tokens_a_values, .inl (gI G, 2001, .inl script_tokens_f_values)), (script_conditions_h, .inr (8, [.ref script_conditions_a_steps, .ref script_conditions_a_values, .int r12.2.2.2.1, .ref script_conditions_a_stack, .int script_conditions__height, .ref script_conditions_a_holding])), (script_conditions_a_steps, .inl (gI G, 2000, .inl r12.2.2.2.2.1)), (script_conditions_a_values, .inl (gI G, 2000, .inl r12.2.2.2.2.2)), (script_a_letOfLetter, .inl (gI G, 26, .inl script_f_letOfLetter))]) ⟨hx, hb, hml, hown, hts⟩ hA hK hZ hP hD hS hC_r12 (cwV 1 hts g_Par_155 rfl rfl rfl (by decide +kernel) ⟨by simp only [rmD]; omega, by simp only [rmD]; omega⟩) (ci := 11) (q0 := 0) rfl rfl rfl [0, 1, 2, 3, 4, 5, 6, 7, 8] (hc_ _ _ _ _ _ _ _ _ _ _) (by decide) rfl (hf_ _ _ _ _ _ _ _ _ _ _ _ _ _ _ _ _ _ _ _) rfl hl.1 rfl (Nat.le_of_ble_eq_true rfl) d_Par_sum_83 ⟨Nat.le_of_ble_eq_true rfl, Nat.le_of_ble_eq_true rfl⟩ (st1 := [.int r12.1]) (c1 := 0) (s1 := 0) rfl rfl rfl (fun H locs hP hD hS => ?_)
          refine lv_if_ne (tgt := 91) hx hb d_Par_sum_86 (by decide) (fun c20 => ?_) (fun c20 => ?_)
          · skip
            rw [if_neg c20] at hok
            refine lv_iload hx hb d_Par_sum_91 (lv_at hl 0 rfl) ?_
            refine lv_bipush (v := 25) hx hb d_Par_sum_93 (by decide) ?_
            refine lv_icmp_ne (tgt := 111) hx hb d_Par_sum_95 (by decide) (fun c21 => ?_) (fun c21 => ?_)
            · skip
              rw [if_neg c21] at hok
              refine lv_iload hx hb d_Par_sum_111 (lv_at hl 0 rfl) ?_
              refine lv_istore_n (lv' := [(2, .int r1), (4, .int r1), (3, .int i3), (0, .ref h), (1, .int x)]) hx hb d_Par_sum_113 rfl hl (by decide) rfl (fun ls hl => ?_)
              refine lv_iinc (v := i3 + 1) (lv' := [(3, .int (i3 + 1)), (2, .int r1), (4, .int r1), (0, .ref h), (1, .int x)]) hx hb d_Par_sum_114 hl (k := 2) rfl (by rfl) (by decide) rfl (fun ls hl => ?_)
              refine lv_goto (tgt := 14) hx hb d_Par_sum_117 (by decide) ?_
              have e_ : (lp_Par_sum_14 fac script_tokens_f_kinds script_tokens_f_values script_f_letOfLetter x (n + 1) i2 i3 w3_h w4_h w2_script_conditions_h g_script_conditions_a_steps g_script_conditions_a_values) = (lp_Par_sum_14 fac script_tokens_f_kinds script_tokens_f_values script_f_letOfLetter x n r1 (i3 + 1) r12.2.1 r12.2.2.1 r12.2.2.2.1 r12.2.2.2.2.1 r12.2.2.2.2.2) := (by rw [lp_Par_sum_14] <;> simp only [hr1, hr12] <;> rw [if_neg c1, if_neg c2, if_pos c12, if_neg c13, if_neg c16, if_pos c19, if_neg c20, if_neg c21])
              rw [e_]
              exact ih r1 (i3 + 1) r12.2.1 r12.2.2.1 r12.2.2.2.1 r12.2.2.2.2.1 r12.2.2.2.2.2 hok _ _ _ hP hD hS (lv_sub hl [0, 1, 3, 4] rfl)
            rw [if_pos c21] at hok
            refine lv_aload_n hx hb d_Par_sum_98 rfl (lv_at hl 3 rfl) ?_
            refine va_get (D := G.1) (ci := 11) (C := R_Par) (T := F_Par) (N := 5) (v := .ref script_conditions_h) hx hb hts i_Par hown hK hP 0 rfl rfl 2 (by decide) (hts (.fieldLink R_Par 26 "PrivateQueries$Parser" "conditions" "LPrivateQueries$Conditions;") k_755) (fun _ h9 => h9) rfl d_Par_sum_99 ?_
            refine lv_bipush (v := 25) hx hb d_Par_sum_102 (by decide) ?_
            refine lv_iconst (v := 0) hx hb d_Par_sum_104 (by decide) ?_
            obtain ⟨hv13, hok⟩ := hok
            obtain ⟨r13, hr13⟩ : ∃ r, (s_Cond_add r12.2.2.2.2.1 r12.2.2.2.2.2 r12.2.2.2.1 25 0) = r := ⟨_, rfl⟩
            try simp only [hr13] at hok
            have hC_r13 := (c_Cond_add l G script_conditions_h script_conditions_a_steps script_conditions_a_values script_conditions_a_stack script_conditions_a_holding r12.2.2.2.2.1 r12.2.2.2.2.2 r12.2.2.2.1 script_conditions__height 25 0 hv13)
            rw [hr13] at hC_r13
            refine ly_callV (rest := []) (wf := [(h, .inr (11, [.ref script_h, .ref script_tokens_h, .ref script_conditions_h, .int r12.2.1, .int r12.2.2.1])), (script_h, .inr (10, [.ref script_tokens_h, .ref script_conditions_h, .ref script_a_questions, .int script__asked, .ref script_a_letStarts, .ref script_a_letEnds, .ref script_a_letOfLetter, .int script__lets])), (script_tokens_h, .inr (7, [.ref script_tokens_a_kinds, .ref script_tokens_a_values, .ref script_tokens_a_places, .int script_tokens__size])), (script_tokens_a_kinds, .inl (gI G, 2001, .inl script_tokens_f_kinds)), (script_tokens_a_values, .inl (gI G, 2001, .inl script_tokens_f_values)), (script_conditions_h, .inr (8, [.ref script_conditions_a_steps, .ref script_conditions_a_values, .int r13.1, .ref script_conditions_a_stack, .int script_conditions__height, .ref script_conditions_a_holding])), (script_conditions_a_steps, .inl (gI G, 2000, .inl r13.2.1)), (script_conditions_a_values, .inl (gI G, 2000, .inl r13.2.2)), (script_a_letOfLetter, .inl (gI G, 26, .inl script_f_letOfLetter))]) ⟨hx, hb, hml, hown, hts⟩ hA hK hZ hP hD hS hC_r13 (cwV 2 hts g_Par_143 rfl rfl rfl (by decide +kernel) ⟨by simp only [rmD]; omega, by simp only [rmD]; omega⟩) (ci := 8) (q0 := 5) rfl rfl rfl [5, 6, 7] rfl (by decide) rfl rfl rfl hl.1 rfl (Nat.le_of_ble_eq_true rfl) d_Par_sum_105 ⟨Nat.le_of_ble_eq_true rfl, Nat.le_of_ble_eq_true rfl⟩ (st1 := []) (c1 := 0) (s1 := 0) rfl rfl rfl (fun H locs hP hD hS => ?_)
            refine lv_goto (tgt := 114) hx hb d_Par_sum_108 (by decide) ?_
            refine lv_iinc (v := i3 + 1) (lv' := [(3, .int (i3 + 1)), (4, .int r1), (2, .int i2), (0, .ref h), (1, .int x)]) hx hb d_Par_sum_114 hl (k := 1) rfl (by rfl) (by decide) rfl (fun ls hl => ?_)
            refine lv_goto (tgt := 14) hx hb d_Par_sum_117 (by decide) ?_
            have e_ : (lp_Par_sum_14 fac script_tokens_f_kinds script_tokens_f_values script_f_letOfLetter x (n + 1) i2 i3 w3_h w4_h w2_script_conditions_h g_script_conditions_a_steps g_script_conditions_a_values) = (lp_Par_sum_14 fac script_tokens_f_kinds script_tokens_f_values script_f_letOfLetter x n i2 (i3 + 1) r12.2.1 r12.2.2.1 r13.1 r13.2.1 r13.2.2) := (by rw [lp_Par_sum_14] <;> simp only [hr1, hr12, hr13] <;> rw [if_neg c1, if_neg c2, if_pos c12, if_neg c13, if_neg c16, if_pos c19, if_neg c20, if_pos c21])
            rw [e_]
            exact ih i2 (i3 + 1) r12.2.1 r12.2.2.1 r13.1 r13.2.1 r13.2.2 hok _ _ _ hP hD hS (lv_sub hl [0, 2, 3, 4] rfl)
          rw [if_pos c20] at hok
          refine lv_iconst (v := 0) hx hb d_Par_sum_89 (by decide) ?_
          exact ly_zret hx hb hr hlocks hP hD hS d_Par_sum_90 (by decide) (by rw [lp_Par_sum_14] <;> simp only [hr1, hr12] <;> rw [if_neg c1, if_neg c2, if_pos c12, if_neg c13, if_neg c16, if_pos c19, if_pos c20]) (by rw [lp_Par_sum_14] <;> simp only [hr1, hr12] <;> rw [if_neg c1, if_neg c2, if_pos c12, if_neg c13, if_neg c16, if_pos c19, if_pos c20])
        rw [if_neg c19] at hok
        refine lv_iconst (v := 1) hx hb d_Par_sum_69 (by decide) ?_
        exact ly_zret hx hb hr hlocks hP hD hS d_Par_sum_70 (by decide) (by rw [lp_Par_sum_14] <;> simp only [hr1] <;> rw [if_neg c1, if_neg c2, if_pos c12, if_neg c13, if_neg c16, if_neg c19]) (by rw [lp_Par_sum_14] <;> simp only [hr1] <;> rw [if_neg c1, if_neg c2, if_pos c12, if_neg c13, if_neg c16, if_neg c19])
      rw [if_neg c12] at hok
      refine lv_aload_n hx hb d_Par_sum_39 rfl (lv_at hl 3 rfl) ?_
      refine va_get (D := G.1) (ci := 11) (C := R_Par) (T := F_Par) (N := 5) (v := .ref script_conditions_h) hx hb hts i_Par hown hK hP 0 rfl rfl 2 (by decide) (hts (.fieldLink R_Par 26 "PrivateQueries$Parser" "conditions" "LPrivateQueries$Conditions;") k_755) (fun _ h9 => h9) rfl d_Par_sum_40 ?_
      refine lv_iload_n hx hb d_Par_sum_43 rfl (lv_at hl 2 rfl) ?_
      refine lv_iconst (v := 0) hx hb d_Par_sum_44 (by decide) ?_
      obtain ⟨hv14, hok⟩ := hok
      obtain ⟨r14, hr14⟩ : ∃ r, (s_Cond_add g_script_conditions_a_steps g_script_conditions_a_values w2_script_conditions_h i2 0) = r := ⟨_, rfl⟩
      try simp only [hr14] at hok
      have hC_r14 := (c_Cond_add l G script_conditions_h script_conditions_a_steps script_conditions_a_values script_conditions_a_stack script_conditions_a_holding g_script_conditions_a_steps g_script_conditions_a_values w2_script_conditions_h script_conditions__height i2 0 hv14)
      rw [hr14] at hC_r14
      refine ly_callV (rest := []) (wf := [(h, .inr (11, [.ref script_h, .ref script_tokens_h, .ref script_conditions_h, .int w3_h, .int w4_h])), (script_h, .inr (10, [.ref script_tokens_h, .ref script_conditions_h, .ref script_a_questions, .int script__asked, .ref script_a_letStarts, .ref script_a_letEnds, .ref script_a_letOfLetter, .int script__lets])), (script_tokens_h, .inr (7, [.ref script_tokens_a_kinds, .ref script_tokens_a_values, .ref script_tokens_a_places, .int script_tokens__size])), (script_tokens_a_kinds, .inl (gI G, 2001, .inl script_tokens_f_kinds)), (script_tokens_a_values, .inl (gI G, 2001, .inl script_tokens_f_values)), (script_conditions_h, .inr (8, [.ref script_conditions_a_steps, .ref script_conditions_a_values, .int r14.1, .ref script_conditions_a_stack, .int script_conditions__height, .ref script_conditions_a_holding])), (script_conditions_a_steps, .inl (gI G, 2000, .inl r14.2.1)), (script_conditions_a_values, .inl (gI G, 2000, .inl r14.2.2)), (script_a_letOfLetter, .inl (gI G, 26, .inl script_f_letOfLetter))]) ⟨hx, hb, hml, hown, hts⟩ hA hK hZ hP hD hS hC_r14 (cwV 2 hts g_Par_143 rfl rfl rfl (by decide +kernel) ⟨by simp only [rmD]; omega, by simp only [rmD]; omega⟩) (ci := 8) (q0 := 5) rfl rfl rfl [5, 6, 7] rfl (by decide) rfl rfl rfl hl.1 rfl (Nat.le_of_ble_eq_true rfl) d_Par_sum_45 ⟨Nat.le_of_ble_eq_true rfl, Nat.le_of_ble_eq_true rfl⟩ (st1 := []) (c1 := 0) (s1 := 0) rfl rfl rfl (fun H locs hP hD hS => ?_)
      refine lv_iload hx hb d_Par_sum_48 (lv_at hl 0 rfl) ?_
      refine lv_bipush (v := 25) hx hb d_Par_sum_50 (by decide) ?_
      refine lv_icmp_eq (tgt := 71) hx hb d_Par_sum_52 (by decide) (fun c22 => ?_) (fun c22 => ?_)
      · skip
        rw [if_pos c22] at hok
        refine lv_aload_n hx hb d_Par_sum_71 rfl (lv_at hl 3 rfl) ?_
        refine lv_dup hx hb d_Par_sum_72 rfl ?_
        refine va_get (D := G.1) (ci := 11) (C := R_Par) (T := F_Par) (N := 5) (v := .int w3_h) hx hb hts i_Par hown hK hP 0 rfl rfl 3 (by decide) (hts (.fieldLink R_Par 27 "PrivateQueries$Parser" "at" "I") k_129) (fun _ h9 => h9) rfl d_Par_sum_73 ?_
        refine lv_iconst (v := 1) hx hb d_Par_sum_76 (by decide) ?_
        refine lv_iadd hx hb d_Par_sum_77 ?_
        refine va_put (D := G.1) (ci := 11) (v := .int (w3_h + 1)) (ty := .int) (C := R_Par) (T := F_Par) (N := 5) hx hb hts i_Par t_Par t_Par_ok n_Par hown hK hP hD hS 0 rfl rfl 3 (by decide) (hts (.fieldLink R_Par 27 "PrivateQueries$Parser" "at" "I") k_129) (fun _ h9 => h9) rfl (by decide +kernel) rfl rfl (Nat.le_of_ble_eq_true rfl) d_Par_sum_78 (fun H locs hP hD hS => ?_)
        have hP : va_P G.1 classes [(h, .inr (11, [.ref script_h, .ref script_tokens_h, .ref script_conditions_h, .int (w3_h + 1), .int w4_h])), (script_h, .inr (10, [.ref script_tokens_h, .ref script_conditions_h, .ref script_a_questions, .int script__asked, .ref script_a_letStarts, .ref script_a_letEnds, .ref script_a_letOfLetter, .int script__lets])), (script_tokens_h, .inr (7, [.ref script_tokens_a_kinds, .ref script_tokens_a_values, .ref script_tokens_a_places, .int script_tokens__size])), (script_tokens_a_kinds, .inl (gI G, 2001, .inl script_tokens_f_kinds)), (script_tokens_a_values, .inl (gI G, 2001, .inl script_tokens_f_values)), (script_conditions_h, .inr (8, [.ref script_conditions_a_steps, .ref script_conditions_a_values, .int r14.1, .ref script_conditions_a_stack, .int script_conditions__height, .ref script_conditions_a_holding])), (script_conditions_a_steps, .inl (gI G, 2000, .inl r14.2.1)), (script_conditions_a_values, .inl (gI G, 2000, .inl r14.2.2)), (script_a_letOfLetter, .inl (gI G, 26, .inl script_f_letOfLetter))] H := hP
        have hD : va_D A [(h, .inr (11, [.ref script_h, .ref script_tokens_h, .ref script_conditions_h, .int (w3_h + 1), .int w4_h])), (script_h, .inr (10, [.ref script_tokens_h, .ref script_conditions_h, .ref script_a_questions, .int script__asked, .ref script_a_letStarts, .ref script_a_letEnds, .ref script_a_letOfLetter, .int script__lets])), (script_tokens_h, .inr (7, [.ref script_tokens_a_kinds, .ref script_tokens_a_values, .ref script_tokens_a_places, .int script_tokens__size])), (script_tokens_a_kinds, .inl (gI G, 2001, .inl script_tokens_f_kinds)), (script_tokens_a_values, .inl (gI G, 2001, .inl script_tokens_f_values)), (script_conditions_h, .inr (8, [.ref script_conditions_a_steps, .ref script_conditions_a_values, .int r14.1, .ref script_conditions_a_stack, .int script_conditions__height, .ref script_conditions_a_holding])), (script_conditions_a_steps, .inl (gI G, 2000, .inl r14.2.1)), (script_conditions_a_values, .inl (gI G, 2000, .inl r14.2.2)), (script_a_letOfLetter, .inl (gI G, 26, .inl script_f_letOfLetter))] := hD
        refine lv_aload_n hx hb d_Par_sum_81 rfl (lv_at hl 3 rfl) ?_
        refine lv_iload_n hx hb d_Par_sum_82 rfl (lv_at hl 4 rfl) ?_
        obtain ⟨hv15, hok⟩ := hok
        obtain ⟨r15, hr15⟩ : ∃ r, (fac script_tokens_f_kinds script_tokens_f_values r14.2.1 r14.2.2 r14.1 script_f_letOfLetter (w3_h + 1) w4_h x) = r := ⟨_, rfl⟩
        try simp only [hr15] at hok
        have hC_r15 := (hfac h script_h script_tokens_h script_tokens_a_kinds script_tokens_a_values script_tokens_a_places script_conditions_h script_conditions_a_steps script_conditions_a_values script_conditions_a_stack script_conditions_a_holding script_a_questions script_a_letStarts script_a_letEnds script_a_letOfLetter script_tokens_f_kinds script_tokens_f_values script_tokens__size r14.2.1 r14.2.2 r14.1 script_conditions__height script__asked script_f_letOfLetter script__lets (w3_h + 1) w4_h x hv15)
        rw [hr15] at hC_r15
        have hf_r15_1 : isB r15.1 := by rw [← hr15]; exact zfac
        have hc_ : ∀ (x0_ x1_ x2_ x3_ x4_ x5_ x6_ x7_ x8_ : Nat × va_E) (t_ : va_W), List.map (fun i => (x0_ :: x1_ :: x2_ :: x3_ :: x4_ :: x5_ :: x6_ :: x7_ :: x8_ :: t_)[i]?) [0, 1, 2, 3, 4, 5, 6, 7, 8] = List.map some [x0_, x1_, x2_, x3_, x4_, x5_, x6_, x7_, x8_] := fun _ _ _ _ _ _ _ _ _ _ => rfl
        have hf_ : ∀ (x0_ x1_ x2_ x3_ x4_ x5_ x6_ x7_ x8_ y0_ y1_ y2_ y3_ y4_ y5_ y6_ y7_ y8_ : Nat × va_E) (t_ : va_W), setAll (x0_ :: x1_ :: x2_ :: x3_ :: x4_ :: x5_ :: x6_ :: x7_ :: x8_ :: t_) [0, 1, 2, 3, 4, 5, 6, 7, 8] [y0_, y1_, y2_, y3_, y4_, y5_, y6_, y7_, y8_] = y0_ :: y1_ :: y2_ :: y3_ :: y4_ :: y5_ :: y6_ :: y7_ :: y8_ :: t_ := fun _ _ _ _ _ _ _ _ _ _ _ _ _ _ _ _ _ _ _ => Eq.trans (setAll_M (bs := [true, true, true, true, true, true, true, true, true]) trivial rfl) rfl
        refine ly_callV (rest := []) (wf := [(h, .inr (11, [.ref script_h, .ref script_tokens_h, .ref script_conditions_h, .int r15.2.1, .int r15.2.2.1])), (script_h, .inr (10, [.ref script_tokens_h, .ref script_conditions_h, .ref script_a_questions, .int script__asked, .ref script_a_letStarts, .ref script_a_letEnds, .ref script_a_letOfLetter, .int script__lets])), (script_tokens_h, .inr (7, [.ref script_tokens_a_kinds, .ref script_tokens_a_values, .ref script_tokens_a_places, .int script_tokens__size])), (script_tokens_a_kinds, .inl (gI G, 2001, .inl script_tokens_f_kinds)), (script_tokens_a_values, .inl (gI G, 2001, .inl script_tokens_f_values)), (script_conditions_h, .inr (8, [.ref script_conditions_a_steps, .ref script_conditions_a_values, .int r15.2.2.2.1, .ref script_conditions_a_stack, .int script_conditions__height, .ref script_conditions_a_holding])), (script_conditions_a_steps, .inl (gI G, 2000, .inl r15.2.2.2.2.1)), (script_conditions_a_values, .inl (gI G, 2000, .inl r15.2.2.2.2.2)), (script_a_letOfLetter, .inl (gI G, 26, .inl script_f_letOfLetter))]) ⟨hx, hb, hml, hown, hts⟩ hA hK hZ hP hD hS hC_r15 (cwV 1 hts g_Par_155 rfl rfl rfl (by decide +kernel) ⟨by simp only [rmD]; omega, by simp only [rmD]; omega⟩) (ci := 11) (q0 := 0) rfl rfl rfl [0, 1, 2, 3, 4, 5, 6, 7, 8] (hc_ _ _ _ _ _ _ _ _ _ _) (by decide) rfl (hf_ _ _ _ _ _ _ _ _ _ _ _ _ _ _ _ _ _ _ _) rfl hl.1 rfl (Nat.le_of_ble_eq_true rfl) d_Par_sum_83 ⟨Nat.le_of_ble_eq_true rfl, Nat.le_of_ble_eq_true rfl⟩ (st1 := [.int r15.1]) (c1 := 0) (s1 := 0) rfl rfl rfl (fun H locs hP hD hS => ?_)
        refine lv_if_ne (tgt := 91) hx hb d_Par_sum_86 (by decide) (fun c23 => ?_) (fun c23 => ?_)
        · skip
          rw [if_neg c23] at hok
          refine lv_iload hx hb d_Par_sum_91 (lv_at hl 0 rfl) ?_
          refine lv_bipush (v := 25) hx hb d_Par_sum_93 (by decide) ?_
          refine lv_icmp_ne (tgt := 111) hx hb d_Par_sum_95 (by decide) (fun c24 => ?_) (fun c24 => ?_)
          · skip
            rw [if_neg c24] at hok
            refine lv_iload hx hb d_Par_sum_111 (lv_at hl 0 rfl) ?_
            refine lv_istore_n (lv' := [(2, .int r1), (4, .int r1), (3, .int i3), (0, .ref h), (1, .int x)]) hx hb d_Par_sum_113 rfl hl (by decide) rfl (fun ls hl => ?_)
            refine lv_iinc (v := i3 + 1) (lv' := [(3, .int (i3 + 1)), (2, .int r1), (4, .int r1), (0, .ref h), (1, .int x)]) hx hb d_Par_sum_114 hl (k := 2) rfl (by rfl) (by decide) rfl (fun ls hl => ?_)
            refine lv_goto (tgt := 14) hx hb d_Par_sum_117 (by decide) ?_
            have e_ : (lp_Par_sum_14 fac script_tokens_f_kinds script_tokens_f_values script_f_letOfLetter x (n + 1) i2 i3 w3_h w4_h w2_script_conditions_h g_script_conditions_a_steps g_script_conditions_a_values) = (lp_Par_sum_14 fac script_tokens_f_kinds script_tokens_f_values script_f_letOfLetter x n r1 (i3 + 1) r15.2.1 r15.2.2.1 r15.2.2.2.1 r15.2.2.2.2.1 r15.2.2.2.2.2) := (by rw [lp_Par_sum_14] <;> simp only [hr1, hr14, hr15] <;> rw [if_neg c1, if_neg c2, if_neg c12, if_pos c22, if_neg c23, if_neg c24])
            rw [e_]
            exact ih r1 (i3 + 1) r15.2.1 r15.2.2.1 r15.2.2.2.1 r15.2.2.2.2.1 r15.2.2.2.2.2 hok _ _ _ hP hD hS (lv_sub hl [0, 1, 3, 4] rfl)
          rw [if_pos c24] at hok
          refine lv_aload_n hx hb d_Par_sum_98 rfl (lv_at hl 3 rfl) ?_
          refine va_get (D := G.1) (ci := 11) (C := R_Par) (T := F_Par) (N := 5) (v := .ref script_conditions_h) hx hb hts i_Par hown hK hP 0 rfl rfl 2 (by decide) (hts (.fieldLink R_Par 26 "PrivateQueries$Parser" "conditions" "LPrivateQueries$Conditions;") k_755) (fun _ h9 => h9) rfl d_Par_sum_99 ?_
          refine lv_bipush (v := 25) hx hb d_Par_sum_102 (by decide) ?_
          refine lv_iconst (v := 0) hx hb d_Par_sum_104 (by decide) ?_
          obtain ⟨hv16, hok⟩ := hok
          obtain ⟨r16, hr16⟩ : ∃ r, (s_Cond_add r15.2.2.2.2.1 r15.2.2.2.2.2 r15.2.2.2.1 25 0) = r := ⟨_, rfl⟩
          try simp only [hr16] at hok
          have hC_r16 := (c_Cond_add l G script_conditions_h script_conditions_a_steps script_conditions_a_values script_conditions_a_stack script_conditions_a_holding r15.2.2.2.2.1 r15.2.2.2.2.2 r15.2.2.2.1 script_conditions__height 25 0 hv16)
          rw [hr16] at hC_r16
          refine ly_callV (rest := []) (wf := [(h, .inr (11, [.ref script_h, .ref script_tokens_h, .ref script_conditions_h, .int r15.2.1, .int r15.2.2.1])), (script_h, .inr (10, [.ref script_tokens_h, .ref script_conditions_h, .ref script_a_questions, .int script__asked, .ref script_a_letStarts, .ref script_a_letEnds, .ref script_a_letOfLetter, .int script__lets])), (script_tokens_h, .inr (7, [.ref script_tokens_a_kinds, .ref script_tokens_a_values, .ref script_tokens_a_places, .int script_tokens__size])), (script_tokens_a_kinds, .inl (gI G, 2001, .inl script_tokens_f_kinds)), (script_tokens_a_values, .inl (gI G, 2001, .inl script_tokens_f_values)), (script_conditions_h, .inr (8, [.ref script_conditions_a_steps, .ref script_conditions_a_values, .int r16.1, .ref script_conditions_a_stack, .int script_conditions__height, .ref script_conditions_a_holding])), (script_conditions_a_steps, .inl (gI G, 2000, .inl r16.2.1)), (script_conditions_a_values, .inl (gI G, 2000, .inl r16.2.2)), (script_a_letOfLetter, .inl (gI G, 26, .inl script_f_letOfLetter))]) ⟨hx, hb, hml, hown, hts⟩ hA hK hZ hP hD hS hC_r16 (cwV 2 hts g_Par_143 rfl rfl rfl (by decide +kernel) ⟨by simp only [rmD]; omega, by simp only [rmD]; omega⟩) (ci := 8) (q0 := 5) rfl rfl rfl [5, 6, 7] rfl (by decide) rfl rfl rfl hl.1 rfl (Nat.le_of_ble_eq_true rfl) d_Par_sum_105 ⟨Nat.le_of_ble_eq_true rfl, Nat.le_of_ble_eq_true rfl⟩ (st1 := []) (c1 := 0) (s1 := 0) rfl rfl rfl (fun H locs hP hD hS => ?_)
          refine lv_goto (tgt := 114) hx hb d_Par_sum_108 (by decide) ?_
          refine lv_iinc (v := i3 + 1) (lv' := [(3, .int (i3 + 1)), (4, .int r1), (2, .int i2), (0, .ref h), (1, .int x)]) hx hb d_Par_sum_114 hl (k := 1) rfl (by rfl) (by decide) rfl (fun ls hl => ?_)
          refine lv_goto (tgt := 14) hx hb d_Par_sum_117 (by decide) ?_
          have e_ : (lp_Par_sum_14 fac script_tokens_f_kinds script_tokens_f_values script_f_letOfLetter x (n + 1) i2 i3 w3_h w4_h w2_script_conditions_h g_script_conditions_a_steps g_script_conditions_a_values) = (lp_Par_sum_14 fac script_tokens_f_kinds script_tokens_f_values script_f_letOfLetter x n i2 (i3 + 1) r15.2.1 r15.2.2.1 r16.1 r16.2.1 r16.2.2) := (by rw [lp_Par_sum_14] <;> simp only [hr1, hr14, hr15, hr16] <;> rw [if_neg c1, if_neg c2, if_neg c12, if_pos c22, if_neg c23, if_pos c24])
          rw [e_]
          exact ih i2 (i3 + 1) r15.2.1 r15.2.2.1 r16.1 r16.2.1 r16.2.2 hok _ _ _ hP hD hS (lv_sub hl [0, 2, 3, 4] rfl)
        rw [if_pos c23] at hok
        refine lv_iconst (v := 0) hx hb d_Par_sum_89 (by decide) ?_
        exact ly_zret hx hb hr hlocks hP hD hS d_Par_sum_90 (by decide) (by rw [lp_Par_sum_14] <;> simp only [hr1, hr14, hr15] <;> rw [if_neg c1, if_neg c2, if_neg c12, if_pos c22, if_pos c23]) (by rw [lp_Par_sum_14] <;> simp only [hr1, hr14, hr15] <;> rw [if_neg c1, if_neg c2, if_neg c12, if_pos c22, if_pos c23])
      rw [if_neg c22] at hok
      refine lv_iload hx hb d_Par_sum_55 (lv_at hl 0 rfl) ?_
      refine lv_bipush (v := 23) hx hb d_Par_sum_57 (by decide) ?_
      refine lv_icmp_eq (tgt := 71) hx hb d_Par_sum_59 (by decide) (fun c25 => ?_) (fun c25 => ?_)
      · skip
        rw [if_pos c25] at hok
        refine lv_aload_n hx hb d_Par_sum_71 rfl (lv_at hl 3 rfl) ?_
        refine lv_dup hx hb d_Par_sum_72 rfl ?_
        refine va_get (D := G.1) (ci := 11) (C := R_Par) (T := F_Par) (N := 5) (v := .int w3_h) hx hb hts i_Par hown hK hP 0 rfl rfl 3 (by decide) (hts (.fieldLink R_Par 27 "PrivateQueries$Parser" "at" "I") k_129) (fun _ h9 => h9) rfl d_Par_sum_73 ?_
        refine lv_iconst (v := 1) hx hb d_Par_sum_76 (by decide) ?_
        refine lv_iadd hx hb d_Par_sum_77 ?_
        refine va_put (D := G.1) (ci := 11) (v := .int (w3_h + 1)) (ty := .int) (C := R_Par) (T := F_Par) (N := 5) hx hb hts i_Par t_Par t_Par_ok n_Par hown hK hP hD hS 0 rfl rfl 3 (by decide) (hts (.fieldLink R_Par 27 "PrivateQueries$Parser" "at" "I") k_129) (fun _ h9 => h9) rfl (by decide +kernel) rfl rfl (Nat.le_of_ble_eq_true rfl) d_Par_sum_78 (fun H locs hP hD hS => ?_)
        have hP : va_P G.1 classes [(h, .inr (11, [.ref script_h, .ref script_tokens_h, .ref script_conditions_h, .int (w3_h + 1), .int w4_h])), (script_h, .inr (10, [.ref script_tokens_h, .ref script_conditions_h, .ref script_a_questions, .int script__asked, .ref script_a_letStarts, .ref script_a_letEnds, .ref script_a_letOfLetter, .int script__lets])), (script_tokens_h, .inr (7, [.ref script_tokens_a_kinds, .ref script_tokens_a_values, .ref script_tokens_a_places, .int script_tokens__size])), (script_tokens_a_kinds, .inl (gI G, 2001, .inl script_tokens_f_kinds)), (script_tokens_a_values, .inl (gI G, 2001, .inl script_tokens_f_values)), (script_conditions_h, .inr (8, [.ref script_conditions_a_steps, .ref script_conditions_a_values, .int r14.1, .ref script_conditions_a_stack, .int script_conditions__height, .ref script_conditions_a_holding])), (script_conditions_a_steps, .inl (gI G, 2000, .inl r14.2.1)), (script_conditions_a_values, .inl (gI G, 2000, .inl r14.2.2)), (script_a_letOfLetter, .inl (gI G, 26, .inl script_f_letOfLetter))] H := hP
        have hD : va_D A [(h, .inr (11, [.ref script_h, .ref script_tokens_h, .ref script_conditions_h, .int (w3_h + 1), .int w4_h])), (script_h, .inr (10, [.ref script_tokens_h, .ref script_conditions_h, .ref script_a_questions, .int script__asked, .ref script_a_letStarts, .ref script_a_letEnds, .ref script_a_letOfLetter, .int script__lets])), (script_tokens_h, .inr (7, [.ref script_tokens_a_kinds, .ref script_tokens_a_values, .ref script_tokens_a_places, .int script_tokens__size])), (script_tokens_a_kinds, .inl (gI G, 2001, .inl script_tokens_f_kinds)), (script_tokens_a_values, .inl (gI G, 2001, .inl script_tokens_f_values)), (script_conditions_h, .inr (8, [.ref script_conditions_a_steps, .ref script_conditions_a_values, .int r14.1, .ref script_conditions_a_stack, .int script_conditions__height, .ref script_conditions_a_holding])), (script_conditions_a_steps, .inl (gI G, 2000, .inl r14.2.1)), (script_conditions_a_values, .inl (gI G, 2000, .inl r14.2.2)), (script_a_letOfLetter, .inl (gI G, 26, .inl script_f_letOfLetter))] := hD
        refine lv_aload_n hx hb d_Par_sum_81 rfl (lv_at hl 3 rfl) ?_
        refine lv_iload_n hx hb d_Par_sum_82 rfl (lv_at hl 4 rfl) ?_
        obtain ⟨hv17, hok⟩ := hok
        obtain ⟨r17, hr17⟩ : ∃ r, (fac script_tokens_f_kinds script_tokens_f_values r14.2.1 r14.2.2 r14.1 script_f_letOfLetter (w3_h + 1) w4_h x) = r := ⟨_, rfl⟩
        try simp only [hr17] at hok
        have hC_r17 := (hfac h script_h script_tokens_h script_tokens_a_kinds script_tokens_a_values script_tokens_a_places script_conditions_h script_conditions_a_steps script_conditions_a_values script_conditions_a_stack script_conditions_a_holding script_a_questions script_a_letStarts script_a_letEnds script_a_letOfLetter script_tokens_f_kinds script_tokens_f_values script_tokens__size r14.2.1 r14.2.2 r14.1 script_conditions__height script__asked script_f_letOfLetter script__lets (w3_h + 1) w4_h x hv17)
        rw [hr17] at hC_r17
        have hf_r17_1 : isB r17.1 := by rw [← hr17]; exact zfac
        have hc_ : ∀ (x0_ x1_ x2_ x3_ x4_ x5_ x6_ x7_ x8_ : Nat × va_E) (t_ : va_W), List.map (fun i => (x0_ :: x1_ :: x2_ :: x3_ :: x4_ :: x5_ :: x6_ :: x7_ :: x8_ :: t_)[i]?) [0, 1, 2, 3, 4, 5, 6, 7, 8] = List.map some [x0_, x1_, x2_, x3_, x4_, x5_, x6_, x7_, x8_] := fun _ _ _ _ _ _ _ _ _ _ => rfl
        have hf_ : ∀ (x0_ x1_ x2_ x3_ x4_ x5_ x6_ x7_ x8_ y0_ y1_ y2_ y3_ y4_ y5_ y6_ y7_ y8_ : Nat × va_E) (t_ : va_W), setAll (x0_ :: x1_ :: x2_ :: x3_ :: x4_ :: x5_ :: x6_ :: x7_ :: x8_ :: t_) [0, 1, 2, 3, 4, 5, 6, 7, 8] [y0_, y1_, y2_, y3_, y4_, y5_, y6_, y7_, y8_] = y0_ :: y1_ :: y2_ :: y3_ :: y4_ :: y5_ :: y6_ :: y7_ :: y8_ :: t_ := fun _ _ _ _ _ _ _ _ _ _ _ _ _ _ _ _ _ _ _ => Eq.trans (setAll_M (bs := [true, true, true, true, true, true, true, true, true]) trivial rfl) rfl
        refine ly_callV (rest := []) (wf := [(h, .inr (11, [.ref script_h, .ref script_tokens_h, .ref script_conditions_h, .int r17.2.1, .int r17.2.2.1])), (script_h, .inr (10, [.ref script_tokens_h, .ref script_conditions_h, .ref script_a_questions, .int script__asked, .ref script_a_letStarts, .ref script_a_letEnds, .ref script_a_letOfLetter, .int script__lets])), (script_tokens_h, .inr (7, [.ref script_tokens_a_kinds, .ref script_tokens_a_values, .ref script_tokens_a_places, .int script_tokens__size])), (script_tokens_a_kinds, .inl (gI G, 2001, .inl script_tokens_f_kinds)), (script_tokens_a_values, .inl (gI G, 2001, .inl script_tokens_f_values)), (script_conditions_h, .inr (8, [.ref script_conditions_a_steps, .ref script_conditions_a_values, .int r17.2.2.2.1, .ref script_conditions_a_stack, .int script_conditions__height, .ref script_conditions_a_holding])), (script_conditions_a_steps, .inl (gI G, 2000, .inl r17.2.2.2.2.1)), (script_conditions_a_values, .inl (gI G, 2000, .inl r17.2.2.2.2.2)), (script_a_letOfLetter, .inl (gI G, 26, .inl script_f_letOfLetter))]) ⟨hx, hb, hml, hown, hts⟩ hA hK hZ hP hD hS hC_r17 (cwV 1 hts g_Par_155 rfl rfl rfl (by decide +kernel) ⟨by simp only [rmD]; omega, by simp only [rmD]; omega⟩) (ci := 11) (q0 := 0) rfl rfl rfl [0, 1, 2, 3, 4, 5, 6, 7, 8] (hc_ _ _ _ _ _ _ _ _ _ _) (by decide) rfl (hf_ _ _ _ _ _ _ _ _ _ _ _ _ _ _ _ _ _ _ _) rfl hl.1 rfl (Nat.le_of_ble_eq_true rfl) d_Par_sum_83 ⟨Nat.le_of_ble_eq_true rfl, Nat.le_of_ble_eq_true rfl⟩ (st1 := [.int r17.1]) (c1 := 0) (s1 := 0) rfl rfl rfl (fun H locs hP hD hS => ?_)
        refine lv_if_ne (tgt := 91) hx hb d_Par_sum_86 (by decide) (fun c26 => ?_) (fun c26 => ?_)
        · skip
          rw [if_neg c26] at hok
          refine lv_iload hx hb d_Par_sum_91 (lv_at hl 0 rfl) ?_
          refine lv_bipush (v := 25) hx hb d_Par_sum_93 (by decide) ?_
          refine lv_icmp_ne (tgt := 111) hx hb d_Par_sum_95 (by decide) (fun c27 => ?_) (fun c27 => ?_)
          · skip
            rw [if_neg c27] at hok
            refine lv_iload hx hb d_Par_sum_111 (lv_at hl 0 rfl) ?_
            refine lv_istore_n (lv' := [(2, .int r1), (4, .int r1), (3, .int i3), (0, .ref h), (1, .int x)]) hx hb d_Par_sum_113 rfl hl (by decide) rfl (fun ls hl => ?_)
            refine lv_iinc (v := i3 + 1) (lv' := [(3, .int (i3 + 1)), (2, .int r1), (4, .int r1), (0, .ref h), (1, .int x)]) hx hb d_Par_sum_114 hl (k := 2) rfl (by rfl) (by decide) rfl (fun ls hl => ?_)
            refine lv_goto (tgt := 14) hx hb d_Par_sum_117 (by decide) ?_
            have e_ : (lp_Par_sum_14 fac script_tokens_f_kinds script_tokens_f_values script_f_letOfLetter x (n + 1) i2 i3 w3_h w4_h w2_script_conditions_h g_script_conditions_a_steps g_script_conditions_a_values) = (lp_Par_sum_14 fac script_tokens_f_kinds script_tokens_f_values script_f_letOfLetter x n r1 (i3 + 1) r17.2.1 r17.2.2.1 r17.2.2.2.1 r17.2.2.2.2.1 r17.2.2.2.2.2) := (by rw [lp_Par_sum_14] <;> simp only [hr1, hr14, hr17] <;> rw [if_neg c1, if_neg c2, if_neg c12, if_neg c22, if_pos c25, if_neg c26, if_neg c27])
            rw [e_]
            exact ih r1 (i3 + 1) r17.2.1 r17.2.2.1 r17.2.2.2.1 r17.2.2.2.2.1 r17.2.2.2.2.2 hok _ _ _ hP hD hS (lv_sub hl [0, 1, 3, 4] rfl)
          rw [if_pos c27] at hok
          refine lv_aload_n hx hb d_Par_sum_98 rfl (lv_at hl 3 rfl) ?_
          refine va_get (D := G.1) (ci := 11) (C := R_Par) (T := F_Par) (N := 5) (v := .ref script_conditions_h) hx hb hts i_Par hown hK hP 0 rfl rfl 2 (by decide) (hts (.fieldLink R_Par 26 "PrivateQueries$Parser" "conditions" "LPrivateQueries$Conditions;") k_755) (fun _ h9 => h9) rfl d_Par_sum_99 ?_
          refine lv_bipush (v := 25) hx hb d_Par_sum_102 (by decide) ?_
          refine lv_iconst (v := 0) hx hb d_Par_sum_104 (by decide) ?_
          obtain ⟨hv18, hok⟩ := hok
          obtain ⟨r18, hr18⟩ : ∃ r, (s_Cond_add r17.2.2.2.2.1 r17.2.2.2.2.2 r17.2.2.2.1 25 0) = r := ⟨_, rfl⟩
          try simp only [hr18] at hok
          have hC_r18 := (c_Cond_add l G script_conditions_h script_conditions_a_steps script_conditions_a_values script_conditions_a_stack script_conditions_a_holding r17.2.2.2.2.1 r17.2.2.2.2.2 r17.2.2.2.1 script_conditions__height 25 0 hv18)
          rw [hr18] at hC_r18
          refine ly_callV (rest := []) (wf := [(h, .inr (11, [.ref script_h, .ref script_tokens_h, .ref script_conditions_h, .int r17.2.1, .int r17.2.2.1])), (script_h, .inr (10, [.ref script_tokens_h, .ref script_conditions_h, .ref script_a_questions, .int script__asked, .ref script_a_letStarts, .ref script_a_letEnds, .ref script_a_letOfLetter, .int script__lets])), (script_tokens_h, .inr (7, [.ref script_tokens_a_kinds, .ref script_tokens_a_values, .ref script_tokens_a_places, .int script_tokens__size])), (script_tokens_a_kinds, .inl (gI G, 2001, .inl script_tokens_f_kinds)), (script_tokens_a_values, .inl (gI G, 2001, .inl script_tokens_f_values)), (script_conditions_h, .inr (8, [.ref script_conditions_a_steps, .ref script_conditions_a_values, .int r18.1, .ref script_conditions_a_stack, .int script_conditions__height, .ref script_conditions_a_holding])), (script_conditions_a_steps, .inl (gI G, 2000, .inl r18.2.1)), (script_conditions_a_values, .inl (gI G, 2000, .inl r18.2.2)), (script_a_letOfLetter, .inl (gI G, 26, .inl script_f_letOfLetter))]) ⟨hx, hb, hml, hown, hts⟩ hA hK hZ hP hD hS hC_r18 (cwV 2 hts g_Par_143 rfl rfl rfl (by decide +kernel) ⟨by simp only [rmD]; omega, by simp only [rmD]; omega⟩) (ci := 8) (q0 := 5) rfl rfl rfl [5, 6, 7] rfl (by decide) rfl rfl rfl hl.1 rfl (Nat.le_of_ble_eq_true rfl) d_Par_sum_105 ⟨Nat.le_of_ble_eq_true rfl, Nat.le_of_ble_eq_true rfl⟩ (st1 := []) (c1 := 0) (s1 := 0) rfl rfl rfl (fun H locs hP hD hS => ?_)
          refine lv_goto (tgt := 114) hx hb d_Par_sum_108 (by decide) ?_
          refine lv_iinc (v := i3 + 1) (lv' := [(3, .int (i3 + 1)), (4, .int r1), (2, .int i2), (0, .ref h), (1, .int x)]) hx hb d_Par_sum_114 hl (k := 1) rfl (by rfl) (by decide) rfl (fun ls hl => ?_)
          refine lv_goto (tgt := 14) hx hb d_Par_sum_117 (by decide) ?_
          have e_ : (lp_Par_sum_14 fac script_tokens_f_kinds script_tokens_f_values script_f_letOfLetter x (n + 1) i2 i3 w3_h w4_h w2_script_conditions_h g_script_conditions_a_steps g_script_conditions_a_values) = (lp_Par_sum_14 fac script_tokens_f_kinds script_tokens_f_values script_f_letOfLetter x n i2 (i3 + 1) r17.2.1 r17.2.2.1 r18.1 r18.2.1 r18.2.2) := (by rw [lp_Par_sum_14] <;> simp only [hr1, hr14, hr17, hr18] <;> rw [if_neg c1, if_neg c2, if_neg c12, if_neg c22, if_pos c25, if_neg c26, if_pos c27])
          rw [e_]
          exact ih i2 (i3 + 1) r17.2.1 r17.2.2.1 r18.1 r18.2.1 r18.2.2 hok _ _ _ hP hD hS (lv_sub hl [0, 2, 3, 4] rfl)
        rw [if_pos c26] at hok
        refine lv_iconst (v := 0) hx hb d_Par_sum_89 (by decide) ?_
        exact ly_zret hx hb hr hlocks hP hD hS d_Par_sum_90 (by decide) (by rw [lp_Par_sum_14] <;> simp only [hr1, hr14, hr17] <;> rw [if_neg c1, if_neg c2, if_neg c12, if_neg c22, if_pos c25, if_pos c26]) (by rw [lp_Par_sum_14] <;> simp only [hr1, hr14, hr17] <;> rw [if_neg c1, if_neg c2, if_neg c12, if_neg c22, if_pos c25, if_pos c26])
      rw [if_neg c25] at hok
      refine lv_iload hx hb d_Par_sum_62 (lv_at hl 0 rfl) ?_
      refine lv_bipush (v := 24) hx hb d_Par_sum_64 (by decide) ?_
      refine lv_icmp_eq (tgt := 71) hx hb d_Par_sum_66 (by decide) (fun c28 => ?_) (fun c28 => ?_)
      · skip
        rw [if_pos c28] at hok
        refine lv_aload_n hx hb d_Par_sum_71 rfl (lv_at hl 3 rfl) ?_
        refine lv_dup hx hb d_Par_sum_72 rfl ?_
        refine va_get (D := G.1) (ci := 11) (C := R_Par) (T := F_Par) (N := 5) (v := .int w3_h) hx hb hts i_Par hown hK hP 0 rfl rfl 3 (by decide) (hts (.fieldLink R_Par 27 "PrivateQueries$Parser" "at" "I") k_129) (fun _ h9 => h9) rfl d_Par_sum_73 ?_
        refine lv_iconst (v := 1) hx hb d_Par_sum_76 (by decide) ?_
        refine lv_iadd hx hb d_Par_sum_77 ?_
        refine va_put (D := G.1) (ci := 11) (v := .int (w3_h + 1)) (ty := .int) (C := R_Par) (T := F_Par) (N := 5) hx hb hts i_Par t_Par t_Par_ok n_Par hown hK hP hD hS 0 rfl rfl 3 (by decide) (hts (.fieldLink R_Par 27 "PrivateQueries$Parser" "at" "I") k_129) (fun _ h9 => h9) rfl (by decide +kernel) rfl rfl (Nat.le_of_ble_eq_true rfl) d_Par_sum_78 (fun H locs hP hD hS => ?_)
        have hP : va_P G.1 classes [(h, .inr (11, [.ref script_h, .ref script_tokens_h, .ref script_conditions_h, .int (w3_h + 1), .int w4_h])), (script_h, .inr (10, [.ref script_tokens_h, .ref script_conditions_h, .ref script_a_questions, .int script__asked, .ref script_a_letStarts, .ref script_a_letEnds, .ref script_a_letOfLetter, .int script__lets])), (script_tokens_h, .inr (7, [.ref script_tokens_a_kinds, .ref script_tokens_a_values, .ref script_tokens_a_places, .int script_tokens__size])), (script_tokens_a_kinds, .inl (gI G, 2001, .inl script_tokens_f_kinds)), (script_tokens_a_values, .inl (gI G, 2001, .inl script_tokens_f_values)), (script_conditions_h, .inr (8, [.ref script_conditions_a_steps, .ref script_conditions_a_values, .int r14.1, .ref script_conditions_a_stack, .int script_conditions__height, .ref script_conditions_a_holding])), (script_conditions_a_steps, .inl (gI G, 2000, .inl r14.2.1)), (script_conditions_a_values, .inl (gI G, 2000, .inl r14.2.2)), (script_a_letOfLetter, .inl (gI G, 26, .inl script_f_letOfLetter))] H := hP
        have hD : va_D A [(h, .inr (11, [.ref script_h, .ref script_tokens_h, .ref script_conditions_h, .int (w3_h + 1), .int w4_h])), (script_h, .inr (10, [.ref script_tokens_h, .ref script_conditions_h, .ref script_a_questions, .int script__asked, .ref script_a_letStarts, .ref script_a_letEnds, .ref script_a_letOfLetter, .int script__lets])), (script_tokens_h, .inr (7, [.ref script_tokens_a_kinds, .ref script_tokens_a_values, .ref script_tokens_a_places, .int script_tokens__size])), (script_tokens_a_kinds, .inl (gI G, 2001, .inl script_tokens_f_kinds)), (script_tokens_a_values, .inl (gI G, 2001, .inl script_tokens_f_values)), (script_conditions_h, .inr (8, [.ref script_conditions_a_steps, .ref script_conditions_a_values, .int r14.1, .ref script_conditions_a_stack, .int script_conditions__height, .ref script_conditions_a_holding])), (script_conditions_a_steps, .inl (gI G, 2000, .inl r14.2.1)), (script_conditions_a_values, .inl (gI G, 2000, .inl r14.2.2)), (script_a_letOfLetter, .inl (gI G, 26, .inl script_f_letOfLetter))] := hD
        refine lv_aload_n hx hb d_Par_sum_81 rfl (lv_at hl 3 rfl) ?_
        refine lv_iload_n hx hb d_Par_sum_82 rfl (lv_at hl 4 rfl) ?_
        obtain ⟨hv19, hok⟩ := hok
        obtain ⟨r19, hr19⟩ : ∃ r, (fac script_tokens_f_kinds script_tokens_f_values r14.2.1 r14.2.2 r14.1 script_f_letOfLetter (w3_h + 1) w4_h x) = r := ⟨_, rfl⟩
        try simp only [hr19] at hok
        have hC_r19 := (hfac h script_h script_tokens_h script_tokens_a_kinds script_tokens_a_values script_tokens_a_places script_conditions_h script_conditions_a_steps script_conditions_a_values script_conditions_a_stack script_conditions_a_holding script_a_questions script_a_letStarts script_a_letEnds script_a_letOfLetter script_tokens_f_kinds script_tokens_f_values script_tokens__size r14.2.1 r14.2.2 r14.1 script_conditions__height script__asked script_f_letOfLetter script__lets (w3_h + 1) w4_h x hv19)
        rw [hr19] at hC_r19
        have hf_r19_1 : isB r19.1 := by rw [← hr19]; exact zfac
        have hc_ : ∀ (x0_ x1_ x2_ x3_ x4_ x5_ x6_ x7_ x8_ : Nat × va_E) (t_ : va_W), List.map (fun i => (x0_ :: x1_ :: x2_ :: x3_ :: x4_ :: x5_ :: x6_ :: x7_ :: x8_ :: t_)[i]?) [0, 1, 2, 3, 4, 5, 6, 7, 8] = List.map some [x0_, x1_, x2_, x3_, x4_, x5_, x6_, x7_, x8_] := fun _ _ _ _ _ _ _ _ _ _ => rfl
        have hf_ : ∀ (x0_ x1_ x2_ x3_ x4_ x5_ x6_ x7_ x8_ y0_ y1_ y2_ y3_ y4_ y5_ y6_ y7_ y8_ : Nat × va_E) (t_ : va_W), setAll (x0_ :: x1_ :: x2_ :: x3_ :: x4_ :: x5_ :: x6_ :: x7_ :: x8_ :: t_) [0, 1, 2, 3, 4, 5, 6, 7, 8] [y0_, y1_, y2_, y3_, y4_, y5_, y6_, y7_, y8_] = y0_ :: y1_ :: y2_ :: y3_ :: y4_ :: y5_ :: y6_ :: y7_ :: y8_ :: t_ := fun _ _ _ _ _ _ _ _ _ _ _ _ _ _ _ _ _ _ _ => Eq.trans (setAll_M (bs := [true, true, true, true, true, true, true, true, true]) trivial rfl) rfl
        refine ly_callV (rest := []) (wf := [(h, .inr (11, [.ref script_h, .ref script_tokens_h, .ref script_conditions_h, .int r19.2.1, .int r19.2.2.1])), (script_h, .inr (10, [.ref script_tokens_h, .ref script_conditions_h, .ref script_a_questions, .int script__asked, .ref script_a_letStarts, .ref script_a_letEnds, .ref script_a_letOfLetter, .int script__lets])), (script_tokens_h, .inr (7, [.ref script_tokens_a_kinds, .ref script_tokens_a_values, .ref script_tokens_a_places, .int script_tokens__size])), (script_tokens_a_kinds, .inl (gI G, 2001, .inl script_tokens_f_kinds)), (script_tokens_a_values, .inl (gI G, 2001, .inl script_tokens_f_values)), (script_conditions_h, .inr (8, [.ref script_conditions_a_steps, .ref script_conditions_a_values, .int r19.2.2.2.1, .ref script_conditions_a_stack, .int script_conditions__height, .ref script_conditions_a_holding])), (script_conditions_a_steps, .inl (gI G, 2000, .inl r19.2.2.2.2.1)), (script_conditions_a_values, .inl (gI G, 2000, .inl r19.2.2.2.2.2)), (script_a_letOfLetter, .inl (gI G, 26, .inl script_f_letOfLetter))]) ⟨hx, hb, hml, hown, hts⟩ hA hK hZ hP hD hS hC_r19 (cwV 1 hts g_Par_155 rfl rfl rfl (by decide +kernel) ⟨by simp only [rmD]; omega, by simp only [rmD]; omega⟩) (ci := 11) (q0 := 0) rfl rfl rfl [0, 1, 2, 3, 4, 5, 6, 7, 8] (hc_ _ _ _ _ _ _ _ _ _ _) (by decide) rfl (hf_ _ _ _ _ _ _ _ _ _ _ _ _ _ _ _ _ _ _ _) rfl hl.1 rfl (Nat.le_of_ble_eq_true rfl) d_Par_sum_83 ⟨Nat.le_of_ble_eq_true rfl, Nat.le_of_ble_eq_true rfl⟩ (st1 := [.int r19.1]) (c1 := 0) (s1 := 0) rfl rfl rfl (fun H locs hP hD hS => ?_)
        refine lv_if_ne (tgt := 91) hx hb d_Par_sum_86 (by decide) (fun c29 => ?_) (fun c29 => ?_)
        · skip
          rw [if_neg c29] at hok
          refine lv_iload hx hb d_Par_sum_91 (lv_at hl 0 rfl) ?_
          refine lv_bipush (v := 25) hx hb d_Par_sum_93 (by decide) ?_
          refine lv_icmp_ne (tgt := 111) hx hb d_Par_sum_95 (by decide) (fun c30 => ?_) (fun c30 => ?_)
          · skip
            rw [if_neg c30] at hok
            refine lv_iload hx hb d_Par_sum_111 (lv_at hl 0 rfl) ?_
            refine lv_istore_n (lv' := [(2, .int r1), (4, .int r1), (3, .int i3), (0, .ref h), (1, .int x)]) hx hb d_Par_sum_113 rfl hl (by decide) rfl (fun ls hl => ?_)
            refine lv_iinc (v := i3 + 1) (lv' := [(3, .int (i3 + 1)), (2, .int r1), (4, .int r1), (0, .ref h), (1, .int x)]) hx hb d_Par_sum_114 hl (k := 2) rfl (by rfl) (by decide) rfl (fun ls hl => ?_)
            refine lv_goto (tgt := 14) hx hb d_Par_sum_117 (by decide) ?_
            have e_ : (lp_Par_sum_14 fac script_tokens_f_kinds script_tokens_f_values script_f_letOfLetter x (n + 1) i2 i3 w3_h w4_h w2_script_conditions_h g_script_conditions_a_steps g_script_conditions_a_values) = (lp_Par_sum_14 fac script_tokens_f_kinds script_tokens_f_values script_f_letOfLetter x n r1 (i3 + 1) r19.2.1 r19.2.2.1 r19.2.2.2.1 r19.2.2.2.2.1 r19.2.2.2.2.2) := (by rw [lp_Par_sum_14] <;> simp only [hr1, hr14, hr19] <;> rw [if_neg c1, if_neg c2, if_neg c12, if_neg c22, if_neg c25, if_pos c28, if_neg c29, if_neg c30])
            rw [e_]
            exact ih r1 (i3 + 1) r19.2.1 r19.2.2.1 r19.2.2.2.1 r19.2.2.2.2.1 r19.2.2.2.2.2 hok _ _ _ hP hD hS (lv_sub hl [0, 1, 3, 4] rfl)
          rw [if_pos c30] at hok
          refine lv_aload_n hx hb d_Par_sum_98 rfl (lv_at hl 3 rfl) ?_
          refine va_get (D := G.1) (ci := 11) (C := R_Par) (T := F_Par) (N := 5) (v := .ref script_conditions_h) hx hb hts i_Par hown hK hP 0 rfl rfl 2 (by decide) (hts (.fieldLink R_Par 26 "PrivateQueries$Parser" "conditions" "LPrivateQueries$Conditions;") k_755) (fun _ h9 => h9) rfl d_Par_sum_99 ?_
          refine lv_bipush (v := 25) hx hb d_Par_sum_102 (by decide) ?_
          refine lv_iconst (v := 0) hx hb d_Par_sum_104 (by decide) ?_
          obtain ⟨hv20, hok⟩ := hok
          obtain ⟨r20, hr20⟩ : ∃ r, (s_Cond_add r19.2.2.2.2.1 r19.2.2.2.2.2 r19.2.2.2.1 25 0) = r := ⟨_, rfl⟩
          try simp only [hr20] at hok
          have hC_r20 := (c_Cond_add l G script_conditions_h script_conditions_a_steps script_conditions_a_values script_conditions_a_stack script_conditions_a_holding r19.2.2.2.2.1 r19.2.2.2.2.2 r19.2.2.2.1 script_conditions__height 25 0 hv20)
          rw [hr20] at hC_r20
          refine ly_callV (rest := []) (wf := [(h, .inr (11, [.ref script_h, .ref script_tokens_h, .ref script_conditions_h, .int r19.2.1, .int r19.2.2.1])), (script_h, .inr (10, [.ref script_tokens_h, .ref script_conditions_h, .ref script_a_questions, .int script__asked, .ref script_a_letStarts, .ref script_a_letEnds, .ref script_a_letOfLetter, .int script__lets])), (script_tokens_h, .inr (7, [.ref script_tokens_a_kinds, .ref script_tokens_a_values, .ref script_tokens_a_places, .int script_tokens__size])), (script_tokens_a_kinds, .inl (gI G, 2001, .inl script_tokens_f_kinds)), (script_tokens_a_values, .inl (gI G, 2001, .inl script_tokens_f_values)), (script_conditions_h, .inr (8, [.ref script_conditions_a_steps, .ref script_conditions_a_values, .int r20.1, .ref script_conditions_a_stack, .int script_conditions__height, .ref script_conditions_a_holding])), (script_conditions_a_steps, .inl (gI G, 2000, .inl r20.2.1)), (script_conditions_a_values, .inl (gI G, 2000, .inl r20.2.2)), (script_a_letOfLetter, .inl (gI G, 26, .inl script_f_letOfLetter))]) ⟨hx, hb, hml, hown, hts⟩ hA hK hZ hP hD hS hC_r20 (cwV 2 hts g_Par_143 rfl rfl rfl (by decide +kernel) ⟨by simp only [rmD]; omega, by simp only [rmD]; omega⟩) (ci := 8) (q0 := 5) rfl rfl rfl [5, 6, 7] rfl (by decide) rfl rfl rfl hl.1 rfl (Nat.le_of_ble_eq_true rfl) d_Par_sum_105 ⟨Nat.le_of_ble_eq_true rfl, Nat.le_of_ble_eq_true rfl⟩ (st1 := []) (c1 := 0) (s1 := 0) rfl rfl rfl (fun H locs hP hD hS => ?_)
          refine lv_goto (tgt := 114) hx hb d_Par_sum_108 (by decide) ?_
          refine lv_iinc (v := i3 + 1) (lv' := [(3, .int (i3 + 1)), (4, .int r1), (2, .int i2), (0, .ref h), (1, .int x)]) hx hb d_Par_sum_114 hl (k := 1) rfl (by rfl) (by decide) rfl (fun ls hl => ?_)
          refine lv_goto (tgt := 14) hx hb d_Par_sum_117 (by decide) ?_
          have e_ : (lp_Par_sum_14 fac script_tokens_f_kinds script_tokens_f_values script_f_letOfLetter x (n + 1) i2 i3 w3_h w4_h w2_script_conditions_h g_script_conditions_a_steps g_script_conditions_a_values) = (lp_Par_sum_14 fac script_tokens_f_kinds script_tokens_f_values script_f_letOfLetter x n i2 (i3 + 1) r19.2.1 r19.2.2.1 r20.1 r20.2.1 r20.2.2) := (by rw [lp_Par_sum_14] <;> simp only [hr1, hr14, hr19, hr20] <;> rw [if_neg c1, if_neg c2, if_neg c12, if_neg c22, if_neg c25, if_pos c28, if_neg c29, if_pos c30])
          rw [e_]
          exact ih i2 (i3 + 1) r19.2.1 r19.2.2.1 r20.1 r20.2.1 r20.2.2 hok _ _ _ hP hD hS (lv_sub hl [0, 2, 3, 4] rfl)
        rw [if_pos c29] at hok
        refine lv_iconst (v := 0) hx hb d_Par_sum_89 (by decide) ?_
        exact ly_zret hx hb hr hlocks hP hD hS d_Par_sum_90 (by decide) (by rw [lp_Par_sum_14] <;> simp only [hr1, hr14, hr19] <;> rw [if_neg c1, if_neg c2, if_neg c12, if_neg c22, if_neg c25, if_pos c28, if_pos c29]) (by rw [lp_Par_sum_14] <;> simp only [hr1, hr14, hr19] <;> rw [if_neg c1, if_neg c2, if_neg c12, if_neg c22, if_neg c25, if_pos c28, if_pos c29])
      rw [if_neg c28] at hok
      refine lv_iconst (v := 1) hx hb d_Par_sum_69 (by decide) ?_
      exact ly_zret hx hb hr hlocks hP hD hS d_Par_sum_70 (by decide) (by rw [lp_Par_sum_14] <;> simp only [hr1, hr14] <;> rw [if_neg c1, if_neg c2, if_neg c12, if_neg c22, if_neg c25, if_neg c28]) (by rw [lp_Par_sum_14] <;> simp only [hr1, hr14] <;> rw [if_neg c1, if_neg c2, if_neg c12, if_neg c22, if_neg c25, if_neg c28])
  have hl : lv_has ls 5 [(0, .ref h), (1, .int x)] := hl
  rw [ok_Par_sum] at hok
  refine lv_aload_n hx hb d_Par_sum_0 rfl (lv_at hl 0 rfl) ?_
  refine lv_iload_n hx hb d_Par_sum_1 rfl (lv_at hl 1 rfl) ?_
  obtain ⟨hv1, hok⟩ := hok
  obtain ⟨r1, hr1⟩ : ∃ r, (fac script_tokens_f_kinds script_tokens_f_values script_conditions_f_steps script_conditions_f_values script_conditions__size script_f_letOfLetter v_at v_joints x) = r := ⟨_, rfl⟩
  try simp only [hr1] at hok
  have hC_r1 := (hfac h script_h script_tokens_h script_tokens_a_kinds script_tokens_a_values script_tokens_a_places script_conditions_h script_conditions_a_steps script_conditions_a_values script_conditions_a_stack script_conditions_a_holding script_a_questions script_a_letStarts script_a_letEnds script_a_letOfLetter script_tokens_f_kinds script_tokens_f_values script_tokens__size script_conditions_f_steps script_conditions_f_values script_conditions__size script_conditions__height script__asked script_f_letOfLetter script__lets v_at v_joints x hv1)
  rw [hr1] at hC_r1
  have hf_r1_1 : isB r1.1 := by rw [← hr1]; exact zfac
  have hc_ : ∀ (x0_ x1_ x2_ x3_ x4_ x5_ x6_ x7_ x8_ : Nat × va_E) (t_ : va_W), List.map (fun i => (x0_ :: x1_ :: x2_ :: x3_ :: x4_ :: x5_ :: x6_ :: x7_ :: x8_ :: t_)[i]?) [0, 1, 2, 3, 4, 5, 6, 7, 8] = List.map some [x0_, x1_, x2_, x3_, x4_, x5_, x6_, x7_, x8_] := fun _ _ _ _ _ _ _ _ _ _ => rfl
  have hf_ : ∀ (x0_ x1_ x2_ x3_ x4_ x5_ x6_ x7_ x8_ y0_ y1_ y2_ y3_ y4_ y5_ y6_ y7_ y8_ : Nat × va_E) (t_ : va_W), setAll (x0_ :: x1_ :: x2_ :: x3_ :: x4_ :: x5_ :: x6_ :: x7_ :: x8_ :: t_) [0, 1, 2, 3, 4, 5, 6, 7, 8] [y0_, y1_, y2_, y3_, y4_, y5_, y6_, y7_, y8_] = y0_ :: y1_ :: y2_ :: y3_ :: y4_ :: y5_ :: y6_ :: y7_ :: y8_ :: t_ := fun _ _ _ _ _ _ _ _ _ _ _ _ _ _ _ _ _ _ _ => Eq.trans (setAll_M (bs := [true, true, true, true, true, true, true, true, true]) trivial rfl) rfl
  refine ly_callV (rest := []) (wf := [(h, .inr (11, [.ref script_h, .ref script_tokens_h, .ref script_conditions_h, .int r1.2.1, .int r1.2.2.1])), (script_h, .inr (10, [.ref script_tokens_h, .ref script_conditions_h, .ref script_a_questions, .int script__asked, .ref script_a_letStarts, .ref script_a_letEnds, .ref script_a_letOfLetter, .int script__lets])), (script_tokens_h, .inr (7, [.ref script_tokens_a_kinds, .ref script_tokens_a_values, .ref script_tokens_a_places, .int script_tokens__size])), (script_tokens_a_kinds, .inl (gI G, 2001, .inl script_tokens_f_kinds)), (script_tokens_a_values, .inl (gI G, 2001, .inl script_tokens_f_values)), (script_conditions_h, .inr (8, [.ref script_conditions_a_steps, .ref script_conditions_a_values, .int r1.2.2.2.1, .ref script_conditions_a_stack, .int script_conditions__height, .ref script_conditions_a_holding])), (script_conditions_a_steps, .inl (gI G, 2000, .inl r1.2.2.2.2.1)), (script_conditions_a_values, .inl (gI G, 2000, .inl r1.2.2.2.2.2)), (script_a_letOfLetter, .inl (gI G, 26, .inl script_f_letOfLetter))]) ⟨hx, hb, hml, hown, hts⟩ hA hK hZ hP hD hS hC_r1 (cwV 1 hts g_Par_155 rfl rfl rfl (by decide +kernel) ⟨by simp only [rmD]; omega, by simp only [rmD]; omega⟩) (ci := 11) (q0 := 0) rfl rfl rfl [0, 1, 2, 3, 4, 5, 6, 7, 8] (hc_ _ _ _ _ _ _ _ _ _ _) (by decide) rfl (hf_ _ _ _ _ _ _ _ _ _ _ _ _ _ _ _ _ _ _ _) rfl hl.1 rfl (Nat.le_of_ble_eq_true rfl) d_Par_sum_2 ⟨Nat.le_of_ble_eq_true rfl, Nat.le_of_ble_eq_true rfl⟩ (st1 := [.int r1.1]) (c1 := 0) (s1 := 0) rfl rfl rfl (fun H locs hP hD hS => ?_)
  refine lv_if_ne (tgt := 10) hx hb d_Par_sum_5 (by decide) (fun c1 => ?_) (fun c1 => ?_)
  · skip
    rw [if_neg c1] at hok
    refine lv_iconst (v := -1) hx hb d_Par_sum_10 (by decide) ?_
    refine lv_istore_n (lv' := [(2, .int (-1)), (0, .ref h), (1, .int x)]) hx hb d_Par_sum_11 rfl hl (by decide) rfl (fun ls hl => ?_)
    refine lv_iconst (v := 0) hx hb d_Par_sum_12 (by decide) ?_
    refine lv_istore_n (lv' := [(3, .int 0), (2, .int (-1)), (0, .ref h), (1, .int x)]) hx hb d_Par_sum_13 rfl hl (by decide) rfl (fun ls hl => ?_)
    have e_ : (s_Par_sum fac script_tokens_f_kinds script_tokens_f_values script_conditions_f_steps script_conditions_f_values script_conditions__size script_f_letOfLetter v_at v_joints x) = (lp_Par_sum_14 fac script_tokens_f_kinds script_tokens_f_values script_f_letOfLetter x 2001 (-1) (0 : Int32) r1.2.1 r1.2.2.1 r1.2.2.2.1 r1.2.2.2.2.1 r1.2.2.2.2.2) := (by rw [s_Par_sum] <;> simp only [hr1] <;> rw [if_neg c1])
    rw [e_]
    exact loop_14 2001 (-1) (0 : Int32) r1.2.1 r1.2.2.1 r1.2.2.2.1 r1.2.2.2.2.1 r1.2.2.2.2.2 hok _ _ _ hP hD hS (lv_sub hl [0, 1, 2, 3] rfl)
  rw [if_pos c1] at hok
  refine lv_iconst (v := 0) hx hb d_Par_sum_8 (by decide) ?_
  exact ly_zret hx hb hr hlocks hP hD hS d_Par_sum_9 (by decide) (by rw [s_Par_sum] <;> simp only [hr1] <;> rw [if_pos c1]) (by rw [s_Par_sum] <;> simp only [hr1] <;> rw [if_pos c1])

theorem z_Par_factor {fac : RcF} {sm : RcF} {script_tokens_f_kinds : Nat → Int32} {script_tokens_f_values : Nat → Int32} {script_conditions_f_steps : Nat → Int32} {script_conditions_f_values : Nat → Int32} {script_conditions__size : Int32} {script_f_letOfLetter : Nat → Int32} {v_at : Int32} {v_joints : Int32} {x : Int32} (zfac : ∀ {script_tokens_f_kinds : Nat → Int32} {script_tokens_f_values : Nat → Int32} {script_conditions_f_steps : Nat → Int32} {script_conditions_f_values : Nat → Int32} {script_conditions__size : Int32} {script_f_letOfLetter : Nat → Int32} {v_at : Int32} {v_joints : Int32} {x : Int32}, isB (fac script_tokens_f_kinds script_tokens_f_values script_conditions_f_steps script_conditions_f_values script_conditions__size script_f_letOfLetter v_at v_joints x).1) (zsm : ∀ {script_tokens_f_kinds : Nat → Int32} {script_tokens_f_values : Nat → Int32} {script_conditions_f_steps : Nat → Int32} {script_conditions_f_values : Nat → Int32} {script_conditions__size : Int32} {script_f_letOfLetter : Nat → Int32} {v_at : Int32} {v_joints : Int32} {x : Int32}, isB (sm script_tokens_f_kinds script_tokens_f_values script_conditions_f_steps script_conditions_f_values script_conditions__size script_f_letOfLetter v_at v_joints x).1) : isB (s_Par_factor fac sm script_tokens_f_kinds script_tokens_f_values script_conditions_f_steps script_conditions_f_values script_conditions__size script_f_letOfLetter v_at v_joints x).1 := by
  obtain ⟨r1, hr1⟩ : ∃ r, (s_Par_kind script_tokens_f_kinds v_at) = r := ⟨_, rfl⟩
  obtain ⟨r2, hr2⟩ : ∃ r, (s_Par_value script_tokens_f_values v_at) = r := ⟨_, rfl⟩
  obtain ⟨r3, hr3⟩ : ∃ r, (s_Cond_add script_conditions_f_steps script_conditions_f_values script_conditions__size r1 r2) = r := ⟨_, rfl⟩
  obtain ⟨r6, hr6⟩ : ∃ r, (s_Par_takeDeeper v_at x) = r := ⟨_, rfl⟩
  have zb_r6 : isB r6.1 := by rw [← hr6]; exact z_Par_takeDeeper
  obtain ⟨r7, hr7⟩ : ∃ r, (fac script_tokens_f_kinds script_tokens_f_values script_conditions_f_steps script_conditions_f_values script_conditions__size script_f_letOfLetter r6.2 v_joints (x + 1)) = r := ⟨_, rfl⟩
  have zb_r7 : isB r7.1 := by rw [← hr7]; exact zfac
  obtain ⟨r8, hr8⟩ : ∃ r, (s_Cond_add r7.2.2.2.2.1 r7.2.2.2.2.2 r7.2.2.2.1 (-1) 0) = r := ⟨_, rfl⟩
  obtain ⟨r10, hr10⟩ : ∃ r, (sm script_tokens_f_kinds script_tokens_f_values script_conditions_f_steps script_conditions_f_values script_conditions__size script_f_letOfLetter r6.2 v_joints (x + 1)) = r := ⟨_, rfl⟩
  have zb_r10 : isB r10.1 := by rw [← hr10]; exact zsm
  obtain ⟨r11, hr11⟩ : ∃ r, (s_Par_take script_tokens_f_kinds r10.2.1 28) = r := ⟨_, rfl⟩
  have zb_r11 : isB r11.1 := by rw [← hr11]; exact z_Par_take
  rw [s_Par_factor]
  simp only [hr1, hr2, hr3, hr6, hr7, hr8, hr10, hr11]
  by_cases ct1 : r1 = 2
  · rw [if_pos ct1]
    first | exact isB_0 | exact isB_1 | assumption
  rw [if_neg ct1]
  by_cases ct2 : r1 = 3
  · rw [if_pos ct2]
    first | exact isB_0 | exact isB_1 | assumption
  rw [if_neg ct2]
  by_cases ct3 : r1 = 24
  · rw [if_pos ct3]
    by_cases ct4 : r6.1 = 0
    · rw [if_pos ct4]
      first | exact isB_0 | exact isB_1 | assumption
    rw [if_neg ct4]
    by_cases ct5 : r7.1 = 0
    · rw [if_pos ct5]
      first | exact isB_0 | exact isB_1 | assumption
    rw [if_neg ct5]
    first | exact isB_0 | exact isB_1 | assumption
  rw [if_neg ct3]
  by_cases ct6 : r1 = 27
  · rw [if_pos ct6]
    by_cases ct7 : r6.1 = 0
    · rw [if_pos ct7]
      first | exact isB_0 | exact isB_1 | assumption
    rw [if_neg ct7]
    by_cases ct8 : r10.1 = 0
    · rw [if_pos ct8]
      first | exact isB_0 | exact isB_1 | assumption
    rw [if_neg ct8]
    by_cases ct9 : r11.1 = 0
    · rw [if_pos ct9]
      first | exact isB_0 | exact isB_1 | assumption
    rw [if_neg ct9]
    first | exact isB_0 | exact isB_1 | assumption
  rw [if_neg ct6]
  first | exact isB_0 | exact isB_1 | assumption
set_option maxHeartbeats 4000000 in
set_option maxRecDepth 100000 in
theorem c_Par_factor (l : Launch) (G : GG) (b_ : Nat) (fac : RcF) (okfac : RcO) (sm : RcF) (oksm : RcO) (zfac : ∀ {script_tokens_f_kinds : Nat → Int32} {script_tokens_f_values : Nat → Int32} {script_conditions_f_steps : Nat → Int32} {script_conditions_f_values : Nat → Int32} {script_conditions__size : Int32} {script_f_letOfLetter : Nat → Int32} {v_at : Int32} {v_joints : Int32} {x : Int32}, isB (fac script_tokens_f_kinds script_tokens_f_values script_conditions_f_steps script_conditions_f_values script_conditions__size script_f_letOfLetter v_at v_joints x).1) (zsm : ∀ {script_tokens_f_kinds : Nat → Int32} {script_tokens_f_values : Nat → Int32} {script_conditions_f_steps : Nat → Int32} {script_conditions_f_values : Nat → Int32} {script_conditions__size : Int32} {script_f_letOfLetter : Nat → Int32} {v_at : Int32} {v_joints : Int32} {x : Int32}, isB (sm script_tokens_f_kinds script_tokens_f_values script_conditions_f_steps script_conditions_f_values script_conditions__size script_f_letOfLetter v_at v_joints x).1) (hfac : DetF l G y_Par_factor w_Par_factor b_ fac okfac) (hsm : DetF l G y_Par_sum w_Par_sum (b_ + 1) sm oksm) (h : Nat) (script_h : Nat) (script_tokens_h : Nat) (script_tokens_a_kinds : Nat) (script_tokens_a_values : Nat) (script_tokens_a_places : Nat) (script_conditions_h : Nat) (script_conditions_a_steps : Nat) (script_conditions_a_values : Nat) (script_conditions_a_stack : Nat) (script_conditions_a_holding : Nat) (script_a_questions : Nat) (script_a_letStarts : Nat) (script_a_letEnds : Nat) (script_a_letOfLetter : Nat) (script_tokens_f_kinds : Nat → Int32) (script_tokens_f_values : Nat → Int32) (script_tokens__size : Int32) (script_conditions_f_steps : Nat → Int32) (script_conditions_f_values : Nat → Int32) (script_conditions__size : Int32) (script_conditions__height : Int32) (script__asked : Int32) (script_f_letOfLetter : Nat → Int32) (script__lets : Int32) (v_at : Int32) (v_joints : Int32) (x : Int32) (hok : ok_Par_factor fac okfac sm oksm script_tokens_f_kinds script_tokens_f_values script_conditions_f_steps script_conditions_f_values script_conditions__size script_f_letOfLetter v_at v_joints x) : Det l G y_Par_factor w_Par_factor (rmD (b_ + 2)) 0 0 [.ref h, .int x] [(h, .inr (11, [.ref script_h, .ref script_tokens_h, .ref script_conditions_h, .int v_at, .int v_joints])), (script_h, .inr (10, [.ref script_tokens_h, .ref script_conditions_h, .ref script_a_questions, .int script__asked, .ref script_a_letStarts, .ref script_a_letEnds, .ref script_a_letOfLetter, .int script__lets])), (script_tokens_h, .inr (7, [.ref script_tokens_a_kinds, .ref script_tokens_a_values, .ref script_tokens_a_places, .int script_tokens__size])), (script_tokens_a_kinds, .inl (gI G, 2001, .inl script_tokens_f_kinds)), (script_tokens_a_values, .inl (gI G, 2001, .inl script_tokens_f_values)), (script_conditions_h, .inr (8, [.ref script_conditions_a_steps, .ref script_conditions_a_values, .int script_conditions__size, .ref script_conditions_a_stack, .int script_conditions__height, .ref script_conditions_a_holding])), (script_conditions_a_steps, .inl (gI G, 2000, .inl script_conditions_f_steps)), (script_conditions_a_values, .inl (gI G, 2000, .inl script_conditions_f_values)), (script_a_letOfLetter, .inl (gI G, 26, .inl script_f_letOfLetter))] (some (.int (s_Par_factor fac sm script_tokens_f_kinds script_tokens_f_values script_conditions_f_steps script_conditions_f_values script_conditions__size script_f_letOfLetter v_at v_joints x).1)) [(h, .inr (11, [.ref script_h, .ref script_tokens_h, .ref script_conditions_h, .int (s_Par_factor fac sm script_tokens_f_kinds script_tokens_f_values script_conditions_f_steps script_conditions_f_values script_conditions__size script_f_letOfLetter v_at v_joints x).2.1, .int (s_Par_factor fac sm script_tokens_f_kinds script_tokens_f_values script_conditions_f_steps script_conditions_f_values script_conditions__size script_f_letOfLetter v_at v_joints x).2.2.1])), (script_h, .inr (10, [.ref script_tokens_h, .ref script_conditions_h, .ref script_a_questions, .int script__asked, .ref script_a_letStarts, .ref script_a_letEnds, .ref script_a_letOfLetter, .int script__lets])), (script_tokens_h, .inr (7, [.ref script_tokens_a_kinds, .ref script_tokens_a_values, .ref script_tokens_a_places, .int script_tokens__size])), (script_tokens_a_kinds, .inl (gI G, 2001, .inl script_tokens_f_kinds)), (script_tokens_a_values, .inl (gI G, 2001, .inl script_tokens_f_values)), (script_conditions_h, .inr (8, [.ref script_conditions_a_steps, .ref script_conditions_a_values, .int (s_Par_factor fac sm script_tokens_f_kinds script_tokens_f_values script_conditions_f_steps script_conditions_f_values script_conditions__size script_f_letOfLetter v_at v_joints x).2.2.2.1, .ref script_conditions_a_stack, .int script_conditions__height, .ref script_conditions_a_holding])), (script_conditions_a_steps, .inl (gI G, 2000, .inl (s_Par_factor fac sm script_tokens_f_kinds script_tokens_f_values script_conditions_f_steps script_conditions_f_values script_conditions__size script_f_letOfLetter v_at v_joints x).2.2.2.2.1)), (script_conditions_a_values, .inl (gI G, 2000, .inl (s_Par_factor fac sm script_tokens_f_kinds script_tokens_f_values script_conditions_f_steps script_conditions_f_values script_conditions__size script_f_letOfLetter v_at v_joints x).2.2.2.2.2)), (script_a_letOfLetter, .inl (gI G, 26, .inl script_f_letOfLetter))] := by
  refine Det.of (cc := b_Par_factor) (maxL := 3) (ret := (some .boolean)) (by decide) rfl (Nat.le_of_ble_eq_true rfl) ?_
  intro p e s m args below meth c A ls hx hb hr hml hown hts hlocks hin hA hK hZ hP hD hS hl
  have hts : ∀ w ∈ wG, w.before args s = true := fun w h => hts w (List.mem_cons_of_mem _ h)
  have hown : s.vm.findClass R_Par = some m.cls := hown
  have hl : lv_has ls 3 [(0, .ref h), (1, .int x)] := hl
  rw [ok_Par_factor] at hok
  refine lv_aload_n hx hb d_Par_factor_0 rfl (lv_at hl 0 rfl) ?_
  obtain ⟨hv1, hok⟩ := hok
  obtain ⟨r1, hr1⟩ : ∃ r, (s_Par_kind script_tokens_f_kinds v_at) = r := ⟨_, rfl⟩
  try simp only [hr1] at hok
  have hC_r1 := (c_Par_kind l G h script_h script_tokens_h script_tokens_a_kinds script_tokens_a_values script_tokens_a_places script_conditions_h script_tokens_f_kinds script_tokens__size v_at v_joints hv1)
  rw [hr1] at hC_r1
  refine ly_callV (rest := []) (wf := [(h, .inr (11, [.ref script_h, .ref script_tokens_h, .ref script_conditions_h, .int v_at, .int v_joints])), (script_h, .inr (10, [.ref script_tokens_h, .ref script_conditions_h, .ref script_a_questions, .int script__asked, .ref script_a_letStarts, .ref script_a_letEnds, .ref script_a_letOfLetter, .int script__lets])), (script_tokens_h, .inr (7, [.ref script_tokens_a_kinds, .ref script_tokens_a_values, .ref script_tokens_a_places, .int script_tokens__size])), (script_tokens_a_kinds, .inl (gI G, 2001, .inl script_tokens_f_kinds)), (script_tokens_a_values, .inl (gI G, 2001, .inl script_tokens_f_values)), (script_conditions_h, .inr (8, [.ref script_conditions_a_steps, .ref script_conditions_a_values, .int script_conditions__size, .ref script_conditions_a_stack, .int script_conditions__height, .ref script_conditions_a_holding])), (script_conditions_a_steps, .inl (gI G, 2000, .inl script_conditions_f_steps)), (script_conditions_a_values, .inl (gI G, 2000, .inl script_conditions_f_values)), (script_a_letOfLetter, .inl (gI G, 26, .inl script_f_letOfLetter))]) ⟨hx, hb, hml, hown, hts⟩ hA hK hZ hP hD hS hC_r1 (cwV 0 hts g_Par_34 rfl rfl rfl (by decide +kernel) ⟨by simp only [rmD]; omega, by simp only [rmD]; omega⟩) (ci := 11) (q0 := 0) rfl rfl rfl [0, 2, 3] rfl (by decide) rfl rfl rfl hl.1 rfl (Nat.le_of_ble_eq_true rfl) d_Par_factor_1 ⟨Nat.le_of_ble_eq_true rfl, Nat.le_of_ble_eq_true rfl⟩ (st1 := [.int r1]) (c1 := 0) (s1 := 0) rfl rfl rfl (fun H locs hP hD hS => ?_)
  refine lv_istore_n (lv' := [(2, .int r1), (0, .ref h), (1, .int x)]) hx hb d_Par_factor_4 rfl hl (by decide) rfl (fun ls hl => ?_)
  refine lv_iload_n hx hb d_Par_factor_5 rfl (lv_at hl 0 rfl) ?_
  by_cases c1 : r1 = 2
  · skip
    rw [if_pos c1] at hok
    refine lv_lookup (off := 42) (tgt := 48) hx hb d_Par_factor_6 (by decide) (by first | (rw [c1]; done) | (rw [c1]; rfl)) (by decide) ?_
    refine lv_aload_n hx hb d_Par_factor_48 rfl (lv_at hl 1 rfl) ?_
    refine va_get (D := G.1) (ci := 11) (C := R_Par) (T := F_Par) (N := 5) (v := .ref script_conditions_h) hx hb hts i_Par hown hK hP 0 rfl rfl 2 (by decide) (hts (.fieldLink R_Par 26 "PrivateQueries$Parser" "conditions" "LPrivateQueries$Conditions;") k_755) (fun _ h9 => h9) rfl d_Par_factor_49 ?_
    refine lv_iload_n hx hb d_Par_factor_52 rfl (lv_at hl 0 rfl) ?_
    refine lv_aload_n hx hb d_Par_factor_53 rfl (lv_at hl 1 rfl) ?_
    obtain ⟨hv2, hok⟩ := hok
    obtain ⟨r2, hr2⟩ : ∃ r, (s_Par_value script_tokens_f_values v_at) = r := ⟨_, rfl⟩
    try simp only [hr2] at hok
    have hC_r2 := (c_Par_value l G h script_h script_tokens_h script_tokens_a_kinds script_tokens_a_values script_tokens_a_places script_conditions_h script_tokens_f_values script_tokens__size v_at v_joints hv2)
    rw [hr2] at hC_r2
    refine ly_callV (rest := [.int r1, .ref script_conditions_h]) (wf := [(h, .inr (11, [.ref script_h, .ref script_tokens_h, .ref script_conditions_h, .int v_at, .int v_joints])), (script_h, .inr (10, [.ref script_tokens_h, .ref script_conditions_h, .ref script_a_questions, .int script__asked, .ref script_a_letStarts, .ref script_a_letEnds, .ref script_a_letOfLetter, .int script__lets])), (script_tokens_h, .inr (7, [.ref script_tokens_a_kinds, .ref script_tokens_a_values, .ref script_tokens_a_places, .int script_tokens__size])), (script_tokens_a_kinds, .inl (gI G, 2001, .inl script_tokens_f_kinds)), (script_tokens_a_values, .inl (gI G, 2001, .inl script_tokens_f_values)), (script_conditions_h, .inr (8, [.ref script_conditions_a_steps, .ref script_conditions_a_values, .int script_conditions__size, .ref script_conditions_a_stack, .int script_conditions__height, .ref script_conditions_a_holding])), (script_conditions_a_steps, .inl (gI G, 2000, .inl script_conditions_f_steps)), (script_conditions_a_values, .inl (gI G, 2000, .inl script_conditions_f_values)), (script_a_letOfLetter, .inl (gI G, 26, .inl script_f_letOfLetter))]) ⟨hx, hb, hml, hown, hts⟩ hA hK hZ hP hD hS hC_r2 (cwV 0 hts g_Par_61 rfl rfl rfl (by decide +kernel) ⟨by simp only [rmD]; omega, by simp only [rmD]; omega⟩) (ci := 11) (q0 := 0) rfl rfl rfl [0, 2, 4] rfl (by decide) rfl rfl rfl hl.1 rfl (Nat.le_of_ble_eq_true rfl) d_Par_factor_54 ⟨Nat.le_of_ble_eq_true rfl, Nat.le_of_ble_eq_true rfl⟩ (st1 := [.int r2, .int r1, .ref script_conditions_h]) (c1 := 0) (s1 := 0) rfl rfl rfl (fun H locs hP hD hS => ?_)
    obtain ⟨hv3, hok⟩ := hok
    obtain ⟨r3, hr3⟩ : ∃ r, (s_Cond_add script_conditions_f_steps script_conditions_f_values script_conditions__size r1 r2) = r := ⟨_, rfl⟩
    try simp only [hr3] at hok
    have hC_r3 := (c_Cond_add l G script_conditions_h script_conditions_a_steps script_conditions_a_values script_conditions_a_stack script_conditions_a_holding script_conditions_f_steps script_conditions_f_values script_conditions__size script_conditions__height r1 r2 hv3)
    rw [hr3] at hC_r3
    refine ly_callV (rest := []) (wf := [(h, .inr (11, [.ref script_h, .ref script_tokens_h, .ref script_conditions_h, .int v_at, .int v_joints])), (script_h, .inr (10, [.ref script_tokens_h, .ref script_conditions_h, .ref script_a_questions, .int script__asked, .ref script_a_letStarts, .ref script_a_letEnds, .ref script_a_letOfLetter, .int script__lets])), (script_tokens_h, .inr (7, [.ref script_tokens_a_kinds, .ref script_tokens_a_values, .ref script_tokens_a_places, .int script_tokens__size])), (script_tokens_a_kinds, .inl (gI G, 2001, .inl script_tokens_f_kinds)), (script_tokens_a_values, .inl (gI G, 2001, .inl script_tokens_f_values)), (script_conditions_h, .inr (8, [.ref script_conditions_a_steps, .ref script_conditions_a_values, .int r3.1, .ref script_conditions_a_stack, .int script_conditions__height, .ref script_conditions_a_holding])), (script_conditions_a_steps, .inl (gI G, 2000, .inl r3.2.1)), (script_conditions_a_values, .inl (gI G, 2000, .inl r3.2.2)), (script_a_letOfLetter, .inl (gI G, 26, .inl script_f_letOfLetter))]) ⟨hx, hb, hml, hown, hts⟩ hA hK hZ hP hD hS hC_r3 (cwV 2 hts g_Par_143 rfl rfl rfl (by decide +kernel) ⟨by simp only [rmD]; omega, by simp only [rmD]; omega⟩) (ci := 8) (q0 := 5) rfl rfl rfl [5, 6, 7] rfl (by decide) rfl rfl rfl hl.1 rfl (Nat.le_of_ble_eq_true rfl) d_Par_factor_57 ⟨Nat.le_of_ble_eq_true rfl, Nat.le_of_ble_eq_true rfl⟩ (st1 := []) (c1 := 0) (s1 := 0) rfl rfl rfl (fun H locs hP hD hS => ?_)
    refine lv_aload_n hx hb d_Par_factor_60 rfl (lv_at hl 1 rfl) ?_
    refine lv_dup hx hb d_Par_factor_61 rfl ?_
    refine va_get (D := G.1) (ci := 11) (C := R_Par) (T := F_Par) (N := 5) (v := .int v_at) hx hb hts i_Par hown hK hP 0 rfl rfl 3 (by decide) (hts (.fieldLink R_Par 27 "PrivateQueries$Parser" "at" "I") k_129) (fun _ h9 => h9) rfl d_Par_factor_62 ?_
    refine lv_iconst (v := 1) hx hb d_Par_factor_65 (by decide) ?_
    refine lv_iadd hx hb d_Par_factor_66 ?_
    refine va_put (D := G.1) (ci := 11) (v := .int (v_at + 1)) (ty := .int) (C := R_Par) (T := F_Par) (N := 5) hx hb hts i_Par t_Par t_Par_ok n_Par hown hK hP hD hS 0 rfl rfl 3 (by decide) (hts (.fieldLink R_Par 27 "PrivateQueries$Parser" "at" "I") k_129) (fun _ h9 => h9) rfl (by decide +kernel) rfl rfl (Nat.le_of_ble_eq_true rfl) d_Par_factor_67 (fun H locs hP hD hS => ?_)
    have hP : va_P G.1 classes [(h, .inr (11, [.ref script_h, .ref script_tokens_h, .ref script_conditions_h, .int (v_at + 1), .int v_joints])), (script_h, .inr (10, [.ref script_tokens_h, .ref script_conditions_h, .ref script_a_questions, .int script__asked, .ref script_a_letStarts, .ref script_a_letEnds, .ref script_a_letOfLetter, .int script__lets])), (script_tokens_h, .inr (7, [.ref script_tokens_a_kinds, .ref script_tokens_a_values, .ref script_tokens_a_places, .int script_tokens__size])), (script_tokens_a_kinds, .inl (gI G, 2001, .inl script_tokens_f_kinds)), (script_tokens_a_values, .inl (gI G, 2001, .inl script_tokens_f_values)), (script_conditions_h, .inr (8, [.ref script_conditions_a_steps, .ref script_conditions_a_values, .int r3.1, .ref script_conditions_a_stack, .int script_conditions__height, .ref script_conditions_a_holding])), (script_conditions_a_steps, .inl (gI G, 2000, .inl r3.2.1)), (script_conditions_a_values, .inl (gI G, 2000, .inl r3.2.2)), (script_a_letOfLetter, .inl (gI G, 26, .inl script_f_letOfLetter))] H := hP
    have hD : va_D A [(h, .inr (11, [.ref script_h, .ref script_tokens_h, .ref script_conditions_h, .int (v_at + 1), .int v_joints])), (script_h, .inr (10, [.ref script_tokens_h, .ref script_conditions_h, .ref script_a_questions, .int script__asked, .ref script_a_letStarts, .ref script_a_letEnds, .ref script_a_letOfLetter, .int script__lets])), (script_tokens_h, .inr (7, [.ref script_tokens_a_kinds, .ref script_tokens_a_values, .ref script_tokens_a_places, .int script_tokens__size])), (script_tokens_a_kinds, .inl (gI G, 2001, .inl script_tokens_f_kinds)), (script_tokens_a_values, .inl (gI G, 2001, .inl script_tokens_f_values)), (script_conditions_h, .inr (8, [.ref script_conditions_a_steps, .ref script_conditions_a_values, .int r3.1, .ref script_conditions_a_stack, .int script_conditions__height, .ref script_conditions_a_holding])), (script_conditions_a_steps, .inl (gI G, 2000, .inl r3.2.1)), (script_conditions_a_values, .inl (gI G, 2000, .inl r3.2.2)), (script_a_letOfLetter, .inl (gI G, 26, .inl script_f_letOfLetter))] := hD
    refine lv_iconst (v := 1) hx hb d_Par_factor_70 (by decide) ?_
    exact ly_zret hx hb hr hlocks hP hD hS d_Par_factor_71 (by decide) (by rw [s_Par_factor] <;> simp only [hr1, hr2, hr3] <;> rw [if_pos c1]) (by rw [s_Par_factor] <;> simp only [hr1, hr2, hr3] <;> rw [if_pos c1])
  rw [if_neg c1] at hok
  by_cases c2 : r1 = 3
  · skip
    rw [if_pos c2] at hok
    refine lv_lookup (off := 42) (tgt := 48) hx hb d_Par_factor_6 (by decide) (by first | (rw [c2]; done) | (rw [c2]; rfl)) (by decide) ?_
    refine lv_aload_n hx hb d_Par_factor_48 rfl (lv_at hl 1 rfl) ?_
    refine va_get (D := G.1) (ci := 11) (C := R_Par) (T := F_Par) (N := 5) (v := .ref script_conditions_h) hx hb hts i_Par hown hK hP 0 rfl rfl 2 (by decide) (hts (.fieldLink R_Par 26 "PrivateQueries$Parser" "conditions" "LPrivateQueries$Conditions;") k_755) (fun _ h9 => h9) rfl d_Par_factor_49 ?_
    refine lv_iload_n hx hb d_Par_factor_52 rfl (lv_at hl 0 rfl) ?_
    refine lv_aload_n hx hb d_Par_factor_53 rfl (lv_at hl 1 rfl) ?_
    obtain ⟨hv4, hok⟩ := hok
    obtain ⟨r4, hr4⟩ : ∃ r, (s_Par_value script_tokens_f_values v_at) = r := ⟨_, rfl⟩
    try simp only [hr4] at hok
    have hC_r4 := (c_Par_value l G h script_h script_tokens_h script_tokens_a_kinds script_tokens_a_values script_tokens_a_places script_conditions_h script_tokens_f_values script_tokens__size v_at v_joints hv4)
    rw [hr4] at hC_r4
    refine ly_callV (rest := [.int r1, .ref script_conditions_h]) (wf := [(h, .inr (11, [.ref script_h, .ref script_tokens_h, .ref script_conditions_h, .int v_at, .int v_joints])), (script_h, .inr (10, [.ref script_tokens_h, .ref script_conditions_h, .ref script_a_questions, .int script__asked, .ref script_a_letStarts, .ref script_a_letEnds, .ref script_a_letOfLetter, .int script__lets])), (script_tokens_h, .inr (7, [.ref script_tokens_a_kinds, .ref script_tokens_a_values, .ref script_tokens_a_places, .int script_tokens__size])), (script_tokens_a_kinds, .inl (gI G, 2001, .inl script_tokens_f_kinds)), (script_tokens_a_values, .inl (gI G, 2001, .inl script_tokens_f_values)), (script_conditions_h, .inr (8, [.ref script_conditions_a_steps, .ref script_conditions_a_values, .int script_conditions__size, .ref script_conditions_a_stack, .int script_conditions__height, .ref script_conditions_a_holding])), (script_conditions_a_steps, .inl (gI G, 2000, .inl script_conditions_f_steps)), (script_conditions_a_values, .inl (gI G, 2000, .inl script_conditions_f_values)), (script_a_letOfLetter, .inl (gI G, 26, .inl script_f_letOfLetter))]) ⟨hx, hb, hml, hown, hts⟩ hA hK hZ hP hD hS hC_r4 (cwV 0 hts g_Par_61 rfl rfl rfl (by decide +kernel) ⟨by simp only [rmD]; omega, by simp only [rmD]; omega⟩) (ci := 11) (q0 := 0) rfl rfl rfl [0, 2, 4] rfl (by decide) rfl rfl rfl hl.1 rfl (Nat.le_of_ble_eq_true rfl) d_Par_factor_54 ⟨Nat.le_of_ble_eq_true rfl, Nat.le_of_ble_eq_true rfl⟩ (st1 := [.int r4, .int r1, .ref script_conditions_h]) (c1 := 0) (s1 := 0) rfl rfl rfl (fun H locs hP hD hS => ?_)
    obtain ⟨hv5, hok⟩ := hok
    obtain ⟨r5, hr5⟩ : ∃ r, (s_Cond_add script_conditions_f_steps script_conditions_f_values script_conditions__size r1 r4) = r := ⟨_, rfl⟩
    try simp only [hr5] at hok
    have hC_r5 := (c_Cond_add l G script_conditions_h script_conditions_a_steps script_conditions_a_values script_conditions_a_stack script_conditions_a_holding script_conditions_f_steps script_conditions_f_values script_conditions__size script_conditions__height r1 r4 hv5)
    rw [hr5] at hC_r5
    refine ly_callV (rest := []) (wf := [(h, .inr (11, [.ref script_h, .ref script_tokens_h, .ref script_conditions_h, .int v_at, .int v_joints])), (script_h, .inr (10, [.ref script_tokens_h, .ref script_conditions_h, .ref script_a_questions, .int script__asked, .ref script_a_letStarts, .ref script_a_letEnds, .ref script_a_letOfLetter, .int script__lets])), (script_tokens_h, .inr (7, [.ref script_tokens_a_kinds, .ref script_tokens_a_values, .ref script_tokens_a_places, .int script_tokens__size])), (script_tokens_a_kinds, .inl (gI G, 2001, .inl script_tokens_f_kinds)), (script_tokens_a_values, .inl (gI G, 2001, .inl script_tokens_f_values)), (script_conditions_h, .inr (8, [.ref script_conditions_a_steps, .ref script_conditions_a_values, .int r5.1, .ref script_conditions_a_stack, .int script_conditions__height, .ref script_conditions_a_holding])), (script_conditions_a_steps, .inl (gI G, 2000, .inl r5.2.1)), (script_conditions_a_values, .inl (gI G, 2000, .inl r5.2.2)), (script_a_letOfLetter, .inl (gI G, 26, .inl script_f_letOfLetter))]) ⟨hx, hb, hml, hown, hts⟩ hA hK hZ hP hD hS hC_r5 (cwV 2 hts g_Par_143 rfl rfl rfl (by decide +kernel) ⟨by simp only [rmD]; omega, by simp only [rmD]; omega⟩) (ci := 8) (q0 := 5) rfl rfl rfl [5, 6, 7] rfl (by decide) rfl rfl rfl hl.1 rfl (Nat.le_of_ble_eq_true rfl) d_Par_factor_57 ⟨Nat.le_of_ble_eq_true rfl, Nat.le_of_ble_eq_true rfl⟩ (st1 := []) (c1 := 0) (s1 := 0) rfl rfl rfl (fun H locs hP hD hS => ?_)
    refine lv_aload_n hx hb d_Par_factor_60 rfl (lv_at hl 1 rfl) ?_
    refine lv_dup hx hb d_Par_factor_61 rfl ?_
    refine va_get (D := G.1) (ci := 11) (C := R_Par) (T := F_Par) (N := 5) (v := .int v_at) hx hb hts i_Par hown hK hP 0 rfl rfl 3 (by decide) (hts (.fieldLink R_Par 27 "PrivateQueries$Parser" "at" "I") k_129) (fun _ h9 => h9) rfl d_Par_factor_62 ?_
    refine lv_iconst (v := 1) hx hb d_Par_factor_65 (by decide) ?_
    refine lv_iadd hx hb d_Par_factor_66 ?_
    refine va_put (D := G.1) (ci := 11) (v := .int (v_at + 1)) (ty := .int) (C := R_Par) (T := F_Par) (N := 5) hx hb hts i_Par t_Par t_Par_ok n_Par hown hK hP hD hS 0 rfl rfl 3 (by decide) (hts (.fieldLink R_Par 27 "PrivateQueries$Parser" "at" "I") k_129) (fun _ h9 => h9) rfl (by decide +kernel) rfl rfl (Nat.le_of_ble_eq_true rfl) d_Par_factor_67 (fun H locs hP hD hS => ?_)
    have hP : va_P G.1 classes [(h, .inr (11, [.ref script_h, .ref script_tokens_h, .ref script_conditions_h, .int (v_at + 1), .int v_joints])), (script_h, .inr (10, [.ref script_tokens_h, .ref script_conditions_h, .ref script_a_questions, .int script__asked, .ref script_a_letStarts, .ref script_a_letEnds, .ref script_a_letOfLetter, .int script__lets])), (script_tokens_h, .inr (7, [.ref script_tokens_a_kinds, .ref script_tokens_a_values, .ref script_tokens_a_places, .int script_tokens__size])), (script_tokens_a_kinds, .inl (gI G, 2001, .inl script_tokens_f_kinds)), (script_tokens_a_values, .inl (gI G, 2001, .inl script_tokens_f_values)), (script_conditions_h, .inr (8, [.ref script_conditions_a_steps, .ref script_conditions_a_values, .int r5.1, .ref script_conditions_a_stack, .int script_conditions__height, .ref script_conditions_a_holding])), (script_conditions_a_steps, .inl (gI G, 2000, .inl r5.2.1)), (script_conditions_a_values, .inl (gI G, 2000, .inl r5.2.2)), (script_a_letOfLetter, .inl (gI G, 26, .inl script_f_letOfLetter))] H := hP
    have hD : va_D A [(h, .inr (11, [.ref script_h, .ref script_tokens_h, .ref script_conditions_h, .int (v_at + 1), .int v_joints])), (script_h, .inr (10, [.ref script_tokens_h, .ref script_conditions_h, .ref script_a_questions, .int script__asked, .ref script_a_letStarts, .ref script_a_letEnds, .ref script_a_letOfLetter, .int script__lets])), (script_tokens_h, .inr (7, [.ref script_tokens_a_kinds, .ref script_tokens_a_values, .ref script_tokens_a_places, .int script_tokens__size])), (script_tokens_a_kinds, .inl (gI G, 2001, .inl script_tokens_f_kinds)), (script_tokens_a_values, .inl (gI G, 2001, .inl script_tokens_f_values)), (script_conditions_h, .inr (8, [.ref script_conditions_a_steps, .ref script_conditions_a_values, .int r5.1, .ref script_conditions_a_stack, .int script_conditions__height, .ref script_conditions_a_holding])), (script_conditions_a_steps, .inl (gI G, 2000, .inl r5.2.1)), (script_conditions_a_values, .inl (gI G, 2000, .inl r5.2.2)), (script_a_letOfLetter, .inl (gI G, 26, .inl script_f_letOfLetter))] := hD
    refine lv_iconst (v := 1) hx hb d_Par_factor_70 (by decide) ?_
    exact ly_zret hx hb hr hlocks hP hD hS d_Par_factor_71 (by decide) (by rw [s_Par_factor] <;> simp only [hr1, hr4, hr5] <;> rw [if_neg c1, if_pos c2]) (by rw [s_Par_factor] <;> simp only [hr1, hr4, hr5] <;> rw [if_neg c1, if_pos c2])
  rw [if_neg c2] at hok
  by_cases c3 : r1 = 24
  · skip
    rw [if_pos c3] at hok
    refine lv_lookup (off := 66) (tgt := 72) hx hb d_Par_factor_6 (by decide) (by first | (rw [c3]; done) | (rw [c3]; rfl)) (by decide) ?_
    refine lv_aload_n hx hb d_Par_factor_72 rfl (lv_at hl 1 rfl) ?_
    refine lv_iload_n hx hb d_Par_factor_73 rfl (lv_at hl 2 rfl) ?_
    obtain ⟨r6, hr6⟩ : ∃ r, (s_Par_takeDeeper v_at x) = r := ⟨_, rfl⟩
    try simp only [hr6] at hok
    have hC_r6 := (c_Par_takeDeeper l G h script_h script_tokens_h script_conditions_h v_at v_joints x)
    rw [hr6] at hC_r6
    have hf_r6_1 : isB r6.1 := by rw [← hr6]; exact z_Par_takeDeeper
    refine ly_callV (rest := []) (wf := [(h, .inr (11, [.ref script_h, .ref script_tokens_h, .ref script_conditions_h, .int r6.2, .int v_joints])), (script_h, .inr (10, [.ref script_tokens_h, .ref script_conditions_h, .ref script_a_questions, .int script__asked, .ref script_a_letStarts, .ref script_a_letEnds, .ref script_a_letOfLetter, .int script__lets])), (script_tokens_h, .inr (7, [.ref script_tokens_a_kinds, .ref script_tokens_a_values, .ref script_tokens_a_places, .int script_tokens__size])), (script_tokens_a_kinds, .inl (gI G, 2001, .inl script_tokens_f_kinds)), (script_tokens_a_values, .inl (gI G, 2001, .inl script_tokens_f_values)), (script_conditions_h, .inr (8, [.ref script_conditions_a_steps, .ref script_conditions_a_values, .int script_conditions__size, .ref script_conditions_a_stack, .int script_conditions__height, .ref script_conditions_a_holding])), (script_conditions_a_steps, .inl (gI G, 2000, .inl script_conditions_f_steps)), (script_conditions_a_values, .inl (gI G, 2000, .inl script_conditions_f_values)), (script_a_letOfLetter, .inl (gI G, 26, .inl script_f_letOfLetter))]) ⟨hx, hb, hml, hown, hts⟩ hA hK hZ hP hD hS hC_r6 (cwV 1 hts g_Par_149 rfl rfl rfl (by decide +kernel) ⟨by simp only [rmD]; omega, by simp only [rmD]; omega⟩) (ci := 11) (q0 := 0) rfl rfl rfl [0] rfl (by decide) rfl rfl rfl hl.1 rfl (Nat.le_of_ble_eq_true rfl) d_Par_factor_74 ⟨Nat.le_of_ble_eq_true rfl, Nat.le_of_ble_eq_true rfl⟩ (st1 := [.int r6.1]) (c1 := 0) (s1 := 0) rfl rfl rfl (fun H locs hP hD hS => ?_)
    refine lv_if_eq (tgt := 90) hx hb d_Par_factor_77 (by decide) (fun c4 => ?_) (fun c4 => ?_)
    · skip
      rw [if_pos c4] at hok
      refine lv_iconst (v := 0) hx hb d_Par_factor_90 (by decide) ?_
      exact ly_zret hx hb hr hlocks hP hD hS d_Par_factor_91 (by decide) (by rw [s_Par_factor] <;> simp only [hr1, hr6] <;> rw [if_neg c1, if_neg c2, if_pos c3, if_pos c4]) (by rw [s_Par_factor] <;> simp only [hr1, hr6] <;> rw [if_neg c1, if_neg c2, if_pos c3, if_pos c4])
    rw [if_neg c4] at hok
    refine lv_aload_n hx hb d_Par_factor_80 rfl (lv_at hl 1 rfl) ?_
    refine lv_iload_n hx hb d_Par_factor_81 rfl (lv_at hl 2 rfl) ?_
    refine lv_iconst (v := 1) hx hb d_Par_factor_82 (by decide) ?_
    refine lv_iadd hx hb d_Par_factor_83 ?_
    obtain ⟨hv6, hok⟩ := hok
    obtain ⟨r7, hr7⟩ : ∃ r, (fac script_tokens_f_kinds script_tokens_f_values script_conditions_f_steps script_conditions_f_values script_conditions__size script_f_letOfLetter r6.2 v_joints (x + 1)) = r := ⟨_, rfl⟩
    try simp only [hr7] at hok
    have hC_r7 := (hfac h script_h script_tokens_h script_tokens_a_kinds script_tokens_a_values script_tokens_a_places script_conditions_h script_conditions_a_steps script_conditions_a_values script_conditions_a_stack script_conditions_a_holding script_a_questions script_a_letStarts script_a_letEnds script_a_letOfLetter script_tokens_f_kinds script_tokens_f_values script_tokens__size script_conditions_f_steps script_conditions_f_values script_conditions__size script_conditions__height script__asked script_f_letOfLetter script__lets r6.2 v_joints (x + 1) hv6)
    rw [hr7] at hC_r7
    have hf_r7_1 : isB r7.1 := by rw [← hr7]; exact zfac
    have hc_ : ∀ (x0_ x1_ x2_ x3_ x4_ x5_ x6_ x7_ x8_ : Nat × va_E) (t_ : va_W), List.map (fun i => (x0_ :: x1_ :: x2_ :: x3_ :: x4_ :: x5_ :: x6_ :: x7_ :: x8_ :: t_)[i]?) [0, 1, 2, 3, 4, 5, 6, 7, 8] = List.map some [x0_, x1_, x2_, x3_, x4_, x5_, x6_, x7_, x8_] := fun _ _ _ _ _ _ _ _ _ _ => rfl
    have hf_ : ∀ (x0_ x1_ x2_ x3_ x4_ x5_ x6_ x7_ x8_ y0_ y1_ y2_ y3_ y4_ y5_ y6_ y7_ y8_ : Nat × va_E) (t_ : va_W), setAll (x0_ :: x1_ :: x2_ :: x3_ :: x4_ :: x5_ :: x6_ :: x7_ :: x8_ :: t_) [0, 1, 2, 3, 4, 5, 6, 7, 8] [y0_, y1_, y2_, y3_, y4_, y5_, y6_, y7_, y8_] = y0_ :: y1_ :: y2_ :: y3_ :: y4_ :: y5_ :: y6_ :: y7_ :: y8_ :: t_ := fun _ _ _ _ _ _ _ _ _ _ _ _ _ _ _ _ _ _ _ => Eq.trans (setAll_M (bs := [true, true, true, true, true, true, true, true, true]) trivial rfl) rfl
    refine ly_callV (rest := []) (wf := [(h, .inr (11, [.ref script_h, .ref script_tokens_h, .ref script_conditions_h, .int r7.2.1, .int r7.2.2.1])), (script_h, .inr (10, [.ref script_tokens_h, .ref script_conditions_h, .ref script_a_questions, .int script__asked, .ref script_a_letStarts, .ref script_a_letEnds, .ref script_a_letOfLetter, .int script__lets])), (script_tokens_h, .inr (7, [.ref script_tokens_a_kinds, .ref script_tokens_a_values, .ref script_tokens_a_places, .int script_tokens__size])), (script_tokens_a_kinds, .inl (gI G, 2001, .inl script_tokens_f_kinds)), (script_tokens_a_values, .inl (gI G, 2001, .inl script_tokens_f_values)), (script_conditions_h, .inr (8, [.ref script_conditions_a_steps, .ref script_conditions_a_values, .int r7.2.2.2.1, .ref script_conditions_a_stack, .int script_conditions__height, .ref script_conditions_a_holding])), (script_conditions_a_steps, .inl (gI G, 2000, .inl r7.2.2.2.2.1)), (script_conditions_a_values, .inl (gI G, 2000, .inl r7.2.2.2.2.2)), (script_a_letOfLetter, .inl (gI G, 26, .inl script_f_letOfLetter))]) ⟨hx, hb, hml, hown, hts⟩ hA hK hZ hP hD hS hC_r7 (cwV 1 hts g_Par_155 rfl rfl rfl (by decide +kernel) ⟨by simp only [rmD]; omega, by simp only [rmD]; omega⟩) (ci := 11) (q0 := 0) rfl rfl rfl [0, 1, 2, 3, 4, 5, 6, 7, 8] (hc_ _ _ _ _ _ _ _ _ _ _) (by decide) rfl (hf_ _ _ _ _ _ _ _ _ _ _ _ _ _ _ _ _ _ _ _) rfl hl.1 rfl (Nat.le_of_ble_eq_true rfl) d_Par_factor_84 ⟨Nat.le_of_ble_eq_true rfl, Nat.le_of_ble_eq_true rfl⟩ (st1 := [.int r7.1]) (c1 := 0) (s1 := 0) rfl rfl rfl (fun H locs hP hD hS => ?_)
    refine lv_if_ne (tgt := 92) hx hb d_Par_factor_87 (by decide) (fun c5 => ?_) (fun c5 => ?_)
    · skip
      rw [if_neg c5] at hok
      refine lv_aload_n hx hb d_Par_factor_92 rfl (lv_at hl 1 rfl) ?_
      refine va_get (D := G.1) (ci := 11) (C := R_Par) (T := F_Par) (N := 5) (v := .ref script_conditions_h) hx hb hts i_Par hown hK hP 0 rfl rfl 2 (by decide) (hts (.fieldLink R_Par 26 "PrivateQueries$Parser" "conditions" "LPrivateQueries$Conditions;") k_755) (fun _ h9 => h9) rfl d_Par_factor_93 ?_
      refine lv_iconst (v := -1) hx hb d_Par_factor_96 (by decide) ?_
      refine lv_iconst (v := 0) hx hb d_Par_factor_97 (by decide) ?_
      obtain ⟨hv7, hok⟩ := hok
      obtain ⟨r8, hr8⟩ : ∃ r, (s_Cond_add r7.2.2.2.2.1 r7.2.2.2.2.2 r7.2.2.2.1 (-1) 0) = r := ⟨_, rfl⟩
      try simp only [hr8] at hok
      have hC_r8 := (c_Cond_add l G script_conditions_h script_conditions_a_steps script_conditions_a_values script_conditions_a_stack script_conditions_a_holding r7.2.2.2.2.1 r7.2.2.2.2.2 r7.2.2.2.1 script_conditions__height (-1) 0 hv7)
      rw [hr8] at hC_r8
      refine ly_callV (rest := []) (wf := [(h, .inr (11, [.ref script_h, .ref script_tokens_h, .ref script_conditions_h, .int r7.2.1, .int r7.2.2.1])), (script_h, .inr (10, [.ref script_tokens_h, .ref script_conditions_h, .ref script_a_questions, .int script__asked, .ref script_a_letStarts, .ref script_a_letEnds, .ref script_a_letOfLetter, .int script__lets])), (script_tokens_h, .inr (7, [.ref script_tokens_a_kinds, .ref script_tokens_a_values, .ref script_tokens_a_places, .int script_tokens__size])), (script_tokens_a_kinds, .inl (gI G, 2001, .inl script_tokens_f_kinds)), (script_tokens_a_values, .inl (gI G, 2001, .inl script_tokens_f_values)), (script_conditions_h, .inr (8, [.ref script_conditions_a_steps, .ref script_conditions_a_values, .int r8.1, .ref script_conditions_a_stack, .int script_conditions__height, .ref script_conditions_a_holding])), (script_conditions_a_steps, .inl (gI G, 2000, .inl r8.2.1)), (script_conditions_a_values, .inl (gI G, 2000, .inl r8.2.2)), (script_a_letOfLetter, .inl (gI G, 26, .inl script_f_letOfLetter))]) ⟨hx, hb, hml, hown, hts⟩ hA hK hZ hP hD hS hC_r8 (cwV 2 hts g_Par_143 rfl rfl rfl (by decide +kernel) ⟨by simp only [rmD]; omega, by simp only [rmD]; omega⟩) (ci := 8) (q0 := 5) rfl rfl rfl [5, 6, 7] rfl (by decide) rfl rfl rfl hl.1 rfl (Nat.le_of_ble_eq_true rfl) d_Par_factor_98 ⟨Nat.le_of_ble_eq_true rfl, Nat.le_of_ble_eq_true rfl⟩ (st1 := []) (c1 := 0) (s1 := 0) rfl rfl rfl (fun H locs hP hD hS => ?_)
      refine lv_iconst (v := 1) hx hb d_Par_factor_101 (by decide) ?_
      exact ly_zret hx hb hr hlocks hP hD hS d_Par_factor_102 (by decide) (by rw [s_Par_factor] <;> simp only [hr1, hr6, hr7, hr8] <;> rw [if_neg c1, if_neg c2, if_pos c3, if_neg c4, if_neg c5]) (by rw [s_Par_factor] <;> simp only [hr1, hr6, hr7, hr8] <;> rw [if_neg c1, if_neg c2, if_pos c3, if_neg c4, if_neg c5])
    rw [if_pos c5] at hok
    refine lv_iconst (v := 0) hx hb d_Par_factor_90 (by decide) ?_
    exact ly_zret hx hb hr hlocks hP hD hS d_Par_factor_91 (by decide) (by rw [s_Par_factor] <;> simp only [hr1, hr6, hr7] <;> rw [if_neg c1, if_neg c2, if_pos c3, if_neg c4, if_pos c5]) (by rw [s_Par_factor] <;> simp only [hr1, hr6, hr7] <;> rw [if_neg c1, if_neg c2, if_pos c3, if_neg c4, if_pos c5])
  rw [if_neg c3] at hok
  by_cases c6 : r1 = 27
  · skip
    rw [if_pos c6] at hok
    refine lv_lookup (off := 97) (tgt := 103) hx hb d_Par_factor_6 (by decide) (by first | (rw [c6]; done) | (rw [c6]; rfl)) (by decide) ?_
    refine lv_aload_n hx hb d_Par_factor_103 rfl (lv_at hl 1 rfl) ?_
    refine lv_iload_n hx hb d_Par_factor_104 rfl (lv_at hl 2 rfl) ?_
    obtain ⟨r9, hr9⟩ : ∃ r, (s_Par_takeDeeper v_at x) = r := ⟨_, rfl⟩
    try simp only [hr9] at hok
    have hC_r9 := (c_Par_takeDeeper l G h script_h script_tokens_h script_conditions_h v_at v_joints x)
    rw [hr9] at hC_r9
    have hf_r9_1 : isB r9.1 := by rw [← hr9]; exact z_Par_takeDeeper
    refine ly_callV (rest := []) (wf := [(h, .inr (11, [.ref script_h, .ref script_tokens_h, .ref script_conditions_h, .int r9.2, .int v_joints])), (script_h, .inr (10, [.ref script_tokens_h, .ref script_conditions_h, .ref script_a_questions, .int script__asked, .ref script_a_letStarts, .ref script_a_letEnds, .ref script_a_letOfLetter, .int script__lets])), (script_tokens_h, .inr (7, [.ref script_tokens_a_kinds, .ref script_tokens_a_values, .ref script_tokens_a_places, .int script_tokens__size])), (script_tokens_a_kinds, .inl (gI G, 2001, .inl script_tokens_f_kinds)), (script_tokens_a_values, .inl (gI G, 2001, .inl script_tokens_f_values)), (script_conditions_h, .inr (8, [.ref script_conditions_a_steps, .ref script_conditions_a_values, .int script_conditions__size, .ref script_conditions_a_stack, .int script_conditions__height, .ref script_conditions_a_holding])), (script_conditions_a_steps, .inl (gI G, 2000, .inl script_conditions_f_steps)), (script_conditions_a_values, .inl (gI G, 2000, .inl script_conditions_f_values)), (script_a_letOfLetter, .inl (gI G, 26, .inl script_f_letOfLetter))]) ⟨hx, hb, hml, hown, hts⟩ hA hK hZ hP hD hS hC_r9 (cwV 1 hts g_Par_149 rfl rfl rfl (by decide +kernel) ⟨by simp only [rmD]; omega, by simp only [rmD]; omega⟩) (ci := 11) (q0 := 0) rfl rfl rfl [0] rfl (by decide) rfl rfl rfl hl.1 rfl (Nat.le_of_ble_eq_true rfl) d_Par_factor_105 ⟨Nat.le_of_ble_eq_true rfl, Nat.le_of_ble_eq_true rfl⟩ (st1 := [.int r9.1]) (c1 := 0) (s1 := 0) rfl rfl rfl (fun H locs hP hD hS => ?_)
    refine lv_if_eq (tgt := 134) hx hb d_Par_factor_108 (by decide) (fun c7 => ?_) (fun c7 => ?_)
    · skip
      rw [if_pos c7] at hok
      refine lv_iconst (v := 0) hx hb d_Par_factor_134 (by decide) ?_
      exact ly_zret hx hb hr hlocks hP hD hS d_Par_factor_135 (by decide) (by rw [s_Par_factor] <;> simp only [hr1, hr9] <;> rw [if_neg c1, if_neg c2, if_neg c3, if_pos c6, if_pos c7]) (by rw [s_Par_factor] <;> simp only [hr1, hr9] <;> rw [if_neg c1, if_neg c2, if_neg c3, if_pos c6, if_pos c7])
    rw [if_neg c7] at hok
    refine lv_aload_n hx hb d_Par_factor_111 rfl (lv_at hl 1 rfl) ?_
    refine lv_iload_n hx hb d_Par_factor_112 rfl (lv_at hl 2 rfl) ?_
    refine lv_iconst (v := 1) hx hb d_Par_factor_113 (by decide) ?_
    refine lv_iadd hx hb d_Par_factor_114 ?_
    obtain ⟨hv8, hok⟩ := hok
    obtain ⟨r10, hr10⟩ : ∃ r, (sm script_tokens_f_kinds script_tokens_f_values script_conditions_f_steps script_conditions_f_values script_conditions__size script_f_letOfLetter r9.2 v_joints (x + 1)) = r := ⟨_, rfl⟩
    try simp only [hr10] at hok
    have hC_r10 := (hsm h script_h script_tokens_h script_tokens_a_kinds script_tokens_a_values script_tokens_a_places script_conditions_h script_conditions_a_steps script_conditions_a_values script_conditions_a_stack script_conditions_a_holding script_a_questions script_a_letStarts script_a_letEnds script_a_letOfLetter script_tokens_f_kinds script_tokens_f_values script_tokens__size script_conditions_f_steps script_conditions_f_values script_conditions__size script_conditions__height script__asked script_f_letOfLetter script__lets r9.2 v_joints (x + 1) hv8)
    rw [hr10] at hC_r10
    have hf_r10_1 : isB r10.1 := by rw [← hr10]; exact zsm
    have hc_ : ∀ (x0_ x1_ x2_ x3_ x4_ x5_ x6_ x7_ x8_ : Nat × va_E) (t_ : va_W), List.map (fun i => (x0_ :: x1_ :: x2_ :: x3_ :: x4_ :: x5_ :: x6_ :: x7_ :: x8_ :: t_)[i]?) [0, 1, 2, 3, 4, 5, 6, 7, 8] = List.map some [x0_, x1_, x2_, x3_, x4_, x5_, x6_, x7_, x8_] := fun _ _ _ _ _ _ _ _ _ _ => rfl
    have hf_ : ∀ (x0_ x1_ x2_ x3_ x4_ x5_ x6_ x7_ x8_ y0_ y1_ y2_ y3_ y4_ y5_ y6_ y7_ y8_ : Nat × va_E) (t_ : va_W), setAll (x0_ :: x1_ :: x2_ :: x3_ :: x4_ :: x5_ :: x6_ :: x7_ :: x8_ :: t_) [0, 1, 2, 3, 4, 5, 6, 7, 8] [y0_, y1_, y2_, y3_, y4_, y5_, y6_, y7_, y8_] = y0_ :: y1_ :: y2_ :: y3_ :: y4_ :: y5_ :: y6_ :: y7_ :: y8_ :: t_ := fun _ _ _ _ _ _ _ _ _ _ _ _ _ _ _ _ _ _ _ => Eq.trans (setAll_M (bs := [true, true, true, true, true, true, true, true, true]) trivial rfl) rfl
    refine ly_callV (rest := []) (wf := [(h, .inr (11, [.ref script_h, .ref script_tokens_h, .ref script_conditions_h, .int r10.2.1, .int r10.2.2.1])), (script_h, .inr (10, [.ref script_tokens_h, .ref script_conditions_h, .ref script_a_questions, .int script__asked, .ref script_a_letStarts, .ref script_a_letEnds, .ref script_a_letOfLetter, .int script__lets])), (script_tokens_h, .inr (7, [.ref script_tokens_a_kinds, .ref script_tokens_a_values, .ref script_tokens_a_places, .int script_tokens__size])), (script_tokens_a_kinds, .inl (gI G, 2001, .inl script_tokens_f_kinds)), (script_tokens_a_values, .inl (gI G, 2001, .inl script_tokens_f_values)), (script_conditions_h, .inr (8, [.ref script_conditions_a_steps, .ref script_conditions_a_values, .int r10.2.2.2.1, .ref script_conditions_a_stack, .int script_conditions__height, .ref script_conditions_a_holding])), (script_conditions_a_steps, .inl (gI G, 2000, .inl r10.2.2.2.2.1)), (script_conditions_a_values, .inl (gI G, 2000, .inl r10.2.2.2.2.2)), (script_a_letOfLetter, .inl (gI G, 26, .inl script_f_letOfLetter))]) ⟨hx, hb, hml, hown, hts⟩ hA hK hZ hP hD hS hC_r10 (cwV 1 hts g_Par_152 rfl rfl rfl (by decide +kernel) ⟨by simp only [rmD]; omega, by simp only [rmD]; omega⟩) (ci := 11) (q0 := 0) rfl rfl rfl [0, 1, 2, 3, 4, 5, 6, 7, 8] (hc_ _ _ _ _ _ _ _ _ _ _) (by decide) rfl (hf_ _ _ _ _ _ _ _ _ _ _ _ _ _ _ _ _ _ _ _) rfl hl.1 rfl (Nat.le_of_ble_eq_true rfl) d_Par_factor_115 ⟨Nat.le_of_ble_eq_true rfl, Nat.le_of_ble_eq_true rfl⟩ (st1 := [.int r10.1]) (c1 := 0) (s1 := 0) rfl rfl rfl (fun H locs hP hD hS => ?_)
    refine lv_if_eq (tgt := 134) hx hb d_Par_factor_118 (by decide) (fun c8 => ?_) (fun c8 => ?_)
    · skip
      rw [if_pos c8] at hok
      refine lv_iconst (v := 0) hx hb d_Par_factor_134 (by decide) ?_
      exact ly_zret hx hb hr hlocks hP hD hS d_Par_factor_135 (by decide) (by rw [s_Par_factor] <;> simp only [hr1, hr9, hr10] <;> rw [if_neg c1, if_neg c2, if_neg c3, if_pos c6, if_neg c7, if_pos c8]) (by rw [s_Par_factor] <;> simp only [hr1, hr9, hr10] <;> rw [if_neg c1, if_neg c2, if_neg c3, if_pos c6, if_neg c7, if_pos c8])
    rw [if_neg c8] at hok
    refine lv_aload_n hx hb d_Par_factor_121 rfl (lv_at hl 1 rfl) ?_
    refine lv_bipush (v := 28) hx hb d_Par_factor_122 (by decide) ?_
    obtain ⟨hv9, hok⟩ := hok
    obtain ⟨r11, hr11⟩ : ∃ r, (s_Par_take script_tokens_f_kinds r10.2.1 28) = r := ⟨_, rfl⟩
    try simp only [hr11] at hok
    have hC_r11 := (c_Par_take l G h script_h script_tokens_h script_tokens_a_kinds script_tokens_a_values script_tokens_a_places script_conditions_h script_tokens_f_kinds script_tokens__size r10.2.1 r10.2.2.1 28 hv9)
    rw [hr11] at hC_r11
    have hf_r11_1 : up r11.2 2001 := by rw [← hr11]; exact (k_tk hv9)
    have hf_r11_2 : isB r11.1 := by rw [← hr11]; exact z_Par_take
    refine ly_callV (rest := []) (wf := [(h, .inr (11, [.ref script_h, .ref script_tokens_h, .ref script_conditions_h, .int r11.2, .int r10.2.2.1])), (script_h, .inr (10, [.ref script_tokens_h, .ref script_conditions_h, .ref script_a_questions, .int script__asked, .ref script_a_letStarts, .ref script_a_letEnds, .ref script_a_letOfLetter, .int script__lets])), (script_tokens_h, .inr (7, [.ref script_tokens_a_kinds, .ref script_tokens_a_values, .ref script_tokens_a_places, .int script_tokens__size])), (script_tokens_a_kinds, .inl (gI G, 2001, .inl script_tokens_f_kinds)), (script_tokens_a_values, .inl (gI G, 2001, .inl script_tokens_f_values)), (script_conditions_h, .inr (8, [.ref script_conditions_a_steps, .ref script_conditions_a_values, .int r10.2.2.2.1, .ref script_conditions_a_stack, .int script_conditions__height, .ref script_conditions_a_holding])), (script_conditions_a_steps, .inl (gI G, 2000, .inl r10.2.2.2.2.1)), (script_conditions_a_values, .inl (gI G, 2000, .inl r10.2.2.2.2.2)), (script_a_letOfLetter, .inl (gI G, 26, .inl script_f_letOfLetter))]) ⟨hx, hb, hml, hown, hts⟩ hA hK hZ hP hD hS hC_r11 (cwV 1 hts g_Par_47 rfl rfl rfl (by decide +kernel) ⟨by simp only [rmD]; omega, by simp only [rmD]; omega⟩) (ci := 11) (q0 := 0) rfl rfl rfl [0, 2, 3] rfl (by decide) rfl rfl rfl hl.1 rfl (Nat.le_of_ble_eq_true rfl) d_Par_factor_124 ⟨Nat.le_of_ble_eq_true rfl, Nat.le_of_ble_eq_true rfl⟩ (st1 := [.int r11.1]) (c1 := 0) (s1 := 0) rfl rfl rfl (fun H locs hP hD hS => ?_)
    refine lv_if_eq (tgt := 134) hx hb d_Par_factor_127 (by decide) (fun c9 => ?_) (fun c9 => ?_)
    · skip
      rw [if_pos c9] at hok
      refine lv_iconst (v := 0) hx hb d_Par_factor_134 (by decide) ?_
      exact ly_zret hx hb hr hlocks hP hD hS d_Par_factor_135 (by decide) (by rw [s_Par_factor] <;> simp only [hr1, hr9, hr10, hr11] <;> rw [if_neg c1, if_neg c2, if_neg c3, if_pos c6, if_neg c7, if_neg c8, if_pos c9]) (by rw [s_Par_factor] <;> simp only [hr1, hr9, hr10, hr11] <;> rw [if_neg c1, if_neg c2, if_neg c3, if_pos c6, if_neg c7, if_neg c8, if_pos c9])
    rw [if_neg c9] at hok
    refine lv_iconst (v := 1) hx hb d_Par_factor_130 (by decide) ?_
    refine lv_goto (tgt := 135) hx hb d_Par_factor_131 (by decide) ?_
    exact ly_zret hx hb hr hlocks hP hD hS d_Par_factor_135 (by decide) (by rw [s_Par_factor] <;> simp only [hr1, hr9, hr10, hr11] <;> rw [if_neg c1, if_neg c2, if_neg c3, if_pos c6, if_neg c7, if_neg c8, if_neg c9]) (by rw [s_Par_factor] <;> simp only [hr1, hr9, hr10, hr11] <;> rw [if_neg c1, if_neg c2, if_neg c3, if_pos c6, if_neg c7, if_neg c8, if_neg c9])
  rw [if_neg c6] at hok
  refine lv_lookup (off := 130) (tgt := 136) hx hb d_Par_factor_6 (by decide) (by first | (rw [lv_osw c1 (by decide), lv_osw c2 (by decide), lv_osw c3 (by decide), lv_osw c6 (by decide)]; done) | (rw [lv_osw c1 (by decide), lv_osw c2 (by decide), lv_osw c3 (by decide), lv_osw c6 (by decide)]; rfl)) (by decide) ?_
  refine lv_iconst (v := 0) hx hb d_Par_factor_136 (by decide) ?_
  exact ly_zret hx hb hr hlocks hP hD hS d_Par_factor_137 (by decide) (by rw [s_Par_factor] <;> simp only [hr1] <;> rw [if_neg c1, if_neg c2, if_neg c3, if_neg c6]) (by rw [s_Par_factor] <;> simp only [hr1] <;> rw [if_neg c1, if_neg c2, if_neg c3, if_neg c6])

theorem zlp_Par_condition_14 {tru : RcF} {script_tokens_f_kinds : Nat → Int32} {script_tokens_f_values : Nat → Int32} {script_f_letOfLetter : Nat → Int32} {x : Int32} (ztru : ∀ {script_tokens_f_kinds : Nat → Int32} {script_tokens_f_values : Nat → Int32} {script_conditions_f_steps : Nat → Int32} {script_conditions_f_values : Nat → Int32} {script_conditions__size : Int32} {script_f_letOfLetter : Nat → Int32} {v_at : Int32} {v_joints : Int32} {x : Int32}, isB (tru script_tokens_f_kinds script_tokens_f_values script_conditions_f_steps script_conditions_f_values script_conditions__size script_f_letOfLetter v_at v_joints x).1) : ∀ {n : Nat} {i2 : Int32} {i3 : Int32} {w3_h : Int32} {w4_h : Int32} {w2_script_conditions_h : Int32} {g_script_conditions_a_steps : Nat → Int32} {g_script_conditions_a_values : Nat → Int32}, isB (lp_Par_condition_14 tru script_tokens_f_kinds script_tokens_f_values script_f_letOfLetter x n i2 i3 w3_h w4_h w2_script_conditions_h g_script_conditions_a_steps g_script_conditions_a_values).1 := by
  intro n
  induction n with
  | zero => intro i2 i3 w3_h w4_h w2_script_conditions_h g_script_conditions_a_steps g_script_conditions_a_values; unfold lp_Par_condition_14; exact isB_0
  | succ n ih =>
    intro i2 i3 w3_h w4_h w2_script_conditions_h g_script_conditions_a_steps g_script_conditions_a_values
    obtain ⟨r1, hr1⟩ : ∃ r, (s_Par_kind script_tokens_f_kinds w3_h) = r := ⟨_, rfl⟩
    obtain ⟨r2, hr2⟩ : ∃ r, (s_Par_takeJoint w3_h w4_h) = r := ⟨_, rfl⟩
    have zb_r2 : isB r2.1 := by rw [← hr2]; exact z_Par_takeJoint
    obtain ⟨r3, hr3⟩ : ∃ r, (tru script_tokens_f_kinds script_tokens_f_values g_script_conditions_a_steps g_script_conditions_a_values w2_script_conditions_h script_f_letOfLetter r2.2.1 r2.2.2 x) = r := ⟨_, rfl⟩
    have zb_r3 : isB r3.1 := by rw [← hr3]; exact ztru
    obtain ⟨r4, hr4⟩ : ∃ r, (s_Cond_add r3.2.2.2.2.1 r3.2.2.2.2.2 r3.2.2.2.1 14 0) = r := ⟨_, rfl⟩
    obtain ⟨r14, hr14⟩ : ∃ r, (s_Cond_add g_script_conditions_a_steps g_script_conditions_a_values w2_script_conditions_h 15 0) = r := ⟨_, rfl⟩
    obtain ⟨r16, hr16⟩ : ∃ r, (tru script_tokens_f_kinds script_tokens_f_values r14.2.1 r14.2.2 r14.1 script_f_letOfLetter r2.2.1 r2.2.2 x) = r := ⟨_, rfl⟩
    have zb_r16 : isB r16.1 := by rw [← hr16]; exact ztru
    obtain ⟨r17, hr17⟩ : ∃ r, (s_Cond_add r16.2.2.2.2.1 r16.2.2.2.2.2 r16.2.2.2.1 14 0) = r := ⟨_, rfl⟩
    rw [lp_Par_condition_14]
    simp only [hr1, hr2, hr3, hr4, hr14, hr16, hr17]
    by_cases ct1 : 2000 ≤ i3
    · rw [if_pos ct1]
      first | exact isB_0 | exact isB_1 | exact ih | assumption
    rw [if_neg ct1]
    by_cases ct2 : i2 = 0
    · rw [if_pos ct2]
      by_cases ct3 : r1 = 14
      · rw [if_pos ct3]
        by_cases ct4 : r2.1 = 0
        · rw [if_pos ct4]
          first | exact isB_0 | exact isB_1 | exact ih | assumption
        rw [if_neg ct4]
        by_cases ct5 : r3.1 = 0
        · rw [if_pos ct5]
          first | exact isB_0 | exact isB_1 | exact ih | assumption
        rw [if_neg ct5]
        by_cases ct6 : r1 = 14
        · rw [if_pos ct6]
          first | exact isB_0 | exact isB_1 | exact ih | assumption
        rw [if_neg ct6]
        first | exact isB_0 | exact isB_1 | exact ih | assumption
      rw [if_neg ct3]
      by_cases ct7 : r1 = 15
      · rw [if_pos ct7]
        by_cases ct8 : r2.1 = 0
        · rw [if_pos ct8]
          first | exact isB_0 | exact isB_1 | exact ih | assumption
        rw [if_neg ct8]
        by_cases ct9 : r3.1 = 0
        · rw [if_pos ct9]
          first | exact isB_0 | exact isB_1 | exact ih | assumption
        rw [if_neg ct9]
        by_cases ct10 : r1 = 14
        · rw [if_pos ct10]
          first | exact isB_0 | exact isB_1 | exact ih | assumption
        rw [if_neg ct10]
        first | exact isB_0 | exact isB_1 | exact ih | assumption
      rw [if_neg ct7]
      first | exact isB_0 | exact isB_1 | exact ih | assumption
    rw [if_neg ct2]
    by_cases ct11 : r1 = 14
    · rw [if_pos ct11]
      by_cases ct12 : r1 = 14
      · rw [if_pos ct12]
        by_cases ct13 : r2.1 = 0
        · rw [if_pos ct13]
          first | exact isB_0 | exact isB_1 | exact ih | assumption
        rw [if_neg ct13]
        by_cases ct14 : r3.1 = 0
        · rw [if_pos ct14]
          first | exact isB_0 | exact isB_1 | exact ih | assumption
        rw [if_neg ct14]
        by_cases ct15 : r1 = 14
        · rw [if_pos ct15]
          first | exact isB_0 | exact isB_1 | exact ih | assumption
        rw [if_neg ct15]
        first | exact isB_0 | exact isB_1 | exact ih | assumption
      rw [if_neg ct12]
      by_cases ct16 : r1 = 15
      · rw [if_pos ct16]
        by_cases ct17 : r2.1 = 0
        · rw [if_pos ct17]
          first | exact isB_0 | exact isB_1 | exact ih | assumption
        rw [if_neg ct17]
        by_cases ct18 : r3.1 = 0
        · rw [if_pos ct18]
          first | exact isB_0 | exact isB_1 | exact ih | assumption
        rw [if_neg ct18]
        by_cases ct19 : r1 = 14
        · rw [if_pos ct19]
          first | exact isB_0 | exact isB_1 | exact ih | assumption
        rw [if_neg ct19]
        first | exact isB_0 | exact isB_1 | exact ih | assumption
      rw [if_neg ct16]
      first | exact isB_0 | exact isB_1 | exact ih | assumption
    rw [if_neg ct11]
    by_cases ct20 : r1 = 14
    · rw [if_pos ct20]
      by_cases ct21 : r2.1 = 0
      · rw [if_pos ct21]
        first | exact isB_0 | exact isB_1 | exact ih | assumption
      rw [if_neg ct21]
      by_cases ct22 : r16.1 = 0
      · rw [if_pos ct22]
        first | exact isB_0 | exact isB_1 | exact ih | assumption
      rw [if_neg ct22]
      by_cases ct23 : r1 = 14
      · rw [if_pos ct23]
        first | exact isB_0 | exact isB_1 | exact ih | assumption
      rw [if_neg ct23]
      first | exact isB_0 | exact isB_1 | exact ih | assumption
    rw [if_neg ct20]
    by_cases ct24 : r1 = 15
    · rw [if_pos ct24]
      by_cases ct25 : r2.1 = 0
      · rw [if_pos ct25]
        first | exact isB_0 | exact isB_1 | exact ih | assumption
      rw [if_neg ct25]
      by_cases ct26 : r16.1 = 0
      · rw [if_pos ct26]
        first | exact isB_0 | exact isB_1 | exact ih | assumption
      rw [if_neg ct26]
      by_cases ct27 : r1 = 14
      · rw [if_pos ct27]
        first | exact isB_0 | exact isB_1 | exact ih | assumption
      rw [if_neg ct27]
      first | exact isB_0 | exact isB_1 | exact ih | assumption
    rw [if_neg ct24]
    first | exact isB_0 | exact isB_1 | exact ih | assumption
theorem z_Par_condition {tru : RcF} {script_tokens_f_kinds : Nat → Int32} {script_tokens_f_values : Nat → Int32} {script_conditions_f_steps : Nat → Int32} {script_conditions_f_values : Nat → Int32} {script_conditions__size : Int32} {script_f_letOfLetter : Nat → Int32} {v_at : Int32} {v_joints : Int32} {x : Int32} (ztru : ∀ {script_tokens_f_kinds : Nat → Int32} {script_tokens_f_values : Nat → Int32} {script_conditions_f_steps : Nat → Int32} {script_conditions_f_values : Nat → Int32} {script_conditions__size : Int32} {script_f_letOfLetter : Nat → Int32} {v_at : Int32} {v_joints : Int32} {x : Int32}, isB (tru script_tokens_f_kinds script_tokens_f_values script_conditions_f_steps script_conditions_f_values script_conditions__size script_f_letOfLetter v_at v_joints x).1) : isB (s_Par_condition tru script_tokens_f_kinds script_tokens_f_values script_conditions_f_steps script_conditions_f_values script_conditions__size script_f_letOfLetter v_at v_joints x).1 := by
  obtain ⟨r1, hr1⟩ : ∃ r, (tru script_tokens_f_kinds script_tokens_f_values script_conditions_f_steps script_conditions_f_values script_conditions__size script_f_letOfLetter v_at v_joints x) = r := ⟨_, rfl⟩
  have zb_r1 : isB r1.1 := by rw [← hr1]; exact ztru
  rw [s_Par_condition]
  simp only [hr1]
  by_cases ct1 : r1.1 = 0
  · rw [if_pos ct1]
    first | exact zlp_Par_condition_14 ztru | exact isB_0 | exact isB_1 | assumption
  rw [if_neg ct1]
  first | exact zlp_Par_condition_14 ztru | exact isB_0 | exact isB_1 | assumption
set_option maxHeartbeats 4000000 in
set_option maxRecDepth 100000 in
theorem c_Par_condition (l : Launch) (G : GG) (b_ : Nat) (tru : RcF) (oktru : RcO) (ztru : ∀ {script_tokens_f_kinds : Nat → Int32} {script_tokens_f_values : Nat → Int32} {script_conditions_f_steps : Nat → Int32} {script_conditions_f_values : Nat → Int32} {script_conditions__size : Int32} {script_f_letOfLetter : Nat → Int32} {v_at : Int32} {v_joints : Int32} {x : Int32}, isB (tru script_tokens_f_kinds script_tokens_f_values script_conditions_f_steps script_conditions_f_values script_conditions__size script_f_letOfLetter v_at v_joints x).1) (htru : DetF l G y_Par_truth w_Par_truth b_ tru oktru) (h : Nat) (script_h : Nat) (script_tokens_h : Nat) (script_tokens_a_kinds : Nat) (script_tokens_a_values : Nat) (script_tokens_a_places : Nat) (script_conditions_h : Nat) (script_conditions_a_steps : Nat) (script_conditions_a_values : Nat) (script_conditions_a_stack : Nat) (script_conditions_a_holding : Nat) (script_a_questions : Nat) (script_a_letStarts : Nat) (script_a_letEnds : Nat) (script_a_letOfLetter : Nat) (script_tokens_f_kinds : Nat → Int32) (script_tokens_f_values : Nat → Int32) (script_tokens__size : Int32) (script_conditions_f_steps : Nat → Int32) (script_conditions_f_values : Nat → Int32) (script_conditions__size : Int32) (script_conditions__height : Int32) (script__asked : Int32) (script_f_letOfLetter : Nat → Int32) (script__lets : Int32) (v_at : Int32) (v_joints : Int32) (x : Int32) (hok : ok_Par_condition tru oktru script_tokens_f_kinds script_tokens_f_values script_conditions_f_steps script_conditions_f_values script_conditions__size script_f_letOfLetter v_at v_joints x) : Det l G y_Par_condition w_Par_condition (rmD (b_ + 1)) 0 0 [.ref h, .int x] [(h, .inr (11, [.ref script_h, .ref script_tokens_h, .ref script_conditions_h, .int v_at, .int v_joints])), (script_h, .inr (10, [.ref script_tokens_h, .ref script_conditions_h, .ref script_a_questions, .int script__asked, .ref script_a_letStarts, .ref script_a_letEnds, .ref script_a_letOfLetter, .int script__lets])), (script_tokens_h, .inr (7, [.ref script_tokens_a_kinds, .ref script_tokens_a_values, .ref script_tokens_a_places, .int script_tokens__size])), (script_tokens_a_kinds, .inl (gI G, 2001, .inl script_tokens_f_kinds)), (script_tokens_a_values, .inl (gI G, 2001, .inl script_tokens_f_values)), (script_conditions_h, .inr (8, [.ref script_conditions_a_steps, .ref script_conditions_a_values, .int script_conditions__size, .ref script_conditions_a_stack, .int script_conditions__height, .ref script_conditions_a_holding])), (script_conditions_a_steps, .inl (gI G, 2000, .inl script_conditions_f_steps)), (script_conditions_a_values, .inl (gI G, 2000, .inl script_conditions_f_values)), (script_a_letOfLetter, .inl (gI G, 26, .inl script_f_letOfLetter))] (some (.int (s_Par_condition tru script_tokens_f_kinds script_tokens_f_values script_conditions_f_steps script_conditions_f_values script_conditions__size script_f_letOfLetter v_at v_joints x).1)) [(h, .inr (11, [.ref script_h, .ref script_tokens_h, .ref script_conditions_h, .int (s_Par_condition tru script_tokens_f_kinds script_tokens_f_values script_conditions_f_steps script_conditions_f_values script_conditions__size script_f_letOfLetter v_at v_joints x).2.1, .int (s_Par_condition tru script_tokens_f_kinds script_tokens_f_values script_conditions_f_steps script_conditions_f_values script_conditions__size script_f_letOfLetter v_at v_joints x).2.2.1])), (script_h, .inr (10, [.ref script_tokens_h, .ref script_conditions_h, .ref script_a_questions, .int script__asked, .ref script_a_letStarts, .ref script_a_letEnds, .ref script_a_letOfLetter, .int script__lets])), (script_tokens_h, .inr (7, [.ref script_tokens_a_kinds, .ref script_tokens_a_values, .ref script_tokens_a_places, .int script_tokens__size])), (script_tokens_a_kinds, .inl (gI G, 2001, .inl script_tokens_f_kinds)), (script_tokens_a_values, .inl (gI G, 2001, .inl script_tokens_f_values)), (script_conditions_h, .inr (8, [.ref script_conditions_a_steps, .ref script_conditions_a_values, .int (s_Par_condition tru script_tokens_f_kinds script_tokens_f_values script_conditions_f_steps script_conditions_f_values script_conditions__size script_f_letOfLetter v_at v_joints x).2.2.2.1, .ref script_conditions_a_stack, .int script_conditions__height, .ref script_conditions_a_holding])), (script_conditions_a_steps, .inl (gI G, 2000, .inl (s_Par_condition tru script_tokens_f_kinds script_tokens_f_values script_conditions_f_steps script_conditions_f_values script_conditions__size script_f_letOfLetter v_at v_joints x).2.2.2.2.1)), (script_conditions_a_values, .inl (gI G, 2000, .inl (s_Par_condition tru script_tokens_f_kinds script_tokens_f_values script_conditions_f_steps script_conditions_f_values script_conditions__size script_f_letOfLetter v_at v_joints x).2.2.2.2.2)), (script_a_letOfLetter, .inl (gI G, 26, .inl script_f_letOfLetter))] := by
  refine Det.of (cc := b_Par_condition) (maxL := 5) (ret := (some .boolean)) (by decide) rfl (Nat.le_of_ble_eq_true rfl) ?_
  intro p e s m args below meth c A ls hx hb hr hml hown hts hlocks hin hA hK hZ hP hD hS hl
  have hts : ∀ w ∈ wG, w.before args s = true := fun w h => hts w (List.mem_cons_of_mem _ h)
  have hown : s.vm.findClass R_Par = some m.cls := hown
  have loop_14 : ∀ (n : Nat) (i2 : Int32) (i3 : Int32) (w3_h : Int32) (w4_h : Int32) (w2_script_conditions_h : Int32) (g_script_conditions_a_steps : Nat → Int32) (g_script_conditions_a_values : Nat → Int32), (oklp_Par_condition_14 tru oktru script_tokens_f_kinds script_tokens_f_values script_f_letOfLetter x n i2 i3 w3_h w4_h w2_script_conditions_h g_script_conditions_a_steps g_script_conditions_a_values) → ∀ (H : Heap) (locs : List Loc) (ls : Array Slot), va_P G.1 classes [(h, .inr (11, [.ref script_h, .ref script_tokens_h, .ref script_conditions_h, .int w3_h, .int w4_h])), (script_h, .inr (10, [.ref script_tokens_h, .ref script_conditions_h, .ref script_a_questions, .int script__asked, .ref script_a_letStarts, .ref script_a_letEnds, .ref script_a_letOfLetter, .int script__lets])), (script_tokens_h, .inr (7, [.ref script_tokens_a_kinds, .ref script_tokens_a_values, .ref script_tokens_a_places, .int script_tokens__size])), (script_tokens_a_kinds, .inl (gI G, 2001, .inl script_tokens_f_kinds)), (script_tokens_a_values, .inl (gI G, 2001, .inl script_tokens_f_values)), (script_conditions_h, .inr (8, [.ref script_conditions_a_steps, .ref script_conditions_a_values, .int w2_script_conditions_h, .ref script_conditions_a_stack, .int script_conditions__height, .ref script_conditions_a_holding])), (script_conditions_a_steps, .inl (gI G, 2000, .inl g_script_conditions_a_steps)), (script_conditions_a_values, .inl (gI G, 2000, .inl g_script_conditions_a_values)), (script_a_letOfLetter, .inl (gI G, 26, .inl script_f_letOfLetter))] H → va_D A [(h, .inr (11, [.ref script_h, .ref script_tokens_h, .ref script_conditions_h, .int w3_h, .int w4_h])), (script_h, .inr (10, [.ref script_tokens_h, .ref script_conditions_h, .ref script_a_questions, .int script__asked, .ref script_a_letStarts, .ref script_a_letEnds, .ref script_a_letOfLetter, .int script__lets])), (script_tokens_h, .inr (7, [.ref script_tokens_a_kinds, .ref script_tokens_a_values, .ref script_tokens_a_places, .int script_tokens__size])), (script_tokens_a_kinds, .inl (gI G, 2001, .inl script_tokens_f_kinds)), (script_tokens_a_values, .inl (gI G, 2001, .inl script_tokens_f_values)), (script_conditions_h, .inr (8, [.ref script_conditions_a_steps, .ref script_conditions_a_values, .int w2_script_conditions_h, .ref script_conditions_a_stack, .int script_conditions__height, .ref script_conditions_a_holding])), (script_conditions_a_steps, .inl (gI G, 2000, .inl g_script_conditions_a_steps)), (script_conditions_a_values, .inl (gI G, 2000, .inl g_script_conditions_a_values)), (script_a_letOfLetter, .inl (gI G, 26, .inl script_f_letOfLetter))] → va_S A s.heap H locs → lv_has ls 5 [(3, .int i3), (2, .int i2), (0, .ref h), (1, .int x)] → W p l e (rmD (b_ + 1)) s m args below meth c H locs 0 0 (MQ below (ly_Q G A (some (.int (lp_Par_condition_14 tru script_tokens_f_kinds script_tokens_f_values script_f_letOfLetter x n i2 i3 w3_h w4_h w2_script_conditions_h g_script_conditions_a_steps g_script_conditions_a_values).1)) [(h, .inr (11, [.ref script_h, .ref script_tokens_h, .ref script_conditions_h, .int (lp_Par_condition_14 tru script_tokens_f_kinds script_tokens_f_values script_f_letOfLetter x n i2 i3 w3_h w4_h w2_script_conditions_h g_script_conditions_a_steps g_script_conditions_a_values).2.1, .int (lp_Par_condition_14 tru script_tokens_f_kinds script_tokens_f_values script_f_letOfLetter x n i2 i3 w3_h w4_h w2_script_conditions_h g_script_conditions_a_steps g_script_conditions_a_values).2.2.1])), (script_h, .inr (10, [.ref script_tokens_h, .ref script_conditions_h, .ref script_a_questions, .int script__asked, .ref script_a_letStarts, .ref script_a_letEnds, .ref script_a_letOfLetter, .int script__lets])), (script_tokens_h, .inr (7, [.ref script_tokens_a_kinds, .ref script_tokens_a_values, .ref script_tokens_a_places, .int script_tokens__size])), (script_tokens_a_kinds, .inl (gI G, 2001, .inl script_tokens_f_kinds)), (script_tokens_a_values, .inl (gI G, 2001, .inl script_tokens_f_values)), (script_conditions_h, .inr (8, [.ref script_conditions_a_steps, .ref script_conditions_a_values, .int (lp_Par_condition_14 tru script_tokens_f_kinds script_tokens_f_values script_f_letOfLetter x n i2 i3 w3_h w4_h w2_script_conditions_h g_script_conditions_a_steps g_script_conditions_a_values).2.2.2.1, .ref script_conditions_a_stack, .int script_conditions__height, .ref script_conditions_a_holding])), (script_conditions_a_steps, .inl (gI G, 2000, .inl (lp_Par_condition_14 tru script_tokens_f_kinds script_tokens_f_values script_f_letOfLetter x n i2 i3 w3_h w4_h w2_script_conditions_h g_script_conditions_a_steps g_script_conditions_a_values).2.2.2.2.1)), (script_conditions_a_values, .inl (gI G, 2000, .inl (lp_Par_condition_14 tru script_tokens_f_kinds script_tokens_f_values script_f_letOfLetter x n i2 i3 w3_h w4_h w2_script_conditions_h g_script_conditions_a_steps g_script_conditions_a_values).2.2.2.2.2)), (script_a_letOfLetter, .inl (gI G, 26, .inl script_f_letOfLetter))]) args s 0 0 A) (F0 m 14 ls []) := by
    intro n
    induction n with
    | zero => intro i2 i3 w3_h w4_h w2_script_conditions_h g_script_conditions_a_steps g_script_conditions_a_values hok; exact absurd hok (fun h => h)
    | succ n ih =>
      intro i2 i3 w3_h w4_h w2_script_conditions_h g_script_conditions_a_steps g_script_conditions_a_values hok H locs ls hP hD hS hl
      rw [oklp_Par_condition_14] at hok
      refine lv_iload_n hx hb d_Par_condition_14 rfl (lv_at hl 0 rfl) ?_
      refine lv_sipush (v := 2000) hx hb d_Par_condition_15 (by decide) ?_
      refine lv_icmp_ge (tgt := 109) hx hb d_Par_condition_18 (by decide) (fun c1 => ?_) (fun c1 => ?_)
      · skip
        rw [if_pos c1] at hok
        refine lv_iconst (v := 0) hx hb d_Par_condition_109 (by decide) ?_
        exact ly_zret hx hb hr hlocks hP hD hS d_Par_condition_110 (by decide) (by rw [lp_Par_condition_14, if_pos c1]) (by rw [lp_Par_condition_14, if_pos c1])
      rw [if_neg c1] at hok
      refine lv_aload_n hx hb d_Par_condition_21 rfl (lv_at hl 2 rfl) ?_
      obtain ⟨hv1, hok⟩ := hok
      obtain ⟨r1, hr1⟩ : ∃ r, (s_Par_kind script_tokens_f_kinds w3_h) = r := ⟨_, rfl⟩
      try simp only [hr1] at hok
      have hC_r1 := (c_Par_kind l G h script_h script_tokens_h script_tokens_a_kinds script_tokens_a_values script_tokens_a_places script_conditions_h script_tokens_f_kinds script_tokens__size w3_h w4_h hv1)
      rw [hr1] at hC_r1
      refine ly_callV (rest := []) (wf := [(h, .inr (11, [.ref script_h, .ref script_tokens_h, .ref script_conditions_h, .int w3_h, .int w4_h])), (script_h, .inr (10, [.ref script_tokens_h, .ref script_conditions_h, .ref script_a_questions, .int script__asked, .ref script_a_letStarts, .ref script_a_letEnds, .ref script_a_letOfLetter, .int script__lets])), (script_tokens_h, .inr (7, [.ref script_tokens_a_kinds, .ref script_tokens_a_values, .ref script_tokens_a_places, .int script_tokens__size])), (script_tokens_a_kinds, .inl (gI G, 2001, .inl script_tokens_f_kinds)), (script_tokens_a_values, .inl (gI G, 2001, .inl script_tokens_f_values)), (script_conditions_h, .inr (8, [.ref script_conditions_a_steps, .ref script_conditions_a_values, .int w2_script_conditions_h, .ref script_conditions_a_stack, .int script_conditions__height, .ref script_conditions_a_holding])), (script_conditions_a_steps, .inl (gI G, 2000, .inl g_script_conditions_a_steps)), (script_conditions_a_values, .inl (gI G, 2000, .inl g_script_conditions_a_values)), (script_a_letOfLetter, .inl (gI G, 26, .inl script_f_letOfLetter))]) ⟨hx, hb, hml, hown, hts⟩ hA hK hZ hP hD hS hC_r1 (cwV 0 hts g_Par_34 rfl rfl rfl (by decide +kernel) ⟨by simp only [rmD]; omega, by simp only [rmD]; omega⟩) (ci := 11) (q0 := 0) rfl rfl rfl [0, 2, 3] rfl (by decide) rfl rfl rfl hl.1 rfl (Nat.le_of_ble_eq_true rfl) d_Par_condition_22 ⟨Nat.le_of_ble_eq_true rfl, Nat.le_of_ble_eq_true rfl⟩ (st1 := [.int r1]) (c1 := 0) (s1 := 0) rfl rfl rfl (fun H locs hP hD hS => ?_)
      refine lv_istore (lv' := [(4, .int r1), (3, .int i3), (2, .int i2), (0, .ref h), (1, .int x)]) hx hb d_Par_condition_25 hl (by decide) rfl (fun ls hl => ?_)
      refine lv_iload_n hx hb d_Par_condition_27 rfl (lv_at hl 2 rfl) ?_
      refine lv_if_eq (tgt := 48) hx hb d_Par_condition_28 (by decide) (fun c2 => ?_) (fun c2 => ?_)
      · skip
        rw [if_pos c2] at hok
        refine lv_iload hx hb d_Par_condition_48 (lv_at hl 0 rfl) ?_
        refine lv_bipush (v := 14) hx hb d_Par_condition_50 (by decide) ?_
        refine lv_icmp_eq (tgt := 64) hx hb d_Par_condition_52 (by decide) (fun c3 => ?_) (fun c3 => ?_)
        · skip
          rw [if_pos c3] at hok
          refine lv_aload_n hx hb d_Par_condition_64 rfl (lv_at hl 3 rfl) ?_
          obtain ⟨r2, hr2⟩ : ∃ r, (s_Par_takeJoint w3_h w4_h) = r := ⟨_, rfl⟩
          try simp only [hr2] at hok
          have hC_r2 := (c_Par_takeJoint l G h script_h script_tokens_h script_conditions_h w3_h w4_h)
          rw [hr2] at hC_r2
          have hf_r2_1 : isB r2.1 := by rw [← hr2]; exact z_Par_takeJoint
          refine ly_callV (rest := []) (wf := [(h, .inr (11, [.ref script_h, .ref script_tokens_h, .ref script_conditions_h, .int r2.2.1, .int r2.2.2])), (script_h, .inr (10, [.ref script_tokens_h, .ref script_conditions_h, .ref script_a_questions, .int script__asked, .ref script_a_letStarts, .ref script_a_letEnds, .ref script_a_letOfLetter, .int script__lets])), (script_tokens_h, .inr (7, [.ref script_tokens_a_kinds, .ref script_tokens_a_values, .ref script_tokens_a_places, .int script_tokens__size])), (script_tokens_a_kinds, .inl (gI G, 2001, .inl script_tokens_f_kinds)), (script_tokens_a_values, .inl (gI G, 2001, .inl script_tokens_f_values)), (script_conditions_h, .inr (8, [.ref script_conditions_a_steps, .ref script_conditions_a_values, .int w2_script_conditions_h, .ref script_conditions_a_stack, .int script_conditions__height, .ref script_conditions_a_holding])), (script_conditions_a_steps, .inl (gI G, 2000, .inl g_script_conditions_a_steps)), (script_conditions_a_values, .inl (gI G, 2000, .inl g_script_conditions_a_values)), (script_a_letOfLetter, .inl (gI G, 26, .inl script_f_letOfLetter))]) ⟨hx, hb, hml, hown, hts⟩ hA hK hZ hP hD hS hC_r2 (cwV 0 hts g_Par_146 rfl rfl rfl (by decide +kernel) ⟨by simp only [rmD]; omega, by simp only [rmD]; omega⟩) (ci := 11) (q0 := 0) rfl rfl rfl [0] rfl (by decide) rfl rfl rfl hl.1 rfl (Nat.le_of_ble_eq_true rfl) d_Par_condition_65 ⟨Nat.le_of_ble_eq_true rfl, Nat.le_of_ble_eq_true rfl⟩ (st1 := [.int r2.1]) (c1 := 0) (s1 := 0) rfl rfl rfl (fun H locs hP hD hS => ?_)
          refine lv_if_eq (tgt := 79) hx hb d_Par_condition_68 (by decide) (fun c4 => ?_) (fun c4 => ?_)
          · skip
            rw [if_pos c4] at hok
            refine lv_iconst (v := 0) hx hb d_Par_condition_79 (by decide) ?_
            exact ly_zret hx hb hr hlocks hP hD hS d_Par_condition_80 (by decide) (by rw [lp_Par_condition_14] <;> simp only [hr1, hr2] <;> rw [if_neg c1, if_pos c2, if_pos c3, if_pos c4]) (by rw [lp_Par_condition_14] <;> simp only [hr1, hr2] <;> rw [if_neg c1, if_pos c2, if_pos c3, if_pos c4])
          rw [if_neg c4] at hok
          refine lv_aload_n hx hb d_Par_condition_71 rfl (lv_at hl 3 rfl) ?_
          refine lv_iload_n hx hb d_Par_condition_72 rfl (lv_at hl 4 rfl) ?_
          obtain ⟨hv2, hok⟩ := hok
          obtain ⟨r3, hr3⟩ : ∃ r, (tru script_tokens_f_kinds script_tokens_f_values g_script_conditions_a_steps g_script_conditions_a_values w2_script_conditions_h script_f_letOfLetter r2.2.1 r2.2.2 x) = r := ⟨_, rfl⟩
          try simp only [hr3] at hok
          have hC_r3 := (htru h script_h script_tokens_h script_tokens_a_kinds script_tokens_a_values script_tokens_a_places script_conditions_h script_conditions_a_steps script_conditions_a_values script_conditions_a_stack script_conditions_a_holding script_a_questions script_a_letStarts script_a_letEnds script_a_letOfLetter script_tokens_f_kinds script_tokens_f_values script_tokens__size g_script_conditions_a_steps g_script_conditions_a_values w2_script_conditions_h script_conditions__height script__asked script_f_letOfLetter script__lets r2.2.1 r2.2.2 x hv2)
          rw [hr3] at hC_r3
          have hf_r3_1 : isB r3.1 := by rw [← hr3]; exact ztru
          have hc_ : ∀ (x0_ x1_ x2_ x3_ x4_ x5_ x6_ x7_ x8_ : Nat × va_E) (t_ : va_W), List.map (fun i => (x0_ :: x1_ :: x2_ :: x3_ :: x4_ :: x5_ :: x6_ :: x7_ :: x8_ :: t_)[i]?) [0, 1, 2, 3, 4, 5, 6, 7, 8] = List.map some [x0_, x1_, x2_, x3_, x4_, x5_, x6_, x7_, x8_] := fun _ _ _ _ _ _ _ _ _ _ => rfl
          have hf_ : ∀ (x0_ x1_ x2_ x3_ x4_ x5_ x6_ x7_ x8_ y0_ y1_ y2_ y3_ y4_ y5_ y6_ y7_ y8_ : Nat × va_E) (t_ : va_W), setAll (x0_ :: x1_ :: x2_ :: x3_ :: x4_ :: x5_ :: x6_ :: x7_ :: x8_ :: t_) [0, 1, 2, 3, 4, 5, 6, 7, 8] [y0_, y1_, y2_, y3_, y4_, y5_, y6_, y7_, y8_] = y0_ :: y1_ :: y2_ :: y3_ :: y4_ :: y5_ :: y6_ :: y7_ :: y8_ :: t_ := fun _ _ _ _ _ _ _ _ _ _ _ _ _ _ _ _ _ _ _ => Eq.trans (setAll_M (bs := [true, true, true, true, true, true, true, true, true]) trivial rfl) rfl
          refine ly_callV (rest := []) (wf := [(h, .inr (11, [.ref script_h, .ref script_tokens_h, .ref script_conditions_h, .int r3.2.1, .int r3.2.2.1])), (script_h, .inr (10, [.ref script_tokens_h, .ref script_conditions_h, .ref script_a_questions, .int script__asked, .ref script_a_letStarts, .ref script_a_letEnds, .ref script_a_letOfLetter, .int script__lets])), (script_tokens_h, .inr (7, [.ref script_tokens_a_kinds, .ref script_tokens_a_values, .ref script_tokens_a_places, .int script_tokens__size])), (script_tokens_a_kinds, .inl (gI G, 2001, .inl script_tokens_f_kinds)), (script_tokens_a_values, .inl (gI G, 2001, .inl script_tokens_f_values)), (script_conditions_h, .inr (8, [.ref script_conditions_a_steps, .ref script_conditions_a_values, .int r3.2.2.2.1, .ref script_conditions_a_stack, .int script_conditions__height, .ref script_conditions_a_holding])), (script_conditions_a_steps, .inl (gI G, 2000, .inl r3.2.2.2.2.1)), (script_conditions_a_values, .inl (gI G, 2000, .inl r3.2.2.2.2.2)), (script_a_letOfLetter, .inl (gI G, 26, .inl script_f_letOfLetter))]) ⟨hx, hb, hml, hown, hts⟩ hA hK hZ hP hD hS hC_r3 (cwV 1 hts g_Par_138 rfl rfl rfl (by decide +kernel) ⟨by simp only [rmD]; omega, by simp only [rmD]; omega⟩) (ci := 11) (q0 := 0) rfl rfl rfl [0, 1, 2, 3, 4, 5, 6, 7, 8] (hc_ _ _ _ _ _ _ _ _ _ _) (by decide) rfl (hf_ _ _ _ _ _ _ _ _ _ _ _ _ _ _ _ _ _ _ _) rfl hl.1 rfl (Nat.le_of_ble_eq_true rfl) d_Par_condition_73 ⟨Nat.le_of_ble_eq_true rfl, Nat.le_of_ble_eq_true rfl⟩ (st1 := [.int r3.1]) (c1 := 0) (s1 := 0) rfl rfl rfl (fun H locs hP hD hS => ?_)
          refine lv_if_ne (tgt := 81) hx hb d_Par_condition_76 (by decide) (fun c5 => ?_) (fun c5 => ?_)
          · skip
            rw [if_neg c5] at hok
            refine lv_iload hx hb d_Par_condition_81 (lv_at hl 0 rfl) ?_
            refine lv_bipush (v := 14) hx hb d_Par_condition_83 (by decide) ?_
            refine lv_icmp_ne (tgt := 101) hx hb d_Par_condition_85 (by decide) (fun c6 => ?_) (fun c6 => ?_)
            · skip
              rw [if_neg c6] at hok
              refine lv_iconst (v := 1) hx hb d_Par_condition_101 (by decide) ?_
              refine lv_istore_n (lv' := [(2, .int 1), (4, .int r1), (3, .int i3), (0, .ref h), (1, .int x)]) hx hb d_Par_condition_102 rfl hl (by decide) rfl (fun ls hl => ?_)
              refine lv_iinc (v := i3 + 1) (lv' := [(3, .int (i3 + 1)), (2, .int 1), (4, .int r1), (0, .ref h), (1, .int x)]) hx hb d_Par_condition_103 hl (k := 2) rfl (by rfl) (by decide) rfl (fun ls hl => ?_)
              refine lv_goto (tgt := 14) hx hb d_Par_condition_106 (by decide) ?_
              have e_ : (lp_Par_condition_14 tru script_tokens_f_kinds script_tokens_f_values script_f_letOfLetter x (n + 1) i2 i3 w3_h w4_h w2_script_conditions_h g_script_conditions_a_steps g_script_conditions_a_values) = (lp_Par_condition_14 tru script_tokens_f_kinds script_tokens_f_values script_f_letOfLetter x n (1 : Int32) (i3 + 1) r3.2.1 r3.2.2.1 r3.2.2.2.1 r3.2.2.2.2.1 r3.2.2.2.2.2) := (by rw [lp_Par_condition_14] <;> simp only [hr1, hr2, hr3] <;> rw [if_neg c1, if_pos c2, if_pos c3, if_neg c4, if_neg c5, if_neg c6])
              rw [e_]
              exact ih (1 : Int32) (i3 + 1) r3.2.1 r3.2.2.1 r3.2.2.2.1 r3.2.2.2.2.1 r3.2.2.2.2.2 hok _ _ _ hP hD hS (lv_sub hl [0, 1, 3, 4] rfl)
            rw [if_pos c6] at hok
            refine lv_aload_n hx hb d_Par_condition_88 rfl (lv_at hl 3 rfl) ?_
            refine va_get (D := G.1) (ci := 11) (C := R_Par) (T := F_Par) (N := 5) (v := .ref script_conditions_h) hx hb hts i_Par hown hK hP 0 rfl rfl 2 (by decide) (hts (.fieldLink R_Par 26 "PrivateQueries$Parser" "conditions" "LPrivateQueries$Conditions;") k_755) (fun _ h9 => h9) rfl d_Par_condition_89 ?_
            refine lv_bipush (v := 14) hx hb d_Par_condition_92 (by decide) ?_
            refine lv_iconst (v := 0) hx hb d_Par_condition_94 (by decide) ?_
            obtain ⟨hv3, hok⟩ := hok
            obtain ⟨r4, hr4⟩ : ∃ r, (s_Cond_add r3.2.2.2.2.1 r3.2.2.2.2.2 r3.2.2.2.1 14 0) = r := ⟨_, rfl⟩
            try simp only [hr4] at hok
            have hC_r4 := (c_Cond_add l G script_conditions_h script_conditions_a_steps script_conditions_a_values script_conditions_a_stack script_conditions_a_holding r3.2.2.2.2.1 r3.2.2.2.2.2 r3.2.2.2.1 script_conditions__height 14 0 hv3)
            rw [hr4] at hC_r4
            refine ly_callV (rest := []) (wf := [(h, .inr (11, [.ref script_h, .ref script_tokens_h, .ref script_conditions_h, .int r3.2.1, .int r3.2.2.1])), (script_h, .inr (10, [.ref script_tokens_h, .ref script_conditions_h, .ref script_a_questions, .int script__asked, .ref script_a_letStarts, .ref script_a_letEnds, .ref script_a_letOfLetter, .int script__lets])), (script_tokens_h, .inr (7, [.ref script_tokens_a_kinds, .ref script_tokens_a_values, .ref script_tokens_a_places, .int script_tokens__size])), (script_tokens_a_kinds, .inl (gI G, 2001, .inl script_tokens_f_kinds)), (script_tokens_a_values, .inl (gI G, 2001, .inl script_tokens_f_values)), (script_conditions_h, .inr (8, [.ref script_conditions_a_steps, .ref script_conditions_a_values, .int r4.1, .ref script_conditions_a_stack, .int script_conditions__height, .ref script_conditions_a_holding])), (script_conditions_a_steps, .inl (gI G, 2000, .inl r4.2.1)), (script_conditions_a_values, .inl (gI G, 2000, .inl r4.2.2)), (script_a_letOfLetter, .inl (gI G, 26, .inl script_f_letOfLetter))]) ⟨hx, hb, hml, hown, hts⟩ hA hK hZ hP hD hS hC_r4 (cwV 2 hts g_Par_143 rfl rfl rfl (by decide +kernel) ⟨by simp only [rmD]; omega, by simp only [rmD]; omega⟩) (ci := 8) (q0 := 5) rfl rfl rfl [5, 6, 7] rfl (by decide) rfl rfl rfl hl.1 rfl (Nat.le_of_ble_eq_true rfl) d_Par_condition_95 ⟨Nat.le_of_ble_eq_true rfl, Nat.le_of_ble_eq_true rfl⟩ (st1 := []) (c1 := 0) (s1 := 0) rfl rfl rfl (fun H locs hP hD hS => ?_)
            refine lv_goto (tgt := 103) hx hb d_Par_condition_98 (by decide) ?_
            refine lv_iinc (v := i3 + 1) (lv' := [(3, .int (i3 + 1)), (4, .int r1), (2, .int i2), (0, .ref h), (1, .int x)]) hx hb d_Par_condition_103 hl (k := 1) rfl (by rfl) (by decide) rfl (fun ls hl => ?_)
            refine lv_goto (tgt := 14) hx hb d_Par_condition_106 (by decide) ?_
            have e_ : (lp_Par_condition_14 tru script_tokens_f_kinds script_tokens_f_values script_f_letOfLetter x (n + 1) i2 i3 w3_h w4_h w2_script_conditions_h g_script_conditions_a_steps g_script_conditions_a_values) = (lp_Par_condition_14 tru script_tokens_f_kinds script_tokens_f_values script_f_letOfLetter x n i2 (i3 + 1) r3.2.1 r3.2.2.1 r4.1 r4.2.1 r4.2.2) := (by rw [lp_Par_condition_14] <;> simp only [hr1, hr2, hr3, hr4] <;> rw [if_neg c1, if_pos c2, if_pos c3, if_neg c4, if_neg c5, if_pos c6])
            rw [e_]
            exact ih i2 (i3 + 1) r3.2.1 r3.2.2.1 r4.1 r4.2.1 r4.2.2 hok _ _ _ hP hD hS (lv_sub hl [0, 2, 3, 4] rfl)
          rw [if_pos c5] at hok
          refine lv_iconst (v := 0) hx hb d_Par_condition_79 (by decide) ?_
          exact ly_zret hx hb hr hlocks hP hD hS d_Par_condition_80 (by decide) (by rw [lp_Par_condition_14] <;> simp only [hr1, hr2, hr3] <;> rw [if_neg c1, if_pos c2, if_pos c3, if_neg c4, if_pos c5]) (by rw [lp_Par_condition_14] <;> simp only [hr1, hr2, hr3] <;> rw [if_neg c1, if_pos c2, if_pos c3, if_neg c4, if_pos c5])
        rw [if_neg c3] at hok
        refine lv_iload hx hb d_Par_condition_55 (lv_at hl 0 rfl) ?_
        refine lv_bipush (v := 15) hx hb d_Par_condition_57 (by decide) ?_
        refine lv_icmp_eq (tgt := 64) hx hb d_Par_condition_59 (by decide) (fun c7 => ?_) (fun c7 => ?_)
        · skip
          rw [if_pos c7] at hok
          refine lv_aload_n hx hb d_Par_condition_64 rfl (lv_at hl 3 rfl) ?_
          obtain ⟨r5, hr5⟩ : ∃ r, (s_Par_takeJoint w3_h w4_h) = r := ⟨_, rfl⟩
          try simp only [hr5] at hok
          have hC_r5 := (c_Par_takeJoint l G h script_h script_tokens_h script_conditions_h w3_h w4_h)
          rw [hr5] at hC_r5
          have hf_r5_1 : isB r5.1 := by rw [← hr5]; exact z_Par_takeJoint
          refine ly_callV (rest := []) (wf := [(h, .inr (11, [.ref script_h, .ref script_tokens_h, .ref script_conditions_h, .int r5.2.1, .int r5.2.2])), (script_h, .inr (10, [.ref script_tokens_h, .ref script_conditions_h, .ref script_a_questions, .int script__asked, .ref script_a_letStarts, .ref script_a_letEnds, .ref script_a_letOfLetter, .int script__lets])), (script_tokens_h, .inr (7, [.ref script_tokens_a_kinds, .ref script_tokens_a_values, .ref script_tokens_a_places, .int script_tokens__size])), (script_tokens_a_kinds, .inl (gI G, 2001, .inl script_tokens_f_kinds)), (script_tokens_a_values, .inl (gI G, 2001, .inl script_tokens_f_values)), (script_conditions_h, .inr (8, [.ref script_conditions_a_steps, .ref script_conditions_a_values, .int w2_script_conditions_h, .ref script_conditions_a_stack, .int script_conditions__height, .ref script_conditions_a_holding])), (script_conditions_a_steps, .inl (gI G, 2000, .inl g_script_conditions_a_steps)), (script_conditions_a_values, .inl (gI G, 2000, .inl g_script_conditions_a_values)), (script_a_letOfLetter, .inl (gI G, 26, .inl script_f_letOfLetter))]) ⟨hx, hb, hml, hown, hts⟩ hA hK hZ hP hD hS hC_r5 (cwV 0 hts g_Par_146 rfl rfl rfl (by decide +kernel) ⟨by simp only [rmD]; omega, by simp only [rmD]; omega⟩) (ci := 11) (q0 := 0) rfl rfl rfl [0] rfl (by decide) rfl rfl rfl hl.1 rfl (Nat.le_of_ble_eq_true rfl) d_Par_condition_65 ⟨Nat.le_of_ble_eq_true rfl, Nat.le_of_ble_eq_true rfl⟩ (st1 := [.int r5.1]) (c1 := 0) (s1 := 0) rfl rfl rfl (fun H locs hP hD hS => ?_)
          refine lv_if_eq (tgt := 79) hx hb d_Par_condition_68 (by decide) (fun c8 => ?_) (fun c8 => ?_)
          · skip
            rw [if_pos c8] at hok
            refine lv_iconst (v := 0) hx hb d_Par_condition_79 (by decide) ?_
            exact ly_zret hx hb hr hlocks hP hD hS d_Par_condition_80 (by decide) (by rw [lp_Par_condition_14] <;> simp only [hr1, hr5] <;> rw [if_neg c1, if_pos c2, if_neg c3, if_pos c7, if_pos c8]) (by rw [lp_Par_condition_14] <;> simp only [hr1, hr5] <;> rw [if_neg c1, if_pos c2, if_neg c3, if_pos c7, if_pos c8])
          rw [if_neg c8] at hok
          refine lv_aload_n hx hb d_Par_condition_71 rfl (lv_at hl 3 rfl) ?_
          refine lv_iload_n hx hb d_Par_condition_72 rfl (lv_at hl 4 rfl) ?_
          obtain ⟨hv4, hok⟩ := hok
          obtain ⟨r6, hr6⟩ : ∃ r, (tru script_tokens_f_kinds script_tokens_f_values g_script_conditions_a_steps g_script_conditions_a_values w2_script_conditions_h script_f_letOfLetter r5.2.1 r5.2.2 x) = r := ⟨_, rfl⟩
          try simp only [hr6] at hok
          have hC_r6 := (htru h script_h script_tokens_h script_tokens_a_kinds script_tokens_a_values script_tokens_a_places script_conditions_h script_conditions_a_steps script_conditions_a_values script_conditions_a_stack script_conditions_a_holding script_a_questions script_a_letStarts script_a_letEnds script_a_letOfLetter script_tokens_f_kinds script_tokens_f_values script_tokens__size g_script_conditions_a_steps g_script_conditions_a_values w2_script_conditions_h script_conditions__height script__asked script_f_letOfLetter script__lets r5.2.1 r5.2.2 x hv4)
          rw [hr6] at hC_r6
          have hf_r6_1 : isB r6.1 := by rw [← hr6]; exact ztru
          have hc_ : ∀ (x0_ x1_ x2_ x3_ x4_ x5_ x6_ x7_ x8_ : Nat × va_E) (t_ : va_W), List.map (fun i => (x0_ :: x1_ :: x2_ :: x3_ :: x4_ :: x5_ :: x6_ :: x7_ :: x8_ :: t_)[i]?) [0, 1, 2, 3, 4, 5, 6, 7, 8] = List.map some [x0_, x1_, x2_, x3_, x4_, x5_, x6_, x7_, x8_] := fun _ _ _ _ _ _ _ _ _ _ => rfl
          have hf_ : ∀ (x0_ x1_ x2_ x3_ x4_ x5_ x6_ x7_ x8_ y0_ y1_ y2_ y3_ y4_ y5_ y6_ y7_ y8_ : Nat × va_E) (t_ : va_W), setAll (x0_ :: x1_ :: x2_ :: x3_ :: x4_ :: x5_ :: x6_ :: x7_ :: x8_ :: t_) [0, 1, 2, 3, 4, 5, 6, 7, 8] [y0_, y1_, y2_, y3_, y4_, y5_, y6_, y7_, y8_] = y0_ :: y1_ :: y2_ :: y3_ :: y4_ :: y5_ :: y6_ :: y7_ :: y8_ :: t_ := fun _ _ _ _ _ _ _ _ _ _ _ _ _ _ _ _ _ _ _ => Eq.trans (setAll_M (bs := [true, true, true, true, true, true, true, true, true]) trivial rfl) rfl
          refine ly_callV (rest := []) (wf := [(h, .inr (11, [.ref script_h, .ref script_tokens_h, .ref script_conditions_h, .int r6.2.1, .int r6.2.2.1])), (script_h, .inr (10, [.ref script_tokens_h, .ref script_conditions_h, .ref script_a_questions, .int script__asked, .ref script_a_letStarts, .ref script_a_letEnds, .ref script_a_letOfLetter, .int script__lets])), (script_tokens_h, .inr (7, [.ref script_tokens_a_kinds, .ref script_tokens_a_values, .ref script_tokens_a_places, .int script_tokens__size])), (script_tokens_a_kinds, .inl (gI G, 2001, .inl script_tokens_f_kinds)), (script_tokens_a_values, .inl (gI G, 2001, .inl script_tokens_f_values)), (script_conditions_h, .inr (8, [.ref script_conditions_a_steps, .ref script_conditions_a_values, .int r6.2.2.2.1, .ref script_conditions_a_stack, .int script_conditions__height, .ref script_conditions_a_holding])), (script_conditions_a_steps, .inl (gI G, 2000, .inl r6.2.2.2.2.1)), (script_conditions_a_values, .inl (gI G, 2000, .inl r6.2.2.2.2.2)), (script_a_letOfLetter, .inl (gI G, 26, .inl script_f_letOfLetter))]) ⟨hx, hb, hml, hown, hts⟩ hA hK hZ hP hD hS hC_r6 (cwV 1 hts g_Par_138 rfl rfl rfl (by decide +kernel) ⟨by simp only [rmD]; omega, by simp only [rmD]; omega⟩) (ci := 11) (q0 := 0) rfl rfl rfl [0, 1, 2, 3, 4, 5, 6, 7, 8] (hc_ _ _ _ _ _ _ _ _ _ _) (by decide) rfl (hf_ _ _ _ _ _ _ _ _ _ _ _ _ _ _ _ _ _ _ _) rfl hl.1 rfl (Nat.le_of_ble_eq_true rfl) d_Par_condition_73 ⟨Nat.le_of_ble_eq_true rfl, Nat.le_of_ble_eq_true rfl⟩ (st1 := [.int r6.1]) (c1 := 0) (s1 := 0) rfl rfl rfl (fun H locs hP hD hS => ?_)
          refine lv_if_ne (tgt := 81) hx hb d_Par_condition_76 (by decide) (fun c9 => ?_) (fun c9 => ?_)
          · skip
            rw [if_neg c9] at hok
            refine lv_iload hx hb d_Par_condition_81 (lv_at hl 0 rfl) ?_
            refine lv_bipush (v := 14) hx hb d_Par_condition_83 (by decide) ?_
            refine lv_icmp_ne (tgt := 101) hx hb d_Par_condition_85 (by decide) (fun c10 => ?_) (fun c10 => ?_)
            · skip
              rw [if_neg c10] at hok
              refine lv_iconst (v := 1) hx hb d_Par_condition_101 (by decide) ?_
              refine lv_istore_n (lv' := [(2, .int 1), (4, .int r1), (3, .int i3), (0, .ref h), (1, .int x)]) hx hb d_Par_condition_102 rfl hl (by decide) rfl (fun ls hl => ?_)
              refine lv_iinc (v := i3 + 1) (lv' := [(3, .int (i3 + 1)), (2, .int 1), (4, .int r1), (0, .ref h), (1, .int x)]) hx hb d_Par_condition_103 hl (k := 2) rfl (by rfl) (by decide) rfl (fun ls hl => ?_)
              refine lv_goto (tgt := 14) hx hb d_Par_condition_106 (by decide) ?_
              have e_ : (lp_Par_condition_14 tru script_tokens_f_kinds script_tokens_f_values script_f_letOfLetter x (n + 1) i2 i3 w3_h w4_h w2_script_conditions_h g_script_conditions_a_steps g_script_conditions_a_values) = (lp_Par_condition_14 tru script_tokens_f_kinds script_tokens_f_values script_f_letOfLetter x n (1 : Int32) (i3 + 1) r6.2.1 r6.2.2.1 r6.2.2.2.1 r6.2.2.2.2.1 r6.2.2.2.2.2) := (by rw [lp_Par_condition_14] <;> simp only [hr1, hr5, hr6] <;> rw [if_neg c1, if_pos c2, if_neg c3, if_pos c7, if_neg c8, if_neg c9, if_neg c10])
              rw [e_]
              exact ih (1 : Int32) (i3 + 1) r6.2.1 r6.2.2.1 r6.2.2.2.1 r6.2.2.2.2.1 r6.2.2.2.2.2 hok _ _ _ hP hD hS (lv_sub hl [0, 1, 3, 4] rfl)
            rw [if_pos c10] at hok
            refine lv_aload_n hx hb d_Par_condition_88 rfl (lv_at hl 3 rfl) ?_
            refine va_get (D := G.1) (ci := 11) (C := R_Par) (T := F_Par) (N := 5) (v := .ref script_conditions_h) hx hb hts i_Par hown hK hP 0 rfl rfl 2 (by decide) (hts (.fieldLink R_Par 26 "PrivateQueries$Parser" "conditions" "LPrivateQueries$Conditions;") k_755) (fun _ h9 => h9) rfl d_Par_condition_89 ?_
            refine lv_bipush (v := 14) hx hb d_Par_condition_92 (by decide) ?_
            refine lv_iconst (v := 0) hx hb d_Par_condition_94 (by decide) ?_
            obtain ⟨hv5, hok⟩ := hok
            obtain ⟨r7, hr7⟩ : ∃ r, (s_Cond_add r6.2.2.2.2.1 r6.2.2.2.2.2 r6.2.2.2.1 14 0) = r := ⟨_, rfl⟩
            try simp only [hr7] at hok
            have hC_r7 := (c_Cond_add l G script_conditions_h script_conditions_a_steps script_conditions_a_values script_conditions_a_stack script_conditions_a_holding r6.2.2.2.2.1 r6.2.2.2.2.2 r6.2.2.2.1 script_conditions__height 14 0 hv5)
            rw [hr7] at hC_r7
            refine ly_callV (rest := []) (wf := [(h, .inr (11, [.ref script_h, .ref script_tokens_h, .ref script_conditions_h, .int r6.2.1, .int r6.2.2.1])), (script_h, .inr (10, [.ref script_tokens_h, .ref script_conditions_h, .ref script_a_questions, .int script__asked, .ref script_a_letStarts, .ref script_a_letEnds, .ref script_a_letOfLetter, .int script__lets])), (script_tokens_h, .inr (7, [.ref script_tokens_a_kinds, .ref script_tokens_a_values, .ref script_tokens_a_places, .int script_tokens__size])), (script_tokens_a_kinds, .inl (gI G, 2001, .inl script_tokens_f_kinds)), (script_tokens_a_values, .inl (gI G, 2001, .inl script_tokens_f_values)), (script_conditions_h, .inr (8, [.ref script_conditions_a_steps, .ref script_conditions_a_values, .int r7.1, .ref script_conditions_a_stack, .int script_conditions__height, .ref script_conditions_a_holding])), (script_conditions_a_steps, .inl (gI G, 2000, .inl r7.2.1)), (script_conditions_a_values, .inl (gI G, 2000, .inl r7.2.2)), (script_a_letOfLetter, .inl (gI G, 26, .inl script_f_letOfLetter))]) ⟨hx, hb, hml, hown, hts⟩ hA hK hZ hP hD hS hC_r7 (cwV 2 hts g_Par_143 rfl rfl rfl (by decide +kernel) ⟨by simp only [rmD]; omega, by simp only [rmD]; omega⟩) (ci := 8) (q0 := 5) rfl rfl rfl [5, 6, 7] rfl (by decide) rfl rfl rfl hl.1 rfl (Nat.le_of_ble_eq_true rfl) d_Par_condition_95 ⟨Nat.le_of_ble_eq_true rfl, Nat.le_of_ble_eq_true rfl⟩ (st1 := []) (c1 := 0) (s1 := 0) rfl rfl rfl (fun H locs hP hD hS => ?_)
            refine lv_goto (tgt := 103) hx hb d_Par_condition_98 (by decide) ?_
            refine lv_iinc (v := i3 + 1) (lv' := [(3, .int (i3 + 1)), (4, .int r1), (2, .int i2), (0, .ref h), (1, .int x)]) hx hb d_Par_condition_103 hl (k := 1) rfl (by rfl) (by decide) rfl (fun ls hl => ?_)
            refine lv_goto (tgt := 14) hx hb d_Par_condition_106 (by decide) ?_
            have e_ : (lp_Par_condition_14 tru script_tokens_f_kinds script_tokens_f_values script_f_letOfLetter x (n + 1) i2 i3 w3_h w4_h w2_script_conditions_h g_script_conditions_a_steps g_script_conditions_a_values) = (lp_Par_condition_14 tru script_tokens_f_kinds script_tokens_f_values script_f_letOfLetter x n i2 (i3 + 1) r6.2.1 r6.2.2.1 r7.1 r7.2.1 r7.2.2) := (by rw [lp_Par_condition_14] <;> simp only [hr1, hr5, hr6, hr7] <;> rw [if_neg c1, if_pos c2, if_neg c3, if_pos c7, if_neg c8, if_neg c9, if_pos c10])
            rw [e_]
            exact ih i2 (i3 + 1) r6.2.1 r6.2.2.1 r7.1 r7.2.1 r7.2.2 hok _ _ _ hP hD hS (lv_sub hl [0, 2, 3, 4] rfl)
          rw [if_pos c9] at hok
          refine lv_iconst (v := 0) hx hb d_Par_condition_79 (by decide) ?_
          exact ly_zret hx hb hr hlocks hP hD hS d_Par_condition_80 (by decide) (by rw [lp_Par_condition_14] <;> simp only [hr1, hr5, hr6] <;> rw [if_neg c1, if_pos c2, if_neg c3, if_pos c7, if_neg c8, if_pos c9]) (by rw [lp_Par_condition_14] <;> simp only [hr1, hr5, hr6] <;> rw [if_neg c1, if_pos c2, if_neg c3, if_pos c7, if_neg c8, if_pos c9])
        rw [if_neg c7] at hok
        refine lv_iconst (v := 1) hx hb d_Par_condition_62 (by decide) ?_
        exact ly_zret hx hb hr hlocks hP hD hS d_Par_condition_63 (by decide) (by rw [lp_Par_condition_14] <;> simp only [hr1] <;> rw [if_neg c1, if_pos c2, if_neg c3, if_neg c7]) (by rw [lp_Par_condition_14] <;> simp only [hr1] <;> rw [if_neg c1, if_pos c2, if_neg c3, if_neg c7])
      rw [if_neg c2] at hok
      refine lv_iload hx hb d_Par_condition_31 (lv_at hl 0 rfl) ?_
      refine lv_bipush (v := 14) hx hb d_Par_condition_33 (by decide) ?_
      refine lv_icmp_eq (tgt := 48) hx hb d_Par_condition_35 (by decide) (fun c11 => ?_) (fun c11 => ?_)
      · skip
        rw [if_pos c11] at hok
        refine lv_iload hx hb d_Par_condition_48 (lv_at hl 0 rfl) ?_
        refine lv_bipush (v := 14) hx hb d_Par_condition_50 (by decide) ?_
        refine lv_icmp_eq (tgt := 64) hx hb d_Par_condition_52 (by decide) (fun c12 => ?_) (fun c12 => ?_)
        · skip
          rw [if_pos c12] at hok
          refine lv_aload_n hx hb d_Par_condition_64 rfl (lv_at hl 3 rfl) ?_
          obtain ⟨r8, hr8⟩ : ∃ r, (s_Par_takeJoint w3_h w4_h) = r := ⟨_, rfl⟩
          try simp only [hr8] at hok
          have hC_r8 := (c_Par_takeJoint l G h script_h script_tokens_h script_conditions_h w3_h w4_h)
          rw [hr8] at hC_r8
          have hf_r8_1 : isB r8.1 := by rw [← hr8]; exact z_Par_takeJoint
          refine ly_callV (rest := []) (wf := [(h, .inr (11, [.ref script_h, .ref script_tokens_h, .ref script_conditions_h, .int r8.2.1, .int r8.2.2])), (script_h, .inr (10, [.ref script_tokens_h, .ref script_conditions_h, .ref script_a_questions, .int script__asked, .ref script_a_letStarts, .ref script_a_letEnds, .ref script_a_letOfLetter, .int script__lets])), (script_tokens_h, .inr (7, [.ref script_tokens_a_kinds, .ref script_tokens_a_values, .ref script_tokens_a_places, .int script_tokens__size])), (script_tokens_a_kinds, .inl (gI G, 2001, .inl script_tokens_f_kinds)), (script_tokens_a_values, .inl (gI G, 2001, .inl script_tokens_f_values)), (script_conditions_h, .inr (8, [.ref script_conditions_a_steps, .ref script_conditions_a_values, .int w2_script_conditions_h, .ref script_conditions_a_stack, .int script_conditions__height, .ref script_conditions_a_holding])), (script_conditions_a_steps, .inl (gI G, 2000, .inl g_script_conditions_a_steps)), (script_conditions_a_values, .inl (gI G, 2000, .inl g_script_conditions_a_values)), (script_a_letOfLetter, .inl (gI G, 26, .inl script_f_letOfLetter))]) ⟨hx, hb, hml, hown, hts⟩ hA hK hZ hP hD hS hC_r8 (cwV 0 hts g_Par_146 rfl rfl rfl (by decide +kernel) ⟨by simp only [rmD]; omega, by simp only [rmD]; omega⟩) (ci := 11) (q0 := 0) rfl rfl rfl [0] rfl (by decide) rfl rfl rfl hl.1 rfl (Nat.le_of_ble_eq_true rfl) d_Par_condition_65 ⟨Nat.le_of_ble_eq_true rfl, Nat.le_of_ble_eq_true rfl⟩ (st1 := [.int r8.1]) (c1 := 0) (s1 := 0) rfl rfl rfl (fun H locs hP hD hS => ?_)
          refine lv_if_eq (tgt := 79) hx hb d_Par_condition_68 (by decide) (fun c13 => ?_) (fun c13 => ?_)
          · skip
            rw [if_pos c13] at hok
            refine lv_iconst (v := 0) hx hb d_Par_condition_79 (by decide) ?_
            exact ly_zret hx hb hr hlocks hP hD hS d_Par_condition_80 (by decide) (by rw [lp_Par_condition_14] <;> simp only [hr1, hr8] <;> rw [if_neg c1, if_neg c2, if_pos c11, if_pos c12, if_pos c13]) (by rw [lp_Par_condition_14] <;> simp only [hr1, hr8] <;> rw [if_neg c1, if_neg c2, if_pos c11, if_pos c12, if_pos c13])
          rw [if_neg c13] at hok
          refine lv_aload_n hx hb d_Par_condition_71 rfl (lv_at hl 3 rfl) ?_
          refine lv_iload_n hx hb d_Par_condition_72 rfl (lv_at hl 4 rfl) ?_
          obtain ⟨hv6, hok⟩ := hok
          obtain ⟨r9, hr9⟩ : ∃ r, (tru script_tokens_f_kinds script_tokens_f_values g_script_conditions_a_steps g_script_conditions_a_values w2_script_conditions_h script_f_letOfLetter r8.2.1 r8.2.2 x) = r := ⟨_, rfl⟩
          try simp only [hr9] at hok
          have hC_r9 := (htru h script_h script_tokens_h script_tokens_a_kinds script_tokens_a_values script_tokens_a_places script_conditions_h script_conditions_a_steps script_conditions_a_values script_conditions_a_stack script_conditions_a_holding script_a_questions script_a_letStarts script_a_letEnds script_a_letOfLetter script_tokens_f_kinds script_tokens_f_values script_tokens__size g_script_conditions_a_steps g_script_conditions_a_values w2_script_conditions_h script_conditions__height script__asked script_f_letOfLetter script__lets r8.2.1 r8.2.2 x hv6)
          rw [hr9] at hC_r9
          have hf_r9_1 : isB r9.1 := by rw [← hr9]; exact ztru
          have hc_ : ∀ (x0_ x1_ x2_ x3_ x4_ x5_ x6_ x7_ x8_ : Nat × va_E) (t_ : va_W), List.map (fun i => (x0_ :: x1_ :: x2_ :: x3_ :: x4_ :: x5_ :: x6_ :: x7_ :: x8_ :: t_)[i]?) [0, 1, 2, 3, 4, 5, 6, 7, 8] = List.map some [x0_, x1_, x2_, x3_, x4_, x5_, x6_, x7_, x8_] := fun _ _ _ _ _ _ _ _ _ _ => rfl
          have hf_ : ∀ (x0_ x1_ x2_ x3_ x4_ x5_ x6_ x7_ x8_ y0_ y1_ y2_ y3_ y4_ y5_ y6_ y7_ y8_ : Nat × va_E) (t_ : va_W), setAll (x0_ :: x1_ :: x2_ :: x3_ :: x4_ :: x5_ :: x6_ :: x7_ :: x8_ :: t_) [0, 1, 2, 3, 4, 5, 6, 7, 8] [y0_, y1_, y2_, y3_, y4_, y5_, y6_, y7_, y8_] = y0_ :: y1_ :: y2_ :: y3_ :: y4_ :: y5_ :: y6_ :: y7_ :: y8_ :: t_ := fun _ _ _ _ _ _ _ _ _ _ _ _ _ _ _ _ _ _ _ => Eq.trans (setAll_M (bs := [true, true, true, true, true, true, true, true, true]) trivial rfl) rfl
          refine ly_callV (rest := []) (wf := [(h, .inr (11, [.ref script_h, .ref script_tokens_h, .ref script_conditions_h, .int r9.2.1, .int r9.2.2.1])), (script_h, .inr (10, [.ref script_tokens_h, .ref script_conditions_h, .ref script_a_questions, .int script__asked, .ref script_a_letStarts, .ref script_a_letEnds, .ref script_a_letOfLetter, .int script__lets])), (script_tokens_h, .inr (7, [.ref script_tokens_a_kinds, .ref script_tokens_a_values, .ref script_tokens_a_places, .int script_tokens__size])), (script_tokens_a_kinds, .inl (gI G, 2001, .inl script_tokens_f_kinds)), (script_tokens_a_values, .inl (gI G, 2001, .inl script_tokens_f_values)), (script_conditions_h, .inr (8, [.ref script_conditions_a_steps, .ref script_conditions_a_values, .int r9.2.2.2.1, .ref script_conditions_a_stack, .int script_conditions__height, .ref script_conditions_a_holding])), (script_conditions_a_steps, .inl (gI G, 2000, .inl r9.2.2.2.2.1)), (script_conditions_a_values, .inl (gI G, 2000, .inl r9.2.2.2.2.2)), (script_a_letOfLetter, .inl (gI G, 26, .inl script_f_letOfLetter))]) ⟨hx, hb, hml, hown, hts⟩ hA hK hZ hP hD hS hC_r9 (cwV 1 hts g_Par_138 rfl rfl rfl (by decide +kernel) ⟨by simp only [rmD]; omega, by simp only [rmD]; omega⟩) (ci := 11) (q0 := 0) rfl rfl rfl [0, 1, 2, 3, 4, 5, 6, 7, 8] (hc_ _ _ _ _ _ _ _ _ _ _) (by decide) rfl (hf_ _ _ _ _ _ _ _ _ _ _ _ _ _ _ _ _ _ _ _) rfl hl.1 rfl (Nat.le_of_ble_eq_true rfl) d_Par_condition_73 ⟨Nat.le_of_ble_eq_true rfl, Nat.le_of_ble_eq_true rfl⟩ (st1 := [.int r9.1]) (c1 := 0) (s1 := 0) rfl rfl rfl (fun H locs hP hD hS => ?_)
          refine lv_if_ne (tgt := 81) hx hb d_Par_condition_76 (by decide) (fun c14 => ?_) (fun c14 => ?_)
          · skip
            rw [if_neg c14] at hok
            refine lv_iload hx hb d_Par_condition_81 (lv_at hl 0 rfl) ?_
            refine lv_bipush (v := 14) hx hb d_Par_condition_83 (by decide) ?_
            refine lv_icmp_ne (tgt := 101) hx hb d_Par_condition_85 (by decide) (fun c15 => ?_) (fun c15 => ?_)
            · skip
              rw [if_neg c15] at hok
              refine lv_iconst (v := 1) hx hb d_Par_condition_101 (by decide) ?_
              refine lv_istore_n (lv' := [(2, .int 1), (4, .int r1), (3, .int i3), (0, .ref h), (1, .int x)]) hx hb d_Par_condition_102 rfl hl (by decide) rfl (fun ls hl => ?_)
              refine lv_iinc (v := i3 + 1) (lv' := [(3, .int (i3 + 1)), (2, .int 1), (4, .int r1), (0, .ref h), (1, .int x)]) hx hb d_Par_condition_103 hl (k := 2) rfl (by rfl) (by decide) rfl (fun ls hl => ?_)
              refine lv_goto (tgt := 14) hx hb d_Par_condition_106 (by decide) ?_
              have e_ : (lp_Par_condition_14 tru script_tokens_f_kinds script_tokens_f_values script_f_letOfLetter x (n + 1) i2 i3 w3_h w4_h w2_script_conditions_h g_script_conditions_a_steps g_script_conditions_a_values) = (lp_Par_condition_14 tru script_tokens_f_kinds script_tokens_f_values script_f_letOfLetter x n (1 : Int32) (i3 + 1) r9.2.1 r9.2.2.1 r9.2.2.2.1 r9.2.2.2.2.1 r9.2.2.2.2.2) := (by rw [lp_Par_condition_14] <;> simp only [hr1, hr8, hr9] <;> rw [if_neg c1, if_neg c2, if_pos c11, if_pos c12, if_neg c13, if_neg c14, if_neg c15])
              rw [e_]
              exact ih (1 : Int32) (i3 + 1) r9.2.1 r9.2.2.1 r9.2.2.2.1 r9.2.2.2.2.1 r9.2.2.2.2.2 hok _ _ _ hP hD hS (lv_sub hl [0, 1, 3, 4] rfl)
            rw [if_pos c15] at hok
            refine lv_aload_n hx hb d_Par_condition_88 rfl (lv_at hl 3 rfl) ?_
            refine va_get (D := G.1) (ci := 11) (C := R_Par) (T := F_Par) (N := 5) (v := .ref script_conditions_h) hx hb hts i_Par hown hK hP 0 rfl rfl 2 (by decide) (hts (.fieldLink R_Par 26 "PrivateQueries$Parser" "conditions" "LPrivateQueries$Conditions;") k_755) (fun _ h9 => h9) rfl d_Par_condition_89 ?_
            refine lv_bipush (v := 14) hx hb d_Par_condition_92 (by decide) ?_
            refine lv_iconst (v := 0) hx hb d_Par_condition_94 (by decide) ?_
            obtain ⟨hv7, hok⟩ := hok
            obtain ⟨r10, hr10⟩ : ∃ r, (s_Cond_add r9.2.2.2.2.1 r9.2.2.2.2.2 r9.2.2.2.1 14 0) = r := ⟨_, rfl⟩
            try simp only [hr10] at hok
            have hC_r10 := (c_Cond_add l G script_conditions_h script_conditions_a_steps script_conditions_a_values script_conditions_a_stack script_conditions_a_holding r9.2.2.2.2.1 r9.2.2.2.2.2 r9.2.2.2.1 script_conditions__height 14 0 hv7)
            rw [hr10] at hC_r10
            refine ly_callV (rest := []) (wf := [(h, .inr (11, [.ref script_h, .ref script_tokens_h, .ref script_conditions_h, .int r9.2.1, .int r9.2.2.1])), (script_h, .inr (10, [.ref script_tokens_h, .ref script_conditions_h, .ref script_a_questions, .int script__asked, .ref script_a_letStarts, .ref script_a_letEnds, .ref script_a_letOfLetter, .int script__lets])), (script_tokens_h, .inr (7, [.ref script_tokens_a_kinds, .ref script_tokens_a_values, .ref script_tokens_a_places, .int script_tokens__size])), (script_tokens_a_kinds, .inl (gI G, 2001, .inl script_tokens_f_kinds)), (script_tokens_a_values, .inl (gI G, 2001, .inl script_tokens_f_values)), (script_conditions_h, .inr (8, [.ref script_conditions_a_steps, .ref script_conditions_a_values, .int r10.1, .ref script_conditions_a_stack, .int script_conditions__height, .ref script_conditions_a_holding])), (script_conditions_a_steps, .inl (gI G, 2000, .inl r10.2.1)), (script_conditions_a_values, .inl (gI G, 2000, .inl r10.2.2)), (script_a_letOfLetter, .inl (gI G, 26, .inl script_f_letOfLetter))]) ⟨hx, hb, hml, hown, hts⟩ hA hK hZ hP hD hS hC_r10 (cwV 2 hts g_Par_143 rfl rfl rfl (by decide +kernel) ⟨by simp only [rmD]; omega, by simp only [rmD]; omega⟩) (ci := 8) (q0 := 5) rfl rfl rfl [5, 6, 7] rfl (by decide) rfl rfl rfl hl.1 rfl (Nat.le_of_ble_eq_true rfl) d_Par_condition_95 ⟨Nat.le_of_ble_eq_true rfl, Nat.le_of_ble_eq_true rfl⟩ (st1 := []) (c1 := 0) (s1 := 0) rfl rfl rfl (fun H locs hP hD hS => ?_)
            refine lv_goto (tgt := 103) hx hb d_Par_condition_98 (by decide) ?_
            refine lv_iinc (v := i3 + 1) (lv' := [(3, .int (i3 + 1)), (4, .int r1), (2, .int i2), (0, .ref h), (1, .int x)]) hx hb d_Par_condition_103 hl (k := 1) rfl (by rfl) (by decide) rfl (fun ls hl => ?_)
            refine lv_goto (tgt := 14) hx hb d_Par_condition_106 (by decide) ?_
            have e_ : (lp_Par_condition_14 tru script_tokens_f_kinds script_tokens_f_values script_f_letOfLetter x (n + 1) i2 i3 w3_h w4_h w2_script_conditions_h g_script_conditions_a_steps g_script_conditions_a_values) = (lp_Par_condition_14 tru script_tokens_f_kinds script_tokens_f_values script_f_letOfLetter x n i2 (i3 + 1) r9.2.1 r9.2.2.1 r10.1 r10.2.1 r10.2.2) := (by rw [lp_Par_condition_14] <;> simp only [hr1, hr8, hr9, hr10] <;> rw [if_neg c1, if_neg c2, if_pos c11, if_pos c12, if_neg c13, if_neg c14, if_pos c15])
            rw [e_]
            exact ih i2 (i3 + 1) r9.2.1 r9.2.2.1 r10.1 r10.2.1 r10.2.2 hok _ _ _ hP hD hS (lv_sub hl [0, 2, 3, 4] rfl)
          rw [if_pos c14] at hok
          refine lv_iconst (v := 0) hx hb d_Par_condition_79 (by decide) ?_
          exact ly_zret hx hb hr hlocks hP hD hS d_Par_condition_80 (by decide) (by rw [lp_Par_condition_14] <;> simp only [hr1, hr8, hr9] <;> rw [if_neg c1, if_neg c2, if_pos c11, if_pos c12, if_neg c13, if_pos c14]) (by rw [lp_Par_condition_14] <;> simp only [hr1, hr8, hr9] <;> rw [if_neg c1, if_neg c2, if_pos c11, if_pos c12, if_neg c13, if_pos c14])
        rw [if_neg c12] at hok
        refine lv_iload hx hb d_Par_condition_55 (lv_at hl 0 rfl) ?_
        refine lv_bipush (v := 15) hx hb d_Par_condition_57 (by decide) ?_
        refine lv_icmp_eq (tgt := 64) hx hb d_Par_condition_59 (by decide) (fun c16 => ?_) (fun c16 => ?_)
        · skip
          rw [if_pos c16] at hok
          refine lv_aload_n hx hb d_Par_condition_64 rfl (lv_at hl 3 rfl) ?_
          obtain ⟨r11, hr11⟩ : ∃ r, (s_Par_takeJoint w3_h w4_h) = r := ⟨_, rfl⟩
          try simp only [hr11] at hok
          have hC_r11 := (c_Par_takeJoint l G h script_h script_tokens_h script_conditions_h w3_h w4_h)
          rw [hr11] at hC_r11
          have hf_r11_1 : isB r11.1 := by rw [← hr11]; exact z_Par_takeJoint
          refine ly_callV (rest := []) (wf := [(h, .inr (11, [.ref script_h, .ref script_tokens_h, .ref script_conditions_h, .int r11.2.1, .int r11.2.2])), (script_h, .inr (10, [.ref script_tokens_h, .ref script_conditions_h, .ref script_a_questions, .int script__asked, .ref script_a_letStarts, .ref script_a_letEnds, .ref script_a_letOfLetter, .int script__lets])), (script_tokens_h, .inr (7, [.ref script_tokens_a_kinds, .ref script_tokens_a_values, .ref script_tokens_a_places, .int script_tokens__size])), (script_tokens_a_kinds, .inl (gI G, 2001, .inl script_tokens_f_kinds)), (script_tokens_a_values, .inl (gI G, 2001, .inl script_tokens_f_values)), (script_conditions_h, .inr (8, [.ref script_conditions_a_steps, .ref script_conditions_a_values, .int w2_script_conditions_h, .ref script_conditions_a_stack, .int script_conditions__height, .ref script_conditions_a_holding])), (script_conditions_a_steps, .inl (gI G, 2000, .inl g_script_conditions_a_steps)), (script_conditions_a_values, .inl (gI G, 2000, .inl g_script_conditions_a_values)), (script_a_letOfLetter, .inl (gI G, 26, .inl script_f_letOfLetter))]) ⟨hx, hb, hml, hown, hts⟩ hA hK hZ hP hD hS hC_r11 (cwV 0 hts g_Par_146 rfl rfl rfl (by decide +kernel) ⟨by simp only [rmD]; omega, by simp only [rmD]; omega⟩) (ci := 11) (q0 := 0) rfl rfl rfl [0] rfl (by decide) rfl rfl rfl hl.1 rfl (Nat.le_of_ble_eq_true rfl) d_Par_condition_65 ⟨Nat.le_of_ble_eq_true rfl, Nat.le_of_ble_eq_true rfl⟩ (st1 := [.int r11.1]) (c1 := 0) (s1 := 0) rfl rfl rfl (fun H locs hP hD hS => ?_)
          refine lv_if_eq (tgt := 79) hx hb d_Par_condition_68 (by decide) (fun c17 => ?_) (fun c17 => ?_)
          · skip
            rw [if_pos c17] at hok
            refine lv_iconst (v := 0) hx hb d_Par_condition_79 (by decide) ?_
            exact ly_zret hx hb hr hlocks hP hD hS d_Par_condition_80 (by decide) (by rw [lp_Par_condition_14] <;> simp only [hr1, hr11] <;> rw [if_neg c1, if_neg c2, if_pos c11, if_neg c12, if_pos c16, if_pos c17]) (by rw [lp_Par_condition_14] <;> simp only [hr1, hr11] <;> rw [if_neg c1, if_neg c2, if_pos c11, if_neg c12, if_pos c16, if_pos c17])
          rw [if_neg c17] at hok
          refine lv_aload_n hx hb d_Par_condition_71 rfl (lv_at hl 3 rfl) ?_
          refine lv_iload_n hx hb d_Par_condition_72 rfl (lv_at hl 4 rfl) ?_
          obtain ⟨hv8, hok⟩ := hok
          obtain ⟨r12, hr12⟩ : ∃ r, (tru script_tokens_f_kinds script_tokens_f_values g_script_conditions_a_steps g_script_conditions_a_values w2_script_conditions_h script_f_letOfLetter r11.2.1 r11.2.2 x) = r := ⟨_, rfl⟩
          try simp only [hr12] at hok
          have hC_r12 := (htru h script_h script_tokens_h script_tokens_a_kinds script_tokens_a_values script_tokens_a_places script_conditions_h script_conditions_a_steps script_conditions_a_values script_conditions_a_stack script_conditions_a_holding script_a_questions script_a_letStarts script_a_letEnds script_a_letOfLetter script_tokens_f_kinds script_tokens_f_values script_tokens__size g_script_conditions_a_steps g_script_conditions_a_values w2_script_conditions_h script_conditions__height script__asked script_f_letOfLetter script__lets r11.2.1 r11.2.2 x hv8)
          rw [hr12] at hC_r12
          have hf_r12_1 : isB r12.1 := by rw [← hr12]; exact ztru
          have hc_ : ∀ (x0_ x1_ x2_ x3_ x4_ x5_ x6_ x7_ x8_ : Nat × va_E) (t_ : va_W), List.map (fun i => (x0_ :: x1_ :: x2_ :: x3_ :: x4_ :: x5_ :: x6_ :: x7_ :: x8_ :: t_)[i]?) [0, 1, 2, 3, 4, 5, 6, 7, 8] = List.map some [x0_, x1_, x2_, x3_, x4_, x5_, x6_, x7_, x8_] := fun _ _ _ _ _ _ _ _ _ _ => rfl
          have hf_ : ∀ (x0_ x1_ x2_ x3_ x4_ x5_ x6_ x7_ x8_ y0_ y1_ y2_ y3_ y4_ y5_ y6_ y7_ y8_ : Nat × va_E) (t_ : va_W), setAll (x0_ :: x1_ :: x2_ :: x3_ :: x4_ :: x5_ :: x6_ :: x7_ :: x8_ :: t_) [0, 1, 2, 3, 4, 5, 6, 7, 8] [y0_, y1_, y2_, y3_, y4_, y5_, y6_, y7_, y8_] = y0_ :: y1_ :: y2_ :: y3_ :: y4_ :: y5_ :: y6_ :: y7_ :: y8_ :: t_ := fun _ _ _ _ _ _ _ _ _ _ _ _ _ _ _ _ _ _ _ => Eq.trans (setAll_M (bs := [true, true, true, true, true, true, true, true, true]) trivial rfl) rfl
          refine ly_callV (rest := []) (wf := [(h, .inr (11, [.ref script_h, .ref script_tokens_h, .ref script_conditions_h, .int r12.2.1, .int r12.2.2.1])), (script_h, .inr (10, [.ref script_tokens_h, .ref script_conditions_h, .ref script_a_questions, .int script__asked, .ref script_a_letStarts, .ref script_a_letEnds, .ref script_a_letOfLetter, .int script__lets])), (script_tokens_h, .inr (7, [.ref script_tokens_a_kinds, .ref script_tokens_a_values, .ref script_tokens_a_places, .int script_tokens__size])), (script_tokens_a_kinds, .inl (gI G, 2001, .inl script_tokens_f_kinds)), (script_tokens_a_values, .inl (gI G, 2001, .inl script_tokens_f_values)), (script_conditions_h, .inr (8, [.ref script_conditions_a_steps, .ref script_conditions_a_values, .int r12.2.2.2.1, .ref script_conditions_a_stack, .int script_conditions__height, .ref script_conditions_a_holding])), (script_conditions_a_steps, .inl (gI G, 2000, .inl r12.2.2.2.2.1)), (script_conditions_a_values, .inl (gI G, 2000, .inl r12.2.2.2.2.2)), (script_a_letOfLetter, .inl (gI G, 26, .inl script_f_letOfLetter))]) ⟨hx, hb, hml, hown, hts⟩ hA hK hZ hP hD hS hC_r12 (cwV 1 hts g_Par_138 rfl rfl rfl (by decide +kernel) ⟨by simp only [rmD]; omega, by simp only [rmD]; omega⟩) (ci := 11) (q0 := 0) rfl rfl rfl [0, 1, 2, 3, 4, 5, 6, 7, 8] (hc_ _ _ _ _ _ _ _ _ _ _) (by decide) rfl (hf_ _ _ _ _ _ _ _ _ _ _ _ _ _ _ _ _ _ _ _) rfl hl.1 rfl (Nat.le_of_ble_eq_true rfl) d_Par_condition_73 ⟨Nat.le_of_ble_eq_true rfl, Nat.le_of_ble_eq_true rfl⟩ (st1 := [.int r12.1]) (c1 := 0) (s1 := 0) rfl rfl rfl (fun H locs hP hD hS => ?_)
          refine lv_if_ne (tgt := 81) hx hb d_Par_condition_76 (by decide) (fun c18 => ?_) (fun c18 => ?_)
          · skip
            rw [if_neg c18] at hok
            refine lv_iload hx hb d_Par_condition_81 (lv_at hl 0 rfl) ?_
            refine lv_bipush (v := 14) hx hb d_Par_condition_83 (by decide) ?_
            refine lv_icmp_ne (tgt := 101) hx hb d_Par_condition_85 (by decide) (fun c19 => ?_) (fun c19 => ?_)
            · skip
              rw [if_neg c19] at hok
              refine lv_iconst (v := 1) hx hb d_Par_condition_101 (by decide) ?_
              refine lv_istore_n (lv' := [(2, .int 1), (4, .int r1), (3, .int i3), (0, .ref h), (1, .int x)]) hx hb d_Par_condition_102 rfl hl (by decide) rfl (fun ls hl => ?_)
              refine lv_iinc (v := i3 + 1) (lv' := [(3, .int (i3 + 1)), (2, .int 1), (4, .int r1), (0, .ref h), (1, .int x)]) hx hb d_Par_condition_103 hl (k := 2) rfl (by rfl) (by decide) rfl (fun ls hl => ?_)
              refine lv_goto (tgt := 14) hx hb d_Par_condition_106 (by decide) ?_
              have e_ : (lp_Par_condition_14 tru script_tokens_f_kinds script_tokens_f_values script_f_letOfLetter x (n + 1) i2 i3 w3_h w4_h w2_script_conditions_h g_script_conditions_a_steps g_script_conditions_a_values) = (lp_Par_condition_14 tru script_tokens_f_kinds script_tokens_f_values script_f_letOfLetter x n (1 : Int32) (i3 + 1) r12.2.1 r12.2.2.1 r12.2.2.2.1 r12.2.2.2.2.1 r12.2.2.2.2.2) := (by rw [lp_Par_condition_14] <;> simp only [hr1, hr11, hr12] <;> rw [if_neg c1, if_neg c2, if_pos c11, if_neg c12, if_pos c16, if_neg c17, if_neg c18, if_neg c19])
              rw [e_]
              exact ih (1 : Int32) (i3 + 1) r12.2.1 r12.2.2.1 r12.2.2.2.1 r12.2.2.2.2.1 r12.2.2.2.2.2 hok _ _ _ hP hD hS (lv_sub hl [0, 1, 3, 4] rfl)
            rw [if_pos c19] at hok
            refine lv_aload_n hx hb d_Par_condition_88 rfl (lv_at hl 3 rfl) ?_
            refine va_get (D := G.1) (ci := 11) (C := R_Par) (T := F_Par) (N := 5) (v := .ref script_conditions_h) hx hb hts i_Par hown hK hP 0 rfl rfl 2 (by decide) (hts (.fieldLink R_Par 26 "PrivateQueries$Parser" "conditions" "LPrivateQueries$Conditions;") k_755) (fun _ h9 => h9) rfl d_Par_condition_89 ?_
            refine lv_bipush (v := 14) hx hb d_Par_condition_92 (by decide) ?_
            refine lv_iconst (v := 0) hx hb d_Par_condition_94 (by decide) ?_
            obtain ⟨hv9, hok⟩ := hok
            obtain ⟨r13, hr13⟩ : ∃ r, (s_Cond_add r12.2.2.2.2.1 r12.2.2.2.2.2 r12.2.2.2.1 14 0) = r := ⟨_, rfl⟩
            try simp only [hr13] at hok
            have hC_r13 := (c_Cond_add l G script_conditions_h script_conditions_a_steps script_conditions_a_values script_conditions_a_stack script_conditions_a_holding r12.2.2.2.2.1 r12.2.2.2.2.2 r12.2.2.2.1 script_conditions__height 14 0 hv9)
            rw [hr13] at hC_r13
            refine ly_callV (rest := []) (wf := [(h, .inr (11, [.ref script_h, .ref script_tokens_h, .ref script_conditions_h, .int r12.2.1, .int r12.2.2.1])), (script_h, .inr (10, [.ref script_tokens_h, .ref script_conditions_h, .ref script_a_questions, .int script__asked, .ref script_a_letStarts, .ref script_a_letEnds, .ref script_a_letOfLetter, .int script__lets])), (script_tokens_h, .inr (7, [.ref script_tokens_a_kinds, .ref script_tokens_a_values, .ref script_tokens_a_places, .int script_tokens__size])), (script_tokens_a_kinds, .inl (gI G, 2001, .inl script_tokens_f_kinds)), (script_tokens_a_values, .inl (gI G, 2001, .inl script_tokens_f_values)), (script_conditions_h, .inr (8, [.ref script_conditions_a_steps, .ref script_conditions_a_values, .int r13.1, .ref script_conditions_a_stack, .int script_conditions__height, .ref script_conditions_a_holding])), (script_conditions_a_steps, .inl (gI G, 2000, .inl r13.2.1)), (script_conditions_a_values, .inl (gI G, 2000, .inl r13.2.2)), (script_a_letOfLetter, .inl (gI G, 26, .inl script_f_letOfLetter))]) ⟨hx, hb, hml, hown, hts⟩ hA hK hZ hP hD hS hC_r13 (cwV 2 hts g_Par_143 rfl rfl rfl (by decide +kernel) ⟨by simp only [rmD]; omega, by simp only [rmD]; omega⟩) (ci := 8) (q0 := 5) rfl rfl rfl [5, 6, 7] rfl (by decide) rfl rfl rfl hl.1 rfl (Nat.le_of_ble_eq_true rfl) d_Par_condition_95 ⟨Nat.le_of_ble_eq_true rfl, Nat.le_of_ble_eq_true rfl⟩ (st1 := []) (c1 := 0) (s1 := 0) rfl rfl rfl (fun H locs hP hD hS => ?_)
            refine lv_goto (tgt := 103) hx hb d_Par_condition_98 (by decide) ?_
            refine lv_iinc (v := i3 + 1) (lv' := [(3, .int (i3 + 1)), (4, .int r1), (2, .int i2), (0, .ref h), (1, .int x)]) hx hb d_Par_condition_103 hl (k := 1) rfl (by rfl) (by decide) rfl (fun ls hl => ?_)
            refine lv_goto (tgt := 14) hx hb d_Par_condition_106 (by decide) ?_
            have e_ : (lp_Par_condition_14 tru script_tokens_f_kinds script_tokens_f_values script_f_letOfLetter x (n + 1) i2 i3 w3_h w4_h w2_script_conditions_h g_script_conditions_a_steps g_script_conditions_a_values) = (lp_Par_condition_14 tru script_tokens_f_kinds script_tokens_f_values script_f_letOfLetter x n i2 (i3 + 1) r12.2.1 r12.2.2.1 r13.1 r13.2.1 r13.2.2) := (by rw [lp_Par_condition_14] <;> simp only [hr1, hr11, hr12, hr13] <;> rw [if_neg c1, if_neg c2, if_pos c11, if_neg c12, if_pos c16, if_neg c17, if_neg c18, if_pos c19])
            rw [e_]
            exact ih i2 (i3 + 1) r12.2.1 r12.2.2.1 r13.1 r13.2.1 r13.2.2 hok _ _ _ hP hD hS (lv_sub hl [0, 2, 3, 4] rfl)
          rw [if_pos c18] at hok
          refine lv_iconst (v := 0) hx hb d_Par_condition_79 (by decide) ?_
          exact ly_zret hx hb hr hlocks hP hD hS d_Par_condition_80 (by decide) (by rw [lp_Par_condition_14] <;> simp only [hr1, hr11, hr12] <;> rw [if_neg c1, if_neg c2, if_pos c11, if_neg c12, if_pos c16, if_neg c17, if_pos c18]) (by rw [lp_Par_condition_14] <;> simp only [hr1, hr11, hr12] <;> rw [if_neg c1, if_neg c2, if_pos c11, if_neg c12, if_pos c16, if_neg c17, if_pos c18])
        rw [if_neg c16] at hok
        refine lv_iconst (v := 1) hx hb d_Par_condition_62 (by decide) ?_
        exact ly_zret hx hb hr hlocks hP hD hS d_Par_condition_63 (by decide) (by rw [lp_Par_condition_14] <;> simp only [hr1] <;> rw [if_neg c1, if_neg c2, if_pos c11, if_neg c12, if_neg c16]) (by rw [lp_Par_condition_14] <;> simp only [hr1] <;> rw [if_neg c1, if_neg c2, if_pos c11, if_neg c12, if_neg c16])
      rw [if_neg c11] at hok
      refine lv_aload_n hx hb d_Par_condition_38 rfl (lv_at hl 3 rfl) ?_
      refine va_get (D := G.1) (ci := 11) (C := R_Par) (T := F_Par) (N := 5) (v := .ref script_conditions_h) hx hb hts i_Par hown hK hP 0 rfl rfl 2 (by decide) (hts (.fieldLink R_Par 26 "PrivateQueries$Parser" "conditions" "LPrivateQueries$Conditions;") k_755) (fun _ h9 => h9) rfl d_Par_condition_39 ?_
      refine lv_bipush (v := 15) hx hb d_Par_condition_42 (by decide) ?_
      refine lv_iconst (v := 0) hx hb d_Par_condition_44 (by decide) ?_
      obtain ⟨hv10, hok⟩ := hok
      obtain ⟨r14, hr14⟩ : ∃ r, (s_Cond_add g_script_conditions_a_steps g_script_conditions_a_values w2_script_conditions_h 15 0) = r := ⟨_, rfl⟩
      try simp only [hr14] at hok
      have hC_r14 := (c_Cond_add l G script_conditions_h script_conditions_a_steps script_conditions_a_values script_conditions_a_stack script_conditions_a_holding g_script_conditions_a_steps g_script_conditions_a_values w2_script_conditions_h script_conditions__height 15 0 hv10)
      rw [hr14] at hC_r14
      refine ly_callV (rest := []) (wf := [(h, .inr (11, [.ref script_h, .ref script_tokens_h, .ref script_conditions_h, .int w3_h, .int w4_h])), (script_h, .inr (10, [.ref script_tokens_h, .ref script_conditions_h, .ref script_a_questions, .int script__asked, .ref script_a_letStarts, .ref script_a_letEnds, .ref script_a_letOfLetter, .int script__lets])), (script_tokens_h, .inr (7, [.ref script_tokens_a_kinds, .ref script_tokens_a_values, .ref script_tokens_a_places, .int script_tokens__size])), (script_tokens_a_kinds, .inl (gI G, 2001, .inl script_tokens_f_kinds)), (script_tokens_a_values, .inl (gI G, 2001, .inl script_tokens_f_values)), (script_conditions_h, .inr (8, [.ref script_conditions_a_steps, .ref script_conditions_a_values, .int r14.1, .ref script_conditions_a_stack, .int script_conditions__height, .ref script_conditions_a_holding])), (script_conditions_a_steps, .inl (gI G, 2000, .inl r14.2.1)), (script_conditions_a_values, .inl (gI G, 2000, .inl r14.2.2)), (script_a_letOfLetter, .inl (gI G, 26, .inl script_f_letOfLetter))]) ⟨hx, hb, hml, hown, hts⟩ hA hK hZ hP hD hS hC_r14 (cwV 2 hts g_Par_143 rfl rfl rfl (by decide +kernel) ⟨by simp only [rmD]; omega, by simp only [rmD]; omega⟩) (ci := 8) (q0 := 5) rfl rfl rfl [5, 6, 7] rfl (by decide) rfl rfl rfl hl.1 rfl (Nat.le_of_ble_eq_true rfl) d_Par_condition_45 ⟨Nat.le_of_ble_eq_true rfl, Nat.le_of_ble_eq_true rfl⟩ (st1 := []) (c1 := 0) (s1 := 0) rfl rfl rfl (fun H locs hP hD hS => ?_)
      refine lv_iload hx hb d_Par_condition_48 (lv_at hl 0 rfl) ?_
      refine lv_bipush (v := 14) hx hb d_Par_condition_50 (by decide) ?_
      refine lv_icmp_eq (tgt := 64) hx hb d_Par_condition_52 (by decide) (fun c20 => ?_) (fun c20 => ?_)
      · skip
        rw [if_pos c20] at hok
        refine lv_aload_n hx hb d_Par_condition_64 rfl (lv_at hl 3 rfl) ?_
        obtain ⟨r15, hr15⟩ : ∃ r, (s_Par_takeJoint w3_h w4_h) = r := ⟨_, rfl⟩
        try simp only [hr15] at hok
        have hC_r15 := (c_Par_takeJoint l G h script_h script_tokens_h script_conditions_h w3_h w4_h)
        rw [hr15] at hC_r15
        have hf_r15_1 : isB r15.1 := by rw [← hr15]; exact z_Par_takeJoint
        refine ly_callV (rest := []) (wf := [(h, .inr (11, [.ref script_h, .ref script_tokens_h, .ref script_conditions_h, .int r15.2.1, .int r15.2.2])), (script_h, .inr (10, [.ref script_tokens_h, .ref script_conditions_h, .ref script_a_questions, .int script__asked, .ref script_a_letStarts, .ref script_a_letEnds, .ref script_a_letOfLetter, .int script__lets])), (script_tokens_h, .inr (7, [.ref script_tokens_a_kinds, .ref script_tokens_a_values, .ref script_tokens_a_places, .int script_tokens__size])), (script_tokens_a_kinds, .inl (gI G, 2001, .inl script_tokens_f_kinds)), (script_tokens_a_values, .inl (gI G, 2001, .inl script_tokens_f_values)), (script_conditions_h, .inr (8, [.ref script_conditions_a_steps, .ref script_conditions_a_values, .int r14.1, .ref script_conditions_a_stack, .int script_conditions__height, .ref script_conditions_a_holding])), (script_conditions_a_steps, .inl (gI G, 2000, .inl r14.2.1)), (script_conditions_a_values, .inl (gI G, 2000, .inl r14.2.2)), (script_a_letOfLetter, .inl (gI G, 26, .inl script_f_letOfLetter))]) ⟨hx, hb, hml, hown, hts⟩ hA hK hZ hP hD hS hC_r15 (cwV 0 hts g_Par_146 rfl rfl rfl (by decide +kernel) ⟨by simp only [rmD]; omega, by simp only [rmD]; omega⟩) (ci := 11) (q0 := 0) rfl rfl rfl [0] rfl (by decide) rfl rfl rfl hl.1 rfl (Nat.le_of_ble_eq_true rfl) d_Par_condition_65 ⟨Nat.le_of_ble_eq_true rfl, Nat.le_of_ble_eq_true rfl⟩ (st1 := [.int r15.1]) (c1 := 0) (s1 := 0) rfl rfl rfl (fun H locs hP hD hS => ?_)
        refine lv_if_eq (tgt := 79) hx hb d_Par_condition_68 (by decide) (fun c21 => ?_) (fun c21 => ?_)
        · skip
          rw [if_pos c21] at hok
          refine lv_iconst (v := 0) hx hb d_Par_condition_79 (by decide) ?_
          exact ly_zret hx hb hr hlocks hP hD hS d_Par_condition_80 (by decide) (by rw [lp_Par_condition_14] <;> simp only [hr1, hr14, hr15] <;> rw [if_neg c1, if_neg c2, if_neg c11, if_pos c20, if_pos c21]) (by rw [lp_Par_condition_14] <;> simp only [hr1, hr14, hr15] <;> rw [if_neg c1, if_neg c2, if_neg c11, if_pos c20, if_pos c21])
        rw [if_neg c21] at hok
        refine lv_aload_n hx hb d_Par_condition_71 rfl (lv_at hl 3 rfl) ?_
        refine lv_iload_n hx hb d_Par_condition_72 rfl (lv_at hl 4 rfl) ?_
        obtain ⟨hv11, hok⟩ := hok
        obtain ⟨r16, hr16⟩ : ∃ r, (tru script_tokens_f_kinds script_tokens_f_values r14.2.1 r14.2.2 r14.1 script_f_letOfLetter r15.2.1 r15.2.2 x) = r := ⟨_, rfl⟩
        try simp only [hr16] at hok
        have hC_r16 := (htru h script_h script_tokens_h script_tokens_a_kinds script_tokens_a_values script_tokens_a_places script_conditions_h script_conditions_a_steps script_conditions_a_values script_conditions_a_stack script_conditions_a_holding script_a_questions script_a_letStarts script_a_letEnds script_a_letOfLetter script_tokens_f_kinds script_tokens_f_values script_tokens__size r14.2.1 r14.2.2 r14.1 script_conditions__height script__asked script_f_letOfLetter script__lets r15.2.1 r15.2.2 x hv11)
        rw [hr16] at hC_r16
        have hf_r16_1 : isB r16.1 := by rw [← hr16]; exact ztru
        have hc_ : ∀ (x0_ x1_ x2_ x3_ x4_ x5_ x6_ x7_ x8_ : Nat × va_E) (t_ : va_W), List.map (fun i => (x0_ :: x1_ :: x2_ :: x3_ :: x4_ :: x5_ :: x6_ :: x7_ :: x8_ :: t_)[i]?) [0, 1, 2, 3, 4, 5, 6, 7, 8] = List.map some [x0_, x1_, x2_, x3_, x4_, x5_, x6_, x7_, x8_] := fun _ _ _ _ _ _ _ _ _ _ => rfl
        have hf_ : ∀ (x0_ x1_ x2_ x3_ x4_ x5_ x6_ x7_ x8_ y0_ y1_ y2_ y3_ y4_ y5_ y6_ y7_ y8_ : Nat × va_E) (t_ : va_W), setAll (x0_ :: x1_ :: x2_ :: x3_ :: x4_ :: x5_ :: x6_ :: x7_ :: x8_ :: t_) [0, 1, 2, 3, 4, 5, 6, 7, 8] [y0_, y1_, y2_, y3_, y4_, y5_, y6_, y7_, y8_] = y0_ :: y1_ :: y2_ :: y3_ :: y4_ :: y5_ :: y6_ :: y7_ :: y8_ :: t_ := fun _ _ _ _ _ _ _ _ _ _ _ _ _ _ _ _ _ _ _ => Eq.trans (setAll_M (bs := [true, true, true, true, true, true, true, true, true]) trivial rfl) rfl
        refine ly_callV (rest := []) (wf := [(h, .inr (11, [.ref script_h, .ref script_tokens_h, .ref script_conditions_h, .int r16.2.1, .int r16.2.2.1])), (script_h, .inr (10, [.ref script_tokens_h, .ref script_conditions_h, .ref script_a_questions, .int script__asked, .ref script_a_letStarts, .ref script_a_letEnds, .ref script_a_letOfLetter, .int script__lets])), (script_tokens_h, .inr (7, [.ref script_tokens_a_kinds, .ref script_tokens_a_values, .ref script_tokens_a_places, .int script_tokens__size])), (script_tokens_a_kinds, .inl (gI G, 2001, .inl script_tokens_f_kinds)), (script_tokens_a_values, .inl (gI G, 2001, .inl script_tokens_f_values)), (script_conditions_h, .inr (8, [.ref script_conditions_a_steps, .ref script_conditions_a_values, .int r16.2.2.2.1, .ref script_conditions_a_stack, .int script_conditions__height, .ref script_conditions_a_holding])), (script_conditions_a_steps, .inl (gI G, 2000, .inl r16.2.2.2.2.1)), (script_conditions_a_values, .inl (gI G, 2000, .inl r16.2.2.2.2.2)), (script_a_letOfLetter, .inl (gI G, 26, .inl script_f_letOfLetter))]) ⟨hx, hb, hml, hown, hts⟩ hA hK hZ hP hD hS hC_r16 (cwV 1 hts g_Par_138 rfl rfl rfl (by decide +kernel) ⟨by simp only [rmD]; omega, by simp only [rmD]; omega⟩) (ci := 11) (q0 := 0) rfl rfl rfl [0, 1, 2, 3, 4, 5, 6, 7, 8] (hc_ _ _ _ _ _ _ _ _ _ _) (by decide) rfl (hf_ _ _ _ _ _ _ _ _ _ _ _ _ _ _ _ _ _ _ _) rfl hl.1 rfl (Nat.le_of_ble_eq_true rfl) d_Par_condition_73 ⟨Nat.le_of_ble_eq_true rfl, Nat.le_of_ble_eq_true rfl⟩ (st1 := [.int r16.1]) (c1 := 0) (s1 := 0) rfl rfl rfl (fun H locs hP hD hS => ?_)
        refine lv_if_ne (tgt := 81) hx hb d_Par_condition_76 (by decide) (fun c22 => ?_) (fun c22 => ?_)
        · skip
          rw [if_neg c22] at hok
          refine lv_iload hx hb d_Par_condition_81 (lv_at hl 0 rfl) ?_
          refine lv_bipush (v := 14) hx hb d_Par_condition_83 (by decide) ?_
          refine lv_icmp_ne (tgt := 101) hx hb d_Par_condition_85 (by decide) (fun c23 => ?_) (fun c23 => ?_)
          · skip
            rw [if_neg c23] at hok
            refine lv_iconst (v := 1) hx hb d_Par_condition_101 (by decide) ?_
            refine lv_istore_n (lv' := [(2, .int 1), (4, .int r1), (3, .int i3), (0, .ref h), (1, .int x)]) hx hb d_Par_condition_102 rfl hl (by decide) rfl (fun ls hl => ?_)
            refine lv_iinc (v := i3 + 1) (lv' := [(3, .int (i3 + 1)), (2, .int 1), (4, .int r1), (0, .ref h), (1, .int x)]) hx hb d_Par_condition_103 hl (k := 2) rfl (by rfl) (by decide) rfl (fun ls hl => ?_)
            refine lv_goto (tgt := 14) hx hb d_Par_condition_106 (by decide) ?_
            have e_ : (lp_Par_condition_14 tru script_tokens_f_kinds script_tokens_f_values script_f_letOfLetter x (n + 1) i2 i3 w3_h w4_h w2_script_conditions_h g_script_conditions_a_steps g_script_conditions_a_values) = (lp_Par_condition_14 tru script_tokens_f_kinds script_tokens_f_values script_f_letOfLetter x n (1 : Int32) (i3 + 1) r16.2.1 r16.2.2.1 r16.2.2.2.1 r16.2.2.2.2.1 r16.2.2.2.2.2) := (by rw [lp_Par_condition_14] <;> simp only [hr1, hr14, hr15, hr16] <;> rw [if_neg c1, if_neg c2, if_neg c11, if_pos c20, if_neg c21, if_neg c22, if_neg c23])
            rw [e_]
            exact ih (1 : Int32) (i3 + 1) r16.2.1 r16.2.2.1 r16.2.2.2.1 r16.2.2.2.2.1 r16.2.2.2.2.2 hok _ _ _ hP hD hS (lv_sub hl [0, 1, 3, 4] rfl)
          rw [if_pos c23] at hok
          refine lv_aload_n hx hb d_Par_condition_88 rfl (lv_at hl 3 rfl) ?_
          refine va_get (D := G.1) (ci := 11) (C := R_Par) (T := F_Par) (N := 5) (v := .ref script_conditions_h) hx hb hts i_Par hown hK hP 0 rfl rfl 2 (by decide) (hts (.fieldLink R_Par 26 "PrivateQueries$Parser" "conditions" "LPrivateQueries$Conditions;") k_755) (fun _ h9 => h9) rfl d_Par_condition_89 ?_
          refine lv_bipush (v := 14) hx hb d_Par_condition_92 (by decide) ?_
          refine lv_iconst (v := 0) hx hb d_Par_condition_94 (by decide) ?_
          obtain ⟨hv12, hok⟩ := hok
          obtain ⟨r17, hr17⟩ : ∃ r, (s_Cond_add r16.2.2.2.2.1 r16.2.2.2.2.2 r16.2.2.2.1 14 0) = r := ⟨_, rfl⟩
          try simp only [hr17] at hok
          have hC_r17 := (c_Cond_add l G script_conditions_h script_conditions_a_steps script_conditions_a_values script_conditions_a_stack script_conditions_a_holding r16.2.2.2.2.1 r16.2.2.2.2.2 r16.2.2.2.1 script_conditions__height 14 0 hv12)
          rw [hr17] at hC_r17
          refine ly_callV (rest := []) (wf := [(h, .inr (11, [.ref script_h, .ref script_tokens_h, .ref script_conditions_h, .int r16.2.1, .int r16.2.2.1])), (script_h, .inr (10, [.ref script_tokens_h, .ref script_conditions_h, .ref script_a_questions, .int script__asked, .ref script_a_letStarts, .ref script_a_letEnds, .ref script_a_letOfLetter, .int script__lets])), (script_tokens_h, .inr (7, [.ref script_tokens_a_kinds, .ref script_tokens_a_values, .ref script_tokens_a_places, .int script_tokens__size])), (script_tokens_a_kinds, .inl (gI G, 2001, .inl script_tokens_f_kinds)), (script_tokens_a_values, .inl (gI G, 2001, .inl script_tokens_f_values)), (script_conditions_h, .inr (8, [.ref script_conditions_a_steps, .ref script_conditions_a_values, .int r17.1, .ref script_conditions_a_stack, .int script_conditions__height, .ref script_conditions_a_holding])), (script_conditions_a_steps, .inl (gI G, 2000, .inl r17.2.1)), (script_conditions_a_values, .inl (gI G, 2000, .inl r17.2.2)), (script_a_letOfLetter, .inl (gI G, 26, .inl script_f_letOfLetter))]) ⟨hx, hb, hml, hown, hts⟩ hA hK hZ hP hD hS hC_r17 (cwV 2 hts g_Par_143 rfl rfl rfl (by decide +kernel) ⟨by simp only [rmD]; omega, by simp only [rmD]; omega⟩) (ci := 8) (q0 := 5) rfl rfl rfl [5, 6, 7] rfl (by decide) rfl rfl rfl hl.1 rfl (Nat.le_of_ble_eq_true rfl) d_Par_condition_95 ⟨Nat.le_of_ble_eq_true rfl, Nat.le_of_ble_eq_true rfl⟩ (st1 := []) (c1 := 0) (s1 := 0) rfl rfl rfl (fun H locs hP hD hS => ?_)
          refine lv_goto (tgt := 103) hx hb d_Par_condition_98 (by decide) ?_
          refine lv_iinc (v := i3 + 1) (lv' := [(3, .int (i3 + 1)), (4, .int r1), (2, .int i2), (0, .ref h), (1, .int x)]) hx hb d_Par_condition_103 hl (k := 1) rfl (by rfl) (by decide) rfl (fun ls hl => ?_)
          refine lv_goto (tgt := 14) hx hb d_Par_condition_106 (by decide) ?_
          have e_ : (lp_Par_condition_14 tru script_tokens_f_kinds script_tokens_f_values script_f_letOfLetter x (n + 1) i2 i3 w3_h w4_h w2_script_conditions_h g_script_conditions_a_steps g_script_conditions_a_values) = (lp_Par_condition_14 tru script_tokens_f_kinds script_tokens_f_values script_f_letOfLetter x n i2 (i3 + 1) r16.2.1 r16.2.2.1 r17.1 r17.2.1 r17.2.2) := (by rw [lp_Par_condition_14] <;> simp only [hr1, hr14, hr15, hr16, hr17] <;> rw [if_neg c1, if_neg c2, if_neg c11, if_pos c20, if_neg c21, if_neg c22, if_pos c23])
          rw [e_]
          exact ih i2 (i3 + 1) r16.2.1 r16.2.2.1 r17.1 r17.2.1 r17.2.2 hok _ _ _ hP hD hS (lv_sub hl [0, 2, 3, 4] rfl)
        rw [if_pos c22] at hok
        refine lv_iconst (v := 0) hx hb d_Par_condition_79 (by decide) ?_
        exact ly_zret hx hb hr hlocks hP hD hS d_Par_condition_80 (by decide) (by rw [lp_Par_condition_14] <;> simp only [hr1, hr14, hr15, hr16] <;> rw [if_neg c1, if_neg c2, if_neg c11, if_pos c20, if_neg c21, if_pos c22]) (by rw [lp_Par_condition_14] <;> simp only [hr1, hr14, hr15, hr16] <;> rw [if_neg c1, if_neg c2, if_neg c11, if_pos c20, if_neg c21, if_pos c22])
      rw [if_neg c20] at hok
      refine lv_iload hx hb d_Par_condition_55 (lv_at hl 0 rfl) ?_
      refine lv_bipush (v := 15) hx hb d_Par_condition_57 (by decide) ?_
      refine lv_icmp_eq (tgt := 64) hx hb d_Par_condition_59 (by decide) (fun c24 => ?_) (fun c24 => ?_)
      · skip
        rw [if_pos c24] at hok
        refine lv_aload_n hx hb d_Par_condition_64 rfl (lv_at hl 3 rfl) ?_
        obtain ⟨r18, hr18⟩ : ∃ r, (s_Par_takeJoint w3_h w4_h) = r := ⟨_, rfl⟩
        try simp only [hr18] at hok
        have hC_r18 := (c_Par_takeJoint l G h script_h script_tokens_h script_conditions_h w3_h w4_h)
        rw [hr18] at hC_r18
        have hf_r18_1 : isB r18.1 := by rw [← hr18]; exact z_Par_takeJoint
        refine ly_callV (rest := []) (wf := [(h, .inr (11, [.ref script_h, .ref script_tokens_h, .ref script_conditions_h, .int r18.2.1, .int r18.2.2])), (script_h, .inr (10, [.ref script_tokens_h, .ref script_conditions_h, .ref script_a_questions, .int script__asked, .ref script_a_letStarts, .ref script_a_letEnds, .ref script_a_letOfLetter, .int script__lets])), (script_tokens_h, .inr (7, [.ref script_tokens_a_kinds, .ref script_tokens_a_values, .ref script_tokens_a_places, .int script_tokens__size])), (script_tokens_a_kinds, .inl (gI G, 2001, .inl script_tokens_f_kinds)), (script_tokens_a_values, .inl (gI G, 2001, .inl script_tokens_f_values)), (script_conditions_h, .inr (8, [.ref script_conditions_a_steps, .ref script_conditions_a_values, .int r14.1, .ref script_conditions_a_stack, .int script_conditions__height, .ref script_conditions_a_holding])), (script_conditions_a_steps, .inl (gI G, 2000, .inl r14.2.1)), (script_conditions_a_values, .inl (gI G, 2000, .inl r14.2.2)), (script_a_letOfLetter, .inl (gI G, 26, .inl script_f_letOfLetter))]) ⟨hx, hb, hml, hown, hts⟩ hA hK hZ hP hD hS hC_r18 (cwV 0 hts g_Par_146 rfl rfl rfl (by decide +kernel) ⟨by simp only [rmD]; omega, by simp only [rmD]; omega⟩) (ci := 11) (q0 := 0) rfl rfl rfl [0] rfl (by decide) rfl rfl rfl hl.1 rfl (Nat.le_of_ble_eq_true rfl) d_Par_condition_65 ⟨Nat.le_of_ble_eq_true rfl, Nat.le_of_ble_eq_true rfl⟩ (st1 := [.int r18.1]) (c1 := 0) (s1 := 0) rfl rfl rfl (fun H locs hP hD hS => ?_)
        refine lv_if_eq (tgt := 79) hx hb d_Par_condition_68 (by decide) (fun c25 => ?_) (fun c25 => ?_)
        · skip
          rw [if_pos c25] at hok
          refine lv_iconst (v := 0) hx hb d_Par_condition_79 (by decide) ?_
          exact ly_zret hx hb hr hlocks hP hD hS d_Par_condition_80 (by decide) (by rw [lp_Par_condition_14] <;> simp only [hr1, hr14, hr18] <;> rw [if_neg c1, if_neg c2, if_neg c11, if_neg c20, if_pos c24, if_pos c25]) (by rw [lp_Par_condition_14] <;> simp only [hr1, hr14, hr18] <;> rw [if_neg c1, if_neg c2, if_neg c11, if_neg c20, if_pos c24, if_pos c25])
        rw [if_neg c25] at hok
        refine lv_aload_n hx hb d_Par_condition_71 rfl (lv_at hl 3 rfl) ?_
        refine lv_iload_n hx hb d_Par_condition_72 rfl (lv_at hl 4 rfl) ?_
        obtain ⟨hv13, hok⟩ := hok
        obtain ⟨r19, hr19⟩ : ∃ r, (tru script_tokens_f_kinds script_tokens_f_values r14.2.1 r14.2.2 r14.1 script_f_letOfLetter r18.2.1 r18.2.2 x) = r := ⟨_, rfl⟩
        try simp only [hr19] at hok
        have hC_r19 := (htru h script_h script_tokens_h script_tokens_a_kinds script_tokens_a_values script_tokens_a_places script_conditions_h script_conditions_a_steps script_conditions_a_values script_conditions_a_stack script_conditions_a_holding script_a_questions script_a_letStarts script_a_letEnds script_a_letOfLetter script_tokens_f_kinds script_tokens_f_values script_tokens__size r14.2.1 r14.2.2 r14.1 script_conditions__height script__asked script_f_letOfLetter script__lets r18.2.1 r18.2.2 x hv13)
        rw [hr19] at hC_r19
        have hf_r19_1 : isB r19.1 := by rw [← hr19]; exact ztru
        have hc_ : ∀ (x0_ x1_ x2_ x3_ x4_ x5_ x6_ x7_ x8_ : Nat × va_E) (t_ : va_W), List.map (fun i => (x0_ :: x1_ :: x2_ :: x3_ :: x4_ :: x5_ :: x6_ :: x7_ :: x8_ :: t_)[i]?) [0, 1, 2, 3, 4, 5, 6, 7, 8] = List.map some [x0_, x1_, x2_, x3_, x4_, x5_, x6_, x7_, x8_] := fun _ _ _ _ _ _ _ _ _ _ => rfl
        have hf_ : ∀ (x0_ x1_ x2_ x3_ x4_ x5_ x6_ x7_ x8_ y0_ y1_ y2_ y3_ y4_ y5_ y6_ y7_ y8_ : Nat × va_E) (t_ : va_W), setAll (x0_ :: x1_ :: x2_ :: x3_ :: x4_ :: x5_ :: x6_ :: x7_ :: x8_ :: t_) [0, 1, 2, 3, 4, 5, 6, 7, 8] [y0_, y1_, y2_, y3_, y4_, y5_, y6_, y7_, y8_] = y0_ :: y1_ :: y2_ :: y3_ :: y4_ :: y5_ :: y6_ :: y7_ :: y8_ :: t_ := fun _ _ _ _ _ _ _ _ _ _ _ _ _ _ _ _ _ _ _ => Eq.trans (setAll_M (bs := [true, true, true, true, true, true, true, true, true]) trivial rfl) rfl
        refine ly_callV (rest := []) (wf := [(h, .inr (11, [.ref script_h, .ref script_tokens_h, .ref script_conditions_h, .int r19.2.1, .int r19.2.2.1])), (script_h, .inr (10, [.ref script_tokens_h, .ref script_conditions_h, .ref script_a_questions, .int script__asked, .ref script_a_letStarts, .ref script_a_letEnds, .ref script_a_letOfLetter, .int script__lets])), (script_tokens_h, .inr (7, [.ref script_tokens_a_kinds, .ref script_tokens_a_values, .ref script_tokens_a_places, .int script_tokens__size])), (script_tokens_a_kinds, .inl (gI G, 2001, .inl script_tokens_f_kinds)), (script_tokens_a_values, .inl (gI G, 2001, .inl script_tokens_f_values)), (script_conditions_h, .inr (8, [.ref script_conditions_a_steps, .ref script_conditions_a_values, .int r19.2.2.2.1, .ref script_conditions_a_stack, .int script_conditions__height, .ref script_conditions_a_holding])), (script_conditions_a_steps, .inl (gI G, 2000, .inl r19.2.2.2.2.1)), (script_conditions_a_values, .inl (gI G, 2000, .inl r19.2.2.2.2.2)), (script_a_letOfLetter, .inl (gI G, 26, .inl script_f_letOfLetter))]) ⟨hx, hb, hml, hown, hts⟩ hA hK hZ hP hD hS hC_r19 (cwV 1 hts g_Par_138 rfl rfl rfl (by decide +kernel) ⟨by simp only [rmD]; omega, by simp only [rmD]; omega⟩) (ci := 11) (q0 := 0) rfl rfl rfl [0, 1, 2, 3, 4, 5, 6, 7, 8] (hc_ _ _ _ _ _ _ _ _ _ _) (by decide) rfl (hf_ _ _ _ _ _ _ _ _ _ _ _ _ _ _ _ _ _ _ _) rfl hl.1 rfl (Nat.le_of_ble_eq_true rfl) d_Par_condition_73 ⟨Nat.le_of_ble_eq_true rfl, Nat.le_of_ble_eq_true rfl⟩ (st1 := [.int r19.1]) (c1 := 0) (s1 := 0) rfl rfl rfl (fun H locs hP hD hS => ?_)
        refine lv_if_ne (tgt := 81) hx hb d_Par_condition_76 (by decide) (fun c26 => ?_) (fun c26 => ?_)
        · skip
          rw [if_neg c26] at hok
          refine lv_iload hx hb d_Par_condition_81 (lv_at hl 0 rfl) ?_
          refine lv_bipush (v := 14) hx hb d_Par_condition_83 (by decide) ?_
          refine lv_icmp_ne (tgt := 101) hx hb d_Par_condition_85 (by decide) (fun c27 => ?_) (fun c27 => ?_)
          · skip
            rw [if_neg c27] at hok
            refine lv_iconst (v := 1) hx hb d_Par_condition_101 (by decide) ?_
            refine lv_istore_n (lv' := [(2, .int 1), (4, .int r1), (3, .int i3), (0, .ref h), (1, .int x)]) hx hb d_Par_condition_102 rfl hl (by decide) rfl (fun ls hl => ?_)
            refine lv_iinc (v := i3 + 1) (lv' := [(3, .int (i3 + 1)), (2, .int 1), (4, .int r1), (0, .ref h), (1, .int x)]) hx hb d_Par_condition_103 hl (k := 2) rfl (by rfl) (by decide) rfl (fun ls hl => ?_)
            refine lv_goto (tgt := 14) hx hb d_Par_condition_106 (by decide) ?_
            have e_ : (lp_Par_condition_14 tru script_tokens_f_kinds script_tokens_f_values script_f_letOfLetter x (n + 1) i2 i3 w3_h w4_h w2_script_conditions_h g_script_conditions_a_steps g_script_conditions_a_values) = (lp_Par_condition_14 tru script_tokens_f_kinds script_tokens_f_values script_f_letOfLetter x n (1 : Int32) (i3 + 1) r19.2.1 r19.2.2.1 r19.2.2.2.1 r19.2.2.2.2.1 r19.2.2.2.2.2) := (by rw [lp_Par_condition_14] <;> simp only [hr1, hr14, hr18, hr19] <;> rw [if_neg c1, if_neg c2, if_neg c11, if_neg c20, if_pos c24, if_neg c25, if_neg c26, if_neg c27])
            rw [e_]
            exact ih (1 : Int32) (i3 + 1) r19.2.1 r19.2.2.1 r19.2.2.2.1 r19.2.2.2.2.1 r19.2.2.2.2.2 hok _ _ _ hP hD hS (lv_sub hl [0, 1, 3, 4] rfl)
          rw [if_pos c27] at hok
          refine lv_aload_n hx hb d_Par_condition_88 rfl (lv_at hl 3 rfl) ?_
          refine va_get (D := G.1) (ci := 11) (C := R_Par) (T := F_Par) (N := 5) (v := .ref script_conditions_h) hx hb hts i_Par hown hK hP 0 rfl rfl 2 (by decide) (hts (.fieldLink R_Par 26 "PrivateQueries$Parser" "conditions" "LPrivateQueries$Conditions;") k_755) (fun _ h9 => h9) rfl d_Par_condition_89 ?_
          refine lv_bipush (v := 14) hx hb d_Par_condition_92 (by decide) ?_
          refine lv_iconst (v := 0) hx hb d_Par_condition_94 (by decide) ?_
          obtain ⟨hv14, hok⟩ := hok
          obtain ⟨r20, hr20⟩ : ∃ r, (s_Cond_add r19.2.2.2.2.1 r19.2.2.2.2.2 r19.2.2.2.1 14 0) = r := ⟨_, rfl⟩
          try simp only [hr20] at hok
          have hC_r20 := (c_Cond_add l G script_conditions_h script_conditions_a_steps script_conditions_a_values script_conditions_a_stack script_conditions_a_holding r19.2.2.2.2.1 r19.2.2.2.2.2 r19.2.2.2.1 script_conditions__height 14 0 hv14)
          rw [hr20] at hC_r20
          refine ly_callV (rest := []) (wf := [(h, .inr (11, [.ref script_h, .ref script_tokens_h, .ref script_conditions_h, .int r19.2.1, .int r19.2.2.1])), (script_h, .inr (10, [.ref script_tokens_h, .ref script_conditions_h, .ref script_a_questions, .int script__asked, .ref script_a_letStarts, .ref script_a_letEnds, .ref script_a_letOfLetter, .int script__lets])), (script_tokens_h, .inr (7, [.ref script_tokens_a_kinds, .ref script_tokens_a_values, .ref script_tokens_a_places, .int script_tokens__size])), (script_tokens_a_kinds, .inl (gI G, 2001, .inl script_tokens_f_kinds)), (script_tokens_a_values, .inl (gI G, 2001, .inl script_tokens_f_values)), (script_conditions_h, .inr (8, [.ref script_conditions_a_steps, .ref script_conditions_a_values, .int r20.1, .ref script_conditions_a_stack, .int script_conditions__height, .ref script_conditions_a_holding])), (script_conditions_a_steps, .inl (gI G, 2000, .inl r20.2.1)), (script_conditions_a_values, .inl (gI G, 2000, .inl r20.2.2)), (script_a_letOfLetter, .inl (gI G, 26, .inl script_f_letOfLetter))]) ⟨hx, hb, hml, hown, hts⟩ hA hK hZ hP hD hS hC_r20 (cwV 2 hts g_Par_143 rfl rfl rfl (by decide +kernel) ⟨by simp only [rmD]; omega, by simp only [rmD]; omega⟩) (ci := 8) (q0 := 5) rfl rfl rfl [5, 6, 7] rfl (by decide) rfl rfl rfl hl.1 rfl (Nat.le_of_ble_eq_true rfl) d_Par_condition_95 ⟨Nat.le_of_ble_eq_true rfl, Nat.le_of_ble_eq_true rfl⟩ (st1 := []) (c1 := 0) (s1 := 0) rfl rfl rfl (fun H locs hP hD hS => ?_)
          refine lv_goto (tgt := 103) hx hb d_Par_condition_98 (by decide) ?_
          refine lv_iinc (v := i3 + 1) (lv' := [(3, .int (i3 + 1)), (4, .int r1), (2, .int i2), (0, .ref h), (1, .int x)]) hx hb d_Par_condition_103 hl (k := 1) rfl (by rfl) (by decide) rfl (fun ls hl => ?_)
          refine lv_goto (tgt := 14) hx hb d_Par_condition_106 (by decide) ?_
          have e_ : (lp_Par_condition_14 tru script_tokens_f_kinds script_tokens_f_values script_f_letOfLetter x (n + 1) i2 i3 w3_h w4_h w2_script_conditions_h g_script_conditions_a_steps g_script_conditions_a_values) = (lp_Par_condition_14 tru script_tokens_f_kinds script_tokens_f_values script_f_letOfLetter x n i2 (i3 + 1) r19.2.1 r19.2.2.1 r20.1 r20.2.1 r20.2.2) := (by rw [lp_Par_condition_14] <;> simp only [hr1, hr14, hr18, hr19, hr20] <;> rw [if_neg c1, if_neg c2, if_neg c11, if_neg c20, if_pos c24, if_neg c25, if_neg c26, if_pos c27])
          rw [e_]
          exact ih i2 (i3 + 1) r19.2.1 r19.2.2.1 r20.1 r20.2.1 r20.2.2 hok _ _ _ hP hD hS (lv_sub hl [0, 2, 3, 4] rfl)
        rw [if_pos c26] at hok
        refine lv_iconst (v := 0) hx hb d_Par_condition_79 (by decide) ?_
        exact ly_zret hx hb hr hlocks hP hD hS d_Par_condition_80 (by decide) (by rw [lp_Par_condition_14] <;> simp only [hr1, hr14, hr18, hr19] <;> rw [if_neg c1, if_neg c2, if_neg c11, if_neg c20, if_pos c24, if_neg c25, if_pos c26]) (by rw [lp_Par_condition_14] <;> simp only [hr1, hr14, hr18, hr19] <;> rw [if_neg c1, if_neg c2, if_neg c11, if_neg c20, if_pos c24, if_neg c25, if_pos c26])
      rw [if_neg c24] at hok
      refine lv_iconst (v := 1) hx hb d_Par_condition_62 (by decide) ?_
      exact ly_zret hx hb hr hlocks hP hD hS d_Par_condition_63 (by decide) (by rw [lp_Par_condition_14] <;> simp only [hr1, hr14] <;> rw [if_neg c1, if_neg c2, if_neg c11, if_neg c20, if_neg c24]) (by rw [lp_Par_condition_14] <;> simp only [hr1, hr14] <;> rw [if_neg c1, if_neg c2, if_neg c11, if_neg c20, if_neg c24])
  have hl : lv_has ls 5 [(0, .ref h), (1, .int x)] := hl
  rw [ok_Par_condition] at hok
  refine lv_aload_n hx hb d_Par_condition_0 rfl (lv_at hl 0 rfl) ?_
  refine lv_iload_n hx hb d_Par_condition_1 rfl (lv_at hl 1 rfl) ?_
  obtain ⟨hv1, hok⟩ := hok
  obtain ⟨r1, hr1⟩ : ∃ r, (tru script_tokens_f_kinds script_tokens_f_values script_conditions_f_steps script_conditions_f_values script_conditions__size script_f_letOfLetter v_at v_joints x) = r := ⟨_, rfl⟩
  try simp only [hr1] at hok
  have hC_r1 := (htru h script_h script_tokens_h script_tokens_a_kinds script_tokens_a_values script_tokens_a_places script_conditions_h script_conditions_a_steps script_conditions_a_values script_conditions_a_stack script_conditions_a_holding script_a_questions script_a_letStarts script_a_letEnds script_a_letOfLetter script_tokens_f_kinds script_tokens_f_values script_tokens__size script_conditions_f_steps script_conditions_f_values script_conditions__size script_conditions__height script__asked script_f_letOfLetter script__lets v_at v_joints x hv1)
  rw [hr1] at hC_r1
  have hf_r1_1 : isB r1.1 := by rw [← hr1]; exact ztru
  have hc_ : ∀ (x0_ x1_ x2_ x3_ x4_ x5_ x6_ x7_ x8_ : Nat × va_E) (t_ : va_W), List.map (fun i => (x0_ :: x1_ :: x2_ :: x3_ :: x4_ :: x5_ :: x6_ :: x7_ :: x8_ :: t_)[i]?) [0, 1, 2, 3, 4, 5, 6, 7, 8] = List.map some [x0_, x1_, x2_, x3_, x4_, x5_, x6_, x7_, x8_] := fun _ _ _ _ _ _ _ _ _ _ => rfl
  have hf_ : ∀ (x0_ x1_ x2_ x3_ x4_ x5_ x6_ x7_ x8_ y0_ y1_ y2_ y3_ y4_ y5_ y6_ y7_ y8_ : Nat × va_E) (t_ : va_W), setAll (x0_ :: x1_ :: x2_ :: x3_ :: x4_ :: x5_ :: x6_ :: x7_ :: x8_ :: t_) [0, 1, 2, 3, 4, 5, 6, 7, 8] [y0_, y1_, y2_, y3_, y4_, y5_, y6_, y7_, y8_] = y0_ :: y1_ :: y2_ :: y3_ :: y4_ :: y5_ :: y6_ :: y7_ :: y8_ :: t_ := fun _ _ _ _ _ _ _ _ _ _ _ _ _ _ _ _ _ _ _ => Eq.trans (setAll_M (bs := [true, true, true, true, true, true, true, true, true]) trivial rfl) rfl
  refine ly_callV (rest := []) (wf := [(h, .inr (11, [.ref script_h, .ref script_tokens_h, .ref script_conditions_h, .int r1.2.1, .int r1.2.2.1])), (script_h, .inr (10, [.ref script_tokens_h, .ref script_conditions_h, .ref script_a_questions, .int script__asked, .ref script_a_letStarts, .ref script_a_letEnds, .ref script_a_letOfLetter, .int script__lets])), (script_tokens_h, .inr (7, [.ref script_tokens_a_kinds, .ref script_tokens_a_values, .ref script_tokens_a_places, .int script_tokens__size])), (script_tokens_a_kinds, .inl (gI G, 2001, .inl script_tokens_f_kinds)), (script_tokens_a_values, .inl (gI G, 2001, .inl script_tokens_f_values)), (script_conditions_h, .inr (8, [.ref script_conditions_a_steps, .ref script_conditions_a_values, .int r1.2.2.2.1, .ref script_conditions_a_stack, .int script_conditions__height, .ref script_conditions_a_holding])), (script_conditions_a_steps, .inl (gI G, 2000, .inl r1.2.2.2.2.1)), (script_conditions_a_values, .inl (gI G, 2000, .inl r1.2.2.2.2.2)), (script_a_letOfLetter, .inl (gI G, 26, .inl script_f_letOfLetter))]) ⟨hx, hb, hml, hown, hts⟩ hA hK hZ hP hD hS hC_r1 (cwV 1 hts g_Par_138 rfl rfl rfl (by decide +kernel) ⟨by simp only [rmD]; omega, by simp only [rmD]; omega⟩) (ci := 11) (q0 := 0) rfl rfl rfl [0, 1, 2, 3, 4, 5, 6, 7, 8] (hc_ _ _ _ _ _ _ _ _ _ _) (by decide) rfl (hf_ _ _ _ _ _ _ _ _ _ _ _ _ _ _ _ _ _ _ _) rfl hl.1 rfl (Nat.le_of_ble_eq_true rfl) d_Par_condition_2 ⟨Nat.le_of_ble_eq_true rfl, Nat.le_of_ble_eq_true rfl⟩ (st1 := [.int r1.1]) (c1 := 0) (s1 := 0) rfl rfl rfl (fun H locs hP hD hS => ?_)
  refine lv_if_ne (tgt := 10) hx hb d_Par_condition_5 (by decide) (fun c1 => ?_) (fun c1 => ?_)
  · skip
    rw [if_neg c1] at hok
    refine lv_iconst (v := 0) hx hb d_Par_condition_10 (by decide) ?_
    refine lv_istore_n (lv' := [(2, .int 0), (0, .ref h), (1, .int x)]) hx hb d_Par_condition_11 rfl hl (by decide) rfl (fun ls hl => ?_)
    refine lv_iconst (v := 0) hx hb d_Par_condition_12 (by decide) ?_
    refine lv_istore_n (lv' := [(3, .int 0), (2, .int 0), (0, .ref h), (1, .int x)]) hx hb d_Par_condition_13 rfl hl (by decide) rfl (fun ls hl => ?_)
    have e_ : (s_Par_condition tru script_tokens_f_kinds script_tokens_f_values script_conditions_f_steps script_conditions_f_values script_conditions__size script_f_letOfLetter v_at v_joints x) = (lp_Par_condition_14 tru script_tokens_f_kinds script_tokens_f_values script_f_letOfLetter x 2001 (0 : Int32) (0 : Int32) r1.2.1 r1.2.2.1 r1.2.2.2.1 r1.2.2.2.2.1 r1.2.2.2.2.2) := (by rw [s_Par_condition] <;> simp only [hr1] <;> rw [if_neg c1])
    rw [e_]
    exact loop_14 2001 (0 : Int32) (0 : Int32) r1.2.1 r1.2.2.1 r1.2.2.2.1 r1.2.2.2.2.1 r1.2.2.2.2.2 hok _ _ _ hP hD hS (lv_sub hl [0, 1, 2, 3] rfl)
  rw [if_pos c1] at hok
  refine lv_iconst (v := 0) hx hb d_Par_condition_8 (by decide) ?_
  exact ly_zret hx hb hr hlocks hP hD hS d_Par_condition_9 (by decide) (by rw [s_Par_condition] <;> simp only [hr1] <;> rw [if_pos c1]) (by rw [s_Par_condition] <;> simp only [hr1] <;> rw [if_pos c1])

theorem z_Par_truth {tru : RcF} {con : RcF} {sm : RcF} {script_tokens_f_kinds : Nat → Int32} {script_tokens_f_values : Nat → Int32} {script_conditions_f_steps : Nat → Int32} {script_conditions_f_values : Nat → Int32} {script_conditions__size : Int32} {script_f_letOfLetter : Nat → Int32} {v_at : Int32} {v_joints : Int32} {x : Int32} (ztru : ∀ {script_tokens_f_kinds : Nat → Int32} {script_tokens_f_values : Nat → Int32} {script_conditions_f_steps : Nat → Int32} {script_conditions_f_values : Nat → Int32} {script_conditions__size : Int32} {script_f_letOfLetter : Nat → Int32} {v_at : Int32} {v_joints : Int32} {x : Int32}, isB (tru script_tokens_f_kinds script_tokens_f_values script_conditions_f_steps script_conditions_f_values script_conditions__size script_f_letOfLetter v_at v_joints x).1) (zcon : ∀ {script_tokens_f_kinds : Nat → Int32} {script_tokens_f_values : Nat → Int32} {script_conditions_f_steps : Nat → Int32} {script_conditions_f_values : Nat → Int32} {script_conditions__size : Int32} {script_f_letOfLetter : Nat → Int32} {v_at : Int32} {v_joints : Int32} {x : Int32}, isB (con script_tokens_f_kinds script_tokens_f_values script_conditions_f_steps script_conditions_f_values script_conditions__size script_f_letOfLetter v_at v_joints x).1) (zsm : ∀ {script_tokens_f_kinds : Nat → Int32} {script_tokens_f_values : Nat → Int32} {script_conditions_f_steps : Nat → Int32} {script_conditions_f_values : Nat → Int32} {script_conditions__size : Int32} {script_f_letOfLetter : Nat → Int32} {v_at : Int32} {v_joints : Int32} {x : Int32}, isB (sm script_tokens_f_kinds script_tokens_f_values script_conditions_f_steps script_conditions_f_values script_conditions__size script_f_letOfLetter v_at v_joints x).1) : isB (s_Par_truth tru con sm script_tokens_f_kinds script_tokens_f_values script_conditions_f_steps script_conditions_f_values script_conditions__size script_f_letOfLetter v_at v_joints x).1 := by
  obtain ⟨r1, hr1⟩ : ∃ r, (s_Par_kind script_tokens_f_kinds v_at) = r := ⟨_, rfl⟩
  obtain ⟨r14, hr14⟩ : ∃ r, (s_Par_takeDeeper v_at x) = r := ⟨_, rfl⟩
  have zb_r14 : isB r14.1 := by rw [← hr14]; exact z_Par_takeDeeper
  obtain ⟨r15, hr15⟩ : ∃ r, (tru script_tokens_f_kinds script_tokens_f_values script_conditions_f_steps script_conditions_f_values script_conditions__size script_f_letOfLetter r14.2 v_joints (x + 1)) = r := ⟨_, rfl⟩
  have zb_r15 : isB r15.1 := by rw [← hr15]; exact ztru
  obtain ⟨r16, hr16⟩ : ∃ r, (s_Cond_add r15.2.2.2.2.1 r15.2.2.2.2.2 r15.2.2.2.1 16 0) = r := ⟨_, rfl⟩
  obtain ⟨r12, hr12⟩ : ∃ r, (con script_tokens_f_kinds script_tokens_f_values script_conditions_f_steps script_conditions_f_values script_conditions__size script_f_letOfLetter r14.2 v_joints (x + 1)) = r := ⟨_, rfl⟩
  have zb_r12 : isB r12.1 := by rw [← hr12]; exact zcon
  obtain ⟨r13, hr13⟩ : ∃ r, (s_Par_take script_tokens_f_kinds r12.2.1 30) = r := ⟨_, rfl⟩
  have zb_r13 : isB r13.1 := by rw [← hr13]; exact z_Par_take
  obtain ⟨r7, hr7⟩ : ∃ r, (s_Par_value script_tokens_f_values v_at) = r := ⟨_, rfl⟩
  obtain ⟨r8, hr8⟩ : ∃ r, (s_Scr_letOf script_f_letOfLetter r7) = r := ⟨_, rfl⟩
  obtain ⟨r9, hr9⟩ : ∃ r, (s_Cond_add script_conditions_f_steps script_conditions_f_values script_conditions__size 4 r8) = r := ⟨_, rfl⟩
  obtain ⟨r10, hr10⟩ : ∃ r, (s_Par_takeJoint v_at v_joints) = r := ⟨_, rfl⟩
  have zb_r10 : isB r10.1 := by rw [← hr10]; exact z_Par_takeJoint
  obtain ⟨r2, hr2⟩ : ∃ r, (sm script_tokens_f_kinds script_tokens_f_values script_conditions_f_steps script_conditions_f_values script_conditions__size script_f_letOfLetter v_at v_joints x) = r := ⟨_, rfl⟩
  have zb_r2 : isB r2.1 := by rw [← hr2]; exact zsm
  obtain ⟨r3, hr3⟩ : ∃ r, (s_Par_kind script_tokens_f_kinds r2.2.1) = r := ⟨_, rfl⟩
  obtain ⟨r4, hr4⟩ : ∃ r, (s_Par_takeJoint r2.2.1 r2.2.2.1) = r := ⟨_, rfl⟩
  have zb_r4 : isB r4.1 := by rw [← hr4]; exact z_Par_takeJoint
  obtain ⟨r5, hr5⟩ : ∃ r, (sm script_tokens_f_kinds script_tokens_f_values r2.2.2.2.2.1 r2.2.2.2.2.2 r2.2.2.2.1 script_f_letOfLetter r4.2.1 r4.2.2 x) = r := ⟨_, rfl⟩
  have zb_r5 : isB r5.1 := by rw [← hr5]; exact zsm
  obtain ⟨r6, hr6⟩ : ∃ r, (s_Cond_add r5.2.2.2.2.1 r5.2.2.2.2.2 r5.2.2.2.1 r3 0) = r := ⟨_, rfl⟩
  rw [s_Par_truth]
  simp only [hr1, hr14, hr15, hr16, hr12, hr13, hr7, hr8, hr9, hr10, hr2, hr3, hr4, hr5, hr6]
  by_cases ct1 : r1 = 16
  · rw [if_pos ct1]
    by_cases ct2 : r14.1 = 0
    · rw [if_pos ct2]
      first | exact isB_0 | exact isB_1 | assumption
    rw [if_neg ct2]
    by_cases ct3 : r15.1 = 0
    · rw [if_pos ct3]
      first | exact isB_0 | exact isB_1 | assumption
    rw [if_neg ct3]
    first | exact isB_0 | exact isB_1 | assumption
  rw [if_neg ct1]
  by_cases ct4 : r1 = 29
  · rw [if_pos ct4]
    by_cases ct5 : r14.1 = 0
    · rw [if_pos ct5]
      first | exact isB_0 | exact isB_1 | assumption
    rw [if_neg ct5]
    by_cases ct6 : r12.1 = 0
    · rw [if_pos ct6]
      first | exact isB_0 | exact isB_1 | assumption
    rw [if_neg ct6]
    by_cases ct7 : r13.1 = 0
    · rw [if_pos ct7]
      first | exact isB_0 | exact isB_1 | assumption
    rw [if_neg ct7]
    first | exact isB_0 | exact isB_1 | assumption
  rw [if_neg ct4]
  by_cases ct8 : r1 = 4
  · rw [if_pos ct8]
    by_cases ct9 : r8 = (-1)
    · rw [if_pos ct9]
      first | exact isB_0 | exact isB_1 | assumption
    rw [if_neg ct9]
    by_cases ct10 : r10.1 = 0
    · rw [if_pos ct10]
      first | exact isB_0 | exact isB_1 | assumption
    rw [if_neg ct10]
    first | exact isB_0 | exact isB_1 | assumption
  rw [if_neg ct8]
  by_cases ct11 : r2.1 = 0
  · rw [if_pos ct11]
    first | exact isB_0 | exact isB_1 | assumption
  rw [if_neg ct11]
  by_cases ct12 : r3 < 17
  · rw [if_pos ct12]
    first | exact isB_0 | exact isB_1 | assumption
  rw [if_neg ct12]
  by_cases ct13 : 22 < r3
  · rw [if_pos ct13]
    first | exact isB_0 | exact isB_1 | assumption
  rw [if_neg ct13]
  by_cases ct14 : r4.1 = 0
  · rw [if_pos ct14]
    first | exact isB_0 | exact isB_1 | assumption
  rw [if_neg ct14]
  by_cases ct15 : r5.1 = 0
  · rw [if_pos ct15]
    first | exact isB_0 | exact isB_1 | assumption
  rw [if_neg ct15]
  first | exact isB_0 | exact isB_1 | assumption
set_option maxHeartbeats 4000000 in
set_option maxRecDepth 100000 in
theorem c_Par_truth (l : Launch) (G : GG) (b_ : Nat) (tru : RcF) (oktru : RcO) (con : RcF) (okcon : RcO) (sm : RcF) (oksm : RcO) (ztru : ∀ {script_tokens_f_kinds : Nat → Int32} {script_tokens_f_values : Nat → Int32} {script_conditions_f_steps : Nat → Int32} {script_conditions_f_values : Nat → Int32} {script_conditions__size : Int32} {script_f_letOfLetter : Nat → Int32} {v_at : Int32} {v_joints : Int32} {x : Int32}, isB (tru script_tokens_f_kinds script_tokens_f_values script_conditions_f_steps script_conditions_f_values script_conditions__size script_f_letOfLetter v_at v_joints x).1) (zcon : ∀ {script_tokens_f_kinds : Nat → Int32} {script_tokens_f_values : Nat → Int32} {script_conditions_f_steps : Nat → Int32} {script_conditions_f_values : Nat → Int32} {script_conditions__size : Int32} {script_f_letOfLetter : Nat → Int32} {v_at : Int32} {v_joints : Int32} {x : Int32}, isB (con script_tokens_f_kinds script_tokens_f_values script_conditions_f_steps script_conditions_f_values script_conditions__size script_f_letOfLetter v_at v_joints x).1) (zsm : ∀ {script_tokens_f_kinds : Nat → Int32} {script_tokens_f_values : Nat → Int32} {script_conditions_f_steps : Nat → Int32} {script_conditions_f_values : Nat → Int32} {script_conditions__size : Int32} {script_f_letOfLetter : Nat → Int32} {v_at : Int32} {v_joints : Int32} {x : Int32}, isB (sm script_tokens_f_kinds script_tokens_f_values script_conditions_f_steps script_conditions_f_values script_conditions__size script_f_letOfLetter v_at v_joints x).1) (htru : DetF l G y_Par_truth w_Par_truth b_ tru oktru) (hcon : DetF l G y_Par_condition w_Par_condition (b_ + 1) con okcon) (hsm : DetF l G y_Par_sum w_Par_sum (b_ + 1) sm oksm) (h : Nat) (script_h : Nat) (script_tokens_h : Nat) (script_tokens_a_kinds : Nat) (script_tokens_a_values : Nat) (script_tokens_a_places : Nat) (script_conditions_h : Nat) (script_conditions_a_steps : Nat) (script_conditions_a_values : Nat) (script_conditions_a_stack : Nat) (script_conditions_a_holding : Nat) (script_a_questions : Nat) (script_a_letStarts : Nat) (script_a_letEnds : Nat) (script_a_letOfLetter : Nat) (script_tokens_f_kinds : Nat → Int32) (script_tokens_f_values : Nat → Int32) (script_tokens__size : Int32) (script_conditions_f_steps : Nat → Int32) (script_conditions_f_values : Nat → Int32) (script_conditions__size : Int32) (script_conditions__height : Int32) (script__asked : Int32) (script_f_letOfLetter : Nat → Int32) (script__lets : Int32) (v_at : Int32) (v_joints : Int32) (x : Int32) (hok : ok_Par_truth tru oktru con okcon sm oksm script_tokens_f_kinds script_tokens_f_values script_conditions_f_steps script_conditions_f_values script_conditions__size script_f_letOfLetter v_at v_joints x) : Det l G y_Par_truth w_Par_truth (rmD (b_ + 2)) 0 0 [.ref h, .int x] [(h, .inr (11, [.ref script_h, .ref script_tokens_h, .ref script_conditions_h, .int v_at, .int v_joints])), (script_h, .inr (10, [.ref script_tokens_h, .ref script_conditions_h, .ref script_a_questions, .int script__asked, .ref script_a_letStarts, .ref script_a_letEnds, .ref script_a_letOfLetter, .int script__lets])), (script_tokens_h, .inr (7, [.ref script_tokens_a_kinds, .ref script_tokens_a_values, .ref script_tokens_a_places, .int script_tokens__size])), (script_tokens_a_kinds, .inl (gI G, 2001, .inl script_tokens_f_kinds)), (script_tokens_a_values, .inl (gI G, 2001, .inl script_tokens_f_values)), (script_conditions_h, .inr (8, [.ref script_conditions_a_steps, .ref script_conditions_a_values, .int script_conditions__size, .ref script_conditions_a_stack, .int script_conditions__height, .ref script_conditions_a_holding])), (script_conditions_a_steps, .inl (gI G, 2000, .inl script_conditions_f_steps)), (script_conditions_a_values, .inl (gI G, 2000, .inl script_conditions_f_values)), (script_a_letOfLetter, .inl (gI G, 26, .inl script_f_letOfLetter))] (some (.int (s_Par_truth tru con sm script_tokens_f_kinds script_tokens_f_values script_conditions_f_steps script_conditions_f_values script_conditions__size script_f_letOfLetter v_at v_joints x).1)) [(h, .inr (11, [.ref script_h, .ref script_tokens_h, .ref script_conditions_h, .int (s_Par_truth tru con sm script_tokens_f_kinds script_tokens_f_values script_conditions_f_steps script_conditions_f_values script_conditions__size script_f_letOfLetter v_at v_joints x).2.1, .int (s_Par_truth tru con sm script_tokens_f_kinds script_tokens_f_values script_conditions_f_steps script_conditions_f_values script_conditions__size script_f_letOfLetter v_at v_joints x).2.2.1])), (script_h, .inr (10, [.ref script_tokens_h, .ref script_conditions_h, .ref script_a_questions, .int script__asked, .ref script_a_letStarts, .ref script_a_letEnds, .ref script_a_letOfLetter, .int script__lets])), (script_tokens_h, .inr (7, [.ref script_tokens_a_kinds, .ref script_tokens_a_values, .ref script_tokens_a_places, .int script_tokens__size])), (script_tokens_a_kinds, .inl (gI G, 2001, .inl script_tokens_f_kinds)), (script_tokens_a_values, .inl (gI G, 2001, .inl script_tokens_f_values)), (script_conditions_h, .inr (8, [.ref script_conditions_a_steps, .ref script_conditions_a_values, .int (s_Par_truth tru con sm script_tokens_f_kinds script_tokens_f_values script_conditions_f_steps script_conditions_f_values script_conditions__size script_f_letOfLetter v_at v_joints x).2.2.2.1, .ref script_conditions_a_stack, .int script_conditions__height, .ref script_conditions_a_holding])), (script_conditions_a_steps, .inl (gI G, 2000, .inl (s_Par_truth tru con sm script_tokens_f_kinds script_tokens_f_values script_conditions_f_steps script_conditions_f_values script_conditions__size script_f_letOfLetter v_at v_joints x).2.2.2.2.1)), (script_conditions_a_values, .inl (gI G, 2000, .inl (s_Par_truth tru con sm script_tokens_f_kinds script_tokens_f_values script_conditions_f_steps script_conditions_f_values script_conditions__size script_f_letOfLetter v_at v_joints x).2.2.2.2.2)), (script_a_letOfLetter, .inl (gI G, 26, .inl script_f_letOfLetter))] := by
  refine Det.of (cc := b_Par_truth) (maxL := 4) (ret := (some .boolean)) (by decide) rfl (Nat.le_of_ble_eq_true rfl) ?_
  intro p e s m args below meth c A ls hx hb hr hml hown hts hlocks hin hA hK hZ hP hD hS hl
  have hts : ∀ w ∈ wG, w.before args s = true := fun w h => hts w (List.mem_cons_of_mem _ h)
  have hown : s.vm.findClass R_Par = some m.cls := hown
  have hl : lv_has ls 4 [(0, .ref h), (1, .int x)] := hl
  rw [ok_Par_truth] at hok
  refine lv_aload_n hx hb d_Par_truth_0 rfl (lv_at hl 0 rfl) ?_
  obtain ⟨hv1, hok⟩ := hok
  obtain ⟨r1, hr1⟩ : ∃ r, (s_Par_kind script_tokens_f_kinds v_at) = r := ⟨_, rfl⟩
  try simp only [hr1] at hok
  have hC_r1 := (c_Par_kind l G h script_h script_tokens_h script_tokens_a_kinds script_tokens_a_values script_tokens_a_places script_conditions_h script_tokens_f_kinds script_tokens__size v_at v_joints hv1)
  rw [hr1] at hC_r1
  refine ly_callV (rest := []) (wf := [(h, .inr (11, [.ref script_h, .ref script_tokens_h, .ref script_conditions_h, .int v_at, .int v_joints])), (script_h, .inr (10, [.ref script_tokens_h, .ref script_conditions_h, .ref script_a_questions, .int script__asked, .ref script_a_letStarts, .ref script_a_letEnds, .ref script_a_letOfLetter, .int script__lets])), (script_tokens_h, .inr (7, [.ref script_tokens_a_kinds, .ref script_tokens_a_values, .ref script_tokens_a_places, .int script_tokens__size])), (script_tokens_a_kinds, .inl (gI G, 2001, .inl script_tokens_f_kinds)), (script_tokens_a_values, .inl (gI G, 2001, .inl script_tokens_f_values)), (script_conditions_h, .inr (8, [.ref script_conditions_a_steps, .ref script_conditions_a_values, .int script_conditions__size, .ref script_conditions_a_stack, .int script_conditions__height, .ref script_conditions_a_holding])), (script_conditions_a_steps, .inl (gI G, 2000, .inl script_conditions_f_steps)), (script_conditions_a_values, .inl (gI G, 2000, .inl script_conditions_f_values)), (script_a_letOfLetter, .inl (gI G, 26, .inl script_f_letOfLetter))]) ⟨hx, hb, hml, hown, hts⟩ hA hK hZ hP hD hS hC_r1 (cwV 0 hts g_Par_34 rfl rfl rfl (by decide +kernel) ⟨by simp only [rmD]; omega, by simp only [rmD]; omega⟩) (ci := 11) (q0 := 0) rfl rfl rfl [0, 2, 3] rfl (by decide) rfl rfl rfl hl.1 rfl (Nat.le_of_ble_eq_true rfl) d_Par_truth_1 ⟨Nat.le_of_ble_eq_true rfl, Nat.le_of_ble_eq_true rfl⟩ (st1 := [.int r1]) (c1 := 0) (s1 := 0) rfl rfl rfl (fun H locs hP hD hS => ?_)
  refine lv_istore_n (lv' := [(2, .int r1), (0, .ref h), (1, .int x)]) hx hb d_Par_truth_4 rfl hl (by decide) rfl (fun ls hl => ?_)
  refine lv_iload_n hx hb d_Par_truth_5 rfl (lv_at hl 0 rfl) ?_
  refine lv_bipush (v := 16) hx hb d_Par_truth_6 (by decide) ?_
  refine lv_icmp_ne (tgt := 43) hx hb d_Par_truth_8 (by decide) (fun c1 => ?_) (fun c1 => ?_)
  · skip
    rw [if_neg c1] at hok
    refine lv_iload_n hx hb d_Par_truth_43 rfl (lv_at hl 0 rfl) ?_
    refine lv_bipush (v := 29) hx hb d_Par_truth_44 (by decide) ?_
    refine lv_icmp_ne (tgt := 82) hx hb d_Par_truth_46 (by decide) (fun c2 => ?_) (fun c2 => ?_)
    · skip
      rw [if_neg c2] at hok
      refine lv_iload_n hx hb d_Par_truth_82 rfl (lv_at hl 0 rfl) ?_
      refine lv_iconst (v := 4) hx hb d_Par_truth_83 (by decide) ?_
      refine lv_icmp_ne (tgt := 126) hx hb d_Par_truth_84 (by decide) (fun c3 => ?_) (fun c3 => ?_)
      · skip
        rw [if_neg c3] at hok
        refine lv_aload_n hx hb d_Par_truth_126 rfl (lv_at hl 1 rfl) ?_
        refine lv_iload_n hx hb d_Par_truth_127 rfl (lv_at hl 2 rfl) ?_
        obtain ⟨hv2, hok⟩ := hok
        obtain ⟨r2, hr2⟩ : ∃ r, (sm script_tokens_f_kinds script_tokens_f_values script_conditions_f_steps script_conditions_f_values script_conditions__size script_f_letOfLetter v_at v_joints x) = r := ⟨_, rfl⟩
        try simp only [hr2] at hok
        have hC_r2 := (hsm h script_h script_tokens_h script_tokens_a_kinds script_tokens_a_values script_tokens_a_places script_conditions_h script_conditions_a_steps script_conditions_a_values script_conditions_a_stack script_conditions_a_holding script_a_questions script_a_letStarts script_a_letEnds script_a_letOfLetter script_tokens_f_kinds script_tokens_f_values script_tokens__size script_conditions_f_steps script_conditions_f_values script_conditions__size script_conditions__height script__asked script_f_letOfLetter script__lets v_at v_joints x hv2)
        rw [hr2] at hC_r2
        have hf_r2_1 : isB r2.1 := by rw [← hr2]; exact zsm
        have hc_ : ∀ (x0_ x1_ x2_ x3_ x4_ x5_ x6_ x7_ x8_ : Nat × va_E) (t_ : va_W), List.map (fun i => (x0_ :: x1_ :: x2_ :: x3_ :: x4_ :: x5_ :: x6_ :: x7_ :: x8_ :: t_)[i]?) [0, 1, 2, 3, 4, 5, 6, 7, 8] = List.map some [x0_, x1_, x2_, x3_, x4_, x5_, x6_, x7_, x8_] := fun _ _ _ _ _ _ _ _ _ _ => rfl
        have hf_ : ∀ (x0_ x1_ x2_ x3_ x4_ x5_ x6_ x7_ x8_ y0_ y1_ y2_ y3_ y4_ y5_ y6_ y7_ y8_ : Nat × va_E) (t_ : va_W), setAll (x0_ :: x1_ :: x2_ :: x3_ :: x4_ :: x5_ :: x6_ :: x7_ :: x8_ :: t_) [0, 1, 2, 3, 4, 5, 6, 7, 8] [y0_, y1_, y2_, y3_, y4_, y5_, y6_, y7_, y8_] = y0_ :: y1_ :: y2_ :: y3_ :: y4_ :: y5_ :: y6_ :: y7_ :: y8_ :: t_ := fun _ _ _ _ _ _ _ _ _ _ _ _ _ _ _ _ _ _ _ => Eq.trans (setAll_M (bs := [true, true, true, true, true, true, true, true, true]) trivial rfl) rfl
        refine ly_callV (rest := []) (wf := [(h, .inr (11, [.ref script_h, .ref script_tokens_h, .ref script_conditions_h, .int r2.2.1, .int r2.2.2.1])), (script_h, .inr (10, [.ref script_tokens_h, .ref script_conditions_h, .ref script_a_questions, .int script__asked, .ref script_a_letStarts, .ref script_a_letEnds, .ref script_a_letOfLetter, .int script__lets])), (script_tokens_h, .inr (7, [.ref script_tokens_a_kinds, .ref script_tokens_a_values, .ref script_tokens_a_places, .int script_tokens__size])), (script_tokens_a_kinds, .inl (gI G, 2001, .inl script_tokens_f_kinds)), (script_tokens_a_values, .inl (gI G, 2001, .inl script_tokens_f_values)), (script_conditions_h, .inr (8, [.ref script_conditions_a_steps, .ref script_conditions_a_values, .int r2.2.2.2.1, .ref script_conditions_a_stack, .int script_conditions__height, .ref script_conditions_a_holding])), (script_conditions_a_steps, .inl (gI G, 2000, .inl r2.2.2.2.2.1)), (script_conditions_a_values, .inl (gI G, 2000, .inl r2.2.2.2.2.2)), (script_a_letOfLetter, .inl (gI G, 26, .inl script_f_letOfLetter))]) ⟨hx, hb, hml, hown, hts⟩ hA hK hZ hP hD hS hC_r2 (cwV 1 hts g_Par_152 rfl rfl rfl (by decide +kernel) ⟨by simp only [rmD]; omega, by simp only [rmD]; omega⟩) (ci := 11) (q0 := 0) rfl rfl rfl [0, 1, 2, 3, 4, 5, 6, 7, 8] (hc_ _ _ _ _ _ _ _ _ _ _) (by decide) rfl (hf_ _ _ _ _ _ _ _ _ _ _ _ _ _ _ _ _ _ _ _) rfl hl.1 rfl (Nat.le_of_ble_eq_true rfl) d_Par_truth_128 ⟨Nat.le_of_ble_eq_true rfl, Nat.le_of_ble_eq_true rfl⟩ (st1 := [.int r2.1]) (c1 := 0) (s1 := 0) rfl rfl rfl (fun H locs hP hD hS => ?_)
        refine lv_if_ne (tgt := 136) hx hb d_Par_truth_131 (by decide) (fun c4 => ?_) (fun c4 => ?_)
        · skip
          rw [if_neg c4] at hok
          refine lv_aload_n hx hb d_Par_truth_136 rfl (lv_at hl 1 rfl) ?_
          obtain ⟨hv3, hok⟩ := hok
          obtain ⟨r3, hr3⟩ : ∃ r, (s_Par_kind script_tokens_f_kinds r2.2.1) = r := ⟨_, rfl⟩
          try simp only [hr3] at hok
          have hC_r3 := (c_Par_kind l G h script_h script_tokens_h script_tokens_a_kinds script_tokens_a_values script_tokens_a_places script_conditions_h script_tokens_f_kinds script_tokens__size r2.2.1 r2.2.2.1 hv3)
          rw [hr3] at hC_r3
          refine ly_callV (rest := []) (wf := [(h, .inr (11, [.ref script_h, .ref script_tokens_h, .ref script_conditions_h, .int r2.2.1, .int r2.2.2.1])), (script_h, .inr (10, [.ref script_tokens_h, .ref script_conditions_h, .ref script_a_questions, .int script__asked, .ref script_a_letStarts, .ref script_a_letEnds, .ref script_a_letOfLetter, .int script__lets])), (script_tokens_h, .inr (7, [.ref script_tokens_a_kinds, .ref script_tokens_a_values, .ref script_tokens_a_places, .int script_tokens__size])), (script_tokens_a_kinds, .inl (gI G, 2001, .inl script_tokens_f_kinds)), (script_tokens_a_values, .inl (gI G, 2001, .inl script_tokens_f_values)), (script_conditions_h, .inr (8, [.ref script_conditions_a_steps, .ref script_conditions_a_values, .int r2.2.2.2.1, .ref script_conditions_a_stack, .int script_conditions__height, .ref script_conditions_a_holding])), (script_conditions_a_steps, .inl (gI G, 2000, .inl r2.2.2.2.2.1)), (script_conditions_a_values, .inl (gI G, 2000, .inl r2.2.2.2.2.2)), (script_a_letOfLetter, .inl (gI G, 26, .inl script_f_letOfLetter))]) ⟨hx, hb, hml, hown, hts⟩ hA hK hZ hP hD hS hC_r3 (cwV 0 hts g_Par_34 rfl rfl rfl (by decide +kernel) ⟨by simp only [rmD]; omega, by simp only [rmD]; omega⟩) (ci := 11) (q0 := 0) rfl rfl rfl [0, 2, 3] rfl (by decide) rfl rfl rfl hl.1 rfl (Nat.le_of_ble_eq_true rfl) d_Par_truth_137 ⟨Nat.le_of_ble_eq_true rfl, Nat.le_of_ble_eq_true rfl⟩ (st1 := [.int r3]) (c1 := 0) (s1 := 0) rfl rfl rfl (fun H locs hP hD hS => ?_)
          refine lv_istore_n (lv' := [(3, .int r3), (2, .int r1), (0, .ref h), (1, .int x)]) hx hb d_Par_truth_140 rfl hl (by decide) rfl (fun ls hl => ?_)
          refine lv_iload_n hx hb d_Par_truth_141 rfl (lv_at hl 0 rfl) ?_
          refine lv_bipush (v := 17) hx hb d_Par_truth_142 (by decide) ?_
          refine lv_icmp_lt (tgt := 168) hx hb d_Par_truth_144 (by decide) (fun c5 => ?_) (fun c5 => ?_)
          · skip
            rw [if_pos c5] at hok
            refine lv_iconst (v := 0) hx hb d_Par_truth_168 (by decide) ?_
            exact ly_zret hx hb hr hlocks hP hD hS d_Par_truth_169 (by decide) (by rw [s_Par_truth] <;> simp only [hr1, hr2, hr3] <;> rw [if_neg c1, if_neg c2, if_neg c3, if_neg c4, if_pos c5]) (by rw [s_Par_truth] <;> simp only [hr1, hr2, hr3] <;> rw [if_neg c1, if_neg c2, if_neg c3, if_neg c4, if_pos c5])
          rw [if_neg c5] at hok
          refine lv_iload_n hx hb d_Par_truth_147 rfl (lv_at hl 0 rfl) ?_
          refine lv_bipush (v := 22) hx hb d_Par_truth_148 (by decide) ?_
          refine lv_icmp_gt (tgt := 168) hx hb d_Par_truth_150 (by decide) (fun c6 => ?_) (fun c6 => ?_)
          · skip
            rw [if_pos c6] at hok
            refine lv_iconst (v := 0) hx hb d_Par_truth_168 (by decide) ?_
            exact ly_zret hx hb hr hlocks hP hD hS d_Par_truth_169 (by decide) (by rw [s_Par_truth] <;> simp only [hr1, hr2, hr3] <;> rw [if_neg c1, if_neg c2, if_neg c3, if_neg c4, if_neg c5, if_pos c6]) (by rw [s_Par_truth] <;> simp only [hr1, hr2, hr3] <;> rw [if_neg c1, if_neg c2, if_neg c3, if_neg c4, if_neg c5, if_pos c6])
          rw [if_neg c6] at hok
          refine lv_aload_n hx hb d_Par_truth_153 rfl (lv_at hl 2 rfl) ?_
          obtain ⟨r4, hr4⟩ : ∃ r, (s_Par_takeJoint r2.2.1 r2.2.2.1) = r := ⟨_, rfl⟩
          try simp only [hr4] at hok
          have hC_r4 := (c_Par_takeJoint l G h script_h script_tokens_h script_conditions_h r2.2.1 r2.2.2.1)
          rw [hr4] at hC_r4
          have hf_r4_1 : isB r4.1 := by rw [← hr4]; exact z_Par_takeJoint
          refine ly_callV (rest := []) (wf := [(h, .inr (11, [.ref script_h, .ref script_tokens_h, .ref script_conditions_h, .int r4.2.1, .int r4.2.2])), (script_h, .inr (10, [.ref script_tokens_h, .ref script_conditions_h, .ref script_a_questions, .int script__asked, .ref script_a_letStarts, .ref script_a_letEnds, .ref script_a_letOfLetter, .int script__lets])), (script_tokens_h, .inr (7, [.ref script_tokens_a_kinds, .ref script_tokens_a_values, .ref script_tokens_a_places, .int script_tokens__size])), (script_tokens_a_kinds, .inl (gI G, 2001, .inl script_tokens_f_kinds)), (script_tokens_a_values, .inl (gI G, 2001, .inl script_tokens_f_values)), (script_conditions_h, .inr (8, [.ref script_conditions_a_steps, .ref script_conditions_a_values, .int r2.2.2.2.1, .ref script_conditions_a_stack, .int script_conditions__height, .ref script_conditions_a_holding])), (script_conditions_a_steps, .inl (gI G, 2000, .inl r2.2.2.2.2.1)), (script_conditions_a_values, .inl (gI G, 2000, .inl r2.2.2.2.2.2)), (script_a_letOfLetter, .inl (gI G, 26, .inl script_f_letOfLetter))]) ⟨hx, hb, hml, hown, hts⟩ hA hK hZ hP hD hS hC_r4 (cwV 0 hts g_Par_146 rfl rfl rfl (by decide +kernel) ⟨by simp only [rmD]; omega, by simp only [rmD]; omega⟩) (ci := 11) (q0 := 0) rfl rfl rfl [0] rfl (by decide) rfl rfl rfl hl.1 rfl (Nat.le_of_ble_eq_true rfl) d_Par_truth_154 ⟨Nat.le_of_ble_eq_true rfl, Nat.le_of_ble_eq_true rfl⟩ (st1 := [.int r4.1]) (c1 := 0) (s1 := 0) rfl rfl rfl (fun H locs hP hD hS => ?_)
          refine lv_if_eq (tgt := 168) hx hb d_Par_truth_157 (by decide) (fun c7 => ?_) (fun c7 => ?_)
          · skip
            rw [if_pos c7] at hok
            refine lv_iconst (v := 0) hx hb d_Par_truth_168 (by decide) ?_
            exact ly_zret hx hb hr hlocks hP hD hS d_Par_truth_169 (by decide) (by rw [s_Par_truth] <;> simp only [hr1, hr2, hr3, hr4] <;> rw [if_neg c1, if_neg c2, if_neg c3, if_neg c4, if_neg c5, if_neg c6, if_pos c7]) (by rw [s_Par_truth] <;> simp only [hr1, hr2, hr3, hr4] <;> rw [if_neg c1, if_neg c2, if_neg c3, if_neg c4, if_neg c5, if_neg c6, if_pos c7])
          rw [if_neg c7] at hok
          refine lv_aload_n hx hb d_Par_truth_160 rfl (lv_at hl 2 rfl) ?_
          refine lv_iload_n hx hb d_Par_truth_161 rfl (lv_at hl 3 rfl) ?_
          obtain ⟨hv4, hok⟩ := hok
          obtain ⟨r5, hr5⟩ : ∃ r, (sm script_tokens_f_kinds script_tokens_f_values r2.2.2.2.2.1 r2.2.2.2.2.2 r2.2.2.2.1 script_f_letOfLetter r4.2.1 r4.2.2 x) = r := ⟨_, rfl⟩
          try simp only [hr5] at hok
          have hC_r5 := (hsm h script_h script_tokens_h script_tokens_a_kinds script_tokens_a_values script_tokens_a_places script_conditions_h script_conditions_a_steps script_conditions_a_values script_conditions_a_stack script_conditions_a_holding script_a_questions script_a_letStarts script_a_letEnds script_a_letOfLetter script_tokens_f_kinds script_tokens_f_values script_tokens__size r2.2.2.2.2.1 r2.2.2.2.2.2 r2.2.2.2.1 script_conditions__height script__asked script_f_letOfLetter script__lets r4.2.1 r4.2.2 x hv4)
          rw [hr5] at hC_r5
          have hf_r5_1 : isB r5.1 := by rw [← hr5]; exact zsm
          have hc_ : ∀ (x0_ x1_ x2_ x3_ x4_ x5_ x6_ x7_ x8_ : Nat × va_E) (t_ : va_W), List.map (fun i => (x0_ :: x1_ :: x2_ :: x3_ :: x4_ :: x5_ :: x6_ :: x7_ :: x8_ :: t_)[i]?) [0, 1, 2, 3, 4, 5, 6, 7, 8] = List.map some [x0_, x1_, x2_, x3_, x4_, x5_, x6_, x7_, x8_] := fun _ _ _ _ _ _ _ _ _ _ => rfl
          have hf_ : ∀ (x0_ x1_ x2_ x3_ x4_ x5_ x6_ x7_ x8_ y0_ y1_ y2_ y3_ y4_ y5_ y6_ y7_ y8_ : Nat × va_E) (t_ : va_W), setAll (x0_ :: x1_ :: x2_ :: x3_ :: x4_ :: x5_ :: x6_ :: x7_ :: x8_ :: t_) [0, 1, 2, 3, 4, 5, 6, 7, 8] [y0_, y1_, y2_, y3_, y4_, y5_, y6_, y7_, y8_] = y0_ :: y1_ :: y2_ :: y3_ :: y4_ :: y5_ :: y6_ :: y7_ :: y8_ :: t_ := fun _ _ _ _ _ _ _ _ _ _ _ _ _ _ _ _ _ _ _ => Eq.trans (setAll_M (bs := [true, true, true, true, true, true, true, true, true]) trivial rfl) rfl
          refine ly_callV (rest := []) (wf := [(h, .inr (11, [.ref script_h, .ref script_tokens_h, .ref script_conditions_h, .int r5.2.1, .int r5.2.2.1])), (script_h, .inr (10, [.ref script_tokens_h, .ref script_conditions_h, .ref script_a_questions, .int script__asked, .ref script_a_letStarts, .ref script_a_letEnds, .ref script_a_letOfLetter, .int script__lets])), (script_tokens_h, .inr (7, [.ref script_tokens_a_kinds, .ref script_tokens_a_values, .ref script_tokens_a_places, .int script_tokens__size])), (script_tokens_a_kinds, .inl (gI G, 2001, .inl script_tokens_f_kinds)), (script_tokens_a_values, .inl (gI G, 2001, .inl script_tokens_f_values)), (script_conditions_h, .inr (8, [.ref script_conditions_a_steps, .ref script_conditions_a_values, .int r5.2.2.2.1, .ref script_conditions_a_stack, .int script_conditions__height, .ref script_conditions_a_holding])), (script_conditions_a_steps, .inl (gI G, 2000, .inl r5.2.2.2.2.1)), (script_conditions_a_values, .inl (gI G, 2000, .inl r5.2.2.2.2.2)), (script_a_letOfLetter, .inl (gI G, 26, .inl script_f_letOfLetter))]) ⟨hx, hb, hml, hown, hts⟩ hA hK hZ hP hD hS hC_r5 (cwV 1 hts g_Par_152 rfl rfl rfl (by decide +kernel) ⟨by simp only [rmD]; omega, by simp only [rmD]; omega⟩) (ci := 11) (q0 := 0) rfl rfl rfl [0, 1, 2, 3, 4, 5, 6, 7, 8] (hc_ _ _ _ _ _ _ _ _ _ _) (by decide) rfl (hf_ _ _ _ _ _ _ _ _ _ _ _ _ _ _ _ _ _ _ _) rfl hl.1 rfl (Nat.le_of_ble_eq_true rfl) d_Par_truth_162 ⟨Nat.le_of_ble_eq_true rfl, Nat.le_of_ble_eq_true rfl⟩ (st1 := [.int r5.1]) (c1 := 0) (s1 := 0) rfl rfl rfl (fun H locs hP hD hS => ?_)
          refine lv_if_ne (tgt := 170) hx hb d_Par_truth_165 (by decide) (fun c8 => ?_) (fun c8 => ?_)
          · skip
            rw [if_neg c8] at hok
            refine lv_aload_n hx hb d_Par_truth_170 rfl (lv_at hl 2 rfl) ?_
            refine va_get (D := G.1) (ci := 11) (C := R_Par) (T := F_Par) (N := 5) (v := .ref script_conditions_h) hx hb hts i_Par hown hK hP 0 rfl rfl 2 (by decide) (hts (.fieldLink R_Par 26 "PrivateQueries$Parser" "conditions" "LPrivateQueries$Conditions;") k_755) (fun _ h9 => h9) rfl d_Par_truth_171 ?_
            refine lv_iload_n hx hb d_Par_truth_174 rfl (lv_at hl 0 rfl) ?_
            refine lv_iconst (v := 0) hx hb d_Par_truth_175 (by decide) ?_
            obtain ⟨hv5, hok⟩ := hok
            obtain ⟨r6, hr6⟩ : ∃ r, (s_Cond_add r5.2.2.2.2.1 r5.2.2.2.2.2 r5.2.2.2.1 r3 0) = r := ⟨_, rfl⟩
            try simp only [hr6] at hok
            have hC_r6 := (c_Cond_add l G script_conditions_h script_conditions_a_steps script_conditions_a_values script_conditions_a_stack script_conditions_a_holding r5.2.2.2.2.1 r5.2.2.2.2.2 r5.2.2.2.1 script_conditions__height r3 0 hv5)
            rw [hr6] at hC_r6
            refine ly_callV (rest := []) (wf := [(h, .inr (11, [.ref script_h, .ref script_tokens_h, .ref script_conditions_h, .int r5.2.1, .int r5.2.2.1])), (script_h, .inr (10, [.ref script_tokens_h, .ref script_conditions_h, .ref script_a_questions, .int script__asked, .ref script_a_letStarts, .ref script_a_letEnds, .ref script_a_letOfLetter, .int script__lets])), (script_tokens_h, .inr (7, [.ref script_tokens_a_kinds, .ref script_tokens_a_values, .ref script_tokens_a_places, .int script_tokens__size])), (script_tokens_a_kinds, .inl (gI G, 2001, .inl script_tokens_f_kinds)), (script_tokens_a_values, .inl (gI G, 2001, .inl script_tokens_f_values)), (script_conditions_h, .inr (8, [.ref script_conditions_a_steps, .ref script_conditions_a_values, .int r6.1, .ref script_conditions_a_stack, .int script_conditions__height, .ref script_conditions_a_holding])), (script_conditions_a_steps, .inl (gI G, 2000, .inl r6.2.1)), (script_conditions_a_values, .inl (gI G, 2000, .inl r6.2.2)), (script_a_letOfLetter, .inl (gI G, 26, .inl script_f_letOfLetter))]) ⟨hx, hb, hml, hown, hts⟩ hA hK hZ hP hD hS hC_r6 (cwV 2 hts g_Par_143 rfl rfl rfl (by decide +kernel) ⟨by simp only [rmD]; omega, by simp only [rmD]; omega⟩) (ci := 8) (q0 := 5) rfl rfl rfl [5, 6, 7] rfl (by decide) rfl rfl rfl hl.1 rfl (Nat.le_of_ble_eq_true rfl) d_Par_truth_176 ⟨Nat.le_of_ble_eq_true rfl, Nat.le_of_ble_eq_true rfl⟩ (st1 := []) (c1 := 0) (s1 := 0) rfl rfl rfl (fun H locs hP hD hS => ?_)
            refine lv_iconst (v := 1) hx hb d_Par_truth_179 (by decide) ?_
            exact ly_zret hx hb hr hlocks hP hD hS d_Par_truth_180 (by decide) (by rw [s_Par_truth] <;> simp only [hr1, hr2, hr3, hr4, hr5, hr6] <;> rw [if_neg c1, if_neg c2, if_neg c3, if_neg c4, if_neg c5, if_neg c6, if_neg c7, if_neg c8]) (by rw [s_Par_truth] <;> simp only [hr1, hr2, hr3, hr4, hr5, hr6] <;> rw [if_neg c1, if_neg c2, if_neg c3, if_neg c4, if_neg c5, if_neg c6, if_neg c7, if_neg c8])
          rw [if_pos c8] at hok
          refine lv_iconst (v := 0) hx hb d_Par_truth_168 (by decide) ?_
          exact ly_zret hx hb hr hlocks hP hD hS d_Par_truth_169 (by decide) (by rw [s_Par_truth] <;> simp only [hr1, hr2, hr3, hr4, hr5] <;> rw [if_neg c1, if_neg c2, if_neg c3, if_neg c4, if_neg c5, if_neg c6, if_neg c7, if_pos c8]) (by rw [s_Par_truth] <;> simp only [hr1, hr2, hr3, hr4, hr5] <;> rw [if_neg c1, if_neg c2, if_neg c3, if_neg c4, if_neg c5, if_neg c6, if_neg c7, if_pos c8])
        rw [if_pos c4] at hok
        refine lv_iconst (v := 0) hx hb d_Par_truth_134 (by decide) ?_
        exact ly_zret hx hb hr hlocks hP hD hS d_Par_truth_135 (by decide) (by rw [s_Par_truth] <;> simp only [hr1, hr2] <;> rw [if_neg c1, if_neg c2, if_neg c3, if_pos c4]) (by rw [s_Par_truth] <;> simp only [hr1, hr2] <;> rw [if_neg c1, if_neg c2, if_neg c3, if_pos c4])
      rw [if_pos c3] at hok
      refine lv_aload_n hx hb d_Par_truth_87 rfl (lv_at hl 1 rfl) ?_
      refine va_get (D := G.1) (ci := 11) (C := R_Par) (T := F_Par) (N := 5) (v := .ref script_h) hx hb hts i_Par hown hK hP 0 rfl rfl 0 (by decide) (hts (.fieldLink R_Par 9 "PrivateQueries$Parser" "script" "LPrivateQueries$Script;") k_776) (fun _ h9 => h9) rfl d_Par_truth_88 ?_
      refine lv_aload_n hx hb d_Par_truth_91 rfl (lv_at hl 1 rfl) ?_
      obtain ⟨hv6, hok⟩ := hok
      obtain ⟨r7, hr7⟩ : ∃ r, (s_Par_value script_tokens_f_values v_at) = r := ⟨_, rfl⟩
      try simp only [hr7] at hok
      have hC_r7 := (c_Par_value l G h script_h script_tokens_h script_tokens_a_kinds script_tokens_a_values script_tokens_a_places script_conditions_h script_tokens_f_values script_tokens__size v_at v_joints hv6)
      rw [hr7] at hC_r7
      refine ly_callV (rest := [.ref script_h]) (wf := [(h, .inr (11, [.ref script_h, .ref script_tokens_h, .ref script_conditions_h, .int v_at, .int v_joints])), (script_h, .inr (10, [.ref script_tokens_h, .ref script_conditions_h, .ref script_a_questions, .int script__asked, .ref script_a_letStarts, .ref script_a_letEnds, .ref script_a_letOfLetter, .int script__lets])), (script_tokens_h, .inr (7, [.ref script_tokens_a_kinds, .ref script_tokens_a_values, .ref script_tokens_a_places, .int script_tokens__size])), (script_tokens_a_kinds, .inl (gI G, 2001, .inl script_tokens_f_kinds)), (script_tokens_a_values, .inl (gI G, 2001, .inl script_tokens_f_values)), (script_conditions_h, .inr (8, [.ref script_conditions_a_steps, .ref script_conditions_a_values, .int script_conditions__size, .ref script_conditions_a_stack, .int script_conditions__height, .ref script_conditions_a_holding])), (script_conditions_a_steps, .inl (gI G, 2000, .inl script_conditions_f_steps)), (script_conditions_a_values, .inl (gI G, 2000, .inl script_conditions_f_values)), (script_a_letOfLetter, .inl (gI G, 26, .inl script_f_letOfLetter))]) ⟨hx, hb, hml, hown, hts⟩ hA hK hZ hP hD hS hC_r7 (cwV 0 hts g_Par_61 rfl rfl rfl (by decide +kernel) ⟨by simp only [rmD]; omega, by simp only [rmD]; omega⟩) (ci := 11) (q0 := 0) rfl rfl rfl [0, 2, 4] rfl (by decide) rfl rfl rfl hl.1 rfl (Nat.le_of_ble_eq_true rfl) d_Par_truth_92 ⟨Nat.le_of_ble_eq_true rfl, Nat.le_of_ble_eq_true rfl⟩ (st1 := [.int r7, .ref script_h]) (c1 := 0) (s1 := 0) rfl rfl rfl (fun H locs hP hD hS => ?_)
      obtain ⟨r8, hr8⟩ : ∃ r, (s_Scr_letOf script_f_letOfLetter r7) = r := ⟨_, rfl⟩
      try simp only [hr8] at hok
      have hC_r8 := (c_Scr_letOf l G script_h script_tokens_h script_conditions_h script_a_questions script_a_letStarts script_a_letEnds script_a_letOfLetter script__asked script_f_letOfLetter script__lets r7)
      rw [hr8] at hC_r8
      refine ly_callV (rest := []) (wf := [(h, .inr (11, [.ref script_h, .ref script_tokens_h, .ref script_conditions_h, .int v_at, .int v_joints])), (script_h, .inr (10, [.ref script_tokens_h, .ref script_conditions_h, .ref script_a_questions, .int script__asked, .ref script_a_letStarts, .ref script_a_letEnds, .ref script_a_letOfLetter, .int script__lets])), (script_tokens_h, .inr (7, [.ref script_tokens_a_kinds, .ref script_tokens_a_values, .ref script_tokens_a_places, .int script_tokens__size])), (script_tokens_a_kinds, .inl (gI G, 2001, .inl script_tokens_f_kinds)), (script_tokens_a_values, .inl (gI G, 2001, .inl script_tokens_f_values)), (script_conditions_h, .inr (8, [.ref script_conditions_a_steps, .ref script_conditions_a_values, .int script_conditions__size, .ref script_conditions_a_stack, .int script_conditions__height, .ref script_conditions_a_holding])), (script_conditions_a_steps, .inl (gI G, 2000, .inl script_conditions_f_steps)), (script_conditions_a_values, .inl (gI G, 2000, .inl script_conditions_f_values)), (script_a_letOfLetter, .inl (gI G, 26, .inl script_f_letOfLetter))]) ⟨hx, hb, hml, hown, hts⟩ hA hK hZ hP hD hS hC_r8 (cwV 1 hts g_Par_67 rfl rfl rfl (by decide +kernel) ⟨by simp only [rmD]; omega, by simp only [rmD]; omega⟩) (ci := 10) (q0 := 1) rfl rfl rfl [1, 8] rfl (by decide) rfl rfl rfl hl.1 rfl (Nat.le_of_ble_eq_true rfl) d_Par_truth_95 ⟨Nat.le_of_ble_eq_true rfl, Nat.le_of_ble_eq_true rfl⟩ (st1 := [.int r8]) (c1 := 0) (s1 := 0) rfl rfl rfl (fun H locs hP hD hS => ?_)
      refine lv_istore_n (lv' := [(3, .int r8), (2, .int r1), (0, .ref h), (1, .int x)]) hx hb d_Par_truth_98 rfl hl (by decide) rfl (fun ls hl => ?_)
      refine lv_aload_n hx hb d_Par_truth_99 rfl (lv_at hl 2 rfl) ?_
      refine va_get (D := G.1) (ci := 11) (C := R_Par) (T := F_Par) (N := 5) (v := .ref script_conditions_h) hx hb hts i_Par hown hK hP 0 rfl rfl 2 (by decide) (hts (.fieldLink R_Par 26 "PrivateQueries$Parser" "conditions" "LPrivateQueries$Conditions;") k_755) (fun _ h9 => h9) rfl d_Par_truth_100 ?_
      refine lv_iconst (v := 4) hx hb d_Par_truth_103 (by decide) ?_
      refine lv_iload_n hx hb d_Par_truth_104 rfl (lv_at hl 0 rfl) ?_
      obtain ⟨hv7, hok⟩ := hok
      obtain ⟨r9, hr9⟩ : ∃ r, (s_Cond_add script_conditions_f_steps script_conditions_f_values script_conditions__size 4 r8) = r := ⟨_, rfl⟩
      try simp only [hr9] at hok
      have hC_r9 := (c_Cond_add l G script_conditions_h script_conditions_a_steps script_conditions_a_values script_conditions_a_stack script_conditions_a_holding script_conditions_f_steps script_conditions_f_values script_conditions__size script_conditions__height 4 r8 hv7)
      rw [hr9] at hC_r9
      refine ly_callV (rest := []) (wf := [(h, .inr (11, [.ref script_h, .ref script_tokens_h, .ref script_conditions_h, .int v_at, .int v_joints])), (script_h, .inr (10, [.ref script_tokens_h, .ref script_conditions_h, .ref script_a_questions, .int script__asked, .ref script_a_letStarts, .ref script_a_letEnds, .ref script_a_letOfLetter, .int script__lets])), (script_tokens_h, .inr (7, [.ref script_tokens_a_kinds, .ref script_tokens_a_values, .ref script_tokens_a_places, .int script_tokens__size])), (script_tokens_a_kinds, .inl (gI G, 2001, .inl script_tokens_f_kinds)), (script_tokens_a_values, .inl (gI G, 2001, .inl script_tokens_f_values)), (script_conditions_h, .inr (8, [.ref script_conditions_a_steps, .ref script_conditions_a_values, .int r9.1, .ref script_conditions_a_stack, .int script_conditions__height, .ref script_conditions_a_holding])), (script_conditions_a_steps, .inl (gI G, 2000, .inl r9.2.1)), (script_conditions_a_values, .inl (gI G, 2000, .inl r9.2.2)), (script_a_letOfLetter, .inl (gI G, 26, .inl script_f_letOfLetter))]) ⟨hx, hb, hml, hown, hts⟩ hA hK hZ hP hD hS hC_r9 (cwV 2 hts g_Par_143 rfl rfl rfl (by decide +kernel) ⟨by simp only [rmD]; omega, by simp only [rmD]; omega⟩) (ci := 8) (q0 := 5) rfl rfl rfl [5, 6, 7] rfl (by decide) rfl rfl rfl hl.1 rfl (Nat.le_of_ble_eq_true rfl) d_Par_truth_105 ⟨Nat.le_of_ble_eq_true rfl, Nat.le_of_ble_eq_true rfl⟩ (st1 := []) (c1 := 0) (s1 := 0) rfl rfl rfl (fun H locs hP hD hS => ?_)
      refine lv_iload_n hx hb d_Par_truth_108 rfl (lv_at hl 0 rfl) ?_
      refine lv_iconst (v := -1) hx hb d_Par_truth_109 (by decide) ?_
      refine lv_icmp_eq (tgt := 124) hx hb d_Par_truth_110 (by decide) (fun c9 => ?_) (fun c9 => ?_)
      · skip
        rw [if_pos c9] at hok
        refine lv_iconst (v := 0) hx hb d_Par_truth_124 (by decide) ?_
        exact ly_zret hx hb hr hlocks hP hD hS d_Par_truth_125 (by decide) (by rw [s_Par_truth] <;> simp only [hr1, hr7, hr8, hr9] <;> rw [if_neg c1, if_neg c2, if_pos c3, if_pos c9]) (by rw [s_Par_truth] <;> simp only [hr1, hr7, hr8, hr9] <;> rw [if_neg c1, if_neg c2, if_pos c3, if_pos c9])
      rw [if_neg c9] at hok
      refine lv_aload_n hx hb d_Par_truth_113 rfl (lv_at hl 2 rfl) ?_
      obtain ⟨r10, hr10⟩ : ∃ r, (s_Par_takeJoint v_at v_joints) = r := ⟨_, rfl⟩
      try simp only [hr10] at hok
      have hC_r10 := (c_Par_takeJoint l G h script_h script_tokens_h script_conditions_h v_at v_joints)
      rw [hr10] at hC_r10
      have hf_r10_1 : isB r10.1 := by rw [← hr10]; exact z_Par_takeJoint
      refine ly_callV (rest := []) (wf := [(h, .inr (11, [.ref script_h, .ref script_tokens_h, .ref script_conditions_h, .int r10.2.1, .int r10.2.2])), (script_h, .inr (10, [.ref script_tokens_h, .ref script_conditions_h, .ref script_a_questions, .int script__asked, .ref script_a_letStarts, .ref script_a_letEnds, .ref script_a_letOfLetter, .int script__lets])), (script_tokens_h, .inr (7, [.ref script_tokens_a_kinds, .ref script_tokens_a_values, .ref script_tokens_a_places, .int script_tokens__size])), (script_tokens_a_kinds, .inl (gI G, 2001, .inl script_tokens_f_kinds)), (script_tokens_a_values, .inl (gI G, 2001, .inl script_tokens_f_values)), (script_conditions_h, .inr (8, [.ref script_conditions_a_steps, .ref script_conditions_a_values, .int r9.1, .ref script_conditions_a_stack, .int script_conditions__height, .ref script_conditions_a_holding])), (script_conditions_a_steps, .inl (gI G, 2000, .inl r9.2.1)), (script_conditions_a_values, .inl (gI G, 2000, .inl r9.2.2)), (script_a_letOfLetter, .inl (gI G, 26, .inl script_f_letOfLetter))]) ⟨hx, hb, hml, hown, hts⟩ hA hK hZ hP hD hS hC_r10 (cwV 0 hts g_Par_146 rfl rfl rfl (by decide +kernel) ⟨by simp only [rmD]; omega, by simp only [rmD]; omega⟩) (ci := 11) (q0 := 0) rfl rfl rfl [0] rfl (by decide) rfl rfl rfl hl.1 rfl (Nat.le_of_ble_eq_true rfl) d_Par_truth_114 ⟨Nat.le_of_ble_eq_true rfl, Nat.le_of_ble_eq_true rfl⟩ (st1 := [.int r10.1]) (c1 := 0) (s1 := 0) rfl rfl rfl (fun H locs hP hD hS => ?_)
      refine lv_if_eq (tgt := 124) hx hb d_Par_truth_117 (by decide) (fun c10 => ?_) (fun c10 => ?_)
      · skip
        rw [if_pos c10] at hok
        refine lv_iconst (v := 0) hx hb d_Par_truth_124 (by decide) ?_
        exact ly_zret hx hb hr hlocks hP hD hS d_Par_truth_125 (by decide) (by rw [s_Par_truth] <;> simp only [hr1, hr7, hr8, hr9, hr10] <;> rw [if_neg c1, if_neg c2, if_pos c3, if_neg c9, if_pos c10]) (by rw [s_Par_truth] <;> simp only [hr1, hr7, hr8, hr9, hr10] <;> rw [if_neg c1, if_neg c2, if_pos c3, if_neg c9, if_pos c10])
      rw [if_neg c10] at hok
      refine lv_iconst (v := 1) hx hb d_Par_truth_120 (by decide) ?_
      refine lv_goto (tgt := 125) hx hb d_Par_truth_121 (by decide) ?_
      exact ly_zret hx hb hr hlocks hP hD hS d_Par_truth_125 (by decide) (by rw [s_Par_truth] <;> simp only [hr1, hr7, hr8, hr9, hr10] <;> rw [if_neg c1, if_neg c2, if_pos c3, if_neg c9, if_neg c10]) (by rw [s_Par_truth] <;> simp only [hr1, hr7, hr8, hr9, hr10] <;> rw [if_neg c1, if_neg c2, if_pos c3, if_neg c9, if_neg c10])
    rw [if_pos c2] at hok
    refine lv_aload_n hx hb d_Par_truth_49 rfl (lv_at hl 1 rfl) ?_
    refine lv_iload_n hx hb d_Par_truth_50 rfl (lv_at hl 2 rfl) ?_
    obtain ⟨r11, hr11⟩ : ∃ r, (s_Par_takeDeeper v_at x) = r := ⟨_, rfl⟩
    try simp only [hr11] at hok
    have hC_r11 := (c_Par_takeDeeper l G h script_h script_tokens_h script_conditions_h v_at v_joints x)
    rw [hr11] at hC_r11
    have hf_r11_1 : isB r11.1 := by rw [← hr11]; exact z_Par_takeDeeper
    refine ly_callV (rest := []) (wf := [(h, .inr (11, [.ref script_h, .ref script_tokens_h, .ref script_conditions_h, .int r11.2, .int v_joints])), (script_h, .inr (10, [.ref script_tokens_h, .ref script_conditions_h, .ref script_a_questions, .int script__asked, .ref script_a_letStarts, .ref script_a_letEnds, .ref script_a_letOfLetter, .int script__lets])), (script_tokens_h, .inr (7, [.ref script_tokens_a_kinds, .ref script_tokens_a_values, .ref script_tokens_a_places, .int script_tokens__size])), (script_tokens_a_kinds, .inl (gI G, 2001, .inl script_tokens_f_kinds)), (script_tokens_a_values, .inl (gI G, 2001, .inl script_tokens_f_values)), (script_conditions_h, .inr (8, [.ref script_conditions_a_steps, .ref script_conditions_a_values, .int script_conditions__size, .ref script_conditions_a_stack, .int script_conditions__height, .ref script_conditions_a_holding])), (script_conditions_a_steps, .inl (gI G, 2000, .inl script_conditions_f_steps)), (script_conditions_a_values, .inl (gI G, 2000, .inl script_conditions_f_values)), (script_a_letOfLetter, .inl (gI G, 26, .inl script_f_letOfLetter))]) ⟨hx, hb, hml, hown, hts⟩ hA hK hZ hP hD hS hC_r11 (cwV 1 hts g_Par_149 rfl rfl rfl (by decide +kernel) ⟨by simp only [rmD]; omega, by simp only [rmD]; omega⟩) (ci := 11) (q0 := 0) rfl rfl rfl [0] rfl (by decide) rfl rfl rfl hl.1 rfl (Nat.le_of_ble_eq_true rfl) d_Par_truth_51 ⟨Nat.le_of_ble_eq_true rfl, Nat.le_of_ble_eq_true rfl⟩ (st1 := [.int r11.1]) (c1 := 0) (s1 := 0) rfl rfl rfl (fun H locs hP hD hS => ?_)
    refine lv_if_eq (tgt := 80) hx hb d_Par_truth_54 (by decide) (fun c11 => ?_) (fun c11 => ?_)
    · skip
      rw [if_pos c11] at hok
      refine lv_iconst (v := 0) hx hb d_Par_truth_80 (by decide) ?_
      exact ly_zret hx hb hr hlocks hP hD hS d_Par_truth_81 (by decide) (by rw [s_Par_truth] <;> simp only [hr1, hr11] <;> rw [if_neg c1, if_pos c2, if_pos c11]) (by rw [s_Par_truth] <;> simp only [hr1, hr11] <;> rw [if_neg c1, if_pos c2, if_pos c11])
    rw [if_neg c11] at hok
    refine lv_aload_n hx hb d_Par_truth_57 rfl (lv_at hl 1 rfl) ?_
    refine lv_iload_n hx hb d_Par_truth_58 rfl (lv_at hl 2 rfl) ?_
    refine lv_iconst (v := 1) hx hb d_Par_truth_59 (by decide) ?_
    refine lv_iadd hx hb d_Par_truth_60 ?_
    obtain ⟨hv8, hok⟩ := hok
    obtain ⟨r12, hr12⟩ : ∃ r, (con script_tokens_f_kinds script_tokens_f_values script_conditions_f_steps script_conditions_f_values script_conditions__size script_f_letOfLetter r11.2 v_joints (x + 1)) = r := ⟨_, rfl⟩
    try simp only [hr12] at hok
    have hC_r12 := (hcon h script_h script_tokens_h script_tokens_a_kinds script_tokens_a_values script_tokens_a_places script_conditions_h script_conditions_a_steps script_conditions_a_values script_conditions_a_stack script_conditions_a_holding script_a_questions script_a_letStarts script_a_letEnds script_a_letOfLetter script_tokens_f_kinds script_tokens_f_values script_tokens__size script_conditions_f_steps script_conditions_f_values script_conditions__size script_conditions__height script__asked script_f_letOfLetter script__lets r11.2 v_joints (x + 1) hv8)
    rw [hr12] at hC_r12
    have hf_r12_1 : isB r12.1 := by rw [← hr12]; exact zcon
    have hc_ : ∀ (x0_ x1_ x2_ x3_ x4_ x5_ x6_ x7_ x8_ : Nat × va_E) (t_ : va_W), List.map (fun i => (x0_ :: x1_ :: x2_ :: x3_ :: x4_ :: x5_ :: x6_ :: x7_ :: x8_ :: t_)[i]?) [0, 1, 2, 3, 4, 5, 6, 7, 8] = List.map some [x0_, x1_, x2_, x3_, x4_, x5_, x6_, x7_, x8_] := fun _ _ _ _ _ _ _ _ _ _ => rfl
    have hf_ : ∀ (x0_ x1_ x2_ x3_ x4_ x5_ x6_ x7_ x8_ y0_ y1_ y2_ y3_ y4_ y5_ y6_ y7_ y8_ : Nat × va_E) (t_ : va_W), setAll (x0_ :: x1_ :: x2_ :: x3_ :: x4_ :: x5_ :: x6_ :: x7_ :: x8_ :: t_) [0, 1, 2, 3, 4, 5, 6, 7, 8] [y0_, y1_, y2_, y3_, y4_, y5_, y6_, y7_, y8_] = y0_ :: y1_ :: y2_ :: y3_ :: y4_ :: y5_ :: y6_ :: y7_ :: y8_ :: t_ := fun _ _ _ _ _ _ _ _ _ _ _ _ _ _ _ _ _ _ _ => Eq.trans (setAll_M (bs := [true, true, true, true, true, true, true, true, true]) trivial rfl) rfl
    refine ly_callV (rest := []) (wf := [(h, .inr (11, [.ref script_h, .ref script_tokens_h, .ref script_conditions_h, .int r12.2.1, .int r12.2.2.1])), (script_h, .inr (10, [.ref script_tokens_h, .ref script_conditions_h, .ref script_a_questions, .int script__asked, .ref script_a_letStarts, .ref script_a_letEnds, .ref script_a_letOfLetter, .int script__lets])), (script_tokens_h, .inr (7, [.ref script_tokens_a_kinds, .ref script_tokens_a_values, .ref script_tokens_a_places, .int script_tokens__size])), (script_tokens_a_kinds, .inl (gI G, 2001, .inl script_tokens_f_kinds)), (script_tokens_a_values, .inl (gI G, 2001, .inl script_tokens_f_values)), (script_conditions_h, .inr (8, [.ref script_conditions_a_steps, .ref script_conditions_a_values, .int r12.2.2.2.1, .ref script_conditions_a_stack, .int script_conditions__height, .ref script_conditions_a_holding])), (script_conditions_a_steps, .inl (gI G, 2000, .inl r12.2.2.2.2.1)), (script_conditions_a_values, .inl (gI G, 2000, .inl r12.2.2.2.2.2)), (script_a_letOfLetter, .inl (gI G, 26, .inl script_f_letOfLetter))]) ⟨hx, hb, hml, hown, hts⟩ hA hK hZ hP hD hS hC_r12 (cwV 1 hts g_Par_76 rfl rfl rfl (by decide +kernel) ⟨by simp only [rmD]; omega, by simp only [rmD]; omega⟩) (ci := 11) (q0 := 0) rfl rfl rfl [0, 1, 2, 3, 4, 5, 6, 7, 8] (hc_ _ _ _ _ _ _ _ _ _ _) (by decide) rfl (hf_ _ _ _ _ _ _ _ _ _ _ _ _ _ _ _ _ _ _ _) rfl hl.1 rfl (Nat.le_of_ble_eq_true rfl) d_Par_truth_61 ⟨Nat.le_of_ble_eq_true rfl, Nat.le_of_ble_eq_true rfl⟩ (st1 := [.int r12.1]) (c1 := 0) (s1 := 0) rfl rfl rfl (fun H locs hP hD hS => ?_)
    refine lv_if_eq (tgt := 80) hx hb d_Par_truth_64 (by decide) (fun c12 => ?_) (fun c12 => ?_)
    · skip
      rw [if_pos c12] at hok
      refine lv_iconst (v := 0) hx hb d_Par_truth_80 (by decide) ?_
      exact ly_zret hx hb hr hlocks hP hD hS d_Par_truth_81 (by decide) (by rw [s_Par_truth] <;> simp only [hr1, hr11, hr12] <;> rw [if_neg c1, if_pos c2, if_neg c11, if_pos c12]) (by rw [s_Par_truth] <;> simp only [hr1, hr11, hr12] <;> rw [if_neg c1, if_pos c2, if_neg c11, if_pos c12])
    rw [if_neg c12] at hok
    refine lv_aload_n hx hb d_Par_truth_67 rfl (lv_at hl 1 rfl) ?_
    refine lv_bipush (v := 30) hx hb d_Par_truth_68 (by decide) ?_
    obtain ⟨hv9, hok⟩ := hok
    obtain ⟨r13, hr13⟩ : ∃ r, (s_Par_take script_tokens_f_kinds r12.2.1 30) = r := ⟨_, rfl⟩
    try simp only [hr13] at hok
    have hC_r13 := (c_Par_take l G h script_h script_tokens_h script_tokens_a_kinds script_tokens_a_values script_tokens_a_places script_conditions_h script_tokens_f_kinds script_tokens__size r12.2.1 r12.2.2.1 30 hv9)
    rw [hr13] at hC_r13
    have hf_r13_1 : up r13.2 2001 := by rw [← hr13]; exact (k_tk hv9)
    have hf_r13_2 : isB r13.1 := by rw [← hr13]; exact z_Par_take
    refine ly_callV (rest := []) (wf := [(h, .inr (11, [.ref script_h, .ref script_tokens_h, .ref script_conditions_h, .int r13.2, .int r12.2.2.1])), (script_h, .inr (10, [.ref script_tokens_h, .ref script_conditions_h, .ref script_a_questions, .int script__asked, .ref script_a_letStarts, .ref script_a_letEnds, .ref script_a_letOfLetter, .int script__lets])), (script_tokens_h, .inr (7, [.ref script_tokens_a_kinds, .ref script_tokens_a_values, .ref script_tokens_a_places, .int script_tokens__size])), (script_tokens_a_kinds, .inl (gI G, 2001, .inl script_tokens_f_kinds)), (script_tokens_a_values, .inl (gI G, 2001, .inl script_tokens_f_values)), (script_conditions_h, .inr (8, [.ref script_conditions_a_steps, .ref script_conditions_a_values, .int r12.2.2.2.1, .ref script_conditions_a_stack, .int script_conditions__height, .ref script_conditions_a_holding])), (script_conditions_a_steps, .inl (gI G, 2000, .inl r12.2.2.2.2.1)), (script_conditions_a_values, .inl (gI G, 2000, .inl r12.2.2.2.2.2)), (script_a_letOfLetter, .inl (gI G, 26, .inl script_f_letOfLetter))]) ⟨hx, hb, hml, hown, hts⟩ hA hK hZ hP hD hS hC_r13 (cwV 1 hts g_Par_47 rfl rfl rfl (by decide +kernel) ⟨by simp only [rmD]; omega, by simp only [rmD]; omega⟩) (ci := 11) (q0 := 0) rfl rfl rfl [0, 2, 3] rfl (by decide) rfl rfl rfl hl.1 rfl (Nat.le_of_ble_eq_true rfl) d_Par_truth_70 ⟨Nat.le_of_ble_eq_true rfl, Nat.le_of_ble_eq_true rfl⟩ (st1 := [.int r13.1]) (c1 := 0) (s1 := 0) rfl rfl rfl (fun H locs hP hD hS => ?_)
    refine lv_if_eq (tgt := 80) hx hb d_Par_truth_73 (by decide) (fun c13 => ?_) (fun c13 => ?_)
    · skip
      rw [if_pos c13] at hok
      refine lv_iconst (v := 0) hx hb d_Par_truth_80 (by decide) ?_
      exact ly_zret hx hb hr hlocks hP hD hS d_Par_truth_81 (by decide) (by rw [s_Par_truth] <;> simp only [hr1, hr11, hr12, hr13] <;> rw [if_neg c1, if_pos c2, if_neg c11, if_neg c12, if_pos c13]) (by rw [s_Par_truth] <;> simp only [hr1, hr11, hr12, hr13] <;> rw [if_neg c1, if_pos c2, if_neg c11, if_neg c12, if_pos c13])
    rw [if_neg c13] at hok
    refine lv_iconst (v := 1) hx hb d_Par_truth_76 (by decide) ?_
    refine lv_goto (tgt := 81) hx hb d_Par_truth_77 (by decide) ?_
    exact ly_zret hx hb hr hlocks hP hD hS d_Par_truth_81 (by decide) (by rw [s_Par_truth] <;> simp only [hr1, hr11, hr12, hr13] <;> rw [if_neg c1, if_pos c2, if_neg c11, if_neg c12, if_neg c13]) (by rw [s_Par_truth] <;> simp only [hr1, hr11, hr12, hr13] <;> rw [if_neg c1, if_pos c2, if_neg c11, if_neg c12, if_neg c13])
  rw [if_pos c1] at hok
  refine lv_aload_n hx hb d_Par_truth_11 rfl (lv_at hl 1 rfl) ?_
  refine lv_iload_n hx hb d_Par_truth_12 rfl (lv_at hl 2 rfl) ?_
  obtain ⟨r14, hr14⟩ : ∃ r, (s_Par_takeDeeper v_at x) = r := ⟨_, rfl⟩
  try simp only [hr14] at hok
  have hC_r14 := (c_Par_takeDeeper l G h script_h script_tokens_h script_conditions_h v_at v_joints x)
  rw [hr14] at hC_r14
  have hf_r14_1 : isB r14.1 := by rw [← hr14]; exact z_Par_takeDeeper
  refine ly_callV (rest := []) (wf := [(h, .inr (11, [.ref script_h, .ref script_tokens_h, .ref script_conditions_h, .int r14.2, .int v_joints])), (script_h, .inr (10, [.ref script_tokens_h, .ref script_conditions_h, .ref script_a_questions, .int script__asked, .ref script_a_letStarts, .ref script_a_letEnds, .ref script_a_letOfLetter, .int script__lets])), (script_tokens_h, .inr (7, [.ref script_tokens_a_kinds, .ref script_tokens_a_values, .ref script_tokens_a_places, .int script_tokens__size])), (script_tokens_a_kinds, .inl (gI G, 2001, .inl script_tokens_f_kinds)), (script_tokens_a_values, .inl (gI G, 2001, .inl script_tokens_f_values)), (script_conditions_h, .inr (8, [.ref script_conditions_a_steps, .ref script_conditions_a_values, .int script_conditions__size, .ref script_conditions_a_stack, .int script_conditions__height, .ref script_conditions_a_holding])), (script_conditions_a_steps, .inl (gI G, 2000, .inl script_conditions_f_steps)), (script_conditions_a_values, .inl (gI G, 2000, .inl script_conditions_f_values)), (script_a_letOfLetter, .inl (gI G, 26, .inl script_f_letOfLetter))]) ⟨hx, hb, hml, hown, hts⟩ hA hK hZ hP hD hS hC_r14 (cwV 1 hts g_Par_149 rfl rfl rfl (by decide +kernel) ⟨by simp only [rmD]; omega, by simp only [rmD]; omega⟩) (ci := 11) (q0 := 0) rfl rfl rfl [0] rfl (by decide) rfl rfl rfl hl.1 rfl (Nat.le_of_ble_eq_true rfl) d_Par_truth_13 ⟨Nat.le_of_ble_eq_true rfl, Nat.le_of_ble_eq_true rfl⟩ (st1 := [.int r14.1]) (c1 := 0) (s1 := 0) rfl rfl rfl (fun H locs hP hD hS => ?_)
  refine lv_if_eq (tgt := 29) hx hb d_Par_truth_16 (by decide) (fun c14 => ?_) (fun c14 => ?_)
  · skip
    rw [if_pos c14] at hok
    refine lv_iconst (v := 0) hx hb d_Par_truth_29 (by decide) ?_
    exact ly_zret hx hb hr hlocks hP hD hS d_Par_truth_30 (by decide) (by rw [s_Par_truth] <;> simp only [hr1, hr14] <;> rw [if_pos c1, if_pos c14]) (by rw [s_Par_truth] <;> simp only [hr1, hr14] <;> rw [if_pos c1, if_pos c14])
  rw [if_neg c14] at hok
  refine lv_aload_n hx hb d_Par_truth_19 rfl (lv_at hl 1 rfl) ?_
  refine lv_iload_n hx hb d_Par_truth_20 rfl (lv_at hl 2 rfl) ?_
  refine lv_iconst (v := 1) hx hb d_Par_truth_21 (by decide) ?_
  refine lv_iadd hx hb d_Par_truth_22 ?_
  obtain ⟨hv10, hok⟩ := hok
  obtain ⟨r15, hr15⟩ : ∃ r, (tru script_tokens_f_kinds script_tokens_f_values script_conditions_f_steps script_conditions_f_values script_conditions__size script_f_letOfLetter r14.2 v_joints (x + 1)) = r := ⟨_, rfl⟩
  try simp only [hr15] at hok
  have hC_r15 := (htru h script_h script_tokens_h script_tokens_a_kinds script_tokens_a_values script_tokens_a_places script_conditions_h script_conditions_a_steps script_conditions_a_values script_conditions_a_stack script_conditions_a_holding script_a_questions script_a_letStarts script_a_letEnds script_a_letOfLetter script_tokens_f_kinds script_tokens_f_values script_tokens__size script_conditions_f_steps script_conditions_f_values script_conditions__size script_conditions__height script__asked script_f_letOfLetter script__lets r14.2 v_joints (x + 1) hv10)
  rw [hr15] at hC_r15
  have hf_r15_1 : isB r15.1 := by rw [← hr15]; exact ztru
  have hc_ : ∀ (x0_ x1_ x2_ x3_ x4_ x5_ x6_ x7_ x8_ : Nat × va_E) (t_ : va_W), List.map (fun i => (x0_ :: x1_ :: x2_ :: x3_ :: x4_ :: x5_ :: x6_ :: x7_ :: x8_ :: t_)[i]?) [0, 1, 2, 3, 4, 5, 6, 7, 8] = List.map some [x0_, x1_, x2_, x3_, x4_, x5_, x6_, x7_, x8_] := fun _ _ _ _ _ _ _ _ _ _ => rfl
  have hf_ : ∀ (x0_ x1_ x2_ x3_ x4_ x5_ x6_ x7_ x8_ y0_ y1_ y2_ y3_ y4_ y5_ y6_ y7_ y8_ : Nat × va_E) (t_ : va_W), setAll (x0_ :: x1_ :: x2_ :: x3_ :: x4_ :: x5_ :: x6_ :: x7_ :: x8_ :: t_) [0, 1, 2, 3, 4, 5, 6, 7, 8] [y0_, y1_, y2_, y3_, y4_, y5_, y6_, y7_, y8_] = y0_ :: y1_ :: y2_ :: y3_ :: y4_ :: y5_ :: y6_ :: y7_ :: y8_ :: t_ := fun _ _ _ _ _ _ _ _ _ _ _ _ _ _ _ _ _ _ _ => Eq.trans (setAll_M (bs := [true, true, true, true, true, true, true, true, true]) trivial rfl) rfl
  refine ly_callV (rest := []) (wf := [(h, .inr (11, [.ref script_h, .ref script_tokens_h, .ref script_conditions_h, .int r15.2.1, .int r15.2.2.1])), (script_h, .inr (10, [.ref script_tokens_h, .ref script_conditions_h, .ref script_a_questions, .int script__asked, .ref script_a_letStarts, .ref script_a_letEnds, .ref script_a_letOfLetter, .int script__lets])), (script_tokens_h, .inr (7, [.ref script_tokens_a_kinds, .ref script_tokens_a_values, .ref script_tokens_a_places, .int script_tokens__size])), (script_tokens_a_kinds, .inl (gI G, 2001, .inl script_tokens_f_kinds)), (script_tokens_a_values, .inl (gI G, 2001, .inl script_tokens_f_values)), (script_conditions_h, .inr (8, [.ref script_conditions_a_steps, .ref script_conditions_a_values, .int r15.2.2.2.1, .ref script_conditions_a_stack, .int script_conditions__height, .ref script_conditions_a_holding])), (script_conditions_a_steps, .inl (gI G, 2000, .inl r15.2.2.2.2.1)), (script_conditions_a_values, .inl (gI G, 2000, .inl r15.2.2.2.2.2)), (script_a_letOfLetter, .inl (gI G, 26, .inl script_f_letOfLetter))]) ⟨hx, hb, hml, hown, hts⟩ hA hK hZ hP hD hS hC_r15 (cwV 1 hts g_Par_138 rfl rfl rfl (by decide +kernel) ⟨by simp only [rmD]; omega, by simp only [rmD]; omega⟩) (ci := 11) (q0 := 0) rfl rfl rfl [0, 1, 2, 3, 4, 5, 6, 7, 8] (hc_ _ _ _ _ _ _ _ _ _ _) (by decide) rfl (hf_ _ _ _ _ _ _ _ _ _ _ _ _ _ _ _ _ _ _ _) rfl hl.1 rfl (Nat.le_of_ble_eq_true rfl) d_Par_truth_23 ⟨Nat.le_of_ble_eq_true rfl, Nat.le_of_ble_eq_true rfl⟩ (st1 := [.int r15.1]) (c1 := 0) (s1 := 0) rfl rfl rfl (fun H locs hP hD hS => ?_)
  refine lv_if_ne (tgt := 31) hx hb d_Par_truth_26 (by decide) (fun c15 => ?_) (fun c15 => ?_)
  · skip
    rw [if_neg c15] at hok
    refine lv_aload_n hx hb d_Par_truth_31 rfl (lv_at hl 1 rfl) ?_
    refine va_get (D := G.1) (ci := 11) (C := R_Par) (T := F_Par) (N := 5) (v := .ref script_conditions_h) hx hb hts i_Par hown hK hP 0 rfl rfl 2 (by decide) (hts (.fieldLink R_Par 26 "PrivateQueries$Parser" "conditions" "LPrivateQueries$Conditions;") k_755) (fun _ h9 => h9) rfl d_Par_truth_32 ?_
    refine lv_bipush (v := 16) hx hb d_Par_truth_35 (by decide) ?_
    refine lv_iconst (v := 0) hx hb d_Par_truth_37 (by decide) ?_
    obtain ⟨hv11, hok⟩ := hok
    obtain ⟨r16, hr16⟩ : ∃ r, (s_Cond_add r15.2.2.2.2.1 r15.2.2.2.2.2 r15.2.2.2.1 16 0) = r := ⟨_, rfl⟩
    try simp only [hr16] at hok
    have hC_r16 := (c_Cond_add l G script_conditions_h script_conditions_a_steps script_conditions_a_values script_conditions_a_stack script_conditions_a_holding r15.2.2.2.2.1 r15.2.2.2.2.2 r15.2.2.2.1 script_conditions__height 16 0 hv11)
    rw [hr16] at hC_r16
    refine ly_callV (rest := []) (wf := [(h, .inr (11, [.ref script_h, .ref script_tokens_h, .ref script_conditions_h, .int r15.2.1, .int r15.2.2.1])), (script_h, .inr (10, [.ref script_tokens_h, .ref script_conditions_h, .ref script_a_questions, .int script__asked, .ref script_a_letStarts, .ref script_a_letEnds, .ref script_a_letOfLetter, .int script__lets])), (script_tokens_h, .inr (7, [.ref script_tokens_a_kinds, .ref script_tokens_a_values, .ref script_tokens_a_places, .int script_tokens__size])), (script_tokens_a_kinds, .inl (gI G, 2001, .inl script_tokens_f_kinds)), (script_tokens_a_values, .inl (gI G, 2001, .inl script_tokens_f_values)), (script_conditions_h, .inr (8, [.ref script_conditions_a_steps, .ref script_conditions_a_values, .int r16.1, .ref script_conditions_a_stack, .int script_conditions__height, .ref script_conditions_a_holding])), (script_conditions_a_steps, .inl (gI G, 2000, .inl r16.2.1)), (script_conditions_a_values, .inl (gI G, 2000, .inl r16.2.2)), (script_a_letOfLetter, .inl (gI G, 26, .inl script_f_letOfLetter))]) ⟨hx, hb, hml, hown, hts⟩ hA hK hZ hP hD hS hC_r16 (cwV 2 hts g_Par_143 rfl rfl rfl (by decide +kernel) ⟨by simp only [rmD]; omega, by simp only [rmD]; omega⟩) (ci := 8) (q0 := 5) rfl rfl rfl [5, 6, 7] rfl (by decide) rfl rfl rfl hl.1 rfl (Nat.le_of_ble_eq_true rfl) d_Par_truth_38 ⟨Nat.le_of_ble_eq_true rfl, Nat.le_of_ble_eq_true rfl⟩ (st1 := []) (c1 := 0) (s1 := 0) rfl rfl rfl (fun H locs hP hD hS => ?_)
    refine lv_iconst (v := 1) hx hb d_Par_truth_41 (by decide) ?_
    exact ly_zret hx hb hr hlocks hP hD hS d_Par_truth_42 (by decide) (by rw [s_Par_truth] <;> simp only [hr1, hr14, hr15, hr16] <;> rw [if_pos c1, if_neg c14, if_neg c15]) (by rw [s_Par_truth] <;> simp only [hr1, hr14, hr15, hr16] <;> rw [if_pos c1, if_neg c14, if_neg c15])
  rw [if_pos c15] at hok
  refine lv_iconst (v := 0) hx hb d_Par_truth_29 (by decide) ?_
  exact ly_zret hx hb hr hlocks hP hD hS d_Par_truth_30 (by decide) (by rw [s_Par_truth] <;> simp only [hr1, hr14, hr15] <;> rw [if_pos c1, if_neg c14, if_pos c15]) (by rw [s_Par_truth] <;> simp only [hr1, hr14, hr15] <;> rw [if_pos c1, if_neg c14, if_pos c15])

theorem zB_sum {fac : RcF} (zfac : ∀ {script_tokens_f_kinds : Nat → Int32} {script_tokens_f_values : Nat → Int32} {script_conditions_f_steps : Nat → Int32} {script_conditions_f_values : Nat → Int32} {script_conditions__size : Int32} {script_f_letOfLetter : Nat → Int32} {v_at : Int32} {v_joints : Int32} {x : Int32}, isB (fac script_tokens_f_kinds script_tokens_f_values script_conditions_f_steps script_conditions_f_values script_conditions__size script_f_letOfLetter v_at v_joints x).1) : ∀ {script_tokens_f_kinds : _} {script_tokens_f_values : _} {script_conditions_f_steps : _} {script_conditions_f_values : _} {script_conditions__size : _} {script_f_letOfLetter : _} {v_at : _} {v_joints : _} {x : _}, isB (B_sum fac script_tokens_f_kinds script_tokens_f_values script_conditions_f_steps script_conditions_f_values script_conditions__size script_f_letOfLetter v_at v_joints x).1 := by
  intro script_tokens_f_kinds script_tokens_f_values script_conditions_f_steps script_conditions_f_values script_conditions__size script_f_letOfLetter v_at v_joints x
  exact z_Par_sum zfac
theorem D_sum {l : Launch} {G : GG} {b_ : Nat} {fac : RcF} {okfac : RcO} (zfac : ∀ {script_tokens_f_kinds : Nat → Int32} {script_tokens_f_values : Nat → Int32} {script_conditions_f_steps : Nat → Int32} {script_conditions_f_values : Nat → Int32} {script_conditions__size : Int32} {script_f_letOfLetter : Nat → Int32} {v_at : Int32} {v_joints : Int32} {x : Int32}, isB (fac script_tokens_f_kinds script_tokens_f_values script_conditions_f_steps script_conditions_f_values script_conditions__size script_f_letOfLetter v_at v_joints x).1) (hfac : DetF l G y_Par_factor w_Par_factor b_ fac okfac) : DetF l G y_Par_sum w_Par_sum (b_ + 1) (B_sum fac) (okB_sum fac okfac) := by
  intro h script_h script_tokens_h script_tokens_a_kinds script_tokens_a_values script_tokens_a_places script_conditions_h script_conditions_a_steps script_conditions_a_values script_conditions_a_stack script_conditions_a_holding script_a_questions script_a_letStarts script_a_letEnds script_a_letOfLetter script_tokens_f_kinds script_tokens_f_values script_tokens__size script_conditions_f_steps script_conditions_f_values script_conditions__size script_conditions__height script__asked script_f_letOfLetter script__lets v_at v_joints x hok
  exact c_Par_sum l G b_ fac okfac zfac hfac h script_h script_tokens_h script_tokens_a_kinds script_tokens_a_values script_tokens_a_places script_conditions_h script_conditions_a_steps script_conditions_a_values script_conditions_a_stack script_conditions_a_holding script_a_questions script_a_letStarts script_a_letEnds script_a_letOfLetter script_tokens_f_kinds script_tokens_f_values script_tokens__size script_conditions_f_steps script_conditions_f_values script_conditions__size script_conditions__height script__asked script_f_letOfLetter script__lets v_at v_joints x hok
theorem zB_fac {fac : RcF} {sm : RcF} (zfac : ∀ {script_tokens_f_kinds : Nat → Int32} {script_tokens_f_values : Nat → Int32} {script_conditions_f_steps : Nat → Int32} {script_conditions_f_values : Nat → Int32} {script_conditions__size : Int32} {script_f_letOfLetter : Nat → Int32} {v_at : Int32} {v_joints : Int32} {x : Int32}, isB (fac script_tokens_f_kinds script_tokens_f_values script_conditions_f_steps script_conditions_f_values script_conditions__size script_f_letOfLetter v_at v_joints x).1) (zsm : ∀ {script_tokens_f_kinds : Nat → Int32} {script_tokens_f_values : Nat → Int32} {script_conditions_f_steps : Nat → Int32} {script_conditions_f_values : Nat → Int32} {script_conditions__size : Int32} {script_f_letOfLetter : Nat → Int32} {v_at : Int32} {v_joints : Int32} {x : Int32}, isB (sm script_tokens_f_kinds script_tokens_f_values script_conditions_f_steps script_conditions_f_values script_conditions__size script_f_letOfLetter v_at v_joints x).1) : ∀ {script_tokens_f_kinds : _} {script_tokens_f_values : _} {script_conditions_f_steps : _} {script_conditions_f_values : _} {script_conditions__size : _} {script_f_letOfLetter : _} {v_at : _} {v_joints : _} {x : _}, isB (B_fac fac sm script_tokens_f_kinds script_tokens_f_values script_conditions_f_steps script_conditions_f_values script_conditions__size script_f_letOfLetter v_at v_joints x).1 := by
  intro script_tokens_f_kinds script_tokens_f_values script_conditions_f_steps script_conditions_f_values script_conditions__size script_f_letOfLetter v_at v_joints x
  exact z_Par_factor zfac zsm
theorem D_fac {l : Launch} {G : GG} {b_ : Nat} {fac : RcF} {okfac : RcO} {sm : RcF} {oksm : RcO} (zfac : ∀ {script_tokens_f_kinds : Nat → Int32} {script_tokens_f_values : Nat → Int32} {script_conditions_f_steps : Nat → Int32} {script_conditions_f_values : Nat → Int32} {script_conditions__size : Int32} {script_f_letOfLetter : Nat → Int32} {v_at : Int32} {v_joints : Int32} {x : Int32}, isB (fac script_tokens_f_kinds script_tokens_f_values script_conditions_f_steps script_conditions_f_values script_conditions__size script_f_letOfLetter v_at v_joints x).1) (zsm : ∀ {script_tokens_f_kinds : Nat → Int32} {script_tokens_f_values : Nat → Int32} {script_conditions_f_steps : Nat → Int32} {script_conditions_f_values : Nat → Int32} {script_conditions__size : Int32} {script_f_letOfLetter : Nat → Int32} {v_at : Int32} {v_joints : Int32} {x : Int32}, isB (sm script_tokens_f_kinds script_tokens_f_values script_conditions_f_steps script_conditions_f_values script_conditions__size script_f_letOfLetter v_at v_joints x).1) (hfac : DetF l G y_Par_factor w_Par_factor b_ fac okfac) (hsm : DetF l G y_Par_sum w_Par_sum (b_ + 1) sm oksm) : DetF l G y_Par_factor w_Par_factor (b_ + 2) (B_fac fac sm) (okB_fac fac okfac sm oksm) := by
  intro h script_h script_tokens_h script_tokens_a_kinds script_tokens_a_values script_tokens_a_places script_conditions_h script_conditions_a_steps script_conditions_a_values script_conditions_a_stack script_conditions_a_holding script_a_questions script_a_letStarts script_a_letEnds script_a_letOfLetter script_tokens_f_kinds script_tokens_f_values script_tokens__size script_conditions_f_steps script_conditions_f_values script_conditions__size script_conditions__height script__asked script_f_letOfLetter script__lets v_at v_joints x hok
  exact c_Par_factor l G b_ fac okfac sm oksm zfac zsm hfac hsm h script_h script_tokens_h script_tokens_a_kinds script_tokens_a_values script_tokens_a_places script_conditions_h script_conditions_a_steps script_conditions_a_values script_conditions_a_stack script_conditions_a_holding script_a_questions script_a_letStarts script_a_letEnds script_a_letOfLetter script_tokens_f_kinds script_tokens_f_values script_tokens__size script_conditions_f_steps script_conditions_f_values script_conditions__size script_conditions__height script__asked script_f_letOfLetter script__lets v_at v_joints x hok
theorem zB_con {tru : RcF} (ztru : ∀ {script_tokens_f_kinds : Nat → Int32} {script_tokens_f_values : Nat → Int32} {script_conditions_f_steps : Nat → Int32} {script_conditions_f_values : Nat → Int32} {script_conditions__size : Int32} {script_f_letOfLetter : Nat → Int32} {v_at : Int32} {v_joints : Int32} {x : Int32}, isB (tru script_tokens_f_kinds script_tokens_f_values script_conditions_f_steps script_conditions_f_values script_conditions__size script_f_letOfLetter v_at v_joints x).1) : ∀ {script_tokens_f_kinds : _} {script_tokens_f_values : _} {script_conditions_f_steps : _} {script_conditions_f_values : _} {script_conditions__size : _} {script_f_letOfLetter : _} {v_at : _} {v_joints : _} {x : _}, isB (B_con tru script_tokens_f_kinds script_tokens_f_values script_conditions_f_steps script_conditions_f_values script_conditions__size script_f_letOfLetter v_at v_joints x).1 := by
  intro script_tokens_f_kinds script_tokens_f_values script_conditions_f_steps script_conditions_f_values script_conditions__size script_f_letOfLetter v_at v_joints x
  exact z_Par_condition ztru
theorem D_con {l : Launch} {G : GG} {b_ : Nat} {tru : RcF} {oktru : RcO} (ztru : ∀ {script_tokens_f_kinds : Nat → Int32} {script_tokens_f_values : Nat → Int32} {script_conditions_f_steps : Nat → Int32} {script_conditions_f_values : Nat → Int32} {script_conditions__size : Int32} {script_f_letOfLetter : Nat → Int32} {v_at : Int32} {v_joints : Int32} {x : Int32}, isB (tru script_tokens_f_kinds script_tokens_f_values script_conditions_f_steps script_conditions_f_values script_conditions__size script_f_letOfLetter v_at v_joints x).1) (htru : DetF l G y_Par_truth w_Par_truth b_ tru oktru) : DetF l G y_Par_condition w_Par_condition (b_ + 1) (B_con tru) (okB_con tru oktru) := by
  intro h script_h script_tokens_h script_tokens_a_kinds script_tokens_a_values script_tokens_a_places script_conditions_h script_conditions_a_steps script_conditions_a_values script_conditions_a_stack script_conditions_a_holding script_a_questions script_a_letStarts script_a_letEnds script_a_letOfLetter script_tokens_f_kinds script_tokens_f_values script_tokens__size script_conditions_f_steps script_conditions_f_values script_conditions__size script_conditions__height script__asked script_f_letOfLetter script__lets v_at v_joints x hok
  exact c_Par_condition l G b_ tru oktru ztru htru h script_h script_tokens_h script_tokens_a_kinds script_tokens_a_values script_tokens_a_places script_conditions_h script_conditions_a_steps script_conditions_a_values script_conditions_a_stack script_conditions_a_holding script_a_questions script_a_letStarts script_a_letEnds script_a_letOfLetter script_tokens_f_kinds script_tokens_f_values script_tokens__size script_conditions_f_steps script_conditions_f_values script_conditions__size script_conditions__height script__asked script_f_letOfLetter script__lets v_at v_joints x hok
theorem zB_tru {tru : RcF} {con : RcF} {sm : RcF} (ztru : ∀ {script_tokens_f_kinds : Nat → Int32} {script_tokens_f_values : Nat → Int32} {script_conditions_f_steps : Nat → Int32} {script_conditions_f_values : Nat → Int32} {script_conditions__size : Int32} {script_f_letOfLetter : Nat → Int32} {v_at : Int32} {v_joints : Int32} {x : Int32}, isB (tru script_tokens_f_kinds script_tokens_f_values script_conditions_f_steps script_conditions_f_values script_conditions__size script_f_letOfLetter v_at v_joints x).1) (zcon : ∀ {script_tokens_f_kinds : Nat → Int32} {script_tokens_f_values : Nat → Int32} {script_conditions_f_steps : Nat → Int32} {script_conditions_f_values : Nat → Int32} {script_conditions__size : Int32} {script_f_letOfLetter : Nat → Int32} {v_at : Int32} {v_joints : Int32} {x : Int32}, isB (con script_tokens_f_kinds script_tokens_f_values script_conditions_f_steps script_conditions_f_values script_conditions__size script_f_letOfLetter v_at v_joints x).1) (zsm : ∀ {script_tokens_f_kinds : Nat → Int32} {script_tokens_f_values : Nat → Int32} {script_conditions_f_steps : Nat → Int32} {script_conditions_f_values : Nat → Int32} {script_conditions__size : Int32} {script_f_letOfLetter : Nat → Int32} {v_at : Int32} {v_joints : Int32} {x : Int32}, isB (sm script_tokens_f_kinds script_tokens_f_values script_conditions_f_steps script_conditions_f_values script_conditions__size script_f_letOfLetter v_at v_joints x).1) : ∀ {script_tokens_f_kinds : _} {script_tokens_f_values : _} {script_conditions_f_steps : _} {script_conditions_f_values : _} {script_conditions__size : _} {script_f_letOfLetter : _} {v_at : _} {v_joints : _} {x : _}, isB (B_tru tru con sm script_tokens_f_kinds script_tokens_f_values script_conditions_f_steps script_conditions_f_values script_conditions__size script_f_letOfLetter v_at v_joints x).1 := by
  intro script_tokens_f_kinds script_tokens_f_values script_conditions_f_steps script_conditions_f_values script_conditions__size script_f_letOfLetter v_at v_joints x
  exact z_Par_truth ztru zcon zsm
theorem D_tru {l : Launch} {G : GG} {b_ : Nat} {tru : RcF} {oktru : RcO} {con : RcF} {okcon : RcO} {sm : RcF} {oksm : RcO} (ztru : ∀ {script_tokens_f_kinds : Nat → Int32} {script_tokens_f_values : Nat → Int32} {script_conditions_f_steps : Nat → Int32} {script_conditions_f_values : Nat → Int32} {script_conditions__size : Int32} {script_f_letOfLetter : Nat → Int32} {v_at : Int32} {v_joints : Int32} {x : Int32}, isB (tru script_tokens_f_kinds script_tokens_f_values script_conditions_f_steps script_conditions_f_values script_conditions__size script_f_letOfLetter v_at v_joints x).1) (zcon : ∀ {script_tokens_f_kinds : Nat → Int32} {script_tokens_f_values : Nat → Int32} {script_conditions_f_steps : Nat → Int32} {script_conditions_f_values : Nat → Int32} {script_conditions__size : Int32} {script_f_letOfLetter : Nat → Int32} {v_at : Int32} {v_joints : Int32} {x : Int32}, isB (con script_tokens_f_kinds script_tokens_f_values script_conditions_f_steps script_conditions_f_values script_conditions__size script_f_letOfLetter v_at v_joints x).1) (zsm : ∀ {script_tokens_f_kinds : Nat → Int32} {script_tokens_f_values : Nat → Int32} {script_conditions_f_steps : Nat → Int32} {script_conditions_f_values : Nat → Int32} {script_conditions__size : Int32} {script_f_letOfLetter : Nat → Int32} {v_at : Int32} {v_joints : Int32} {x : Int32}, isB (sm script_tokens_f_kinds script_tokens_f_values script_conditions_f_steps script_conditions_f_values script_conditions__size script_f_letOfLetter v_at v_joints x).1) (htru : DetF l G y_Par_truth w_Par_truth b_ tru oktru) (hcon : DetF l G y_Par_condition w_Par_condition (b_ + 1) con okcon) (hsm : DetF l G y_Par_sum w_Par_sum (b_ + 1) sm oksm) : DetF l G y_Par_truth w_Par_truth (b_ + 2) (B_tru tru con sm) (okB_tru tru oktru con okcon sm oksm) := by
  intro h script_h script_tokens_h script_tokens_a_kinds script_tokens_a_values script_tokens_a_places script_conditions_h script_conditions_a_steps script_conditions_a_values script_conditions_a_stack script_conditions_a_holding script_a_questions script_a_letStarts script_a_letEnds script_a_letOfLetter script_tokens_f_kinds script_tokens_f_values script_tokens__size script_conditions_f_steps script_conditions_f_values script_conditions__size script_conditions__height script__asked script_f_letOfLetter script__lets v_at v_joints x hok
  exact c_Par_truth l G b_ tru oktru con okcon sm oksm ztru zcon zsm htru hcon hsm h script_h script_tokens_h script_tokens_a_kinds script_tokens_a_values script_tokens_a_places script_conditions_h script_conditions_a_steps script_conditions_a_values script_conditions_a_stack script_conditions_a_holding script_a_questions script_a_letStarts script_a_letEnds script_a_letOfLetter script_tokens_f_kinds script_tokens_f_values script_tokens__size script_conditions_f_steps script_conditions_f_values script_conditions__size script_conditions__height script__asked script_f_letOfLetter script__lets v_at v_joints x hok
theorem zK_fac : ∀ (k : Nat) {script_tokens_f_kinds : _} {script_tokens_f_values : _} {script_conditions_f_steps : _} {script_conditions_f_values : _} {script_conditions__size : _} {script_f_letOfLetter : _} {v_at : _} {v_joints : _} {x : _}, isB (K_fac k script_tokens_f_kinds script_tokens_f_values script_conditions_f_steps script_conditions_f_values script_conditions__size script_f_letOfLetter v_at v_joints x).1 := by
  intro k
  induction k with
  | zero => intros; exact isB_0
  | succ k ih => intros; exact zB_fac ih (zB_sum ih)
theorem zK_sum (k : Nat) : ∀ {script_tokens_f_kinds : _} {script_tokens_f_values : _} {script_conditions_f_steps : _} {script_conditions_f_values : _} {script_conditions__size : _} {script_f_letOfLetter : _} {v_at : _} {v_joints : _} {x : _}, isB (K_sum k script_tokens_f_kinds script_tokens_f_values script_conditions_f_steps script_conditions_f_values script_conditions__size script_f_letOfLetter v_at v_joints x).1 := zB_sum (zK_fac k)
theorem zK_tru : ∀ (k : Nat) {script_tokens_f_kinds : _} {script_tokens_f_values : _} {script_conditions_f_steps : _} {script_conditions_f_values : _} {script_conditions__size : _} {script_f_letOfLetter : _} {v_at : _} {v_joints : _} {x : _}, isB (K_tru k script_tokens_f_kinds script_tokens_f_values script_conditions_f_steps script_conditions_f_values script_conditions__size script_f_letOfLetter v_at v_joints x).1 := by
  intro k
  induction k with
  | zero => intros; exact isB_0
  | succ k ih => intros; exact zB_tru ih (zB_con ih) (zK_sum (k + 1))
theorem zK_con {k : Nat} : ∀ {script_tokens_f_kinds : _} {script_tokens_f_values : _} {script_conditions_f_steps : _} {script_conditions_f_values : _} {script_conditions__size : _} {script_f_letOfLetter : _} {v_at : _} {v_joints : _} {x : _}, isB (K_con k script_tokens_f_kinds script_tokens_f_values script_conditions_f_steps script_conditions_f_values script_conditions__size script_f_letOfLetter v_at v_joints x).1 := zB_con (zK_tru k)
theorem DK_fac {l : Launch} {G : GG} : ∀ k : Nat, DetF l G y_Par_factor w_Par_factor (2 * k + 1) (K_fac k) (okK_fac k) := by
  intro k
  induction k with
  | zero => intro h script_h script_tokens_h script_tokens_a_kinds script_tokens_a_values script_tokens_a_places script_conditions_h script_conditions_a_steps script_conditions_a_values script_conditions_a_stack script_conditions_a_holding script_a_questions script_a_letStarts script_a_letEnds script_a_letOfLetter script_tokens_f_kinds script_tokens_f_values script_tokens__size script_conditions_f_steps script_conditions_f_values script_conditions__size script_conditions__height script__asked script_f_letOfLetter script__lets v_at v_joints x hok; exact hok.elim
  | succ k ih => exact D_fac (zK_fac k) (zB_sum (zK_fac k)) ih (D_sum (zK_fac k) ih)
theorem DK_sum {l : Launch} {G : GG} (k : Nat) : DetF l G y_Par_sum w_Par_sum (2 * k + 2) (K_sum k) (okK_sum k) := D_sum (zK_fac k) (DK_fac k)
theorem DK_tru {l : Launch} {G : GG} : ∀ k : Nat, DetF l G y_Par_truth w_Par_truth (2 * k + 3) (K_tru k) (okK_tru k) := by
  intro k
  induction k with
  | zero => intro h script_h script_tokens_h script_tokens_a_kinds script_tokens_a_values script_tokens_a_places script_conditions_h script_conditions_a_steps script_conditions_a_values script_conditions_a_stack script_conditions_a_holding script_a_questions script_a_letStarts script_a_letEnds script_a_letOfLetter script_tokens_f_kinds script_tokens_f_values script_tokens__size script_conditions_f_steps script_conditions_f_values script_conditions__size script_conditions__height script__asked script_f_letOfLetter script__lets v_at v_joints x hok; exact hok.elim
  | succ k ih => exact D_tru (zK_tru k) (zB_con (zK_tru k)) (zK_sum (k + 1)) ih (D_con (zK_tru k) ih) (DK_sum (k + 1))
theorem DK_con {l : Launch} {G : GG} (k : Nat) : DetF l G y_Par_condition w_Par_condition (2 * k + 4) (K_con k) (okK_con k) := D_con (zK_tru k) (DK_tru k)
