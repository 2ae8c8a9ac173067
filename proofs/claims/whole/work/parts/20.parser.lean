theorem d_Par_kind_0 : decode b_Par_kind 0 = .ok (.aload_n 0, 1) := by decide +kernel
theorem d_Par_kind_1 : decode b_Par_kind 1 = .ok (.getfield 27, 3) := by decide +kernel
theorem d_Par_kind_4 : decode b_Par_kind 4 = .ok (.aload_n 0, 1) := by decide +kernel
theorem d_Par_kind_5 : decode b_Par_kind 5 = .ok (.getfield 21, 3) := by decide +kernel
theorem d_Par_kind_8 : decode b_Par_kind 8 = .ok (.getfield 55, 3) := by decide +kernel
theorem d_Par_kind_11 : decode b_Par_kind 11 = .ok (.arraylength, 1) := by decide +kernel
theorem d_Par_kind_12 : decode b_Par_kind 12 = .ok (.if_icmp .ge 18, 3) := by decide +kernel
theorem d_Par_kind_15 : decode b_Par_kind 15 = .ok (.aload_n 0, 1) := by decide +kernel
theorem d_Par_kind_16 : decode b_Par_kind 16 = .ok (.getfield 21, 3) := by decide +kernel
theorem d_Par_kind_19 : decode b_Par_kind 19 = .ok (.getfield 55, 3) := by decide +kernel
theorem d_Par_kind_22 : decode b_Par_kind 22 = .ok (.aload_n 0, 1) := by decide +kernel
theorem d_Par_kind_23 : decode b_Par_kind 23 = .ok (.getfield 27, 3) := by decide +kernel
theorem d_Par_kind_26 : decode b_Par_kind 26 = .ok (.iaload, 1) := by decide +kernel
theorem d_Par_kind_27 : decode b_Par_kind 27 = .ok (.goto 4, 3) := by decide +kernel
theorem d_Par_kind_30 : decode b_Par_kind 30 = .ok (.iconst 0, 1) := by decide +kernel
theorem d_Par_kind_31 : decode b_Par_kind 31 = .ok (.ireturn, 1) := by decide +kernel
theorem d_Par_value_0 : decode b_Par_value 0 = .ok (.aload_n 0, 1) := by decide +kernel
theorem d_Par_value_1 : decode b_Par_value 1 = .ok (.getfield 27, 3) := by decide +kernel
theorem d_Par_value_4 : decode b_Par_value 4 = .ok (.aload_n 0, 1) := by decide +kernel
theorem d_Par_value_5 : decode b_Par_value 5 = .ok (.getfield 21, 3) := by decide +kernel
theorem d_Par_value_8 : decode b_Par_value 8 = .ok (.getfield 58, 3) := by decide +kernel
theorem d_Par_value_11 : decode b_Par_value 11 = .ok (.arraylength, 1) := by decide +kernel
theorem d_Par_value_12 : decode b_Par_value 12 = .ok (.if_icmp .ge 18, 3) := by decide +kernel
theorem d_Par_value_15 : decode b_Par_value 15 = .ok (.aload_n 0, 1) := by decide +kernel
theorem d_Par_value_16 : decode b_Par_value 16 = .ok (.getfield 21, 3) := by decide +kernel
theorem d_Par_value_19 : decode b_Par_value 19 = .ok (.getfield 58, 3) := by decide +kernel
theorem d_Par_value_22 : decode b_Par_value 22 = .ok (.aload_n 0, 1) := by decide +kernel
theorem d_Par_value_23 : decode b_Par_value 23 = .ok (.getfield 27, 3) := by decide +kernel
theorem d_Par_value_26 : decode b_Par_value 26 = .ok (.iaload, 1) := by decide +kernel
theorem d_Par_value_27 : decode b_Par_value 27 = .ok (.goto 4, 3) := by decide +kernel
theorem d_Par_value_30 : decode b_Par_value 30 = .ok (.iconst 0, 1) := by decide +kernel
theorem d_Par_value_31 : decode b_Par_value 31 = .ok (.ireturn, 1) := by decide +kernel
theorem d_Par_take_0 : decode b_Par_take 0 = .ok (.aload_n 0, 1) := by decide +kernel
theorem d_Par_take_1 : decode b_Par_take 1 = .ok (.getfield 27, 3) := by decide +kernel
theorem d_Par_take_4 : decode b_Par_take 4 = .ok (.aload_n 0, 1) := by decide +kernel
theorem d_Par_take_5 : decode b_Par_take 5 = .ok (.getfield 21, 3) := by decide +kernel
theorem d_Par_take_8 : decode b_Par_take 8 = .ok (.getfield 55, 3) := by decide +kernel
theorem d_Par_take_11 : decode b_Par_take 11 = .ok (.arraylength, 1) := by decide +kernel
theorem d_Par_take_12 : decode b_Par_take 12 = .ok (.if_icmp .ge 19, 3) := by decide +kernel
theorem d_Par_take_15 : decode b_Par_take 15 = .ok (.aload_n 0, 1) := by decide +kernel
theorem d_Par_take_16 : decode b_Par_take 16 = .ok (.getfield 21, 3) := by decide +kernel
theorem d_Par_take_19 : decode b_Par_take 19 = .ok (.getfield 55, 3) := by decide +kernel
theorem d_Par_take_22 : decode b_Par_take 22 = .ok (.aload_n 0, 1) := by decide +kernel
theorem d_Par_take_23 : decode b_Par_take 23 = .ok (.getfield 27, 3) := by decide +kernel
theorem d_Par_take_26 : decode b_Par_take 26 = .ok (.iaload, 1) := by decide +kernel
theorem d_Par_take_27 : decode b_Par_take 27 = .ok (.iload_n 1, 1) := by decide +kernel
theorem d_Par_take_28 : decode b_Par_take 28 = .ok (.if_icmp .eq 5, 3) := by decide +kernel
theorem d_Par_take_31 : decode b_Par_take 31 = .ok (.iconst 0, 1) := by decide +kernel
theorem d_Par_take_32 : decode b_Par_take 32 = .ok (.ireturn, 1) := by decide +kernel
theorem d_Par_take_33 : decode b_Par_take 33 = .ok (.aload_n 0, 1) := by decide +kernel
theorem d_Par_take_34 : decode b_Par_take 34 = .ok (.dup, 1) := by decide +kernel
theorem d_Par_take_35 : decode b_Par_take 35 = .ok (.getfield 27, 3) := by decide +kernel
theorem d_Par_take_38 : decode b_Par_take 38 = .ok (.iconst 1, 1) := by decide +kernel
theorem d_Par_take_39 : decode b_Par_take 39 = .ok (.iadd, 1) := by decide +kernel
theorem d_Par_take_40 : decode b_Par_take 40 = .ok (.putfield 27, 3) := by decide +kernel
theorem d_Par_take_43 : decode b_Par_take 43 = .ok (.iconst 1, 1) := by decide +kernel
theorem d_Par_take_44 : decode b_Par_take 44 = .ok (.ireturn, 1) := by decide +kernel
theorem d_Par_takeJoint_0 : decode b_Par_takeJoint 0 = .ok (.aload_n 0, 1) := by decide +kernel
theorem d_Par_takeJoint_1 : decode b_Par_takeJoint 1 = .ok (.getfield 31, 3) := by decide +kernel
theorem d_Par_takeJoint_4 : decode b_Par_takeJoint 4 = .ok (.sipush 150, 3) := by decide +kernel
theorem d_Par_takeJoint_7 : decode b_Par_takeJoint 7 = .ok (.if_icmp .lt 5, 3) := by decide +kernel
theorem d_Par_takeJoint_10 : decode b_Par_takeJoint 10 = .ok (.iconst 0, 1) := by decide +kernel
theorem d_Par_takeJoint_11 : decode b_Par_takeJoint 11 = .ok (.ireturn, 1) := by decide +kernel
theorem d_Par_takeJoint_12 : decode b_Par_takeJoint 12 = .ok (.aload_n 0, 1) := by decide +kernel
theorem d_Par_takeJoint_13 : decode b_Par_takeJoint 13 = .ok (.dup, 1) := by decide +kernel
theorem d_Par_takeJoint_14 : decode b_Par_takeJoint 14 = .ok (.getfield 31, 3) := by decide +kernel
theorem d_Par_takeJoint_17 : decode b_Par_takeJoint 17 = .ok (.iconst 1, 1) := by decide +kernel
theorem d_Par_takeJoint_18 : decode b_Par_takeJoint 18 = .ok (.iadd, 1) := by decide +kernel
theorem d_Par_takeJoint_19 : decode b_Par_takeJoint 19 = .ok (.putfield 31, 3) := by decide +kernel
theorem d_Par_takeJoint_22 : decode b_Par_takeJoint 22 = .ok (.aload_n 0, 1) := by decide +kernel
theorem d_Par_takeJoint_23 : decode b_Par_takeJoint 23 = .ok (.dup, 1) := by decide +kernel
theorem d_Par_takeJoint_24 : decode b_Par_takeJoint 24 = .ok (.getfield 27, 3) := by decide +kernel
theorem d_Par_takeJoint_27 : decode b_Par_takeJoint 27 = .ok (.iconst 1, 1) := by decide +kernel
theorem d_Par_takeJoint_28 : decode b_Par_takeJoint 28 = .ok (.iadd, 1) := by decide +kernel
theorem d_Par_takeJoint_29 : decode b_Par_takeJoint 29 = .ok (.putfield 27, 3) := by decide +kernel
theorem d_Par_takeJoint_32 : decode b_Par_takeJoint 32 = .ok (.iconst 1, 1) := by decide +kernel
theorem d_Par_takeJoint_33 : decode b_Par_takeJoint 33 = .ok (.ireturn, 1) := by decide +kernel
theorem d_Par_takeDeeper_0 : decode b_Par_takeDeeper 0 = .ok (.iload_n 1, 1) := by decide +kernel
theorem d_Par_takeDeeper_1 : decode b_Par_takeDeeper 1 = .ok (.bipush 20, 2) := by decide +kernel
theorem d_Par_takeDeeper_3 : decode b_Par_takeDeeper 3 = .ok (.if_icmp .lt 5, 3) := by decide +kernel
theorem d_Par_takeDeeper_6 : decode b_Par_takeDeeper 6 = .ok (.iconst 0, 1) := by decide +kernel
theorem d_Par_takeDeeper_7 : decode b_Par_takeDeeper 7 = .ok (.ireturn, 1) := by decide +kernel
theorem d_Par_takeDeeper_8 : decode b_Par_takeDeeper 8 = .ok (.aload_n 0, 1) := by decide +kernel
theorem d_Par_takeDeeper_9 : decode b_Par_takeDeeper 9 = .ok (.dup, 1) := by decide +kernel
theorem d_Par_takeDeeper_10 : decode b_Par_takeDeeper 10 = .ok (.getfield 27, 3) := by decide +kernel
theorem d_Par_takeDeeper_13 : decode b_Par_takeDeeper 13 = .ok (.iconst 1, 1) := by decide +kernel
theorem d_Par_takeDeeper_14 : decode b_Par_takeDeeper 14 = .ok (.iadd, 1) := by decide +kernel
theorem d_Par_takeDeeper_15 : decode b_Par_takeDeeper 15 = .ok (.putfield 27, 3) := by decide +kernel
theorem d_Par_takeDeeper_18 : decode b_Par_takeDeeper 18 = .ok (.iconst 1, 1) := by decide +kernel
theorem d_Par_takeDeeper_19 : decode b_Par_takeDeeper 19 = .ok (.ireturn, 1) := by decide +kernel
theorem d_Par_isNumber_0 : decode b_Par_isNumber 0 = .ok (.aload_n 0, 1) := by decide +kernel
theorem d_Par_isNumber_1 : decode b_Par_isNumber 1 = .ok (.invokevirtual 34, 3) := by decide +kernel
theorem d_Par_isNumber_4 : decode b_Par_isNumber 4 = .ok (.iconst 2, 1) := by decide +kernel
theorem d_Par_isNumber_5 : decode b_Par_isNumber 5 = .ok (.if_icmp .ne 23, 3) := by decide +kernel
theorem d_Par_isNumber_8 : decode b_Par_isNumber 8 = .ok (.aload_n 0, 1) := by decide +kernel
theorem d_Par_isNumber_9 : decode b_Par_isNumber 9 = .ok (.invokevirtual 61, 3) := by decide +kernel
theorem d_Par_isNumber_12 : decode b_Par_isNumber 12 = .ok (.iload_n 1, 1) := by decide +kernel
theorem d_Par_isNumber_13 : decode b_Par_isNumber 13 = .ok (.if_icmp .lt 15, 3) := by decide +kernel
theorem d_Par_isNumber_16 : decode b_Par_isNumber 16 = .ok (.aload_n 0, 1) := by decide +kernel
theorem d_Par_isNumber_17 : decode b_Par_isNumber 17 = .ok (.invokevirtual 61, 3) := by decide +kernel
theorem d_Par_isNumber_20 : decode b_Par_isNumber 20 = .ok (.iload_n 2, 1) := by decide +kernel
theorem d_Par_isNumber_21 : decode b_Par_isNumber 21 = .ok (.if_icmp .gt 7, 3) := by decide +kernel
theorem d_Par_isNumber_24 : decode b_Par_isNumber 24 = .ok (.iconst 1, 1) := by decide +kernel
theorem d_Par_isNumber_25 : decode b_Par_isNumber 25 = .ok (.goto 4, 3) := by decide +kernel
theorem d_Par_isNumber_28 : decode b_Par_isNumber 28 = .ok (.iconst 0, 1) := by decide +kernel
theorem d_Par_isNumber_29 : decode b_Par_isNumber 29 = .ok (.ireturn, 1) := by decide +kernel
theorem d_Par_column_0 : decode b_Par_column 0 = .ok (.aload_n 1, 1) := by decide +kernel
theorem d_Par_column_1 : decode b_Par_column 1 = .ok (.aload_n 0, 1) := by decide +kernel
theorem d_Par_column_2 : decode b_Par_column 2 = .ok (.invokevirtual 61, 3) := by decide +kernel
theorem d_Par_column_5 : decode b_Par_column 5 = .ok (.putfield 125, 3) := by decide +kernel
theorem d_Par_column_8 : decode b_Par_column 8 = .ok (.aload_n 0, 1) := by decide +kernel
theorem d_Par_column_9 : decode b_Par_column 9 = .ok (.iconst 3, 1) := by decide +kernel
theorem d_Par_column_10 : decode b_Par_column 10 = .ok (.invokevirtual 47, 3) := by decide +kernel
theorem d_Par_column_13 : decode b_Par_column 13 = .ok (.ireturn, 1) := by decide +kernel
theorem d_Par_bounds_0 : decode b_Par_bounds 0 = .ok (.aload_n 0, 1) := by decide +kernel
theorem d_Par_bounds_1 : decode b_Par_bounds 1 = .ok (.bipush 10, 2) := by decide +kernel
theorem d_Par_bounds_3 : decode b_Par_bounds 3 = .ok (.invokevirtual 47, 3) := by decide +kernel
theorem d_Par_bounds_6 : decode b_Par_bounds 6 = .ok (.ifCond .eq 14, 3) := by decide +kernel
theorem d_Par_bounds_9 : decode b_Par_bounds 9 = .ok (.aload_n 0, 1) := by decide +kernel
theorem d_Par_bounds_10 : decode b_Par_bounds 10 = .ok (.iconst 1, 1) := by decide +kernel
theorem d_Par_bounds_11 : decode b_Par_bounds 11 = .ok (.sipush 1000, 3) := by decide +kernel
theorem d_Par_bounds_14 : decode b_Par_bounds 14 = .ok (.invokevirtual 102, 3) := by decide +kernel
theorem d_Par_bounds_17 : decode b_Par_bounds 17 = .ok (.ifCond .ne 5, 3) := by decide +kernel
theorem d_Par_bounds_20 : decode b_Par_bounds 20 = .ok (.iconst 0, 1) := by decide +kernel
theorem d_Par_bounds_21 : decode b_Par_bounds 21 = .ok (.ireturn, 1) := by decide +kernel
theorem d_Par_bounds_22 : decode b_Par_bounds 22 = .ok (.aload_n 1, 1) := by decide +kernel
theorem d_Par_bounds_23 : decode b_Par_bounds 23 = .ok (.aload_n 0, 1) := by decide +kernel
theorem d_Par_bounds_24 : decode b_Par_bounds 24 = .ok (.invokevirtual 61, 3) := by decide +kernel
theorem d_Par_bounds_27 : decode b_Par_bounds 27 = .ok (.putfield 127, 3) := by decide +kernel
theorem d_Par_bounds_30 : decode b_Par_bounds 30 = .ok (.aload_n 0, 1) := by decide +kernel
theorem d_Par_bounds_31 : decode b_Par_bounds 31 = .ok (.dup, 1) := by decide +kernel
theorem d_Par_bounds_32 : decode b_Par_bounds 32 = .ok (.getfield 27, 3) := by decide +kernel
theorem d_Par_bounds_35 : decode b_Par_bounds 35 = .ok (.iconst 1, 1) := by decide +kernel
theorem d_Par_bounds_36 : decode b_Par_bounds 36 = .ok (.iadd, 1) := by decide +kernel
theorem d_Par_bounds_37 : decode b_Par_bounds 37 = .ok (.putfield 27, 3) := by decide +kernel
theorem d_Par_bounds_40 : decode b_Par_bounds 40 = .ok (.aload_n 0, 1) := by decide +kernel
theorem d_Par_bounds_41 : decode b_Par_bounds 41 = .ok (.bipush 11, 2) := by decide +kernel
theorem d_Par_bounds_43 : decode b_Par_bounds 43 = .ok (.invokevirtual 47, 3) := by decide +kernel
theorem d_Par_bounds_46 : decode b_Par_bounds 46 = .ok (.ifCond .ne 5, 3) := by decide +kernel
theorem d_Par_bounds_49 : decode b_Par_bounds 49 = .ok (.iconst 1, 1) := by decide +kernel
theorem d_Par_bounds_50 : decode b_Par_bounds 50 = .ok (.ireturn, 1) := by decide +kernel
theorem d_Par_bounds_51 : decode b_Par_bounds 51 = .ok (.aload_n 0, 1) := by decide +kernel
theorem d_Par_bounds_52 : decode b_Par_bounds 52 = .ok (.iconst 1, 1) := by decide +kernel
theorem d_Par_bounds_53 : decode b_Par_bounds 53 = .ok (.sipush 1000, 3) := by decide +kernel
theorem d_Par_bounds_56 : decode b_Par_bounds 56 = .ok (.invokevirtual 102, 3) := by decide +kernel
theorem d_Par_bounds_59 : decode b_Par_bounds 59 = .ok (.ifCond .ne 5, 3) := by decide +kernel
theorem d_Par_bounds_62 : decode b_Par_bounds 62 = .ok (.iconst 0, 1) := by decide +kernel
theorem d_Par_bounds_63 : decode b_Par_bounds 63 = .ok (.ireturn, 1) := by decide +kernel
theorem d_Par_bounds_64 : decode b_Par_bounds 64 = .ok (.aload_n 1, 1) := by decide +kernel
theorem d_Par_bounds_65 : decode b_Par_bounds 65 = .ok (.aload_n 0, 1) := by decide +kernel
theorem d_Par_bounds_66 : decode b_Par_bounds 66 = .ok (.invokevirtual 61, 3) := by decide +kernel
theorem d_Par_bounds_69 : decode b_Par_bounds 69 = .ok (.putfield 130, 3) := by decide +kernel
theorem d_Par_bounds_72 : decode b_Par_bounds 72 = .ok (.aload_n 0, 1) := by decide +kernel
theorem d_Par_bounds_73 : decode b_Par_bounds 73 = .ok (.dup, 1) := by decide +kernel
theorem d_Par_bounds_74 : decode b_Par_bounds 74 = .ok (.getfield 27, 3) := by decide +kernel
theorem d_Par_bounds_77 : decode b_Par_bounds 77 = .ok (.iconst 1, 1) := by decide +kernel
theorem d_Par_bounds_78 : decode b_Par_bounds 78 = .ok (.iadd, 1) := by decide +kernel
theorem d_Par_bounds_79 : decode b_Par_bounds 79 = .ok (.putfield 27, 3) := by decide +kernel
theorem d_Par_bounds_82 : decode b_Par_bounds 82 = .ok (.iconst 1, 1) := by decide +kernel
theorem d_Par_bounds_83 : decode b_Par_bounds 83 = .ok (.ireturn, 1) := by decide +kernel
theorem d_Par_range_0 : decode b_Par_range 0 = .ok (.aload_n 0, 1) := by decide +kernel
theorem d_Par_range_1 : decode b_Par_range 1 = .ok (.bipush 9, 2) := by decide +kernel
theorem d_Par_range_3 : decode b_Par_range 3 = .ok (.invokevirtual 47, 3) := by decide +kernel
theorem d_Par_range_6 : decode b_Par_range 6 = .ok (.ifCond .ne 5, 3) := by decide +kernel
theorem d_Par_range_9 : decode b_Par_range 9 = .ok (.iconst 0, 1) := by decide +kernel
theorem d_Par_range_10 : decode b_Par_range 10 = .ok (.ireturn, 1) := by decide +kernel
theorem d_Par_range_11 : decode b_Par_range 11 = .ok (.aload_n 0, 1) := by decide +kernel
theorem d_Par_range_12 : decode b_Par_range 12 = .ok (.bipush 24, 2) := by decide +kernel
theorem d_Par_range_14 : decode b_Par_range 14 = .ok (.invokevirtual 47, 3) := by decide +kernel
theorem d_Par_range_17 : decode b_Par_range 17 = .ok (.ifCond .eq 7, 3) := by decide +kernel
theorem d_Par_range_20 : decode b_Par_range 20 = .ok (.iconst (-1), 1) := by decide +kernel
theorem d_Par_range_21 : decode b_Par_range 21 = .ok (.goto 4, 3) := by decide +kernel
theorem d_Par_range_24 : decode b_Par_range 24 = .ok (.iconst 1, 1) := by decide +kernel
theorem d_Par_range_25 : decode b_Par_range 25 = .ok (.istore_n 2, 1) := by decide +kernel
theorem d_Par_range_26 : decode b_Par_range 26 = .ok (.aload_n 1, 1) := by decide +kernel
theorem d_Par_range_27 : decode b_Par_range 27 = .ok (.iload_n 2, 1) := by decide +kernel
theorem d_Par_range_28 : decode b_Par_range 28 = .ok (.aload_n 0, 1) := by decide +kernel
theorem d_Par_range_29 : decode b_Par_range 29 = .ok (.invokevirtual 61, 3) := by decide +kernel
theorem d_Par_range_32 : decode b_Par_range 32 = .ok (.imul, 1) := by decide +kernel
theorem d_Par_range_33 : decode b_Par_range 33 = .ok (.putfield 133, 3) := by decide +kernel
theorem d_Par_range_36 : decode b_Par_range 36 = .ok (.aload_n 0, 1) := by decide +kernel
theorem d_Par_range_37 : decode b_Par_range 37 = .ok (.iconst 2, 1) := by decide +kernel
theorem d_Par_range_38 : decode b_Par_range 38 = .ok (.invokevirtual 47, 3) := by decide +kernel
theorem d_Par_range_41 : decode b_Par_range 41 = .ok (.ifCond .eq 12, 3) := by decide +kernel
theorem d_Par_range_44 : decode b_Par_range 44 = .ok (.aload_n 0, 1) := by decide +kernel
theorem d_Par_range_45 : decode b_Par_range 45 = .ok (.bipush 10, 2) := by decide +kernel
theorem d_Par_range_47 : decode b_Par_range 47 = .ok (.invokevirtual 47, 3) := by decide +kernel
theorem d_Par_range_50 : decode b_Par_range 50 = .ok (.ifCond .ne 5, 3) := by decide +kernel
theorem d_Par_range_53 : decode b_Par_range 53 = .ok (.iconst 0, 1) := by decide +kernel
theorem d_Par_range_54 : decode b_Par_range 54 = .ok (.ireturn, 1) := by decide +kernel
theorem d_Par_range_55 : decode b_Par_range 55 = .ok (.aload_n 0, 1) := by decide +kernel
theorem d_Par_range_56 : decode b_Par_range 56 = .ok (.bipush 24, 2) := by decide +kernel
theorem d_Par_range_58 : decode b_Par_range 58 = .ok (.invokevirtual 47, 3) := by decide +kernel
theorem d_Par_range_61 : decode b_Par_range 61 = .ok (.ifCond .eq 7, 3) := by decide +kernel
theorem d_Par_range_64 : decode b_Par_range 64 = .ok (.iconst (-1), 1) := by decide +kernel
theorem d_Par_range_65 : decode b_Par_range 65 = .ok (.goto 4, 3) := by decide +kernel
theorem d_Par_range_68 : decode b_Par_range 68 = .ok (.iconst 1, 1) := by decide +kernel
theorem d_Par_range_69 : decode b_Par_range 69 = .ok (.istore_n 3, 1) := by decide +kernel
theorem d_Par_range_70 : decode b_Par_range 70 = .ok (.aload_n 1, 1) := by decide +kernel
theorem d_Par_range_71 : decode b_Par_range 71 = .ok (.iload_n 3, 1) := by decide +kernel
theorem d_Par_range_72 : decode b_Par_range 72 = .ok (.aload_n 0, 1) := by decide +kernel
theorem d_Par_range_73 : decode b_Par_range 73 = .ok (.invokevirtual 61, 3) := by decide +kernel
theorem d_Par_range_76 : decode b_Par_range 76 = .ok (.imul, 1) := by decide +kernel
theorem d_Par_range_77 : decode b_Par_range 77 = .ok (.putfield 127, 3) := by decide +kernel
theorem d_Par_range_80 : decode b_Par_range 80 = .ok (.aload_n 1, 1) := by decide +kernel
theorem d_Par_range_81 : decode b_Par_range 81 = .ok (.getfield 127, 3) := by decide +kernel
theorem d_Par_range_84 : decode b_Par_range 84 = .ok (.i2l, 1) := by decide +kernel
theorem d_Par_range_85 : decode b_Par_range 85 = .ok (.aload_n 1, 1) := by decide +kernel
theorem d_Par_range_86 : decode b_Par_range 86 = .ok (.getfield 133, 3) := by decide +kernel
theorem d_Par_range_89 : decode b_Par_range 89 = .ok (.i2l, 1) := by decide +kernel
theorem d_Par_range_90 : decode b_Par_range 90 = .ok (.lsub, 1) := by decide +kernel
theorem d_Par_range_91 : decode b_Par_range 91 = .ok (.lstore 4, 2) := by decide +kernel
theorem d_Par_range_93 : decode b_Par_range 93 = .ok (.lload 4, 2) := by decide +kernel
theorem d_Par_range_95 : decode b_Par_range 95 = .ok (.lconst 0, 1) := by decide +kernel
theorem d_Par_range_96 : decode b_Par_range 96 = .ok (.lcmp, 1) := by decide +kernel
theorem d_Par_range_97 : decode b_Par_range 97 = .ok (.ifCond .lt 24, 3) := by decide +kernel
theorem d_Par_range_100 : decode b_Par_range 100 = .ok (.lload 4, 2) := by decide +kernel
theorem d_Par_range_102 : decode b_Par_range 102 = .ok (.ldc2_w 136, 3) := by decide +kernel
theorem d_Par_range_105 : decode b_Par_range 105 = .ok (.lcmp, 1) := by decide +kernel
theorem d_Par_range_106 : decode b_Par_range 106 = .ok (.ifCond .ge 15, 3) := by decide +kernel
theorem d_Par_range_109 : decode b_Par_range 109 = .ok (.aload_n 0, 1) := by decide +kernel
theorem d_Par_range_110 : decode b_Par_range 110 = .ok (.iconst 2, 1) := by decide +kernel
theorem d_Par_range_111 : decode b_Par_range 111 = .ok (.invokevirtual 47, 3) := by decide +kernel
theorem d_Par_range_114 : decode b_Par_range 114 = .ok (.ifCond .eq 7, 3) := by decide +kernel
theorem d_Par_range_117 : decode b_Par_range 117 = .ok (.iconst 1, 1) := by decide +kernel
theorem d_Par_range_118 : decode b_Par_range 118 = .ok (.goto 4, 3) := by decide +kernel
theorem d_Par_range_121 : decode b_Par_range 121 = .ok (.iconst 0, 1) := by decide +kernel
theorem d_Par_range_122 : decode b_Par_range 122 = .ok (.ireturn, 1) := by decide +kernel
theorem d_Par_head_0 : decode b_Par_head 0 = .ok (.aload_n 0, 1) := by decide +kernel
theorem d_Par_head_1 : decode b_Par_head 1 = .ok (.bipush 6, 2) := by decide +kernel
theorem d_Par_head_3 : decode b_Par_head 3 = .ok (.invokevirtual 47, 3) := by decide +kernel
theorem d_Par_head_6 : decode b_Par_head 6 = .ok (.ifCond .eq 10, 3) := by decide +kernel
theorem d_Par_head_9 : decode b_Par_head 9 = .ok (.aload_n 1, 1) := by decide +kernel
theorem d_Par_head_10 : decode b_Par_head 10 = .ok (.iconst 0, 1) := by decide +kernel
theorem d_Par_head_11 : decode b_Par_head 11 = .ok (.invokevirtual 112, 3) := by decide +kernel
theorem d_Par_head_14 : decode b_Par_head 14 = .ok (.iconst 1, 1) := by decide +kernel
theorem d_Par_head_15 : decode b_Par_head 15 = .ok (.ireturn, 1) := by decide +kernel
theorem d_Par_head_16 : decode b_Par_head 16 = .ok (.aload_n 0, 1) := by decide +kernel
theorem d_Par_head_17 : decode b_Par_head 17 = .ok (.bipush 7, 2) := by decide +kernel
theorem d_Par_head_19 : decode b_Par_head 19 = .ok (.invokevirtual 47, 3) := by decide +kernel
theorem d_Par_head_22 : decode b_Par_head 22 = .ok (.ifCond .eq 30, 3) := by decide +kernel
theorem d_Par_head_25 : decode b_Par_head 25 = .ok (.aload_n 1, 1) := by decide +kernel
theorem d_Par_head_26 : decode b_Par_head 26 = .ok (.iconst 1, 1) := by decide +kernel
theorem d_Par_head_27 : decode b_Par_head 27 = .ok (.invokevirtual 112, 3) := by decide +kernel
theorem d_Par_head_30 : decode b_Par_head 30 = .ok (.aload_n 0, 1) := by decide +kernel
theorem d_Par_head_31 : decode b_Par_head 31 = .ok (.aload_n 1, 1) := by decide +kernel
theorem d_Par_head_32 : decode b_Par_head 32 = .ok (.invokevirtual 116, 3) := by decide +kernel
theorem d_Par_head_35 : decode b_Par_head 35 = .ok (.ifCond .eq 15, 3) := by decide +kernel
theorem d_Par_head_38 : decode b_Par_head 38 = .ok (.aload_n 0, 1) := by decide +kernel
theorem d_Par_head_39 : decode b_Par_head 39 = .ok (.aload_n 1, 1) := by decide +kernel
theorem d_Par_head_40 : decode b_Par_head 40 = .ok (.invokevirtual 119, 3) := by decide +kernel
theorem d_Par_head_43 : decode b_Par_head 43 = .ok (.ifCond .eq 7, 3) := by decide +kernel
theorem d_Par_head_46 : decode b_Par_head 46 = .ok (.iconst 1, 1) := by decide +kernel
theorem d_Par_head_47 : decode b_Par_head 47 = .ok (.goto 4, 3) := by decide +kernel
theorem d_Par_head_50 : decode b_Par_head 50 = .ok (.iconst 0, 1) := by decide +kernel
theorem d_Par_head_51 : decode b_Par_head 51 = .ok (.ireturn, 1) := by decide +kernel
theorem d_Par_head_52 : decode b_Par_head 52 = .ok (.aload_n 0, 1) := by decide +kernel
theorem d_Par_head_53 : decode b_Par_head 53 = .ok (.bipush 8, 2) := by decide +kernel
theorem d_Par_head_55 : decode b_Par_head 55 = .ok (.invokevirtual 47, 3) := by decide +kernel
theorem d_Par_head_58 : decode b_Par_head 58 = .ok (.ifCond .eq 30, 3) := by decide +kernel
theorem d_Par_head_61 : decode b_Par_head 61 = .ok (.aload_n 1, 1) := by decide +kernel
theorem d_Par_head_62 : decode b_Par_head 62 = .ok (.iconst 2, 1) := by decide +kernel
theorem d_Par_head_63 : decode b_Par_head 63 = .ok (.invokevirtual 112, 3) := by decide +kernel
theorem d_Par_head_66 : decode b_Par_head 66 = .ok (.aload_n 0, 1) := by decide +kernel
theorem d_Par_head_67 : decode b_Par_head 67 = .ok (.aload_n 1, 1) := by decide +kernel
theorem d_Par_head_68 : decode b_Par_head 68 = .ok (.invokevirtual 116, 3) := by decide +kernel
theorem d_Par_head_71 : decode b_Par_head 71 = .ok (.ifCond .eq 15, 3) := by decide +kernel
theorem d_Par_head_74 : decode b_Par_head 74 = .ok (.aload_n 0, 1) := by decide +kernel
theorem d_Par_head_75 : decode b_Par_head 75 = .ok (.aload_n 1, 1) := by decide +kernel
theorem d_Par_head_76 : decode b_Par_head 76 = .ok (.invokevirtual 122, 3) := by decide +kernel
theorem d_Par_head_79 : decode b_Par_head 79 = .ok (.ifCond .eq 7, 3) := by decide +kernel
theorem d_Par_head_82 : decode b_Par_head 82 = .ok (.iconst 1, 1) := by decide +kernel
theorem d_Par_head_83 : decode b_Par_head 83 = .ok (.goto 4, 3) := by decide +kernel
theorem d_Par_head_86 : decode b_Par_head 86 = .ok (.iconst 0, 1) := by decide +kernel
theorem d_Par_head_87 : decode b_Par_head 87 = .ok (.ireturn, 1) := by decide +kernel
theorem d_Par_head_88 : decode b_Par_head 88 = .ok (.iconst 0, 1) := by decide +kernel
theorem d_Par_head_89 : decode b_Par_head 89 = .ok (.ireturn, 1) := by decide +kernel
theorem k_129 : (.fieldLink R_Par 27 "PrivateQueries$Parser" "at" "I" : Cond) ∈ wG := wGm 624 (by decide +kernel) (by decide +kernel)
theorem k_130 : (.fieldLink R_Par 21 "PrivateQueries$Parser" "tokens" "LPrivateQueries$Tokens;" : Cond) ∈ wG := wGm 622 (by decide +kernel) (by decide +kernel)
theorem k_131 : (.fieldLink R_Par 55 "PrivateQueries$Tokens" "kinds" "[I" : Cond) ∈ wG := wGm 221 (by decide +kernel) (by decide +kernel)
theorem k_132 : (.fieldLink R_Par 58 "PrivateQueries$Tokens" "values" "[I" : Cond) ∈ wG := wGm 223 (by decide +kernel) (by decide +kernel)
theorem k_133 : (.fieldLink R_Par 31 "PrivateQueries$Parser" "joints" "I" : Cond) ∈ wG := wGm 625 (by decide +kernel) (by decide +kernel)
theorem k_134 : (.methodLink R_Par 34 y_Par_kind : Cond) ∈ wG := wGm 642 (by decide +kernel) (by decide +kernel)
theorem k_135 : (.instanceMethod y_Par_kind : Cond) ∈ wG := wGm 644 (by decide +kernel) (by decide +kernel)
theorem k_136 : (.selects R_Par y_Par_kind y_Par_kind : Cond) ∈ wG := wGm 5 (by decide +kernel) (by decide +kernel)
theorem k_137 : (.initialized R_Par : Cond) ∈ wG := wGm 104 (by decide +kernel) (by decide +kernel)
theorem k_138 : (.code y_Par_kind b_Par_kind 1 (some .int) : Cond) ∈ wG := wGm 645 (by decide +kernel) (by decide +kernel)
theorem k_139 : (.methodLink R_Par 61 y_Par_value : Cond) ∈ wG := wGm 651 (by decide +kernel) (by decide +kernel)
theorem k_140 : (.instanceMethod y_Par_value : Cond) ∈ wG := wGm 653 (by decide +kernel) (by decide +kernel)
theorem k_141 : (.selects R_Par y_Par_value y_Par_value : Cond) ∈ wG := wGm 7 (by decide +kernel) (by decide +kernel)
theorem k_142 : (.code y_Par_value b_Par_value 1 (some .int) : Cond) ∈ wG := wGm 654 (by decide +kernel) (by decide +kernel)
theorem k_143 : (.fieldLink R_Par 125 "PrivateQueries$Question" "column" "I" : Cond) ∈ wG := wGm 271 (by decide +kernel) (by decide +kernel)
theorem k_144 : (.methodLink R_Par 47 y_Par_take : Cond) ∈ wG := wGm 663 (by decide +kernel) (by decide +kernel)
theorem k_145 : (.instanceMethod y_Par_take : Cond) ∈ wG := wGm 665 (by decide +kernel) (by decide +kernel)
theorem k_146 : (.selects R_Par y_Par_take y_Par_take : Cond) ∈ wG := wGm 8 (by decide +kernel) (by decide +kernel)
theorem k_147 : (.code y_Par_take b_Par_take 2 (some .boolean) : Cond) ∈ wG := wGm 666 (by decide +kernel) (by decide +kernel)
theorem k_148 : (.methodLink R_Par 102 y_Par_isNumber : Cond) ∈ wG := wGm 727 (by decide +kernel) (by decide +kernel)
theorem k_149 : (.instanceMethod y_Par_isNumber : Cond) ∈ wG := wGm 729 (by decide +kernel) (by decide +kernel)
theorem k_150 : (.selects R_Par y_Par_isNumber y_Par_isNumber : Cond) ∈ wG := wGm 19 (by decide +kernel) (by decide +kernel)
theorem k_151 : (.code y_Par_isNumber b_Par_isNumber 3 (some .boolean) : Cond) ∈ wG := wGm 730 (by decide +kernel) (by decide +kernel)
theorem k_152 : (.fieldLink R_Par 127 "PrivateQueries$Question" "high" "I" : Cond) ∈ wG := wGm 276 (by decide +kernel) (by decide +kernel)
theorem k_153 : (.fieldLink R_Par 130 "PrivateQueries$Question" "by" "I" : Cond) ∈ wG := wGm 278 (by decide +kernel) (by decide +kernel)
theorem k_154 : (.fieldLink R_Par 133 "PrivateQueries$Question" "low" "I" : Cond) ∈ wG := wGm 274 (by decide +kernel) (by decide +kernel)
theorem k_155 : (.constantLong R_Par 136 20 : Cond) ∈ wG := wGm 735 (by decide +kernel) (by decide +kernel)
theorem k_156 : (.methodLink R_Par 112 y_Qu_begin : Cond) ∈ wG := wGm 715 (by decide +kernel) (by decide +kernel)
theorem k_157 : (.instanceMethod y_Qu_begin : Cond) ∈ wG := wGm 716 (by decide +kernel) (by decide +kernel)
theorem k_158 : (.selects R_Qu y_Qu_begin y_Qu_begin : Cond) ∈ wG := wGm 717 (by decide +kernel) (by decide +kernel)
theorem k_159 : (.code y_Qu_begin b_Qu_begin 2 none : Cond) ∈ wG := wGm 718 (by decide +kernel) (by decide +kernel)
theorem k_160 : (.methodLink R_Par 116 y_Par_column : Cond) ∈ wG := wGm 719 (by decide +kernel) (by decide +kernel)
theorem k_161 : (.instanceMethod y_Par_column : Cond) ∈ wG := wGm 721 (by decide +kernel) (by decide +kernel)
theorem k_162 : (.selects R_Par y_Par_column y_Par_column : Cond) ∈ wG := wGm 17 (by decide +kernel) (by decide +kernel)
theorem k_163 : (.code y_Par_column b_Par_column 2 (some .boolean) : Cond) ∈ wG := wGm 722 (by decide +kernel) (by decide +kernel)
theorem k_164 : (.methodLink R_Par 122 y_Par_range : Cond) ∈ wG := wGm 731 (by decide +kernel) (by decide +kernel)
theorem k_165 : (.instanceMethod y_Par_range : Cond) ∈ wG := wGm 733 (by decide +kernel) (by decide +kernel)
theorem k_166 : (.selects R_Par y_Par_range y_Par_range : Cond) ∈ wG := wGm 20 (by decide +kernel) (by decide +kernel)
theorem k_167 : (.code y_Par_range b_Par_range 6 (some .boolean) : Cond) ∈ wG := wGm 734 (by decide +kernel) (by decide +kernel)
theorem k_168 : (.methodLink R_Par 119 y_Par_bounds : Cond) ∈ wG := wGm 723 (by decide +kernel) (by decide +kernel)
theorem k_169 : (.instanceMethod y_Par_bounds : Cond) ∈ wG := wGm 725 (by decide +kernel) (by decide +kernel)
theorem k_170 : (.selects R_Par y_Par_bounds y_Par_bounds : Cond) ∈ wG := wGm 18 (by decide +kernel) (by decide +kernel)
theorem k_171 : (.code y_Par_bounds b_Par_bounds 2 (some .boolean) : Cond) ∈ wG := wGm 726 (by decide +kernel) (by decide +kernel)
theorem g_Par_34 : GoodIn wG (wsV R_Par 34 R_Par y_Par_kind w_Par_kind) := wGa (fun w hw => by
  rcases List.mem_cons.mp hw with e | hw
  · exact e ▸ k_134
  rcases List.mem_cons.mp hw with e | hw
  · exact e ▸ k_135
  rcases List.mem_cons.mp hw with e | hw
  · exact e ▸ k_136
  rcases List.mem_cons.mp hw with e | hw
  · exact e ▸ k_137
  · exact absurd hw List.not_mem_nil) (wGc k_138)
theorem g_Par_61 : GoodIn wG (wsV R_Par 61 R_Par y_Par_value w_Par_value) := wGa (fun w hw => by
  rcases List.mem_cons.mp hw with e | hw
  · exact e ▸ k_139
  rcases List.mem_cons.mp hw with e | hw
  · exact e ▸ k_140
  rcases List.mem_cons.mp hw with e | hw
  · exact e ▸ k_141
  rcases List.mem_cons.mp hw with e | hw
  · exact e ▸ k_137
  · exact absurd hw List.not_mem_nil) (wGc k_142)
theorem g_Par_47 : GoodIn wG (wsV R_Par 47 R_Par y_Par_take w_Par_take) := wGa (fun w hw => by
  rcases List.mem_cons.mp hw with e | hw
  · exact e ▸ k_144
  rcases List.mem_cons.mp hw with e | hw
  · exact e ▸ k_145
  rcases List.mem_cons.mp hw with e | hw
  · exact e ▸ k_146
  rcases List.mem_cons.mp hw with e | hw
  · exact e ▸ k_137
  · exact absurd hw List.not_mem_nil) (wGc k_147)
theorem g_Par_102 : GoodIn wG (wsV R_Par 102 R_Par y_Par_isNumber w_Par_isNumber) := wGa (fun w hw => by
  rcases List.mem_cons.mp hw with e | hw
  · exact e ▸ k_148
  rcases List.mem_cons.mp hw with e | hw
  · exact e ▸ k_149
  rcases List.mem_cons.mp hw with e | hw
  · exact e ▸ k_150
  rcases List.mem_cons.mp hw with e | hw
  · exact e ▸ k_137
  · exact absurd hw List.not_mem_nil) (wGc k_151)
theorem g_Par_112 : GoodIn wG (wsV R_Par 112 R_Qu y_Qu_begin w_Qu_begin) := wGa (fun w hw => by
  rcases List.mem_cons.mp hw with e | hw
  · exact e ▸ k_156
  rcases List.mem_cons.mp hw with e | hw
  · exact e ▸ k_157
  rcases List.mem_cons.mp hw with e | hw
  · exact e ▸ k_158
  rcases List.mem_cons.mp hw with e | hw
  · exact e ▸ k_119
  · exact absurd hw List.not_mem_nil) (wGc k_159)
theorem g_Par_116 : GoodIn wG (wsV R_Par 116 R_Par y_Par_column w_Par_column) := wGa (fun w hw => by
  rcases List.mem_cons.mp hw with e | hw
  · exact e ▸ k_160
  rcases List.mem_cons.mp hw with e | hw
  · exact e ▸ k_161
  rcases List.mem_cons.mp hw with e | hw
  · exact e ▸ k_162
  rcases List.mem_cons.mp hw with e | hw
  · exact e ▸ k_137
  · exact absurd hw List.not_mem_nil) (wGc k_163)
theorem g_Par_122 : GoodIn wG (wsV R_Par 122 R_Par y_Par_range w_Par_range) := wGa (fun w hw => by
  rcases List.mem_cons.mp hw with e | hw
  · exact e ▸ k_164
  rcases List.mem_cons.mp hw with e | hw
  · exact e ▸ k_165
  rcases List.mem_cons.mp hw with e | hw
  · exact e ▸ k_166
  rcases List.mem_cons.mp hw with e | hw
  · exact e ▸ k_137
  · exact absurd hw List.not_mem_nil) (wGc k_167)
theorem g_Par_119 : GoodIn wG (wsV R_Par 119 R_Par y_Par_bounds w_Par_bounds) := wGa (fun w hw => by
  rcases List.mem_cons.mp hw with e | hw
  · exact e ▸ k_168
  rcases List.mem_cons.mp hw with e | hw
  · exact e ▸ k_169
  rcases List.mem_cons.mp hw with e | hw
  · exact e ▸ k_170
  rcases List.mem_cons.mp hw with e | hw
  · exact e ▸ k_137
  · exact absurd hw List.not_mem_nil) (wGc k_171)
theorem k_kind {f : Nat → Int32} {v k : Int32} (hz : up v 2001) (hk : s_Par_kind f v = k) (h0 : ¬ k = 0) : up v 2000 := by
  unfold s_Par_kind at hk
  split at hk
  · exact absurd hk.symm h0
  · rename_i h
    rw [Int32.le_iff_toInt_le, show (2001 : Int32).toInt = 2001 by decide] at h
    exact ⟨hz.1, by omega⟩
set_option maxHeartbeats 4000000 in
set_option maxRecDepth 100000 in
theorem c_Par_kind (l : Launch) (G : GG) (h : Nat) (script_h : Nat) (script_tokens_h : Nat) (script_tokens_a_kinds : Nat) (script_tokens_a_values : Nat) (script_tokens_a_places : Nat) (script_conditions_h : Nat) (script_tokens_f_kinds : Nat → Int32) (script_tokens__size : Int32) (v_at : Int32) (v_joints : Int32) (hz_v_at : up v_at 2001) : Det l G y_Par_kind w_Par_kind (rmD 0) 0 0 [.ref h] [(h, .inr (11, [.ref script_h, .ref script_tokens_h, .ref script_conditions_h, .int v_at, .int v_joints])), (script_tokens_h, .inr (7, [.ref script_tokens_a_kinds, .ref script_tokens_a_values, .ref script_tokens_a_places, .int script_tokens__size])), (script_tokens_a_kinds, .inl (gI G, 2001, .inl script_tokens_f_kinds))] (some (.int (s_Par_kind script_tokens_f_kinds v_at))) [(h, .inr (11, [.ref script_h, .ref script_tokens_h, .ref script_conditions_h, .int v_at, .int v_joints])), (script_tokens_h, .inr (7, [.ref script_tokens_a_kinds, .ref script_tokens_a_values, .ref script_tokens_a_places, .int script_tokens__size])), (script_tokens_a_kinds, .inl (gI G, 2001, .inl script_tokens_f_kinds))] := by
  refine Det.of (cc := b_Par_kind) (maxL := 1) (ret := (some .int)) (by decide) rfl (Nat.le_of_ble_eq_true rfl) ?_
  intro p e s m args below meth c A ls hx hb hr hml hown hts hlocks hin hA hK hZ hP hD hS hl
  have hts : ∀ w ∈ wG, w.before args s = true := fun w h => hts w (List.mem_cons_of_mem _ h)
  have hown : s.vm.findClass R_Par = some m.cls := hown
  have hl : lv_has ls 1 [(0, .ref h)] := hl
  refine lv_aload_n hx hb d_Par_kind_0 rfl (lv_at hl 0 rfl) ?_
  refine va_get (D := G.1) (ci := 11) (C := R_Par) (T := F_Par) (N := 5) (v := .int v_at) hx hb hts i_Par hown hK hP 0 rfl rfl 3 (by decide) (hts (.fieldLink R_Par 27 "PrivateQueries$Parser" "at" "I") k_129) (fun _ h9 => h9) rfl d_Par_kind_1 ?_
  refine lv_aload_n hx hb d_Par_kind_4 rfl (lv_at hl 0 rfl) ?_
  refine va_get (D := G.1) (ci := 11) (C := R_Par) (T := F_Par) (N := 5) (v := .ref script_tokens_h) hx hb hts i_Par hown hK hP 0 rfl rfl 1 (by decide) (hts (.fieldLink R_Par 21 "PrivateQueries$Parser" "tokens" "LPrivateQueries$Tokens;") k_130) (fun _ h9 => h9) rfl d_Par_kind_5 ?_
  refine va_get (D := G.1) (ci := 7) (C := R_Tok) (T := F_Tok) (N := 4) (v := .ref script_tokens_a_kinds) hx hb hts i_Tok hown hK hP 1 rfl rfl 0 (by decide) (hts (.fieldLink R_Par 55 "PrivateQueries$Tokens" "kinds" "[I") k_131) (fun _ h9 => h9) rfl d_Par_kind_8 ?_
  refine va_alen (v := 2001) hx hb hK hP 2 0 rfl rfl (show Int32.ofNat 2001 = 2001 by decide) d_Par_kind_11 ?_
  refine lv_icmp_ge (tgt := 30) hx hb d_Par_kind_12 (by decide) (fun c1 => ?_) (fun c1 => ?_)
  · skip
    refine lv_iconst (v := 0) hx hb d_Par_kind_30 (by decide) ?_
    exact ly_iret hx hb hr hlocks hP hD hS d_Par_kind_31 (by rw [s_Par_kind, if_pos c1]) rfl
  refine lv_aload_n hx hb d_Par_kind_15 rfl (lv_at hl 0 rfl) ?_
  refine va_get (D := G.1) (ci := 11) (C := R_Par) (T := F_Par) (N := 5) (v := .ref script_tokens_h) hx hb hts i_Par hown hK hP 0 rfl rfl 1 (by decide) (hts (.fieldLink R_Par 21 "PrivateQueries$Parser" "tokens" "LPrivateQueries$Tokens;") k_130) (fun _ h9 => h9) rfl d_Par_kind_16 ?_
  refine va_get (D := G.1) (ci := 7) (C := R_Tok) (T := F_Tok) (N := 4) (v := .ref script_tokens_a_kinds) hx hb hts i_Tok hown hK hP 1 rfl rfl 0 (by decide) (hts (.fieldLink R_Par 55 "PrivateQueries$Tokens" "kinds" "[I") k_131) (fun _ h9 => h9) rfl d_Par_kind_19 ?_
  refine lv_aload_n hx hb d_Par_kind_22 rfl (lv_at hl 0 rfl) ?_
  refine va_get (D := G.1) (ci := 11) (C := R_Par) (T := F_Par) (N := 5) (v := .int v_at) hx hb hts i_Par hown hK hP 0 rfl rfl 3 (by decide) (hts (.fieldLink R_Par 27 "PrivateQueries$Parser" "at" "I") k_129) (fun _ h9 => h9) rfl d_Par_kind_23 ?_
  refine va_iald hx hb hK hP 2 0 rfl rfl (ly_mk hz_v_at.1 (ly_hi (by decide) c1)) d_Par_kind_26 ?_
  refine lv_goto (tgt := 31) hx hb d_Par_kind_27 (by decide) ?_
  exact ly_iret hx hb hr hlocks hP hD hS d_Par_kind_31 (by rw [s_Par_kind, if_neg c1]) rfl

set_option maxHeartbeats 4000000 in
set_option maxRecDepth 100000 in
theorem c_Par_value (l : Launch) (G : GG) (h : Nat) (script_h : Nat) (script_tokens_h : Nat) (script_tokens_a_kinds : Nat) (script_tokens_a_values : Nat) (script_tokens_a_places : Nat) (script_conditions_h : Nat) (script_tokens_f_values : Nat → Int32) (script_tokens__size : Int32) (v_at : Int32) (v_joints : Int32) (hz_v_at : up v_at 2001) : Det l G y_Par_value w_Par_value (rmD 0) 0 0 [.ref h] [(h, .inr (11, [.ref script_h, .ref script_tokens_h, .ref script_conditions_h, .int v_at, .int v_joints])), (script_tokens_h, .inr (7, [.ref script_tokens_a_kinds, .ref script_tokens_a_values, .ref script_tokens_a_places, .int script_tokens__size])), (script_tokens_a_values, .inl (gI G, 2001, .inl script_tokens_f_values))] (some (.int (s_Par_value script_tokens_f_values v_at))) [(h, .inr (11, [.ref script_h, .ref script_tokens_h, .ref script_conditions_h, .int v_at, .int v_joints])), (script_tokens_h, .inr (7, [.ref script_tokens_a_kinds, .ref script_tokens_a_values, .ref script_tokens_a_places, .int script_tokens__size])), (script_tokens_a_values, .inl (gI G, 2001, .inl script_tokens_f_values))] := by
  refine Det.of (cc := b_Par_value) (maxL := 1) (ret := (some .int)) (by decide) rfl (Nat.le_of_ble_eq_true rfl) ?_
  intro p e s m args below meth c A ls hx hb hr hml hown hts hlocks hin hA hK hZ hP hD hS hl
  have hts : ∀ w ∈ wG, w.before args s = true := fun w h => hts w (List.mem_cons_of_mem _ h)
  have hown : s.vm.findClass R_Par = some m.cls := hown
  have hl : lv_has ls 1 [(0, .ref h)] := hl
  refine lv_aload_n hx hb d_Par_value_0 rfl (lv_at hl 0 rfl) ?_
  refine va_get (D := G.1) (ci := 11) (C := R_Par) (T := F_Par) (N := 5) (v := .int v_at) hx hb hts i_Par hown hK hP 0 rfl rfl 3 (by decide) (hts (.fieldLink R_Par 27 "PrivateQueries$Parser" "at" "I") k_129) (fun _ h9 => h9) rfl d_Par_value_1 ?_
  refine lv_aload_n hx hb d_Par_value_4 rfl (lv_at hl 0 rfl) ?_
  refine va_get (D := G.1) (ci := 11) (C := R_Par) (T := F_Par) (N := 5) (v := .ref script_tokens_h) hx hb hts i_Par hown hK hP 0 rfl rfl 1 (by decide) (hts (.fieldLink R_Par 21 "PrivateQueries$Parser" "tokens" "LPrivateQueries$Tokens;") k_130) (fun _ h9 => h9) rfl d_Par_value_5 ?_
  refine va_get (D := G.1) (ci := 7) (C := R_Tok) (T := F_Tok) (N := 4) (v := .ref script_tokens_a_values) hx hb hts i_Tok hown hK hP 1 rfl rfl 1 (by decide) (hts (.fieldLink R_Par 58 "PrivateQueries$Tokens" "values" "[I") k_132) (fun _ h9 => h9) rfl d_Par_value_8 ?_
  refine va_alen (v := 2001) hx hb hK hP 2 0 rfl rfl (show Int32.ofNat 2001 = 2001 by decide) d_Par_value_11 ?_
  refine lv_icmp_ge (tgt := 30) hx hb d_Par_value_12 (by decide) (fun c1 => ?_) (fun c1 => ?_)
  · skip
    refine lv_iconst (v := 0) hx hb d_Par_value_30 (by decide) ?_
    exact ly_iret hx hb hr hlocks hP hD hS d_Par_value_31 (by rw [s_Par_value, if_pos c1]) rfl
  refine lv_aload_n hx hb d_Par_value_15 rfl (lv_at hl 0 rfl) ?_
  refine va_get (D := G.1) (ci := 11) (C := R_Par) (T := F_Par) (N := 5) (v := .ref script_tokens_h) hx hb hts i_Par hown hK hP 0 rfl rfl 1 (by decide) (hts (.fieldLink R_Par 21 "PrivateQueries$Parser" "tokens" "LPrivateQueries$Tokens;") k_130) (fun _ h9 => h9) rfl d_Par_value_16 ?_
  refine va_get (D := G.1) (ci := 7) (C := R_Tok) (T := F_Tok) (N := 4) (v := .ref script_tokens_a_values) hx hb hts i_Tok hown hK hP 1 rfl rfl 1 (by decide) (hts (.fieldLink R_Par 58 "PrivateQueries$Tokens" "values" "[I") k_132) (fun _ h9 => h9) rfl d_Par_value_19 ?_
  refine lv_aload_n hx hb d_Par_value_22 rfl (lv_at hl 0 rfl) ?_
  refine va_get (D := G.1) (ci := 11) (C := R_Par) (T := F_Par) (N := 5) (v := .int v_at) hx hb hts i_Par hown hK hP 0 rfl rfl 3 (by decide) (hts (.fieldLink R_Par 27 "PrivateQueries$Parser" "at" "I") k_129) (fun _ h9 => h9) rfl d_Par_value_23 ?_
  refine va_iald hx hb hK hP 2 0 rfl rfl (ly_mk hz_v_at.1 (ly_hi (by decide) c1)) d_Par_value_26 ?_
  refine lv_goto (tgt := 31) hx hb d_Par_value_27 (by decide) ?_
  exact ly_iret hx hb hr hlocks hP hD hS d_Par_value_31 (by rw [s_Par_value, if_neg c1]) rfl

theorem k_tk {f : Nat → Int32} {v x : Int32} (hz : up v 2001) : up (s_Par_take f v x).2 2001 := by
  unfold s_Par_take
  split
  · exact hz
  · rename_i h
    split
    · exact up_add1 hz (by decide) h
    · exact hz
theorem z_Par_take {script_tokens_f_kinds : Nat → Int32} {v_at : Int32} {x : Int32} : isB (s_Par_take script_tokens_f_kinds v_at x).1 := by
  rw [s_Par_take]
  by_cases ct1 : 2001 ≤ v_at
  · rw [if_pos ct1]
    first | exact isB_0 | exact isB_1 | assumption
  rw [if_neg ct1]
  by_cases ct2 : (script_tokens_f_kinds v_at.toNatClampNeg) = x
  · rw [if_pos ct2]
    first | exact isB_0 | exact isB_1 | assumption
  rw [if_neg ct2]
  first | exact isB_0 | exact isB_1 | assumption
set_option maxHeartbeats 4000000 in
set_option maxRecDepth 100000 in
theorem c_Par_take (l : Launch) (G : GG) (h : Nat) (script_h : Nat) (script_tokens_h : Nat) (script_tokens_a_kinds : Nat) (script_tokens_a_values : Nat) (script_tokens_a_places : Nat) (script_conditions_h : Nat) (script_tokens_f_kinds : Nat → Int32) (script_tokens__size : Int32) (v_at : Int32) (v_joints : Int32) (x : Int32) (hz_v_at : up v_at 2001) : Det l G y_Par_take w_Par_take (rmD 0) 0 0 [.ref h, .int x] [(h, .inr (11, [.ref script_h, .ref script_tokens_h, .ref script_conditions_h, .int v_at, .int v_joints])), (script_tokens_h, .inr (7, [.ref script_tokens_a_kinds, .ref script_tokens_a_values, .ref script_tokens_a_places, .int script_tokens__size])), (script_tokens_a_kinds, .inl (gI G, 2001, .inl script_tokens_f_kinds))] (some (.int (s_Par_take script_tokens_f_kinds v_at x).1)) [(h, .inr (11, [.ref script_h, .ref script_tokens_h, .ref script_conditions_h, .int (s_Par_take script_tokens_f_kinds v_at x).2, .int v_joints])), (script_tokens_h, .inr (7, [.ref script_tokens_a_kinds, .ref script_tokens_a_values, .ref script_tokens_a_places, .int script_tokens__size])), (script_tokens_a_kinds, .inl (gI G, 2001, .inl script_tokens_f_kinds))] := by
  refine Det.of (cc := b_Par_take) (maxL := 2) (ret := (some .boolean)) (by decide) rfl (Nat.le_of_ble_eq_true rfl) ?_
  intro p e s m args below meth c A ls hx hb hr hml hown hts hlocks hin hA hK hZ hP hD hS hl
  have hts : ∀ w ∈ wG, w.before args s = true := fun w h => hts w (List.mem_cons_of_mem _ h)
  have hown : s.vm.findClass R_Par = some m.cls := hown
  have hl : lv_has ls 2 [(0, .ref h), (1, .int x)] := hl
  refine lv_aload_n hx hb d_Par_take_0 rfl (lv_at hl 0 rfl) ?_
  refine va_get (D := G.1) (ci := 11) (C := R_Par) (T := F_Par) (N := 5) (v := .int v_at) hx hb hts i_Par hown hK hP 0 rfl rfl 3 (by decide) (hts (.fieldLink R_Par 27 "PrivateQueries$Parser" "at" "I") k_129) (fun _ h9 => h9) rfl d_Par_take_1 ?_
  refine lv_aload_n hx hb d_Par_take_4 rfl (lv_at hl 0 rfl) ?_
  refine va_get (D := G.1) (ci := 11) (C := R_Par) (T := F_Par) (N := 5) (v := .ref script_tokens_h) hx hb hts i_Par hown hK hP 0 rfl rfl 1 (by decide) (hts (.fieldLink R_Par 21 "PrivateQueries$Parser" "tokens" "LPrivateQueries$Tokens;") k_130) (fun _ h9 => h9) rfl d_Par_take_5 ?_
  refine va_get (D := G.1) (ci := 7) (C := R_Tok) (T := F_Tok) (N := 4) (v := .ref script_tokens_a_kinds) hx hb hts i_Tok hown hK hP 1 rfl rfl 0 (by decide) (hts (.fieldLink R_Par 55 "PrivateQueries$Tokens" "kinds" "[I") k_131) (fun _ h9 => h9) rfl d_Par_take_8 ?_
  refine va_alen (v := 2001) hx hb hK hP 2 0 rfl rfl (show Int32.ofNat 2001 = 2001 by decide) d_Par_take_11 ?_
  refine lv_icmp_ge (tgt := 31) hx hb d_Par_take_12 (by decide) (fun c1 => ?_) (fun c1 => ?_)
  · skip
    refine lv_iconst (v := 0) hx hb d_Par_take_31 (by decide) ?_
    exact ly_zret hx hb hr hlocks hP hD hS d_Par_take_32 (by decide) (by rw [s_Par_take, if_pos c1]) (by rw [s_Par_take, if_pos c1])
  refine lv_aload_n hx hb d_Par_take_15 rfl (lv_at hl 0 rfl) ?_
  refine va_get (D := G.1) (ci := 11) (C := R_Par) (T := F_Par) (N := 5) (v := .ref script_tokens_h) hx hb hts i_Par hown hK hP 0 rfl rfl 1 (by decide) (hts (.fieldLink R_Par 21 "PrivateQueries$Parser" "tokens" "LPrivateQueries$Tokens;") k_130) (fun _ h9 => h9) rfl d_Par_take_16 ?_
  refine va_get (D := G.1) (ci := 7) (C := R_Tok) (T := F_Tok) (N := 4) (v := .ref script_tokens_a_kinds) hx hb hts i_Tok hown hK hP 1 rfl rfl 0 (by decide) (hts (.fieldLink R_Par 55 "PrivateQueries$Tokens" "kinds" "[I") k_131) (fun _ h9 => h9) rfl d_Par_take_19 ?_
  refine lv_aload_n hx hb d_Par_take_22 rfl (lv_at hl 0 rfl) ?_
  refine va_get (D := G.1) (ci := 11) (C := R_Par) (T := F_Par) (N := 5) (v := .int v_at) hx hb hts i_Par hown hK hP 0 rfl rfl 3 (by decide) (hts (.fieldLink R_Par 27 "PrivateQueries$Parser" "at" "I") k_129) (fun _ h9 => h9) rfl d_Par_take_23 ?_
  refine va_iald hx hb hK hP 2 0 rfl rfl (ly_mk hz_v_at.1 (ly_hi (by decide) c1)) d_Par_take_26 ?_
  refine lv_iload_n hx hb d_Par_take_27 rfl (lv_at hl 1 rfl) ?_
  refine lv_icmp_eq (tgt := 33) hx hb d_Par_take_28 (by decide) (fun c2 => ?_) (fun c2 => ?_)
  · skip
    refine lv_aload_n hx hb d_Par_take_33 rfl (lv_at hl 0 rfl) ?_
    refine lv_dup hx hb d_Par_take_34 rfl ?_
    refine va_get (D := G.1) (ci := 11) (C := R_Par) (T := F_Par) (N := 5) (v := .int v_at) hx hb hts i_Par hown hK hP 0 rfl rfl 3 (by decide) (hts (.fieldLink R_Par 27 "PrivateQueries$Parser" "at" "I") k_129) (fun _ h9 => h9) rfl d_Par_take_35 ?_
    refine lv_iconst (v := 1) hx hb d_Par_take_38 (by decide) ?_
    refine lv_iadd hx hb d_Par_take_39 ?_
    refine va_put (D := G.1) (ci := 11) (v := .int (v_at + 1)) (ty := .int) (C := R_Par) (T := F_Par) (N := 5) hx hb hts i_Par t_Par t_Par_ok n_Par hown hK hP hD hS 0 rfl rfl 3 (by decide) (hts (.fieldLink R_Par 27 "PrivateQueries$Parser" "at" "I") k_129) (fun _ h9 => h9) rfl (by decide +kernel) rfl rfl (Nat.le_of_ble_eq_true rfl) d_Par_take_40 (fun H locs hP hD hS => ?_)
    have hP : va_P G.1 classes [(h, .inr (11, [.ref script_h, .ref script_tokens_h, .ref script_conditions_h, .int (v_at + 1), .int v_joints])), (script_tokens_h, .inr (7, [.ref script_tokens_a_kinds, .ref script_tokens_a_values, .ref script_tokens_a_places, .int script_tokens__size])), (script_tokens_a_kinds, .inl (gI G, 2001, .inl script_tokens_f_kinds))] H := hP
    have hD : va_D A [(h, .inr (11, [.ref script_h, .ref script_tokens_h, .ref script_conditions_h, .int (v_at + 1), .int v_joints])), (script_tokens_h, .inr (7, [.ref script_tokens_a_kinds, .ref script_tokens_a_values, .ref script_tokens_a_places, .int script_tokens__size])), (script_tokens_a_kinds, .inl (gI G, 2001, .inl script_tokens_f_kinds))] := hD
    refine lv_iconst (v := 1) hx hb d_Par_take_43 (by decide) ?_
    exact ly_zret hx hb hr hlocks hP hD hS d_Par_take_44 (by decide) (by rw [s_Par_take, if_neg c1, if_pos c2]) (by rw [s_Par_take, if_neg c1, if_pos c2])
  refine lv_iconst (v := 0) hx hb d_Par_take_31 (by decide) ?_
  exact ly_zret hx hb hr hlocks hP hD hS d_Par_take_32 (by decide) (by rw [s_Par_take, if_neg c1, if_neg c2]) (by rw [s_Par_take, if_neg c1, if_neg c2])

theorem z_Par_takeJoint {v_at : Int32} {v_joints : Int32} : isB (s_Par_takeJoint v_at v_joints).1 := by
  rw [s_Par_takeJoint]
  by_cases ct1 : v_joints < 150
  · rw [if_pos ct1]
    first | exact isB_0 | exact isB_1 | assumption
  rw [if_neg ct1]
  first | exact isB_0 | exact isB_1 | assumption
set_option maxHeartbeats 4000000 in
set_option maxRecDepth 100000 in
theorem c_Par_takeJoint (l : Launch) (G : GG) (h : Nat) (script_h : Nat) (script_tokens_h : Nat) (script_conditions_h : Nat) (v_at : Int32) (v_joints : Int32) : Det l G y_Par_takeJoint w_Par_takeJoint (rmD 0) 0 0 [.ref h] [(h, .inr (11, [.ref script_h, .ref script_tokens_h, .ref script_conditions_h, .int v_at, .int v_joints]))] (some (.int (s_Par_takeJoint v_at v_joints).1)) [(h, .inr (11, [.ref script_h, .ref script_tokens_h, .ref script_conditions_h, .int (s_Par_takeJoint v_at v_joints).2.1, .int (s_Par_takeJoint v_at v_joints).2.2]))] := by
  refine Det.of (cc := b_Par_takeJoint) (maxL := 1) (ret := (some .boolean)) (by decide) rfl (Nat.le_of_ble_eq_true rfl) ?_
  intro p e s m args below meth c A ls hx hb hr hml hown hts hlocks hin hA hK hZ hP hD hS hl
  have hts : ∀ w ∈ wG, w.before args s = true := fun w h => hts w (List.mem_cons_of_mem _ h)
  have hown : s.vm.findClass R_Par = some m.cls := hown
  have hl : lv_has ls 1 [(0, .ref h)] := hl
  refine lv_aload_n hx hb d_Par_takeJoint_0 rfl (lv_at hl 0 rfl) ?_
  refine va_get (D := G.1) (ci := 11) (C := R_Par) (T := F_Par) (N := 5) (v := .int v_joints) hx hb hts i_Par hown hK hP 0 rfl rfl 4 (by decide) (hts (.fieldLink R_Par 31 "PrivateQueries$Parser" "joints" "I") k_133) (fun _ h9 => h9) rfl d_Par_takeJoint_1 ?_
  refine lv_sipush (v := 150) hx hb d_Par_takeJoint_4 (by decide) ?_
  refine lv_icmp_lt (tgt := 12) hx hb d_Par_takeJoint_7 (by decide) (fun c1 => ?_) (fun c1 => ?_)
  · skip
    refine lv_aload_n hx hb d_Par_takeJoint_12 rfl (lv_at hl 0 rfl) ?_
    refine lv_dup hx hb d_Par_takeJoint_13 rfl ?_
    refine va_get (D := G.1) (ci := 11) (C := R_Par) (T := F_Par) (N := 5) (v := .int v_joints) hx hb hts i_Par hown hK hP 0 rfl rfl 4 (by decide) (hts (.fieldLink R_Par 31 "PrivateQueries$Parser" "joints" "I") k_133) (fun _ h9 => h9) rfl d_Par_takeJoint_14 ?_
    refine lv_iconst (v := 1) hx hb d_Par_takeJoint_17 (by decide) ?_
    refine lv_iadd hx hb d_Par_takeJoint_18 ?_
    refine va_put (D := G.1) (ci := 11) (v := .int (v_joints + 1)) (ty := .int) (C := R_Par) (T := F_Par) (N := 5) hx hb hts i_Par t_Par t_Par_ok n_Par hown hK hP hD hS 0 rfl rfl 4 (by decide) (hts (.fieldLink R_Par 31 "PrivateQueries$Parser" "joints" "I") k_133) (fun _ h9 => h9) rfl (by decide +kernel) rfl rfl (Nat.le_of_ble_eq_true rfl) d_Par_takeJoint_19 (fun H locs hP hD hS => ?_)
    have hP : va_P G.1 classes [(h, .inr (11, [.ref script_h, .ref script_tokens_h, .ref script_conditions_h, .int v_at, .int (v_joints + 1)]))] H := hP
    have hD : va_D A [(h, .inr (11, [.ref script_h, .ref script_tokens_h, .ref script_conditions_h, .int v_at, .int (v_joints + 1)]))] := hD
    refine lv_aload_n hx hb d_Par_takeJoint_22 rfl (lv_at hl 0 rfl) ?_
    refine lv_dup hx hb d_Par_takeJoint_23 rfl ?_
    refine va_get (D := G.1) (ci := 11) (C := R_Par) (T := F_Par) (N := 5) (v := .int v_at) hx hb hts i_Par hown hK hP 0 rfl rfl 3 (by decide) (hts (.fieldLink R_Par 27 "PrivateQueries$Parser" "at" "I") k_129) (fun _ h9 => h9) rfl d_Par_takeJoint_24 ?_
    refine lv_iconst (v := 1) hx hb d_Par_takeJoint_27 (by decide) ?_
    refine lv_iadd hx hb d_Par_takeJoint_28 ?_
    refine va_put (D := G.1) (ci := 11) (v := .int (v_at + 1)) (ty := .int) (C := R_Par) (T := F_Par) (N := 5) hx hb hts i_Par t_Par t_Par_ok n_Par hown hK hP hD hS 0 rfl rfl 3 (by decide) (hts (.fieldLink R_Par 27 "PrivateQueries$Parser" "at" "I") k_129) (fun _ h9 => h9) rfl (by decide +kernel) rfl rfl (Nat.le_of_ble_eq_true rfl) d_Par_takeJoint_29 (fun H locs hP hD hS => ?_)
    have hP : va_P G.1 classes [(h, .inr (11, [.ref script_h, .ref script_tokens_h, .ref script_conditions_h, .int (v_at + 1), .int (v_joints + 1)]))] H := hP
    have hD : va_D A [(h, .inr (11, [.ref script_h, .ref script_tokens_h, .ref script_conditions_h, .int (v_at + 1), .int (v_joints + 1)]))] := hD
    refine lv_iconst (v := 1) hx hb d_Par_takeJoint_32 (by decide) ?_
    exact ly_zret hx hb hr hlocks hP hD hS d_Par_takeJoint_33 (by decide) (by rw [s_Par_takeJoint, if_pos c1]) (by rw [s_Par_takeJoint, if_pos c1])
  refine lv_iconst (v := 0) hx hb d_Par_takeJoint_10 (by decide) ?_
  exact ly_zret hx hb hr hlocks hP hD hS d_Par_takeJoint_11 (by decide) (by rw [s_Par_takeJoint, if_neg c1]) (by rw [s_Par_takeJoint, if_neg c1])

theorem z_Par_takeDeeper {v_at : Int32} {x : Int32} : isB (s_Par_takeDeeper v_at x).1 := by
  rw [s_Par_takeDeeper]
  by_cases ct1 : x < 20
  · rw [if_pos ct1]
    first | exact isB_0 | exact isB_1 | assumption
  rw [if_neg ct1]
  first | exact isB_0 | exact isB_1 | assumption
set_option maxHeartbeats 4000000 in
set_option maxRecDepth 100000 in
theorem c_Par_takeDeeper (l : Launch) (G : GG) (h : Nat) (script_h : Nat) (script_tokens_h : Nat) (script_conditions_h : Nat) (v_at : Int32) (v_joints : Int32) (x : Int32) : Det l G y_Par_takeDeeper w_Par_takeDeeper (rmD 0) 0 0 [.ref h, .int x] [(h, .inr (11, [.ref script_h, .ref script_tokens_h, .ref script_conditions_h, .int v_at, .int v_joints]))] (some (.int (s_Par_takeDeeper v_at x).1)) [(h, .inr (11, [.ref script_h, .ref script_tokens_h, .ref script_conditions_h, .int (s_Par_takeDeeper v_at x).2, .int v_joints]))] := by
  refine Det.of (cc := b_Par_takeDeeper) (maxL := 2) (ret := (some .boolean)) (by decide) rfl (Nat.le_of_ble_eq_true rfl) ?_
  intro p e s m args below meth c A ls hx hb hr hml hown hts hlocks hin hA hK hZ hP hD hS hl
  have hts : ∀ w ∈ wG, w.before args s = true := fun w h => hts w (List.mem_cons_of_mem _ h)
  have hown : s.vm.findClass R_Par = some m.cls := hown
  have hl : lv_has ls 2 [(0, .ref h), (1, .int x)] := hl
  refine lv_iload_n hx hb d_Par_takeDeeper_0 rfl (lv_at hl 1 rfl) ?_
  refine lv_bipush (v := 20) hx hb d_Par_takeDeeper_1 (by decide) ?_
  refine lv_icmp_lt (tgt := 8) hx hb d_Par_takeDeeper_3 (by decide) (fun c1 => ?_) (fun c1 => ?_)
  · skip
    refine lv_aload_n hx hb d_Par_takeDeeper_8 rfl (lv_at hl 0 rfl) ?_
    refine lv_dup hx hb d_Par_takeDeeper_9 rfl ?_
    refine va_get (D := G.1) (ci := 11) (C := R_Par) (T := F_Par) (N := 5) (v := .int v_at) hx hb hts i_Par hown hK hP 0 rfl rfl 3 (by decide) (hts (.fieldLink R_Par 27 "PrivateQueries$Parser" "at" "I") k_129) (fun _ h9 => h9) rfl d_Par_takeDeeper_10 ?_
    refine lv_iconst (v := 1) hx hb d_Par_takeDeeper_13 (by decide) ?_
    refine lv_iadd hx hb d_Par_takeDeeper_14 ?_
    refine va_put (D := G.1) (ci := 11) (v := .int (v_at + 1)) (ty := .int) (C := R_Par) (T := F_Par) (N := 5) hx hb hts i_Par t_Par t_Par_ok n_Par hown hK hP hD hS 0 rfl rfl 3 (by decide) (hts (.fieldLink R_Par 27 "PrivateQueries$Parser" "at" "I") k_129) (fun _ h9 => h9) rfl (by decide +kernel) rfl rfl (Nat.le_of_ble_eq_true rfl) d_Par_takeDeeper_15 (fun H locs hP hD hS => ?_)
    have hP : va_P G.1 classes [(h, .inr (11, [.ref script_h, .ref script_tokens_h, .ref script_conditions_h, .int (v_at + 1), .int v_joints]))] H := hP
    have hD : va_D A [(h, .inr (11, [.ref script_h, .ref script_tokens_h, .ref script_conditions_h, .int (v_at + 1), .int v_joints]))] := hD
    refine lv_iconst (v := 1) hx hb d_Par_takeDeeper_18 (by decide) ?_
    exact ly_zret hx hb hr hlocks hP hD hS d_Par_takeDeeper_19 (by decide) (by rw [s_Par_takeDeeper, if_pos c1]) (by rw [s_Par_takeDeeper, if_pos c1])
  refine lv_iconst (v := 0) hx hb d_Par_takeDeeper_6 (by decide) ?_
  exact ly_zret hx hb hr hlocks hP hD hS d_Par_takeDeeper_7 (by decide) (by rw [s_Par_takeDeeper, if_neg c1]) (by rw [s_Par_takeDeeper, if_neg c1])

theorem k_isn {f g : Nat → Int32} {v x z : Int32} (hz : up v 2001) (h : ¬ s_Par_isNumber f g v x z = 0) : up (v + 1) 2001 := by
  unfold s_Par_isNumber at h
  dsimp only at h
  split at h
  · rename_i h1
    have h2 := k_kind hz h1 (by decide)
    obtain ⟨n, hn, hn2, rfl⟩ := up_nI h2
    rw [nI_1]
    exact up_of (by omega) (by decide)
  · exact absurd rfl h
theorem z_Par_isNumber {script_tokens_f_kinds : Nat → Int32} {script_tokens_f_values : Nat → Int32} {v_at : Int32} {x : Int32} {z : Int32} : isB (s_Par_isNumber script_tokens_f_kinds script_tokens_f_values v_at x z) := by
  obtain ⟨r1, hr1⟩ : ∃ r, (s_Par_kind script_tokens_f_kinds v_at) = r := ⟨_, rfl⟩
  obtain ⟨r2, hr2⟩ : ∃ r, (s_Par_value script_tokens_f_values v_at) = r := ⟨_, rfl⟩
  rw [s_Par_isNumber]
  simp only [hr1, hr2]
  by_cases ct1 : r1 = 2
  · rw [if_pos ct1]
    by_cases ct2 : r2 < x
    · rw [if_pos ct2]
      first | exact isB_0 | exact isB_1 | assumption
    rw [if_neg ct2]
    by_cases ct3 : z < r2
    · rw [if_pos ct3]
      first | exact isB_0 | exact isB_1 | assumption
    rw [if_neg ct3]
    first | exact isB_0 | exact isB_1 | assumption
  rw [if_neg ct1]
  first | exact isB_0 | exact isB_1 | assumption
set_option maxHeartbeats 4000000 in
set_option maxRecDepth 100000 in
theorem c_Par_isNumber (l : Launch) (G : GG) (h : Nat) (script_h : Nat) (script_tokens_h : Nat) (script_tokens_a_kinds : Nat) (script_tokens_a_values : Nat) (script_tokens_a_places : Nat) (script_conditions_h : Nat) (script_tokens_f_kinds : Nat → Int32) (script_tokens_f_values : Nat → Int32) (script_tokens__size : Int32) (v_at : Int32) (v_joints : Int32) (x : Int32) (z : Int32) (hz_v_at : up v_at 2001) : Det l G y_Par_isNumber w_Par_isNumber (rmD 1) 0 0 [.ref h, .int x, .int z] [(h, .inr (11, [.ref script_h, .ref script_tokens_h, .ref script_conditions_h, .int v_at, .int v_joints])), (script_tokens_h, .inr (7, [.ref script_tokens_a_kinds, .ref script_tokens_a_values, .ref script_tokens_a_places, .int script_tokens__size])), (script_tokens_a_kinds, .inl (gI G, 2001, .inl script_tokens_f_kinds)), (script_tokens_a_values, .inl (gI G, 2001, .inl script_tokens_f_values))] (some (.int (s_Par_isNumber script_tokens_f_kinds script_tokens_f_values v_at x z))) [(h, .inr (11, [.ref script_h, .ref script_tokens_h, .ref script_conditions_h, .int v_at, .int v_joints])), (script_tokens_h, .inr (7, [.ref script_tokens_a_kinds, .ref script_tokens_a_values, .ref script_tokens_a_places, .int script_tokens__size])), (script_tokens_a_kinds, .inl (gI G, 2001, .inl script_tokens_f_kinds)), (script_tokens_a_values, .inl (gI G, 2001, .inl script_tokens_f_values))] := by
  refine Det.of (cc := b_Par_isNumber) (maxL := 3) (ret := (some .boolean)) (by decide) rfl (Nat.le_of_ble_eq_true rfl) ?_
  intro p e s m args below meth c A ls hx hb hr hml hown hts hlocks hin hA hK hZ hP hD hS hl
  have hts : ∀ w ∈ wG, w.before args s = true := fun w h => hts w (List.mem_cons_of_mem _ h)
  have hown : s.vm.findClass R_Par = some m.cls := hown
  have hl : lv_has ls 3 [(0, .ref h), (1, .int x), (2, .int z)] := hl
  refine lv_aload_n hx hb d_Par_isNumber_0 rfl (lv_at hl 0 rfl) ?_
  obtain ⟨r1, hr1⟩ : ∃ r, (s_Par_kind script_tokens_f_kinds v_at) = r := ⟨_, rfl⟩
  have hC_r1 := (c_Par_kind l G h script_h script_tokens_h script_tokens_a_kinds script_tokens_a_values script_tokens_a_places script_conditions_h script_tokens_f_kinds script_tokens__size v_at v_joints hz_v_at)
  rw [hr1] at hC_r1
  refine ly_callV (rest := []) (wf := [(h, .inr (11, [.ref script_h, .ref script_tokens_h, .ref script_conditions_h, .int v_at, .int v_joints])), (script_tokens_h, .inr (7, [.ref script_tokens_a_kinds, .ref script_tokens_a_values, .ref script_tokens_a_places, .int script_tokens__size])), (script_tokens_a_kinds, .inl (gI G, 2001, .inl script_tokens_f_kinds)), (script_tokens_a_values, .inl (gI G, 2001, .inl script_tokens_f_values))]) ⟨hx, hb, hml, hown, hts⟩ hA hK hZ hP hD hS hC_r1 (cwV 0 hts g_Par_34 rfl rfl rfl (by decide +kernel) ⟨Nat.le_of_ble_eq_true rfl, Nat.le_of_ble_eq_true rfl⟩) (ci := 11) (q0 := 0) rfl rfl rfl [0, 1, 2] rfl (by decide) rfl rfl rfl hl.1 rfl (Nat.le_of_ble_eq_true rfl) d_Par_isNumber_1 ⟨Nat.le_of_ble_eq_true rfl, Nat.le_of_ble_eq_true rfl⟩ (st1 := [.int r1]) (c1 := 0) (s1 := 0) rfl rfl rfl (fun H locs hP hD hS => ?_)
  refine lv_iconst (v := 2) hx hb d_Par_isNumber_4 (by decide) ?_
  refine lv_icmp_ne (tgt := 28) hx hb d_Par_isNumber_5 (by decide) (fun c1 => ?_) (fun c1 => ?_)
  · skip
    refine lv_iconst (v := 0) hx hb d_Par_isNumber_28 (by decide) ?_
    exact ly_zret hx hb hr hlocks hP hD hS d_Par_isNumber_29 (by decide) (by rw [s_Par_isNumber] <;> simp only [hr1] <;> rw [if_neg c1]) rfl
  refine lv_aload_n hx hb d_Par_isNumber_8 rfl (lv_at hl 0 rfl) ?_
  obtain ⟨r2, hr2⟩ : ∃ r, (s_Par_value script_tokens_f_values v_at) = r := ⟨_, rfl⟩
  have hC_r2 := (c_Par_value l G h script_h script_tokens_h script_tokens_a_kinds script_tokens_a_values script_tokens_a_places script_conditions_h script_tokens_f_values script_tokens__size v_at v_joints hz_v_at)
  rw [hr2] at hC_r2
  refine ly_callV (rest := []) (wf := [(h, .inr (11, [.ref script_h, .ref script_tokens_h, .ref script_conditions_h, .int v_at, .int v_joints])), (script_tokens_h, .inr (7, [.ref script_tokens_a_kinds, .ref script_tokens_a_values, .ref script_tokens_a_places, .int script_tokens__size])), (script_tokens_a_kinds, .inl (gI G, 2001, .inl script_tokens_f_kinds)), (script_tokens_a_values, .inl (gI G, 2001, .inl script_tokens_f_values))]) ⟨hx, hb, hml, hown, hts⟩ hA hK hZ hP hD hS hC_r2 (cwV 0 hts g_Par_61 rfl rfl rfl (by decide +kernel) ⟨Nat.le_of_ble_eq_true rfl, Nat.le_of_ble_eq_true rfl⟩) (ci := 11) (q0 := 0) rfl rfl rfl [0, 1, 3] rfl (by decide) rfl rfl rfl hl.1 rfl (Nat.le_of_ble_eq_true rfl) d_Par_isNumber_9 ⟨Nat.le_of_ble_eq_true rfl, Nat.le_of_ble_eq_true rfl⟩ (st1 := [.int r2]) (c1 := 0) (s1 := 0) rfl rfl rfl (fun H locs hP hD hS => ?_)
  refine lv_iload_n hx hb d_Par_isNumber_12 rfl (lv_at hl 1 rfl) ?_
  refine lv_icmp_lt (tgt := 28) hx hb d_Par_isNumber_13 (by decide) (fun c2 => ?_) (fun c2 => ?_)
  · skip
    refine lv_iconst (v := 0) hx hb d_Par_isNumber_28 (by decide) ?_
    exact ly_zret hx hb hr hlocks hP hD hS d_Par_isNumber_29 (by decide) (by rw [s_Par_isNumber] <;> simp only [hr1, hr2] <;> rw [if_pos c1, if_pos c2]) rfl
  refine lv_aload_n hx hb d_Par_isNumber_16 rfl (lv_at hl 0 rfl) ?_
  have hC_r3 := (c_Par_value l G h script_h script_tokens_h script_tokens_a_kinds script_tokens_a_values script_tokens_a_places script_conditions_h script_tokens_f_values script_tokens__size v_at v_joints hz_v_at)
  rw [hr2] at hC_r3
  refine ly_callV (rest := []) (wf := [(h, .inr (11, [.ref script_h, .ref script_tokens_h, .ref script_conditions_h, .int v_at, .int v_joints])), (script_tokens_h, .inr (7, [.ref script_tokens_a_kinds, .ref script_tokens_a_values, .ref script_tokens_a_places, .int script_tokens__size])), (script_tokens_a_kinds, .inl (gI G, 2001, .inl script_tokens_f_kinds)), (script_tokens_a_values, .inl (gI G, 2001, .inl script_tokens_f_values))]) ⟨hx, hb, hml, hown, hts⟩ hA hK hZ hP hD hS hC_r3 (cwV 0 hts g_Par_61 rfl rfl rfl (by decide +kernel) ⟨Nat.le_of_ble_eq_true rfl, Nat.le_of_ble_eq_true rfl⟩) (ci := 11) (q0 := 0) rfl rfl rfl [0, 1, 3] rfl (by decide) rfl rfl rfl hl.1 rfl (Nat.le_of_ble_eq_true rfl) d_Par_isNumber_17 ⟨Nat.le_of_ble_eq_true rfl, Nat.le_of_ble_eq_true rfl⟩ (st1 := [.int r2]) (c1 := 0) (s1 := 0) rfl rfl rfl (fun H locs hP hD hS => ?_)
  refine lv_iload_n hx hb d_Par_isNumber_20 rfl (lv_at hl 2 rfl) ?_
  refine lv_icmp_gt (tgt := 28) hx hb d_Par_isNumber_21 (by decide) (fun c3 => ?_) (fun c3 => ?_)
  · skip
    refine lv_iconst (v := 0) hx hb d_Par_isNumber_28 (by decide) ?_
    exact ly_zret hx hb hr hlocks hP hD hS d_Par_isNumber_29 (by decide) (by rw [s_Par_isNumber] <;> simp only [hr1, hr2] <;> rw [if_pos c1, if_neg c2, if_pos c3]) rfl
  refine lv_iconst (v := 1) hx hb d_Par_isNumber_24 (by decide) ?_
  refine lv_goto (tgt := 29) hx hb d_Par_isNumber_25 (by decide) ?_
  exact ly_zret hx hb hr hlocks hP hD hS d_Par_isNumber_29 (by decide) (by rw [s_Par_isNumber] <;> simp only [hr1, hr2] <;> rw [if_pos c1, if_neg c2, if_neg c3]) rfl

theorem k_col {f g : Nat → Int32} {v : Int32} (hz : up v 2001) : up (s_Par_column f g v).2.1 2001 := k_tk (x := 3) hz
theorem z_Par_column {script_tokens_f_kinds : Nat → Int32} {script_tokens_f_values : Nat → Int32} {v_at : Int32} : isB (s_Par_column script_tokens_f_kinds script_tokens_f_values v_at).1 := by
  obtain ⟨r1, hr1⟩ : ∃ r, (s_Par_value script_tokens_f_values v_at) = r := ⟨_, rfl⟩
  obtain ⟨r2, hr2⟩ : ∃ r, (s_Par_take script_tokens_f_kinds v_at 3) = r := ⟨_, rfl⟩
  have zb_r2 : isB r2.1 := by rw [← hr2]; exact z_Par_take
  rw [s_Par_column]
  simp only [hr1, hr2]
  first | exact isB_0 | exact isB_1 | assumption
set_option maxHeartbeats 4000000 in
set_option maxRecDepth 100000 in
theorem c_Par_column (l : Launch) (G : GG) (h : Nat) (script_h : Nat) (script_tokens_h : Nat) (script_tokens_a_kinds : Nat) (script_tokens_a_values : Nat) (script_tokens_a_places : Nat) (script_conditions_h : Nat) (one_h : Nat) (script_tokens_f_kinds : Nat → Int32) (script_tokens_f_values : Nat → Int32) (script_tokens__size : Int32) (v_at : Int32) (v_joints : Int32) (one__sort : Int32) (one__column : Int32) (one__low : Int32) (one__high : Int32) (one__by : Int32) (one__top : Int32) (one__start : Int32) (one__end : Int32) (hz_v_at : up v_at 2001) : Det l G y_Par_column w_Par_column (rmD 1) 0 0 [.ref h, .ref one_h] [(h, .inr (11, [.ref script_h, .ref script_tokens_h, .ref script_conditions_h, .int v_at, .int v_joints])), (script_tokens_h, .inr (7, [.ref script_tokens_a_kinds, .ref script_tokens_a_values, .ref script_tokens_a_places, .int script_tokens__size])), (script_tokens_a_kinds, .inl (gI G, 2001, .inl script_tokens_f_kinds)), (script_tokens_a_values, .inl (gI G, 2001, .inl script_tokens_f_values)), (one_h, .inr (9, [.int one__sort, .int one__column, .int one__low, .int one__high, .int one__by, .int one__top, .int one__start, .int one__end]))] (some (.int (s_Par_column script_tokens_f_kinds script_tokens_f_values v_at).1)) [(h, .inr (11, [.ref script_h, .ref script_tokens_h, .ref script_conditions_h, .int (s_Par_column script_tokens_f_kinds script_tokens_f_values v_at).2.1, .int v_joints])), (script_tokens_h, .inr (7, [.ref script_tokens_a_kinds, .ref script_tokens_a_values, .ref script_tokens_a_places, .int script_tokens__size])), (script_tokens_a_kinds, .inl (gI G, 2001, .inl script_tokens_f_kinds)), (script_tokens_a_values, .inl (gI G, 2001, .inl script_tokens_f_values)), (one_h, .inr (9, [.int one__sort, .int (s_Par_column script_tokens_f_kinds script_tokens_f_values v_at).2.2, .int one__low, .int one__high, .int one__by, .int one__top, .int one__start, .int one__end]))] := by
  refine Det.of (cc := b_Par_column) (maxL := 2) (ret := (some .boolean)) (by decide) rfl (Nat.le_of_ble_eq_true rfl) ?_
  intro p e s m args below meth c A ls hx hb hr hml hown hts hlocks hin hA hK hZ hP hD hS hl
  have hts : ∀ w ∈ wG, w.before args s = true := fun w h => hts w (List.mem_cons_of_mem _ h)
  have hown : s.vm.findClass R_Par = some m.cls := hown
  have hl : lv_has ls 2 [(0, .ref h), (1, .ref one_h)] := hl
  refine lv_aload_n hx hb d_Par_column_0 rfl (lv_at hl 1 rfl) ?_
  refine lv_aload_n hx hb d_Par_column_1 rfl (lv_at hl 0 rfl) ?_
  obtain ⟨r1, hr1⟩ : ∃ r, (s_Par_value script_tokens_f_values v_at) = r := ⟨_, rfl⟩
  have hC_r1 := (c_Par_value l G h script_h script_tokens_h script_tokens_a_kinds script_tokens_a_values script_tokens_a_places script_conditions_h script_tokens_f_values script_tokens__size v_at v_joints hz_v_at)
  rw [hr1] at hC_r1
  refine ly_callV (rest := [.ref one_h]) (wf := [(h, .inr (11, [.ref script_h, .ref script_tokens_h, .ref script_conditions_h, .int v_at, .int v_joints])), (script_tokens_h, .inr (7, [.ref script_tokens_a_kinds, .ref script_tokens_a_values, .ref script_tokens_a_places, .int script_tokens__size])), (script_tokens_a_kinds, .inl (gI G, 2001, .inl script_tokens_f_kinds)), (script_tokens_a_values, .inl (gI G, 2001, .inl script_tokens_f_values)), (one_h, .inr (9, [.int one__sort, .int one__column, .int one__low, .int one__high, .int one__by, .int one__top, .int one__start, .int one__end]))]) ⟨hx, hb, hml, hown, hts⟩ hA hK hZ hP hD hS hC_r1 (cwV 0 hts g_Par_61 rfl rfl rfl (by decide +kernel) ⟨Nat.le_of_ble_eq_true rfl, Nat.le_of_ble_eq_true rfl⟩) (ci := 11) (q0 := 0) rfl rfl rfl [0, 1, 3] rfl (by decide) rfl rfl rfl hl.1 rfl (Nat.le_of_ble_eq_true rfl) d_Par_column_2 ⟨Nat.le_of_ble_eq_true rfl, Nat.le_of_ble_eq_true rfl⟩ (st1 := [.int r1, .ref one_h]) (c1 := 0) (s1 := 0) rfl rfl rfl (fun H locs hP hD hS => ?_)
  refine va_put (D := G.1) (ci := 9) (v := .int r1) (ty := .int) (C := R_Qu) (T := F_Qu) (N := 8) hx hb hts i_Qu t_Qu t_Qu_ok n_Qu hown hK hP hD hS 4 rfl rfl 1 (by decide) (hts (.fieldLink R_Par 125 "PrivateQueries$Question" "column" "I") k_143) (fun _ h9 => h9) rfl (by decide +kernel) rfl rfl (Nat.le_of_ble_eq_true rfl) d_Par_column_5 (fun H locs hP hD hS => ?_)
  have hP : va_P G.1 classes [(h, .inr (11, [.ref script_h, .ref script_tokens_h, .ref script_conditions_h, .int v_at, .int v_joints])), (script_tokens_h, .inr (7, [.ref script_tokens_a_kinds, .ref script_tokens_a_values, .ref script_tokens_a_places, .int script_tokens__size])), (script_tokens_a_kinds, .inl (gI G, 2001, .inl script_tokens_f_kinds)), (script_tokens_a_values, .inl (gI G, 2001, .inl script_tokens_f_values)), (one_h, .inr (9, [.int one__sort, .int r1, .int one__low, .int one__high, .int one__by, .int one__top, .int one__start, .int one__end]))] H := hP
  have hD : va_D A [(h, .inr (11, [.ref script_h, .ref script_tokens_h, .ref script_conditions_h, .int v_at, .int v_joints])), (script_tokens_h, .inr (7, [.ref script_tokens_a_kinds, .ref script_tokens_a_values, .ref script_tokens_a_places, .int script_tokens__size])), (script_tokens_a_kinds, .inl (gI G, 2001, .inl script_tokens_f_kinds)), (script_tokens_a_values, .inl (gI G, 2001, .inl script_tokens_f_values)), (one_h, .inr (9, [.int one__sort, .int r1, .int one__low, .int one__high, .int one__by, .int one__top, .int one__start, .int one__end]))] := hD
  refine lv_aload_n hx hb d_Par_column_8 rfl (lv_at hl 0 rfl) ?_
  refine lv_iconst (v := 3) hx hb d_Par_column_9 (by decide) ?_
  obtain ⟨r2, hr2⟩ : ∃ r, (s_Par_take script_tokens_f_kinds v_at 3) = r := ⟨_, rfl⟩
  have hC_r2 := (c_Par_take l G h script_h script_tokens_h script_tokens_a_kinds script_tokens_a_values script_tokens_a_places script_conditions_h script_tokens_f_kinds script_tokens__size v_at v_joints 3 hz_v_at)
  rw [hr2] at hC_r2
  have hf_r2_1 : up r2.2 2001 := by rw [← hr2]; exact (k_tk hz_v_at)
  have hf_r2_2 : isB r2.1 := by rw [← hr2]; exact z_Par_take
  refine ly_callV (rest := []) (wf := [(h, .inr (11, [.ref script_h, .ref script_tokens_h, .ref script_conditions_h, .int r2.2, .int v_joints])), (script_tokens_h, .inr (7, [.ref script_tokens_a_kinds, .ref script_tokens_a_values, .ref script_tokens_a_places, .int script_tokens__size])), (script_tokens_a_kinds, .inl (gI G, 2001, .inl script_tokens_f_kinds)), (script_tokens_a_values, .inl (gI G, 2001, .inl script_tokens_f_values)), (one_h, .inr (9, [.int one__sort, .int r1, .int one__low, .int one__high, .int one__by, .int one__top, .int one__start, .int one__end]))]) ⟨hx, hb, hml, hown, hts⟩ hA hK hZ hP hD hS hC_r2 (cwV 1 hts g_Par_47 rfl rfl rfl (by decide +kernel) ⟨Nat.le_of_ble_eq_true rfl, Nat.le_of_ble_eq_true rfl⟩) (ci := 11) (q0 := 0) rfl rfl rfl [0, 1, 2] rfl (by decide) rfl rfl rfl hl.1 rfl (Nat.le_of_ble_eq_true rfl) d_Par_column_10 ⟨Nat.le_of_ble_eq_true rfl, Nat.le_of_ble_eq_true rfl⟩ (st1 := [.int r2.1]) (c1 := 0) (s1 := 0) rfl rfl rfl (fun H locs hP hD hS => ?_)
  exact ly_zret hx hb hr hlocks hP hD hS d_Par_column_13 hf_r2_2 (by rw [s_Par_column] <;> simp only [hr1, hr2]) (by rw [s_Par_column] <;> simp only [hr1, hr2])

theorem z_Par_bounds {script_tokens_f_kinds : Nat → Int32} {script_tokens_f_values : Nat → Int32} {v_at : Int32} {one__high : Int32} {one__by : Int32} : isB (s_Par_bounds script_tokens_f_kinds script_tokens_f_values v_at one__high one__by).1 := by
  obtain ⟨r1, hr1⟩ : ∃ r, (s_Par_take script_tokens_f_kinds v_at 10) = r := ⟨_, rfl⟩
  have zb_r1 : isB r1.1 := by rw [← hr1]; exact z_Par_take
  obtain ⟨r2, hr2⟩ : ∃ r, (s_Par_isNumber script_tokens_f_kinds script_tokens_f_values r1.2 1 1000) = r := ⟨_, rfl⟩
  have zb_r2 : isB r2 := by rw [← hr2]; exact z_Par_isNumber
  obtain ⟨r3, hr3⟩ : ∃ r, (s_Par_value script_tokens_f_values r1.2) = r := ⟨_, rfl⟩
  obtain ⟨r4, hr4⟩ : ∃ r, (s_Par_take script_tokens_f_kinds (r1.2 + 1) 11) = r := ⟨_, rfl⟩
  have zb_r4 : isB r4.1 := by rw [← hr4]; exact z_Par_take
  obtain ⟨r5, hr5⟩ : ∃ r, (s_Par_isNumber script_tokens_f_kinds script_tokens_f_values r4.2 1 1000) = r := ⟨_, rfl⟩
  have zb_r5 : isB r5 := by rw [← hr5]; exact z_Par_isNumber
  obtain ⟨r6, hr6⟩ : ∃ r, (s_Par_value script_tokens_f_values r4.2) = r := ⟨_, rfl⟩
  rw [s_Par_bounds]
  simp only [hr1, hr2, hr3, hr4, hr5, hr6]
  by_cases ct1 : r1.1 = 0
  · rw [if_pos ct1]
    first | exact isB_0 | exact isB_1 | assumption
  rw [if_neg ct1]
  by_cases ct2 : r2 = 0
  · rw [if_pos ct2]
    first | exact isB_0 | exact isB_1 | assumption
  rw [if_neg ct2]
  by_cases ct3 : r4.1 = 0
  · rw [if_pos ct3]
    first | exact isB_0 | exact isB_1 | assumption
  rw [if_neg ct3]
  by_cases ct4 : r5 = 0
  · rw [if_pos ct4]
    first | exact isB_0 | exact isB_1 | assumption
  rw [if_neg ct4]
  first | exact isB_0 | exact isB_1 | assumption
set_option maxHeartbeats 4000000 in
set_option maxRecDepth 100000 in
theorem c_Par_bounds (l : Launch) (G : GG) (h : Nat) (script_h : Nat) (script_tokens_h : Nat) (script_tokens_a_kinds : Nat) (script_tokens_a_values : Nat) (script_tokens_a_places : Nat) (script_conditions_h : Nat) (one_h : Nat) (script_tokens_f_kinds : Nat → Int32) (script_tokens_f_values : Nat → Int32) (script_tokens__size : Int32) (v_at : Int32) (v_joints : Int32) (one__sort : Int32) (one__column : Int32) (one__low : Int32) (one__high : Int32) (one__by : Int32) (one__top : Int32) (one__start : Int32) (one__end : Int32) (hz_v_at : up v_at 2001) : Det l G y_Par_bounds w_Par_bounds (rmD 2) 0 0 [.ref h, .ref one_h] [(h, .inr (11, [.ref script_h, .ref script_tokens_h, .ref script_conditions_h, .int v_at, .int v_joints])), (script_tokens_h, .inr (7, [.ref script_tokens_a_kinds, .ref script_tokens_a_values, .ref script_tokens_a_places, .int script_tokens__size])), (script_tokens_a_kinds, .inl (gI G, 2001, .inl script_tokens_f_kinds)), (script_tokens_a_values, .inl (gI G, 2001, .inl script_tokens_f_values)), (one_h, .inr (9, [.int one__sort, .int one__column, .int one__low, .int one__high, .int one__by, .int one__top, .int one__start, .int one__end]))] (some (.int (s_Par_bounds script_tokens_f_kinds script_tokens_f_values v_at one__high one__by).1)) [(h, .inr (11, [.ref script_h, .ref script_tokens_h, .ref script_conditions_h, .int (s_Par_bounds script_tokens_f_kinds script_tokens_f_values v_at one__high one__by).2.1, .int v_joints])), (script_tokens_h, .inr (7, [.ref script_tokens_a_kinds, .ref script_tokens_a_values, .ref script_tokens_a_places, .int script_tokens__size])), (script_tokens_a_kinds, .inl (gI G, 2001, .inl script_tokens_f_kinds)), (script_tokens_a_values, .inl (gI G, 2001, .inl script_tokens_f_values)), (one_h, .inr (9, [.int one__sort, .int one__column, .int one__low, .int (s_Par_bounds script_tokens_f_kinds script_tokens_f_values v_at one__high one__by).2.2.1, .int (s_Par_bounds script_tokens_f_kinds script_tokens_f_values v_at one__high one__by).2.2.2, .int one__top, .int one__start, .int one__end]))] := by
  refine Det.of (cc := b_Par_bounds) (maxL := 2) (ret := (some .boolean)) (by decide) rfl (Nat.le_of_ble_eq_true rfl) ?_
  intro p e s m args below meth c A ls hx hb hr hml hown hts hlocks hin hA hK hZ hP hD hS hl
  have hts : ∀ w ∈ wG, w.before args s = true := fun w h => hts w (List.mem_cons_of_mem _ h)
  have hown : s.vm.findClass R_Par = some m.cls := hown
  have hl : lv_has ls 2 [(0, .ref h), (1, .ref one_h)] := hl
  refine lv_aload_n hx hb d_Par_bounds_0 rfl (lv_at hl 0 rfl) ?_
  refine lv_bipush (v := 10) hx hb d_Par_bounds_1 (by decide) ?_
  obtain ⟨r1, hr1⟩ : ∃ r, (s_Par_take script_tokens_f_kinds v_at 10) = r := ⟨_, rfl⟩
  have hC_r1 := (c_Par_take l G h script_h script_tokens_h script_tokens_a_kinds script_tokens_a_values script_tokens_a_places script_conditions_h script_tokens_f_kinds script_tokens__size v_at v_joints 10 hz_v_at)
  rw [hr1] at hC_r1
  have hf_r1_1 : up r1.2 2001 := by rw [← hr1]; exact (k_tk hz_v_at)
  have hf_r1_2 : isB r1.1 := by rw [← hr1]; exact z_Par_take
  refine ly_callV (rest := []) (wf := [(h, .inr (11, [.ref script_h, .ref script_tokens_h, .ref script_conditions_h, .int r1.2, .int v_joints])), (script_tokens_h, .inr (7, [.ref script_tokens_a_kinds, .ref script_tokens_a_values, .ref script_tokens_a_places, .int script_tokens__size])), (script_tokens_a_kinds, .inl (gI G, 2001, .inl script_tokens_f_kinds)), (script_tokens_a_values, .inl (gI G, 2001, .inl script_tokens_f_values)), (one_h, .inr (9, [.int one__sort, .int one__column, .int one__low, .int one__high, .int one__by, .int one__top, .int one__start, .int one__end]))]) ⟨hx, hb, hml, hown, hts⟩ hA hK hZ hP hD hS hC_r1 (cwV 1 hts g_Par_47 rfl rfl rfl (by decide +kernel) ⟨Nat.le_of_ble_eq_true rfl, Nat.le_of_ble_eq_true rfl⟩) (ci := 11) (q0 := 0) rfl rfl rfl [0, 1, 2] rfl (by decide) rfl rfl rfl hl.1 rfl (Nat.le_of_ble_eq_true rfl) d_Par_bounds_3 ⟨Nat.le_of_ble_eq_true rfl, Nat.le_of_ble_eq_true rfl⟩ (st1 := [.int r1.1]) (c1 := 0) (s1 := 0) rfl rfl rfl (fun H locs hP hD hS => ?_)
  refine lv_if_eq (tgt := 20) hx hb d_Par_bounds_6 (by decide) (fun c1 => ?_) (fun c1 => ?_)
  · skip
    refine lv_iconst (v := 0) hx hb d_Par_bounds_20 (by decide) ?_
    exact ly_zret hx hb hr hlocks hP hD hS d_Par_bounds_21 (by decide) (by rw [s_Par_bounds] <;> simp only [hr1] <;> rw [if_pos c1]) (by rw [s_Par_bounds] <;> simp only [hr1] <;> rw [if_pos c1])
  refine lv_aload_n hx hb d_Par_bounds_9 rfl (lv_at hl 0 rfl) ?_
  refine lv_iconst (v := 1) hx hb d_Par_bounds_10 (by decide) ?_
  refine lv_sipush (v := 1000) hx hb d_Par_bounds_11 (by decide) ?_
  obtain ⟨r2, hr2⟩ : ∃ r, (s_Par_isNumber script_tokens_f_kinds script_tokens_f_values r1.2 1 1000) = r := ⟨_, rfl⟩
  have hC_r2 := (c_Par_isNumber l G h script_h script_tokens_h script_tokens_a_kinds script_tokens_a_values script_tokens_a_places script_conditions_h script_tokens_f_kinds script_tokens_f_values script_tokens__size r1.2 v_joints 1 1000 hf_r1_1)
  rw [hr2] at hC_r2
  have hf_r2_1 : isB r2 := by rw [← hr2]; exact z_Par_isNumber
  refine ly_callV (rest := []) (wf := [(h, .inr (11, [.ref script_h, .ref script_tokens_h, .ref script_conditions_h, .int r1.2, .int v_joints])), (script_tokens_h, .inr (7, [.ref script_tokens_a_kinds, .ref script_tokens_a_values, .ref script_tokens_a_places, .int script_tokens__size])), (script_tokens_a_kinds, .inl (gI G, 2001, .inl script_tokens_f_kinds)), (script_tokens_a_values, .inl (gI G, 2001, .inl script_tokens_f_values)), (one_h, .inr (9, [.int one__sort, .int one__column, .int one__low, .int one__high, .int one__by, .int one__top, .int one__start, .int one__end]))]) ⟨hx, hb, hml, hown, hts⟩ hA hK hZ hP hD hS hC_r2 (cwV 2 hts g_Par_102 rfl rfl rfl (by decide +kernel) ⟨Nat.le_of_ble_eq_true rfl, Nat.le_of_ble_eq_true rfl⟩) (ci := 11) (q0 := 0) rfl rfl rfl [0, 1, 2, 3] rfl (by decide) rfl rfl rfl hl.1 rfl (Nat.le_of_ble_eq_true rfl) d_Par_bounds_14 ⟨Nat.le_of_ble_eq_true rfl, Nat.le_of_ble_eq_true rfl⟩ (st1 := [.int r2]) (c1 := 0) (s1 := 0) rfl rfl rfl (fun H locs hP hD hS => ?_)
  refine lv_if_ne (tgt := 22) hx hb d_Par_bounds_17 (by decide) (fun c2 => ?_) (fun c2 => ?_)
  · skip
    refine lv_aload_n hx hb d_Par_bounds_22 rfl (lv_at hl 1 rfl) ?_
    refine lv_aload_n hx hb d_Par_bounds_23 rfl (lv_at hl 0 rfl) ?_
    obtain ⟨r3, hr3⟩ : ∃ r, (s_Par_value script_tokens_f_values r1.2) = r := ⟨_, rfl⟩
    have hC_r3 := (c_Par_value l G h script_h script_tokens_h script_tokens_a_kinds script_tokens_a_values script_tokens_a_places script_conditions_h script_tokens_f_values script_tokens__size r1.2 v_joints hf_r1_1)
    rw [hr3] at hC_r3
    refine ly_callV (rest := [.ref one_h]) (wf := [(h, .inr (11, [.ref script_h, .ref script_tokens_h, .ref script_conditions_h, .int r1.2, .int v_joints])), (script_tokens_h, .inr (7, [.ref script_tokens_a_kinds, .ref script_tokens_a_values, .ref script_tokens_a_places, .int script_tokens__size])), (script_tokens_a_kinds, .inl (gI G, 2001, .inl script_tokens_f_kinds)), (script_tokens_a_values, .inl (gI G, 2001, .inl script_tokens_f_values)), (one_h, .inr (9, [.int one__sort, .int one__column, .int one__low, .int one__high, .int one__by, .int one__top, .int one__start, .int one__end]))]) ⟨hx, hb, hml, hown, hts⟩ hA hK hZ hP hD hS hC_r3 (cwV 0 hts g_Par_61 rfl rfl rfl (by decide +kernel) ⟨Nat.le_of_ble_eq_true rfl, Nat.le_of_ble_eq_true rfl⟩) (ci := 11) (q0 := 0) rfl rfl rfl [0, 1, 3] rfl (by decide) rfl rfl rfl hl.1 rfl (Nat.le_of_ble_eq_true rfl) d_Par_bounds_24 ⟨Nat.le_of_ble_eq_true rfl, Nat.le_of_ble_eq_true rfl⟩ (st1 := [.int r3, .ref one_h]) (c1 := 0) (s1 := 0) rfl rfl rfl (fun H locs hP hD hS => ?_)
    refine va_put (D := G.1) (ci := 9) (v := .int r3) (ty := .int) (C := R_Qu) (T := F_Qu) (N := 8) hx hb hts i_Qu t_Qu t_Qu_ok n_Qu hown hK hP hD hS 4 rfl rfl 3 (by decide) (hts (.fieldLink R_Par 127 "PrivateQueries$Question" "high" "I") k_152) (fun _ h9 => h9) rfl (by decide +kernel) rfl rfl (Nat.le_of_ble_eq_true rfl) d_Par_bounds_27 (fun H locs hP hD hS => ?_)
    have hP : va_P G.1 classes [(h, .inr (11, [.ref script_h, .ref script_tokens_h, .ref script_conditions_h, .int r1.2, .int v_joints])), (script_tokens_h, .inr (7, [.ref script_tokens_a_kinds, .ref script_tokens_a_values, .ref script_tokens_a_places, .int script_tokens__size])), (script_tokens_a_kinds, .inl (gI G, 2001, .inl script_tokens_f_kinds)), (script_tokens_a_values, .inl (gI G, 2001, .inl script_tokens_f_values)), (one_h, .inr (9, [.int one__sort, .int one__column, .int one__low, .int r3, .int one__by, .int one__top, .int one__start, .int one__end]))] H := hP
    have hD : va_D A [(h, .inr (11, [.ref script_h, .ref script_tokens_h, .ref script_conditions_h, .int r1.2, .int v_joints])), (script_tokens_h, .inr (7, [.ref script_tokens_a_kinds, .ref script_tokens_a_values, .ref script_tokens_a_places, .int script_tokens__size])), (script_tokens_a_kinds, .inl (gI G, 2001, .inl script_tokens_f_kinds)), (script_tokens_a_values, .inl (gI G, 2001, .inl script_tokens_f_values)), (one_h, .inr (9, [.int one__sort, .int one__column, .int one__low, .int r3, .int one__by, .int one__top, .int one__start, .int one__end]))] := hD
    refine lv_aload_n hx hb d_Par_bounds_30 rfl (lv_at hl 0 rfl) ?_
    refine lv_dup hx hb d_Par_bounds_31 rfl ?_
    refine va_get (D := G.1) (ci := 11) (C := R_Par) (T := F_Par) (N := 5) (v := .int r1.2) hx hb hts i_Par hown hK hP 0 rfl rfl 3 (by decide) (hts (.fieldLink R_Par 27 "PrivateQueries$Parser" "at" "I") k_129) (fun _ h9 => h9) rfl d_Par_bounds_32 ?_
    refine lv_iconst (v := 1) hx hb d_Par_bounds_35 (by decide) ?_
    refine lv_iadd hx hb d_Par_bounds_36 ?_
    refine va_put (D := G.1) (ci := 11) (v := .int (r1.2 + 1)) (ty := .int) (C := R_Par) (T := F_Par) (N := 5) hx hb hts i_Par t_Par t_Par_ok n_Par hown hK hP hD hS 0 rfl rfl 3 (by decide) (hts (.fieldLink R_Par 27 "PrivateQueries$Parser" "at" "I") k_129) (fun _ h9 => h9) rfl (by decide +kernel) rfl rfl (Nat.le_of_ble_eq_true rfl) d_Par_bounds_37 (fun H locs hP hD hS => ?_)
    have hP : va_P G.1 classes [(h, .inr (11, [.ref script_h, .ref script_tokens_h, .ref script_conditions_h, .int (r1.2 + 1), .int v_joints])), (script_tokens_h, .inr (7, [.ref script_tokens_a_kinds, .ref script_tokens_a_values, .ref script_tokens_a_places, .int script_tokens__size])), (script_tokens_a_kinds, .inl (gI G, 2001, .inl script_tokens_f_kinds)), (script_tokens_a_values, .inl (gI G, 2001, .inl script_tokens_f_values)), (one_h, .inr (9, [.int one__sort, .int one__column, .int one__low, .int r3, .int one__by, .int one__top, .int one__start, .int one__end]))] H := hP
    have hD : va_D A [(h, .inr (11, [.ref script_h, .ref script_tokens_h, .ref script_conditions_h, .int (r1.2 + 1), .int v_joints])), (script_tokens_h, .inr (7, [.ref script_tokens_a_kinds, .ref script_tokens_a_values, .ref script_tokens_a_places, .int script_tokens__size])), (script_tokens_a_kinds, .inl (gI G, 2001, .inl script_tokens_f_kinds)), (script_tokens_a_values, .inl (gI G, 2001, .inl script_tokens_f_values)), (one_h, .inr (9, [.int one__sort, .int one__column, .int one__low, .int r3, .int one__by, .int one__top, .int one__start, .int one__end]))] := hD
    refine lv_aload_n hx hb d_Par_bounds_40 rfl (lv_at hl 0 rfl) ?_
    refine lv_bipush (v := 11) hx hb d_Par_bounds_41 (by decide) ?_
    obtain ⟨r4, hr4⟩ : ∃ r, (s_Par_take script_tokens_f_kinds (r1.2 + 1) 11) = r := ⟨_, rfl⟩
    have hC_r4 := (c_Par_take l G h script_h script_tokens_h script_tokens_a_kinds script_tokens_a_values script_tokens_a_places script_conditions_h script_tokens_f_kinds script_tokens__size (r1.2 + 1) v_joints 11 (k_isn hf_r1_1 (by rw [hr2]; exact c2)))
    rw [hr4] at hC_r4
    have hf_r4_1 : up r4.2 2001 := by rw [← hr4]; exact (k_tk (k_isn hf_r1_1 (by rw [hr2]; exact c2)))
    have hf_r4_2 : isB r4.1 := by rw [← hr4]; exact z_Par_take
    refine ly_callV (rest := []) (wf := [(h, .inr (11, [.ref script_h, .ref script_tokens_h, .ref script_conditions_h, .int r4.2, .int v_joints])), (script_tokens_h, .inr (7, [.ref script_tokens_a_kinds, .ref script_tokens_a_values, .ref script_tokens_a_places, .int script_tokens__size])), (script_tokens_a_kinds, .inl (gI G, 2001, .inl script_tokens_f_kinds)), (script_tokens_a_values, .inl (gI G, 2001, .inl script_tokens_f_values)), (one_h, .inr (9, [.int one__sort, .int one__column, .int one__low, .int r3, .int one__by, .int one__top, .int one__start, .int one__end]))]) ⟨hx, hb, hml, hown, hts⟩ hA hK hZ hP hD hS hC_r4 (cwV 1 hts g_Par_47 rfl rfl rfl (by decide +kernel) ⟨Nat.le_of_ble_eq_true rfl, Nat.le_of_ble_eq_true rfl⟩) (ci := 11) (q0 := 0) rfl rfl rfl [0, 1, 2] rfl (by decide) rfl rfl rfl hl.1 rfl (Nat.le_of_ble_eq_true rfl) d_Par_bounds_43 ⟨Nat.le_of_ble_eq_true rfl, Nat.le_of_ble_eq_true rfl⟩ (st1 := [.int r4.1]) (c1 := 0) (s1 := 0) rfl rfl rfl (fun H locs hP hD hS => ?_)
    refine lv_if_ne (tgt := 51) hx hb d_Par_bounds_46 (by decide) (fun c3 => ?_) (fun c3 => ?_)
    · skip
      refine lv_aload_n hx hb d_Par_bounds_51 rfl (lv_at hl 0 rfl) ?_
      refine lv_iconst (v := 1) hx hb d_Par_bounds_52 (by decide) ?_
      refine lv_sipush (v := 1000) hx hb d_Par_bounds_53 (by decide) ?_
      obtain ⟨r5, hr5⟩ : ∃ r, (s_Par_isNumber script_tokens_f_kinds script_tokens_f_values r4.2 1 1000) = r := ⟨_, rfl⟩
      have hC_r5 := (c_Par_isNumber l G h script_h script_tokens_h script_tokens_a_kinds script_tokens_a_values script_tokens_a_places script_conditions_h script_tokens_f_kinds script_tokens_f_values script_tokens__size r4.2 v_joints 1 1000 hf_r4_1)
      rw [hr5] at hC_r5
      have hf_r5_1 : isB r5 := by rw [← hr5]; exact z_Par_isNumber
      refine ly_callV (rest := []) (wf := [(h, .inr (11, [.ref script_h, .ref script_tokens_h, .ref script_conditions_h, .int r4.2, .int v_joints])), (script_tokens_h, .inr (7, [.ref script_tokens_a_kinds, .ref script_tokens_a_values, .ref script_tokens_a_places, .int script_tokens__size])), (script_tokens_a_kinds, .inl (gI G, 2001, .inl script_tokens_f_kinds)), (script_tokens_a_values, .inl (gI G, 2001, .inl script_tokens_f_values)), (one_h, .inr (9, [.int one__sort, .int one__column, .int one__low, .int r3, .int one__by, .int one__top, .int one__start, .int one__end]))]) ⟨hx, hb, hml, hown, hts⟩ hA hK hZ hP hD hS hC_r5 (cwV 2 hts g_Par_102 rfl rfl rfl (by decide +kernel) ⟨Nat.le_of_ble_eq_true rfl, Nat.le_of_ble_eq_true rfl⟩) (ci := 11) (q0 := 0) rfl rfl rfl [0, 1, 2, 3] rfl (by decide) rfl rfl rfl hl.1 rfl (Nat.le_of_ble_eq_true rfl) d_Par_bounds_56 ⟨Nat.le_of_ble_eq_true rfl, Nat.le_of_ble_eq_true rfl⟩ (st1 := [.int r5]) (c1 := 0) (s1 := 0) rfl rfl rfl (fun H locs hP hD hS => ?_)
      refine lv_if_ne (tgt := 64) hx hb d_Par_bounds_59 (by decide) (fun c4 => ?_) (fun c4 => ?_)
      · skip
        refine lv_aload_n hx hb d_Par_bounds_64 rfl (lv_at hl 1 rfl) ?_
        refine lv_aload_n hx hb d_Par_bounds_65 rfl (lv_at hl 0 rfl) ?_
        obtain ⟨r6, hr6⟩ : ∃ r, (s_Par_value script_tokens_f_values r4.2) = r := ⟨_, rfl⟩
        have hC_r6 := (c_Par_value l G h script_h script_tokens_h script_tokens_a_kinds script_tokens_a_values script_tokens_a_places script_conditions_h script_tokens_f_values script_tokens__size r4.2 v_joints hf_r4_1)
        rw [hr6] at hC_r6
        refine ly_callV (rest := [.ref one_h]) (wf := [(h, .inr (11, [.ref script_h, .ref script_tokens_h, .ref script_conditions_h, .int r4.2, .int v_joints])), (script_tokens_h, .inr (7, [.ref script_tokens_a_kinds, .ref script_tokens_a_values, .ref script_tokens_a_places, .int script_tokens__size])), (script_tokens_a_kinds, .inl (gI G, 2001, .inl script_tokens_f_kinds)), (script_tokens_a_values, .inl (gI G, 2001, .inl script_tokens_f_values)), (one_h, .inr (9, [.int one__sort, .int one__column, .int one__low, .int r3, .int one__by, .int one__top, .int one__start, .int one__end]))]) ⟨hx, hb, hml, hown, hts⟩ hA hK hZ hP hD hS hC_r6 (cwV 0 hts g_Par_61 rfl rfl rfl (by decide +kernel) ⟨Nat.le_of_ble_eq_true rfl, Nat.le_of_ble_eq_true rfl⟩) (ci := 11) (q0 := 0) rfl rfl rfl [0, 1, 3] rfl (by decide) rfl rfl rfl hl.1 rfl (Nat.le_of_ble_eq_true rfl) d_Par_bounds_66 ⟨Nat.le_of_ble_eq_true rfl, Nat.le_of_ble_eq_true rfl⟩ (st1 := [.int r6, .ref one_h]) (c1 := 0) (s1 := 0) rfl rfl rfl (fun H locs hP hD hS => ?_)
        refine va_put (D := G.1) (ci := 9) (v := .int r6) (ty := .int) (C := R_Qu) (T := F_Qu) (N := 8) hx hb hts i_Qu t_Qu t_Qu_ok n_Qu hown hK hP hD hS 4 rfl rfl 4 (by decide) (hts (.fieldLink R_Par 130 "PrivateQueries$Question" "by" "I") k_153) (fun _ h9 => h9) rfl (by decide +kernel) rfl rfl (Nat.le_of_ble_eq_true rfl) d_Par_bounds_69 (fun H locs hP hD hS => ?_)
        have hP : va_P G.1 classes [(h, .inr (11, [.ref script_h, .ref script_tokens_h, .ref script_conditions_h, .int r4.2, .int v_joints])), (script_tokens_h, .inr (7, [.ref script_tokens_a_kinds, .ref script_tokens_a_values, .ref script_tokens_a_places, .int script_tokens__size])), (script_tokens_a_kinds, .inl (gI G, 2001, .inl script_tokens_f_kinds)), (script_tokens_a_values, .inl (gI G, 2001, .inl script_tokens_f_values)), (one_h, .inr (9, [.int one__sort, .int one__column, .int one__low, .int r3, .int r6, .int one__top, .int one__start, .int one__end]))] H := hP
        have hD : va_D A [(h, .inr (11, [.ref script_h, .ref script_tokens_h, .ref script_conditions_h, .int r4.2, .int v_joints])), (script_tokens_h, .inr (7, [.ref script_tokens_a_kinds, .ref script_tokens_a_values, .ref script_tokens_a_places, .int script_tokens__size])), (script_tokens_a_kinds, .inl (gI G, 2001, .inl script_tokens_f_kinds)), (script_tokens_a_values, .inl (gI G, 2001, .inl script_tokens_f_values)), (one_h, .inr (9, [.int one__sort, .int one__column, .int one__low, .int r3, .int r6, .int one__top, .int one__start, .int one__end]))] := hD
        refine lv_aload_n hx hb d_Par_bounds_72 rfl (lv_at hl 0 rfl) ?_
        refine lv_dup hx hb d_Par_bounds_73 rfl ?_
        refine va_get (D := G.1) (ci := 11) (C := R_Par) (T := F_Par) (N := 5) (v := .int r4.2) hx hb hts i_Par hown hK hP 0 rfl rfl 3 (by decide) (hts (.fieldLink R_Par 27 "PrivateQueries$Parser" "at" "I") k_129) (fun _ h9 => h9) rfl d_Par_bounds_74 ?_
        refine lv_iconst (v := 1) hx hb d_Par_bounds_77 (by decide) ?_
        refine lv_iadd hx hb d_Par_bounds_78 ?_
        refine va_put (D := G.1) (ci := 11) (v := .int (r4.2 + 1)) (ty := .int) (C := R_Par) (T := F_Par) (N := 5) hx hb hts i_Par t_Par t_Par_ok n_Par hown hK hP hD hS 0 rfl rfl 3 (by decide) (hts (.fieldLink R_Par 27 "PrivateQueries$Parser" "at" "I") k_129) (fun _ h9 => h9) rfl (by decide +kernel) rfl rfl (Nat.le_of_ble_eq_true rfl) d_Par_bounds_79 (fun H locs hP hD hS => ?_)
        have hP : va_P G.1 classes [(h, .inr (11, [.ref script_h, .ref script_tokens_h, .ref script_conditions_h, .int (r4.2 + 1), .int v_joints])), (script_tokens_h, .inr (7, [.ref script_tokens_a_kinds, .ref script_tokens_a_values, .ref script_tokens_a_places, .int script_tokens__size])), (script_tokens_a_kinds, .inl (gI G, 2001, .inl script_tokens_f_kinds)), (script_tokens_a_values, .inl (gI G, 2001, .inl script_tokens_f_values)), (one_h, .inr (9, [.int one__sort, .int one__column, .int one__low, .int r3, .int r6, .int one__top, .int one__start, .int one__end]))] H := hP
        have hD : va_D A [(h, .inr (11, [.ref script_h, .ref script_tokens_h, .ref script_conditions_h, .int (r4.2 + 1), .int v_joints])), (script_tokens_h, .inr (7, [.ref script_tokens_a_kinds, .ref script_tokens_a_values, .ref script_tokens_a_places, .int script_tokens__size])), (script_tokens_a_kinds, .inl (gI G, 2001, .inl script_tokens_f_kinds)), (script_tokens_a_values, .inl (gI G, 2001, .inl script_tokens_f_values)), (one_h, .inr (9, [.int one__sort, .int one__column, .int one__low, .int r3, .int r6, .int one__top, .int one__start, .int one__end]))] := hD
        refine lv_iconst (v := 1) hx hb d_Par_bounds_82 (by decide) ?_
        exact ly_zret hx hb hr hlocks hP hD hS d_Par_bounds_83 (by decide) (by rw [s_Par_bounds] <;> simp only [hr1, hr2, hr3, hr4, hr5, hr6] <;> rw [if_neg c1, if_neg c2, if_neg c3, if_neg c4]) (by rw [s_Par_bounds] <;> simp only [hr1, hr2, hr3, hr4, hr5, hr6] <;> rw [if_neg c1, if_neg c2, if_neg c3, if_neg c4])
      refine lv_iconst (v := 0) hx hb d_Par_bounds_62 (by decide) ?_
      exact ly_zret hx hb hr hlocks hP hD hS d_Par_bounds_63 (by decide) (by rw [s_Par_bounds] <;> simp only [hr1, hr2, hr3, hr4, hr5] <;> rw [if_neg c1, if_neg c2, if_neg c3, if_pos c4]) (by rw [s_Par_bounds] <;> simp only [hr1, hr2, hr3, hr4, hr5] <;> rw [if_neg c1, if_neg c2, if_neg c3, if_pos c4])
    refine lv_iconst (v := 1) hx hb d_Par_bounds_49 (by decide) ?_
    exact ly_zret hx hb hr hlocks hP hD hS d_Par_bounds_50 (by decide) (by rw [s_Par_bounds] <;> simp only [hr1, hr2, hr3, hr4] <;> rw [if_neg c1, if_neg c2, if_pos c3]) (by rw [s_Par_bounds] <;> simp only [hr1, hr2, hr3, hr4] <;> rw [if_neg c1, if_neg c2, if_pos c3])
  refine lv_iconst (v := 0) hx hb d_Par_bounds_20 (by decide) ?_
  exact ly_zret hx hb hr hlocks hP hD hS d_Par_bounds_21 (by decide) (by rw [s_Par_bounds] <;> simp only [hr1, hr2] <;> rw [if_neg c1, if_pos c2]) (by rw [s_Par_bounds] <;> simp only [hr1, hr2] <;> rw [if_neg c1, if_pos c2])

theorem z_Par_range {script_tokens_f_kinds : Nat → Int32} {script_tokens_f_values : Nat → Int32} {v_at : Int32} {one__low : Int32} {one__high : Int32} : isB (s_Par_range script_tokens_f_kinds script_tokens_f_values v_at one__low one__high).1 := by
  obtain ⟨r1, hr1⟩ : ∃ r, (s_Par_take script_tokens_f_kinds v_at 9) = r := ⟨_, rfl⟩
  have zb_r1 : isB r1.1 := by rw [← hr1]; exact z_Par_take
  obtain ⟨r2, hr2⟩ : ∃ r, (s_Par_take script_tokens_f_kinds r1.2 24) = r := ⟨_, rfl⟩
  have zb_r2 : isB r2.1 := by rw [← hr2]; exact z_Par_take
  obtain ⟨r3, hr3⟩ : ∃ r, (s_Par_value script_tokens_f_values r2.2) = r := ⟨_, rfl⟩
  obtain ⟨r4, hr4⟩ : ∃ r, (s_Par_take script_tokens_f_kinds r2.2 2) = r := ⟨_, rfl⟩
  have zb_r4 : isB r4.1 := by rw [← hr4]; exact z_Par_take
  obtain ⟨r5, hr5⟩ : ∃ r, (s_Par_take script_tokens_f_kinds r4.2 10) = r := ⟨_, rfl⟩
  have zb_r5 : isB r5.1 := by rw [← hr5]; exact z_Par_take
  obtain ⟨r6, hr6⟩ : ∃ r, (s_Par_take script_tokens_f_kinds r5.2 24) = r := ⟨_, rfl⟩
  have zb_r6 : isB r6.1 := by rw [← hr6]; exact z_Par_take
  obtain ⟨r7, hr7⟩ : ∃ r, (s_Par_value script_tokens_f_values r6.2) = r := ⟨_, rfl⟩
  obtain ⟨r8, hr8⟩ : ∃ r, (s_Par_take script_tokens_f_kinds r6.2 2) = r := ⟨_, rfl⟩
  have zb_r8 : isB r8.1 := by rw [← hr8]; exact z_Par_take
  rw [s_Par_range]
  simp only [hr1, hr2, hr3, hr4, hr5, hr6, hr7, hr8]
  by_cases ct1 : r1.1 = 0
  · rw [if_pos ct1]
    first | exact isB_0 | exact isB_1 | assumption
  rw [if_neg ct1]
  by_cases ct2 : r2.1 = 0
  · rw [if_pos ct2]
    by_cases ct3 : r4.1 = 0
    · rw [if_pos ct3]
      first | exact isB_0 | exact isB_1 | assumption
    rw [if_neg ct3]
    by_cases ct4 : r5.1 = 0
    · rw [if_pos ct4]
      first | exact isB_0 | exact isB_1 | assumption
    rw [if_neg ct4]
    by_cases ct5 : r6.1 = 0
    · rw [if_pos ct5]
      by_cases ct6 : (lg_cmp (((1 * r7).toInt64) - ((1 * r3).toInt64)) 0) < 0
      · rw [if_pos ct6]
        first | exact isB_0 | exact isB_1 | assumption
      rw [if_neg ct6]
      by_cases ct7 : 0 ≤ (lg_cmp (((1 * r7).toInt64) - ((1 * r3).toInt64)) 20)
      · rw [if_pos ct7]
        first | exact isB_0 | exact isB_1 | assumption
      rw [if_neg ct7]
      by_cases ct8 : r8.1 = 0
      · rw [if_pos ct8]
        first | exact isB_0 | exact isB_1 | assumption
      rw [if_neg ct8]
      first | exact isB_0 | exact isB_1 | assumption
    rw [if_neg ct5]
    by_cases ct9 : (lg_cmp ((((-1) * r7).toInt64) - ((1 * r3).toInt64)) 0) < 0
    · rw [if_pos ct9]
      first | exact isB_0 | exact isB_1 | assumption
    rw [if_neg ct9]
    by_cases ct10 : 0 ≤ (lg_cmp ((((-1) * r7).toInt64) - ((1 * r3).toInt64)) 20)
    · rw [if_pos ct10]
      first | exact isB_0 | exact isB_1 | assumption
    rw [if_neg ct10]
    by_cases ct11 : r8.1 = 0
    · rw [if_pos ct11]
      first | exact isB_0 | exact isB_1 | assumption
    rw [if_neg ct11]
    first | exact isB_0 | exact isB_1 | assumption
  rw [if_neg ct2]
  by_cases ct12 : r4.1 = 0
  · rw [if_pos ct12]
    first | exact isB_0 | exact isB_1 | assumption
  rw [if_neg ct12]
  by_cases ct13 : r5.1 = 0
  · rw [if_pos ct13]
    first | exact isB_0 | exact isB_1 | assumption
  rw [if_neg ct13]
  by_cases ct14 : r6.1 = 0
  · rw [if_pos ct14]
    by_cases ct15 : (lg_cmp (((1 * r7).toInt64) - (((-1) * r3).toInt64)) 0) < 0
    · rw [if_pos ct15]
      first | exact isB_0 | exact isB_1 | assumption
    rw [if_neg ct15]
    by_cases ct16 : 0 ≤ (lg_cmp (((1 * r7).toInt64) - (((-1) * r3).toInt64)) 20)
    · rw [if_pos ct16]
      first | exact isB_0 | exact isB_1 | assumption
    rw [if_neg ct16]
    by_cases ct17 : r8.1 = 0
    · rw [if_pos ct17]
      first | exact isB_0 | exact isB_1 | assumption
    rw [if_neg ct17]
    first | exact isB_0 | exact isB_1 | assumption
  rw [if_neg ct14]
  by_cases ct18 : (lg_cmp ((((-1) * r7).toInt64) - (((-1) * r3).toInt64)) 0) < 0
  · rw [if_pos ct18]
    first | exact isB_0 | exact isB_1 | assumption
  rw [if_neg ct18]
  by_cases ct19 : 0 ≤ (lg_cmp ((((-1) * r7).toInt64) - (((-1) * r3).toInt64)) 20)
  · rw [if_pos ct19]
    first | exact isB_0 | exact isB_1 | assumption
  rw [if_neg ct19]
  by_cases ct20 : r8.1 = 0
  · rw [if_pos ct20]
    first | exact isB_0 | exact isB_1 | assumption
  rw [if_neg ct20]
  first | exact isB_0 | exact isB_1 | assumption
set_option maxHeartbeats 4000000 in
set_option maxRecDepth 100000 in
theorem c_Par_range (l : Launch) (G : GG) (h : Nat) (script_h : Nat) (script_tokens_h : Nat) (script_tokens_a_kinds : Nat) (script_tokens_a_values : Nat) (script_tokens_a_places : Nat) (script_conditions_h : Nat) (one_h : Nat) (script_tokens_f_kinds : Nat → Int32) (script_tokens_f_values : Nat → Int32) (script_tokens__size : Int32) (v_at : Int32) (v_joints : Int32) (one__sort : Int32) (one__column : Int32) (one__low : Int32) (one__high : Int32) (one__by : Int32) (one__top : Int32) (one__start : Int32) (one__end : Int32) (hz_v_at : up v_at 2001) : Det l G y_Par_range w_Par_range (rmD 1) 0 0 [.ref h, .ref one_h] [(h, .inr (11, [.ref script_h, .ref script_tokens_h, .ref script_conditions_h, .int v_at, .int v_joints])), (script_tokens_h, .inr (7, [.ref script_tokens_a_kinds, .ref script_tokens_a_values, .ref script_tokens_a_places, .int script_tokens__size])), (script_tokens_a_kinds, .inl (gI G, 2001, .inl script_tokens_f_kinds)), (script_tokens_a_values, .inl (gI G, 2001, .inl script_tokens_f_values)), (one_h, .inr (9, [.int one__sort, .int one__column, .int one__low, .int one__high, .int one__by, .int one__top, .int one__start, .int one__end]))] (some (.int (s_Par_range script_tokens_f_kinds script_tokens_f_values v_at one__low one__high).1)) [(h, .inr (11, [.ref script_h, .ref script_tokens_h, .ref script_conditions_h, .int (s_Par_range script_tokens_f_kinds script_tokens_f_values v_at one__low one__high).2.1, .int v_joints])), (script_tokens_h, .inr (7, [.ref script_tokens_a_kinds, .ref script_tokens_a_values, .ref script_tokens_a_places, .int script_tokens__size])), (script_tokens_a_kinds, .inl (gI G, 2001, .inl script_tokens_f_kinds)), (script_tokens_a_values, .inl (gI G, 2001, .inl script_tokens_f_values)), (one_h, .inr (9, [.int one__sort, .int one__column, .int (s_Par_range script_tokens_f_kinds script_tokens_f_values v_at one__low one__high).2.2.1, .int (s_Par_range script_tokens_f_kinds script_tokens_f_values v_at one__low one__high).2.2.2, .int one__by, .int one__top, .int one__start, .int one__end]))] := by
  refine Det.of (cc := b_Par_range) (maxL := 6) (ret := (some .boolean)) (by decide) rfl (Nat.le_of_ble_eq_true rfl) ?_
  intro p e s m args below meth c A ls hx hb hr hml hown hts hlocks hin hA hK hZ hP hD hS hl
  have hts : ∀ w ∈ wG, w.before args s = true := fun w h => hts w (List.mem_cons_of_mem _ h)
  have hown : s.vm.findClass R_Par = some m.cls := hown
  have hl : lv_has ls 6 [(0, .ref h), (1, .ref one_h)] := hl
  refine lv_aload_n hx hb d_Par_range_0 rfl (lv_at hl 0 rfl) ?_
  refine lv_bipush (v := 9) hx hb d_Par_range_1 (by decide) ?_
  obtain ⟨r1, hr1⟩ : ∃ r, (s_Par_take script_tokens_f_kinds v_at 9) = r := ⟨_, rfl⟩
  have hC_r1 := (c_Par_take l G h script_h script_tokens_h script_tokens_a_kinds script_tokens_a_values script_tokens_a_places script_conditions_h script_tokens_f_kinds script_tokens__size v_at v_joints 9 hz_v_at)
  rw [hr1] at hC_r1
  have hf_r1_1 : up r1.2 2001 := by rw [← hr1]; exact (k_tk hz_v_at)
  have hf_r1_2 : isB r1.1 := by rw [← hr1]; exact z_Par_take
  refine ly_callV (rest := []) (wf := [(h, .inr (11, [.ref script_h, .ref script_tokens_h, .ref script_conditions_h, .int r1.2, .int v_joints])), (script_tokens_h, .inr (7, [.ref script_tokens_a_kinds, .ref script_tokens_a_values, .ref script_tokens_a_places, .int script_tokens__size])), (script_tokens_a_kinds, .inl (gI G, 2001, .inl script_tokens_f_kinds)), (script_tokens_a_values, .inl (gI G, 2001, .inl script_tokens_f_values)), (one_h, .inr (9, [.int one__sort, .int one__column, .int one__low, .int one__high, .int one__by, .int one__top, .int one__start, .int one__end]))]) ⟨hx, hb, hml, hown, hts⟩ hA hK hZ hP hD hS hC_r1 (cwV 1 hts g_Par_47 rfl rfl rfl (by decide +kernel) ⟨Nat.le_of_ble_eq_true rfl, Nat.le_of_ble_eq_true rfl⟩) (ci := 11) (q0 := 0) rfl rfl rfl [0, 1, 2] rfl (by decide) rfl rfl rfl hl.1 rfl (Nat.le_of_ble_eq_true rfl) d_Par_range_3 ⟨Nat.le_of_ble_eq_true rfl, Nat.le_of_ble_eq_true rfl⟩ (st1 := [.int r1.1]) (c1 := 0) (s1 := 0) rfl rfl rfl (fun H locs hP hD hS => ?_)
  refine lv_if_ne (tgt := 11) hx hb d_Par_range_6 (by decide) (fun c1 => ?_) (fun c1 => ?_)
  · skip
    refine lv_aload_n hx hb d_Par_range_11 rfl (lv_at hl 0 rfl) ?_
    refine lv_bipush (v := 24) hx hb d_Par_range_12 (by decide) ?_
    obtain ⟨r2, hr2⟩ : ∃ r, (s_Par_take script_tokens_f_kinds r1.2 24) = r := ⟨_, rfl⟩
    have hC_r2 := (c_Par_take l G h script_h script_tokens_h script_tokens_a_kinds script_tokens_a_values script_tokens_a_places script_conditions_h script_tokens_f_kinds script_tokens__size r1.2 v_joints 24 hf_r1_1)
    rw [hr2] at hC_r2
    have hf_r2_1 : up r2.2 2001 := by rw [← hr2]; exact (k_tk hf_r1_1)
    have hf_r2_2 : isB r2.1 := by rw [← hr2]; exact z_Par_take
    refine ly_callV (rest := []) (wf := [(h, .inr (11, [.ref script_h, .ref script_tokens_h, .ref script_conditions_h, .int r2.2, .int v_joints])), (script_tokens_h, .inr (7, [.ref script_tokens_a_kinds, .ref script_tokens_a_values, .ref script_tokens_a_places, .int script_tokens__size])), (script_tokens_a_kinds, .inl (gI G, 2001, .inl script_tokens_f_kinds)), (script_tokens_a_values, .inl (gI G, 2001, .inl script_tokens_f_values)), (one_h, .inr (9, [.int one__sort, .int one__column, .int one__low, .int one__high, .int one__by, .int one__top, .int one__start, .int one__end]))]) ⟨hx, hb, hml, hown, hts⟩ hA hK hZ hP hD hS hC_r2 (cwV 1 hts g_Par_47 rfl rfl rfl (by decide +kernel) ⟨Nat.le_of_ble_eq_true rfl, Nat.le_of_ble_eq_true rfl⟩) (ci := 11) (q0 := 0) rfl rfl rfl [0, 1, 2] rfl (by decide) rfl rfl rfl hl.1 rfl (Nat.le_of_ble_eq_true rfl) d_Par_range_14 ⟨Nat.le_of_ble_eq_true rfl, Nat.le_of_ble_eq_true rfl⟩ (st1 := [.int r2.1]) (c1 := 0) (s1 := 0) rfl rfl rfl (fun H locs hP hD hS => ?_)
    refine lv_if_eq (tgt := 24) hx hb d_Par_range_17 (by decide) (fun c2 => ?_) (fun c2 => ?_)
    · skip
      refine lv_iconst (v := 1) hx hb d_Par_range_24 (by decide) ?_
      refine lv_istore_n (lv' := [(2, .int 1), (0, .ref h), (1, .ref one_h)]) hx hb d_Par_range_25 rfl hl (by decide) rfl (fun ls hl => ?_)
      refine lv_aload_n hx hb d_Par_range_26 rfl (lv_at hl 2 rfl) ?_
      refine lv_iload_n hx hb d_Par_range_27 rfl (lv_at hl 0 rfl) ?_
      refine lv_aload_n hx hb d_Par_range_28 rfl (lv_at hl 1 rfl) ?_
      obtain ⟨r3, hr3⟩ : ∃ r, (s_Par_value script_tokens_f_values r2.2) = r := ⟨_, rfl⟩
      have hC_r3 := (c_Par_value l G h script_h script_tokens_h script_tokens_a_kinds script_tokens_a_values script_tokens_a_places script_conditions_h script_tokens_f_values script_tokens__size r2.2 v_joints hf_r2_1)
      rw [hr3] at hC_r3
      refine ly_callV (rest := [.int 1, .ref one_h]) (wf := [(h, .inr (11, [.ref script_h, .ref script_tokens_h, .ref script_conditions_h, .int r2.2, .int v_joints])), (script_tokens_h, .inr (7, [.ref script_tokens_a_kinds, .ref script_tokens_a_values, .ref script_tokens_a_places, .int script_tokens__size])), (script_tokens_a_kinds, .inl (gI G, 2001, .inl script_tokens_f_kinds)), (script_tokens_a_values, .inl (gI G, 2001, .inl script_tokens_f_values)), (one_h, .inr (9, [.int one__sort, .int one__column, .int one__low, .int one__high, .int one__by, .int one__top, .int one__start, .int one__end]))]) ⟨hx, hb, hml, hown, hts⟩ hA hK hZ hP hD hS hC_r3 (cwV 0 hts g_Par_61 rfl rfl rfl (by decide +kernel) ⟨Nat.le_of_ble_eq_true rfl, Nat.le_of_ble_eq_true rfl⟩) (ci := 11) (q0 := 0) rfl rfl rfl [0, 1, 3] rfl (by decide) rfl rfl rfl hl.1 rfl (Nat.le_of_ble_eq_true rfl) d_Par_range_29 ⟨Nat.le_of_ble_eq_true rfl, Nat.le_of_ble_eq_true rfl⟩ (st1 := [.int r3, .int 1, .ref one_h]) (c1 := 0) (s1 := 0) rfl rfl rfl (fun H locs hP hD hS => ?_)
      refine lv_imul hx hb d_Par_range_32 ?_
      refine va_put (D := G.1) (ci := 9) (v := .int (1 * r3)) (ty := .int) (C := R_Qu) (T := F_Qu) (N := 8) hx hb hts i_Qu t_Qu t_Qu_ok n_Qu hown hK hP hD hS 4 rfl rfl 2 (by decide) (hts (.fieldLink R_Par 133 "PrivateQueries$Question" "low" "I") k_154) (fun _ h9 => h9) rfl (by decide +kernel) rfl rfl (Nat.le_of_ble_eq_true rfl) d_Par_range_33 (fun H locs hP hD hS => ?_)
      have hP : va_P G.1 classes [(h, .inr (11, [.ref script_h, .ref script_tokens_h, .ref script_conditions_h, .int r2.2, .int v_joints])), (script_tokens_h, .inr (7, [.ref script_tokens_a_kinds, .ref script_tokens_a_values, .ref script_tokens_a_places, .int script_tokens__size])), (script_tokens_a_kinds, .inl (gI G, 2001, .inl script_tokens_f_kinds)), (script_tokens_a_values, .inl (gI G, 2001, .inl script_tokens_f_values)), (one_h, .inr (9, [.int one__sort, .int one__column, .int (1 * r3), .int one__high, .int one__by, .int one__top, .int one__start, .int one__end]))] H := hP
      have hD : va_D A [(h, .inr (11, [.ref script_h, .ref script_tokens_h, .ref script_conditions_h, .int r2.2, .int v_joints])), (script_tokens_h, .inr (7, [.ref script_tokens_a_kinds, .ref script_tokens_a_values, .ref script_tokens_a_places, .int script_tokens__size])), (script_tokens_a_kinds, .inl (gI G, 2001, .inl script_tokens_f_kinds)), (script_tokens_a_values, .inl (gI G, 2001, .inl script_tokens_f_values)), (one_h, .inr (9, [.int one__sort, .int one__column, .int (1 * r3), .int one__high, .int one__by, .int one__top, .int one__start, .int one__end]))] := hD
      refine lv_aload_n hx hb d_Par_range_36 rfl (lv_at hl 1 rfl) ?_
      refine lv_iconst (v := 2) hx hb d_Par_range_37 (by decide) ?_
      obtain ⟨r4, hr4⟩ : ∃ r, (s_Par_take script_tokens_f_kinds r2.2 2) = r := ⟨_, rfl⟩
      have hC_r4 := (c_Par_take l G h script_h script_tokens_h script_tokens_a_kinds script_tokens_a_values script_tokens_a_places script_conditions_h script_tokens_f_kinds script_tokens__size r2.2 v_joints 2 hf_r2_1)
      rw [hr4] at hC_r4
      have hf_r4_1 : up r4.2 2001 := by rw [← hr4]; exact (k_tk hf_r2_1)
      have hf_r4_2 : isB r4.1 := by rw [← hr4]; exact z_Par_take
      refine ly_callV (rest := []) (wf := [(h, .inr (11, [.ref script_h, .ref script_tokens_h, .ref script_conditions_h, .int r4.2, .int v_joints])), (script_tokens_h, .inr (7, [.ref script_tokens_a_kinds, .ref script_tokens_a_values, .ref script_tokens_a_places, .int script_tokens__size])), (script_tokens_a_kinds, .inl (gI G, 2001, .inl script_tokens_f_kinds)), (script_tokens_a_values, .inl (gI G, 2001, .inl script_tokens_f_values)), (one_h, .inr (9, [.int one__sort, .int one__column, .int (1 * r3), .int one__high, .int one__by, .int one__top, .int one__start, .int one__end]))]) ⟨hx, hb, hml, hown, hts⟩ hA hK hZ hP hD hS hC_r4 (cwV 1 hts g_Par_47 rfl rfl rfl (by decide +kernel) ⟨Nat.le_of_ble_eq_true rfl, Nat.le_of_ble_eq_true rfl⟩) (ci := 11) (q0 := 0) rfl rfl rfl [0, 1, 2] rfl (by decide) rfl rfl rfl hl.1 rfl (Nat.le_of_ble_eq_true rfl) d_Par_range_38 ⟨Nat.le_of_ble_eq_true rfl, Nat.le_of_ble_eq_true rfl⟩ (st1 := [.int r4.1]) (c1 := 0) (s1 := 0) rfl rfl rfl (fun H locs hP hD hS => ?_)
      refine lv_if_eq (tgt := 53) hx hb d_Par_range_41 (by decide) (fun c3 => ?_) (fun c3 => ?_)
      · skip
        refine lv_iconst (v := 0) hx hb d_Par_range_53 (by decide) ?_
        exact ly_zret hx hb hr hlocks hP hD hS d_Par_range_54 (by decide) (by rw [s_Par_range] <;> simp only [hr1, hr2, hr3, hr4] <;> rw [if_neg c1, if_pos c2, if_pos c3]) (by rw [s_Par_range] <;> simp only [hr1, hr2, hr3, hr4] <;> rw [if_neg c1, if_pos c2, if_pos c3])
      refine lv_aload_n hx hb d_Par_range_44 rfl (lv_at hl 1 rfl) ?_
      refine lv_bipush (v := 10) hx hb d_Par_range_45 (by decide) ?_
      obtain ⟨r5, hr5⟩ : ∃ r, (s_Par_take script_tokens_f_kinds r4.2 10) = r := ⟨_, rfl⟩
      have hC_r5 := (c_Par_take l G h script_h script_tokens_h script_tokens_a_kinds script_tokens_a_values script_tokens_a_places script_conditions_h script_tokens_f_kinds script_tokens__size r4.2 v_joints 10 hf_r4_1)
      rw [hr5] at hC_r5
      have hf_r5_1 : up r5.2 2001 := by rw [← hr5]; exact (k_tk hf_r4_1)
      have hf_r5_2 : isB r5.1 := by rw [← hr5]; exact z_Par_take
      refine ly_callV (rest := []) (wf := [(h, .inr (11, [.ref script_h, .ref script_tokens_h, .ref script_conditions_h, .int r5.2, .int v_joints])), (script_tokens_h, .inr (7, [.ref script_tokens_a_kinds, .ref script_tokens_a_values, .ref script_tokens_a_places, .int script_tokens__size])), (script_tokens_a_kinds, .inl (gI G, 2001, .inl script_tokens_f_kinds)), (script_tokens_a_values, .inl (gI G, 2001, .inl script_tokens_f_values)), (one_h, .inr (9, [.int one__sort, .int one__column, .int (1 * r3), .int one__high, .int one__by, .int one__top, .int one__start, .int one__end]))]) ⟨hx, hb, hml, hown, hts⟩ hA hK hZ hP hD hS hC_r5 (cwV 1 hts g_Par_47 rfl rfl rfl (by decide +kernel) ⟨Nat.le_of_ble_eq_true rfl, Nat.le_of_ble_eq_true rfl⟩) (ci := 11) (q0 := 0) rfl rfl rfl [0, 1, 2] rfl (by decide) rfl rfl rfl hl.1 rfl (Nat.le_of_ble_eq_true rfl) d_Par_range_47 ⟨Nat.le_of_ble_eq_true rfl, Nat.le_of_ble_eq_true rfl⟩ (st1 := [.int r5.1]) (c1 := 0) (s1 := 0) rfl rfl rfl (fun H locs hP hD hS => ?_)
      refine lv_if_ne (tgt := 55) hx hb d_Par_range_50 (by decide) (fun c4 => ?_) (fun c4 => ?_)
      · skip
        refine lv_aload_n hx hb d_Par_range_55 rfl (lv_at hl 1 rfl) ?_
        refine lv_bipush (v := 24) hx hb d_Par_range_56 (by decide) ?_
        obtain ⟨r6, hr6⟩ : ∃ r, (s_Par_take script_tokens_f_kinds r5.2 24) = r := ⟨_, rfl⟩
        have hC_r6 := (c_Par_take l G h script_h script_tokens_h script_tokens_a_kinds script_tokens_a_values script_tokens_a_places script_conditions_h script_tokens_f_kinds script_tokens__size r5.2 v_joints 24 hf_r5_1)
        rw [hr6] at hC_r6
        have hf_r6_1 : up r6.2 2001 := by rw [← hr6]; exact (k_tk hf_r5_1)
        have hf_r6_2 : isB r6.1 := by rw [← hr6]; exact z_Par_take
        refine ly_callV (rest := []) (wf := [(h, .inr (11, [.ref script_h, .ref script_tokens_h, .ref script_conditions_h, .int r6.2, .int v_joints])), (script_tokens_h, .inr (7, [.ref script_tokens_a_kinds, .ref script_tokens_a_values, .ref script_tokens_a_places, .int script_tokens__size])), (script_tokens_a_kinds, .inl (gI G, 2001, .inl script_tokens_f_kinds)), (script_tokens_a_values, .inl (gI G, 2001, .inl script_tokens_f_values)), (one_h, .inr (9, [.int one__sort, .int one__column, .int (1 * r3), .int one__high, .int one__by, .int one__top, .int one__start, .int one__end]))]) ⟨hx, hb, hml, hown, hts⟩ hA hK hZ hP hD hS hC_r6 (cwV 1 hts g_Par_47 rfl rfl rfl (by decide +kernel) ⟨Nat.le_of_ble_eq_true rfl, Nat.le_of_ble_eq_true rfl⟩) (ci := 11) (q0 := 0) rfl rfl rfl [0, 1, 2] rfl (by decide) rfl rfl rfl hl.1 rfl (Nat.le_of_ble_eq_true rfl) d_Par_range_58 ⟨Nat.le_of_ble_eq_true rfl, Nat.le_of_ble_eq_true rfl⟩ (st1 := [.int r6.1]) (c1 := 0) (s1 := 0) rfl rfl rfl (fun H locs hP hD hS => ?_)
        refine lv_if_eq (tgt := 68) hx hb d_Par_range_61 (by decide) (fun c5 => ?_) (fun c5 => ?_)
        · skip
          refine lv_iconst (v := 1) hx hb d_Par_range_68 (by decide) ?_
          refine lv_istore_n (lv' := [(3, .int 1), (2, .int 1), (0, .ref h), (1, .ref one_h)]) hx hb d_Par_range_69 rfl hl (by decide) rfl (fun ls hl => ?_)
          refine lv_aload_n hx hb d_Par_range_70 rfl (lv_at hl 3 rfl) ?_
          refine lv_iload_n hx hb d_Par_range_71 rfl (lv_at hl 0 rfl) ?_
          refine lv_aload_n hx hb d_Par_range_72 rfl (lv_at hl 2 rfl) ?_
          obtain ⟨r7, hr7⟩ : ∃ r, (s_Par_value script_tokens_f_values r6.2) = r := ⟨_, rfl⟩
          have hC_r7 := (c_Par_value l G h script_h script_tokens_h script_tokens_a_kinds script_tokens_a_values script_tokens_a_places script_conditions_h script_tokens_f_values script_tokens__size r6.2 v_joints hf_r6_1)
          rw [hr7] at hC_r7
          refine ly_callV (rest := [.int 1, .ref one_h]) (wf := [(h, .inr (11, [.ref script_h, .ref script_tokens_h, .ref script_conditions_h, .int r6.2, .int v_joints])), (script_tokens_h, .inr (7, [.ref script_tokens_a_kinds, .ref script_tokens_a_values, .ref script_tokens_a_places, .int script_tokens__size])), (script_tokens_a_kinds, .inl (gI G, 2001, .inl script_tokens_f_kinds)), (script_tokens_a_values, .inl (gI G, 2001, .inl script_tokens_f_values)), (one_h, .inr (9, [.int one__sort, .int one__column, .int (1 * r3), .int one__high, .int one__by, .int one__top, .int one__start, .int one__end]))]) ⟨hx, hb, hml, hown, hts⟩ hA hK hZ hP hD hS hC_r7 (cwV 0 hts g_Par_61 rfl rfl rfl (by decide +kernel) ⟨Nat.le_of_ble_eq_true rfl, Nat.le_of_ble_eq_true rfl⟩) (ci := 11) (q0 := 0) rfl rfl rfl [0, 1, 3] rfl (by decide) rfl rfl rfl hl.1 rfl (Nat.le_of_ble_eq_true rfl) d_Par_range_73 ⟨Nat.le_of_ble_eq_true rfl, Nat.le_of_ble_eq_true rfl⟩ (st1 := [.int r7, .int 1, .ref one_h]) (c1 := 0) (s1 := 0) rfl rfl rfl (fun H locs hP hD hS => ?_)
          refine lv_imul hx hb d_Par_range_76 ?_
          refine va_put (D := G.1) (ci := 9) (v := .int (1 * r7)) (ty := .int) (C := R_Qu) (T := F_Qu) (N := 8) hx hb hts i_Qu t_Qu t_Qu_ok n_Qu hown hK hP hD hS 4 rfl rfl 3 (by decide) (hts (.fieldLink R_Par 127 "PrivateQueries$Question" "high" "I") k_152) (fun _ h9 => h9) rfl (by decide +kernel) rfl rfl (Nat.le_of_ble_eq_true rfl) d_Par_range_77 (fun H locs hP hD hS => ?_)
          have hP : va_P G.1 classes [(h, .inr (11, [.ref script_h, .ref script_tokens_h, .ref script_conditions_h, .int r6.2, .int v_joints])), (script_tokens_h, .inr (7, [.ref script_tokens_a_kinds, .ref script_tokens_a_values, .ref script_tokens_a_places, .int script_tokens__size])), (script_tokens_a_kinds, .inl (gI G, 2001, .inl script_tokens_f_kinds)), (script_tokens_a_values, .inl (gI G, 2001, .inl script_tokens_f_values)), (one_h, .inr (9, [.int one__sort, .int one__column, .int (1 * r3), .int (1 * r7), .int one__by, .int one__top, .int one__start, .int one__end]))] H := hP
          have hD : va_D A [(h, .inr (11, [.ref script_h, .ref script_tokens_h, .ref script_conditions_h, .int r6.2, .int v_joints])), (script_tokens_h, .inr (7, [.ref script_tokens_a_kinds, .ref script_tokens_a_values, .ref script_tokens_a_places, .int script_tokens__size])), (script_tokens_a_kinds, .inl (gI G, 2001, .inl script_tokens_f_kinds)), (script_tokens_a_values, .inl (gI G, 2001, .inl script_tokens_f_values)), (one_h, .inr (9, [.int one__sort, .int one__column, .int (1 * r3), .int (1 * r7), .int one__by, .int one__top, .int one__start, .int one__end]))] := hD
          refine lv_aload_n hx hb d_Par_range_80 rfl (lv_at hl 3 rfl) ?_
          refine va_get (D := G.1) (ci := 9) (C := R_Qu) (T := F_Qu) (N := 8) (v := .int (1 * r7)) hx hb hts i_Qu hown hK hP 4 rfl rfl 3 (by decide) (hts (.fieldLink R_Par 127 "PrivateQueries$Question" "high" "I") k_152) (fun _ h9 => h9) rfl d_Par_range_81 ?_
          refine lv_i2l (v := (1 * r7).toInt64) hx hb d_Par_range_84 rfl ?_
          refine lv_aload_n hx hb d_Par_range_85 rfl (lv_at hl 3 rfl) ?_
          refine va_get (D := G.1) (ci := 9) (C := R_Qu) (T := F_Qu) (N := 8) (v := .int (1 * r3)) hx hb hts i_Qu hown hK hP 4 rfl rfl 2 (by decide) (hts (.fieldLink R_Par 133 "PrivateQueries$Question" "low" "I") k_154) (fun _ h9 => h9) rfl d_Par_range_86 ?_
          refine lv_i2l (v := (1 * r3).toInt64) hx hb d_Par_range_89 rfl ?_
          refine lv_lsub hx hb d_Par_range_90 ?_
          refine lv_lstore (lv' := [(4, .long (((1 * r7).toInt64) - ((1 * r3).toInt64))), (3, .int 1), (2, .int 1), (0, .ref h), (1, .ref one_h)]) hx hb d_Par_range_91 hl (by decide) rfl (fun ls hl => ?_)
          refine lv_lload hx hb d_Par_range_93 (lv_at hl 0 rfl) ?_
          refine lv_lconst (v := 0) hx hb d_Par_range_95 (by decide) ?_
          refine W.lcmp hx hb d_Par_range_96 ?_
          refine lv_if_lt (tgt := 121) hx hb d_Par_range_97 (by decide) (fun c6 => ?_) (fun c6 => ?_)
          · skip
            refine lv_iconst (v := 0) hx hb d_Par_range_121 (by decide) ?_
            exact ly_zret hx hb hr hlocks hP hD hS d_Par_range_122 (by decide) (by rw [s_Par_range] <;> simp only [hr1, hr2, hr3, hr4, hr5, hr6, hr7] <;> rw [if_neg c1, if_pos c2, if_neg c3, if_neg c4, if_pos c5, if_pos c6]) (by rw [s_Par_range] <;> simp only [hr1, hr2, hr3, hr4, hr5, hr6, hr7] <;> rw [if_neg c1, if_pos c2, if_neg c3, if_neg c4, if_pos c5, if_pos c6])
          refine lv_lload hx hb d_Par_range_100 (lv_at hl 0 rfl) ?_
          refine lv_ldc2 (v := 20) hx hb hown (hts (.constantLong R_Par 136 20) k_155) d_Par_range_102 ?_
          refine W.lcmp hx hb d_Par_range_105 ?_
          refine lv_if_ge (tgt := 121) hx hb d_Par_range_106 (by decide) (fun c7 => ?_) (fun c7 => ?_)
          · skip
            refine lv_iconst (v := 0) hx hb d_Par_range_121 (by decide) ?_
            exact ly_zret hx hb hr hlocks hP hD hS d_Par_range_122 (by decide) (by rw [s_Par_range] <;> simp only [hr1, hr2, hr3, hr4, hr5, hr6, hr7] <;> rw [if_neg c1, if_pos c2, if_neg c3, if_neg c4, if_pos c5, if_neg c6, if_pos c7]) (by rw [s_Par_range] <;> simp only [hr1, hr2, hr3, hr4, hr5, hr6, hr7] <;> rw [if_neg c1, if_pos c2, if_neg c3, if_neg c4, if_pos c5, if_neg c6, if_pos c7])
          refine lv_aload_n hx hb d_Par_range_109 rfl (lv_at hl 3 rfl) ?_
          refine lv_iconst (v := 2) hx hb d_Par_range_110 (by decide) ?_
          obtain ⟨r8, hr8⟩ : ∃ r, (s_Par_take script_tokens_f_kinds r6.2 2) = r := ⟨_, rfl⟩
          have hC_r8 := (c_Par_take l G h script_h script_tokens_h script_tokens_a_kinds script_tokens_a_values script_tokens_a_places script_conditions_h script_tokens_f_kinds script_tokens__size r6.2 v_joints 2 hf_r6_1)
          rw [hr8] at hC_r8
          have hf_r8_1 : up r8.2 2001 := by rw [← hr8]; exact (k_tk hf_r6_1)
          have hf_r8_2 : isB r8.1 := by rw [← hr8]; exact z_Par_take
          refine ly_callV (rest := []) (wf := [(h, .inr (11, [.ref script_h, .ref script_tokens_h, .ref script_conditions_h, .int r8.2, .int v_joints])), (script_tokens_h, .inr (7, [.ref script_tokens_a_kinds, .ref script_tokens_a_values, .ref script_tokens_a_places, .int script_tokens__size])), (script_tokens_a_kinds, .inl (gI G, 2001, .inl script_tokens_f_kinds)), (script_tokens_a_values, .inl (gI G, 2001, .inl script_tokens_f_values)), (one_h, .inr (9, [.int one__sort, .int one__column, .int (1 * r3), .int (1 * r7), .int one__by, .int one__top, .int one__start, .int one__end]))]) ⟨hx, hb, hml, hown, hts⟩ hA hK hZ hP hD hS hC_r8 (cwV 1 hts g_Par_47 rfl rfl rfl (by decide +kernel) ⟨Nat.le_of_ble_eq_true rfl, Nat.le_of_ble_eq_true rfl⟩) (ci := 11) (q0 := 0) rfl rfl rfl [0, 1, 2] rfl (by decide) rfl rfl rfl hl.1 rfl (Nat.le_of_ble_eq_true rfl) d_Par_range_111 ⟨Nat.le_of_ble_eq_true rfl, Nat.le_of_ble_eq_true rfl⟩ (st1 := [.int r8.1]) (c1 := 0) (s1 := 0) rfl rfl rfl (fun H locs hP hD hS => ?_)
          refine lv_if_eq (tgt := 121) hx hb d_Par_range_114 (by decide) (fun c8 => ?_) (fun c8 => ?_)
          · skip
            refine lv_iconst (v := 0) hx hb d_Par_range_121 (by decide) ?_
            exact ly_zret hx hb hr hlocks hP hD hS d_Par_range_122 (by decide) (by rw [s_Par_range] <;> simp only [hr1, hr2, hr3, hr4, hr5, hr6, hr7, hr8] <;> rw [if_neg c1, if_pos c2, if_neg c3, if_neg c4, if_pos c5, if_neg c6, if_neg c7, if_pos c8]) (by rw [s_Par_range] <;> simp only [hr1, hr2, hr3, hr4, hr5, hr6, hr7, hr8] <;> rw [if_neg c1, if_pos c2, if_neg c3, if_neg c4, if_pos c5, if_neg c6, if_neg c7, if_pos c8])
          refine lv_iconst (v := 1) hx hb d_Par_range_117 (by decide) ?_
          refine lv_goto (tgt := 122) hx hb d_Par_range_118 (by decide) ?_
          exact ly_zret hx hb hr hlocks hP hD hS d_Par_range_122 (by decide) (by rw [s_Par_range] <;> simp only [hr1, hr2, hr3, hr4, hr5, hr6, hr7, hr8] <;> rw [if_neg c1, if_pos c2, if_neg c3, if_neg c4, if_pos c5, if_neg c6, if_neg c7, if_neg c8]) (by rw [s_Par_range] <;> simp only [hr1, hr2, hr3, hr4, hr5, hr6, hr7, hr8] <;> rw [if_neg c1, if_pos c2, if_neg c3, if_neg c4, if_pos c5, if_neg c6, if_neg c7, if_neg c8])
        refine lv_iconst (v := -1) hx hb d_Par_range_64 (by decide) ?_
        refine lv_goto (tgt := 69) hx hb d_Par_range_65 (by decide) ?_
        refine lv_istore_n (lv' := [(3, .int (-1)), (2, .int 1), (0, .ref h), (1, .ref one_h)]) hx hb d_Par_range_69 rfl hl (by decide) rfl (fun ls hl => ?_)
        refine lv_aload_n hx hb d_Par_range_70 rfl (lv_at hl 3 rfl) ?_
        refine lv_iload_n hx hb d_Par_range_71 rfl (lv_at hl 0 rfl) ?_
        refine lv_aload_n hx hb d_Par_range_72 rfl (lv_at hl 2 rfl) ?_
        obtain ⟨r9, hr9⟩ : ∃ r, (s_Par_value script_tokens_f_values r6.2) = r := ⟨_, rfl⟩
        have hC_r9 := (c_Par_value l G h script_h script_tokens_h script_tokens_a_kinds script_tokens_a_values script_tokens_a_places script_conditions_h script_tokens_f_values script_tokens__size r6.2 v_joints hf_r6_1)
        rw [hr9] at hC_r9
        refine ly_callV (rest := [.int (-1), .ref one_h]) (wf := [(h, .inr (11, [.ref script_h, .ref script_tokens_h, .ref script_conditions_h, .int r6.2, .int v_joints])), (script_tokens_h, .inr (7, [.ref script_tokens_a_kinds, .ref script_tokens_a_values, .ref script_tokens_a_places, .int script_tokens__size])), (script_tokens_a_kinds, .inl (gI G, 2001, .inl script_tokens_f_kinds)), (script_tokens_a_values, .inl (gI G, 2001, .inl script_tokens_f_values)), (one_h, .inr (9, [.int one__sort, .int one__column, .int (1 * r3), .int one__high, .int one__by, .int one__top, .int one__start, .int one__end]))]) ⟨hx, hb, hml, hown, hts⟩ hA hK hZ hP hD hS hC_r9 (cwV 0 hts g_Par_61 rfl rfl rfl (by decide +kernel) ⟨Nat.le_of_ble_eq_true rfl, Nat.le_of_ble_eq_true rfl⟩) (ci := 11) (q0 := 0) rfl rfl rfl [0, 1, 3] rfl (by decide) rfl rfl rfl hl.1 rfl (Nat.le_of_ble_eq_true rfl) d_Par_range_73 ⟨Nat.le_of_ble_eq_true rfl, Nat.le_of_ble_eq_true rfl⟩ (st1 := [.int r9, .int (-1), .ref one_h]) (c1 := 0) (s1 := 0) rfl rfl rfl (fun H locs hP hD hS => ?_)
        refine lv_imul hx hb d_Par_range_76 ?_
        refine va_put (D := G.1) (ci := 9) (v := .int ((-1) * r9)) (ty := .int) (C := R_Qu) (T := F_Qu) (N := 8) hx hb hts i_Qu t_Qu t_Qu_ok n_Qu hown hK hP hD hS 4 rfl rfl 3 (by decide) (hts (.fieldLink R_Par 127 "PrivateQueries$Question" "high" "I") k_152) (fun _ h9 => h9) rfl (by decide +kernel) rfl rfl (Nat.le_of_ble_eq_true rfl) d_Par_range_77 (fun H locs hP hD hS => ?_)
        have hP : va_P G.1 classes [(h, .inr (11, [.ref script_h, .ref script_tokens_h, .ref script_conditions_h, .int r6.2, .int v_joints])), (script_tokens_h, .inr (7, [.ref script_tokens_a_kinds, .ref script_tokens_a_values, .ref script_tokens_a_places, .int script_tokens__size])), (script_tokens_a_kinds, .inl (gI G, 2001, .inl script_tokens_f_kinds)), (script_tokens_a_values, .inl (gI G, 2001, .inl script_tokens_f_values)), (one_h, .inr (9, [.int one__sort, .int one__column, .int (1 * r3), .int ((-1) * r9), .int one__by, .int one__top, .int one__start, .int one__end]))] H := hP
        have hD : va_D A [(h, .inr (11, [.ref script_h, .ref script_tokens_h, .ref script_conditions_h, .int r6.2, .int v_joints])), (script_tokens_h, .inr (7, [.ref script_tokens_a_kinds, .ref script_tokens_a_values, .ref script_tokens_a_places, .int script_tokens__size])), (script_tokens_a_kinds, .inl (gI G, 2001, .inl script_tokens_f_kinds)), (script_tokens_a_values, .inl (gI G, 2001, .inl script_tokens_f_values)), (one_h, .inr (9, [.int one__sort, .int one__column, .int (1 * r3), .int ((-1) * r9), .int one__by, .int one__top, .int one__start, .int one__end]))] := hD
        refine lv_aload_n hx hb d_Par_range_80 rfl (lv_at hl 3 rfl) ?_
        refine va_get (D := G.1) (ci := 9) (C := R_Qu) (T := F_Qu) (N := 8) (v := .int ((-1) * r9)) hx hb hts i_Qu hown hK hP 4 rfl rfl 3 (by decide) (hts (.fieldLink R_Par 127 "PrivateQueries$Question" "high" "I") k_152) (fun _ h9 => h9) rfl d_Par_range_81 ?_
        refine lv_i2l (v := ((-1) * r9).toInt64) hx hb d_Par_range_84 rfl ?_
        refine lv_aload_n hx hb d_Par_range_85 rfl (lv_at hl 3 rfl) ?_
        refine va_get (D := G.1) (ci := 9) (C := R_Qu) (T := F_Qu) (N := 8) (v := .int (1 * r3)) hx hb hts i_Qu hown hK hP 4 rfl rfl 2 (by decide) (hts (.fieldLink R_Par 133 "PrivateQueries$Question" "low" "I") k_154) (fun _ h9 => h9) rfl d_Par_range_86 ?_
        refine lv_i2l (v := (1 * r3).toInt64) hx hb d_Par_range_89 rfl ?_
        refine lv_lsub hx hb d_Par_range_90 ?_
        refine lv_lstore (lv' := [(4, .long ((((-1) * r9).toInt64) - ((1 * r3).toInt64))), (3, .int (-1)), (2, .int 1), (0, .ref h), (1, .ref one_h)]) hx hb d_Par_range_91 hl (by decide) rfl (fun ls hl => ?_)
        refine lv_lload hx hb d_Par_range_93 (lv_at hl 0 rfl) ?_
        refine lv_lconst (v := 0) hx hb d_Par_range_95 (by decide) ?_
        refine W.lcmp hx hb d_Par_range_96 ?_
        refine lv_if_lt (tgt := 121) hx hb d_Par_range_97 (by decide) (fun c9 => ?_) (fun c9 => ?_)
        · skip
          refine lv_iconst (v := 0) hx hb d_Par_range_121 (by decide) ?_
          exact ly_zret hx hb hr hlocks hP hD hS d_Par_range_122 (by decide) (by rw [s_Par_range] <;> simp only [hr1, hr2, hr3, hr4, hr5, hr6, hr9] <;> rw [if_neg c1, if_pos c2, if_neg c3, if_neg c4, if_neg c5, if_pos c9]) (by rw [s_Par_range] <;> simp only [hr1, hr2, hr3, hr4, hr5, hr6, hr9] <;> rw [if_neg c1, if_pos c2, if_neg c3, if_neg c4, if_neg c5, if_pos c9])
        refine lv_lload hx hb d_Par_range_100 (lv_at hl 0 rfl) ?_
        refine lv_ldc2 (v := 20) hx hb hown (hts (.constantLong R_Par 136 20) k_155) d_Par_range_102 ?_
        refine W.lcmp hx hb d_Par_range_105 ?_
        refine lv_if_ge (tgt := 121) hx hb d_Par_range_106 (by decide) (fun c10 => ?_) (fun c10 => ?_)
        · skip
          refine lv_iconst (v := 0) hx hb d_Par_range_121 (by decide) ?_
          exact ly_zret hx hb hr hlocks hP hD hS d_Par_range_122 (by decide) (by rw [s_Par_range] <;> simp only [hr1, hr2, hr3, hr4, hr5, hr6, hr9] <;> rw [if_neg c1, if_pos c2, if_neg c3, if_neg c4, if_neg c5, if_neg c9, if_pos c10]) (by rw [s_Par_range] <;> simp only [hr1, hr2, hr3, hr4, hr5, hr6, hr9] <;> rw [if_neg c1, if_pos c2, if_neg c3, if_neg c4, if_neg c5, if_neg c9, if_pos c10])
        refine lv_aload_n hx hb d_Par_range_109 rfl (lv_at hl 3 rfl) ?_
        refine lv_iconst (v := 2) hx hb d_Par_range_110 (by decide) ?_
        obtain ⟨r10, hr10⟩ : ∃ r, (s_Par_take script_tokens_f_kinds r6.2 2) = r := ⟨_, rfl⟩
        have hC_r10 := (c_Par_take l G h script_h script_tokens_h script_tokens_a_kinds script_tokens_a_values script_tokens_a_places script_conditions_h script_tokens_f_kinds script_tokens__size r6.2 v_joints 2 hf_r6_1)
        rw [hr10] at hC_r10
        have hf_r10_1 : up r10.2 2001 := by rw [← hr10]; exact (k_tk hf_r6_1)
        have hf_r10_2 : isB r10.1 := by rw [← hr10]; exact z_Par_take
        refine ly_callV (rest := []) (wf := [(h, .inr (11, [.ref script_h, .ref script_tokens_h, .ref script_conditions_h, .int r10.2, .int v_joints])), (script_tokens_h, .inr (7, [.ref script_tokens_a_kinds, .ref script_tokens_a_values, .ref script_tokens_a_places, .int script_tokens__size])), (script_tokens_a_kinds, .inl (gI G, 2001, .inl script_tokens_f_kinds)), (script_tokens_a_values, .inl (gI G, 2001, .inl script_tokens_f_values)), (one_h, .inr (9, [.int one__sort, .int one__column, .int (1 * r3), .int ((-1) * r9), .int one__by, .int one__top, .int one__start, .int one__end]))]) ⟨hx, hb, hml, hown, hts⟩ hA hK hZ hP hD hS hC_r10 (cwV 1 hts g_Par_47 rfl rfl rfl (by decide +kernel) ⟨Nat.le_of_ble_eq_true rfl, Nat.le_of_ble_eq_true rfl⟩) (ci := 11) (q0 := 0) rfl rfl rfl [0, 1, 2] rfl (by decide) rfl rfl rfl hl.1 rfl (Nat.le_of_ble_eq_true rfl) d_Par_range_111 ⟨Nat.le_of_ble_eq_true rfl, Nat.le_of_ble_eq_true rfl⟩ (st1 := [.int r10.1]) (c1 := 0) (s1 := 0) rfl rfl rfl (fun H locs hP hD hS => ?_)
        refine lv_if_eq (tgt := 121) hx hb d_Par_range_114 (by decide) (fun c11 => ?_) (fun c11 => ?_)
        · skip
          refine lv_iconst (v := 0) hx hb d_Par_range_121 (by decide) ?_
          exact ly_zret hx hb hr hlocks hP hD hS d_Par_range_122 (by decide) (by rw [s_Par_range] <;> simp only [hr1, hr2, hr3, hr4, hr5, hr6, hr9, hr10] <;> rw [if_neg c1, if_pos c2, if_neg c3, if_neg c4, if_neg c5, if_neg c9, if_neg c10, if_pos c11]) (by rw [s_Par_range] <;> simp only [hr1, hr2, hr3, hr4, hr5, hr6, hr9, hr10] <;> rw [if_neg c1, if_pos c2, if_neg c3, if_neg c4, if_neg c5, if_neg c9, if_neg c10, if_pos c11])
        refine lv_iconst (v := 1) hx hb d_Par_range_117 (by decide) ?_
        refine lv_goto (tgt := 122) hx hb d_Par_range_118 (by decide) ?_
        exact ly_zret hx hb hr hlocks hP hD hS d_Par_range_122 (by decide) (by rw [s_Par_range] <;> simp only [hr1, hr2, hr3, hr4, hr5, hr6, hr9, hr10] <;> rw [if_neg c1, if_pos c2, if_neg c3, if_neg c4, if_neg c5, if_neg c9, if_neg c10, if_neg c11]) (by rw [s_Par_range] <;> simp only [hr1, hr2, hr3, hr4, hr5, hr6, hr9, hr10] <;> rw [if_neg c1, if_pos c2, if_neg c3, if_neg c4, if_neg c5, if_neg c9, if_neg c10, if_neg c11])
      refine lv_iconst (v := 0) hx hb d_Par_range_53 (by decide) ?_
      exact ly_zret hx hb hr hlocks hP hD hS d_Par_range_54 (by decide) (by rw [s_Par_range] <;> simp only [hr1, hr2, hr3, hr4, hr5] <;> rw [if_neg c1, if_pos c2, if_neg c3, if_pos c4]) (by rw [s_Par_range] <;> simp only [hr1, hr2, hr3, hr4, hr5] <;> rw [if_neg c1, if_pos c2, if_neg c3, if_pos c4])
    refine lv_iconst (v := -1) hx hb d_Par_range_20 (by decide) ?_
    refine lv_goto (tgt := 25) hx hb d_Par_range_21 (by decide) ?_
    refine lv_istore_n (lv' := [(2, .int (-1)), (0, .ref h), (1, .ref one_h)]) hx hb d_Par_range_25 rfl hl (by decide) rfl (fun ls hl => ?_)
    refine lv_aload_n hx hb d_Par_range_26 rfl (lv_at hl 2 rfl) ?_
    refine lv_iload_n hx hb d_Par_range_27 rfl (lv_at hl 0 rfl) ?_
    refine lv_aload_n hx hb d_Par_range_28 rfl (lv_at hl 1 rfl) ?_
    obtain ⟨r11, hr11⟩ : ∃ r, (s_Par_value script_tokens_f_values r2.2) = r := ⟨_, rfl⟩
    have hC_r11 := (c_Par_value l G h script_h script_tokens_h script_tokens_a_kinds script_tokens_a_values script_tokens_a_places script_conditions_h script_tokens_f_values script_tokens__size r2.2 v_joints hf_r2_1)
    rw [hr11] at hC_r11
    refine ly_callV (rest := [.int (-1), .ref one_h]) (wf := [(h, .inr (11, [.ref script_h, .ref script_tokens_h, .ref script_conditions_h, .int r2.2, .int v_joints])), (script_tokens_h, .inr (7, [.ref script_tokens_a_kinds, .ref script_tokens_a_values, .ref script_tokens_a_places, .int script_tokens__size])), (script_tokens_a_kinds, .inl (gI G, 2001, .inl script_tokens_f_kinds)), (script_tokens_a_values, .inl (gI G, 2001, .inl script_tokens_f_values)), (one_h, .inr (9, [.int one__sort, .int one__column, .int one__low, .int one__high, .int one__by, .int one__top, .int one__start, .int one__end]))]) ⟨hx, hb, hml, hown, hts⟩ hA hK hZ hP hD hS hC_r11 (cwV 0 hts g_Par_61 rfl rfl rfl (by decide +kernel) ⟨Nat.le_of_ble_eq_true rfl, Nat.le_of_ble_eq_true rfl⟩) (ci := 11) (q0 := 0) rfl rfl rfl [0, 1, 3] rfl (by decide) rfl rfl rfl hl.1 rfl (Nat.le_of_ble_eq_true rfl) d_Par_range_29 ⟨Nat.le_of_ble_eq_true rfl, Nat.le_of_ble_eq_true rfl⟩ (st1 := [.int r11, .int (-1), .ref one_h]) (c1 := 0) (s1 := 0) rfl rfl rfl (fun H locs hP hD hS => ?_)
    refine lv_imul hx hb d_Par_range_32 ?_
    refine va_put (D := G.1) (ci := 9) (v := .int ((-1) * r11)) (ty := .int) (C := R_Qu) (T := F_Qu) (N := 8) hx hb hts i_Qu t_Qu t_Qu_ok n_Qu hown hK hP hD hS 4 rfl rfl 2 (by decide) (hts (.fieldLink R_Par 133 "PrivateQueries$Question" "low" "I") k_154) (fun _ h9 => h9) rfl (by decide +kernel) rfl rfl (Nat.le_of_ble_eq_true rfl) d_Par_range_33 (fun H locs hP hD hS => ?_)
    have hP : va_P G.1 classes [(h, .inr (11, [.ref script_h, .ref script_tokens_h, .ref script_conditions_h, .int r2.2, .int v_joints])), (script_tokens_h, .inr (7, [.ref script_tokens_a_kinds, .ref script_tokens_a_values, .ref script_tokens_a_places, .int script_tokens__size])), (script_tokens_a_kinds, .inl (gI G, 2001, .inl script_tokens_f_kinds)), (script_tokens_a_values, .inl (gI G, 2001, .inl script_tokens_f_values)), (one_h, .inr (9, [.int one__sort, .int one__column, .int ((-1) * r11), .int one__high, .int one__by, .int one__top, .int one__start, .int one__end]))] H := hP
    have hD : va_D A [(h, .inr (11, [.ref script_h, .ref script_tokens_h, .ref script_conditions_h, .int r2.2, .int v_joints])), (script_tokens_h, .inr (7, [.ref script_tokens_a_kinds, .ref script_tokens_a_values, .ref script_tokens_a_places, .int script_tokens__size])), (script_tokens_a_kinds, .inl (gI G, 2001, .inl script_tokens_f_kinds)), (script_tokens_a_values, .inl (gI G, 2001, .inl script_tokens_f_values)), (one_h, .inr (9, [.int one__sort, .int one__column, .int ((-1) * r11), .int one__high, .int one__by, .int one__top, .int one__start, .int one__end]))] := hD
    refine lv_aload_n hx hb d_Par_range_36 rfl (lv_at hl 1 rfl) ?_
    refine lv_iconst (v := 2) hx hb d_Par_range_37 (by decide) ?_
    obtain ⟨r12, hr12⟩ : ∃ r, (s_Par_take script_tokens_f_kinds r2.2 2) = r := ⟨_, rfl⟩
    have hC_r12 := (c_Par_take l G h script_h script_tokens_h script_tokens_a_kinds script_tokens_a_values script_tokens_a_places script_conditions_h script_tokens_f_kinds script_tokens__size r2.2 v_joints 2 hf_r2_1)
    rw [hr12] at hC_r12
    have hf_r12_1 : up r12.2 2001 := by rw [← hr12]; exact (k_tk hf_r2_1)
    have hf_r12_2 : isB r12.1 := by rw [← hr12]; exact z_Par_take
    refine ly_callV (rest := []) (wf := [(h, .inr (11, [.ref script_h, .ref script_tokens_h, .ref script_conditions_h, .int r12.2, .int v_joints])), (script_tokens_h, .inr (7, [.ref script_tokens_a_kinds, .ref script_tokens_a_values, .ref script_tokens_a_places, .int script_tokens__size])), (script_tokens_a_kinds, .inl (gI G, 2001, .inl script_tokens_f_kinds)), (script_tokens_a_values, .inl (gI G, 2001, .inl script_tokens_f_values)), (one_h, .inr (9, [.int one__sort, .int one__column, .int ((-1) * r11), .int one__high, .int one__by, .int one__top, .int one__start, .int one__end]))]) ⟨hx, hb, hml, hown, hts⟩ hA hK hZ hP hD hS hC_r12 (cwV 1 hts g_Par_47 rfl rfl rfl (by decide +kernel) ⟨Nat.le_of_ble_eq_true rfl, Nat.le_of_ble_eq_true rfl⟩) (ci := 11) (q0 := 0) rfl rfl rfl [0, 1, 2] rfl (by decide) rfl rfl rfl hl.1 rfl (Nat.le_of_ble_eq_true rfl) d_Par_range_38 ⟨Nat.le_of_ble_eq_true rfl, Nat.le_of_ble_eq_true rfl⟩ (st1 := [.int r12.1]) (c1 := 0) (s1 := 0) rfl rfl rfl (fun H locs hP hD hS => ?_)
    refine lv_if_eq (tgt := 53) hx hb d_Par_range_41 (by decide) (fun c12 => ?_) (fun c12 => ?_)
    · skip
      refine lv_iconst (v := 0) hx hb d_Par_range_53 (by decide) ?_
      exact ly_zret hx hb hr hlocks hP hD hS d_Par_range_54 (by decide) (by rw [s_Par_range] <;> simp only [hr1, hr2, hr11, hr12] <;> rw [if_neg c1, if_neg c2, if_pos c12]) (by rw [s_Par_range] <;> simp only [hr1, hr2, hr11, hr12] <;> rw [if_neg c1, if_neg c2, if_pos c12])
    refine lv_aload_n hx hb d_Par_range_44 rfl (lv_at hl 1 rfl) ?_
    refine lv_bipush (v := 10) hx hb d_Par_range_45 (by decide) ?_
    obtain ⟨r13, hr13⟩ : ∃ r, (s_Par_take script_tokens_f_kinds r12.2 10) = r := ⟨_, rfl⟩
    have hC_r13 := (c_Par_take l G h script_h script_tokens_h script_tokens_a_kinds script_tokens_a_values script_tokens_a_places script_conditions_h script_tokens_f_kinds script_tokens__size r12.2 v_joints 10 hf_r12_1)
    rw [hr13] at hC_r13
    have hf_r13_1 : up r13.2 2001 := by rw [← hr13]; exact (k_tk hf_r12_1)
    have hf_r13_2 : isB r13.1 := by rw [← hr13]; exact z_Par_take
    refine ly_callV (rest := []) (wf := [(h, .inr (11, [.ref script_h, .ref script_tokens_h, .ref script_conditions_h, .int r13.2, .int v_joints])), (script_tokens_h, .inr (7, [.ref script_tokens_a_kinds, .ref script_tokens_a_values, .ref script_tokens_a_places, .int script_tokens__size])), (script_tokens_a_kinds, .inl (gI G, 2001, .inl script_tokens_f_kinds)), (script_tokens_a_values, .inl (gI G, 2001, .inl script_tokens_f_values)), (one_h, .inr (9, [.int one__sort, .int one__column, .int ((-1) * r11), .int one__high, .int one__by, .int one__top, .int one__start, .int one__end]))]) ⟨hx, hb, hml, hown, hts⟩ hA hK hZ hP hD hS hC_r13 (cwV 1 hts g_Par_47 rfl rfl rfl (by decide +kernel) ⟨Nat.le_of_ble_eq_true rfl, Nat.le_of_ble_eq_true rfl⟩) (ci := 11) (q0 := 0) rfl rfl rfl [0, 1, 2] rfl (by decide) rfl rfl rfl hl.1 rfl (Nat.le_of_ble_eq_true rfl) d_Par_range_47 ⟨Nat.le_of_ble_eq_true rfl, Nat.le_of_ble_eq_true rfl⟩ (st1 := [.int r13.1]) (c1 := 0) (s1 := 0) rfl rfl rfl (fun H locs hP hD hS => ?_)
    refine lv_if_ne (tgt := 55) hx hb d_Par_range_50 (by decide) (fun c13 => ?_) (fun c13 => ?_)
    · skip
      refine lv_aload_n hx hb d_Par_range_55 rfl (lv_at hl 1 rfl) ?_
      refine lv_bipush (v := 24) hx hb d_Par_range_56 (by decide) ?_
      obtain ⟨r14, hr14⟩ : ∃ r, (s_Par_take script_tokens_f_kinds r13.2 24) = r := ⟨_, rfl⟩
      have hC_r14 := (c_Par_take l G h script_h script_tokens_h script_tokens_a_kinds script_tokens_a_values script_tokens_a_places script_conditions_h script_tokens_f_kinds script_tokens__size r13.2 v_joints 24 hf_r13_1)
      rw [hr14] at hC_r14
      have hf_r14_1 : up r14.2 2001 := by rw [← hr14]; exact (k_tk hf_r13_1)
      have hf_r14_2 : isB r14.1 := by rw [← hr14]; exact z_Par_take
      refine ly_callV (rest := []) (wf := [(h, .inr (11, [.ref script_h, .ref script_tokens_h, .ref script_conditions_h, .int r14.2, .int v_joints])), (script_tokens_h, .inr (7, [.ref script_tokens_a_kinds, .ref script_tokens_a_values, .ref script_tokens_a_places, .int script_tokens__size])), (script_tokens_a_kinds, .inl (gI G, 2001, .inl script_tokens_f_kinds)), (script_tokens_a_values, .inl (gI G, 2001, .inl script_tokens_f_values)), (one_h, .inr (9, [.int one__sort, .int one__column, .int ((-1) * r11), .int one__high, .int one__by, .int one__top, .int one__start, .int one__end]))]) ⟨hx, hb, hml, hown, hts⟩ hA hK hZ hP hD hS hC_r14 (cwV 1 hts g_Par_47 rfl rfl rfl (by decide +kernel) ⟨Nat.le_of_ble_eq_true rfl, Nat.le_of_ble_eq_true rfl⟩) (ci := 11) (q0 := 0) rfl rfl rfl [0, 1, 2] rfl (by decide) rfl rfl rfl hl.1 rfl (Nat.le_of_ble_eq_true rfl) d_Par_range_58 ⟨Nat.le_of_ble_eq_true rfl, Nat.le_of_ble_eq_true rfl⟩ (st1 := [.int r14.1]) (c1 := 0) (s1 := 0) rfl rfl rfl (fun H locs hP hD hS => ?_)
      refine lv_if_eq (tgt := 68) hx hb d_Par_range_61 (by decide) (fun c14 => ?_) (fun c14 => ?_)
      · skip
        refine lv_iconst (v := 1) hx hb d_Par_range_68 (by decide) ?_
        refine lv_istore_n (lv' := [(3, .int 1), (2, .int (-1)), (0, .ref h), (1, .ref one_h)]) hx hb d_Par_range_69 rfl hl (by decide) rfl (fun ls hl => ?_)
        refine lv_aload_n hx hb d_Par_range_70 rfl (lv_at hl 3 rfl) ?_
        refine lv_iload_n hx hb d_Par_range_71 rfl (lv_at hl 0 rfl) ?_
        refine lv_aload_n hx hb d_Par_range_72 rfl (lv_at hl 2 rfl) ?_
        obtain ⟨r15, hr15⟩ : ∃ r, (s_Par_value script_tokens_f_values r14.2) = r := ⟨_, rfl⟩
        have hC_r15 := (c_Par_value l G h script_h script_tokens_h script_tokens_a_kinds script_tokens_a_values script_tokens_a_places script_conditions_h script_tokens_f_values script_tokens__size r14.2 v_joints hf_r14_1)
        rw [hr15] at hC_r15
        refine ly_callV (rest := [.int 1, .ref one_h]) (wf := [(h, .inr (11, [.ref script_h, .ref script_tokens_h, .ref script_conditions_h, .int r14.2, .int v_joints])), (script_tokens_h, .inr (7, [.ref script_tokens_a_kinds, .ref script_tokens_a_values, .ref script_tokens_a_places, .int script_tokens__size])), (script_tokens_a_kinds, .inl (gI G, 2001, .inl script_tokens_f_kinds)), (script_tokens_a_values, .inl (gI G, 2001, .inl script_tokens_f_values)), (one_h, .inr (9, [.int one__sort, .int one__column, .int ((-1) * r11), .int one__high, .int one__by, .int one__top, .int one__start, .int one__end]))]) ⟨hx, hb, hml, hown, hts⟩ hA hK hZ hP hD hS hC_r15 (cwV 0 hts g_Par_61 rfl rfl rfl (by decide +kernel) ⟨Nat.le_of_ble_eq_true rfl, Nat.le_of_ble_eq_true rfl⟩) (ci := 11) (q0 := 0) rfl rfl rfl [0, 1, 3] rfl (by decide) rfl rfl rfl hl.1 rfl (Nat.le_of_ble_eq_true rfl) d_Par_range_73 ⟨Nat.le_of_ble_eq_true rfl, Nat.le_of_ble_eq_true rfl⟩ (st1 := [.int r15, .int 1, .ref one_h]) (c1 := 0) (s1 := 0) rfl rfl rfl (fun H locs hP hD hS => ?_)
        refine lv_imul hx hb d_Par_range_76 ?_
        refine va_put (D := G.1) (ci := 9) (v := .int (1 * r15)) (ty := .int) (C := R_Qu) (T := F_Qu) (N := 8) hx hb hts i_Qu t_Qu t_Qu_ok n_Qu hown hK hP hD hS 4 rfl rfl 3 (by decide) (hts (.fieldLink R_Par 127 "PrivateQueries$Question" "high" "I") k_152) (fun _ h9 => h9) rfl (by decide +kernel) rfl rfl (Nat.le_of_ble_eq_true rfl) d_Par_range_77 (fun H locs hP hD hS => ?_)
        have hP : va_P G.1 classes [(h, .inr (11, [.ref script_h, .ref script_tokens_h, .ref script_conditions_h, .int r14.2, .int v_joints])), (script_tokens_h, .inr (7, [.ref script_tokens_a_kinds, .ref script_tokens_a_values, .ref script_tokens_a_places, .int script_tokens__size])), (script_tokens_a_kinds, .inl (gI G, 2001, .inl script_tokens_f_kinds)), (script_tokens_a_values, .inl (gI G, 2001, .inl script_tokens_f_values)), (one_h, .inr (9, [.int one__sort, .int one__column, .int ((-1) * r11), .int (1 * r15), .int one__by, .int one__top, .int one__start, .int one__end]))] H := hP
        have hD : va_D A [(h, .inr (11, [.ref script_h, .ref script_tokens_h, .ref script_conditions_h, .int r14.2, .int v_joints])), (script_tokens_h, .inr (7, [.ref script_tokens_a_kinds, .ref script_tokens_a_values, .ref script_tokens_a_places, .int script_tokens__size])), (script_tokens_a_kinds, .inl (gI G, 2001, .inl script_tokens_f_kinds)), (script_tokens_a_values, .inl (gI G, 2001, .inl script_tokens_f_values)), (one_h, .inr (9, [.int one__sort, .int one__column, .int ((-1) * r11), .int (1 * r15), .int one__by, .int one__top, .int one__start, .int one__end]))] := hD
        refine lv_aload_n hx hb d_Par_range_80 rfl (lv_at hl 3 rfl) ?_
        refine va_get (D := G.1) (ci := 9) (C := R_Qu) (T := F_Qu) (N := 8) (v := .int (1 * r15)) hx hb hts i_Qu hown hK hP 4 rfl rfl 3 (by decide) (hts (.fieldLink R_Par 127 "PrivateQueries$Question" "high" "I") k_152) (fun _ h9 => h9) rfl d_Par_range_81 ?_
        refine lv_i2l (v := (1 * r15).toInt64) hx hb d_Par_range_84 rfl ?_
        refine lv_aload_n hx hb d_Par_range_85 rfl (lv_at hl 3 rfl) ?_
        refine va_get (D := G.1) (ci := 9) (C := R_Qu) (T := F_Qu) (N := 8) (v := .int ((-1) * r11)) hx hb hts i_Qu hown hK hP 4 rfl rfl 2 (by decide) (hts (.fieldLink R_Par 133 "PrivateQueries$Question" "low" "I") k_154) (fun _ h9 => h9) rfl d_Par_range_86 ?_
        refine lv_i2l (v := ((-1) * r11).toInt64) hx hb d_Par_range_89 rfl ?_
        refine lv_lsub hx hb d_Par_range_90 ?_
        refine lv_lstore (lv' := [(4, .long (((1 * r15).toInt64) - (((-1) * r11).toInt64))), (3, .int 1), (2, .int (-1)), (0, .ref h), (1, .ref one_h)]) hx hb d_Par_range_91 hl (by decide) rfl (fun ls hl => ?_)
        refine lv_lload hx hb d_Par_range_93 (lv_at hl 0 rfl) ?_
        refine lv_lconst (v := 0) hx hb d_Par_range_95 (by decide) ?_
        refine W.lcmp hx hb d_Par_range_96 ?_
        refine lv_if_lt (tgt := 121) hx hb d_Par_range_97 (by decide) (fun c15 => ?_) (fun c15 => ?_)
        · skip
          refine lv_iconst (v := 0) hx hb d_Par_range_121 (by decide) ?_
          exact ly_zret hx hb hr hlocks hP hD hS d_Par_range_122 (by decide) (by rw [s_Par_range] <;> simp only [hr1, hr2, hr11, hr12, hr13, hr14, hr15] <;> rw [if_neg c1, if_neg c2, if_neg c12, if_neg c13, if_pos c14, if_pos c15]) (by rw [s_Par_range] <;> simp only [hr1, hr2, hr11, hr12, hr13, hr14, hr15] <;> rw [if_neg c1, if_neg c2, if_neg c12, if_neg c13, if_pos c14, if_pos c15])
        refine lv_lload hx hb d_Par_range_100 (lv_at hl 0 rfl) ?_
        refine lv_ldc2 (v := 20) hx hb hown (hts (.constantLong R_Par 136 20) k_155) d_Par_range_102 ?_
        refine W.lcmp hx hb d_Par_range_105 ?_
        refine lv_if_ge (tgt := 121) hx hb d_Par_range_106 (by decide) (fun c16 => ?_) (fun c16 => ?_)
        · skip
          refine lv_iconst (v := 0) hx hb d_Par_range_121 (by decide) ?_
          exact ly_zret hx hb hr hlocks hP hD hS d_Par_range_122 (by decide) (by rw [s_Par_range] <;> simp only [hr1, hr2, hr11, hr12, hr13, hr14, hr15] <;> rw [if_neg c1, if_neg c2, if_neg c12, if_neg c13, if_pos c14, if_neg c15, if_pos c16]) (by rw [s_Par_range] <;> simp only [hr1, hr2, hr11, hr12, hr13, hr14, hr15] <;> rw [if_neg c1, if_neg c2, if_neg c12, if_neg c13, if_pos c14, if_neg c15, if_pos c16])
        refine lv_aload_n hx hb d_Par_range_109 rfl (lv_at hl 3 rfl) ?_
        refine lv_iconst (v := 2) hx hb d_Par_range_110 (by decide) ?_
        obtain ⟨r16, hr16⟩ : ∃ r, (s_Par_take script_tokens_f_kinds r14.2 2) = r := ⟨_, rfl⟩
        have hC_r16 := (c_Par_take l G h script_h script_tokens_h script_tokens_a_kinds script_tokens_a_values script_tokens_a_places script_conditions_h script_tokens_f_kinds script_tokens__size r14.2 v_joints 2 hf_r14_1)
        rw [hr16] at hC_r16
        have hf_r16_1 : up r16.2 2001 := by rw [← hr16]; exact (k_tk hf_r14_1)
        have hf_r16_2 : isB r16.1 := by rw [← hr16]; exact z_Par_take
        refine ly_callV (rest := []) (wf := [(h, .inr (11, [.ref script_h, .ref script_tokens_h, .ref script_conditions_h, .int r16.2, .int v_joints])), (script_tokens_h, .inr (7, [.ref script_tokens_a_kinds, .ref script_tokens_a_values, .ref script_tokens_a_places, .int script_tokens__size])), (script_tokens_a_kinds, .inl (gI G, 2001, .inl script_tokens_f_kinds)), (script_tokens_a_values, .inl (gI G, 2001, .inl script_tokens_f_values)), (one_h, .inr (9, [.int one__sort, .int one__column, .int ((-1) * r11), .int (1 * r15), .int one__by, .int one__top, .int one__start, .int one__end]))]) ⟨hx, hb, hml, hown, hts⟩ hA hK hZ hP hD hS hC_r16 (cwV 1 hts g_Par_47 rfl rfl rfl (by decide +kernel) ⟨Nat.le_of_ble_eq_true rfl, Nat.le_of_ble_eq_true rfl⟩) (ci := 11) (q0 := 0) rfl rfl rfl [0, 1, 2] rfl (by decide) rfl rfl rfl hl.1 rfl (Nat.le_of_ble_eq_true rfl) d_Par_range_111 ⟨Nat.le_of_ble_eq_true rfl, Nat.le_of_ble_eq_true rfl⟩ (st1 := [.int r16.1]) (c1 := 0) (s1 := 0) rfl rfl rfl (fun H locs hP hD hS => ?_)
        refine lv_if_eq (tgt := 121) hx hb d_Par_range_114 (by decide) (fun c17 => ?_) (fun c17 => ?_)
        · skip
          refine lv_iconst (v := 0) hx hb d_Par_range_121 (by decide) ?_
          exact ly_zret hx hb hr hlocks hP hD hS d_Par_range_122 (by decide) (by rw [s_Par_range] <;> simp only [hr1, hr2, hr11, hr12, hr13, hr14, hr15, hr16] <;> rw [if_neg c1, if_neg c2, if_neg c12, if_neg c13, if_pos c14, if_neg c15, if_neg c16, if_pos c17]) (by rw [s_Par_range] <;> simp only [hr1, hr2, hr11, hr12, hr13, hr14, hr15, hr16] <;> rw [if_neg c1, if_neg c2, if_neg c12, if_neg c13, if_pos c14, if_neg c15, if_neg c16, if_pos c17])
        refine lv_iconst (v := 1) hx hb d_Par_range_117 (by decide) ?_
        refine lv_goto (tgt := 122) hx hb d_Par_range_118 (by decide) ?_
        exact ly_zret hx hb hr hlocks hP hD hS d_Par_range_122 (by decide) (by rw [s_Par_range] <;> simp only [hr1, hr2, hr11, hr12, hr13, hr14, hr15, hr16] <;> rw [if_neg c1, if_neg c2, if_neg c12, if_neg c13, if_pos c14, if_neg c15, if_neg c16, if_neg c17]) (by rw [s_Par_range] <;> simp only [hr1, hr2, hr11, hr12, hr13, hr14, hr15, hr16] <;> rw [if_neg c1, if_neg c2, if_neg c12, if_neg c13, if_pos c14, if_neg c15, if_neg c16, if_neg c17])
      refine lv_iconst (v := -1) hx hb d_Par_range_64 (by decide) ?_
      refine lv_goto (tgt := 69) hx hb d_Par_range_65 (by decide) ?_
      refine lv_istore_n (lv' := [(3, .int (-1)), (2, .int (-1)), (0, .ref h), (1, .ref one_h)]) hx hb d_Par_range_69 rfl hl (by decide) rfl (fun ls hl => ?_)
      refine lv_aload_n hx hb d_Par_range_70 rfl (lv_at hl 3 rfl) ?_
      refine lv_iload_n hx hb d_Par_range_71 rfl (lv_at hl 0 rfl) ?_
      refine lv_aload_n hx hb d_Par_range_72 rfl (lv_at hl 2 rfl) ?_
      obtain ⟨r17, hr17⟩ : ∃ r, (s_Par_value script_tokens_f_values r14.2) = r := ⟨_, rfl⟩
      have hC_r17 := (c_Par_value l G h script_h script_tokens_h script_tokens_a_kinds script_tokens_a_values script_tokens_a_places script_conditions_h script_tokens_f_values script_tokens__size r14.2 v_joints hf_r14_1)
      rw [hr17] at hC_r17
      refine ly_callV (rest := [.int (-1), .ref one_h]) (wf := [(h, .inr (11, [.ref script_h, .ref script_tokens_h, .ref script_conditions_h, .int r14.2, .int v_joints])), (script_tokens_h, .inr (7, [.ref script_tokens_a_kinds, .ref script_tokens_a_values, .ref script_tokens_a_places, .int script_tokens__size])), (script_tokens_a_kinds, .inl (gI G, 2001, .inl script_tokens_f_kinds)), (script_tokens_a_values, .inl (gI G, 2001, .inl script_tokens_f_values)), (one_h, .inr (9, [.int one__sort, .int one__column, .int ((-1) * r11), .int one__high, .int one__by, .int one__top, .int one__start, .int one__end]))]) ⟨hx, hb, hml, hown, hts⟩ hA hK hZ hP hD hS hC_r17 (cwV 0 hts g_Par_61 rfl rfl rfl (by decide +kernel) ⟨Nat.le_of_ble_eq_true rfl, Nat.le_of_ble_eq_true rfl⟩) (ci := 11) (q0 := 0) rfl rfl rfl [0, 1, 3] rfl (by decide) rfl rfl rfl hl.1 rfl (Nat.le_of_ble_eq_true rfl) d_Par_range_73 ⟨Nat.le_of_ble_eq_true rfl, Nat.le_of_ble_eq_true rfl⟩ (st1 := [.int r17, .int (-1), .ref one_h]) (c1 := 0) (s1 := 0) rfl rfl rfl (fun H locs hP hD hS => ?_)
      refine lv_imul hx hb d_Par_range_76 ?_
      refine va_put (D := G.1) (ci := 9) (v := .int ((-1) * r17)) (ty := .int) (C := R_Qu) (T := F_Qu) (N := 8) hx hb hts i_Qu t_Qu t_Qu_ok n_Qu hown hK hP hD hS 4 rfl rfl 3 (by decide) (hts (.fieldLink R_Par 127 "PrivateQueries$Question" "high" "I") k_152) (fun _ h9 => h9) rfl (by decide +kernel) rfl rfl (Nat.le_of_ble_eq_true rfl) d_Par_range_77 (fun H locs hP hD hS => ?_)
      have hP : va_P G.1 classes [(h, .inr (11, [.ref script_h, .ref script_tokens_h, .ref script_conditions_h, .int r14.2, .int v_joints])), (script_tokens_h, .inr (7, [.ref script_tokens_a_kinds, .ref script_tokens_a_values, .ref script_tokens_a_places, .int script_tokens__size])), (script_tokens_a_kinds, .inl (gI G, 2001, .inl script_tokens_f_kinds)), (script_tokens_a_values, .inl (gI G, 2001, .inl script_tokens_f_values)), (one_h, .inr (9, [.int one__sort, .int one__column, .int ((-1) * r11), .int ((-1) * r17), .int one__by, .int one__top, .int one__start, .int one__end]))] H := hP
      have hD : va_D A [(h, .inr (11, [.ref script_h, .ref script_tokens_h, .ref script_conditions_h, .int r14.2, .int v_joints])), (script_tokens_h, .inr (7, [.ref script_tokens_a_kinds, .ref script_tokens_a_values, .ref script_tokens_a_places, .int script_tokens__size])), (script_tokens_a_kinds, .inl (gI G, 2001, .inl script_tokens_f_kinds)), (script_tokens_a_values, .inl (gI G, 2001, .inl script_tokens_f_values)), (one_h, .inr (9, [.int one__sort, .int one__column, .int ((-1) * r11), .int ((-1) * r17), .int one__by, .int one__top, .int one__start, .int one__end]))] := hD
      refine lv_aload_n hx hb d_Par_range_80 rfl (lv_at hl 3 rfl) ?_
      refine va_get (D := G.1) (ci := 9) (C := R_Qu) (T := F_Qu) (N := 8) (v := .int ((-1) * r17)) hx hb hts i_Qu hown hK hP 4 rfl rfl 3 (by decide) (hts (.fieldLink R_Par 127 "PrivateQueries$Question" "high" "I") k_152) (fun _ h9 => h9) rfl d_Par_range_81 ?_
      refine lv_i2l (v := ((-1) * r17).toInt64) hx hb d_Par_range_84 rfl ?_
      refine lv_aload_n hx hb d_Par_range_85 rfl (lv_at hl 3 rfl) ?_
      refine va_get (D := G.1) (ci := 9) (C := R_Qu) (T := F_Qu) (N := 8) (v := .int ((-1) * r11)) hx hb hts i_Qu hown hK hP 4 rfl rfl 2 (by decide) (hts (.fieldLink R_Par 133 "PrivateQueries$Question" "low" "I") k_154) (fun _ h9 => h9) rfl d_Par_range_86 ?_
      refine lv_i2l (v := ((-1) * r11).toInt64) hx hb d_Par_range_89 rfl ?_
      refine lv_lsub hx hb d_Par_range_90 ?_
      refine lv_lstore (lv' := [(4, .long ((((-1) * r17).toInt64) - (((-1) * r11).toInt64))), (3, .int (-1)), (2, .int (-1)), (0, .ref h), (1, .ref one_h)]) hx hb d_Par_range_91 hl (by decide) rfl (fun ls hl => ?_)
      refine lv_lload hx hb d_Par_range_93 (lv_at hl 0 rfl) ?_
      refine lv_lconst (v := 0) hx hb d_Par_range_95 (by decide) ?_
      refine W.lcmp hx hb d_Par_range_96 ?_
      refine lv_if_lt (tgt := 121) hx hb d_Par_range_97 (by decide) (fun c18 => ?_) (fun c18 => ?_)
      · skip
        refine lv_iconst (v := 0) hx hb d_Par_range_121 (by decide) ?_
        exact ly_zret hx hb hr hlocks hP hD hS d_Par_range_122 (by decide) (by rw [s_Par_range] <;> simp only [hr1, hr2, hr11, hr12, hr13, hr14, hr17] <;> rw [if_neg c1, if_neg c2, if_neg c12, if_neg c13, if_neg c14, if_pos c18]) (by rw [s_Par_range] <;> simp only [hr1, hr2, hr11, hr12, hr13, hr14, hr17] <;> rw [if_neg c1, if_neg c2, if_neg c12, if_neg c13, if_neg c14, if_pos c18])
      refine lv_lload hx hb d_Par_range_100 (lv_at hl 0 rfl) ?_
      refine lv_ldc2 (v := 20) hx hb hown (hts (.constantLong R_Par 136 20) k_155) d_Par_range_102 ?_
      refine W.lcmp hx hb d_Par_range_105 ?_
      refine lv_if_ge (tgt := 121) hx hb d_Par_range_106 (by decide) (fun c19 => ?_) (fun c19 => ?_)
      · skip
        refine lv_iconst (v := 0) hx hb d_Par_range_121 (by decide) ?_
        exact ly_zret hx hb hr hlocks hP hD hS d_Par_range_122 (by decide) (by rw [s_Par_range] <;> simp only [hr1, hr2, hr11, hr12, hr13, hr14, hr17] <;> rw [if_neg c1, if_neg c2, if_neg c12, if_neg c13, if_neg c14, if_neg c18, if_pos c19]) (by rw [s_Par_range] <;> simp only [hr1, hr2, hr11, hr12, hr13, hr14, hr17] <;> rw [if_neg c1, if_neg c2, if_neg c12, if_neg c13, if_neg c14, if_neg c18, if_pos c19])
      refine lv_aload_n hx hb d_Par_range_109 rfl (lv_at hl 3 rfl) ?_
      refine lv_iconst (v := 2) hx hb d_Par_range_110 (by decide) ?_
      obtain ⟨r18, hr18⟩ : ∃ r, (s_Par_take script_tokens_f_kinds r14.2 2) = r := ⟨_, rfl⟩
      have hC_r18 := (c_Par_take l G h script_h script_tokens_h script_tokens_a_kinds script_tokens_a_values script_tokens_a_places script_conditions_h script_tokens_f_kinds script_tokens__size r14.2 v_joints 2 hf_r14_1)
      rw [hr18] at hC_r18
      have hf_r18_1 : up r18.2 2001 := by rw [← hr18]; exact (k_tk hf_r14_1)
      have hf_r18_2 : isB r18.1 := by rw [← hr18]; exact z_Par_take
      refine ly_callV (rest := []) (wf := [(h, .inr (11, [.ref script_h, .ref script_tokens_h, .ref script_conditions_h, .int r18.2, .int v_joints])), (script_tokens_h, .inr (7, [.ref script_tokens_a_kinds, .ref script_tokens_a_values, .ref script_tokens_a_places, .int script_tokens__size])), (script_tokens_a_kinds, .inl (gI G, 2001, .inl script_tokens_f_kinds)), (script_tokens_a_values, .inl (gI G, 2001, .inl script_tokens_f_values)), (one_h, .inr (9, [.int one__sort, .int one__column, .int ((-1) * r11), .int ((-1) * r17), .int one__by, .int one__top, .int one__start, .int one__end]))]) ⟨hx, hb, hml, hown, hts⟩ hA hK hZ hP hD hS hC_r18 (cwV 1 hts g_Par_47 rfl rfl rfl (by decide +kernel) ⟨Nat.le_of_ble_eq_true rfl, Nat.le_of_ble_eq_true rfl⟩) (ci := 11) (q0 := 0) rfl rfl rfl [0, 1, 2] rfl (by decide) rfl rfl rfl hl.1 rfl (Nat.le_of_ble_eq_true rfl) d_Par_range_111 ⟨Nat.le_of_ble_eq_true rfl, Nat.le_of_ble_eq_true rfl⟩ (st1 := [.int r18.1]) (c1 := 0) (s1 := 0) rfl rfl rfl (fun H locs hP hD hS => ?_)
      refine lv_if_eq (tgt := 121) hx hb d_Par_range_114 (by decide) (fun c20 => ?_) (fun c20 => ?_)
      · skip
        refine lv_iconst (v := 0) hx hb d_Par_range_121 (by decide) ?_
        exact ly_zret hx hb hr hlocks hP hD hS d_Par_range_122 (by decide) (by rw [s_Par_range] <;> simp only [hr1, hr2, hr11, hr12, hr13, hr14, hr17, hr18] <;> rw [if_neg c1, if_neg c2, if_neg c12, if_neg c13, if_neg c14, if_neg c18, if_neg c19, if_pos c20]) (by rw [s_Par_range] <;> simp only [hr1, hr2, hr11, hr12, hr13, hr14, hr17, hr18] <;> rw [if_neg c1, if_neg c2, if_neg c12, if_neg c13, if_neg c14, if_neg c18, if_neg c19, if_pos c20])
      refine lv_iconst (v := 1) hx hb d_Par_range_117 (by decide) ?_
      refine lv_goto (tgt := 122) hx hb d_Par_range_118 (by decide) ?_
      exact ly_zret hx hb hr hlocks hP hD hS d_Par_range_122 (by decide) (by rw [s_Par_range] <;> simp only [hr1, hr2, hr11, hr12, hr13, hr14, hr17, hr18] <;> rw [if_neg c1, if_neg c2, if_neg c12, if_neg c13, if_neg c14, if_neg c18, if_neg c19, if_neg c20]) (by rw [s_Par_range] <;> simp only [hr1, hr2, hr11, hr12, hr13, hr14, hr17, hr18] <;> rw [if_neg c1, if_neg c2, if_neg c12, if_neg c13, if_neg c14, if_neg c18, if_neg c19, if_neg c20])
    refine lv_iconst (v := 0) hx hb d_Par_range_53 (by decide) ?_
    exact ly_zret hx hb hr hlocks hP hD hS d_Par_range_54 (by decide) (by rw [s_Par_range] <;> simp only [hr1, hr2, hr11, hr12, hr13] <;> rw [if_neg c1, if_neg c2, if_neg c12, if_pos c13]) (by rw [s_Par_range] <;> simp only [hr1, hr2, hr11, hr12, hr13] <;> rw [if_neg c1, if_neg c2, if_neg c12, if_pos c13])
  refine lv_iconst (v := 0) hx hb d_Par_range_9 (by decide) ?_
  exact ly_zret hx hb hr hlocks hP hD hS d_Par_range_10 (by decide) (by rw [s_Par_range] <;> simp only [hr1] <;> rw [if_pos c1]) (by rw [s_Par_range] <;> simp only [hr1] <;> rw [if_pos c1])

theorem z_Par_head {script_tokens_f_kinds : Nat → Int32} {script_tokens_f_values : Nat → Int32} {v_at : Int32} {one__sort : Int32} {one__column : Int32} {one__low : Int32} {one__high : Int32} {one__by : Int32} {one__top : Int32} {one__start : Int32} {one__end : Int32} : isB (s_Par_head script_tokens_f_kinds script_tokens_f_values v_at one__sort one__column one__low one__high one__by one__top one__start one__end).1 := by
  obtain ⟨r1, hr1⟩ : ∃ r, (s_Par_take script_tokens_f_kinds v_at 6) = r := ⟨_, rfl⟩
  have zb_r1 : isB r1.1 := by rw [← hr1]; exact z_Par_take
  obtain ⟨r2, hr2⟩ : ∃ r, (s_Par_take script_tokens_f_kinds r1.2 7) = r := ⟨_, rfl⟩
  have zb_r2 : isB r2.1 := by rw [← hr2]; exact z_Par_take
  obtain ⟨r3, hr3⟩ : ∃ r, (s_Par_take script_tokens_f_kinds r2.2 8) = r := ⟨_, rfl⟩
  have zb_r3 : isB r3.1 := by rw [← hr3]; exact z_Par_take
  obtain ⟨r4, hr4⟩ : ∃ r, (s_Par_column script_tokens_f_kinds script_tokens_f_values r3.2) = r := ⟨_, rfl⟩
  have zb_r4 : isB r4.1 := by rw [← hr4]; exact z_Par_column
  obtain ⟨r5, hr5⟩ : ∃ r, (s_Par_range script_tokens_f_kinds script_tokens_f_values r4.2.1 0 0) = r := ⟨_, rfl⟩
  have zb_r5 : isB r5.1 := by rw [← hr5]; exact z_Par_range
  obtain ⟨r6, hr6⟩ : ∃ r, (s_Par_column script_tokens_f_kinds script_tokens_f_values r2.2) = r := ⟨_, rfl⟩
  have zb_r6 : isB r6.1 := by rw [← hr6]; exact z_Par_column
  obtain ⟨r7, hr7⟩ : ∃ r, (s_Par_bounds script_tokens_f_kinds script_tokens_f_values r6.2.1 0 1) = r := ⟨_, rfl⟩
  have zb_r7 : isB r7.1 := by rw [← hr7]; exact z_Par_bounds
  rw [s_Par_head]
  simp only [hr1, hr2, hr3, hr4, hr5, hr6, hr7]
  by_cases ct1 : r1.1 = 0
  · rw [if_pos ct1]
    by_cases ct2 : r2.1 = 0
    · rw [if_pos ct2]
      by_cases ct3 : r3.1 = 0
      · rw [if_pos ct3]
        first | exact isB_0 | exact isB_1 | assumption
      rw [if_neg ct3]
      by_cases ct4 : r4.1 = 0
      · rw [if_pos ct4]
        first | exact isB_0 | exact isB_1 | assumption
      rw [if_neg ct4]
      by_cases ct5 : r5.1 = 0
      · rw [if_pos ct5]
        first | exact isB_0 | exact isB_1 | assumption
      rw [if_neg ct5]
      first | exact isB_0 | exact isB_1 | assumption
    rw [if_neg ct2]
    by_cases ct6 : r6.1 = 0
    · rw [if_pos ct6]
      first | exact isB_0 | exact isB_1 | assumption
    rw [if_neg ct6]
    by_cases ct7 : r7.1 = 0
    · rw [if_pos ct7]
      first | exact isB_0 | exact isB_1 | assumption
    rw [if_neg ct7]
    first | exact isB_0 | exact isB_1 | assumption
  rw [if_neg ct1]
  first | exact isB_0 | exact isB_1 | assumption
set_option maxHeartbeats 4000000 in
set_option maxRecDepth 100000 in
theorem c_Par_head (l : Launch) (G : GG) (h : Nat) (script_h : Nat) (script_tokens_h : Nat) (script_tokens_a_kinds : Nat) (script_tokens_a_values : Nat) (script_tokens_a_places : Nat) (script_conditions_h : Nat) (one_h : Nat) (script_tokens_f_kinds : Nat → Int32) (script_tokens_f_values : Nat → Int32) (script_tokens__size : Int32) (v_at : Int32) (v_joints : Int32) (one__sort : Int32) (one__column : Int32) (one__low : Int32) (one__high : Int32) (one__by : Int32) (one__top : Int32) (one__start : Int32) (one__end : Int32) (hz_v_at : up v_at 2001) : Det l G y_Par_head w_Par_head (rmD 3) 0 0 [.ref h, .ref one_h] [(h, .inr (11, [.ref script_h, .ref script_tokens_h, .ref script_conditions_h, .int v_at, .int v_joints])), (script_tokens_h, .inr (7, [.ref script_tokens_a_kinds, .ref script_tokens_a_values, .ref script_tokens_a_places, .int script_tokens__size])), (script_tokens_a_kinds, .inl (gI G, 2001, .inl script_tokens_f_kinds)), (script_tokens_a_values, .inl (gI G, 2001, .inl script_tokens_f_values)), (one_h, .inr (9, [.int one__sort, .int one__column, .int one__low, .int one__high, .int one__by, .int one__top, .int one__start, .int one__end]))] (some (.int (s_Par_head script_tokens_f_kinds script_tokens_f_values v_at one__sort one__column one__low one__high one__by one__top one__start one__end).1)) [(h, .inr (11, [.ref script_h, .ref script_tokens_h, .ref script_conditions_h, .int (s_Par_head script_tokens_f_kinds script_tokens_f_values v_at one__sort one__column one__low one__high one__by one__top one__start one__end).2.1, .int v_joints])), (script_tokens_h, .inr (7, [.ref script_tokens_a_kinds, .ref script_tokens_a_values, .ref script_tokens_a_places, .int script_tokens__size])), (script_tokens_a_kinds, .inl (gI G, 2001, .inl script_tokens_f_kinds)), (script_tokens_a_values, .inl (gI G, 2001, .inl script_tokens_f_values)), (one_h, .inr (9, [.int (s_Par_head script_tokens_f_kinds script_tokens_f_values v_at one__sort one__column one__low one__high one__by one__top one__start one__end).2.2.1, .int (s_Par_head script_tokens_f_kinds script_tokens_f_values v_at one__sort one__column one__low one__high one__by one__top one__start one__end).2.2.2.1, .int (s_Par_head script_tokens_f_kinds script_tokens_f_values v_at one__sort one__column one__low one__high one__by one__top one__start one__end).2.2.2.2.1, .int (s_Par_head script_tokens_f_kinds script_tokens_f_values v_at one__sort one__column one__low one__high one__by one__top one__start one__end).2.2.2.2.2.1, .int (s_Par_head script_tokens_f_kinds script_tokens_f_values v_at one__sort one__column one__low one__high one__by one__top one__start one__end).2.2.2.2.2.2.1, .int (s_Par_head script_tokens_f_kinds script_tokens_f_values v_at one__sort one__column one__low one__high one__by one__top one__start one__end).2.2.2.2.2.2.2.1, .int (s_Par_head script_tokens_f_kinds script_tokens_f_values v_at one__sort one__column one__low one__high one__by one__top one__start one__end).2.2.2.2.2.2.2.2.1, .int (s_Par_head script_tokens_f_kinds script_tokens_f_values v_at one__sort one__column one__low one__high one__by one__top one__start one__end).2.2.2.2.2.2.2.2.2]))] := by
  refine Det.of (cc := b_Par_head) (maxL := 2) (ret := (some .boolean)) (by decide) rfl (Nat.le_of_ble_eq_true rfl) ?_
  intro p e s m args below meth c A ls hx hb hr hml hown hts hlocks hin hA hK hZ hP hD hS hl
  have hts : ∀ w ∈ wG, w.before args s = true := fun w h => hts w (List.mem_cons_of_mem _ h)
  have hown : s.vm.findClass R_Par = some m.cls := hown
  have hl : lv_has ls 2 [(0, .ref h), (1, .ref one_h)] := hl
  refine lv_aload_n hx hb d_Par_head_0 rfl (lv_at hl 0 rfl) ?_
  refine lv_bipush (v := 6) hx hb d_Par_head_1 (by decide) ?_
  obtain ⟨r1, hr1⟩ : ∃ r, (s_Par_take script_tokens_f_kinds v_at 6) = r := ⟨_, rfl⟩
  have hC_r1 := (c_Par_take l G h script_h script_tokens_h script_tokens_a_kinds script_tokens_a_values script_tokens_a_places script_conditions_h script_tokens_f_kinds script_tokens__size v_at v_joints 6 hz_v_at)
  rw [hr1] at hC_r1
  have hf_r1_1 : up r1.2 2001 := by rw [← hr1]; exact (k_tk hz_v_at)
  have hf_r1_2 : isB r1.1 := by rw [← hr1]; exact z_Par_take
  refine ly_callV (rest := []) (wf := [(h, .inr (11, [.ref script_h, .ref script_tokens_h, .ref script_conditions_h, .int r1.2, .int v_joints])), (script_tokens_h, .inr (7, [.ref script_tokens_a_kinds, .ref script_tokens_a_values, .ref script_tokens_a_places, .int script_tokens__size])), (script_tokens_a_kinds, .inl (gI G, 2001, .inl script_tokens_f_kinds)), (script_tokens_a_values, .inl (gI G, 2001, .inl script_tokens_f_values)), (one_h, .inr (9, [.int one__sort, .int one__column, .int one__low, .int one__high, .int one__by, .int one__top, .int one__start, .int one__end]))]) ⟨hx, hb, hml, hown, hts⟩ hA hK hZ hP hD hS hC_r1 (cwV 1 hts g_Par_47 rfl rfl rfl (by decide +kernel) ⟨Nat.le_of_ble_eq_true rfl, Nat.le_of_ble_eq_true rfl⟩) (ci := 11) (q0 := 0) rfl rfl rfl [0, 1, 2] rfl (by decide) rfl rfl rfl hl.1 rfl (Nat.le_of_ble_eq_true rfl) d_Par_head_3 ⟨Nat.le_of_ble_eq_true rfl, Nat.le_of_ble_eq_true rfl⟩ (st1 := [.int r1.1]) (c1 := 0) (s1 := 0) rfl rfl rfl (fun H locs hP hD hS => ?_)
  refine lv_if_eq (tgt := 16) hx hb d_Par_head_6 (by decide) (fun c1 => ?_) (fun c1 => ?_)
  · skip
    refine lv_aload_n hx hb d_Par_head_16 rfl (lv_at hl 0 rfl) ?_
    refine lv_bipush (v := 7) hx hb d_Par_head_17 (by decide) ?_
    obtain ⟨r2, hr2⟩ : ∃ r, (s_Par_take script_tokens_f_kinds r1.2 7) = r := ⟨_, rfl⟩
    have hC_r2 := (c_Par_take l G h script_h script_tokens_h script_tokens_a_kinds script_tokens_a_values script_tokens_a_places script_conditions_h script_tokens_f_kinds script_tokens__size r1.2 v_joints 7 hf_r1_1)
    rw [hr2] at hC_r2
    have hf_r2_1 : up r2.2 2001 := by rw [← hr2]; exact (k_tk hf_r1_1)
    have hf_r2_2 : isB r2.1 := by rw [← hr2]; exact z_Par_take
    refine ly_callV (rest := []) (wf := [(h, .inr (11, [.ref script_h, .ref script_tokens_h, .ref script_conditions_h, .int r2.2, .int v_joints])), (script_tokens_h, .inr (7, [.ref script_tokens_a_kinds, .ref script_tokens_a_values, .ref script_tokens_a_places, .int script_tokens__size])), (script_tokens_a_kinds, .inl (gI G, 2001, .inl script_tokens_f_kinds)), (script_tokens_a_values, .inl (gI G, 2001, .inl script_tokens_f_values)), (one_h, .inr (9, [.int one__sort, .int one__column, .int one__low, .int one__high, .int one__by, .int one__top, .int one__start, .int one__end]))]) ⟨hx, hb, hml, hown, hts⟩ hA hK hZ hP hD hS hC_r2 (cwV 1 hts g_Par_47 rfl rfl rfl (by decide +kernel) ⟨Nat.le_of_ble_eq_true rfl, Nat.le_of_ble_eq_true rfl⟩) (ci := 11) (q0 := 0) rfl rfl rfl [0, 1, 2] rfl (by decide) rfl rfl rfl hl.1 rfl (Nat.le_of_ble_eq_true rfl) d_Par_head_19 ⟨Nat.le_of_ble_eq_true rfl, Nat.le_of_ble_eq_true rfl⟩ (st1 := [.int r2.1]) (c1 := 0) (s1 := 0) rfl rfl rfl (fun H locs hP hD hS => ?_)
    refine lv_if_eq (tgt := 52) hx hb d_Par_head_22 (by decide) (fun c2 => ?_) (fun c2 => ?_)
    · skip
      refine lv_aload_n hx hb d_Par_head_52 rfl (lv_at hl 0 rfl) ?_
      refine lv_bipush (v := 8) hx hb d_Par_head_53 (by decide) ?_
      obtain ⟨r3, hr3⟩ : ∃ r, (s_Par_take script_tokens_f_kinds r2.2 8) = r := ⟨_, rfl⟩
      have hC_r3 := (c_Par_take l G h script_h script_tokens_h script_tokens_a_kinds script_tokens_a_values script_tokens_a_places script_conditions_h script_tokens_f_kinds script_tokens__size r2.2 v_joints 8 hf_r2_1)
      rw [hr3] at hC_r3
      have hf_r3_1 : up r3.2 2001 := by rw [← hr3]; exact (k_tk hf_r2_1)
      have hf_r3_2 : isB r3.1 := by rw [← hr3]; exact z_Par_take
      refine ly_callV (rest := []) (wf := [(h, .inr (11, [.ref script_h, .ref script_tokens_h, .ref script_conditions_h, .int r3.2, .int v_joints])), (script_tokens_h, .inr (7, [.ref script_tokens_a_kinds, .ref script_tokens_a_values, .ref script_tokens_a_places, .int script_tokens__size])), (script_tokens_a_kinds, .inl (gI G, 2001, .inl script_tokens_f_kinds)), (script_tokens_a_values, .inl (gI G, 2001, .inl script_tokens_f_values)), (one_h, .inr (9, [.int one__sort, .int one__column, .int one__low, .int one__high, .int one__by, .int one__top, .int one__start, .int one__end]))]) ⟨hx, hb, hml, hown, hts⟩ hA hK hZ hP hD hS hC_r3 (cwV 1 hts g_Par_47 rfl rfl rfl (by decide +kernel) ⟨Nat.le_of_ble_eq_true rfl, Nat.le_of_ble_eq_true rfl⟩) (ci := 11) (q0 := 0) rfl rfl rfl [0, 1, 2] rfl (by decide) rfl rfl rfl hl.1 rfl (Nat.le_of_ble_eq_true rfl) d_Par_head_55 ⟨Nat.le_of_ble_eq_true rfl, Nat.le_of_ble_eq_true rfl⟩ (st1 := [.int r3.1]) (c1 := 0) (s1 := 0) rfl rfl rfl (fun H locs hP hD hS => ?_)
      refine lv_if_eq (tgt := 88) hx hb d_Par_head_58 (by decide) (fun c3 => ?_) (fun c3 => ?_)
      · skip
        refine lv_iconst (v := 0) hx hb d_Par_head_88 (by decide) ?_
        exact ly_zret hx hb hr hlocks hP hD hS d_Par_head_89 (by decide) (by rw [s_Par_head] <;> simp only [hr1, hr2, hr3] <;> rw [if_pos c1, if_pos c2, if_pos c3]) (by rw [s_Par_head] <;> simp only [hr1, hr2, hr3] <;> rw [if_pos c1, if_pos c2, if_pos c3])
      refine lv_aload_n hx hb d_Par_head_61 rfl (lv_at hl 1 rfl) ?_
      refine lv_iconst (v := 2) hx hb d_Par_head_62 (by decide) ?_
      refine ly_callV (rest := []) (wf := [(h, .inr (11, [.ref script_h, .ref script_tokens_h, .ref script_conditions_h, .int r3.2, .int v_joints])), (script_tokens_h, .inr (7, [.ref script_tokens_a_kinds, .ref script_tokens_a_values, .ref script_tokens_a_places, .int script_tokens__size])), (script_tokens_a_kinds, .inl (gI G, 2001, .inl script_tokens_f_kinds)), (script_tokens_a_values, .inl (gI G, 2001, .inl script_tokens_f_values)), (one_h, .inr (9, [.int 2, .int 0, .int 0, .int 0, .int 1, .int 0, .int 0, .int 0]))]) ⟨hx, hb, hml, hown, hts⟩ hA hK hZ hP hD hS (c_Qu_begin l G one_h one__sort one__column one__low one__high one__by one__top one__start one__end 2) (cwV 1 hts g_Par_112 rfl rfl rfl (by decide +kernel) ⟨Nat.le_of_ble_eq_true rfl, Nat.le_of_ble_eq_true rfl⟩) (ci := 9) (q0 := 4) rfl rfl rfl [4] rfl (by decide) rfl rfl rfl hl.1 rfl (Nat.le_of_ble_eq_true rfl) d_Par_head_63 ⟨Nat.le_of_ble_eq_true rfl, Nat.le_of_ble_eq_true rfl⟩ (st1 := []) (c1 := 0) (s1 := 0) rfl rfl rfl (fun H locs hP hD hS => ?_)
      refine lv_aload_n hx hb d_Par_head_66 rfl (lv_at hl 0 rfl) ?_
      refine lv_aload_n hx hb d_Par_head_67 rfl (lv_at hl 1 rfl) ?_
      obtain ⟨r4, hr4⟩ : ∃ r, (s_Par_column script_tokens_f_kinds script_tokens_f_values r3.2) = r := ⟨_, rfl⟩
      have hC_r4 := (c_Par_column l G h script_h script_tokens_h script_tokens_a_kinds script_tokens_a_values script_tokens_a_places script_conditions_h one_h script_tokens_f_kinds script_tokens_f_values script_tokens__size r3.2 v_joints 2 0 0 0 1 0 0 0 hf_r3_1)
      rw [hr4] at hC_r4
      have hf_r4_1 : up r4.2.1 2001 := by rw [← hr4]; exact (k_col hf_r3_1)
      have hf_r4_2 : isB r4.1 := by rw [← hr4]; exact z_Par_column
      refine ly_callV (rest := []) (wf := [(h, .inr (11, [.ref script_h, .ref script_tokens_h, .ref script_conditions_h, .int r4.2.1, .int v_joints])), (script_tokens_h, .inr (7, [.ref script_tokens_a_kinds, .ref script_tokens_a_values, .ref script_tokens_a_places, .int script_tokens__size])), (script_tokens_a_kinds, .inl (gI G, 2001, .inl script_tokens_f_kinds)), (script_tokens_a_values, .inl (gI G, 2001, .inl script_tokens_f_values)), (one_h, .inr (9, [.int 2, .int r4.2.2, .int 0, .int 0, .int 1, .int 0, .int 0, .int 0]))]) ⟨hx, hb, hml, hown, hts⟩ hA hK hZ hP hD hS hC_r4 (cwV 1 hts g_Par_116 rfl rfl rfl (by decide +kernel) ⟨Nat.le_of_ble_eq_true rfl, Nat.le_of_ble_eq_true rfl⟩) (ci := 11) (q0 := 0) rfl rfl rfl [0, 1, 2, 3, 4] rfl (by decide) rfl rfl rfl hl.1 rfl (Nat.le_of_ble_eq_true rfl) d_Par_head_68 ⟨Nat.le_of_ble_eq_true rfl, Nat.le_of_ble_eq_true rfl⟩ (st1 := [.int r4.1]) (c1 := 0) (s1 := 0) rfl rfl rfl (fun H locs hP hD hS => ?_)
      refine lv_if_eq (tgt := 86) hx hb d_Par_head_71 (by decide) (fun c4 => ?_) (fun c4 => ?_)
      · skip
        refine lv_iconst (v := 0) hx hb d_Par_head_86 (by decide) ?_
        exact ly_zret hx hb hr hlocks hP hD hS d_Par_head_87 (by decide) (by rw [s_Par_head] <;> simp only [hr1, hr2, hr3, hr4] <;> rw [if_pos c1, if_pos c2, if_neg c3, if_pos c4]) (by rw [s_Par_head] <;> simp only [hr1, hr2, hr3, hr4] <;> rw [if_pos c1, if_pos c2, if_neg c3, if_pos c4])
      refine lv_aload_n hx hb d_Par_head_74 rfl (lv_at hl 0 rfl) ?_
      refine lv_aload_n hx hb d_Par_head_75 rfl (lv_at hl 1 rfl) ?_
      obtain ⟨r5, hr5⟩ : ∃ r, (s_Par_range script_tokens_f_kinds script_tokens_f_values r4.2.1 0 0) = r := ⟨_, rfl⟩
      have hC_r5 := (c_Par_range l G h script_h script_tokens_h script_tokens_a_kinds script_tokens_a_values script_tokens_a_places script_conditions_h one_h script_tokens_f_kinds script_tokens_f_values script_tokens__size r4.2.1 v_joints 2 r4.2.2 0 0 1 0 0 0 hf_r4_1)
      rw [hr5] at hC_r5
      have hf_r5_1 : isB r5.1 := by rw [← hr5]; exact z_Par_range
      refine ly_callV (rest := []) (wf := [(h, .inr (11, [.ref script_h, .ref script_tokens_h, .ref script_conditions_h, .int r5.2.1, .int v_joints])), (script_tokens_h, .inr (7, [.ref script_tokens_a_kinds, .ref script_tokens_a_values, .ref script_tokens_a_places, .int script_tokens__size])), (script_tokens_a_kinds, .inl (gI G, 2001, .inl script_tokens_f_kinds)), (script_tokens_a_values, .inl (gI G, 2001, .inl script_tokens_f_values)), (one_h, .inr (9, [.int 2, .int r4.2.2, .int r5.2.2.1, .int r5.2.2.2, .int 1, .int 0, .int 0, .int 0]))]) ⟨hx, hb, hml, hown, hts⟩ hA hK hZ hP hD hS hC_r5 (cwV 1 hts g_Par_122 rfl rfl rfl (by decide +kernel) ⟨Nat.le_of_ble_eq_true rfl, Nat.le_of_ble_eq_true rfl⟩) (ci := 11) (q0 := 0) rfl rfl rfl [0, 1, 2, 3, 4] rfl (by decide) rfl rfl rfl hl.1 rfl (Nat.le_of_ble_eq_true rfl) d_Par_head_76 ⟨Nat.le_of_ble_eq_true rfl, Nat.le_of_ble_eq_true rfl⟩ (st1 := [.int r5.1]) (c1 := 0) (s1 := 0) rfl rfl rfl (fun H locs hP hD hS => ?_)
      refine lv_if_eq (tgt := 86) hx hb d_Par_head_79 (by decide) (fun c5 => ?_) (fun c5 => ?_)
      · skip
        refine lv_iconst (v := 0) hx hb d_Par_head_86 (by decide) ?_
        exact ly_zret hx hb hr hlocks hP hD hS d_Par_head_87 (by decide) (by rw [s_Par_head] <;> simp only [hr1, hr2, hr3, hr4, hr5] <;> rw [if_pos c1, if_pos c2, if_neg c3, if_neg c4, if_pos c5]) (by rw [s_Par_head] <;> simp only [hr1, hr2, hr3, hr4, hr5] <;> rw [if_pos c1, if_pos c2, if_neg c3, if_neg c4, if_pos c5])
      refine lv_iconst (v := 1) hx hb d_Par_head_82 (by decide) ?_
      refine lv_goto (tgt := 87) hx hb d_Par_head_83 (by decide) ?_
      exact ly_zret hx hb hr hlocks hP hD hS d_Par_head_87 (by decide) (by rw [s_Par_head] <;> simp only [hr1, hr2, hr3, hr4, hr5] <;> rw [if_pos c1, if_pos c2, if_neg c3, if_neg c4, if_neg c5]) (by rw [s_Par_head] <;> simp only [hr1, hr2, hr3, hr4, hr5] <;> rw [if_pos c1, if_pos c2, if_neg c3, if_neg c4, if_neg c5])
    refine lv_aload_n hx hb d_Par_head_25 rfl (lv_at hl 1 rfl) ?_
    refine lv_iconst (v := 1) hx hb d_Par_head_26 (by decide) ?_
    refine ly_callV (rest := []) (wf := [(h, .inr (11, [.ref script_h, .ref script_tokens_h, .ref script_conditions_h, .int r2.2, .int v_joints])), (script_tokens_h, .inr (7, [.ref script_tokens_a_kinds, .ref script_tokens_a_values, .ref script_tokens_a_places, .int script_tokens__size])), (script_tokens_a_kinds, .inl (gI G, 2001, .inl script_tokens_f_kinds)), (script_tokens_a_values, .inl (gI G, 2001, .inl script_tokens_f_values)), (one_h, .inr (9, [.int 1, .int 0, .int 0, .int 0, .int 1, .int 0, .int 0, .int 0]))]) ⟨hx, hb, hml, hown, hts⟩ hA hK hZ hP hD hS (c_Qu_begin l G one_h one__sort one__column one__low one__high one__by one__top one__start one__end 1) (cwV 1 hts g_Par_112 rfl rfl rfl (by decide +kernel) ⟨Nat.le_of_ble_eq_true rfl, Nat.le_of_ble_eq_true rfl⟩) (ci := 9) (q0 := 4) rfl rfl rfl [4] rfl (by decide) rfl rfl rfl hl.1 rfl (Nat.le_of_ble_eq_true rfl) d_Par_head_27 ⟨Nat.le_of_ble_eq_true rfl, Nat.le_of_ble_eq_true rfl⟩ (st1 := []) (c1 := 0) (s1 := 0) rfl rfl rfl (fun H locs hP hD hS => ?_)
    refine lv_aload_n hx hb d_Par_head_30 rfl (lv_at hl 0 rfl) ?_
    refine lv_aload_n hx hb d_Par_head_31 rfl (lv_at hl 1 rfl) ?_
    obtain ⟨r6, hr6⟩ : ∃ r, (s_Par_column script_tokens_f_kinds script_tokens_f_values r2.2) = r := ⟨_, rfl⟩
    have hC_r6 := (c_Par_column l G h script_h script_tokens_h script_tokens_a_kinds script_tokens_a_values script_tokens_a_places script_conditions_h one_h script_tokens_f_kinds script_tokens_f_values script_tokens__size r2.2 v_joints 1 0 0 0 1 0 0 0 hf_r2_1)
    rw [hr6] at hC_r6
    have hf_r6_1 : up r6.2.1 2001 := by rw [← hr6]; exact (k_col hf_r2_1)
    have hf_r6_2 : isB r6.1 := by rw [← hr6]; exact z_Par_column
    refine ly_callV (rest := []) (wf := [(h, .inr (11, [.ref script_h, .ref script_tokens_h, .ref script_conditions_h, .int r6.2.1, .int v_joints])), (script_tokens_h, .inr (7, [.ref script_tokens_a_kinds, .ref script_tokens_a_values, .ref script_tokens_a_places, .int script_tokens__size])), (script_tokens_a_kinds, .inl (gI G, 2001, .inl script_tokens_f_kinds)), (script_tokens_a_values, .inl (gI G, 2001, .inl script_tokens_f_values)), (one_h, .inr (9, [.int 1, .int r6.2.2, .int 0, .int 0, .int 1, .int 0, .int 0, .int 0]))]) ⟨hx, hb, hml, hown, hts⟩ hA hK hZ hP hD hS hC_r6 (cwV 1 hts g_Par_116 rfl rfl rfl (by decide +kernel) ⟨Nat.le_of_ble_eq_true rfl, Nat.le_of_ble_eq_true rfl⟩) (ci := 11) (q0 := 0) rfl rfl rfl [0, 1, 2, 3, 4] rfl (by decide) rfl rfl rfl hl.1 rfl (Nat.le_of_ble_eq_true rfl) d_Par_head_32 ⟨Nat.le_of_ble_eq_true rfl, Nat.le_of_ble_eq_true rfl⟩ (st1 := [.int r6.1]) (c1 := 0) (s1 := 0) rfl rfl rfl (fun H locs hP hD hS => ?_)
    refine lv_if_eq (tgt := 50) hx hb d_Par_head_35 (by decide) (fun c6 => ?_) (fun c6 => ?_)
    · skip
      refine lv_iconst (v := 0) hx hb d_Par_head_50 (by decide) ?_
      exact ly_zret hx hb hr hlocks hP hD hS d_Par_head_51 (by decide) (by rw [s_Par_head] <;> simp only [hr1, hr2, hr6] <;> rw [if_pos c1, if_neg c2, if_pos c6]) (by rw [s_Par_head] <;> simp only [hr1, hr2, hr6] <;> rw [if_pos c1, if_neg c2, if_pos c6])
    refine lv_aload_n hx hb d_Par_head_38 rfl (lv_at hl 0 rfl) ?_
    refine lv_aload_n hx hb d_Par_head_39 rfl (lv_at hl 1 rfl) ?_
    obtain ⟨r7, hr7⟩ : ∃ r, (s_Par_bounds script_tokens_f_kinds script_tokens_f_values r6.2.1 0 1) = r := ⟨_, rfl⟩
    have hC_r7 := (c_Par_bounds l G h script_h script_tokens_h script_tokens_a_kinds script_tokens_a_values script_tokens_a_places script_conditions_h one_h script_tokens_f_kinds script_tokens_f_values script_tokens__size r6.2.1 v_joints 1 r6.2.2 0 0 1 0 0 0 hf_r6_1)
    rw [hr7] at hC_r7
    have hf_r7_1 : isB r7.1 := by rw [← hr7]; exact z_Par_bounds
    refine ly_callV (rest := []) (wf := [(h, .inr (11, [.ref script_h, .ref script_tokens_h, .ref script_conditions_h, .int r7.2.1, .int v_joints])), (script_tokens_h, .inr (7, [.ref script_tokens_a_kinds, .ref script_tokens_a_values, .ref script_tokens_a_places, .int script_tokens__size])), (script_tokens_a_kinds, .inl (gI G, 2001, .inl script_tokens_f_kinds)), (script_tokens_a_values, .inl (gI G, 2001, .inl script_tokens_f_values)), (one_h, .inr (9, [.int 1, .int r6.2.2, .int 0, .int r7.2.2.1, .int r7.2.2.2, .int 0, .int 0, .int 0]))]) ⟨hx, hb, hml, hown, hts⟩ hA hK hZ hP hD hS hC_r7 (cwV 1 hts g_Par_119 rfl rfl rfl (by decide +kernel) ⟨Nat.le_of_ble_eq_true rfl, Nat.le_of_ble_eq_true rfl⟩) (ci := 11) (q0 := 0) rfl rfl rfl [0, 1, 2, 3, 4] rfl (by decide) rfl rfl rfl hl.1 rfl (Nat.le_of_ble_eq_true rfl) d_Par_head_40 ⟨Nat.le_of_ble_eq_true rfl, Nat.le_of_ble_eq_true rfl⟩ (st1 := [.int r7.1]) (c1 := 0) (s1 := 0) rfl rfl rfl (fun H locs hP hD hS => ?_)
    refine lv_if_eq (tgt := 50) hx hb d_Par_head_43 (by decide) (fun c7 => ?_) (fun c7 => ?_)
    · skip
      refine lv_iconst (v := 0) hx hb d_Par_head_50 (by decide) ?_
      exact ly_zret hx hb hr hlocks hP hD hS d_Par_head_51 (by decide) (by rw [s_Par_head] <;> simp only [hr1, hr2, hr6, hr7] <;> rw [if_pos c1, if_neg c2, if_neg c6, if_pos c7]) (by rw [s_Par_head] <;> simp only [hr1, hr2, hr6, hr7] <;> rw [if_pos c1, if_neg c2, if_neg c6, if_pos c7])
    refine lv_iconst (v := 1) hx hb d_Par_head_46 (by decide) ?_
    refine lv_goto (tgt := 51) hx hb d_Par_head_47 (by decide) ?_
    exact ly_zret hx hb hr hlocks hP hD hS d_Par_head_51 (by decide) (by rw [s_Par_head] <;> simp only [hr1, hr2, hr6, hr7] <;> rw [if_pos c1, if_neg c2, if_neg c6, if_neg c7]) (by rw [s_Par_head] <;> simp only [hr1, hr2, hr6, hr7] <;> rw [if_pos c1, if_neg c2, if_neg c6, if_neg c7])
  refine lv_aload_n hx hb d_Par_head_9 rfl (lv_at hl 1 rfl) ?_
  refine lv_iconst (v := 0) hx hb d_Par_head_10 (by decide) ?_
  refine ly_callV (rest := []) (wf := [(h, .inr (11, [.ref script_h, .ref script_tokens_h, .ref script_conditions_h, .int r1.2, .int v_joints])), (script_tokens_h, .inr (7, [.ref script_tokens_a_kinds, .ref script_tokens_a_values, .ref script_tokens_a_places, .int script_tokens__size])), (script_tokens_a_kinds, .inl (gI G, 2001, .inl script_tokens_f_kinds)), (script_tokens_a_values, .inl (gI G, 2001, .inl script_tokens_f_values)), (one_h, .inr (9, [.int 0, .int 0, .int 0, .int 0, .int 1, .int 0, .int 0, .int 0]))]) ⟨hx, hb, hml, hown, hts⟩ hA hK hZ hP hD hS (c_Qu_begin l G one_h one__sort one__column one__low one__high one__by one__top one__start one__end 0) (cwV 1 hts g_Par_112 rfl rfl rfl (by decide +kernel) ⟨Nat.le_of_ble_eq_true rfl, Nat.le_of_ble_eq_true rfl⟩) (ci := 9) (q0 := 4) rfl rfl rfl [4] rfl (by decide) rfl rfl rfl hl.1 rfl (Nat.le_of_ble_eq_true rfl) d_Par_head_11 ⟨Nat.le_of_ble_eq_true rfl, Nat.le_of_ble_eq_true rfl⟩ (st1 := []) (c1 := 0) (s1 := 0) rfl rfl rfl (fun H locs hP hD hS => ?_)
  refine lv_iconst (v := 1) hx hb d_Par_head_14 (by decide) ?_
  exact ly_zret hx hb hr hlocks hP hD hS d_Par_head_15 (by decide) (by rw [s_Par_head] <;> simp only [hr1] <;> rw [if_neg c1]) (by rw [s_Par_head] <;> simp only [hr1] <;> rw [if_neg c1])
