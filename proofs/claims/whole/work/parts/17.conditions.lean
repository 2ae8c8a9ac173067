theorem d_Cond_size_0 : decode b_Cond_size 0 = .ok (.aload_n 0, 1) := by decide +kernel
theorem d_Cond_size_1 : decode b_Cond_size 1 = .ok (.getfield 18, 3) := by decide +kernel
theorem d_Cond_size_4 : decode b_Cond_size 4 = .ok (.ireturn, 1) := by decide +kernel
theorem d_Cond_clear_0 : decode b_Cond_clear 0 = .ok (.aload_n 0, 1) := by decide +kernel
theorem d_Cond_clear_1 : decode b_Cond_clear 1 = .ok (.iconst 0, 1) := by decide +kernel
theorem d_Cond_clear_2 : decode b_Cond_clear 2 = .ok (.putfield 18, 3) := by decide +kernel
theorem d_Cond_clear_5 : decode b_Cond_clear 5 = .ok (.return_, 1) := by decide +kernel
theorem d_Cond_add_0 : decode b_Cond_add 0 = .ok (.aload_n 0, 1) := by decide +kernel
theorem d_Cond_add_1 : decode b_Cond_add 1 = .ok (.getfield 18, 3) := by decide +kernel
theorem d_Cond_add_4 : decode b_Cond_add 4 = .ok (.aload_n 0, 1) := by decide +kernel
theorem d_Cond_add_5 : decode b_Cond_add 5 = .ok (.getfield 11, 3) := by decide +kernel
theorem d_Cond_add_8 : decode b_Cond_add 8 = .ok (.arraylength, 1) := by decide +kernel
theorem d_Cond_add_9 : decode b_Cond_add 9 = .ok (.if_icmp .ge 45, 3) := by decide +kernel
theorem d_Cond_add_12 : decode b_Cond_add 12 = .ok (.aload_n 0, 1) := by decide +kernel
theorem d_Cond_add_13 : decode b_Cond_add 13 = .ok (.getfield 18, 3) := by decide +kernel
theorem d_Cond_add_16 : decode b_Cond_add 16 = .ok (.aload_n 0, 1) := by decide +kernel
theorem d_Cond_add_17 : decode b_Cond_add 17 = .ok (.getfield 15, 3) := by decide +kernel
theorem d_Cond_add_20 : decode b_Cond_add 20 = .ok (.arraylength, 1) := by decide +kernel
theorem d_Cond_add_21 : decode b_Cond_add 21 = .ok (.if_icmp .ge 33, 3) := by decide +kernel
theorem d_Cond_add_24 : decode b_Cond_add 24 = .ok (.aload_n 0, 1) := by decide +kernel
theorem d_Cond_add_25 : decode b_Cond_add 25 = .ok (.getfield 11, 3) := by decide +kernel
theorem d_Cond_add_28 : decode b_Cond_add 28 = .ok (.aload_n 0, 1) := by decide +kernel
theorem d_Cond_add_29 : decode b_Cond_add 29 = .ok (.getfield 18, 3) := by decide +kernel
theorem d_Cond_add_32 : decode b_Cond_add 32 = .ok (.iload_n 1, 1) := by decide +kernel
theorem d_Cond_add_33 : decode b_Cond_add 33 = .ok (.iastore, 1) := by decide +kernel
theorem d_Cond_add_34 : decode b_Cond_add 34 = .ok (.aload_n 0, 1) := by decide +kernel
theorem d_Cond_add_35 : decode b_Cond_add 35 = .ok (.getfield 15, 3) := by decide +kernel
theorem d_Cond_add_38 : decode b_Cond_add 38 = .ok (.aload_n 0, 1) := by decide +kernel
theorem d_Cond_add_39 : decode b_Cond_add 39 = .ok (.getfield 18, 3) := by decide +kernel
theorem d_Cond_add_42 : decode b_Cond_add 42 = .ok (.iload_n 2, 1) := by decide +kernel
theorem d_Cond_add_43 : decode b_Cond_add 43 = .ok (.iastore, 1) := by decide +kernel
theorem d_Cond_add_44 : decode b_Cond_add 44 = .ok (.aload_n 0, 1) := by decide +kernel
theorem d_Cond_add_45 : decode b_Cond_add 45 = .ok (.dup, 1) := by decide +kernel
theorem d_Cond_add_46 : decode b_Cond_add 46 = .ok (.getfield 18, 3) := by decide +kernel
theorem d_Cond_add_49 : decode b_Cond_add 49 = .ok (.iconst 1, 1) := by decide +kernel
theorem d_Cond_add_50 : decode b_Cond_add 50 = .ok (.iadd, 1) := by decide +kernel
theorem d_Cond_add_51 : decode b_Cond_add 51 = .ok (.putfield 18, 3) := by decide +kernel
theorem d_Cond_add_54 : decode b_Cond_add 54 = .ok (.return_, 1) := by decide +kernel
theorem d_Cond_settle_0 : decode b_Cond_settle 0 = .ok (.iload_n 1, 1) := by decide +kernel
theorem d_Cond_settle_1 : decode b_Cond_settle 1 = .ok (.ifCond .lt 19, 3) := by decide +kernel
theorem d_Cond_settle_4 : decode b_Cond_settle 4 = .ok (.iload_n 1, 1) := by decide +kernel
theorem d_Cond_settle_5 : decode b_Cond_settle 5 = .ok (.aload_n 0, 1) := by decide +kernel
theorem d_Cond_settle_6 : decode b_Cond_settle 6 = .ok (.getfield 30, 3) := by decide +kernel
theorem d_Cond_settle_9 : decode b_Cond_settle 9 = .ok (.arraylength, 1) := by decide +kernel
theorem d_Cond_settle_10 : decode b_Cond_settle 10 = .ok (.if_icmp .ge 10, 3) := by decide +kernel
theorem d_Cond_settle_13 : decode b_Cond_settle 13 = .ok (.aload_n 0, 1) := by decide +kernel
theorem d_Cond_settle_14 : decode b_Cond_settle 14 = .ok (.getfield 30, 3) := by decide +kernel
theorem d_Cond_settle_17 : decode b_Cond_settle 17 = .ok (.iload_n 1, 1) := by decide +kernel
theorem d_Cond_settle_18 : decode b_Cond_settle 18 = .ok (.iload_n 2, 1) := by decide +kernel
theorem d_Cond_settle_19 : decode b_Cond_settle 19 = .ok (.bastore, 1) := by decide +kernel
theorem d_Cond_settle_20 : decode b_Cond_settle 20 = .ok (.return_, 1) := by decide +kernel
theorem d_Cond_push_0 : decode b_Cond_push 0 = .ok (.aload_n 0, 1) := by decide +kernel
theorem d_Cond_push_1 : decode b_Cond_push 1 = .ok (.getfield 25, 3) := by decide +kernel
theorem d_Cond_push_4 : decode b_Cond_push 4 = .ok (.aload_n 0, 1) := by decide +kernel
theorem d_Cond_push_5 : decode b_Cond_push 5 = .ok (.getfield 22, 3) := by decide +kernel
theorem d_Cond_push_8 : decode b_Cond_push 8 = .ok (.arraylength, 1) := by decide +kernel
theorem d_Cond_push_9 : decode b_Cond_push 9 = .ok (.if_icmp .ge 23, 3) := by decide +kernel
theorem d_Cond_push_12 : decode b_Cond_push 12 = .ok (.aload_n 0, 1) := by decide +kernel
theorem d_Cond_push_13 : decode b_Cond_push 13 = .ok (.getfield 22, 3) := by decide +kernel
theorem d_Cond_push_16 : decode b_Cond_push 16 = .ok (.aload_n 0, 1) := by decide +kernel
theorem d_Cond_push_17 : decode b_Cond_push 17 = .ok (.getfield 25, 3) := by decide +kernel
theorem d_Cond_push_20 : decode b_Cond_push 20 = .ok (.iload_n 1, 1) := by decide +kernel
theorem d_Cond_push_21 : decode b_Cond_push 21 = .ok (.iastore, 1) := by decide +kernel
theorem d_Cond_push_22 : decode b_Cond_push 22 = .ok (.aload_n 0, 1) := by decide +kernel
theorem d_Cond_push_23 : decode b_Cond_push 23 = .ok (.dup, 1) := by decide +kernel
theorem d_Cond_push_24 : decode b_Cond_push 24 = .ok (.getfield 25, 3) := by decide +kernel
theorem d_Cond_push_27 : decode b_Cond_push 27 = .ok (.iconst 1, 1) := by decide +kernel
theorem d_Cond_push_28 : decode b_Cond_push 28 = .ok (.iadd, 1) := by decide +kernel
theorem d_Cond_push_29 : decode b_Cond_push 29 = .ok (.putfield 25, 3) := by decide +kernel
theorem d_Cond_push_32 : decode b_Cond_push 32 = .ok (.return_, 1) := by decide +kernel
theorem d_Cond_pop_0 : decode b_Cond_pop 0 = .ok (.aload_n 0, 1) := by decide +kernel
theorem d_Cond_pop_1 : decode b_Cond_pop 1 = .ok (.getfield 25, 3) := by decide +kernel
theorem d_Cond_pop_4 : decode b_Cond_pop 4 = .ok (.iconst 1, 1) := by decide +kernel
theorem d_Cond_pop_5 : decode b_Cond_pop 5 = .ok (.if_icmp .lt 15, 3) := by decide +kernel
theorem d_Cond_pop_8 : decode b_Cond_pop 8 = .ok (.aload_n 0, 1) := by decide +kernel
theorem d_Cond_pop_9 : decode b_Cond_pop 9 = .ok (.getfield 25, 3) := by decide +kernel
theorem d_Cond_pop_12 : decode b_Cond_pop 12 = .ok (.aload_n 0, 1) := by decide +kernel
theorem d_Cond_pop_13 : decode b_Cond_pop 13 = .ok (.getfield 22, 3) := by decide +kernel
theorem d_Cond_pop_16 : decode b_Cond_pop 16 = .ok (.arraylength, 1) := by decide +kernel
theorem d_Cond_pop_17 : decode b_Cond_pop 17 = .ok (.if_icmp .le 5, 3) := by decide +kernel
theorem d_Cond_pop_20 : decode b_Cond_pop 20 = .ok (.iconst 0, 1) := by decide +kernel
theorem d_Cond_pop_21 : decode b_Cond_pop 21 = .ok (.ireturn, 1) := by decide +kernel
theorem d_Cond_pop_22 : decode b_Cond_pop 22 = .ok (.aload_n 0, 1) := by decide +kernel
theorem d_Cond_pop_23 : decode b_Cond_pop 23 = .ok (.dup, 1) := by decide +kernel
theorem d_Cond_pop_24 : decode b_Cond_pop 24 = .ok (.getfield 25, 3) := by decide +kernel
theorem d_Cond_pop_27 : decode b_Cond_pop 27 = .ok (.iconst 1, 1) := by decide +kernel
theorem d_Cond_pop_28 : decode b_Cond_pop 28 = .ok (.isub, 1) := by decide +kernel
theorem d_Cond_pop_29 : decode b_Cond_pop 29 = .ok (.putfield 25, 3) := by decide +kernel
theorem d_Cond_pop_32 : decode b_Cond_pop 32 = .ok (.aload_n 0, 1) := by decide +kernel
theorem d_Cond_pop_33 : decode b_Cond_pop 33 = .ok (.getfield 22, 3) := by decide +kernel
theorem d_Cond_pop_36 : decode b_Cond_pop 36 = .ok (.aload_n 0, 1) := by decide +kernel
theorem d_Cond_pop_37 : decode b_Cond_pop 37 = .ok (.getfield 25, 3) := by decide +kernel
theorem d_Cond_pop_40 : decode b_Cond_pop 40 = .ok (.iaload, 1) := by decide +kernel
theorem d_Cond_pop_41 : decode b_Cond_pop 41 = .ok (.ireturn, 1) := by decide +kernel
theorem d_Cond_compares_0 : decode b_Cond_compares 0 = .ok (.iload_n 0, 1) := by decide +kernel
theorem d_Cond_compares_1 : decode b_Cond_compares 1 = .ok (.tableswitch 94 17 22 #[61, 72, 94, 39, 50, 83], 39) := by decide +kernel
theorem d_Cond_compares_40 : decode b_Cond_compares 40 = .ok (.iload_n 1, 1) := by decide +kernel
theorem d_Cond_compares_41 : decode b_Cond_compares 41 = .ok (.iload_n 2, 1) := by decide +kernel
theorem d_Cond_compares_42 : decode b_Cond_compares 42 = .ok (.if_icmp .ge 7, 3) := by decide +kernel
theorem d_Cond_compares_45 : decode b_Cond_compares 45 = .ok (.iconst 1, 1) := by decide +kernel
theorem d_Cond_compares_46 : decode b_Cond_compares 46 = .ok (.goto 4, 3) := by decide +kernel
theorem d_Cond_compares_49 : decode b_Cond_compares 49 = .ok (.iconst 0, 1) := by decide +kernel
theorem d_Cond_compares_50 : decode b_Cond_compares 50 = .ok (.ireturn, 1) := by decide +kernel
theorem d_Cond_compares_51 : decode b_Cond_compares 51 = .ok (.iload_n 1, 1) := by decide +kernel
theorem d_Cond_compares_52 : decode b_Cond_compares 52 = .ok (.iload_n 2, 1) := by decide +kernel
theorem d_Cond_compares_53 : decode b_Cond_compares 53 = .ok (.if_icmp .le 7, 3) := by decide +kernel
theorem d_Cond_compares_56 : decode b_Cond_compares 56 = .ok (.iconst 1, 1) := by decide +kernel
theorem d_Cond_compares_57 : decode b_Cond_compares 57 = .ok (.goto 4, 3) := by decide +kernel
theorem d_Cond_compares_60 : decode b_Cond_compares 60 = .ok (.iconst 0, 1) := by decide +kernel
theorem d_Cond_compares_61 : decode b_Cond_compares 61 = .ok (.ireturn, 1) := by decide +kernel
theorem d_Cond_compares_62 : decode b_Cond_compares 62 = .ok (.iload_n 1, 1) := by decide +kernel
theorem d_Cond_compares_63 : decode b_Cond_compares 63 = .ok (.iload_n 2, 1) := by decide +kernel
theorem d_Cond_compares_64 : decode b_Cond_compares 64 = .ok (.if_icmp .gt 7, 3) := by decide +kernel
theorem d_Cond_compares_67 : decode b_Cond_compares 67 = .ok (.iconst 1, 1) := by decide +kernel
theorem d_Cond_compares_68 : decode b_Cond_compares 68 = .ok (.goto 4, 3) := by decide +kernel
theorem d_Cond_compares_71 : decode b_Cond_compares 71 = .ok (.iconst 0, 1) := by decide +kernel
theorem d_Cond_compares_72 : decode b_Cond_compares 72 = .ok (.ireturn, 1) := by decide +kernel
theorem d_Cond_compares_73 : decode b_Cond_compares 73 = .ok (.iload_n 1, 1) := by decide +kernel
theorem d_Cond_compares_74 : decode b_Cond_compares 74 = .ok (.iload_n 2, 1) := by decide +kernel
theorem d_Cond_compares_75 : decode b_Cond_compares 75 = .ok (.if_icmp .lt 7, 3) := by decide +kernel
theorem d_Cond_compares_78 : decode b_Cond_compares 78 = .ok (.iconst 1, 1) := by decide +kernel
theorem d_Cond_compares_79 : decode b_Cond_compares 79 = .ok (.goto 4, 3) := by decide +kernel
theorem d_Cond_compares_82 : decode b_Cond_compares 82 = .ok (.iconst 0, 1) := by decide +kernel
theorem d_Cond_compares_83 : decode b_Cond_compares 83 = .ok (.ireturn, 1) := by decide +kernel
theorem d_Cond_compares_84 : decode b_Cond_compares 84 = .ok (.iload_n 1, 1) := by decide +kernel
theorem d_Cond_compares_85 : decode b_Cond_compares 85 = .ok (.iload_n 2, 1) := by decide +kernel
theorem d_Cond_compares_86 : decode b_Cond_compares 86 = .ok (.if_icmp .ne 7, 3) := by decide +kernel
theorem d_Cond_compares_89 : decode b_Cond_compares 89 = .ok (.iconst 1, 1) := by decide +kernel
theorem d_Cond_compares_90 : decode b_Cond_compares 90 = .ok (.goto 4, 3) := by decide +kernel
theorem d_Cond_compares_93 : decode b_Cond_compares 93 = .ok (.iconst 0, 1) := by decide +kernel
theorem d_Cond_compares_94 : decode b_Cond_compares 94 = .ok (.ireturn, 1) := by decide +kernel
theorem d_Cond_compares_95 : decode b_Cond_compares 95 = .ok (.iload_n 1, 1) := by decide +kernel
theorem d_Cond_compares_96 : decode b_Cond_compares 96 = .ok (.iload_n 2, 1) := by decide +kernel
theorem d_Cond_compares_97 : decode b_Cond_compares 97 = .ok (.if_icmp .eq 7, 3) := by decide +kernel
theorem d_Cond_compares_100 : decode b_Cond_compares 100 = .ok (.iconst 1, 1) := by decide +kernel
theorem d_Cond_compares_101 : decode b_Cond_compares 101 = .ok (.goto 4, 3) := by decide +kernel
theorem d_Cond_compares_104 : decode b_Cond_compares 104 = .ok (.iconst 0, 1) := by decide +kernel
theorem d_Cond_compares_105 : decode b_Cond_compares 105 = .ok (.ireturn, 1) := by decide +kernel
theorem d_Cond_joined_0 : decode b_Cond_joined 0 = .ok (.iload_n 0, 1) := by decide +kernel
theorem d_Cond_joined_1 : decode b_Cond_joined 1 = .ok (.tableswitch 83 14 25 #[75, 79, 83, 83, 83, 83, 83, 83, 83, 63, 67, 71], 63) := by decide +kernel
theorem d_Cond_joined_64 : decode b_Cond_joined 64 = .ok (.iload_n 1, 1) := by decide +kernel
theorem d_Cond_joined_65 : decode b_Cond_joined 65 = .ok (.iload_n 2, 1) := by decide +kernel
theorem d_Cond_joined_66 : decode b_Cond_joined 66 = .ok (.iadd, 1) := by decide +kernel
theorem d_Cond_joined_67 : decode b_Cond_joined 67 = .ok (.ireturn, 1) := by decide +kernel
theorem d_Cond_joined_68 : decode b_Cond_joined 68 = .ok (.iload_n 1, 1) := by decide +kernel
theorem d_Cond_joined_69 : decode b_Cond_joined 69 = .ok (.iload_n 2, 1) := by decide +kernel
theorem d_Cond_joined_70 : decode b_Cond_joined 70 = .ok (.isub, 1) := by decide +kernel
theorem d_Cond_joined_71 : decode b_Cond_joined 71 = .ok (.ireturn, 1) := by decide +kernel
theorem d_Cond_joined_72 : decode b_Cond_joined 72 = .ok (.iload_n 1, 1) := by decide +kernel
theorem d_Cond_joined_73 : decode b_Cond_joined 73 = .ok (.iload_n 2, 1) := by decide +kernel
theorem d_Cond_joined_74 : decode b_Cond_joined 74 = .ok (.imul, 1) := by decide +kernel
theorem d_Cond_joined_75 : decode b_Cond_joined 75 = .ok (.ireturn, 1) := by decide +kernel
theorem d_Cond_joined_76 : decode b_Cond_joined 76 = .ok (.iload_n 1, 1) := by decide +kernel
theorem d_Cond_joined_77 : decode b_Cond_joined 77 = .ok (.iload_n 2, 1) := by decide +kernel
theorem d_Cond_joined_78 : decode b_Cond_joined 78 = .ok (.iand, 1) := by decide +kernel
theorem d_Cond_joined_79 : decode b_Cond_joined 79 = .ok (.ireturn, 1) := by decide +kernel
theorem d_Cond_joined_80 : decode b_Cond_joined 80 = .ok (.iload_n 1, 1) := by decide +kernel
theorem d_Cond_joined_81 : decode b_Cond_joined 81 = .ok (.iload_n 2, 1) := by decide +kernel
theorem d_Cond_joined_82 : decode b_Cond_joined 82 = .ok (.ior, 1) := by decide +kernel
theorem d_Cond_joined_83 : decode b_Cond_joined 83 = .ok (.ireturn, 1) := by decide +kernel
theorem d_Cond_joined_84 : decode b_Cond_joined 84 = .ok (.iload_n 0, 1) := by decide +kernel
theorem d_Cond_joined_85 : decode b_Cond_joined 85 = .ok (.iload_n 1, 1) := by decide +kernel
theorem d_Cond_joined_86 : decode b_Cond_joined 86 = .ok (.iload_n 2, 1) := by decide +kernel
theorem d_Cond_joined_87 : decode b_Cond_joined 87 = .ok (.invokestatic 61, 3) := by decide +kernel
theorem d_Cond_joined_90 : decode b_Cond_joined 90 = .ok (.ifCond .eq 7, 3) := by decide +kernel
theorem d_Cond_joined_93 : decode b_Cond_joined 93 = .ok (.iconst 1, 1) := by decide +kernel
theorem d_Cond_joined_94 : decode b_Cond_joined 94 = .ok (.goto 4, 3) := by decide +kernel
theorem d_Cond_joined_97 : decode b_Cond_joined 97 = .ok (.iconst 0, 1) := by decide +kernel
theorem d_Cond_joined_98 : decode b_Cond_joined 98 = .ok (.ireturn, 1) := by decide +kernel
theorem d_Cond_take_0 : decode b_Cond_take 0 = .ok (.iload_n 1, 1) := by decide +kernel
theorem d_Cond_take_1 : decode b_Cond_take 1 = .ok (.lookupswitch 132 #[((-1), 107), (2, 51), (3, 59), (4, 73), (16, 119)], 51) := by decide +kernel
theorem d_Cond_take_52 : decode b_Cond_take 52 = .ok (.aload_n 0, 1) := by decide +kernel
theorem d_Cond_take_53 : decode b_Cond_take 53 = .ok (.iload_n 2, 1) := by decide +kernel
theorem d_Cond_take_54 : decode b_Cond_take 54 = .ok (.invokevirtual 48, 3) := by decide +kernel
theorem d_Cond_take_57 : decode b_Cond_take 57 = .ok (.goto 100, 3) := by decide +kernel
theorem d_Cond_take_60 : decode b_Cond_take 60 = .ok (.aload_n 0, 1) := by decide +kernel
theorem d_Cond_take_61 : decode b_Cond_take 61 = .ok (.aload_n 3, 1) := by decide +kernel
theorem d_Cond_take_62 : decode b_Cond_take 62 = .ok (.iload 4, 2) := by decide +kernel
theorem d_Cond_take_64 : decode b_Cond_take 64 = .ok (.iload_n 2, 1) := by decide +kernel
theorem d_Cond_take_65 : decode b_Cond_take 65 = .ok (.invokevirtual 52, 3) := by decide +kernel
theorem d_Cond_take_68 : decode b_Cond_take 68 = .ok (.invokevirtual 48, 3) := by decide +kernel
theorem d_Cond_take_71 : decode b_Cond_take 71 = .ok (.goto 86, 3) := by decide +kernel
theorem d_Cond_take_74 : decode b_Cond_take 74 = .ok (.aload_n 0, 1) := by decide +kernel
theorem d_Cond_take_75 : decode b_Cond_take 75 = .ok (.iload_n 2, 1) := by decide +kernel
theorem d_Cond_take_76 : decode b_Cond_take 76 = .ok (.ifCond .lt 25, 3) := by decide +kernel
theorem d_Cond_take_79 : decode b_Cond_take 79 = .ok (.iload_n 2, 1) := by decide +kernel
theorem d_Cond_take_80 : decode b_Cond_take 80 = .ok (.aload_n 0, 1) := by decide +kernel
theorem d_Cond_take_81 : decode b_Cond_take 81 = .ok (.getfield 30, 3) := by decide +kernel
theorem d_Cond_take_84 : decode b_Cond_take 84 = .ok (.arraylength, 1) := by decide +kernel
theorem d_Cond_take_85 : decode b_Cond_take 85 = .ok (.if_icmp .ge 16, 3) := by decide +kernel
theorem d_Cond_take_88 : decode b_Cond_take 88 = .ok (.aload_n 0, 1) := by decide +kernel
theorem d_Cond_take_89 : decode b_Cond_take 89 = .ok (.getfield 30, 3) := by decide +kernel
theorem d_Cond_take_92 : decode b_Cond_take 92 = .ok (.iload_n 2, 1) := by decide +kernel
theorem d_Cond_take_93 : decode b_Cond_take 93 = .ok (.baload, 1) := by decide +kernel
theorem d_Cond_take_94 : decode b_Cond_take 94 = .ok (.ifCond .eq 7, 3) := by decide +kernel
theorem d_Cond_take_97 : decode b_Cond_take 97 = .ok (.iconst 1, 1) := by decide +kernel
theorem d_Cond_take_98 : decode b_Cond_take 98 = .ok (.goto 4, 3) := by decide +kernel
theorem d_Cond_take_101 : decode b_Cond_take 101 = .ok (.iconst 0, 1) := by decide +kernel
theorem d_Cond_take_102 : decode b_Cond_take 102 = .ok (.invokevirtual 48, 3) := by decide +kernel
theorem d_Cond_take_105 : decode b_Cond_take 105 = .ok (.goto 52, 3) := by decide +kernel
theorem d_Cond_take_108 : decode b_Cond_take 108 = .ok (.aload_n 0, 1) := by decide +kernel
theorem d_Cond_take_109 : decode b_Cond_take 109 = .ok (.aload_n 0, 1) := by decide +kernel
theorem d_Cond_take_110 : decode b_Cond_take 110 = .ok (.invokevirtual 44, 3) := by decide +kernel
theorem d_Cond_take_113 : decode b_Cond_take 113 = .ok (.ineg, 1) := by decide +kernel
theorem d_Cond_take_114 : decode b_Cond_take 114 = .ok (.invokevirtual 48, 3) := by decide +kernel
theorem d_Cond_take_117 : decode b_Cond_take 117 = .ok (.goto 40, 3) := by decide +kernel
theorem d_Cond_take_120 : decode b_Cond_take 120 = .ok (.aload_n 0, 1) := by decide +kernel
theorem d_Cond_take_121 : decode b_Cond_take 121 = .ok (.iconst 1, 1) := by decide +kernel
theorem d_Cond_take_122 : decode b_Cond_take 122 = .ok (.aload_n 0, 1) := by decide +kernel
theorem d_Cond_take_123 : decode b_Cond_take 123 = .ok (.invokevirtual 44, 3) := by decide +kernel
theorem d_Cond_take_126 : decode b_Cond_take 126 = .ok (.isub, 1) := by decide +kernel
theorem d_Cond_take_127 : decode b_Cond_take 127 = .ok (.invokevirtual 48, 3) := by decide +kernel
theorem d_Cond_take_130 : decode b_Cond_take 130 = .ok (.goto 27, 3) := by decide +kernel
theorem d_Cond_take_133 : decode b_Cond_take 133 = .ok (.aload_n 0, 1) := by decide +kernel
theorem d_Cond_take_134 : decode b_Cond_take 134 = .ok (.invokevirtual 44, 3) := by decide +kernel
theorem d_Cond_take_137 : decode b_Cond_take 137 = .ok (.istore 5, 2) := by decide +kernel
theorem d_Cond_take_139 : decode b_Cond_take 139 = .ok (.aload_n 0, 1) := by decide +kernel
theorem d_Cond_take_140 : decode b_Cond_take 140 = .ok (.invokevirtual 44, 3) := by decide +kernel
theorem d_Cond_take_143 : decode b_Cond_take 143 = .ok (.istore 6, 2) := by decide +kernel
theorem d_Cond_take_145 : decode b_Cond_take 145 = .ok (.aload_n 0, 1) := by decide +kernel
theorem d_Cond_take_146 : decode b_Cond_take 146 = .ok (.iload_n 1, 1) := by decide +kernel
theorem d_Cond_take_147 : decode b_Cond_take 147 = .ok (.iload 6, 2) := by decide +kernel
theorem d_Cond_take_149 : decode b_Cond_take 149 = .ok (.iload 5, 2) := by decide +kernel
theorem d_Cond_take_151 : decode b_Cond_take 151 = .ok (.invokestatic 57, 3) := by decide +kernel
theorem d_Cond_take_154 : decode b_Cond_take 154 = .ok (.invokevirtual 48, 3) := by decide +kernel
theorem d_Cond_take_157 : decode b_Cond_take 157 = .ok (.return_, 1) := by decide +kernel
theorem d_Cond_hold_0 : decode b_Cond_hold 0 = .ok (.iload_n 1, 1) := by decide +kernel
theorem d_Cond_hold_1 : decode b_Cond_hold 1 = .ok (.iload_n 2, 1) := by decide +kernel
theorem d_Cond_hold_2 : decode b_Cond_hold 2 = .ok (.if_icmp .lt 5, 3) := by decide +kernel
theorem d_Cond_hold_5 : decode b_Cond_hold 5 = .ok (.iconst 1, 1) := by decide +kernel
theorem d_Cond_hold_6 : decode b_Cond_hold 6 = .ok (.ireturn, 1) := by decide +kernel
theorem d_Cond_hold_7 : decode b_Cond_hold 7 = .ok (.aload_n 0, 1) := by decide +kernel
theorem d_Cond_hold_8 : decode b_Cond_hold 8 = .ok (.iconst 0, 1) := by decide +kernel
theorem d_Cond_hold_9 : decode b_Cond_hold 9 = .ok (.putfield 25, 3) := by decide +kernel
theorem d_Cond_hold_12 : decode b_Cond_hold 12 = .ok (.iload_n 1, 1) := by decide +kernel
theorem d_Cond_hold_13 : decode b_Cond_hold 13 = .ok (.iconst 0, 1) := by decide +kernel
theorem d_Cond_hold_14 : decode b_Cond_hold 14 = .ok (.invokestatic 34, 3) := by decide +kernel
theorem d_Cond_hold_17 : decode b_Cond_hold 17 = .ok (.istore 5, 2) := by decide +kernel
theorem d_Cond_hold_19 : decode b_Cond_hold 19 = .ok (.iload 5, 2) := by decide +kernel
theorem d_Cond_hold_21 : decode b_Cond_hold 21 = .ok (.iload_n 2, 1) := by decide +kernel
theorem d_Cond_hold_22 : decode b_Cond_hold 22 = .ok (.if_icmp .ge 50, 3) := by decide +kernel
theorem d_Cond_hold_25 : decode b_Cond_hold 25 = .ok (.iload 5, 2) := by decide +kernel
theorem d_Cond_hold_27 : decode b_Cond_hold 27 = .ok (.aload_n 0, 1) := by decide +kernel
theorem d_Cond_hold_28 : decode b_Cond_hold 28 = .ok (.getfield 11, 3) := by decide +kernel
theorem d_Cond_hold_31 : decode b_Cond_hold 31 = .ok (.arraylength, 1) := by decide +kernel
theorem d_Cond_hold_32 : decode b_Cond_hold 32 = .ok (.if_icmp .ge 40, 3) := by decide +kernel
theorem d_Cond_hold_35 : decode b_Cond_hold 35 = .ok (.iload 5, 2) := by decide +kernel
theorem d_Cond_hold_37 : decode b_Cond_hold 37 = .ok (.aload_n 0, 1) := by decide +kernel
theorem d_Cond_hold_38 : decode b_Cond_hold 38 = .ok (.getfield 15, 3) := by decide +kernel
theorem d_Cond_hold_41 : decode b_Cond_hold 41 = .ok (.arraylength, 1) := by decide +kernel
theorem d_Cond_hold_42 : decode b_Cond_hold 42 = .ok (.if_icmp .ge 30, 3) := by decide +kernel
theorem d_Cond_hold_45 : decode b_Cond_hold 45 = .ok (.aload_n 0, 1) := by decide +kernel
theorem d_Cond_hold_46 : decode b_Cond_hold 46 = .ok (.aload_n 0, 1) := by decide +kernel
theorem d_Cond_hold_47 : decode b_Cond_hold 47 = .ok (.getfield 11, 3) := by decide +kernel
theorem d_Cond_hold_50 : decode b_Cond_hold 50 = .ok (.iload 5, 2) := by decide +kernel
theorem d_Cond_hold_52 : decode b_Cond_hold 52 = .ok (.iaload, 1) := by decide +kernel
theorem d_Cond_hold_53 : decode b_Cond_hold 53 = .ok (.aload_n 0, 1) := by decide +kernel
theorem d_Cond_hold_54 : decode b_Cond_hold 54 = .ok (.getfield 15, 3) := by decide +kernel
theorem d_Cond_hold_57 : decode b_Cond_hold 57 = .ok (.iload 5, 2) := by decide +kernel
theorem d_Cond_hold_59 : decode b_Cond_hold 59 = .ok (.iaload, 1) := by decide +kernel
theorem d_Cond_hold_60 : decode b_Cond_hold 60 = .ok (.aload_n 3, 1) := by decide +kernel
theorem d_Cond_hold_61 : decode b_Cond_hold 61 = .ok (.iload 4, 2) := by decide +kernel
theorem d_Cond_hold_63 : decode b_Cond_hold 63 = .ok (.invokevirtual 40, 3) := by decide +kernel
theorem d_Cond_hold_66 : decode b_Cond_hold 66 = .ok (.iinc 5 1, 3) := by decide +kernel
theorem d_Cond_hold_69 : decode b_Cond_hold 69 = .ok (.goto (-50), 3) := by decide +kernel
theorem d_Cond_hold_72 : decode b_Cond_hold 72 = .ok (.aload_n 0, 1) := by decide +kernel
theorem d_Cond_hold_73 : decode b_Cond_hold 73 = .ok (.invokevirtual 44, 3) := by decide +kernel
theorem d_Cond_hold_76 : decode b_Cond_hold 76 = .ok (.ifCond .eq 7, 3) := by decide +kernel
theorem d_Cond_hold_79 : decode b_Cond_hold 79 = .ok (.iconst 1, 1) := by decide +kernel
theorem d_Cond_hold_80 : decode b_Cond_hold 80 = .ok (.goto 4, 3) := by decide +kernel
theorem d_Cond_hold_83 : decode b_Cond_hold 83 = .ok (.iconst 0, 1) := by decide +kernel
theorem d_Cond_hold_84 : decode b_Cond_hold 84 = .ok (.ireturn, 1) := by decide +kernel
theorem k_76 : (.fieldLink R_Cond 18 "PrivateQueries$Conditions" "size" "I" : Cond) ∈ wG := wGm 244 (by decide +kernel) (by decide +kernel)
theorem k_77 : (.fieldLink R_Cond 11 "PrivateQueries$Conditions" "steps" "[I" : Cond) ∈ wG := wGm 242 (by decide +kernel) (by decide +kernel)
theorem k_78 : (.fieldLink R_Cond 15 "PrivateQueries$Conditions" "values" "[I" : Cond) ∈ wG := wGm 243 (by decide +kernel) (by decide +kernel)
theorem k_79 : (.fieldLink R_Cond 30 "PrivateQueries$Conditions" "holding" "[Z" : Cond) ∈ wG := wGm 247 (by decide +kernel) (by decide +kernel)
theorem k_80 : (.fieldLink R_Cond 25 "PrivateQueries$Conditions" "height" "I" : Cond) ∈ wG := wGm 246 (by decide +kernel) (by decide +kernel)
theorem k_81 : (.fieldLink R_Cond 22 "PrivateQueries$Conditions" "stack" "[I" : Cond) ∈ wG := wGm 245 (by decide +kernel) (by decide +kernel)
theorem k_82 : (.methodLink R_Cond 61 y_Cond_compares : Cond) ∈ wG := wGm 812 (by decide +kernel) (by decide +kernel)
theorem k_83 : (.static y_Cond_compares : Cond) ∈ wG := wGm 813 (by decide +kernel) (by decide +kernel)
theorem k_84 : (.initialized R_Cond : Cond) ∈ wG := wGm 95 (by decide +kernel) (by decide +kernel)
theorem k_85 : (.code y_Cond_compares b_Cond_compares 3 (some .boolean) : Cond) ∈ wG := wGm 814 (by decide +kernel) (by decide +kernel)
theorem k_86 : (.methodLink R_Cond 44 y_Cond_pop : Cond) ∈ wG := wGm 805 (by decide +kernel) (by decide +kernel)
theorem k_87 : (.instanceMethod y_Cond_pop : Cond) ∈ wG := wGm 807 (by decide +kernel) (by decide +kernel)
theorem k_88 : (.selects R_Cond y_Cond_pop y_Cond_pop : Cond) ∈ wG := wGm 25 (by decide +kernel) (by decide +kernel)
theorem k_89 : (.code y_Cond_pop b_Cond_pop 1 (some .int) : Cond) ∈ wG := wGm 808 (by decide +kernel) (by decide +kernel)
theorem k_90 : (.methodLink R_Cond 48 y_Cond_push : Cond) ∈ wG := wGm 797 (by decide +kernel) (by decide +kernel)
theorem k_91 : (.instanceMethod y_Cond_push : Cond) ∈ wG := wGm 799 (by decide +kernel) (by decide +kernel)
theorem k_92 : (.selects R_Cond y_Cond_push y_Cond_push : Cond) ∈ wG := wGm 24 (by decide +kernel) (by decide +kernel)
theorem k_93 : (.code y_Cond_push b_Cond_push 2 none : Cond) ∈ wG := wGm 800 (by decide +kernel) (by decide +kernel)
theorem k_94 : (.methodLink R_Cond 52 y_Tab_at : Cond) ∈ wG := wGm 801 (by decide +kernel) (by decide +kernel)
theorem k_95 : (.instanceMethod y_Tab_at : Cond) ∈ wG := wGm 802 (by decide +kernel) (by decide +kernel)
theorem k_96 : (.selects R_Tab y_Tab_at y_Tab_at : Cond) ∈ wG := wGm 803 (by decide +kernel) (by decide +kernel)
theorem k_97 : (.initialized R_Tab : Cond) ∈ wG := wGm 87 (by decide +kernel) (by decide +kernel)
theorem k_98 : (.code y_Tab_at b_Tab_at 4 (some .int) : Cond) ∈ wG := wGm 804 (by decide +kernel) (by decide +kernel)
theorem k_99 : (.methodLink R_Cond 57 y_Cond_joined : Cond) ∈ wG := wGm 809 (by decide +kernel) (by decide +kernel)
theorem k_100 : (.static y_Cond_joined : Cond) ∈ wG := wGm 810 (by decide +kernel) (by decide +kernel)
theorem k_101 : (.code y_Cond_joined b_Cond_joined 3 (some .int) : Cond) ∈ wG := wGm 811 (by decide +kernel) (by decide +kernel)
theorem k_102 : (.methodLink R_Cond 34 Lib.Math.max.name : Cond) ∈ wG := wGm 792 (by decide +kernel) (by decide +kernel)
theorem k_103 : (.methodLink R_Cond 40 y_Cond_take : Cond) ∈ wG := wGm 793 (by decide +kernel) (by decide +kernel)
theorem k_104 : (.instanceMethod y_Cond_take : Cond) ∈ wG := wGm 795 (by decide +kernel) (by decide +kernel)
theorem k_105 : (.selects R_Cond y_Cond_take y_Cond_take : Cond) ∈ wG := wGm 23 (by decide +kernel) (by decide +kernel)
theorem k_106 : (.code y_Cond_take b_Cond_take 7 none : Cond) ∈ wG := wGm 796 (by decide +kernel) (by decide +kernel)
theorem g_Cond_61 : GoodIn wG (wsS R_Cond 61 y_Cond_compares w_Cond_compares) := wGa (fun w hw => by
  rcases List.mem_cons.mp hw with e | hw
  · exact e ▸ k_82
  rcases List.mem_cons.mp hw with e | hw
  · exact e ▸ k_83
  rcases List.mem_cons.mp hw with e | hw
  · exact e ▸ k_84
  · exact absurd hw List.not_mem_nil) (wGc k_85)
theorem g_Cond_44 : GoodIn wG (wsV R_Cond 44 R_Cond y_Cond_pop w_Cond_pop) := wGa (fun w hw => by
  rcases List.mem_cons.mp hw with e | hw
  · exact e ▸ k_86
  rcases List.mem_cons.mp hw with e | hw
  · exact e ▸ k_87
  rcases List.mem_cons.mp hw with e | hw
  · exact e ▸ k_88
  rcases List.mem_cons.mp hw with e | hw
  · exact e ▸ k_84
  · exact absurd hw List.not_mem_nil) (wGc k_89)
theorem g_Cond_48 : GoodIn wG (wsV R_Cond 48 R_Cond y_Cond_push w_Cond_push) := wGa (fun w hw => by
  rcases List.mem_cons.mp hw with e | hw
  · exact e ▸ k_90
  rcases List.mem_cons.mp hw with e | hw
  · exact e ▸ k_91
  rcases List.mem_cons.mp hw with e | hw
  · exact e ▸ k_92
  rcases List.mem_cons.mp hw with e | hw
  · exact e ▸ k_84
  · exact absurd hw List.not_mem_nil) (wGc k_93)
theorem g_Cond_52 : GoodIn wG (wsV R_Cond 52 R_Tab y_Tab_at w_Tab_at) := wGa (fun w hw => by
  rcases List.mem_cons.mp hw with e | hw
  · exact e ▸ k_94
  rcases List.mem_cons.mp hw with e | hw
  · exact e ▸ k_95
  rcases List.mem_cons.mp hw with e | hw
  · exact e ▸ k_96
  rcases List.mem_cons.mp hw with e | hw
  · exact e ▸ k_97
  · exact absurd hw List.not_mem_nil) (wGc k_98)
theorem g_Cond_57 : GoodIn wG (wsS R_Cond 57 y_Cond_joined w_Cond_joined) := wGa (fun w hw => by
  rcases List.mem_cons.mp hw with e | hw
  · exact e ▸ k_99
  rcases List.mem_cons.mp hw with e | hw
  · exact e ▸ k_100
  rcases List.mem_cons.mp hw with e | hw
  · exact e ▸ k_84
  · exact absurd hw List.not_mem_nil) (wGc k_101)
theorem g_Cond_40 : GoodIn wG (wsV R_Cond 40 R_Cond y_Cond_take w_Cond_take) := wGa (fun w hw => by
  rcases List.mem_cons.mp hw with e | hw
  · exact e ▸ k_103
  rcases List.mem_cons.mp hw with e | hw
  · exact e ▸ k_104
  rcases List.mem_cons.mp hw with e | hw
  · exact e ▸ k_105
  rcases List.mem_cons.mp hw with e | hw
  · exact e ▸ k_84
  · exact absurd hw List.not_mem_nil) (wGc k_106)
set_option maxHeartbeats 4000000 in
set_option maxRecDepth 100000 in
theorem c_Cond_size (l : Launch) (G : GG) (h : Nat) (a_steps : Nat) (a_values : Nat) (a_stack : Nat) (a_holding : Nat) (v_size : Int32) (v_height : Int32) : Det l G y_Cond_size w_Cond_size (rmD 0) 0 0 [.ref h] [(h, .inr (8, [.ref a_steps, .ref a_values, .int v_size, .ref a_stack, .int v_height, .ref a_holding]))] (some (.int v_size)) [(h, .inr (8, [.ref a_steps, .ref a_values, .int v_size, .ref a_stack, .int v_height, .ref a_holding]))] := by
  refine Det.of (cc := b_Cond_size) (maxL := 1) (ret := (some .int)) (by decide) rfl (Nat.le_of_ble_eq_true rfl) ?_
  intro p e s m args below meth c A ls hx hb hr hml hown hts hlocks hin hA hK hZ hP hD hS hl
  have hts : ∀ w ∈ wG, w.before args s = true := fun w h => hts w (List.mem_cons_of_mem _ h)
  have hown : s.vm.findClass R_Cond = some m.cls := hown
  have hl : lv_has ls 1 [(0, .ref h)] := hl
  refine lv_aload_n hx hb d_Cond_size_0 rfl (lv_at hl 0 rfl) ?_
  refine va_get (D := G.1) (ci := 8) (C := R_Cond) (T := F_Cond) (N := 6) (v := .int v_size) hx hb hts i_Cond hown hK hP 0 rfl rfl 2 (by decide) (hts (.fieldLink R_Cond 18 "PrivateQueries$Conditions" "size" "I") k_76) (fun _ h9 => h9) rfl d_Cond_size_1 ?_
  exact ly_iret hx hb hr hlocks hP hD hS d_Cond_size_4 rfl rfl

set_option maxHeartbeats 4000000 in
set_option maxRecDepth 100000 in
theorem c_Cond_clear (l : Launch) (G : GG) (h : Nat) (a_steps : Nat) (a_values : Nat) (a_stack : Nat) (a_holding : Nat) (v_size : Int32) (v_height : Int32) : Det l G y_Cond_clear w_Cond_clear (rmD 0) 0 0 [.ref h] [(h, .inr (8, [.ref a_steps, .ref a_values, .int v_size, .ref a_stack, .int v_height, .ref a_holding]))] none [(h, .inr (8, [.ref a_steps, .ref a_values, .int 0, .ref a_stack, .int v_height, .ref a_holding]))] := by
  refine Det.of (cc := b_Cond_clear) (maxL := 1) (ret := none) (by decide) rfl (Nat.le_of_ble_eq_true rfl) ?_
  intro p e s m args below meth c A ls hx hb hr hml hown hts hlocks hin hA hK hZ hP hD hS hl
  have hts : ∀ w ∈ wG, w.before args s = true := fun w h => hts w (List.mem_cons_of_mem _ h)
  have hown : s.vm.findClass R_Cond = some m.cls := hown
  have hl : lv_has ls 1 [(0, .ref h)] := hl
  refine lv_aload_n hx hb d_Cond_clear_0 rfl (lv_at hl 0 rfl) ?_
  refine lv_iconst (v := 0) hx hb d_Cond_clear_1 (by decide) ?_
  refine va_put (D := G.1) (ci := 8) (v := .int 0) (ty := .int) (C := R_Cond) (T := F_Cond) (N := 6) hx hb hts i_Cond t_Cond t_Cond_ok n_Cond hown hK hP hD hS 0 rfl rfl 2 (by decide) (hts (.fieldLink R_Cond 18 "PrivateQueries$Conditions" "size" "I") k_76) (fun _ h9 => h9) rfl (by decide +kernel) rfl rfl (Nat.le_of_ble_eq_true rfl) d_Cond_clear_2 (fun H locs hP hD hS => ?_)
  have hP : va_P G.1 classes [(h, .inr (8, [.ref a_steps, .ref a_values, .int 0, .ref a_stack, .int v_height, .ref a_holding]))] H := hP
  have hD : va_D A [(h, .inr (8, [.ref a_steps, .ref a_values, .int 0, .ref a_stack, .int v_height, .ref a_holding]))] := hD
  exact ly_vret hx hb hr hlocks hP hD hS d_Cond_clear_5 rfl rfl

set_option maxHeartbeats 4000000 in
set_option maxRecDepth 100000 in
theorem c_Cond_add (l : Launch) (G : GG) (h : Nat) (a_steps : Nat) (a_values : Nat) (a_stack : Nat) (a_holding : Nat) (f_steps : Nat → Int32) (f_values : Nat → Int32) (v_size : Int32) (v_height : Int32) (x : Int32) (z : Int32) (hz_v_size : up v_size 2000) : Det l G y_Cond_add w_Cond_add (rmD 0) 0 0 [.ref h, .int x, .int z] [(h, .inr (8, [.ref a_steps, .ref a_values, .int v_size, .ref a_stack, .int v_height, .ref a_holding])), (a_steps, .inl (gI G, 2000, .inl f_steps)), (a_values, .inl (gI G, 2000, .inl f_values))] none [(h, .inr (8, [.ref a_steps, .ref a_values, .int (s_Cond_add f_steps f_values v_size x z).1, .ref a_stack, .int v_height, .ref a_holding])), (a_steps, .inl (gI G, 2000, .inl (s_Cond_add f_steps f_values v_size x z).2.1)), (a_values, .inl (gI G, 2000, .inl (s_Cond_add f_steps f_values v_size x z).2.2))] := by
  refine Det.of (cc := b_Cond_add) (maxL := 3) (ret := none) (by decide) rfl (Nat.le_of_ble_eq_true rfl) ?_
  intro p e s m args below meth c A ls hx hb hr hml hown hts hlocks hin hA hK hZ hP hD hS hl
  have hts : ∀ w ∈ wG, w.before args s = true := fun w h => hts w (List.mem_cons_of_mem _ h)
  have hown : s.vm.findClass R_Cond = some m.cls := hown
  have hl : lv_has ls 3 [(0, .ref h), (1, .int x), (2, .int z)] := hl
  refine lv_aload_n hx hb d_Cond_add_0 rfl (lv_at hl 0 rfl) ?_
  refine va_get (D := G.1) (ci := 8) (C := R_Cond) (T := F_Cond) (N := 6) (v := .int v_size) hx hb hts i_Cond hown hK hP 0 rfl rfl 2 (by decide) (hts (.fieldLink R_Cond 18 "PrivateQueries$Conditions" "size" "I") k_76) (fun _ h9 => h9) rfl d_Cond_add_1 ?_
  refine lv_aload_n hx hb d_Cond_add_4 rfl (lv_at hl 0 rfl) ?_
  refine va_get (D := G.1) (ci := 8) (C := R_Cond) (T := F_Cond) (N := 6) (v := .ref a_steps) hx hb hts i_Cond hown hK hP 0 rfl rfl 0 (by decide) (hts (.fieldLink R_Cond 11 "PrivateQueries$Conditions" "steps" "[I") k_77) (fun _ h9 => h9) rfl d_Cond_add_5 ?_
  refine va_alen (v := 2000) hx hb hK hP 1 0 rfl rfl (show Int32.ofNat 2000 = 2000 by decide) d_Cond_add_8 ?_
  refine lv_icmp_ge (tgt := 54) hx hb d_Cond_add_9 (by decide) (fun c1 => ?_) (fun c1 => ?_)
  · skip
    exact ly_vret hx hb hr hlocks hP hD hS d_Cond_add_54 rfl (by rw [s_Cond_add, if_pos c1])
  refine lv_aload_n hx hb d_Cond_add_12 rfl (lv_at hl 0 rfl) ?_
  refine va_get (D := G.1) (ci := 8) (C := R_Cond) (T := F_Cond) (N := 6) (v := .int v_size) hx hb hts i_Cond hown hK hP 0 rfl rfl 2 (by decide) (hts (.fieldLink R_Cond 18 "PrivateQueries$Conditions" "size" "I") k_76) (fun _ h9 => h9) rfl d_Cond_add_13 ?_
  refine lv_aload_n hx hb d_Cond_add_16 rfl (lv_at hl 0 rfl) ?_
  refine va_get (D := G.1) (ci := 8) (C := R_Cond) (T := F_Cond) (N := 6) (v := .ref a_values) hx hb hts i_Cond hown hK hP 0 rfl rfl 1 (by decide) (hts (.fieldLink R_Cond 15 "PrivateQueries$Conditions" "values" "[I") k_78) (fun _ h9 => h9) rfl d_Cond_add_17 ?_
  refine va_alen (v := 2000) hx hb hK hP 2 0 rfl rfl (show Int32.ofNat 2000 = 2000 by decide) d_Cond_add_20 ?_
  refine lv_icmp_ge (tgt := 54) hx hb d_Cond_add_21 (by decide) (fun c2 => ?_) (fun c2 => ?_)
  · skip
    exact ly_vret hx hb hr hlocks hP hD hS d_Cond_add_54 rfl (by rw [s_Cond_add, if_neg c1, if_pos c2])
  refine lv_aload_n hx hb d_Cond_add_24 rfl (lv_at hl 0 rfl) ?_
  refine va_get (D := G.1) (ci := 8) (C := R_Cond) (T := F_Cond) (N := 6) (v := .ref a_steps) hx hb hts i_Cond hown hK hP 0 rfl rfl 0 (by decide) (hts (.fieldLink R_Cond 11 "PrivateQueries$Conditions" "steps" "[I") k_77) (fun _ h9 => h9) rfl d_Cond_add_25 ?_
  refine lv_aload_n hx hb d_Cond_add_28 rfl (lv_at hl 0 rfl) ?_
  refine va_get (D := G.1) (ci := 8) (C := R_Cond) (T := F_Cond) (N := 6) (v := .int v_size) hx hb hts i_Cond hown hK hP 0 rfl rfl 2 (by decide) (hts (.fieldLink R_Cond 18 "PrivateQueries$Conditions" "size" "I") k_76) (fun _ h9 => h9) rfl d_Cond_add_29 ?_
  refine lv_iload_n hx hb d_Cond_add_32 rfl (lv_at hl 1 rfl) ?_
  refine va_iast hx hb hK hP hD hS 1 0 rfl rfl (ly_mk hz_v_size.1 (ly_hi (by decide) c2)) d_Cond_add_33 (fun H locs hP hD hS => ?_)
  have hP : va_P G.1 classes [(h, .inr (8, [.ref a_steps, .ref a_values, .int v_size, .ref a_stack, .int v_height, .ref a_holding])), (a_steps, .inl (gI G, 2000, .inl (upd f_steps v_size.toNatClampNeg x))), (a_values, .inl (gI G, 2000, .inl f_values))] H := hP
  have hD : va_D A [(h, .inr (8, [.ref a_steps, .ref a_values, .int v_size, .ref a_stack, .int v_height, .ref a_holding])), (a_steps, .inl (gI G, 2000, .inl (upd f_steps v_size.toNatClampNeg x))), (a_values, .inl (gI G, 2000, .inl f_values))] := hD
  refine lv_aload_n hx hb d_Cond_add_34 rfl (lv_at hl 0 rfl) ?_
  refine va_get (D := G.1) (ci := 8) (C := R_Cond) (T := F_Cond) (N := 6) (v := .ref a_values) hx hb hts i_Cond hown hK hP 0 rfl rfl 1 (by decide) (hts (.fieldLink R_Cond 15 "PrivateQueries$Conditions" "values" "[I") k_78) (fun _ h9 => h9) rfl d_Cond_add_35 ?_
  refine lv_aload_n hx hb d_Cond_add_38 rfl (lv_at hl 0 rfl) ?_
  refine va_get (D := G.1) (ci := 8) (C := R_Cond) (T := F_Cond) (N := 6) (v := .int v_size) hx hb hts i_Cond hown hK hP 0 rfl rfl 2 (by decide) (hts (.fieldLink R_Cond 18 "PrivateQueries$Conditions" "size" "I") k_76) (fun _ h9 => h9) rfl d_Cond_add_39 ?_
  refine lv_iload_n hx hb d_Cond_add_42 rfl (lv_at hl 2 rfl) ?_
  refine va_iast hx hb hK hP hD hS 2 0 rfl rfl (ly_mk hz_v_size.1 (ly_hi (by decide) c2)) d_Cond_add_43 (fun H locs hP hD hS => ?_)
  have hP : va_P G.1 classes [(h, .inr (8, [.ref a_steps, .ref a_values, .int v_size, .ref a_stack, .int v_height, .ref a_holding])), (a_steps, .inl (gI G, 2000, .inl (upd f_steps v_size.toNatClampNeg x))), (a_values, .inl (gI G, 2000, .inl (upd f_values v_size.toNatClampNeg z)))] H := hP
  have hD : va_D A [(h, .inr (8, [.ref a_steps, .ref a_values, .int v_size, .ref a_stack, .int v_height, .ref a_holding])), (a_steps, .inl (gI G, 2000, .inl (upd f_steps v_size.toNatClampNeg x))), (a_values, .inl (gI G, 2000, .inl (upd f_values v_size.toNatClampNeg z)))] := hD
  refine lv_aload_n hx hb d_Cond_add_44 rfl (lv_at hl 0 rfl) ?_
  refine lv_dup hx hb d_Cond_add_45 rfl ?_
  refine va_get (D := G.1) (ci := 8) (C := R_Cond) (T := F_Cond) (N := 6) (v := .int v_size) hx hb hts i_Cond hown hK hP 0 rfl rfl 2 (by decide) (hts (.fieldLink R_Cond 18 "PrivateQueries$Conditions" "size" "I") k_76) (fun _ h9 => h9) rfl d_Cond_add_46 ?_
  refine lv_iconst (v := 1) hx hb d_Cond_add_49 (by decide) ?_
  refine lv_iadd hx hb d_Cond_add_50 ?_
  refine va_put (D := G.1) (ci := 8) (v := .int (v_size + 1)) (ty := .int) (C := R_Cond) (T := F_Cond) (N := 6) hx hb hts i_Cond t_Cond t_Cond_ok n_Cond hown hK hP hD hS 0 rfl rfl 2 (by decide) (hts (.fieldLink R_Cond 18 "PrivateQueries$Conditions" "size" "I") k_76) (fun _ h9 => h9) rfl (by decide +kernel) rfl rfl (Nat.le_of_ble_eq_true rfl) d_Cond_add_51 (fun H locs hP hD hS => ?_)
  have hP : va_P G.1 classes [(h, .inr (8, [.ref a_steps, .ref a_values, .int (v_size + 1), .ref a_stack, .int v_height, .ref a_holding])), (a_steps, .inl (gI G, 2000, .inl (upd f_steps v_size.toNatClampNeg x))), (a_values, .inl (gI G, 2000, .inl (upd f_values v_size.toNatClampNeg z)))] H := hP
  have hD : va_D A [(h, .inr (8, [.ref a_steps, .ref a_values, .int (v_size + 1), .ref a_stack, .int v_height, .ref a_holding])), (a_steps, .inl (gI G, 2000, .inl (upd f_steps v_size.toNatClampNeg x))), (a_values, .inl (gI G, 2000, .inl (upd f_values v_size.toNatClampNeg z)))] := hD
  exact ly_vret hx hb hr hlocks hP hD hS d_Cond_add_54 rfl (by rw [s_Cond_add, if_neg c1, if_neg c2])

set_option maxHeartbeats 4000000 in
set_option maxRecDepth 100000 in
theorem c_Cond_settle (l : Launch) (G : GG) (h : Nat) (a_steps : Nat) (a_values : Nat) (a_stack : Nat) (a_holding : Nat) (v_size : Int32) (v_height : Int32) (f_holding : Nat → Int32) (x : Int32) (z : Int32) : Det l G y_Cond_settle w_Cond_settle (rmD 0) 0 0 [.ref h, .int x, .int z] [(h, .inr (8, [.ref a_steps, .ref a_values, .int v_size, .ref a_stack, .int v_height, .ref a_holding])), (a_holding, .inl (gZ G, 10, .inl f_holding))] none [(h, .inr (8, [.ref a_steps, .ref a_values, .int v_size, .ref a_stack, .int v_height, .ref a_holding])), (a_holding, .inl (gZ G, 10, .inl (s_Cond_settle f_holding x z)))] := by
  refine Det.of (cc := b_Cond_settle) (maxL := 3) (ret := none) (by decide) rfl (Nat.le_of_ble_eq_true rfl) ?_
  intro p e s m args below meth c A ls hx hb hr hml hown hts hlocks hin hA hK hZ hP hD hS hl
  have hts : ∀ w ∈ wG, w.before args s = true := fun w h => hts w (List.mem_cons_of_mem _ h)
  have hown : s.vm.findClass R_Cond = some m.cls := hown
  have hl : lv_has ls 3 [(0, .ref h), (1, .int x), (2, .int z)] := hl
  refine lv_iload_n hx hb d_Cond_settle_0 rfl (lv_at hl 1 rfl) ?_
  refine lv_if_lt (tgt := 20) hx hb d_Cond_settle_1 (by decide) (fun c1 => ?_) (fun c1 => ?_)
  · skip
    exact ly_vret hx hb hr hlocks hP hD hS d_Cond_settle_20 rfl (by rw [s_Cond_settle, if_pos c1])
  refine lv_iload_n hx hb d_Cond_settle_4 rfl (lv_at hl 1 rfl) ?_
  refine lv_aload_n hx hb d_Cond_settle_5 rfl (lv_at hl 0 rfl) ?_
  refine va_get (D := G.1) (ci := 8) (C := R_Cond) (T := F_Cond) (N := 6) (v := .ref a_holding) hx hb hts i_Cond hown hK hP 0 rfl rfl 5 (by decide) (hts (.fieldLink R_Cond 30 "PrivateQueries$Conditions" "holding" "[Z") k_79) (fun _ h9 => h9) rfl d_Cond_settle_6 ?_
  refine va_alen (v := 10) hx hb hK hP 1 2 rfl rfl (show Int32.ofNat 10 = 10 by decide) d_Cond_settle_9 ?_
  refine lv_icmp_ge (tgt := 20) hx hb d_Cond_settle_10 (by decide) (fun c2 => ?_) (fun c2 => ?_)
  · skip
    exact ly_vret hx hb hr hlocks hP hD hS d_Cond_settle_20 rfl (by rw [s_Cond_settle, if_neg c1, if_pos c2])
  refine lv_aload_n hx hb d_Cond_settle_13 rfl (lv_at hl 0 rfl) ?_
  refine va_get (D := G.1) (ci := 8) (C := R_Cond) (T := F_Cond) (N := 6) (v := .ref a_holding) hx hb hts i_Cond hown hK hP 0 rfl rfl 5 (by decide) (hts (.fieldLink R_Cond 30 "PrivateQueries$Conditions" "holding" "[Z") k_79) (fun _ h9 => h9) rfl d_Cond_settle_14 ?_
  refine lv_iload_n hx hb d_Cond_settle_17 rfl (lv_at hl 1 rfl) ?_
  refine lv_iload_n hx hb d_Cond_settle_18 rfl (lv_at hl 2 rfl) ?_
  refine va_zast hx hb hK hP hD hS 1 2 rfl rfl (ly_mk (ly_lo c1) (ly_hi (by decide) c2)) d_Cond_settle_19 (fun H locs hP hD hS => ?_)
  have hP : va_P G.1 classes [(h, .inr (8, [.ref a_steps, .ref a_values, .int v_size, .ref a_stack, .int v_height, .ref a_holding])), (a_holding, .inl (gZ G, 10, .inl (upd f_holding x.toNatClampNeg (vp_nar .boolean z))))] H := hP
  have hD : va_D A [(h, .inr (8, [.ref a_steps, .ref a_values, .int v_size, .ref a_stack, .int v_height, .ref a_holding])), (a_holding, .inl (gZ G, 10, .inl (upd f_holding x.toNatClampNeg (vp_nar .boolean z))))] := hD
  exact ly_vret hx hb hr hlocks hP hD hS d_Cond_settle_20 rfl (by rw [s_Cond_settle, if_neg c1, if_neg c2])

theorem k_push {f : Nat → Int32} {v x : Int32} (hz : up v 64) : up (s_Cond_push f v x).1 64 := by
  unfold s_Cond_push
  split
  · exact hz
  · rename_i h
    exact up_add1 hz (by decide) h
set_option maxHeartbeats 4000000 in
set_option maxRecDepth 100000 in
theorem c_Cond_push (l : Launch) (G : GG) (h : Nat) (a_steps : Nat) (a_values : Nat) (a_stack : Nat) (a_holding : Nat) (v_size : Int32) (f_stack : Nat → Int32) (v_height : Int32) (x : Int32) (hz_v_height : up v_height 64) : Det l G y_Cond_push w_Cond_push (rmD 0) 0 0 [.ref h, .int x] [(h, .inr (8, [.ref a_steps, .ref a_values, .int v_size, .ref a_stack, .int v_height, .ref a_holding])), (a_stack, .inl (gI G, 64, .inl f_stack))] none [(h, .inr (8, [.ref a_steps, .ref a_values, .int v_size, .ref a_stack, .int (s_Cond_push f_stack v_height x).1, .ref a_holding])), (a_stack, .inl (gI G, 64, .inl (s_Cond_push f_stack v_height x).2))] := by
  refine Det.of (cc := b_Cond_push) (maxL := 2) (ret := none) (by decide) rfl (Nat.le_of_ble_eq_true rfl) ?_
  intro p e s m args below meth c A ls hx hb hr hml hown hts hlocks hin hA hK hZ hP hD hS hl
  have hts : ∀ w ∈ wG, w.before args s = true := fun w h => hts w (List.mem_cons_of_mem _ h)
  have hown : s.vm.findClass R_Cond = some m.cls := hown
  have hl : lv_has ls 2 [(0, .ref h), (1, .int x)] := hl
  refine lv_aload_n hx hb d_Cond_push_0 rfl (lv_at hl 0 rfl) ?_
  refine va_get (D := G.1) (ci := 8) (C := R_Cond) (T := F_Cond) (N := 6) (v := .int v_height) hx hb hts i_Cond hown hK hP 0 rfl rfl 4 (by decide) (hts (.fieldLink R_Cond 25 "PrivateQueries$Conditions" "height" "I") k_80) (fun _ h9 => h9) rfl d_Cond_push_1 ?_
  refine lv_aload_n hx hb d_Cond_push_4 rfl (lv_at hl 0 rfl) ?_
  refine va_get (D := G.1) (ci := 8) (C := R_Cond) (T := F_Cond) (N := 6) (v := .ref a_stack) hx hb hts i_Cond hown hK hP 0 rfl rfl 3 (by decide) (hts (.fieldLink R_Cond 22 "PrivateQueries$Conditions" "stack" "[I") k_81) (fun _ h9 => h9) rfl d_Cond_push_5 ?_
  refine va_alen (v := 64) hx hb hK hP 1 0 rfl rfl (show Int32.ofNat 64 = 64 by decide) d_Cond_push_8 ?_
  refine lv_icmp_ge (tgt := 32) hx hb d_Cond_push_9 (by decide) (fun c1 => ?_) (fun c1 => ?_)
  · skip
    exact ly_vret hx hb hr hlocks hP hD hS d_Cond_push_32 rfl (by rw [s_Cond_push, if_pos c1])
  refine lv_aload_n hx hb d_Cond_push_12 rfl (lv_at hl 0 rfl) ?_
  refine va_get (D := G.1) (ci := 8) (C := R_Cond) (T := F_Cond) (N := 6) (v := .ref a_stack) hx hb hts i_Cond hown hK hP 0 rfl rfl 3 (by decide) (hts (.fieldLink R_Cond 22 "PrivateQueries$Conditions" "stack" "[I") k_81) (fun _ h9 => h9) rfl d_Cond_push_13 ?_
  refine lv_aload_n hx hb d_Cond_push_16 rfl (lv_at hl 0 rfl) ?_
  refine va_get (D := G.1) (ci := 8) (C := R_Cond) (T := F_Cond) (N := 6) (v := .int v_height) hx hb hts i_Cond hown hK hP 0 rfl rfl 4 (by decide) (hts (.fieldLink R_Cond 25 "PrivateQueries$Conditions" "height" "I") k_80) (fun _ h9 => h9) rfl d_Cond_push_17 ?_
  refine lv_iload_n hx hb d_Cond_push_20 rfl (lv_at hl 1 rfl) ?_
  refine va_iast hx hb hK hP hD hS 1 0 rfl rfl (ly_mk hz_v_height.1 (ly_hi (by decide) c1)) d_Cond_push_21 (fun H locs hP hD hS => ?_)
  have hP : va_P G.1 classes [(h, .inr (8, [.ref a_steps, .ref a_values, .int v_size, .ref a_stack, .int v_height, .ref a_holding])), (a_stack, .inl (gI G, 64, .inl (upd f_stack v_height.toNatClampNeg x)))] H := hP
  have hD : va_D A [(h, .inr (8, [.ref a_steps, .ref a_values, .int v_size, .ref a_stack, .int v_height, .ref a_holding])), (a_stack, .inl (gI G, 64, .inl (upd f_stack v_height.toNatClampNeg x)))] := hD
  refine lv_aload_n hx hb d_Cond_push_22 rfl (lv_at hl 0 rfl) ?_
  refine lv_dup hx hb d_Cond_push_23 rfl ?_
  refine va_get (D := G.1) (ci := 8) (C := R_Cond) (T := F_Cond) (N := 6) (v := .int v_height) hx hb hts i_Cond hown hK hP 0 rfl rfl 4 (by decide) (hts (.fieldLink R_Cond 25 "PrivateQueries$Conditions" "height" "I") k_80) (fun _ h9 => h9) rfl d_Cond_push_24 ?_
  refine lv_iconst (v := 1) hx hb d_Cond_push_27 (by decide) ?_
  refine lv_iadd hx hb d_Cond_push_28 ?_
  refine va_put (D := G.1) (ci := 8) (v := .int (v_height + 1)) (ty := .int) (C := R_Cond) (T := F_Cond) (N := 6) hx hb hts i_Cond t_Cond t_Cond_ok n_Cond hown hK hP hD hS 0 rfl rfl 4 (by decide) (hts (.fieldLink R_Cond 25 "PrivateQueries$Conditions" "height" "I") k_80) (fun _ h9 => h9) rfl (by decide +kernel) rfl rfl (Nat.le_of_ble_eq_true rfl) d_Cond_push_29 (fun H locs hP hD hS => ?_)
  have hP : va_P G.1 classes [(h, .inr (8, [.ref a_steps, .ref a_values, .int v_size, .ref a_stack, .int (v_height + 1), .ref a_holding])), (a_stack, .inl (gI G, 64, .inl (upd f_stack v_height.toNatClampNeg x)))] H := hP
  have hD : va_D A [(h, .inr (8, [.ref a_steps, .ref a_values, .int v_size, .ref a_stack, .int (v_height + 1), .ref a_holding])), (a_stack, .inl (gI G, 64, .inl (upd f_stack v_height.toNatClampNeg x)))] := hD
  exact ly_vret hx hb hr hlocks hP hD hS d_Cond_push_32 rfl (by rw [s_Cond_push, if_neg c1])

theorem k_pop {f : Nat → Int32} {v : Int32} (hz : up v 64) : up (s_Cond_pop f v).2 64 := by
  unfold s_Cond_pop
  split
  · exact hz
  · rename_i h
    split
    · exact up_sub1 hz h
    · exact hz
set_option maxHeartbeats 4000000 in
set_option maxRecDepth 100000 in
theorem c_Cond_pop (l : Launch) (G : GG) (h : Nat) (a_steps : Nat) (a_values : Nat) (a_stack : Nat) (a_holding : Nat) (v_size : Int32) (f_stack : Nat → Int32) (v_height : Int32) (hz_v_height : up v_height 64) : Det l G y_Cond_pop w_Cond_pop (rmD 0) 0 0 [.ref h] [(h, .inr (8, [.ref a_steps, .ref a_values, .int v_size, .ref a_stack, .int v_height, .ref a_holding])), (a_stack, .inl (gI G, 64, .inl f_stack))] (some (.int (s_Cond_pop f_stack v_height).1)) [(h, .inr (8, [.ref a_steps, .ref a_values, .int v_size, .ref a_stack, .int (s_Cond_pop f_stack v_height).2, .ref a_holding])), (a_stack, .inl (gI G, 64, .inl f_stack))] := by
  refine Det.of (cc := b_Cond_pop) (maxL := 1) (ret := (some .int)) (by decide) rfl (Nat.le_of_ble_eq_true rfl) ?_
  intro p e s m args below meth c A ls hx hb hr hml hown hts hlocks hin hA hK hZ hP hD hS hl
  have hts : ∀ w ∈ wG, w.before args s = true := fun w h => hts w (List.mem_cons_of_mem _ h)
  have hown : s.vm.findClass R_Cond = some m.cls := hown
  have hl : lv_has ls 1 [(0, .ref h)] := hl
  refine lv_aload_n hx hb d_Cond_pop_0 rfl (lv_at hl 0 rfl) ?_
  refine va_get (D := G.1) (ci := 8) (C := R_Cond) (T := F_Cond) (N := 6) (v := .int v_height) hx hb hts i_Cond hown hK hP 0 rfl rfl 4 (by decide) (hts (.fieldLink R_Cond 25 "PrivateQueries$Conditions" "height" "I") k_80) (fun _ h9 => h9) rfl d_Cond_pop_1 ?_
  refine lv_iconst (v := 1) hx hb d_Cond_pop_4 (by decide) ?_
  refine lv_icmp_lt (tgt := 20) hx hb d_Cond_pop_5 (by decide) (fun c1 => ?_) (fun c1 => ?_)
  · skip
    refine lv_iconst (v := 0) hx hb d_Cond_pop_20 (by decide) ?_
    exact ly_iret hx hb hr hlocks hP hD hS d_Cond_pop_21 (by rw [s_Cond_pop, if_pos c1]) (by rw [s_Cond_pop, if_pos c1])
  refine lv_aload_n hx hb d_Cond_pop_8 rfl (lv_at hl 0 rfl) ?_
  refine va_get (D := G.1) (ci := 8) (C := R_Cond) (T := F_Cond) (N := 6) (v := .int v_height) hx hb hts i_Cond hown hK hP 0 rfl rfl 4 (by decide) (hts (.fieldLink R_Cond 25 "PrivateQueries$Conditions" "height" "I") k_80) (fun _ h9 => h9) rfl d_Cond_pop_9 ?_
  refine lv_aload_n hx hb d_Cond_pop_12 rfl (lv_at hl 0 rfl) ?_
  refine va_get (D := G.1) (ci := 8) (C := R_Cond) (T := F_Cond) (N := 6) (v := .ref a_stack) hx hb hts i_Cond hown hK hP 0 rfl rfl 3 (by decide) (hts (.fieldLink R_Cond 22 "PrivateQueries$Conditions" "stack" "[I") k_81) (fun _ h9 => h9) rfl d_Cond_pop_13 ?_
  refine va_alen (v := 64) hx hb hK hP 1 0 rfl rfl (show Int32.ofNat 64 = 64 by decide) d_Cond_pop_16 ?_
  refine lv_icmp_le (tgt := 22) hx hb d_Cond_pop_17 (by decide) (fun c2 => ?_) (fun c2 => ?_)
  · skip
    refine lv_aload_n hx hb d_Cond_pop_22 rfl (lv_at hl 0 rfl) ?_
    refine lv_dup hx hb d_Cond_pop_23 rfl ?_
    refine va_get (D := G.1) (ci := 8) (C := R_Cond) (T := F_Cond) (N := 6) (v := .int v_height) hx hb hts i_Cond hown hK hP 0 rfl rfl 4 (by decide) (hts (.fieldLink R_Cond 25 "PrivateQueries$Conditions" "height" "I") k_80) (fun _ h9 => h9) rfl d_Cond_pop_24 ?_
    refine lv_iconst (v := 1) hx hb d_Cond_pop_27 (by decide) ?_
    refine lv_isub hx hb d_Cond_pop_28 ?_
    refine va_put (D := G.1) (ci := 8) (v := .int (v_height - 1)) (ty := .int) (C := R_Cond) (T := F_Cond) (N := 6) hx hb hts i_Cond t_Cond t_Cond_ok n_Cond hown hK hP hD hS 0 rfl rfl 4 (by decide) (hts (.fieldLink R_Cond 25 "PrivateQueries$Conditions" "height" "I") k_80) (fun _ h9 => h9) rfl (by decide +kernel) rfl rfl (Nat.le_of_ble_eq_true rfl) d_Cond_pop_29 (fun H locs hP hD hS => ?_)
    have hP : va_P G.1 classes [(h, .inr (8, [.ref a_steps, .ref a_values, .int v_size, .ref a_stack, .int (v_height - 1), .ref a_holding])), (a_stack, .inl (gI G, 64, .inl f_stack))] H := hP
    have hD : va_D A [(h, .inr (8, [.ref a_steps, .ref a_values, .int v_size, .ref a_stack, .int (v_height - 1), .ref a_holding])), (a_stack, .inl (gI G, 64, .inl f_stack))] := hD
    refine lv_aload_n hx hb d_Cond_pop_32 rfl (lv_at hl 0 rfl) ?_
    refine va_get (D := G.1) (ci := 8) (C := R_Cond) (T := F_Cond) (N := 6) (v := .ref a_stack) hx hb hts i_Cond hown hK hP 0 rfl rfl 3 (by decide) (hts (.fieldLink R_Cond 22 "PrivateQueries$Conditions" "stack" "[I") k_81) (fun _ h9 => h9) rfl d_Cond_pop_33 ?_
    refine lv_aload_n hx hb d_Cond_pop_36 rfl (lv_at hl 0 rfl) ?_
    refine va_get (D := G.1) (ci := 8) (C := R_Cond) (T := F_Cond) (N := 6) (v := .int (v_height - 1)) hx hb hts i_Cond hown hK hP 0 rfl rfl 4 (by decide) (hts (.fieldLink R_Cond 25 "PrivateQueries$Conditions" "height" "I") k_80) (fun _ h9 => h9) rfl d_Cond_pop_37 ?_
    refine va_iald hx hb hK hP 1 0 rfl rfl (in_pop c1 c2) d_Cond_pop_40 ?_
    exact ly_iret hx hb hr hlocks hP hD hS d_Cond_pop_41 (by rw [s_Cond_pop, if_neg c1, if_pos c2]) (by rw [s_Cond_pop, if_neg c1, if_pos c2])
  refine lv_iconst (v := 0) hx hb d_Cond_pop_20 (by decide) ?_
  exact ly_iret hx hb hr hlocks hP hD hS d_Cond_pop_21 (by rw [s_Cond_pop, if_neg c1, if_neg c2]) (by rw [s_Cond_pop, if_neg c1, if_neg c2])

theorem z_Cond_compares {x : Int32} {z : Int32} {v : Int32} : isB (s_Cond_compares x z v) := by
  rw [s_Cond_compares]
  by_cases ct1 : x = 17
  · rw [if_pos ct1]
    by_cases ct2 : v < z
    · rw [if_pos ct2]
      first | exact isB_0 | exact isB_1 | assumption
    rw [if_neg ct2]
    first | exact isB_0 | exact isB_1 | assumption
  rw [if_neg ct1]
  by_cases ct3 : x = 18
  · rw [if_pos ct3]
    by_cases ct4 : z < v
    · rw [if_pos ct4]
      first | exact isB_0 | exact isB_1 | assumption
    rw [if_neg ct4]
    first | exact isB_0 | exact isB_1 | assumption
  rw [if_neg ct3]
  by_cases ct5 : x = 19
  · rw [if_pos ct5]
    by_cases ct6 : z = v
    · rw [if_pos ct6]
      first | exact isB_0 | exact isB_1 | assumption
    rw [if_neg ct6]
    first | exact isB_0 | exact isB_1 | assumption
  rw [if_neg ct5]
  by_cases ct7 : x = 20
  · rw [if_pos ct7]
    by_cases ct8 : v ≤ z
    · rw [if_pos ct8]
      first | exact isB_0 | exact isB_1 | assumption
    rw [if_neg ct8]
    first | exact isB_0 | exact isB_1 | assumption
  rw [if_neg ct7]
  by_cases ct9 : x = 21
  · rw [if_pos ct9]
    by_cases ct10 : z ≤ v
    · rw [if_pos ct10]
      first | exact isB_0 | exact isB_1 | assumption
    rw [if_neg ct10]
    first | exact isB_0 | exact isB_1 | assumption
  rw [if_neg ct9]
  by_cases ct11 : x = 22
  · rw [if_pos ct11]
    by_cases ct12 : z = v
    · rw [if_pos ct12]
      first | exact isB_0 | exact isB_1 | assumption
    rw [if_neg ct12]
    first | exact isB_0 | exact isB_1 | assumption
  rw [if_neg ct11]
  by_cases ct13 : z = v
  · rw [if_pos ct13]
    first | exact isB_0 | exact isB_1 | assumption
  rw [if_neg ct13]
  first | exact isB_0 | exact isB_1 | assumption
set_option maxHeartbeats 4000000 in
set_option maxRecDepth 100000 in
theorem c_Cond_compares (l : Launch) (G : GG)  (x : Int32) (z : Int32) (v : Int32) : Det l G y_Cond_compares w_Cond_compares (rmD 0) 0 0 [.int x, .int z, .int v] [] (some (.int (s_Cond_compares x z v))) [] := by
  refine Det.of (cc := b_Cond_compares) (maxL := 3) (ret := (some .boolean)) (by decide) rfl (Nat.le_of_ble_eq_true rfl) ?_
  intro p e s m args below meth c A ls hx hb hr hml hown hts hlocks hin hA hK hZ hP hD hS hl
  have hts : ∀ w ∈ wG, w.before args s = true := fun w h => hts w (List.mem_cons_of_mem _ h)
  have hown : s.vm.findClass R_Cond = some m.cls := hown
  have hl : lv_has ls 3 [(0, .int x), (1, .int z), (2, .int v)] := hl
  refine lv_iload_n hx hb d_Cond_compares_0 rfl (lv_at hl 0 rfl) ?_
  by_cases c1 : x = 17
  · skip
    refine lv_tableIn (off := 61) (tgt := 62) hx hb d_Cond_compares_1 (by rw [c1]; decide) (by rw [c1]; decide) (by first | (rw [c1]; done) | (rw [c1]; rfl)) (by decide) ?_
    refine lv_iload_n hx hb d_Cond_compares_62 rfl (lv_at hl 1 rfl) ?_
    refine lv_iload_n hx hb d_Cond_compares_63 rfl (lv_at hl 2 rfl) ?_
    refine lv_icmp_gt (tgt := 71) hx hb d_Cond_compares_64 (by decide) (fun c2 => ?_) (fun c2 => ?_)
    · skip
      refine lv_iconst (v := 0) hx hb d_Cond_compares_71 (by decide) ?_
      exact ly_zret hx hb hr hlocks hP hD hS d_Cond_compares_72 (by decide) (by rw [s_Cond_compares, if_pos c1, if_pos c2]) rfl
    refine lv_iconst (v := 1) hx hb d_Cond_compares_67 (by decide) ?_
    refine lv_goto (tgt := 72) hx hb d_Cond_compares_68 (by decide) ?_
    exact ly_zret hx hb hr hlocks hP hD hS d_Cond_compares_72 (by decide) (by rw [s_Cond_compares, if_pos c1, if_neg c2]) rfl
  by_cases c3 : x = 18
  · skip
    refine lv_tableIn (off := 72) (tgt := 73) hx hb d_Cond_compares_1 (by rw [c3]; decide) (by rw [c3]; decide) (by first | (rw [c3]; done) | (rw [c3]; rfl)) (by decide) ?_
    refine lv_iload_n hx hb d_Cond_compares_73 rfl (lv_at hl 1 rfl) ?_
    refine lv_iload_n hx hb d_Cond_compares_74 rfl (lv_at hl 2 rfl) ?_
    refine lv_icmp_lt (tgt := 82) hx hb d_Cond_compares_75 (by decide) (fun c4 => ?_) (fun c4 => ?_)
    · skip
      refine lv_iconst (v := 0) hx hb d_Cond_compares_82 (by decide) ?_
      exact ly_zret hx hb hr hlocks hP hD hS d_Cond_compares_83 (by decide) (by rw [s_Cond_compares, if_neg c1, if_pos c3, if_pos c4]) rfl
    refine lv_iconst (v := 1) hx hb d_Cond_compares_78 (by decide) ?_
    refine lv_goto (tgt := 83) hx hb d_Cond_compares_79 (by decide) ?_
    exact ly_zret hx hb hr hlocks hP hD hS d_Cond_compares_83 (by decide) (by rw [s_Cond_compares, if_neg c1, if_pos c3, if_neg c4]) rfl
  by_cases c5 : x = 19
  · skip
    refine lv_tableIn (off := 94) (tgt := 95) hx hb d_Cond_compares_1 (by rw [c5]; decide) (by rw [c5]; decide) (by first | (rw [c5]; done) | (rw [c5]; rfl)) (by decide) ?_
    refine lv_iload_n hx hb d_Cond_compares_95 rfl (lv_at hl 1 rfl) ?_
    refine lv_iload_n hx hb d_Cond_compares_96 rfl (lv_at hl 2 rfl) ?_
    refine lv_icmp_eq (tgt := 104) hx hb d_Cond_compares_97 (by decide) (fun c6 => ?_) (fun c6 => ?_)
    · skip
      refine lv_iconst (v := 0) hx hb d_Cond_compares_104 (by decide) ?_
      exact ly_zret hx hb hr hlocks hP hD hS d_Cond_compares_105 (by decide) (by rw [s_Cond_compares, if_neg c1, if_neg c3, if_pos c5, if_pos c6]) rfl
    refine lv_iconst (v := 1) hx hb d_Cond_compares_100 (by decide) ?_
    refine lv_goto (tgt := 105) hx hb d_Cond_compares_101 (by decide) ?_
    exact ly_zret hx hb hr hlocks hP hD hS d_Cond_compares_105 (by decide) (by rw [s_Cond_compares, if_neg c1, if_neg c3, if_pos c5, if_neg c6]) rfl
  by_cases c7 : x = 20
  · skip
    refine lv_tableIn (off := 39) (tgt := 40) hx hb d_Cond_compares_1 (by rw [c7]; decide) (by rw [c7]; decide) (by first | (rw [c7]; done) | (rw [c7]; rfl)) (by decide) ?_
    refine lv_iload_n hx hb d_Cond_compares_40 rfl (lv_at hl 1 rfl) ?_
    refine lv_iload_n hx hb d_Cond_compares_41 rfl (lv_at hl 2 rfl) ?_
    refine lv_icmp_ge (tgt := 49) hx hb d_Cond_compares_42 (by decide) (fun c8 => ?_) (fun c8 => ?_)
    · skip
      refine lv_iconst (v := 0) hx hb d_Cond_compares_49 (by decide) ?_
      exact ly_zret hx hb hr hlocks hP hD hS d_Cond_compares_50 (by decide) (by rw [s_Cond_compares, if_neg c1, if_neg c3, if_neg c5, if_pos c7, if_pos c8]) rfl
    refine lv_iconst (v := 1) hx hb d_Cond_compares_45 (by decide) ?_
    refine lv_goto (tgt := 50) hx hb d_Cond_compares_46 (by decide) ?_
    exact ly_zret hx hb hr hlocks hP hD hS d_Cond_compares_50 (by decide) (by rw [s_Cond_compares, if_neg c1, if_neg c3, if_neg c5, if_pos c7, if_neg c8]) rfl
  by_cases c9 : x = 21
  · skip
    refine lv_tableIn (off := 50) (tgt := 51) hx hb d_Cond_compares_1 (by rw [c9]; decide) (by rw [c9]; decide) (by first | (rw [c9]; done) | (rw [c9]; rfl)) (by decide) ?_
    refine lv_iload_n hx hb d_Cond_compares_51 rfl (lv_at hl 1 rfl) ?_
    refine lv_iload_n hx hb d_Cond_compares_52 rfl (lv_at hl 2 rfl) ?_
    refine lv_icmp_le (tgt := 60) hx hb d_Cond_compares_53 (by decide) (fun c10 => ?_) (fun c10 => ?_)
    · skip
      refine lv_iconst (v := 0) hx hb d_Cond_compares_60 (by decide) ?_
      exact ly_zret hx hb hr hlocks hP hD hS d_Cond_compares_61 (by decide) (by rw [s_Cond_compares, if_neg c1, if_neg c3, if_neg c5, if_neg c7, if_pos c9, if_pos c10]) rfl
    refine lv_iconst (v := 1) hx hb d_Cond_compares_56 (by decide) ?_
    refine lv_goto (tgt := 61) hx hb d_Cond_compares_57 (by decide) ?_
    exact ly_zret hx hb hr hlocks hP hD hS d_Cond_compares_61 (by decide) (by rw [s_Cond_compares, if_neg c1, if_neg c3, if_neg c5, if_neg c7, if_pos c9, if_neg c10]) rfl
  by_cases c11 : x = 22
  · skip
    refine lv_tableIn (off := 83) (tgt := 84) hx hb d_Cond_compares_1 (by rw [c11]; decide) (by rw [c11]; decide) (by first | (rw [c11]; done) | (rw [c11]; rfl)) (by decide) ?_
    refine lv_iload_n hx hb d_Cond_compares_84 rfl (lv_at hl 1 rfl) ?_
    refine lv_iload_n hx hb d_Cond_compares_85 rfl (lv_at hl 2 rfl) ?_
    refine lv_icmp_ne (tgt := 93) hx hb d_Cond_compares_86 (by decide) (fun c12 => ?_) (fun c12 => ?_)
    · skip
      refine lv_iconst (v := 0) hx hb d_Cond_compares_93 (by decide) ?_
      exact ly_zret hx hb hr hlocks hP hD hS d_Cond_compares_94 (by decide) (by rw [s_Cond_compares, if_neg c1, if_neg c3, if_neg c5, if_neg c7, if_neg c9, if_pos c11, if_neg c12]) rfl
    refine lv_iconst (v := 1) hx hb d_Cond_compares_89 (by decide) ?_
    refine lv_goto (tgt := 94) hx hb d_Cond_compares_90 (by decide) ?_
    exact ly_zret hx hb hr hlocks hP hD hS d_Cond_compares_94 (by decide) (by rw [s_Cond_compares, if_neg c1, if_neg c3, if_neg c5, if_neg c7, if_neg c9, if_pos c11, if_pos c12]) rfl
  refine lv_tableOut (tgt := 95) hx hb d_Cond_compares_1 (by have gc1 := ly_ne c1 (by decide : (17 : Int32).toInt = 17); have gc3 := ly_ne c3 (by decide : (18 : Int32).toInt = 18); have gc5 := ly_ne c5 (by decide : (19 : Int32).toInt = 19); have gc7 := ly_ne c7 (by decide : (20 : Int32).toInt = 20); have gc9 := ly_ne c9 (by decide : (21 : Int32).toInt = 21); have gc11 := ly_ne c11 (by decide : (22 : Int32).toInt = 22); omega) (by decide) ?_
  refine lv_iload_n hx hb d_Cond_compares_95 rfl (lv_at hl 1 rfl) ?_
  refine lv_iload_n hx hb d_Cond_compares_96 rfl (lv_at hl 2 rfl) ?_
  refine lv_icmp_eq (tgt := 104) hx hb d_Cond_compares_97 (by decide) (fun c13 => ?_) (fun c13 => ?_)
  · skip
    refine lv_iconst (v := 0) hx hb d_Cond_compares_104 (by decide) ?_
    exact ly_zret hx hb hr hlocks hP hD hS d_Cond_compares_105 (by decide) (by rw [s_Cond_compares, if_neg c1, if_neg c3, if_neg c5, if_neg c7, if_neg c9, if_neg c11, if_pos c13]) rfl
  refine lv_iconst (v := 1) hx hb d_Cond_compares_100 (by decide) ?_
  refine lv_goto (tgt := 105) hx hb d_Cond_compares_101 (by decide) ?_
  exact ly_zret hx hb hr hlocks hP hD hS d_Cond_compares_105 (by decide) (by rw [s_Cond_compares, if_neg c1, if_neg c3, if_neg c5, if_neg c7, if_neg c9, if_neg c11, if_neg c13]) rfl

set_option maxHeartbeats 4000000 in
set_option maxRecDepth 100000 in
theorem c_Cond_joined (l : Launch) (G : GG)  (x : Int32) (z : Int32) (v : Int32) : Det l G y_Cond_joined w_Cond_joined (rmD 1) 0 0 [.int x, .int z, .int v] [] (some (.int (s_Cond_joined x z v))) [] := by
  refine Det.of (cc := b_Cond_joined) (maxL := 3) (ret := (some .int)) (by decide) rfl (Nat.le_of_ble_eq_true rfl) ?_
  intro p e s m args below meth c A ls hx hb hr hml hown hts hlocks hin hA hK hZ hP hD hS hl
  have hts : ∀ w ∈ wG, w.before args s = true := fun w h => hts w (List.mem_cons_of_mem _ h)
  have hown : s.vm.findClass R_Cond = some m.cls := hown
  have hl : lv_has ls 3 [(0, .int x), (1, .int z), (2, .int v)] := hl
  refine lv_iload_n hx hb d_Cond_joined_0 rfl (lv_at hl 0 rfl) ?_
  by_cases c1 : x = 14
  · skip
    refine lv_tableIn (off := 75) (tgt := 76) hx hb d_Cond_joined_1 (by rw [c1]; decide) (by rw [c1]; decide) (by first | (rw [c1]; done) | (rw [c1]; rfl)) (by decide) ?_
    refine lv_iload_n hx hb d_Cond_joined_76 rfl (lv_at hl 1 rfl) ?_
    refine lv_iload_n hx hb d_Cond_joined_77 rfl (lv_at hl 2 rfl) ?_
    refine lv_iand hx hb d_Cond_joined_78 ?_
    exact ly_iret hx hb hr hlocks hP hD hS d_Cond_joined_79 (by rw [s_Cond_joined, if_pos c1]) rfl
  by_cases c2 : x = 15
  · skip
    refine lv_tableIn (off := 79) (tgt := 80) hx hb d_Cond_joined_1 (by rw [c2]; decide) (by rw [c2]; decide) (by first | (rw [c2]; done) | (rw [c2]; rfl)) (by decide) ?_
    refine lv_iload_n hx hb d_Cond_joined_80 rfl (lv_at hl 1 rfl) ?_
    refine lv_iload_n hx hb d_Cond_joined_81 rfl (lv_at hl 2 rfl) ?_
    refine lv_ior hx hb d_Cond_joined_82 ?_
    exact ly_iret hx hb hr hlocks hP hD hS d_Cond_joined_83 (by rw [s_Cond_joined, if_neg c1, if_pos c2]) rfl
  by_cases c3 : x = 16
  · skip
    refine lv_tableIn (off := 83) (tgt := 84) hx hb d_Cond_joined_1 (by rw [c3]; decide) (by rw [c3]; decide) (by first | (rw [c3]; done) | (rw [c3]; rfl)) (by decide) ?_
    refine lv_iload_n hx hb d_Cond_joined_84 rfl (lv_at hl 0 rfl) ?_
    refine lv_iload_n hx hb d_Cond_joined_85 rfl (lv_at hl 1 rfl) ?_
    refine lv_iload_n hx hb d_Cond_joined_86 rfl (lv_at hl 2 rfl) ?_
    obtain ⟨r1, hr1⟩ : ∃ r, (s_Cond_compares x z v) = r := ⟨_, rfl⟩
    have hC_r1 := (c_Cond_compares l G x z v)
    rw [hr1] at hC_r1
    have hf_r1_1 : isB r1 := by rw [← hr1]; exact z_Cond_compares
    refine ly_callS (rest := []) (wf := []) ⟨hx, hb, hml, hown, hts⟩ hA hK hZ hP hD hS hC_r1 (cwS 3 hts g_Cond_61 rfl rfl rfl (by decide +kernel) ⟨Nat.le_of_ble_eq_true rfl, Nat.le_of_ble_eq_true rfl⟩) [] rfl (by decide) rfl rfl rfl hl.1 rfl (Nat.le_of_ble_eq_true rfl) d_Cond_joined_87 ⟨Nat.le_of_ble_eq_true rfl, Nat.le_of_ble_eq_true rfl⟩ (st1 := [.int r1]) (c1 := 0) (s1 := 0) rfl rfl rfl (fun H locs hP hD hS => ?_)
    refine lv_if_eq (tgt := 97) hx hb d_Cond_joined_90 (by decide) (fun c4 => ?_) (fun c4 => ?_)
    · skip
      refine lv_iconst (v := 0) hx hb d_Cond_joined_97 (by decide) ?_
      exact ly_iret hx hb hr hlocks hP hD hS d_Cond_joined_98 (by rw [s_Cond_joined] <;> simp only [hr1] <;> rw [if_neg c1, if_neg c2, if_pos c3, if_pos c4]) rfl
    refine lv_iconst (v := 1) hx hb d_Cond_joined_93 (by decide) ?_
    refine lv_goto (tgt := 98) hx hb d_Cond_joined_94 (by decide) ?_
    exact ly_iret hx hb hr hlocks hP hD hS d_Cond_joined_98 (by rw [s_Cond_joined] <;> simp only [hr1] <;> rw [if_neg c1, if_neg c2, if_pos c3, if_neg c4]) rfl
  by_cases c5 : x = 17
  · skip
    refine lv_tableIn (off := 83) (tgt := 84) hx hb d_Cond_joined_1 (by rw [c5]; decide) (by rw [c5]; decide) (by first | (rw [c5]; done) | (rw [c5]; rfl)) (by decide) ?_
    refine lv_iload_n hx hb d_Cond_joined_84 rfl (lv_at hl 0 rfl) ?_
    refine lv_iload_n hx hb d_Cond_joined_85 rfl (lv_at hl 1 rfl) ?_
    refine lv_iload_n hx hb d_Cond_joined_86 rfl (lv_at hl 2 rfl) ?_
    obtain ⟨r2, hr2⟩ : ∃ r, (s_Cond_compares x z v) = r := ⟨_, rfl⟩
    have hC_r2 := (c_Cond_compares l G x z v)
    rw [hr2] at hC_r2
    have hf_r2_1 : isB r2 := by rw [← hr2]; exact z_Cond_compares
    refine ly_callS (rest := []) (wf := []) ⟨hx, hb, hml, hown, hts⟩ hA hK hZ hP hD hS hC_r2 (cwS 3 hts g_Cond_61 rfl rfl rfl (by decide +kernel) ⟨Nat.le_of_ble_eq_true rfl, Nat.le_of_ble_eq_true rfl⟩) [] rfl (by decide) rfl rfl rfl hl.1 rfl (Nat.le_of_ble_eq_true rfl) d_Cond_joined_87 ⟨Nat.le_of_ble_eq_true rfl, Nat.le_of_ble_eq_true rfl⟩ (st1 := [.int r2]) (c1 := 0) (s1 := 0) rfl rfl rfl (fun H locs hP hD hS => ?_)
    refine lv_if_eq (tgt := 97) hx hb d_Cond_joined_90 (by decide) (fun c6 => ?_) (fun c6 => ?_)
    · skip
      refine lv_iconst (v := 0) hx hb d_Cond_joined_97 (by decide) ?_
      exact ly_iret hx hb hr hlocks hP hD hS d_Cond_joined_98 (by rw [s_Cond_joined] <;> simp only [hr2] <;> rw [if_neg c1, if_neg c2, if_neg c3, if_pos c5, if_pos c6]) rfl
    refine lv_iconst (v := 1) hx hb d_Cond_joined_93 (by decide) ?_
    refine lv_goto (tgt := 98) hx hb d_Cond_joined_94 (by decide) ?_
    exact ly_iret hx hb hr hlocks hP hD hS d_Cond_joined_98 (by rw [s_Cond_joined] <;> simp only [hr2] <;> rw [if_neg c1, if_neg c2, if_neg c3, if_pos c5, if_neg c6]) rfl
  by_cases c7 : x = 18
  · skip
    refine lv_tableIn (off := 83) (tgt := 84) hx hb d_Cond_joined_1 (by rw [c7]; decide) (by rw [c7]; decide) (by first | (rw [c7]; done) | (rw [c7]; rfl)) (by decide) ?_
    refine lv_iload_n hx hb d_Cond_joined_84 rfl (lv_at hl 0 rfl) ?_
    refine lv_iload_n hx hb d_Cond_joined_85 rfl (lv_at hl 1 rfl) ?_
    refine lv_iload_n hx hb d_Cond_joined_86 rfl (lv_at hl 2 rfl) ?_
    obtain ⟨r3, hr3⟩ : ∃ r, (s_Cond_compares x z v) = r := ⟨_, rfl⟩
    have hC_r3 := (c_Cond_compares l G x z v)
    rw [hr3] at hC_r3
    have hf_r3_1 : isB r3 := by rw [← hr3]; exact z_Cond_compares
    refine ly_callS (rest := []) (wf := []) ⟨hx, hb, hml, hown, hts⟩ hA hK hZ hP hD hS hC_r3 (cwS 3 hts g_Cond_61 rfl rfl rfl (by decide +kernel) ⟨Nat.le_of_ble_eq_true rfl, Nat.le_of_ble_eq_true rfl⟩) [] rfl (by decide) rfl rfl rfl hl.1 rfl (Nat.le_of_ble_eq_true rfl) d_Cond_joined_87 ⟨Nat.le_of_ble_eq_true rfl, Nat.le_of_ble_eq_true rfl⟩ (st1 := [.int r3]) (c1 := 0) (s1 := 0) rfl rfl rfl (fun H locs hP hD hS => ?_)
    refine lv_if_eq (tgt := 97) hx hb d_Cond_joined_90 (by decide) (fun c8 => ?_) (fun c8 => ?_)
    · skip
      refine lv_iconst (v := 0) hx hb d_Cond_joined_97 (by decide) ?_
      exact ly_iret hx hb hr hlocks hP hD hS d_Cond_joined_98 (by rw [s_Cond_joined] <;> simp only [hr3] <;> rw [if_neg c1, if_neg c2, if_neg c3, if_neg c5, if_pos c7, if_pos c8]) rfl
    refine lv_iconst (v := 1) hx hb d_Cond_joined_93 (by decide) ?_
    refine lv_goto (tgt := 98) hx hb d_Cond_joined_94 (by decide) ?_
    exact ly_iret hx hb hr hlocks hP hD hS d_Cond_joined_98 (by rw [s_Cond_joined] <;> simp only [hr3] <;> rw [if_neg c1, if_neg c2, if_neg c3, if_neg c5, if_pos c7, if_neg c8]) rfl
  by_cases c9 : x = 19
  · skip
    refine lv_tableIn (off := 83) (tgt := 84) hx hb d_Cond_joined_1 (by rw [c9]; decide) (by rw [c9]; decide) (by first | (rw [c9]; done) | (rw [c9]; rfl)) (by decide) ?_
    refine lv_iload_n hx hb d_Cond_joined_84 rfl (lv_at hl 0 rfl) ?_
    refine lv_iload_n hx hb d_Cond_joined_85 rfl (lv_at hl 1 rfl) ?_
    refine lv_iload_n hx hb d_Cond_joined_86 rfl (lv_at hl 2 rfl) ?_
    obtain ⟨r4, hr4⟩ : ∃ r, (s_Cond_compares x z v) = r := ⟨_, rfl⟩
    have hC_r4 := (c_Cond_compares l G x z v)
    rw [hr4] at hC_r4
    have hf_r4_1 : isB r4 := by rw [← hr4]; exact z_Cond_compares
    refine ly_callS (rest := []) (wf := []) ⟨hx, hb, hml, hown, hts⟩ hA hK hZ hP hD hS hC_r4 (cwS 3 hts g_Cond_61 rfl rfl rfl (by decide +kernel) ⟨Nat.le_of_ble_eq_true rfl, Nat.le_of_ble_eq_true rfl⟩) [] rfl (by decide) rfl rfl rfl hl.1 rfl (Nat.le_of_ble_eq_true rfl) d_Cond_joined_87 ⟨Nat.le_of_ble_eq_true rfl, Nat.le_of_ble_eq_true rfl⟩ (st1 := [.int r4]) (c1 := 0) (s1 := 0) rfl rfl rfl (fun H locs hP hD hS => ?_)
    refine lv_if_eq (tgt := 97) hx hb d_Cond_joined_90 (by decide) (fun c10 => ?_) (fun c10 => ?_)
    · skip
      refine lv_iconst (v := 0) hx hb d_Cond_joined_97 (by decide) ?_
      exact ly_iret hx hb hr hlocks hP hD hS d_Cond_joined_98 (by rw [s_Cond_joined] <;> simp only [hr4] <;> rw [if_neg c1, if_neg c2, if_neg c3, if_neg c5, if_neg c7, if_pos c9, if_pos c10]) rfl
    refine lv_iconst (v := 1) hx hb d_Cond_joined_93 (by decide) ?_
    refine lv_goto (tgt := 98) hx hb d_Cond_joined_94 (by decide) ?_
    exact ly_iret hx hb hr hlocks hP hD hS d_Cond_joined_98 (by rw [s_Cond_joined] <;> simp only [hr4] <;> rw [if_neg c1, if_neg c2, if_neg c3, if_neg c5, if_neg c7, if_pos c9, if_neg c10]) rfl
  by_cases c11 : x = 20
  · skip
    refine lv_tableIn (off := 83) (tgt := 84) hx hb d_Cond_joined_1 (by rw [c11]; decide) (by rw [c11]; decide) (by first | (rw [c11]; done) | (rw [c11]; rfl)) (by decide) ?_
    refine lv_iload_n hx hb d_Cond_joined_84 rfl (lv_at hl 0 rfl) ?_
    refine lv_iload_n hx hb d_Cond_joined_85 rfl (lv_at hl 1 rfl) ?_
    refine lv_iload_n hx hb d_Cond_joined_86 rfl (lv_at hl 2 rfl) ?_
    obtain ⟨r5, hr5⟩ : ∃ r, (s_Cond_compares x z v) = r := ⟨_, rfl⟩
    have hC_r5 := (c_Cond_compares l G x z v)
    rw [hr5] at hC_r5
    have hf_r5_1 : isB r5 := by rw [← hr5]; exact z_Cond_compares
    refine ly_callS (rest := []) (wf := []) ⟨hx, hb, hml, hown, hts⟩ hA hK hZ hP hD hS hC_r5 (cwS 3 hts g_Cond_61 rfl rfl rfl (by decide +kernel) ⟨Nat.le_of_ble_eq_true rfl, Nat.le_of_ble_eq_true rfl⟩) [] rfl (by decide) rfl rfl rfl hl.1 rfl (Nat.le_of_ble_eq_true rfl) d_Cond_joined_87 ⟨Nat.le_of_ble_eq_true rfl, Nat.le_of_ble_eq_true rfl⟩ (st1 := [.int r5]) (c1 := 0) (s1 := 0) rfl rfl rfl (fun H locs hP hD hS => ?_)
    refine lv_if_eq (tgt := 97) hx hb d_Cond_joined_90 (by decide) (fun c12 => ?_) (fun c12 => ?_)
    · skip
      refine lv_iconst (v := 0) hx hb d_Cond_joined_97 (by decide) ?_
      exact ly_iret hx hb hr hlocks hP hD hS d_Cond_joined_98 (by rw [s_Cond_joined] <;> simp only [hr5] <;> rw [if_neg c1, if_neg c2, if_neg c3, if_neg c5, if_neg c7, if_neg c9, if_pos c11, if_pos c12]) rfl
    refine lv_iconst (v := 1) hx hb d_Cond_joined_93 (by decide) ?_
    refine lv_goto (tgt := 98) hx hb d_Cond_joined_94 (by decide) ?_
    exact ly_iret hx hb hr hlocks hP hD hS d_Cond_joined_98 (by rw [s_Cond_joined] <;> simp only [hr5] <;> rw [if_neg c1, if_neg c2, if_neg c3, if_neg c5, if_neg c7, if_neg c9, if_pos c11, if_neg c12]) rfl
  by_cases c13 : x = 21
  · skip
    refine lv_tableIn (off := 83) (tgt := 84) hx hb d_Cond_joined_1 (by rw [c13]; decide) (by rw [c13]; decide) (by first | (rw [c13]; done) | (rw [c13]; rfl)) (by decide) ?_
    refine lv_iload_n hx hb d_Cond_joined_84 rfl (lv_at hl 0 rfl) ?_
    refine lv_iload_n hx hb d_Cond_joined_85 rfl (lv_at hl 1 rfl) ?_
    refine lv_iload_n hx hb d_Cond_joined_86 rfl (lv_at hl 2 rfl) ?_
    obtain ⟨r6, hr6⟩ : ∃ r, (s_Cond_compares x z v) = r := ⟨_, rfl⟩
    have hC_r6 := (c_Cond_compares l G x z v)
    rw [hr6] at hC_r6
    have hf_r6_1 : isB r6 := by rw [← hr6]; exact z_Cond_compares
    refine ly_callS (rest := []) (wf := []) ⟨hx, hb, hml, hown, hts⟩ hA hK hZ hP hD hS hC_r6 (cwS 3 hts g_Cond_61 rfl rfl rfl (by decide +kernel) ⟨Nat.le_of_ble_eq_true rfl, Nat.le_of_ble_eq_true rfl⟩) [] rfl (by decide) rfl rfl rfl hl.1 rfl (Nat.le_of_ble_eq_true rfl) d_Cond_joined_87 ⟨Nat.le_of_ble_eq_true rfl, Nat.le_of_ble_eq_true rfl⟩ (st1 := [.int r6]) (c1 := 0) (s1 := 0) rfl rfl rfl (fun H locs hP hD hS => ?_)
    refine lv_if_eq (tgt := 97) hx hb d_Cond_joined_90 (by decide) (fun c14 => ?_) (fun c14 => ?_)
    · skip
      refine lv_iconst (v := 0) hx hb d_Cond_joined_97 (by decide) ?_
      exact ly_iret hx hb hr hlocks hP hD hS d_Cond_joined_98 (by rw [s_Cond_joined] <;> simp only [hr6] <;> rw [if_neg c1, if_neg c2, if_neg c3, if_neg c5, if_neg c7, if_neg c9, if_neg c11, if_pos c13, if_pos c14]) rfl
    refine lv_iconst (v := 1) hx hb d_Cond_joined_93 (by decide) ?_
    refine lv_goto (tgt := 98) hx hb d_Cond_joined_94 (by decide) ?_
    exact ly_iret hx hb hr hlocks hP hD hS d_Cond_joined_98 (by rw [s_Cond_joined] <;> simp only [hr6] <;> rw [if_neg c1, if_neg c2, if_neg c3, if_neg c5, if_neg c7, if_neg c9, if_neg c11, if_pos c13, if_neg c14]) rfl
  by_cases c15 : x = 22
  · skip
    refine lv_tableIn (off := 83) (tgt := 84) hx hb d_Cond_joined_1 (by rw [c15]; decide) (by rw [c15]; decide) (by first | (rw [c15]; done) | (rw [c15]; rfl)) (by decide) ?_
    refine lv_iload_n hx hb d_Cond_joined_84 rfl (lv_at hl 0 rfl) ?_
    refine lv_iload_n hx hb d_Cond_joined_85 rfl (lv_at hl 1 rfl) ?_
    refine lv_iload_n hx hb d_Cond_joined_86 rfl (lv_at hl 2 rfl) ?_
    obtain ⟨r7, hr7⟩ : ∃ r, (s_Cond_compares x z v) = r := ⟨_, rfl⟩
    have hC_r7 := (c_Cond_compares l G x z v)
    rw [hr7] at hC_r7
    have hf_r7_1 : isB r7 := by rw [← hr7]; exact z_Cond_compares
    refine ly_callS (rest := []) (wf := []) ⟨hx, hb, hml, hown, hts⟩ hA hK hZ hP hD hS hC_r7 (cwS 3 hts g_Cond_61 rfl rfl rfl (by decide +kernel) ⟨Nat.le_of_ble_eq_true rfl, Nat.le_of_ble_eq_true rfl⟩) [] rfl (by decide) rfl rfl rfl hl.1 rfl (Nat.le_of_ble_eq_true rfl) d_Cond_joined_87 ⟨Nat.le_of_ble_eq_true rfl, Nat.le_of_ble_eq_true rfl⟩ (st1 := [.int r7]) (c1 := 0) (s1 := 0) rfl rfl rfl (fun H locs hP hD hS => ?_)
    refine lv_if_eq (tgt := 97) hx hb d_Cond_joined_90 (by decide) (fun c16 => ?_) (fun c16 => ?_)
    · skip
      refine lv_iconst (v := 0) hx hb d_Cond_joined_97 (by decide) ?_
      exact ly_iret hx hb hr hlocks hP hD hS d_Cond_joined_98 (by rw [s_Cond_joined] <;> simp only [hr7] <;> rw [if_neg c1, if_neg c2, if_neg c3, if_neg c5, if_neg c7, if_neg c9, if_neg c11, if_neg c13, if_pos c15, if_pos c16]) rfl
    refine lv_iconst (v := 1) hx hb d_Cond_joined_93 (by decide) ?_
    refine lv_goto (tgt := 98) hx hb d_Cond_joined_94 (by decide) ?_
    exact ly_iret hx hb hr hlocks hP hD hS d_Cond_joined_98 (by rw [s_Cond_joined] <;> simp only [hr7] <;> rw [if_neg c1, if_neg c2, if_neg c3, if_neg c5, if_neg c7, if_neg c9, if_neg c11, if_neg c13, if_pos c15, if_neg c16]) rfl
  by_cases c17 : x = 23
  · skip
    refine lv_tableIn (off := 63) (tgt := 64) hx hb d_Cond_joined_1 (by rw [c17]; decide) (by rw [c17]; decide) (by first | (rw [c17]; done) | (rw [c17]; rfl)) (by decide) ?_
    refine lv_iload_n hx hb d_Cond_joined_64 rfl (lv_at hl 1 rfl) ?_
    refine lv_iload_n hx hb d_Cond_joined_65 rfl (lv_at hl 2 rfl) ?_
    refine lv_iadd hx hb d_Cond_joined_66 ?_
    exact ly_iret hx hb hr hlocks hP hD hS d_Cond_joined_67 (by rw [s_Cond_joined, if_neg c1, if_neg c2, if_neg c3, if_neg c5, if_neg c7, if_neg c9, if_neg c11, if_neg c13, if_neg c15, if_pos c17]) rfl
  by_cases c18 : x = 24
  · skip
    refine lv_tableIn (off := 67) (tgt := 68) hx hb d_Cond_joined_1 (by rw [c18]; decide) (by rw [c18]; decide) (by first | (rw [c18]; done) | (rw [c18]; rfl)) (by decide) ?_
    refine lv_iload_n hx hb d_Cond_joined_68 rfl (lv_at hl 1 rfl) ?_
    refine lv_iload_n hx hb d_Cond_joined_69 rfl (lv_at hl 2 rfl) ?_
    refine lv_isub hx hb d_Cond_joined_70 ?_
    exact ly_iret hx hb hr hlocks hP hD hS d_Cond_joined_71 (by rw [s_Cond_joined, if_neg c1, if_neg c2, if_neg c3, if_neg c5, if_neg c7, if_neg c9, if_neg c11, if_neg c13, if_neg c15, if_neg c17, if_pos c18]) rfl
  by_cases c19 : x = 25
  · skip
    refine lv_tableIn (off := 71) (tgt := 72) hx hb d_Cond_joined_1 (by rw [c19]; decide) (by rw [c19]; decide) (by first | (rw [c19]; done) | (rw [c19]; rfl)) (by decide) ?_
    refine lv_iload_n hx hb d_Cond_joined_72 rfl (lv_at hl 1 rfl) ?_
    refine lv_iload_n hx hb d_Cond_joined_73 rfl (lv_at hl 2 rfl) ?_
    refine lv_imul hx hb d_Cond_joined_74 ?_
    exact ly_iret hx hb hr hlocks hP hD hS d_Cond_joined_75 (by rw [s_Cond_joined, if_neg c1, if_neg c2, if_neg c3, if_neg c5, if_neg c7, if_neg c9, if_neg c11, if_neg c13, if_neg c15, if_neg c17, if_neg c18, if_pos c19]) rfl
  refine lv_tableOut (tgt := 84) hx hb d_Cond_joined_1 (by have gc1 := ly_ne c1 (by decide : (14 : Int32).toInt = 14); have gc2 := ly_ne c2 (by decide : (15 : Int32).toInt = 15); have gc3 := ly_ne c3 (by decide : (16 : Int32).toInt = 16); have gc5 := ly_ne c5 (by decide : (17 : Int32).toInt = 17); have gc7 := ly_ne c7 (by decide : (18 : Int32).toInt = 18); have gc9 := ly_ne c9 (by decide : (19 : Int32).toInt = 19); have gc11 := ly_ne c11 (by decide : (20 : Int32).toInt = 20); have gc13 := ly_ne c13 (by decide : (21 : Int32).toInt = 21); have gc15 := ly_ne c15 (by decide : (22 : Int32).toInt = 22); have gc17 := ly_ne c17 (by decide : (23 : Int32).toInt = 23); have gc18 := ly_ne c18 (by decide : (24 : Int32).toInt = 24); have gc19 := ly_ne c19 (by decide : (25 : Int32).toInt = 25); omega) (by decide) ?_
  refine lv_iload_n hx hb d_Cond_joined_84 rfl (lv_at hl 0 rfl) ?_
  refine lv_iload_n hx hb d_Cond_joined_85 rfl (lv_at hl 1 rfl) ?_
  refine lv_iload_n hx hb d_Cond_joined_86 rfl (lv_at hl 2 rfl) ?_
  obtain ⟨r8, hr8⟩ : ∃ r, (s_Cond_compares x z v) = r := ⟨_, rfl⟩
  have hC_r8 := (c_Cond_compares l G x z v)
  rw [hr8] at hC_r8
  have hf_r8_1 : isB r8 := by rw [← hr8]; exact z_Cond_compares
  refine ly_callS (rest := []) (wf := []) ⟨hx, hb, hml, hown, hts⟩ hA hK hZ hP hD hS hC_r8 (cwS 3 hts g_Cond_61 rfl rfl rfl (by decide +kernel) ⟨Nat.le_of_ble_eq_true rfl, Nat.le_of_ble_eq_true rfl⟩) [] rfl (by decide) rfl rfl rfl hl.1 rfl (Nat.le_of_ble_eq_true rfl) d_Cond_joined_87 ⟨Nat.le_of_ble_eq_true rfl, Nat.le_of_ble_eq_true rfl⟩ (st1 := [.int r8]) (c1 := 0) (s1 := 0) rfl rfl rfl (fun H locs hP hD hS => ?_)
  refine lv_if_eq (tgt := 97) hx hb d_Cond_joined_90 (by decide) (fun c20 => ?_) (fun c20 => ?_)
  · skip
    refine lv_iconst (v := 0) hx hb d_Cond_joined_97 (by decide) ?_
    exact ly_iret hx hb hr hlocks hP hD hS d_Cond_joined_98 (by rw [s_Cond_joined] <;> simp only [hr8] <;> rw [if_neg c1, if_neg c2, if_neg c3, if_neg c5, if_neg c7, if_neg c9, if_neg c11, if_neg c13, if_neg c15, if_neg c17, if_neg c18, if_neg c19, if_pos c20]) rfl
  refine lv_iconst (v := 1) hx hb d_Cond_joined_93 (by decide) ?_
  refine lv_goto (tgt := 98) hx hb d_Cond_joined_94 (by decide) ?_
  exact ly_iret hx hb hr hlocks hP hD hS d_Cond_joined_98 (by rw [s_Cond_joined] <;> simp only [hr8] <;> rw [if_neg c1, if_neg c2, if_neg c3, if_neg c5, if_neg c7, if_neg c9, if_neg c11, if_neg c13, if_neg c15, if_neg c17, if_neg c18, if_neg c19, if_neg c20]) rfl

theorem k_take {f : Nat → Int32} {v : Int32} {ho tb : Nat → Int32} {x z row : Int32} (hz : up v 64) : up (s_Cond_take f v ho tb x z row).1 64 := by
  unfold s_Cond_take
  dsimp only
  repeat' split
  all_goals first | exact k_push hz | exact k_push (k_pop hz) | exact k_push (k_pop (k_pop hz))
set_option maxHeartbeats 4000000 in
set_option maxRecDepth 100000 in
theorem c_Cond_take (l : Launch) (G : GG) (h : Nat) (a_steps : Nat) (a_values : Nat) (a_stack : Nat) (a_holding : Nat) (tb_h : Nat) (tb_a_numbers : Nat) (v_size : Int32) (f_stack : Nat → Int32) (v_height : Int32) (f_holding : Nat → Int32) (tb_f_numbers : Nat → Int32) (tb__rows : Int32) (x : Int32) (z : Int32) (row : Int32) (hz_v_height : up v_height 64) : Det l G y_Cond_take w_Cond_take (rmD 2) 0 0 [.ref h, .int x, .int z, .ref tb_h, .int row] [(h, .inr (8, [.ref a_steps, .ref a_values, .int v_size, .ref a_stack, .int v_height, .ref a_holding])), (a_stack, .inl (gI G, 64, .inl f_stack)), (a_holding, .inl (gZ G, 10, .inl f_holding)), (tb_h, .inr (1, [.ref tb_a_numbers, .int tb__rows])), (tb_a_numbers, .inl (gI G, 360, .inl tb_f_numbers))] none [(h, .inr (8, [.ref a_steps, .ref a_values, .int v_size, .ref a_stack, .int (s_Cond_take f_stack v_height f_holding tb_f_numbers x z row).1, .ref a_holding])), (a_stack, .inl (gI G, 64, .inl (s_Cond_take f_stack v_height f_holding tb_f_numbers x z row).2)), (a_holding, .inl (gZ G, 10, .inl f_holding)), (tb_h, .inr (1, [.ref tb_a_numbers, .int tb__rows])), (tb_a_numbers, .inl (gI G, 360, .inl tb_f_numbers))] := by
  refine Det.of (cc := b_Cond_take) (maxL := 7) (ret := none) (by decide) rfl (Nat.le_of_ble_eq_true rfl) ?_
  intro p e s m args below meth c A ls hx hb hr hml hown hts hlocks hin hA hK hZ hP hD hS hl
  have hts : ∀ w ∈ wG, w.before args s = true := fun w h => hts w (List.mem_cons_of_mem _ h)
  have hown : s.vm.findClass R_Cond = some m.cls := hown
  have hl : lv_has ls 7 [(0, .ref h), (1, .int x), (2, .int z), (3, .ref tb_h), (4, .int row)] := hl
  refine lv_iload_n hx hb d_Cond_take_0 rfl (lv_at hl 1 rfl) ?_
  by_cases c1 : x = (-1)
  · skip
    refine lv_lookup (off := 107) (tgt := 108) hx hb d_Cond_take_1 (by decide) (by first | (rw [c1]; done) | (rw [c1]; rfl)) (by decide) ?_
    refine lv_aload_n hx hb d_Cond_take_108 rfl (lv_at hl 0 rfl) ?_
    refine lv_aload_n hx hb d_Cond_take_109 rfl (lv_at hl 0 rfl) ?_
    obtain ⟨r1, hr1⟩ : ∃ r, (s_Cond_pop f_stack v_height) = r := ⟨_, rfl⟩
    have hC_r1 := (c_Cond_pop l G h a_steps a_values a_stack a_holding v_size f_stack v_height hz_v_height)
    rw [hr1] at hC_r1
    have hf_r1_1 : up r1.2 64 := by rw [← hr1]; exact (k_pop hz_v_height)
    refine ly_callV (rest := [.ref h]) (wf := [(h, .inr (8, [.ref a_steps, .ref a_values, .int v_size, .ref a_stack, .int r1.2, .ref a_holding])), (a_stack, .inl (gI G, 64, .inl f_stack)), (a_holding, .inl (gZ G, 10, .inl f_holding)), (tb_h, .inr (1, [.ref tb_a_numbers, .int tb__rows])), (tb_a_numbers, .inl (gI G, 360, .inl tb_f_numbers))]) ⟨hx, hb, hml, hown, hts⟩ hA hK hZ hP hD hS hC_r1 (cwV 0 hts g_Cond_44 rfl rfl rfl (by decide +kernel) ⟨Nat.le_of_ble_eq_true rfl, Nat.le_of_ble_eq_true rfl⟩) (ci := 8) (q0 := 0) rfl rfl rfl [0, 1] rfl (by decide) rfl rfl rfl hl.1 rfl (Nat.le_of_ble_eq_true rfl) d_Cond_take_110 ⟨Nat.le_of_ble_eq_true rfl, Nat.le_of_ble_eq_true rfl⟩ (st1 := [.int r1.1, .ref h]) (c1 := 0) (s1 := 0) rfl rfl rfl (fun H locs hP hD hS => ?_)
    refine lv_ineg hx hb d_Cond_take_113 ?_
    obtain ⟨r2, hr2⟩ : ∃ r, (s_Cond_push f_stack r1.2 (-r1.1)) = r := ⟨_, rfl⟩
    have hC_r2 := (c_Cond_push l G h a_steps a_values a_stack a_holding v_size f_stack r1.2 (-r1.1) hf_r1_1)
    rw [hr2] at hC_r2
    have hf_r2_1 : up r2.1 64 := by rw [← hr2]; exact (k_push hf_r1_1)
    refine ly_callV (rest := []) (wf := [(h, .inr (8, [.ref a_steps, .ref a_values, .int v_size, .ref a_stack, .int r2.1, .ref a_holding])), (a_stack, .inl (gI G, 64, .inl r2.2)), (a_holding, .inl (gZ G, 10, .inl f_holding)), (tb_h, .inr (1, [.ref tb_a_numbers, .int tb__rows])), (tb_a_numbers, .inl (gI G, 360, .inl tb_f_numbers))]) ⟨hx, hb, hml, hown, hts⟩ hA hK hZ hP hD hS hC_r2 (cwV 1 hts g_Cond_48 rfl rfl rfl (by decide +kernel) ⟨Nat.le_of_ble_eq_true rfl, Nat.le_of_ble_eq_true rfl⟩) (ci := 8) (q0 := 0) rfl rfl rfl [0, 1] rfl (by decide) rfl rfl rfl hl.1 rfl (Nat.le_of_ble_eq_true rfl) d_Cond_take_114 ⟨Nat.le_of_ble_eq_true rfl, Nat.le_of_ble_eq_true rfl⟩ (st1 := []) (c1 := 0) (s1 := 0) rfl rfl rfl (fun H locs hP hD hS => ?_)
    refine lv_goto (tgt := 157) hx hb d_Cond_take_117 (by decide) ?_
    exact ly_vret hx hb hr hlocks hP hD hS d_Cond_take_157 rfl (by rw [s_Cond_take] <;> simp only [hr1, hr2] <;> rw [if_pos c1])
  by_cases c2 : x = 2
  · skip
    refine lv_lookup (off := 51) (tgt := 52) hx hb d_Cond_take_1 (by decide) (by first | (rw [c2]; done) | (rw [c2]; rfl)) (by decide) ?_
    refine lv_aload_n hx hb d_Cond_take_52 rfl (lv_at hl 0 rfl) ?_
    refine lv_iload_n hx hb d_Cond_take_53 rfl (lv_at hl 2 rfl) ?_
    obtain ⟨r3, hr3⟩ : ∃ r, (s_Cond_push f_stack v_height z) = r := ⟨_, rfl⟩
    have hC_r3 := (c_Cond_push l G h a_steps a_values a_stack a_holding v_size f_stack v_height z hz_v_height)
    rw [hr3] at hC_r3
    have hf_r3_1 : up r3.1 64 := by rw [← hr3]; exact (k_push hz_v_height)
    refine ly_callV (rest := []) (wf := [(h, .inr (8, [.ref a_steps, .ref a_values, .int v_size, .ref a_stack, .int r3.1, .ref a_holding])), (a_stack, .inl (gI G, 64, .inl r3.2)), (a_holding, .inl (gZ G, 10, .inl f_holding)), (tb_h, .inr (1, [.ref tb_a_numbers, .int tb__rows])), (tb_a_numbers, .inl (gI G, 360, .inl tb_f_numbers))]) ⟨hx, hb, hml, hown, hts⟩ hA hK hZ hP hD hS hC_r3 (cwV 1 hts g_Cond_48 rfl rfl rfl (by decide +kernel) ⟨Nat.le_of_ble_eq_true rfl, Nat.le_of_ble_eq_true rfl⟩) (ci := 8) (q0 := 0) rfl rfl rfl [0, 1] rfl (by decide) rfl rfl rfl hl.1 rfl (Nat.le_of_ble_eq_true rfl) d_Cond_take_54 ⟨Nat.le_of_ble_eq_true rfl, Nat.le_of_ble_eq_true rfl⟩ (st1 := []) (c1 := 0) (s1 := 0) rfl rfl rfl (fun H locs hP hD hS => ?_)
    refine lv_goto (tgt := 157) hx hb d_Cond_take_57 (by decide) ?_
    exact ly_vret hx hb hr hlocks hP hD hS d_Cond_take_157 rfl (by rw [s_Cond_take] <;> simp only [hr3] <;> rw [if_neg c1, if_pos c2])
  by_cases c3 : x = 3
  · skip
    refine lv_lookup (off := 59) (tgt := 60) hx hb d_Cond_take_1 (by decide) (by first | (rw [c3]; done) | (rw [c3]; rfl)) (by decide) ?_
    refine lv_aload_n hx hb d_Cond_take_60 rfl (lv_at hl 0 rfl) ?_
    refine lv_aload_n hx hb d_Cond_take_61 rfl (lv_at hl 3 rfl) ?_
    refine lv_iload hx hb d_Cond_take_62 (lv_at hl 4 rfl) ?_
    refine lv_iload_n hx hb d_Cond_take_64 rfl (lv_at hl 2 rfl) ?_
    obtain ⟨r4, hr4⟩ : ∃ r, (s_Tab_at tb_f_numbers row z) = r := ⟨_, rfl⟩
    have hC_r4 := (c_Tab_at l G tb_h tb_a_numbers tb_f_numbers tb__rows row z)
    rw [hr4] at hC_r4
    refine ly_callV (rest := [.ref h]) (wf := [(h, .inr (8, [.ref a_steps, .ref a_values, .int v_size, .ref a_stack, .int v_height, .ref a_holding])), (a_stack, .inl (gI G, 64, .inl f_stack)), (a_holding, .inl (gZ G, 10, .inl f_holding)), (tb_h, .inr (1, [.ref tb_a_numbers, .int tb__rows])), (tb_a_numbers, .inl (gI G, 360, .inl tb_f_numbers))]) ⟨hx, hb, hml, hown, hts⟩ hA hK hZ hP hD hS hC_r4 (cwV 2 hts g_Cond_52 rfl rfl rfl (by decide +kernel) ⟨Nat.le_of_ble_eq_true rfl, Nat.le_of_ble_eq_true rfl⟩) (ci := 1) (q0 := 3) rfl rfl rfl [3, 4] rfl (by decide) rfl rfl rfl hl.1 rfl (Nat.le_of_ble_eq_true rfl) d_Cond_take_65 ⟨Nat.le_of_ble_eq_true rfl, Nat.le_of_ble_eq_true rfl⟩ (st1 := [.int r4, .ref h]) (c1 := 0) (s1 := 0) rfl rfl rfl (fun H locs hP hD hS => ?_)
    obtain ⟨r5, hr5⟩ : ∃ r, (s_Cond_push f_stack v_height r4) = r := ⟨_, rfl⟩
    have hC_r5 := (c_Cond_push l G h a_steps a_values a_stack a_holding v_size f_stack v_height r4 hz_v_height)
    rw [hr5] at hC_r5
    have hf_r5_1 : up r5.1 64 := by rw [← hr5]; exact (k_push hz_v_height)
    refine ly_callV (rest := []) (wf := [(h, .inr (8, [.ref a_steps, .ref a_values, .int v_size, .ref a_stack, .int r5.1, .ref a_holding])), (a_stack, .inl (gI G, 64, .inl r5.2)), (a_holding, .inl (gZ G, 10, .inl f_holding)), (tb_h, .inr (1, [.ref tb_a_numbers, .int tb__rows])), (tb_a_numbers, .inl (gI G, 360, .inl tb_f_numbers))]) ⟨hx, hb, hml, hown, hts⟩ hA hK hZ hP hD hS hC_r5 (cwV 1 hts g_Cond_48 rfl rfl rfl (by decide +kernel) ⟨Nat.le_of_ble_eq_true rfl, Nat.le_of_ble_eq_true rfl⟩) (ci := 8) (q0 := 0) rfl rfl rfl [0, 1] rfl (by decide) rfl rfl rfl hl.1 rfl (Nat.le_of_ble_eq_true rfl) d_Cond_take_68 ⟨Nat.le_of_ble_eq_true rfl, Nat.le_of_ble_eq_true rfl⟩ (st1 := []) (c1 := 0) (s1 := 0) rfl rfl rfl (fun H locs hP hD hS => ?_)
    refine lv_goto (tgt := 157) hx hb d_Cond_take_71 (by decide) ?_
    exact ly_vret hx hb hr hlocks hP hD hS d_Cond_take_157 rfl (by rw [s_Cond_take] <;> simp only [hr4, hr5] <;> rw [if_neg c1, if_neg c2, if_pos c3])
  by_cases c4 : x = 4
  · skip
    refine lv_lookup (off := 73) (tgt := 74) hx hb d_Cond_take_1 (by decide) (by first | (rw [c4]; done) | (rw [c4]; rfl)) (by decide) ?_
    refine lv_aload_n hx hb d_Cond_take_74 rfl (lv_at hl 0 rfl) ?_
    refine lv_iload_n hx hb d_Cond_take_75 rfl (lv_at hl 2 rfl) ?_
    refine lv_if_lt (tgt := 101) hx hb d_Cond_take_76 (by decide) (fun c5 => ?_) (fun c5 => ?_)
    · skip
      refine lv_iconst (v := 0) hx hb d_Cond_take_101 (by decide) ?_
      obtain ⟨r6, hr6⟩ : ∃ r, (s_Cond_push f_stack v_height 0) = r := ⟨_, rfl⟩
      have hC_r6 := (c_Cond_push l G h a_steps a_values a_stack a_holding v_size f_stack v_height 0 hz_v_height)
      rw [hr6] at hC_r6
      have hf_r6_1 : up r6.1 64 := by rw [← hr6]; exact (k_push hz_v_height)
      refine ly_callV (rest := []) (wf := [(h, .inr (8, [.ref a_steps, .ref a_values, .int v_size, .ref a_stack, .int r6.1, .ref a_holding])), (a_stack, .inl (gI G, 64, .inl r6.2)), (a_holding, .inl (gZ G, 10, .inl f_holding)), (tb_h, .inr (1, [.ref tb_a_numbers, .int tb__rows])), (tb_a_numbers, .inl (gI G, 360, .inl tb_f_numbers))]) ⟨hx, hb, hml, hown, hts⟩ hA hK hZ hP hD hS hC_r6 (cwV 1 hts g_Cond_48 rfl rfl rfl (by decide +kernel) ⟨Nat.le_of_ble_eq_true rfl, Nat.le_of_ble_eq_true rfl⟩) (ci := 8) (q0 := 0) rfl rfl rfl [0, 1] rfl (by decide) rfl rfl rfl hl.1 rfl (Nat.le_of_ble_eq_true rfl) d_Cond_take_102 ⟨Nat.le_of_ble_eq_true rfl, Nat.le_of_ble_eq_true rfl⟩ (st1 := []) (c1 := 0) (s1 := 0) rfl rfl rfl (fun H locs hP hD hS => ?_)
      refine lv_goto (tgt := 157) hx hb d_Cond_take_105 (by decide) ?_
      exact ly_vret hx hb hr hlocks hP hD hS d_Cond_take_157 rfl (by rw [s_Cond_take] <;> simp only [hr6] <;> rw [if_neg c1, if_neg c2, if_neg c3, if_pos c4, if_pos c5])
    refine lv_iload_n hx hb d_Cond_take_79 rfl (lv_at hl 2 rfl) ?_
    refine lv_aload_n hx hb d_Cond_take_80 rfl (lv_at hl 0 rfl) ?_
    refine va_get (D := G.1) (ci := 8) (C := R_Cond) (T := F_Cond) (N := 6) (v := .ref a_holding) hx hb hts i_Cond hown hK hP 0 rfl rfl 5 (by decide) (hts (.fieldLink R_Cond 30 "PrivateQueries$Conditions" "holding" "[Z") k_79) (fun _ h9 => h9) rfl d_Cond_take_81 ?_
    refine va_alen (v := 10) hx hb hK hP 2 2 rfl rfl (show Int32.ofNat 10 = 10 by decide) d_Cond_take_84 ?_
    refine lv_icmp_ge (tgt := 101) hx hb d_Cond_take_85 (by decide) (fun c6 => ?_) (fun c6 => ?_)
    · skip
      refine lv_iconst (v := 0) hx hb d_Cond_take_101 (by decide) ?_
      obtain ⟨r7, hr7⟩ : ∃ r, (s_Cond_push f_stack v_height 0) = r := ⟨_, rfl⟩
      have hC_r7 := (c_Cond_push l G h a_steps a_values a_stack a_holding v_size f_stack v_height 0 hz_v_height)
      rw [hr7] at hC_r7
      have hf_r7_1 : up r7.1 64 := by rw [← hr7]; exact (k_push hz_v_height)
      refine ly_callV (rest := []) (wf := [(h, .inr (8, [.ref a_steps, .ref a_values, .int v_size, .ref a_stack, .int r7.1, .ref a_holding])), (a_stack, .inl (gI G, 64, .inl r7.2)), (a_holding, .inl (gZ G, 10, .inl f_holding)), (tb_h, .inr (1, [.ref tb_a_numbers, .int tb__rows])), (tb_a_numbers, .inl (gI G, 360, .inl tb_f_numbers))]) ⟨hx, hb, hml, hown, hts⟩ hA hK hZ hP hD hS hC_r7 (cwV 1 hts g_Cond_48 rfl rfl rfl (by decide +kernel) ⟨Nat.le_of_ble_eq_true rfl, Nat.le_of_ble_eq_true rfl⟩) (ci := 8) (q0 := 0) rfl rfl rfl [0, 1] rfl (by decide) rfl rfl rfl hl.1 rfl (Nat.le_of_ble_eq_true rfl) d_Cond_take_102 ⟨Nat.le_of_ble_eq_true rfl, Nat.le_of_ble_eq_true rfl⟩ (st1 := []) (c1 := 0) (s1 := 0) rfl rfl rfl (fun H locs hP hD hS => ?_)
      refine lv_goto (tgt := 157) hx hb d_Cond_take_105 (by decide) ?_
      exact ly_vret hx hb hr hlocks hP hD hS d_Cond_take_157 rfl (by rw [s_Cond_take] <;> simp only [hr7] <;> rw [if_neg c1, if_neg c2, if_neg c3, if_pos c4, if_neg c5, if_pos c6])
    refine lv_aload_n hx hb d_Cond_take_88 rfl (lv_at hl 0 rfl) ?_
    refine va_get (D := G.1) (ci := 8) (C := R_Cond) (T := F_Cond) (N := 6) (v := .ref a_holding) hx hb hts i_Cond hown hK hP 0 rfl rfl 5 (by decide) (hts (.fieldLink R_Cond 30 "PrivateQueries$Conditions" "holding" "[Z") k_79) (fun _ h9 => h9) rfl d_Cond_take_89 ?_
    refine lv_iload_n hx hb d_Cond_take_92 rfl (lv_at hl 2 rfl) ?_
    refine va_zald hx hb hK hP 2 2 rfl rfl (ly_mk (ly_lo c5) (ly_hi (by decide) c6)) d_Cond_take_93 ?_
    refine lv_if_eq (tgt := 101) hx hb d_Cond_take_94 (by decide) (fun c7 => ?_) (fun c7 => ?_)
    · skip
      refine lv_iconst (v := 0) hx hb d_Cond_take_101 (by decide) ?_
      obtain ⟨r8, hr8⟩ : ∃ r, (s_Cond_push f_stack v_height 0) = r := ⟨_, rfl⟩
      have hC_r8 := (c_Cond_push l G h a_steps a_values a_stack a_holding v_size f_stack v_height 0 hz_v_height)
      rw [hr8] at hC_r8
      have hf_r8_1 : up r8.1 64 := by rw [← hr8]; exact (k_push hz_v_height)
      refine ly_callV (rest := []) (wf := [(h, .inr (8, [.ref a_steps, .ref a_values, .int v_size, .ref a_stack, .int r8.1, .ref a_holding])), (a_stack, .inl (gI G, 64, .inl r8.2)), (a_holding, .inl (gZ G, 10, .inl f_holding)), (tb_h, .inr (1, [.ref tb_a_numbers, .int tb__rows])), (tb_a_numbers, .inl (gI G, 360, .inl tb_f_numbers))]) ⟨hx, hb, hml, hown, hts⟩ hA hK hZ hP hD hS hC_r8 (cwV 1 hts g_Cond_48 rfl rfl rfl (by decide +kernel) ⟨Nat.le_of_ble_eq_true rfl, Nat.le_of_ble_eq_true rfl⟩) (ci := 8) (q0 := 0) rfl rfl rfl [0, 1] rfl (by decide) rfl rfl rfl hl.1 rfl (Nat.le_of_ble_eq_true rfl) d_Cond_take_102 ⟨Nat.le_of_ble_eq_true rfl, Nat.le_of_ble_eq_true rfl⟩ (st1 := []) (c1 := 0) (s1 := 0) rfl rfl rfl (fun H locs hP hD hS => ?_)
      refine lv_goto (tgt := 157) hx hb d_Cond_take_105 (by decide) ?_
      exact ly_vret hx hb hr hlocks hP hD hS d_Cond_take_157 rfl (by rw [s_Cond_take] <;> simp only [hr8] <;> rw [if_neg c1, if_neg c2, if_neg c3, if_pos c4, if_neg c5, if_neg c6, if_pos c7])
    refine lv_iconst (v := 1) hx hb d_Cond_take_97 (by decide) ?_
    refine lv_goto (tgt := 102) hx hb d_Cond_take_98 (by decide) ?_
    obtain ⟨r9, hr9⟩ : ∃ r, (s_Cond_push f_stack v_height 1) = r := ⟨_, rfl⟩
    have hC_r9 := (c_Cond_push l G h a_steps a_values a_stack a_holding v_size f_stack v_height 1 hz_v_height)
    rw [hr9] at hC_r9
    have hf_r9_1 : up r9.1 64 := by rw [← hr9]; exact (k_push hz_v_height)
    refine ly_callV (rest := []) (wf := [(h, .inr (8, [.ref a_steps, .ref a_values, .int v_size, .ref a_stack, .int r9.1, .ref a_holding])), (a_stack, .inl (gI G, 64, .inl r9.2)), (a_holding, .inl (gZ G, 10, .inl f_holding)), (tb_h, .inr (1, [.ref tb_a_numbers, .int tb__rows])), (tb_a_numbers, .inl (gI G, 360, .inl tb_f_numbers))]) ⟨hx, hb, hml, hown, hts⟩ hA hK hZ hP hD hS hC_r9 (cwV 1 hts g_Cond_48 rfl rfl rfl (by decide +kernel) ⟨Nat.le_of_ble_eq_true rfl, Nat.le_of_ble_eq_true rfl⟩) (ci := 8) (q0 := 0) rfl rfl rfl [0, 1] rfl (by decide) rfl rfl rfl hl.1 rfl (Nat.le_of_ble_eq_true rfl) d_Cond_take_102 ⟨Nat.le_of_ble_eq_true rfl, Nat.le_of_ble_eq_true rfl⟩ (st1 := []) (c1 := 0) (s1 := 0) rfl rfl rfl (fun H locs hP hD hS => ?_)
    refine lv_goto (tgt := 157) hx hb d_Cond_take_105 (by decide) ?_
    exact ly_vret hx hb hr hlocks hP hD hS d_Cond_take_157 rfl (by rw [s_Cond_take] <;> simp only [hr9] <;> rw [if_neg c1, if_neg c2, if_neg c3, if_pos c4, if_neg c5, if_neg c6, if_neg c7])
  by_cases c8 : x = 16
  · skip
    refine lv_lookup (off := 119) (tgt := 120) hx hb d_Cond_take_1 (by decide) (by first | (rw [c8]; done) | (rw [c8]; rfl)) (by decide) ?_
    refine lv_aload_n hx hb d_Cond_take_120 rfl (lv_at hl 0 rfl) ?_
    refine lv_iconst (v := 1) hx hb d_Cond_take_121 (by decide) ?_
    refine lv_aload_n hx hb d_Cond_take_122 rfl (lv_at hl 0 rfl) ?_
    obtain ⟨r10, hr10⟩ : ∃ r, (s_Cond_pop f_stack v_height) = r := ⟨_, rfl⟩
    have hC_r10 := (c_Cond_pop l G h a_steps a_values a_stack a_holding v_size f_stack v_height hz_v_height)
    rw [hr10] at hC_r10
    have hf_r10_1 : up r10.2 64 := by rw [← hr10]; exact (k_pop hz_v_height)
    refine ly_callV (rest := [.int 1, .ref h]) (wf := [(h, .inr (8, [.ref a_steps, .ref a_values, .int v_size, .ref a_stack, .int r10.2, .ref a_holding])), (a_stack, .inl (gI G, 64, .inl f_stack)), (a_holding, .inl (gZ G, 10, .inl f_holding)), (tb_h, .inr (1, [.ref tb_a_numbers, .int tb__rows])), (tb_a_numbers, .inl (gI G, 360, .inl tb_f_numbers))]) ⟨hx, hb, hml, hown, hts⟩ hA hK hZ hP hD hS hC_r10 (cwV 0 hts g_Cond_44 rfl rfl rfl (by decide +kernel) ⟨Nat.le_of_ble_eq_true rfl, Nat.le_of_ble_eq_true rfl⟩) (ci := 8) (q0 := 0) rfl rfl rfl [0, 1] rfl (by decide) rfl rfl rfl hl.1 rfl (Nat.le_of_ble_eq_true rfl) d_Cond_take_123 ⟨Nat.le_of_ble_eq_true rfl, Nat.le_of_ble_eq_true rfl⟩ (st1 := [.int r10.1, .int 1, .ref h]) (c1 := 0) (s1 := 0) rfl rfl rfl (fun H locs hP hD hS => ?_)
    refine lv_isub hx hb d_Cond_take_126 ?_
    obtain ⟨r11, hr11⟩ : ∃ r, (s_Cond_push f_stack r10.2 (1 - r10.1)) = r := ⟨_, rfl⟩
    have hC_r11 := (c_Cond_push l G h a_steps a_values a_stack a_holding v_size f_stack r10.2 (1 - r10.1) hf_r10_1)
    rw [hr11] at hC_r11
    have hf_r11_1 : up r11.1 64 := by rw [← hr11]; exact (k_push hf_r10_1)
    refine ly_callV (rest := []) (wf := [(h, .inr (8, [.ref a_steps, .ref a_values, .int v_size, .ref a_stack, .int r11.1, .ref a_holding])), (a_stack, .inl (gI G, 64, .inl r11.2)), (a_holding, .inl (gZ G, 10, .inl f_holding)), (tb_h, .inr (1, [.ref tb_a_numbers, .int tb__rows])), (tb_a_numbers, .inl (gI G, 360, .inl tb_f_numbers))]) ⟨hx, hb, hml, hown, hts⟩ hA hK hZ hP hD hS hC_r11 (cwV 1 hts g_Cond_48 rfl rfl rfl (by decide +kernel) ⟨Nat.le_of_ble_eq_true rfl, Nat.le_of_ble_eq_true rfl⟩) (ci := 8) (q0 := 0) rfl rfl rfl [0, 1] rfl (by decide) rfl rfl rfl hl.1 rfl (Nat.le_of_ble_eq_true rfl) d_Cond_take_127 ⟨Nat.le_of_ble_eq_true rfl, Nat.le_of_ble_eq_true rfl⟩ (st1 := []) (c1 := 0) (s1 := 0) rfl rfl rfl (fun H locs hP hD hS => ?_)
    refine lv_goto (tgt := 157) hx hb d_Cond_take_130 (by decide) ?_
    exact ly_vret hx hb hr hlocks hP hD hS d_Cond_take_157 rfl (by rw [s_Cond_take] <;> simp only [hr10, hr11] <;> rw [if_neg c1, if_neg c2, if_neg c3, if_neg c4, if_pos c8])
  refine lv_lookup (off := 132) (tgt := 133) hx hb d_Cond_take_1 (by decide) (by first | (rw [lv_osw c1 (by decide), lv_osw c2 (by decide), lv_osw c3 (by decide), lv_osw c4 (by decide), lv_osw c8 (by decide)]; done) | (rw [lv_osw c1 (by decide), lv_osw c2 (by decide), lv_osw c3 (by decide), lv_osw c4 (by decide), lv_osw c8 (by decide)]; rfl)) (by decide) ?_
  refine lv_aload_n hx hb d_Cond_take_133 rfl (lv_at hl 0 rfl) ?_
  obtain ⟨r12, hr12⟩ : ∃ r, (s_Cond_pop f_stack v_height) = r := ⟨_, rfl⟩
  have hC_r12 := (c_Cond_pop l G h a_steps a_values a_stack a_holding v_size f_stack v_height hz_v_height)
  rw [hr12] at hC_r12
  have hf_r12_1 : up r12.2 64 := by rw [← hr12]; exact (k_pop hz_v_height)
  refine ly_callV (rest := []) (wf := [(h, .inr (8, [.ref a_steps, .ref a_values, .int v_size, .ref a_stack, .int r12.2, .ref a_holding])), (a_stack, .inl (gI G, 64, .inl f_stack)), (a_holding, .inl (gZ G, 10, .inl f_holding)), (tb_h, .inr (1, [.ref tb_a_numbers, .int tb__rows])), (tb_a_numbers, .inl (gI G, 360, .inl tb_f_numbers))]) ⟨hx, hb, hml, hown, hts⟩ hA hK hZ hP hD hS hC_r12 (cwV 0 hts g_Cond_44 rfl rfl rfl (by decide +kernel) ⟨Nat.le_of_ble_eq_true rfl, Nat.le_of_ble_eq_true rfl⟩) (ci := 8) (q0 := 0) rfl rfl rfl [0, 1] rfl (by decide) rfl rfl rfl hl.1 rfl (Nat.le_of_ble_eq_true rfl) d_Cond_take_134 ⟨Nat.le_of_ble_eq_true rfl, Nat.le_of_ble_eq_true rfl⟩ (st1 := [.int r12.1]) (c1 := 0) (s1 := 0) rfl rfl rfl (fun H locs hP hD hS => ?_)
  refine lv_istore (lv' := [(5, .int r12.1), (0, .ref h), (1, .int x), (2, .int z), (3, .ref tb_h), (4, .int row)]) hx hb d_Cond_take_137 hl (by decide) rfl (fun ls hl => ?_)
  refine lv_aload_n hx hb d_Cond_take_139 rfl (lv_at hl 1 rfl) ?_
  obtain ⟨r13, hr13⟩ : ∃ r, (s_Cond_pop f_stack r12.2) = r := ⟨_, rfl⟩
  have hC_r13 := (c_Cond_pop l G h a_steps a_values a_stack a_holding v_size f_stack r12.2 hf_r12_1)
  rw [hr13] at hC_r13
  have hf_r13_1 : up r13.2 64 := by rw [← hr13]; exact (k_pop hf_r12_1)
  refine ly_callV (rest := []) (wf := [(h, .inr (8, [.ref a_steps, .ref a_values, .int v_size, .ref a_stack, .int r13.2, .ref a_holding])), (a_stack, .inl (gI G, 64, .inl f_stack)), (a_holding, .inl (gZ G, 10, .inl f_holding)), (tb_h, .inr (1, [.ref tb_a_numbers, .int tb__rows])), (tb_a_numbers, .inl (gI G, 360, .inl tb_f_numbers))]) ⟨hx, hb, hml, hown, hts⟩ hA hK hZ hP hD hS hC_r13 (cwV 0 hts g_Cond_44 rfl rfl rfl (by decide +kernel) ⟨Nat.le_of_ble_eq_true rfl, Nat.le_of_ble_eq_true rfl⟩) (ci := 8) (q0 := 0) rfl rfl rfl [0, 1] rfl (by decide) rfl rfl rfl hl.1 rfl (Nat.le_of_ble_eq_true rfl) d_Cond_take_140 ⟨Nat.le_of_ble_eq_true rfl, Nat.le_of_ble_eq_true rfl⟩ (st1 := [.int r13.1]) (c1 := 0) (s1 := 0) rfl rfl rfl (fun H locs hP hD hS => ?_)
  refine lv_istore (lv' := [(6, .int r13.1), (5, .int r12.1), (0, .ref h), (1, .int x), (2, .int z), (3, .ref tb_h), (4, .int row)]) hx hb d_Cond_take_143 hl (by decide) rfl (fun ls hl => ?_)
  refine lv_aload_n hx hb d_Cond_take_145 rfl (lv_at hl 2 rfl) ?_
  refine lv_iload_n hx hb d_Cond_take_146 rfl (lv_at hl 3 rfl) ?_
  refine lv_iload hx hb d_Cond_take_147 (lv_at hl 0 rfl) ?_
  refine lv_iload hx hb d_Cond_take_149 (lv_at hl 1 rfl) ?_
  obtain ⟨r14, hr14⟩ : ∃ r, (s_Cond_joined x r13.1 r12.1) = r := ⟨_, rfl⟩
  have hC_r14 := (c_Cond_joined l G x r13.1 r12.1)
  rw [hr14] at hC_r14
  refine ly_callS (rest := [.ref h]) (wf := [(h, .inr (8, [.ref a_steps, .ref a_values, .int v_size, .ref a_stack, .int r13.2, .ref a_holding])), (a_stack, .inl (gI G, 64, .inl f_stack)), (a_holding, .inl (gZ G, 10, .inl f_holding)), (tb_h, .inr (1, [.ref tb_a_numbers, .int tb__rows])), (tb_a_numbers, .inl (gI G, 360, .inl tb_f_numbers))]) ⟨hx, hb, hml, hown, hts⟩ hA hK hZ hP hD hS hC_r14 (cwS 3 hts g_Cond_57 rfl rfl rfl (by decide +kernel) ⟨Nat.le_of_ble_eq_true rfl, Nat.le_of_ble_eq_true rfl⟩) [] rfl (by decide) rfl rfl rfl hl.1 rfl (Nat.le_of_ble_eq_true rfl) d_Cond_take_151 ⟨Nat.le_of_ble_eq_true rfl, Nat.le_of_ble_eq_true rfl⟩ (st1 := [.int r14, .ref h]) (c1 := 0) (s1 := 0) rfl rfl rfl (fun H locs hP hD hS => ?_)
  obtain ⟨r15, hr15⟩ : ∃ r, (s_Cond_push f_stack r13.2 r14) = r := ⟨_, rfl⟩
  have hC_r15 := (c_Cond_push l G h a_steps a_values a_stack a_holding v_size f_stack r13.2 r14 hf_r13_1)
  rw [hr15] at hC_r15
  have hf_r15_1 : up r15.1 64 := by rw [← hr15]; exact (k_push hf_r13_1)
  refine ly_callV (rest := []) (wf := [(h, .inr (8, [.ref a_steps, .ref a_values, .int v_size, .ref a_stack, .int r15.1, .ref a_holding])), (a_stack, .inl (gI G, 64, .inl r15.2)), (a_holding, .inl (gZ G, 10, .inl f_holding)), (tb_h, .inr (1, [.ref tb_a_numbers, .int tb__rows])), (tb_a_numbers, .inl (gI G, 360, .inl tb_f_numbers))]) ⟨hx, hb, hml, hown, hts⟩ hA hK hZ hP hD hS hC_r15 (cwV 1 hts g_Cond_48 rfl rfl rfl (by decide +kernel) ⟨Nat.le_of_ble_eq_true rfl, Nat.le_of_ble_eq_true rfl⟩) (ci := 8) (q0 := 0) rfl rfl rfl [0, 1] rfl (by decide) rfl rfl rfl hl.1 rfl (Nat.le_of_ble_eq_true rfl) d_Cond_take_154 ⟨Nat.le_of_ble_eq_true rfl, Nat.le_of_ble_eq_true rfl⟩ (st1 := []) (c1 := 0) (s1 := 0) rfl rfl rfl (fun H locs hP hD hS => ?_)
  exact ly_vret hx hb hr hlocks hP hD hS d_Cond_take_157 rfl (by rw [s_Cond_take] <;> simp only [hr12, hr13, hr14, hr15] <;> rw [if_neg c1, if_neg c2, if_neg c3, if_neg c4, if_neg c8])

theorem zl_Cond_hold {f_steps : Nat → Int32} {f_values : Nat → Int32} {f_holding : Nat → Int32} {tb_f_numbers : Nat → Int32} {z : Int32} {row : Int32} : ∀ {n : Nat} {i : Int32} {g : Nat → Int32} {k : Int32}, isB (lp_Cond_hold f_steps f_values f_holding tb_f_numbers z row n i g k).1 := by
  intro n
  induction n with
  | zero => intro i g k; unfold lp_Cond_hold; exact isB_0
  | succ n ih =>
    intro i g k
    obtain ⟨r1, hr1⟩ : ∃ r, (s_Cond_pop g k) = r := ⟨_, rfl⟩
    obtain ⟨r4, hr4⟩ : ∃ r, (s_Cond_take g k f_holding tb_f_numbers (f_steps i.toNatClampNeg) (f_values i.toNatClampNeg) row) = r := ⟨_, rfl⟩
    rw [lp_Cond_hold]
    simp only [hr1, hr4]
    by_cases ct1 : z ≤ i
    · rw [if_pos ct1]
      by_cases ct2 : r1.1 = 0
      · rw [if_pos ct2]
        first | exact isB_0 | exact isB_1 | exact ih | assumption
      rw [if_neg ct2]
      first | exact isB_0 | exact isB_1 | exact ih | assumption
    rw [if_neg ct1]
    by_cases ct3 : 2000 ≤ i
    · rw [if_pos ct3]
      by_cases ct4 : r1.1 = 0
      · rw [if_pos ct4]
        first | exact isB_0 | exact isB_1 | exact ih | assumption
      rw [if_neg ct4]
      first | exact isB_0 | exact isB_1 | exact ih | assumption
    rw [if_neg ct3]
    by_cases ct5 : 2000 ≤ i
    · rw [if_pos ct5]
      by_cases ct6 : r1.1 = 0
      · rw [if_pos ct6]
        first | exact isB_0 | exact isB_1 | exact ih | assumption
      rw [if_neg ct6]
      first | exact isB_0 | exact isB_1 | exact ih | assumption
    rw [if_neg ct5]
    first | exact isB_0 | exact isB_1 | exact ih | assumption
theorem z_Cond_hold {f_steps : Nat → Int32} {f_values : Nat → Int32} {f_stack : Nat → Int32} {v_height : Int32} {f_holding : Nat → Int32} {tb_f_numbers : Nat → Int32} {x : Int32} {z : Int32} {row : Int32} : isB (s_Cond_hold f_steps f_values f_stack v_height f_holding tb_f_numbers x z row).1 := by
  rw [s_Cond_hold]
  by_cases ct1 : x < z
  · rw [if_pos ct1]
    first | exact isB_0 | exact isB_1 | exact zl_Cond_hold | assumption
  rw [if_neg ct1]
  first | exact isB_0 | exact isB_1 | exact zl_Cond_hold | assumption
set_option maxHeartbeats 4000000 in
set_option maxRecDepth 100000 in
theorem c_Cond_hold (l : Launch) (G : GG) (h : Nat) (a_steps : Nat) (a_values : Nat) (a_stack : Nat) (a_holding : Nat) (tb_h : Nat) (tb_a_numbers : Nat) (f_steps : Nat → Int32) (f_values : Nat → Int32) (v_size : Int32) (f_stack : Nat → Int32) (v_height : Int32) (f_holding : Nat → Int32) (tb_f_numbers : Nat → Int32) (tb__rows : Int32) (x : Int32) (z : Int32) (row : Int32) : Det l G y_Cond_hold w_Cond_hold (rmD 3) 0 0 [.ref h, .int x, .int z, .ref tb_h, .int row] [(h, .inr (8, [.ref a_steps, .ref a_values, .int v_size, .ref a_stack, .int v_height, .ref a_holding])), (a_steps, .inl (gI G, 2000, .inl f_steps)), (a_values, .inl (gI G, 2000, .inl f_values)), (a_stack, .inl (gI G, 64, .inl f_stack)), (a_holding, .inl (gZ G, 10, .inl f_holding)), (tb_h, .inr (1, [.ref tb_a_numbers, .int tb__rows])), (tb_a_numbers, .inl (gI G, 360, .inl tb_f_numbers))] (some (.int (s_Cond_hold f_steps f_values f_stack v_height f_holding tb_f_numbers x z row).1)) [(h, .inr (8, [.ref a_steps, .ref a_values, .int v_size, .ref a_stack, .int (s_Cond_hold f_steps f_values f_stack v_height f_holding tb_f_numbers x z row).2.1, .ref a_holding])), (a_steps, .inl (gI G, 2000, .inl f_steps)), (a_values, .inl (gI G, 2000, .inl f_values)), (a_stack, .inl (gI G, 64, .inl (s_Cond_hold f_steps f_values f_stack v_height f_holding tb_f_numbers x z row).2.2)), (a_holding, .inl (gZ G, 10, .inl f_holding)), (tb_h, .inr (1, [.ref tb_a_numbers, .int tb__rows])), (tb_a_numbers, .inl (gI G, 360, .inl tb_f_numbers))] := by
  refine Det.of (cc := b_Cond_hold) (maxL := 6) (ret := (some .boolean)) (by decide) rfl (Nat.le_of_ble_eq_true rfl) ?_
  intro p e s m args below meth c A ls hx hb hr hml hown hts hlocks hin hA hK hZ hP hD hS hl
  have hts : ∀ w ∈ wG, w.before args s = true := fun w h => hts w (List.mem_cons_of_mem _ h)
  have hown : s.vm.findClass R_Cond = some m.cls := hown
  have loop : ∀ (n : Nat) (i : Int32) (g : Nat → Int32) (k : Int32), up k 64 → 0 ≤ i.toInt → (z.toInt - i.toInt).toNat < n → ∀ (H : Heap) (locs : List Loc) (ls : Array Slot), va_P G.1 classes [(h, .inr (8, [.ref a_steps, .ref a_values, .int v_size, .ref a_stack, .int k, .ref a_holding])), (a_steps, .inl (gI G, 2000, .inl f_steps)), (a_values, .inl (gI G, 2000, .inl f_values)), (a_stack, .inl (gI G, 64, .inl g)), (a_holding, .inl (gZ G, 10, .inl f_holding)), (tb_h, .inr (1, [.ref tb_a_numbers, .int tb__rows])), (tb_a_numbers, .inl (gI G, 360, .inl tb_f_numbers))] H → va_D A [(h, .inr (8, [.ref a_steps, .ref a_values, .int v_size, .ref a_stack, .int k, .ref a_holding])), (a_steps, .inl (gI G, 2000, .inl f_steps)), (a_values, .inl (gI G, 2000, .inl f_values)), (a_stack, .inl (gI G, 64, .inl g)), (a_holding, .inl (gZ G, 10, .inl f_holding)), (tb_h, .inr (1, [.ref tb_a_numbers, .int tb__rows])), (tb_a_numbers, .inl (gI G, 360, .inl tb_f_numbers))] → va_S A s.heap H locs → lv_has ls 6 [(5, .int i), (0, .ref h), (1, .int x), (2, .int z), (3, .ref tb_h), (4, .int row)] → W p l e (rmD 3) s m args below meth c H locs 0 0 (MQ below (ly_Q G A (some (.int (lp_Cond_hold f_steps f_values f_holding tb_f_numbers z row n i g k).1)) [(h, .inr (8, [.ref a_steps, .ref a_values, .int v_size, .ref a_stack, .int (lp_Cond_hold f_steps f_values f_holding tb_f_numbers z row n i g k).2.1, .ref a_holding])), (a_steps, .inl (gI G, 2000, .inl f_steps)), (a_values, .inl (gI G, 2000, .inl f_values)), (a_stack, .inl (gI G, 64, .inl (lp_Cond_hold f_steps f_values f_holding tb_f_numbers z row n i g k).2.2)), (a_holding, .inl (gZ G, 10, .inl f_holding)), (tb_h, .inr (1, [.ref tb_a_numbers, .int tb__rows])), (tb_a_numbers, .inl (gI G, 360, .inl tb_f_numbers))]) args s 0 0 A) (F0 m 19 ls []) := by
    intro n
    induction n with
    | zero => intro i g k hk hi hmu; exact absurd hmu (Nat.not_lt_zero _)
    | succ n ih =>
      intro i g k hk hi hmu H locs ls hP hD hS hl
      refine lv_iload hx hb d_Cond_hold_19 (lv_at hl 0 rfl) ?_
      refine lv_iload_n hx hb d_Cond_hold_21 rfl (lv_at hl 3 rfl) ?_
      refine lv_icmp_ge (tgt := 72) hx hb d_Cond_hold_22 (by decide) (fun c1 => ?_) (fun c1 => ?_)
      · skip
        refine lv_aload_n hx hb d_Cond_hold_72 rfl (lv_at hl 1 rfl) ?_
        obtain ⟨r1, hr1⟩ : ∃ r, (s_Cond_pop g k) = r := ⟨_, rfl⟩
        have hC_r1 := (c_Cond_pop l G h a_steps a_values a_stack a_holding v_size g k hk)
        rw [hr1] at hC_r1
        have hf_r1_1 : up r1.2 64 := by rw [← hr1]; exact (k_pop hk)
        refine ly_callV (rest := []) (wf := [(h, .inr (8, [.ref a_steps, .ref a_values, .int v_size, .ref a_stack, .int r1.2, .ref a_holding])), (a_steps, .inl (gI G, 2000, .inl f_steps)), (a_values, .inl (gI G, 2000, .inl f_values)), (a_stack, .inl (gI G, 64, .inl g)), (a_holding, .inl (gZ G, 10, .inl f_holding)), (tb_h, .inr (1, [.ref tb_a_numbers, .int tb__rows])), (tb_a_numbers, .inl (gI G, 360, .inl tb_f_numbers))]) ⟨hx, hb, hml, hown, hts⟩ hA hK hZ hP hD hS hC_r1 (cwV 0 hts g_Cond_44 rfl rfl rfl (by decide +kernel) ⟨Nat.le_of_ble_eq_true rfl, Nat.le_of_ble_eq_true rfl⟩) (ci := 8) (q0 := 0) rfl rfl rfl [0, 3] rfl (by decide) rfl rfl rfl hl.1 rfl (Nat.le_of_ble_eq_true rfl) d_Cond_hold_73 ⟨Nat.le_of_ble_eq_true rfl, Nat.le_of_ble_eq_true rfl⟩ (st1 := [.int r1.1]) (c1 := 0) (s1 := 0) rfl rfl rfl (fun H locs hP hD hS => ?_)
        refine lv_if_eq (tgt := 83) hx hb d_Cond_hold_76 (by decide) (fun c2 => ?_) (fun c2 => ?_)
        · skip
          refine lv_iconst (v := 0) hx hb d_Cond_hold_83 (by decide) ?_
          exact ly_zret hx hb hr hlocks hP hD hS d_Cond_hold_84 (by decide) (by rw [lp_Cond_hold] <;> simp only [hr1] <;> rw [if_pos c1, if_pos c2]) (by rw [lp_Cond_hold] <;> simp only [hr1] <;> rw [if_pos c1, if_pos c2])
        refine lv_iconst (v := 1) hx hb d_Cond_hold_79 (by decide) ?_
        refine lv_goto (tgt := 84) hx hb d_Cond_hold_80 (by decide) ?_
        exact ly_zret hx hb hr hlocks hP hD hS d_Cond_hold_84 (by decide) (by rw [lp_Cond_hold] <;> simp only [hr1] <;> rw [if_pos c1, if_neg c2]) (by rw [lp_Cond_hold] <;> simp only [hr1] <;> rw [if_pos c1, if_neg c2])
      refine lv_iload hx hb d_Cond_hold_25 (lv_at hl 0 rfl) ?_
      refine lv_aload_n hx hb d_Cond_hold_27 rfl (lv_at hl 1 rfl) ?_
      refine va_get (D := G.1) (ci := 8) (C := R_Cond) (T := F_Cond) (N := 6) (v := .ref a_steps) hx hb hts i_Cond hown hK hP 0 rfl rfl 0 (by decide) (hts (.fieldLink R_Cond 11 "PrivateQueries$Conditions" "steps" "[I") k_77) (fun _ h9 => h9) rfl d_Cond_hold_28 ?_
      refine va_alen (v := 2000) hx hb hK hP 1 0 rfl rfl (show Int32.ofNat 2000 = 2000 by decide) d_Cond_hold_31 ?_
      refine lv_icmp_ge (tgt := 72) hx hb d_Cond_hold_32 (by decide) (fun c3 => ?_) (fun c3 => ?_)
      · skip
        refine lv_aload_n hx hb d_Cond_hold_72 rfl (lv_at hl 1 rfl) ?_
        obtain ⟨r2, hr2⟩ : ∃ r, (s_Cond_pop g k) = r := ⟨_, rfl⟩
        have hC_r2 := (c_Cond_pop l G h a_steps a_values a_stack a_holding v_size g k hk)
        rw [hr2] at hC_r2
        have hf_r2_1 : up r2.2 64 := by rw [← hr2]; exact (k_pop hk)
        refine ly_callV (rest := []) (wf := [(h, .inr (8, [.ref a_steps, .ref a_values, .int v_size, .ref a_stack, .int r2.2, .ref a_holding])), (a_steps, .inl (gI G, 2000, .inl f_steps)), (a_values, .inl (gI G, 2000, .inl f_values)), (a_stack, .inl (gI G, 64, .inl g)), (a_holding, .inl (gZ G, 10, .inl f_holding)), (tb_h, .inr (1, [.ref tb_a_numbers, .int tb__rows])), (tb_a_numbers, .inl (gI G, 360, .inl tb_f_numbers))]) ⟨hx, hb, hml, hown, hts⟩ hA hK hZ hP hD hS hC_r2 (cwV 0 hts g_Cond_44 rfl rfl rfl (by decide +kernel) ⟨Nat.le_of_ble_eq_true rfl, Nat.le_of_ble_eq_true rfl⟩) (ci := 8) (q0 := 0) rfl rfl rfl [0, 3] rfl (by decide) rfl rfl rfl hl.1 rfl (Nat.le_of_ble_eq_true rfl) d_Cond_hold_73 ⟨Nat.le_of_ble_eq_true rfl, Nat.le_of_ble_eq_true rfl⟩ (st1 := [.int r2.1]) (c1 := 0) (s1 := 0) rfl rfl rfl (fun H locs hP hD hS => ?_)
        refine lv_if_eq (tgt := 83) hx hb d_Cond_hold_76 (by decide) (fun c4 => ?_) (fun c4 => ?_)
        · skip
          refine lv_iconst (v := 0) hx hb d_Cond_hold_83 (by decide) ?_
          exact ly_zret hx hb hr hlocks hP hD hS d_Cond_hold_84 (by decide) (by rw [lp_Cond_hold] <;> simp only [hr2] <;> rw [if_neg c1, if_pos c3, if_pos c4]) (by rw [lp_Cond_hold] <;> simp only [hr2] <;> rw [if_neg c1, if_pos c3, if_pos c4])
        refine lv_iconst (v := 1) hx hb d_Cond_hold_79 (by decide) ?_
        refine lv_goto (tgt := 84) hx hb d_Cond_hold_80 (by decide) ?_
        exact ly_zret hx hb hr hlocks hP hD hS d_Cond_hold_84 (by decide) (by rw [lp_Cond_hold] <;> simp only [hr2] <;> rw [if_neg c1, if_pos c3, if_neg c4]) (by rw [lp_Cond_hold] <;> simp only [hr2] <;> rw [if_neg c1, if_pos c3, if_neg c4])
      refine lv_iload hx hb d_Cond_hold_35 (lv_at hl 0 rfl) ?_
      refine lv_aload_n hx hb d_Cond_hold_37 rfl (lv_at hl 1 rfl) ?_
      refine va_get (D := G.1) (ci := 8) (C := R_Cond) (T := F_Cond) (N := 6) (v := .ref a_values) hx hb hts i_Cond hown hK hP 0 rfl rfl 1 (by decide) (hts (.fieldLink R_Cond 15 "PrivateQueries$Conditions" "values" "[I") k_78) (fun _ h9 => h9) rfl d_Cond_hold_38 ?_
      refine va_alen (v := 2000) hx hb hK hP 2 0 rfl rfl (show Int32.ofNat 2000 = 2000 by decide) d_Cond_hold_41 ?_
      refine lv_icmp_ge (tgt := 72) hx hb d_Cond_hold_42 (by decide) (fun c5 => ?_) (fun c5 => ?_)
      · skip
        refine lv_aload_n hx hb d_Cond_hold_72 rfl (lv_at hl 1 rfl) ?_
        obtain ⟨r3, hr3⟩ : ∃ r, (s_Cond_pop g k) = r := ⟨_, rfl⟩
        have hC_r3 := (c_Cond_pop l G h a_steps a_values a_stack a_holding v_size g k hk)
        rw [hr3] at hC_r3
        have hf_r3_1 : up r3.2 64 := by rw [← hr3]; exact (k_pop hk)
        refine ly_callV (rest := []) (wf := [(h, .inr (8, [.ref a_steps, .ref a_values, .int v_size, .ref a_stack, .int r3.2, .ref a_holding])), (a_steps, .inl (gI G, 2000, .inl f_steps)), (a_values, .inl (gI G, 2000, .inl f_values)), (a_stack, .inl (gI G, 64, .inl g)), (a_holding, .inl (gZ G, 10, .inl f_holding)), (tb_h, .inr (1, [.ref tb_a_numbers, .int tb__rows])), (tb_a_numbers, .inl (gI G, 360, .inl tb_f_numbers))]) ⟨hx, hb, hml, hown, hts⟩ hA hK hZ hP hD hS hC_r3 (cwV 0 hts g_Cond_44 rfl rfl rfl (by decide +kernel) ⟨Nat.le_of_ble_eq_true rfl, Nat.le_of_ble_eq_true rfl⟩) (ci := 8) (q0 := 0) rfl rfl rfl [0, 3] rfl (by decide) rfl rfl rfl hl.1 rfl (Nat.le_of_ble_eq_true rfl) d_Cond_hold_73 ⟨Nat.le_of_ble_eq_true rfl, Nat.le_of_ble_eq_true rfl⟩ (st1 := [.int r3.1]) (c1 := 0) (s1 := 0) rfl rfl rfl (fun H locs hP hD hS => ?_)
        refine lv_if_eq (tgt := 83) hx hb d_Cond_hold_76 (by decide) (fun c6 => ?_) (fun c6 => ?_)
        · skip
          refine lv_iconst (v := 0) hx hb d_Cond_hold_83 (by decide) ?_
          exact ly_zret hx hb hr hlocks hP hD hS d_Cond_hold_84 (by decide) (by rw [lp_Cond_hold] <;> simp only [hr3] <;> rw [if_neg c1, if_neg c3, if_pos c5, if_pos c6]) (by rw [lp_Cond_hold] <;> simp only [hr3] <;> rw [if_neg c1, if_neg c3, if_pos c5, if_pos c6])
        refine lv_iconst (v := 1) hx hb d_Cond_hold_79 (by decide) ?_
        refine lv_goto (tgt := 84) hx hb d_Cond_hold_80 (by decide) ?_
        exact ly_zret hx hb hr hlocks hP hD hS d_Cond_hold_84 (by decide) (by rw [lp_Cond_hold] <;> simp only [hr3] <;> rw [if_neg c1, if_neg c3, if_pos c5, if_neg c6]) (by rw [lp_Cond_hold] <;> simp only [hr3] <;> rw [if_neg c1, if_neg c3, if_pos c5, if_neg c6])
      refine lv_aload_n hx hb d_Cond_hold_45 rfl (lv_at hl 1 rfl) ?_
      refine lv_aload_n hx hb d_Cond_hold_46 rfl (lv_at hl 1 rfl) ?_
      refine va_get (D := G.1) (ci := 8) (C := R_Cond) (T := F_Cond) (N := 6) (v := .ref a_steps) hx hb hts i_Cond hown hK hP 0 rfl rfl 0 (by decide) (hts (.fieldLink R_Cond 11 "PrivateQueries$Conditions" "steps" "[I") k_77) (fun _ h9 => h9) rfl d_Cond_hold_47 ?_
      refine lv_iload hx hb d_Cond_hold_50 (lv_at hl 0 rfl) ?_
      refine va_iald hx hb hK hP 1 0 rfl rfl (ly_mk hi (ly_hi (by decide) c5)) d_Cond_hold_52 ?_
      refine lv_aload_n hx hb d_Cond_hold_53 rfl (lv_at hl 1 rfl) ?_
      refine va_get (D := G.1) (ci := 8) (C := R_Cond) (T := F_Cond) (N := 6) (v := .ref a_values) hx hb hts i_Cond hown hK hP 0 rfl rfl 1 (by decide) (hts (.fieldLink R_Cond 15 "PrivateQueries$Conditions" "values" "[I") k_78) (fun _ h9 => h9) rfl d_Cond_hold_54 ?_
      refine lv_iload hx hb d_Cond_hold_57 (lv_at hl 0 rfl) ?_
      refine va_iald hx hb hK hP 2 0 rfl rfl (ly_mk hi (ly_hi (by decide) c5)) d_Cond_hold_59 ?_
      refine lv_aload_n hx hb d_Cond_hold_60 rfl (lv_at hl 4 rfl) ?_
      refine lv_iload hx hb d_Cond_hold_61 (lv_at hl 5 rfl) ?_
      obtain ⟨r4, hr4⟩ : ∃ r, (s_Cond_take g k f_holding tb_f_numbers (f_steps i.toNatClampNeg) (f_values i.toNatClampNeg) row) = r := ⟨_, rfl⟩
      have hC_r4 := (c_Cond_take l G h a_steps a_values a_stack a_holding tb_h tb_a_numbers v_size g k f_holding tb_f_numbers tb__rows (f_steps i.toNatClampNeg) (f_values i.toNatClampNeg) row hk)
      rw [hr4] at hC_r4
      have hf_r4_1 : up r4.1 64 := by rw [← hr4]; exact (k_take hk)
      refine ly_callV (rest := []) (wf := [(h, .inr (8, [.ref a_steps, .ref a_values, .int v_size, .ref a_stack, .int r4.1, .ref a_holding])), (a_steps, .inl (gI G, 2000, .inl f_steps)), (a_values, .inl (gI G, 2000, .inl f_values)), (a_stack, .inl (gI G, 64, .inl r4.2)), (a_holding, .inl (gZ G, 10, .inl f_holding)), (tb_h, .inr (1, [.ref tb_a_numbers, .int tb__rows])), (tb_a_numbers, .inl (gI G, 360, .inl tb_f_numbers))]) ⟨hx, hb, hml, hown, hts⟩ hA hK hZ hP hD hS hC_r4 (cwV 4 hts g_Cond_40 rfl rfl rfl (by decide +kernel) ⟨Nat.le_of_ble_eq_true rfl, Nat.le_of_ble_eq_true rfl⟩) (ci := 8) (q0 := 0) rfl rfl rfl [0, 3, 4, 5, 6] rfl (by decide) rfl rfl rfl hl.1 rfl (Nat.le_of_ble_eq_true rfl) d_Cond_hold_63 ⟨Nat.le_of_ble_eq_true rfl, Nat.le_of_ble_eq_true rfl⟩ (st1 := []) (c1 := 0) (s1 := 0) rfl rfl rfl (fun H locs hP hD hS => ?_)
      refine lv_iinc (v := i + 1) (lv' := [(5, .int (i + 1)), (0, .ref h), (1, .int x), (2, .int z), (3, .ref tb_h), (4, .int row)]) hx hb d_Cond_hold_66 hl (k := 0) rfl (by rfl) (by decide) rfl (fun ls hl => ?_)
      refine lv_goto (tgt := 19) hx hb d_Cond_hold_69 (by decide) ?_
      have e_ : lp_Cond_hold f_steps f_values f_holding tb_f_numbers z row (n + 1) i g k = lp_Cond_hold f_steps f_values f_holding tb_f_numbers z row n (i + 1) r4.2 r4.1 := (by rw [lp_Cond_hold] <;> simp only [hr4] <;> rw [if_neg c1, if_neg c3, if_neg c5])
      rw [e_]
      exact ih (i + 1) r4.2 r4.1 hf_r4_1 (ho_1 c1 hi) (mu_step (mu_up c1) hmu) _ _ _ hP hD hS (lv_sub hl [0, 1, 2, 3, 4, 5] rfl)
  have hl : lv_has ls 6 [(0, .ref h), (1, .int x), (2, .int z), (3, .ref tb_h), (4, .int row)] := hl
  refine lv_iload_n hx hb d_Cond_hold_0 rfl (lv_at hl 1 rfl) ?_
  refine lv_iload_n hx hb d_Cond_hold_1 rfl (lv_at hl 2 rfl) ?_
  refine lv_icmp_lt (tgt := 7) hx hb d_Cond_hold_2 (by decide) (fun c1 => ?_) (fun c1 => ?_)
  · skip
    refine lv_aload_n hx hb d_Cond_hold_7 rfl (lv_at hl 0 rfl) ?_
    refine lv_iconst (v := 0) hx hb d_Cond_hold_8 (by decide) ?_
    refine va_put (D := G.1) (ci := 8) (v := .int 0) (ty := .int) (C := R_Cond) (T := F_Cond) (N := 6) hx hb hts i_Cond t_Cond t_Cond_ok n_Cond hown hK hP hD hS 0 rfl rfl 4 (by decide) (hts (.fieldLink R_Cond 25 "PrivateQueries$Conditions" "height" "I") k_80) (fun _ h9 => h9) rfl (by decide +kernel) rfl rfl (Nat.le_of_ble_eq_true rfl) d_Cond_hold_9 (fun H locs hP hD hS => ?_)
    have hP : va_P G.1 classes [(h, .inr (8, [.ref a_steps, .ref a_values, .int v_size, .ref a_stack, .int 0, .ref a_holding])), (a_steps, .inl (gI G, 2000, .inl f_steps)), (a_values, .inl (gI G, 2000, .inl f_values)), (a_stack, .inl (gI G, 64, .inl f_stack)), (a_holding, .inl (gZ G, 10, .inl f_holding)), (tb_h, .inr (1, [.ref tb_a_numbers, .int tb__rows])), (tb_a_numbers, .inl (gI G, 360, .inl tb_f_numbers))] H := hP
    have hD : va_D A [(h, .inr (8, [.ref a_steps, .ref a_values, .int v_size, .ref a_stack, .int 0, .ref a_holding])), (a_steps, .inl (gI G, 2000, .inl f_steps)), (a_values, .inl (gI G, 2000, .inl f_values)), (a_stack, .inl (gI G, 64, .inl f_stack)), (a_holding, .inl (gZ G, 10, .inl f_holding)), (tb_h, .inr (1, [.ref tb_a_numbers, .int tb__rows])), (tb_a_numbers, .inl (gI G, 360, .inl tb_f_numbers))] := hD
    refine lv_iload_n hx hb d_Cond_hold_12 rfl (lv_at hl 1 rfl) ?_
    refine lv_iconst (v := 0) hx hb d_Cond_hold_13 (by decide) ?_
    refine va_mmax hx hb (hml.trans hl.1.symm) hown (hts (.methodLink R_Cond 34 Lib.Math.max.name) k_102) (hts (.static Lib.Math.max.name) k_51) (hts (.initialized "java/lang/Math") k_52) (hts (.code Lib.Math.max.name Lib.Math.max.code 2 (some .int)) k_53) (Nat.le_of_ble_eq_true rfl) (Nat.le_of_ble_eq_true rfl) (Nat.zero_le _) (Nat.zero_le _) d_Cond_hold_14 ?_
    refine lv_istore (lv' := [(5, .int (if x < 0 then 0 else x)), (0, .ref h), (1, .int x), (2, .int z), (3, .ref tb_h), (4, .int row)]) hx hb d_Cond_hold_17 hl (by decide) rfl (fun ls hl => ?_)
    have e_ : s_Cond_hold f_steps f_values f_stack v_height f_holding tb_f_numbers x z row = (lp_Cond_hold f_steps f_values f_holding tb_f_numbers z row (((z.toInt - (if x < 0 then 0 else x).toInt).toNat) + 1) (if x < 0 then 0 else x) f_stack (0 : Int32)) := (by rw [s_Cond_hold, if_pos c1])
    rw [e_]
    exact loop (((z.toInt - (if x < 0 then 0 else x).toInt).toNat) + 1) (if x < 0 then 0 else x) f_stack (0 : Int32) ⟨by decide, by decide⟩ (ho_0 x) (Nat.lt_succ_self _) _ _ _ hP hD hS (lv_sub hl [0, 1, 2, 3, 4, 5] rfl)
  refine lv_iconst (v := 1) hx hb d_Cond_hold_5 (by decide) ?_
  exact ly_zret hx hb hr hlocks hP hD hS d_Cond_hold_6 (by decide) (by rw [s_Cond_hold, if_neg c1]) (by rw [s_Cond_hold, if_neg c1])
