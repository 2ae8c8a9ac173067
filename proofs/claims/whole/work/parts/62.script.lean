theorem d_Scr_questionAt_0 : decode b_Scr_questionAt 0 = .ok (.aload_n 0, 1) := by decide +kernel
theorem d_Scr_questionAt_1 : decode b_Scr_questionAt 1 = .ok (.getfield 27, 3) := by decide +kernel
theorem d_Scr_questionAt_4 : decode b_Scr_questionAt 4 = .ok (.iconst 0, 1) := by decide +kernel
theorem d_Scr_questionAt_5 : decode b_Scr_questionAt 5 = .ok (.iload_n 1, 1) := by decide +kernel
theorem d_Scr_questionAt_6 : decode b_Scr_questionAt 6 = .ok (.aload_n 0, 1) := by decide +kernel
theorem d_Scr_questionAt_7 : decode b_Scr_questionAt 7 = .ok (.getfield 27, 3) := by decide +kernel
theorem d_Scr_questionAt_10 : decode b_Scr_questionAt 10 = .ok (.arraylength, 1) := by decide +kernel
theorem d_Scr_questionAt_11 : decode b_Scr_questionAt 11 = .ok (.iconst 1, 1) := by decide +kernel
theorem d_Scr_questionAt_12 : decode b_Scr_questionAt 12 = .ok (.isub, 1) := by decide +kernel
theorem d_Scr_questionAt_13 : decode b_Scr_questionAt 13 = .ok (.invokestatic 62, 3) := by decide +kernel
theorem d_Scr_questionAt_16 : decode b_Scr_questionAt 16 = .ok (.invokestatic 68, 3) := by decide +kernel
theorem d_Scr_questionAt_19 : decode b_Scr_questionAt 19 = .ok (.aaload, 1) := by decide +kernel
theorem d_Scr_questionAt_20 : decode b_Scr_questionAt 20 = .ok (.areturn, 1) := by decide +kernel
theorem d_Qu_enter_0 : decode b_Qu_enter 0 = .ok (.iload_n 3, 1) := by decide +kernel
theorem d_Qu_enter_1 : decode b_Qu_enter 1 = .ok (.istore 4, 2) := by decide +kernel
theorem d_Qu_enter_3 : decode b_Qu_enter 3 = .ok (.iconst 1, 1) := by decide +kernel
theorem d_Qu_enter_4 : decode b_Qu_enter 4 = .ok (.istore 5, 2) := by decide +kernel
theorem d_Qu_enter_6 : decode b_Qu_enter 6 = .ok (.aload_n 0, 1) := by decide +kernel
theorem d_Qu_enter_7 : decode b_Qu_enter 7 = .ok (.getfield 15, 3) := by decide +kernel
theorem d_Qu_enter_10 : decode b_Qu_enter 10 = .ok (.iconst 1, 1) := by decide +kernel
theorem d_Qu_enter_11 : decode b_Qu_enter 11 = .ok (.if_icmp .ne 20, 3) := by decide +kernel
theorem d_Qu_enter_14 : decode b_Qu_enter 14 = .ok (.iload_n 1, 1) := by decide +kernel
theorem d_Qu_enter_15 : decode b_Qu_enter 15 = .ok (.aload_n 0, 1) := by decide +kernel
theorem d_Qu_enter_16 : decode b_Qu_enter 16 = .ok (.getfield 21, 3) := by decide +kernel
theorem d_Qu_enter_19 : decode b_Qu_enter 19 = .ok (.aload_n 0, 1) := by decide +kernel
theorem d_Qu_enter_20 : decode b_Qu_enter 20 = .ok (.getfield 24, 3) := by decide +kernel
theorem d_Qu_enter_23 : decode b_Qu_enter 23 = .ok (.invokestatic 49, 3) := by decide +kernel
theorem d_Qu_enter_26 : decode b_Qu_enter 26 = .ok (.istore 5, 2) := by decide +kernel
theorem d_Qu_enter_28 : decode b_Qu_enter 28 = .ok (.goto 38, 3) := by decide +kernel
theorem d_Qu_enter_31 : decode b_Qu_enter 31 = .ok (.aload_n 0, 1) := by decide +kernel
theorem d_Qu_enter_32 : decode b_Qu_enter 32 = .ok (.getfield 15, 3) := by decide +kernel
theorem d_Qu_enter_35 : decode b_Qu_enter 35 = .ok (.iconst 2, 1) := by decide +kernel
theorem d_Qu_enter_36 : decode b_Qu_enter 36 = .ok (.if_icmp .ne 30, 3) := by decide +kernel
theorem d_Qu_enter_39 : decode b_Qu_enter 39 = .ok (.iload_n 1, 1) := by decide +kernel
theorem d_Qu_enter_40 : decode b_Qu_enter 40 = .ok (.aload_n 0, 1) := by decide +kernel
theorem d_Qu_enter_41 : decode b_Qu_enter 41 = .ok (.getfield 21, 3) := by decide +kernel
theorem d_Qu_enter_44 : decode b_Qu_enter 44 = .ok (.if_icmp .lt 11, 3) := by decide +kernel
theorem d_Qu_enter_47 : decode b_Qu_enter 47 = .ok (.iload_n 1, 1) := by decide +kernel
theorem d_Qu_enter_48 : decode b_Qu_enter 48 = .ok (.aload_n 0, 1) := by decide +kernel
theorem d_Qu_enter_49 : decode b_Qu_enter 49 = .ok (.getfield 24, 3) := by decide +kernel
theorem d_Qu_enter_52 : decode b_Qu_enter 52 = .ok (.if_icmp .le 4, 3) := by decide +kernel
theorem d_Qu_enter_55 : decode b_Qu_enter 55 = .ok (.return_, 1) := by decide +kernel
theorem d_Qu_enter_56 : decode b_Qu_enter 56 = .ok (.iload_n 3, 1) := by decide +kernel
theorem d_Qu_enter_57 : decode b_Qu_enter 57 = .ok (.iload_n 1, 1) := by decide +kernel
theorem d_Qu_enter_58 : decode b_Qu_enter 58 = .ok (.iadd, 1) := by decide +kernel
theorem d_Qu_enter_59 : decode b_Qu_enter 59 = .ok (.aload_n 0, 1) := by decide +kernel
theorem d_Qu_enter_60 : decode b_Qu_enter 60 = .ok (.getfield 21, 3) := by decide +kernel
theorem d_Qu_enter_63 : decode b_Qu_enter 63 = .ok (.isub, 1) := by decide +kernel
theorem d_Qu_enter_64 : decode b_Qu_enter 64 = .ok (.istore 4, 2) := by decide +kernel
theorem d_Qu_enter_66 : decode b_Qu_enter 66 = .ok (.iload 4, 2) := by decide +kernel
theorem d_Qu_enter_68 : decode b_Qu_enter 68 = .ok (.ifCond .lt 19, 3) := by decide +kernel
theorem d_Qu_enter_71 : decode b_Qu_enter 71 = .ok (.iload 4, 2) := by decide +kernel
theorem d_Qu_enter_73 : decode b_Qu_enter 73 = .ok (.aload_n 2, 1) := by decide +kernel
theorem d_Qu_enter_74 : decode b_Qu_enter 74 = .ok (.arraylength, 1) := by decide +kernel
theorem d_Qu_enter_75 : decode b_Qu_enter 75 = .ok (.if_icmp .ge 12, 3) := by decide +kernel
theorem d_Qu_enter_78 : decode b_Qu_enter 78 = .ok (.aload_n 2, 1) := by decide +kernel
theorem d_Qu_enter_79 : decode b_Qu_enter 79 = .ok (.iload 4, 2) := by decide +kernel
theorem d_Qu_enter_81 : decode b_Qu_enter 81 = .ok (.dup2, 1) := by decide +kernel
theorem d_Qu_enter_82 : decode b_Qu_enter 82 = .ok (.iaload, 1) := by decide +kernel
theorem d_Qu_enter_83 : decode b_Qu_enter 83 = .ok (.iload 5, 2) := by decide +kernel
theorem d_Qu_enter_85 : decode b_Qu_enter 85 = .ok (.iadd, 1) := by decide +kernel
theorem d_Qu_enter_86 : decode b_Qu_enter 86 = .ok (.iastore, 1) := by decide +kernel
theorem d_Qu_enter_87 : decode b_Qu_enter 87 = .ok (.return_, 1) := by decide +kernel
theorem d_Qu_divide_0 : decode b_Qu_divide 0 = .ok (.aload_n 0, 1) := by decide +kernel
theorem d_Qu_divide_1 : decode b_Qu_divide 1 = .ok (.getfield 15, 3) := by decide +kernel
theorem d_Qu_divide_4 : decode b_Qu_divide 4 = .ok (.iconst 1, 1) := by decide +kernel
theorem d_Qu_divide_5 : decode b_Qu_divide 5 = .ok (.if_icmp .ne 31, 3) := by decide +kernel
theorem d_Qu_divide_8 : decode b_Qu_divide 8 = .ok (.aload_n 0, 1) := by decide +kernel
theorem d_Qu_divide_9 : decode b_Qu_divide 9 = .ok (.getfield 9, 3) := by decide +kernel
theorem d_Qu_divide_12 : decode b_Qu_divide 12 = .ok (.iconst 1, 1) := by decide +kernel
theorem d_Qu_divide_13 : decode b_Qu_divide 13 = .ok (.if_icmp .le 23, 3) := by decide +kernel
theorem d_Qu_divide_16 : decode b_Qu_divide 16 = .ok (.iload_n 2, 1) := by decide +kernel
theorem d_Qu_divide_17 : decode b_Qu_divide 17 = .ok (.ifCond .lt 19, 3) := by decide +kernel
theorem d_Qu_divide_20 : decode b_Qu_divide 20 = .ok (.iload_n 2, 1) := by decide +kernel
theorem d_Qu_divide_21 : decode b_Qu_divide 21 = .ok (.aload_n 1, 1) := by decide +kernel
theorem d_Qu_divide_22 : decode b_Qu_divide 22 = .ok (.arraylength, 1) := by decide +kernel
theorem d_Qu_divide_23 : decode b_Qu_divide 23 = .ok (.if_icmp .ge 13, 3) := by decide +kernel
theorem d_Qu_divide_26 : decode b_Qu_divide 26 = .ok (.aload_n 1, 1) := by decide +kernel
theorem d_Qu_divide_27 : decode b_Qu_divide 27 = .ok (.iload_n 2, 1) := by decide +kernel
theorem d_Qu_divide_28 : decode b_Qu_divide 28 = .ok (.dup2, 1) := by decide +kernel
theorem d_Qu_divide_29 : decode b_Qu_divide 29 = .ok (.iaload, 1) := by decide +kernel
theorem d_Qu_divide_30 : decode b_Qu_divide 30 = .ok (.aload_n 0, 1) := by decide +kernel
theorem d_Qu_divide_31 : decode b_Qu_divide 31 = .ok (.getfield 9, 3) := by decide +kernel
theorem d_Qu_divide_34 : decode b_Qu_divide 34 = .ok (.idiv, 1) := by decide +kernel
theorem d_Qu_divide_35 : decode b_Qu_divide 35 = .ok (.iastore, 1) := by decide +kernel
theorem d_Qu_divide_36 : decode b_Qu_divide 36 = .ok (.return_, 1) := by decide +kernel
theorem d_Scr_addLet_0 : decode b_Scr_addLet 0 = .ok (.aload_n 0, 1) := by decide +kernel
theorem d_Scr_addLet_1 : decode b_Scr_addLet 1 = .ok (.getfield 46, 3) := by decide +kernel
theorem d_Scr_addLet_4 : decode b_Scr_addLet 4 = .ok (.bipush 10, 2) := by decide +kernel
theorem d_Scr_addLet_6 : decode b_Scr_addLet 6 = .ok (.if_icmp .ge 16, 3) := by decide +kernel
theorem d_Scr_addLet_9 : decode b_Scr_addLet 9 = .ok (.iload_n 1, 1) := by decide +kernel
theorem d_Scr_addLet_10 : decode b_Scr_addLet 10 = .ok (.ifCond .lt 12, 3) := by decide +kernel
theorem d_Scr_addLet_13 : decode b_Scr_addLet 13 = .ok (.iload_n 1, 1) := by decide +kernel
theorem d_Scr_addLet_14 : decode b_Scr_addLet 14 = .ok (.aload_n 0, 1) := by decide +kernel
theorem d_Scr_addLet_15 : decode b_Scr_addLet 15 = .ok (.getfield 43, 3) := by decide +kernel
theorem d_Scr_addLet_18 : decode b_Scr_addLet 18 = .ok (.arraylength, 1) := by decide +kernel
theorem d_Scr_addLet_19 : decode b_Scr_addLet 19 = .ok (.if_icmp .lt 4, 3) := by decide +kernel
theorem d_Scr_addLet_22 : decode b_Scr_addLet 22 = .ok (.return_, 1) := by decide +kernel
theorem d_Scr_addLet_23 : decode b_Scr_addLet 23 = .ok (.aload_n 0, 1) := by decide +kernel
theorem d_Scr_addLet_24 : decode b_Scr_addLet 24 = .ok (.getfield 36, 3) := by decide +kernel
theorem d_Scr_addLet_27 : decode b_Scr_addLet 27 = .ok (.aload_n 0, 1) := by decide +kernel
theorem d_Scr_addLet_28 : decode b_Scr_addLet 28 = .ok (.getfield 46, 3) := by decide +kernel
theorem d_Scr_addLet_31 : decode b_Scr_addLet 31 = .ok (.iload_n 2, 1) := by decide +kernel
theorem d_Scr_addLet_32 : decode b_Scr_addLet 32 = .ok (.iastore, 1) := by decide +kernel
theorem d_Scr_addLet_33 : decode b_Scr_addLet 33 = .ok (.aload_n 0, 1) := by decide +kernel
theorem d_Scr_addLet_34 : decode b_Scr_addLet 34 = .ok (.getfield 40, 3) := by decide +kernel
theorem d_Scr_addLet_37 : decode b_Scr_addLet 37 = .ok (.aload_n 0, 1) := by decide +kernel
theorem d_Scr_addLet_38 : decode b_Scr_addLet 38 = .ok (.getfield 46, 3) := by decide +kernel
theorem d_Scr_addLet_41 : decode b_Scr_addLet 41 = .ok (.aload_n 0, 1) := by decide +kernel
theorem d_Scr_addLet_42 : decode b_Scr_addLet 42 = .ok (.getfield 21, 3) := by decide +kernel
theorem d_Scr_addLet_45 : decode b_Scr_addLet 45 = .ok (.invokevirtual 71, 3) := by decide +kernel
theorem d_Scr_addLet_48 : decode b_Scr_addLet 48 = .ok (.iastore, 1) := by decide +kernel
theorem d_Scr_addLet_49 : decode b_Scr_addLet 49 = .ok (.aload_n 0, 1) := by decide +kernel
theorem d_Scr_addLet_50 : decode b_Scr_addLet 50 = .ok (.getfield 43, 3) := by decide +kernel
theorem d_Scr_addLet_53 : decode b_Scr_addLet 53 = .ok (.iload_n 1, 1) := by decide +kernel
theorem d_Scr_addLet_54 : decode b_Scr_addLet 54 = .ok (.aload_n 0, 1) := by decide +kernel
theorem d_Scr_addLet_55 : decode b_Scr_addLet 55 = .ok (.getfield 46, 3) := by decide +kernel
theorem d_Scr_addLet_58 : decode b_Scr_addLet 58 = .ok (.iastore, 1) := by decide +kernel
theorem d_Scr_addLet_59 : decode b_Scr_addLet 59 = .ok (.aload_n 0, 1) := by decide +kernel
theorem d_Scr_addLet_60 : decode b_Scr_addLet 60 = .ok (.dup, 1) := by decide +kernel
theorem d_Scr_addLet_61 : decode b_Scr_addLet 61 = .ok (.getfield 46, 3) := by decide +kernel
theorem d_Scr_addLet_64 : decode b_Scr_addLet 64 = .ok (.iconst 1, 1) := by decide +kernel
theorem d_Scr_addLet_65 : decode b_Scr_addLet 65 = .ok (.iadd, 1) := by decide +kernel
theorem d_Scr_addLet_66 : decode b_Scr_addLet 66 = .ok (.putfield 46, 3) := by decide +kernel
theorem d_Scr_addLet_69 : decode b_Scr_addLet 69 = .ok (.return_, 1) := by decide +kernel
theorem d_Scr_all_0 : decode b_Scr_all 0 = .ok (.iconst 0, 1) := by decide +kernel
theorem d_Scr_all_1 : decode b_Scr_all 1 = .ok (.istore_n 2, 1) := by decide +kernel
theorem d_Scr_all_2 : decode b_Scr_all 2 = .ok (.iconst 0, 1) := by decide +kernel
theorem d_Scr_all_3 : decode b_Scr_all 3 = .ok (.istore_n 3, 1) := by decide +kernel
theorem d_Scr_all_4 : decode b_Scr_all 4 = .ok (.iload_n 3, 1) := by decide +kernel
theorem d_Scr_all_5 : decode b_Scr_all 5 = .ok (.aload_n 0, 1) := by decide +kernel
theorem d_Scr_all_6 : decode b_Scr_all 6 = .ok (.getfield 32, 3) := by decide +kernel
theorem d_Scr_all_9 : decode b_Scr_all 9 = .ok (.if_icmp .ge 21, 3) := by decide +kernel
theorem d_Scr_all_12 : decode b_Scr_all 12 = .ok (.iload_n 2, 1) := by decide +kernel
theorem d_Scr_all_13 : decode b_Scr_all 13 = .ok (.aload_n 0, 1) := by decide +kernel
theorem d_Scr_all_14 : decode b_Scr_all 14 = .ok (.iload_n 3, 1) := by decide +kernel
theorem d_Scr_all_15 : decode b_Scr_all 15 = .ok (.invokevirtual 75, 3) := by decide +kernel
theorem d_Scr_all_18 : decode b_Scr_all 18 = .ok (.iload_n 1, 1) := by decide +kernel
theorem d_Scr_all_19 : decode b_Scr_all 19 = .ok (.invokevirtual 79, 3) := by decide +kernel
theorem d_Scr_all_22 : decode b_Scr_all 22 = .ok (.iadd, 1) := by decide +kernel
theorem d_Scr_all_23 : decode b_Scr_all 23 = .ok (.istore_n 2, 1) := by decide +kernel
theorem d_Scr_all_24 : decode b_Scr_all 24 = .ok (.iinc 3 1, 3) := by decide +kernel
theorem d_Scr_all_27 : decode b_Scr_all 27 = .ok (.goto (-23), 3) := by decide +kernel
theorem d_Scr_all_30 : decode b_Scr_all 30 = .ok (.iload_n 2, 1) := by decide +kernel
theorem d_Scr_all_31 : decode b_Scr_all 31 = .ok (.ireturn, 1) := by decide +kernel
theorem d_Scr_settleLets_0 : decode b_Scr_settleLets 0 = .ok (.iconst 0, 1) := by decide +kernel
theorem d_Scr_settleLets_1 : decode b_Scr_settleLets 1 = .ok (.istore_n 3, 1) := by decide +kernel
theorem d_Scr_settleLets_2 : decode b_Scr_settleLets 2 = .ok (.iload_n 3, 1) := by decide +kernel
theorem d_Scr_settleLets_3 : decode b_Scr_settleLets 3 = .ok (.aload_n 0, 1) := by decide +kernel
theorem d_Scr_settleLets_4 : decode b_Scr_settleLets 4 = .ok (.getfield 46, 3) := by decide +kernel
theorem d_Scr_settleLets_7 : decode b_Scr_settleLets 7 = .ok (.if_icmp .ge 56, 3) := by decide +kernel
theorem d_Scr_settleLets_10 : decode b_Scr_settleLets 10 = .ok (.iload_n 3, 1) := by decide +kernel
theorem d_Scr_settleLets_11 : decode b_Scr_settleLets 11 = .ok (.aload_n 0, 1) := by decide +kernel
theorem d_Scr_settleLets_12 : decode b_Scr_settleLets 12 = .ok (.getfield 36, 3) := by decide +kernel
theorem d_Scr_settleLets_15 : decode b_Scr_settleLets 15 = .ok (.arraylength, 1) := by decide +kernel
theorem d_Scr_settleLets_16 : decode b_Scr_settleLets 16 = .ok (.if_icmp .ge 47, 3) := by decide +kernel
theorem d_Scr_settleLets_19 : decode b_Scr_settleLets 19 = .ok (.iload_n 3, 1) := by decide +kernel
theorem d_Scr_settleLets_20 : decode b_Scr_settleLets 20 = .ok (.aload_n 0, 1) := by decide +kernel
theorem d_Scr_settleLets_21 : decode b_Scr_settleLets 21 = .ok (.getfield 40, 3) := by decide +kernel
theorem d_Scr_settleLets_24 : decode b_Scr_settleLets 24 = .ok (.arraylength, 1) := by decide +kernel
theorem d_Scr_settleLets_25 : decode b_Scr_settleLets 25 = .ok (.if_icmp .ge 38, 3) := by decide +kernel
theorem d_Scr_settleLets_28 : decode b_Scr_settleLets 28 = .ok (.aload_n 0, 1) := by decide +kernel
theorem d_Scr_settleLets_29 : decode b_Scr_settleLets 29 = .ok (.getfield 21, 3) := by decide +kernel
theorem d_Scr_settleLets_32 : decode b_Scr_settleLets 32 = .ok (.iload_n 3, 1) := by decide +kernel
theorem d_Scr_settleLets_33 : decode b_Scr_settleLets 33 = .ok (.aload_n 0, 1) := by decide +kernel
theorem d_Scr_settleLets_34 : decode b_Scr_settleLets 34 = .ok (.getfield 21, 3) := by decide +kernel
theorem d_Scr_settleLets_37 : decode b_Scr_settleLets 37 = .ok (.aload_n 0, 1) := by decide +kernel
theorem d_Scr_settleLets_38 : decode b_Scr_settleLets 38 = .ok (.getfield 36, 3) := by decide +kernel
theorem d_Scr_settleLets_41 : decode b_Scr_settleLets 41 = .ok (.iload_n 3, 1) := by decide +kernel
theorem d_Scr_settleLets_42 : decode b_Scr_settleLets 42 = .ok (.iaload, 1) := by decide +kernel
theorem d_Scr_settleLets_43 : decode b_Scr_settleLets 43 = .ok (.aload_n 0, 1) := by decide +kernel
theorem d_Scr_settleLets_44 : decode b_Scr_settleLets 44 = .ok (.getfield 40, 3) := by decide +kernel
theorem d_Scr_settleLets_47 : decode b_Scr_settleLets 47 = .ok (.iload_n 3, 1) := by decide +kernel
theorem d_Scr_settleLets_48 : decode b_Scr_settleLets 48 = .ok (.iaload, 1) := by decide +kernel
theorem d_Scr_settleLets_49 : decode b_Scr_settleLets 49 = .ok (.aload_n 1, 1) := by decide +kernel
theorem d_Scr_settleLets_50 : decode b_Scr_settleLets 50 = .ok (.iload_n 2, 1) := by decide +kernel
theorem d_Scr_settleLets_51 : decode b_Scr_settleLets 51 = .ok (.invokevirtual 100, 3) := by decide +kernel
theorem d_Scr_settleLets_54 : decode b_Scr_settleLets 54 = .ok (.invokevirtual 104, 3) := by decide +kernel
theorem d_Scr_settleLets_57 : decode b_Scr_settleLets 57 = .ok (.iinc 3 1, 3) := by decide +kernel
theorem d_Scr_settleLets_60 : decode b_Scr_settleLets 60 = .ok (.goto (-58), 3) := by decide +kernel
theorem d_Scr_settleLets_63 : decode b_Scr_settleLets 63 = .ok (.return_, 1) := by decide +kernel
theorem d_Scr_enterRow_0 : decode b_Scr_enterRow 0 = .ok (.iconst 0, 1) := by decide +kernel
theorem d_Scr_enterRow_1 : decode b_Scr_enterRow 1 = .ok (.istore 4, 2) := by decide +kernel
theorem d_Scr_enterRow_3 : decode b_Scr_enterRow 3 = .ok (.iconst 0, 1) := by decide +kernel
theorem d_Scr_enterRow_4 : decode b_Scr_enterRow 4 = .ok (.istore 5, 2) := by decide +kernel
theorem d_Scr_enterRow_6 : decode b_Scr_enterRow 6 = .ok (.iload 5, 2) := by decide +kernel
theorem d_Scr_enterRow_8 : decode b_Scr_enterRow 8 = .ok (.aload_n 0, 1) := by decide +kernel
theorem d_Scr_enterRow_9 : decode b_Scr_enterRow 9 = .ok (.getfield 32, 3) := by decide +kernel
theorem d_Scr_enterRow_12 : decode b_Scr_enterRow 12 = .ok (.if_icmp .ge 67, 3) := by decide +kernel
theorem d_Scr_enterRow_15 : decode b_Scr_enterRow 15 = .ok (.aload_n 0, 1) := by decide +kernel
theorem d_Scr_enterRow_16 : decode b_Scr_enterRow 16 = .ok (.iload 5, 2) := by decide +kernel
theorem d_Scr_enterRow_18 : decode b_Scr_enterRow 18 = .ok (.invokevirtual 75, 3) := by decide +kernel
theorem d_Scr_enterRow_21 : decode b_Scr_enterRow 21 = .ok (.astore 6, 2) := by decide +kernel
theorem d_Scr_enterRow_23 : decode b_Scr_enterRow 23 = .ok (.aload_n 0, 1) := by decide +kernel
theorem d_Scr_enterRow_24 : decode b_Scr_enterRow 24 = .ok (.getfield 21, 3) := by decide +kernel
theorem d_Scr_enterRow_27 : decode b_Scr_enterRow 27 = .ok (.aload 6, 2) := by decide +kernel
theorem d_Scr_enterRow_29 : decode b_Scr_enterRow 29 = .ok (.getfield 108, 3) := by decide +kernel
theorem d_Scr_enterRow_32 : decode b_Scr_enterRow 32 = .ok (.aload 6, 2) := by decide +kernel
theorem d_Scr_enterRow_34 : decode b_Scr_enterRow 34 = .ok (.getfield 111, 3) := by decide +kernel
theorem d_Scr_enterRow_37 : decode b_Scr_enterRow 37 = .ok (.aload_n 1, 1) := by decide +kernel
theorem d_Scr_enterRow_38 : decode b_Scr_enterRow 38 = .ok (.iload_n 2, 1) := by decide +kernel
theorem d_Scr_enterRow_39 : decode b_Scr_enterRow 39 = .ok (.invokevirtual 100, 3) := by decide +kernel
theorem d_Scr_enterRow_42 : decode b_Scr_enterRow 42 = .ok (.ifCond .eq 21, 3) := by decide +kernel
theorem d_Scr_enterRow_45 : decode b_Scr_enterRow 45 = .ok (.aload 6, 2) := by decide +kernel
theorem d_Scr_enterRow_47 : decode b_Scr_enterRow 47 = .ok (.aload_n 1, 1) := by decide +kernel
theorem d_Scr_enterRow_48 : decode b_Scr_enterRow 48 = .ok (.iload_n 2, 1) := by decide +kernel
theorem d_Scr_enterRow_49 : decode b_Scr_enterRow 49 = .ok (.aload 6, 2) := by decide +kernel
theorem d_Scr_enterRow_51 : decode b_Scr_enterRow 51 = .ok (.getfield 114, 3) := by decide +kernel
theorem d_Scr_enterRow_54 : decode b_Scr_enterRow 54 = .ok (.invokevirtual 117, 3) := by decide +kernel
theorem d_Scr_enterRow_57 : decode b_Scr_enterRow 57 = .ok (.aload_n 3, 1) := by decide +kernel
theorem d_Scr_enterRow_58 : decode b_Scr_enterRow 58 = .ok (.iload 4, 2) := by decide +kernel
theorem d_Scr_enterRow_60 : decode b_Scr_enterRow 60 = .ok (.invokevirtual 120, 3) := by decide +kernel
theorem d_Scr_enterRow_63 : decode b_Scr_enterRow 63 = .ok (.iload 4, 2) := by decide +kernel
theorem d_Scr_enterRow_65 : decode b_Scr_enterRow 65 = .ok (.aload 6, 2) := by decide +kernel
theorem d_Scr_enterRow_67 : decode b_Scr_enterRow 67 = .ok (.invokevirtual 97, 3) := by decide +kernel
theorem d_Scr_enterRow_70 : decode b_Scr_enterRow 70 = .ok (.iadd, 1) := by decide +kernel
theorem d_Scr_enterRow_71 : decode b_Scr_enterRow 71 = .ok (.istore 4, 2) := by decide +kernel
theorem d_Scr_enterRow_73 : decode b_Scr_enterRow 73 = .ok (.iinc 5 1, 3) := by decide +kernel
theorem d_Scr_enterRow_76 : decode b_Scr_enterRow 76 = .ok (.goto (-70), 3) := by decide +kernel
theorem d_Scr_enterRow_79 : decode b_Scr_enterRow 79 = .ok (.return_, 1) := by decide +kernel
theorem k_562 : (.fieldLink R_Scr 27 "PrivateQueries$Script" "questions" "[LPrivateQueries$Question;" : Cond) ∈ wG := wGm 309 (by decide +kernel) (by decide +kernel)
theorem k_563 : (.methodLink R_Scr 68 Lib.Math.max.name : Cond) ∈ wG := wGm 710 (by decide +kernel) (by decide +kernel)
theorem k_564 : (.code y_PQ_nearest b_PQ_nearest 3 (some .int) : Cond) ∈ wG := wGm 115 (by decide +kernel) (by decide +kernel)
theorem k_565 : (.static y_PQ_nearest : Cond) ∈ wG := wGm 114 (by decide +kernel) (by decide +kernel)
theorem k_566 : (.fieldLink R_Scr 36 "PrivateQueries$Script" "letStarts" "[I" : Cond) ∈ wG := wGm 311 (by decide +kernel) (by decide +kernel)
theorem k_567 : (.fieldLink R_Scr 40 "PrivateQueries$Script" "letEnds" "[I" : Cond) ∈ wG := wGm 312 (by decide +kernel) (by decide +kernel)
theorem k_568 : (.fieldLink R_Scr 21 "PrivateQueries$Script" "conditions" "LPrivateQueries$Conditions;" : Cond) ∈ wG := wGm 308 (by decide +kernel) (by decide +kernel)
theorem k_569 : (.methodLink R_Scr 71 y_Cond_size : Cond) ∈ wG := wGm 699 (by decide +kernel) (by decide +kernel)
theorem k_570 : (.instanceMethod y_Cond_size : Cond) ∈ wG := wGm 660 (by decide +kernel) (by decide +kernel)
theorem k_571 : (.selects R_Cond y_Cond_size y_Cond_size : Cond) ∈ wG := wGm 661 (by decide +kernel) (by decide +kernel)
theorem k_572 : (.code y_Cond_size b_Cond_size 1 (some .int) : Cond) ∈ wG := wGm 662 (by decide +kernel) (by decide +kernel)
theorem k_573 : (.methodLink R_Scr 75 y_Scr_questionAt : Cond) ∈ wG := wGm 766 (by decide +kernel) (by decide +kernel)
theorem k_574 : (.instanceMethod y_Scr_questionAt : Cond) ∈ wG := wGm 706 (by decide +kernel) (by decide +kernel)
theorem k_575 : (.selects R_Scr y_Scr_questionAt y_Scr_questionAt : Cond) ∈ wG := wGm 707 (by decide +kernel) (by decide +kernel)
theorem k_576 : (.code y_Scr_questionAt b_Scr_questionAt 2 (some (.object "PrivateQueries$Question")) : Cond) ∈ wG := wGm 708 (by decide +kernel) (by decide +kernel)
theorem k_577 : (.methodLink R_Scr 79 y_Qu_part : Cond) ∈ wG := wGm 767 (by decide +kernel) (by decide +kernel)
theorem k_578 : (.instanceMethod y_Qu_part : Cond) ∈ wG := wGm 746 (by decide +kernel) (by decide +kernel)
theorem k_579 : (.selects R_Qu y_Qu_part y_Qu_part : Cond) ∈ wG := wGm 747 (by decide +kernel) (by decide +kernel)
theorem k_580 : (.code y_Qu_part b_Qu_part 2 (some .int) : Cond) ∈ wG := wGm 748 (by decide +kernel) (by decide +kernel)
theorem k_581 : (.methodLink R_Scr 100 y_Cond_hold : Cond) ∈ wG := wGm 788 (by decide +kernel) (by decide +kernel)
theorem k_582 : (.instanceMethod y_Cond_hold : Cond) ∈ wG := wGm 789 (by decide +kernel) (by decide +kernel)
theorem k_583 : (.selects R_Cond y_Cond_hold y_Cond_hold : Cond) ∈ wG := wGm 790 (by decide +kernel) (by decide +kernel)
theorem k_584 : (.code y_Cond_hold b_Cond_hold 6 (some .boolean) : Cond) ∈ wG := wGm 791 (by decide +kernel) (by decide +kernel)
theorem k_585 : (.methodLink R_Scr 104 y_Cond_settle : Cond) ∈ wG := wGm 815 (by decide +kernel) (by decide +kernel)
theorem k_586 : (.instanceMethod y_Cond_settle : Cond) ∈ wG := wGm 816 (by decide +kernel) (by decide +kernel)
theorem k_587 : (.selects R_Cond y_Cond_settle y_Cond_settle : Cond) ∈ wG := wGm 817 (by decide +kernel) (by decide +kernel)
theorem k_588 : (.code y_Cond_settle b_Cond_settle 3 none : Cond) ∈ wG := wGm 818 (by decide +kernel) (by decide +kernel)
theorem k_589 : (.fieldLink R_Scr 108 "PrivateQueries$Question" "start" "I" : Cond) ∈ wG := wGm 284 (by decide +kernel) (by decide +kernel)
theorem k_590 : (.fieldLink R_Scr 111 "PrivateQueries$Question" "end" "I" : Cond) ∈ wG := wGm 287 (by decide +kernel) (by decide +kernel)
theorem k_591 : (.methodLink R_Scr 97 y_Qu_numbers : Cond) ∈ wG := wGm 829 (by decide +kernel) (by decide +kernel)
theorem k_592 : (.fieldLink R_Scr 114 "PrivateQueries$Question" "column" "I" : Cond) ∈ wG := wGm 272 (by decide +kernel) (by decide +kernel)
theorem k_593 : (.methodLink R_Scr 117 y_Tab_at : Cond) ∈ wG := wGm 823 (by decide +kernel) (by decide +kernel)
theorem k_594 : (.methodLink R_Scr 120 y_Qu_enter : Cond) ∈ wG := wGm 824 (by decide +kernel) (by decide +kernel)
theorem k_595 : (.instanceMethod y_Qu_enter : Cond) ∈ wG := wGm 825 (by decide +kernel) (by decide +kernel)
theorem k_596 : (.selects R_Qu y_Qu_enter y_Qu_enter : Cond) ∈ wG := wGm 826 (by decide +kernel) (by decide +kernel)
theorem k_597 : (.code y_Qu_enter b_Qu_enter 6 none : Cond) ∈ wG := wGm 827 (by decide +kernel) (by decide +kernel)
theorem g_Qu_49 : GoodIn wG w_PQ_nearest := wGc k_564
theorem g_Scr_71 : GoodIn wG (wsV R_Scr 71 R_Cond y_Cond_size w_Cond_size) := wGa (fun w hw => by
  rcases List.mem_cons.mp hw with e | hw
  · exact e ▸ k_569
  rcases List.mem_cons.mp hw with e | hw
  · exact e ▸ k_570
  rcases List.mem_cons.mp hw with e | hw
  · exact e ▸ k_571
  rcases List.mem_cons.mp hw with e | hw
  · exact e ▸ k_84
  · exact absurd hw List.not_mem_nil) (wGc k_572)
theorem g_Scr_75 : GoodIn wG (wsV R_Scr 75 R_Scr y_Scr_questionAt w_Scr_questionAt) := wGa (fun w hw => by
  rcases List.mem_cons.mp hw with e | hw
  · exact e ▸ k_573
  rcases List.mem_cons.mp hw with e | hw
  · exact e ▸ k_574
  rcases List.mem_cons.mp hw with e | hw
  · exact e ▸ k_575
  rcases List.mem_cons.mp hw with e | hw
  · exact e ▸ k_491
  · exact absurd hw List.not_mem_nil) (wGc k_576)
theorem g_Scr_79 : GoodIn wG (wsV R_Scr 79 R_Qu y_Qu_part w_Qu_part) := wGa (fun w hw => by
  rcases List.mem_cons.mp hw with e | hw
  · exact e ▸ k_577
  rcases List.mem_cons.mp hw with e | hw
  · exact e ▸ k_578
  rcases List.mem_cons.mp hw with e | hw
  · exact e ▸ k_579
  rcases List.mem_cons.mp hw with e | hw
  · exact e ▸ k_119
  · exact absurd hw List.not_mem_nil) (wGc k_580)
theorem g_Scr_100 : GoodIn wG (wsV R_Scr 100 R_Cond y_Cond_hold w_Cond_hold) := wGa (fun w hw => by
  rcases List.mem_cons.mp hw with e | hw
  · exact e ▸ k_581
  rcases List.mem_cons.mp hw with e | hw
  · exact e ▸ k_582
  rcases List.mem_cons.mp hw with e | hw
  · exact e ▸ k_583
  rcases List.mem_cons.mp hw with e | hw
  · exact e ▸ k_84
  · exact absurd hw List.not_mem_nil) (wGc k_584)
theorem g_Scr_104 : GoodIn wG (wsV R_Scr 104 R_Cond y_Cond_settle w_Cond_settle) := wGa (fun w hw => by
  rcases List.mem_cons.mp hw with e | hw
  · exact e ▸ k_585
  rcases List.mem_cons.mp hw with e | hw
  · exact e ▸ k_586
  rcases List.mem_cons.mp hw with e | hw
  · exact e ▸ k_587
  rcases List.mem_cons.mp hw with e | hw
  · exact e ▸ k_84
  · exact absurd hw List.not_mem_nil) (wGc k_588)
theorem g_Scr_97 : GoodIn wG (wsV R_Scr 97 R_Qu y_Qu_numbers w_Qu_numbers) := wGa (fun w hw => by
  rcases List.mem_cons.mp hw with e | hw
  · exact e ▸ k_591
  rcases List.mem_cons.mp hw with e | hw
  · exact e ▸ k_122
  rcases List.mem_cons.mp hw with e | hw
  · exact e ▸ k_123
  rcases List.mem_cons.mp hw with e | hw
  · exact e ▸ k_119
  · exact absurd hw List.not_mem_nil) (wGc k_124)
theorem g_Scr_117 : GoodIn wG (wsV R_Scr 117 R_Tab y_Tab_at w_Tab_at) := wGa (fun w hw => by
  rcases List.mem_cons.mp hw with e | hw
  · exact e ▸ k_593
  rcases List.mem_cons.mp hw with e | hw
  · exact e ▸ k_95
  rcases List.mem_cons.mp hw with e | hw
  · exact e ▸ k_96
  rcases List.mem_cons.mp hw with e | hw
  · exact e ▸ k_97
  · exact absurd hw List.not_mem_nil) (wGc k_98)
theorem g_Scr_120 : GoodIn wG (wsV R_Scr 120 R_Qu y_Qu_enter w_Qu_enter) := wGa (fun w hw => by
  rcases List.mem_cons.mp hw with e | hw
  · exact e ▸ k_594
  rcases List.mem_cons.mp hw with e | hw
  · exact e ▸ k_595
  rcases List.mem_cons.mp hw with e | hw
  · exact e ▸ k_596
  rcases List.mem_cons.mp hw with e | hw
  · exact e ▸ k_119
  · exact absurd hw List.not_mem_nil) (wGc k_597)
set_option maxHeartbeats 4000000 in
set_option maxRecDepth 100000 in
theorem c_Scr_questionAt (l : Launch) (G : GG) (h : Nat) (tokens_h : Nat) (conditions_h : Nat) (a_questions : Nat) (a_letStarts : Nat) (a_letEnds : Nat) (a_letOfLetter : Nat) (qa : Nat → Nat) (v_asked : Int32) (v_lets : Int32) (x : Int32) : Det l G y_Scr_questionAt w_Scr_questionAt (rmD 1) 0 0 [.ref h, .int x] [(h, .inr (10, [.ref tokens_h, .ref conditions_h, .ref a_questions, .int v_asked, .ref a_letStarts, .ref a_letEnds, .ref a_letOfLetter, .int v_lets])), (a_questions, .inl (gQ G, 12, .inr (.inr (.inr (.inr (fun j => some (qa j)))))))] (some (.ref (qa (s_qj x)))) [(h, .inr (10, [.ref tokens_h, .ref conditions_h, .ref a_questions, .int v_asked, .ref a_letStarts, .ref a_letEnds, .ref a_letOfLetter, .int v_lets])), (a_questions, .inl (gQ G, 12, .inr (.inr (.inr (.inr (fun j => some (qa j)))))))] := by
  refine Det.of (cc := b_Scr_questionAt) (maxL := 2) (ret := (some (.object "PrivateQueries$Question"))) (by decide) rfl (Nat.le_of_ble_eq_true rfl) ?_
  intro p e s m args below meth c A ls hx hb hr hml hown hts hlocks hin hA hK hZ hP hD hS hl
  have hts : ∀ w ∈ wG, w.before args s = true := fun w h => hts w (List.mem_cons_of_mem _ h)
  have hown : s.vm.findClass R_Scr = some m.cls := hown
  have hl : lv_has ls 2 [(0, .ref h), (1, .int x)] := hl
  refine lv_aload_n hx hb d_Scr_questionAt_0 rfl (lv_at hl 0 rfl) ?_
  refine va_get (D := G.1) (ci := 10) (C := R_Scr) (T := F_Scr) (N := 8) (v := .ref a_questions) hx hb hts i_Scr hown hK hP 0 rfl rfl 2 (by decide) (hts (.fieldLink R_Scr 27 "PrivateQueries$Script" "questions" "[LPrivateQueries$Question;") k_562) (fun _ h9 => h9) rfl d_Scr_questionAt_1 ?_
  refine lv_iconst (v := 0) hx hb d_Scr_questionAt_4 (by decide) ?_
  refine lv_iload_n hx hb d_Scr_questionAt_5 rfl (lv_at hl 1 rfl) ?_
  refine lv_aload_n hx hb d_Scr_questionAt_6 rfl (lv_at hl 0 rfl) ?_
  refine va_get (D := G.1) (ci := 10) (C := R_Scr) (T := F_Scr) (N := 8) (v := .ref a_questions) hx hb hts i_Scr hown hK hP 0 rfl rfl 2 (by decide) (hts (.fieldLink R_Scr 27 "PrivateQueries$Script" "questions" "[LPrivateQueries$Question;") k_562) (fun _ h9 => h9) rfl d_Scr_questionAt_7 ?_
  refine va_alen (v := 12) hx hb hK hP 1 3 rfl rfl (show Int32.ofNat 12 = 12 by decide) d_Scr_questionAt_10 ?_
  refine lv_iconst (v := 1) hx hb d_Scr_questionAt_11 (by decide) ?_
  refine lv_isub hx hb d_Scr_questionAt_12 ?_
  refine va_mmin hx hb (hml.trans hl.1.symm) hown (hts (.methodLink R_Scr 62 Lib.Math.min.name) k_128) (hts (.static Lib.Math.min.name) k_60) (hts (.initialized "java/lang/Math") k_52) (hts (.code Lib.Math.min.name Lib.Math.min.code 2 (some .int)) k_61) (Nat.le_of_ble_eq_true rfl) (Nat.le_of_ble_eq_true rfl) (Nat.zero_le _) (Nat.zero_le _) d_Scr_questionAt_13 ?_
  refine va_mmax hx hb (hml.trans hl.1.symm) hown (hts (.methodLink R_Scr 68 Lib.Math.max.name) k_563) (hts (.static Lib.Math.max.name) k_51) (hts (.initialized "java/lang/Math") k_52) (hts (.code Lib.Math.max.name Lib.Math.max.code 2 (some .int)) k_53) (Nat.le_of_ble_eq_true rfl) (Nat.le_of_ble_eq_true rfl) (Nat.zero_le _) (Nat.zero_le _) d_Scr_questionAt_16 ?_
  refine va_aldq hx hb hK hP 1 3 rfl rfl (s_qj_in x) d_Scr_questionAt_19 ?_
  refine W.eq (g2 := F0 m 20 ls [.ref (qa (if 0 < if 12 - 1 < x then 12 - 1 else x then if 12 - 1 < x then 12 - 1 else x else 0).toNatClampNeg)]) rfl ?_
  exact ly_aret hx hb hr hlocks hP hD hS d_Scr_questionAt_20 (Or.inl ⟨_, rfl⟩) (Or.inr ⟨_, rfl⟩) rfl rfl

set_option maxHeartbeats 4000000 in
set_option maxRecDepth 100000 in
theorem c_Qu_enter (l : Launch) (G : GG) (h : Nat) (nua : Nat) (v_sort : Int32) (v_column : Int32) (v_low : Int32) (v_high : Int32) (v_by : Int32) (v_top : Int32) (v_start : Int32) (v_end : Int32) (nuf : Nat → Int32) (x : Int32) (z : Int32) : Det l G y_Qu_enter w_Qu_enter (rmD 2) 0 0 [.ref h, .int x, .ref nua, .int z] [(h, .inr (9, [.int v_sort, .int v_column, .int v_low, .int v_high, .int v_by, .int v_top, .int v_start, .int v_end])), (nua, .inl (gI G, 240, .inl nuf))] none [(h, .inr (9, [.int v_sort, .int v_column, .int v_low, .int v_high, .int v_by, .int v_top, .int v_start, .int v_end])), (nua, .inl (gI G, 240, .inl (s_Qu_enter v_sort v_low v_high nuf x z)))] := by
  refine Det.of (cc := b_Qu_enter) (maxL := 6) (ret := none) (by decide) rfl (Nat.le_of_ble_eq_true rfl) ?_
  intro p e s m args below meth c A ls hx hb hr hml hown hts hlocks hin hA hK hZ hP hD hS hl
  have hts : ∀ w ∈ wG, w.before args s = true := fun w h => hts w (List.mem_cons_of_mem _ h)
  have hown : s.vm.findClass R_Qu = some m.cls := hown
  have hl : lv_has ls 6 [(0, .ref h), (1, .int x), (2, .ref nua), (3, .int z)] := hl
  refine lv_iload_n hx hb d_Qu_enter_0 rfl (lv_at hl 3 rfl) ?_
  refine lv_istore (lv' := [(4, .int z), (0, .ref h), (1, .int x), (2, .ref nua), (3, .int z)]) hx hb d_Qu_enter_1 hl (by decide) rfl (fun ls hl => ?_)
  refine lv_iconst (v := 1) hx hb d_Qu_enter_3 (by decide) ?_
  refine lv_istore (lv' := [(5, .int 1), (4, .int z), (0, .ref h), (1, .int x), (2, .ref nua), (3, .int z)]) hx hb d_Qu_enter_4 hl (by decide) rfl (fun ls hl => ?_)
  refine lv_aload_n hx hb d_Qu_enter_6 rfl (lv_at hl 2 rfl) ?_
  refine va_get (D := G.1) (ci := 9) (C := R_Qu) (T := F_Qu) (N := 8) (v := .int v_sort) hx hb hts i_Qu hown hK hP 0 rfl rfl 0 (by decide) (hts (.fieldLink R_Qu 15 "PrivateQueries$Question" "sort" "I") k_107) (fun _ h9 => h9) rfl d_Qu_enter_7 ?_
  refine lv_iconst (v := 1) hx hb d_Qu_enter_10 (by decide) ?_
  refine lv_icmp_ne (tgt := 31) hx hb d_Qu_enter_11 (by decide) (fun c1 => ?_) (fun c1 => ?_)
  · skip
    refine lv_aload_n hx hb d_Qu_enter_31 rfl (lv_at hl 2 rfl) ?_
    refine va_get (D := G.1) (ci := 9) (C := R_Qu) (T := F_Qu) (N := 8) (v := .int v_sort) hx hb hts i_Qu hown hK hP 0 rfl rfl 0 (by decide) (hts (.fieldLink R_Qu 15 "PrivateQueries$Question" "sort" "I") k_107) (fun _ h9 => h9) rfl d_Qu_enter_32 ?_
    refine lv_iconst (v := 2) hx hb d_Qu_enter_35 (by decide) ?_
    refine lv_icmp_ne (tgt := 66) hx hb d_Qu_enter_36 (by decide) (fun c2 => ?_) (fun c2 => ?_)
    · skip
      refine lv_iload hx hb d_Qu_enter_66 (lv_at hl 1 rfl) ?_
      refine lv_if_lt (tgt := 87) hx hb d_Qu_enter_68 (by decide) (fun c3 => ?_) (fun c3 => ?_)
      · skip
        exact ly_vret hx hb hr hlocks hP hD hS d_Qu_enter_87 rfl (by rw [s_Qu_enter, if_neg c1, if_neg c2, if_pos c3])
      refine lv_iload hx hb d_Qu_enter_71 (lv_at hl 1 rfl) ?_
      refine lv_aload_n hx hb d_Qu_enter_73 rfl (lv_at hl 4 rfl) ?_
      refine va_alen (v := 240) hx hb hK hP 1 0 rfl rfl (show Int32.ofNat 240 = 240 by decide) d_Qu_enter_74 ?_
      refine lv_icmp_ge (tgt := 87) hx hb d_Qu_enter_75 (by decide) (fun c4 => ?_) (fun c4 => ?_)
      · skip
        exact ly_vret hx hb hr hlocks hP hD hS d_Qu_enter_87 rfl (by rw [s_Qu_enter, if_neg c1, if_neg c2, if_neg c3, if_pos c4])
      refine lv_aload_n hx hb d_Qu_enter_78 rfl (lv_at hl 4 rfl) ?_
      refine lv_iload hx hb d_Qu_enter_79 (lv_at hl 1 rfl) ?_
      refine lv_dup2_11 hx hb d_Qu_enter_81 rfl rfl ?_
      refine va_iald hx hb hK hP 1 0 rfl rfl (ly_mk (ly_lo c3) (ly_hi (by decide) c4)) d_Qu_enter_82 ?_
      refine lv_iload hx hb d_Qu_enter_83 (lv_at hl 0 rfl) ?_
      refine lv_iadd hx hb d_Qu_enter_85 ?_
      refine va_iast hx hb hK hP hD hS 1 0 rfl rfl (ly_mk (ly_lo c3) (ly_hi (by decide) c4)) d_Qu_enter_86 (fun H locs hP hD hS => ?_)
      have hP : va_P G.1 classes [(h, .inr (9, [.int v_sort, .int v_column, .int v_low, .int v_high, .int v_by, .int v_top, .int v_start, .int v_end])), (nua, .inl (gI G, 240, .inl (upd nuf z.toNatClampNeg ((nuf z.toNatClampNeg) + 1))))] H := hP
      have hD : va_D A [(h, .inr (9, [.int v_sort, .int v_column, .int v_low, .int v_high, .int v_by, .int v_top, .int v_start, .int v_end])), (nua, .inl (gI G, 240, .inl (upd nuf z.toNatClampNeg ((nuf z.toNatClampNeg) + 1))))] := hD
      exact ly_vret hx hb hr hlocks hP hD hS d_Qu_enter_87 rfl (by rw [s_Qu_enter, if_neg c1, if_neg c2, if_neg c3, if_neg c4])
    refine lv_iload_n hx hb d_Qu_enter_39 rfl (lv_at hl 3 rfl) ?_
    refine lv_aload_n hx hb d_Qu_enter_40 rfl (lv_at hl 2 rfl) ?_
    refine va_get (D := G.1) (ci := 9) (C := R_Qu) (T := F_Qu) (N := 8) (v := .int v_low) hx hb hts i_Qu hown hK hP 0 rfl rfl 2 (by decide) (hts (.fieldLink R_Qu 21 "PrivateQueries$Question" "low" "I") k_109) (fun _ h9 => h9) rfl d_Qu_enter_41 ?_
    refine lv_icmp_lt (tgt := 55) hx hb d_Qu_enter_44 (by decide) (fun c5 => ?_) (fun c5 => ?_)
    · skip
      exact ly_vret hx hb hr hlocks hP hD hS d_Qu_enter_55 rfl (by rw [s_Qu_enter, if_neg c1, if_pos c2, if_pos c5])
    refine lv_iload_n hx hb d_Qu_enter_47 rfl (lv_at hl 3 rfl) ?_
    refine lv_aload_n hx hb d_Qu_enter_48 rfl (lv_at hl 2 rfl) ?_
    refine va_get (D := G.1) (ci := 9) (C := R_Qu) (T := F_Qu) (N := 8) (v := .int v_high) hx hb hts i_Qu hown hK hP 0 rfl rfl 3 (by decide) (hts (.fieldLink R_Qu 24 "PrivateQueries$Question" "high" "I") k_110) (fun _ h9 => h9) rfl d_Qu_enter_49 ?_
    refine lv_icmp_le (tgt := 56) hx hb d_Qu_enter_52 (by decide) (fun c6 => ?_) (fun c6 => ?_)
    · skip
      refine lv_iload_n hx hb d_Qu_enter_56 rfl (lv_at hl 5 rfl) ?_
      refine lv_iload_n hx hb d_Qu_enter_57 rfl (lv_at hl 3 rfl) ?_
      refine lv_iadd hx hb d_Qu_enter_58 ?_
      refine lv_aload_n hx hb d_Qu_enter_59 rfl (lv_at hl 2 rfl) ?_
      refine va_get (D := G.1) (ci := 9) (C := R_Qu) (T := F_Qu) (N := 8) (v := .int v_low) hx hb hts i_Qu hown hK hP 0 rfl rfl 2 (by decide) (hts (.fieldLink R_Qu 21 "PrivateQueries$Question" "low" "I") k_109) (fun _ h9 => h9) rfl d_Qu_enter_60 ?_
      refine lv_isub hx hb d_Qu_enter_63 ?_
      refine lv_istore (lv' := [(4, .int ((z + x) - v_low)), (5, .int 1), (0, .ref h), (1, .int x), (2, .ref nua), (3, .int z)]) hx hb d_Qu_enter_64 hl (by decide) rfl (fun ls hl => ?_)
      refine lv_iload hx hb d_Qu_enter_66 (lv_at hl 0 rfl) ?_
      refine lv_if_lt (tgt := 87) hx hb d_Qu_enter_68 (by decide) (fun c7 => ?_) (fun c7 => ?_)
      · skip
        exact ly_vret hx hb hr hlocks hP hD hS d_Qu_enter_87 rfl (by rw [s_Qu_enter, if_neg c1, if_pos c2, if_neg c5, if_pos c6, if_pos c7])
      refine lv_iload hx hb d_Qu_enter_71 (lv_at hl 0 rfl) ?_
      refine lv_aload_n hx hb d_Qu_enter_73 rfl (lv_at hl 4 rfl) ?_
      refine va_alen (v := 240) hx hb hK hP 1 0 rfl rfl (show Int32.ofNat 240 = 240 by decide) d_Qu_enter_74 ?_
      refine lv_icmp_ge (tgt := 87) hx hb d_Qu_enter_75 (by decide) (fun c8 => ?_) (fun c8 => ?_)
      · skip
        exact ly_vret hx hb hr hlocks hP hD hS d_Qu_enter_87 rfl (by rw [s_Qu_enter, if_neg c1, if_pos c2, if_neg c5, if_pos c6, if_neg c7, if_pos c8])
      refine lv_aload_n hx hb d_Qu_enter_78 rfl (lv_at hl 4 rfl) ?_
      refine lv_iload hx hb d_Qu_enter_79 (lv_at hl 0 rfl) ?_
      refine lv_dup2_11 hx hb d_Qu_enter_81 rfl rfl ?_
      refine va_iald hx hb hK hP 1 0 rfl rfl (ly_mk (ly_lo c7) (ly_hi (by decide) c8)) d_Qu_enter_82 ?_
      refine lv_iload hx hb d_Qu_enter_83 (lv_at hl 1 rfl) ?_
      refine lv_iadd hx hb d_Qu_enter_85 ?_
      refine va_iast hx hb hK hP hD hS 1 0 rfl rfl (ly_mk (ly_lo c7) (ly_hi (by decide) c8)) d_Qu_enter_86 (fun H locs hP hD hS => ?_)
      have hP : va_P G.1 classes [(h, .inr (9, [.int v_sort, .int v_column, .int v_low, .int v_high, .int v_by, .int v_top, .int v_start, .int v_end])), (nua, .inl (gI G, 240, .inl (upd nuf ((z + x) - v_low).toNatClampNeg ((nuf ((z + x) - v_low).toNatClampNeg) + 1))))] H := hP
      have hD : va_D A [(h, .inr (9, [.int v_sort, .int v_column, .int v_low, .int v_high, .int v_by, .int v_top, .int v_start, .int v_end])), (nua, .inl (gI G, 240, .inl (upd nuf ((z + x) - v_low).toNatClampNeg ((nuf ((z + x) - v_low).toNatClampNeg) + 1))))] := hD
      exact ly_vret hx hb hr hlocks hP hD hS d_Qu_enter_87 rfl (by rw [s_Qu_enter, if_neg c1, if_pos c2, if_neg c5, if_pos c6, if_neg c7, if_neg c8])
    exact ly_vret hx hb hr hlocks hP hD hS d_Qu_enter_55 rfl (by rw [s_Qu_enter, if_neg c1, if_pos c2, if_neg c5, if_neg c6])
  refine lv_iload_n hx hb d_Qu_enter_14 rfl (lv_at hl 3 rfl) ?_
  refine lv_aload_n hx hb d_Qu_enter_15 rfl (lv_at hl 2 rfl) ?_
  refine va_get (D := G.1) (ci := 9) (C := R_Qu) (T := F_Qu) (N := 8) (v := .int v_low) hx hb hts i_Qu hown hK hP 0 rfl rfl 2 (by decide) (hts (.fieldLink R_Qu 21 "PrivateQueries$Question" "low" "I") k_109) (fun _ h9 => h9) rfl d_Qu_enter_16 ?_
  refine lv_aload_n hx hb d_Qu_enter_19 rfl (lv_at hl 2 rfl) ?_
  refine va_get (D := G.1) (ci := 9) (C := R_Qu) (T := F_Qu) (N := 8) (v := .int v_high) hx hb hts i_Qu hown hK hP 0 rfl rfl 3 (by decide) (hts (.fieldLink R_Qu 24 "PrivateQueries$Question" "high" "I") k_110) (fun _ h9 => h9) rfl d_Qu_enter_20 ?_
  obtain ⟨r1, hr1⟩ : ∃ r, (s_PQ_nearest x v_low v_high) = r := ⟨_, rfl⟩
  have hC_r1 := (c_PQ_nearest l G x v_low v_high)
  rw [hr1] at hC_r1
  refine ly_callSN (rest := []) (wf := [(h, .inr (9, [.int v_sort, .int v_column, .int v_low, .int v_high, .int v_by, .int v_top, .int v_start, .int v_end])), (nua, .inl (gI G, 240, .inl nuf))]) ⟨hx, hb, hml, hown, hts⟩ hA hK hZ hP hD hS hC_r1 ⟨va_cnB 3 hts g_Qu_49 rfl rfl rfl hZ.2.2.1 (hts (.initialized R_PQ) k_521) (by decide +kernel) ⟨Nat.le_of_ble_eq_true rfl, Nat.le_of_ble_eq_true rfl⟩, hts (.static y_PQ_nearest) k_565, trivial⟩ [] rfl (by decide) rfl rfl rfl hl.1 rfl (Nat.le_of_ble_eq_true rfl) d_Qu_enter_23 ⟨Nat.le_of_ble_eq_true rfl, Nat.le_of_ble_eq_true rfl⟩ (st1 := [.int r1]) (c1 := 0) (s1 := 0) rfl rfl rfl (fun H locs hP hD hS => ?_)
  refine lv_istore (lv' := [(5, .int r1), (4, .int z), (0, .ref h), (1, .int x), (2, .ref nua), (3, .int z)]) hx hb d_Qu_enter_26 hl (by decide) rfl (fun ls hl => ?_)
  refine lv_goto (tgt := 66) hx hb d_Qu_enter_28 (by decide) ?_
  refine lv_iload hx hb d_Qu_enter_66 (lv_at hl 1 rfl) ?_
  refine lv_if_lt (tgt := 87) hx hb d_Qu_enter_68 (by decide) (fun c9 => ?_) (fun c9 => ?_)
  · skip
    exact ly_vret hx hb hr hlocks hP hD hS d_Qu_enter_87 rfl (by rw [s_Qu_enter] <;> simp only [hr1] <;> rw [if_pos c1, if_pos c9])
  refine lv_iload hx hb d_Qu_enter_71 (lv_at hl 1 rfl) ?_
  refine lv_aload_n hx hb d_Qu_enter_73 rfl (lv_at hl 4 rfl) ?_
  refine va_alen (v := 240) hx hb hK hP 1 0 rfl rfl (show Int32.ofNat 240 = 240 by decide) d_Qu_enter_74 ?_
  refine lv_icmp_ge (tgt := 87) hx hb d_Qu_enter_75 (by decide) (fun c10 => ?_) (fun c10 => ?_)
  · skip
    exact ly_vret hx hb hr hlocks hP hD hS d_Qu_enter_87 rfl (by rw [s_Qu_enter] <;> simp only [hr1] <;> rw [if_pos c1, if_neg c9, if_pos c10])
  refine lv_aload_n hx hb d_Qu_enter_78 rfl (lv_at hl 4 rfl) ?_
  refine lv_iload hx hb d_Qu_enter_79 (lv_at hl 1 rfl) ?_
  refine lv_dup2_11 hx hb d_Qu_enter_81 rfl rfl ?_
  refine va_iald hx hb hK hP 1 0 rfl rfl (ly_mk (ly_lo c9) (ly_hi (by decide) c10)) d_Qu_enter_82 ?_
  refine lv_iload hx hb d_Qu_enter_83 (lv_at hl 0 rfl) ?_
  refine lv_iadd hx hb d_Qu_enter_85 ?_
  refine va_iast hx hb hK hP hD hS 1 0 rfl rfl (ly_mk (ly_lo c9) (ly_hi (by decide) c10)) d_Qu_enter_86 (fun H locs hP hD hS => ?_)
  have hP : va_P G.1 classes [(h, .inr (9, [.int v_sort, .int v_column, .int v_low, .int v_high, .int v_by, .int v_top, .int v_start, .int v_end])), (nua, .inl (gI G, 240, .inl (upd nuf z.toNatClampNeg ((nuf z.toNatClampNeg) + r1))))] H := hP
  have hD : va_D A [(h, .inr (9, [.int v_sort, .int v_column, .int v_low, .int v_high, .int v_by, .int v_top, .int v_start, .int v_end])), (nua, .inl (gI G, 240, .inl (upd nuf z.toNatClampNeg ((nuf z.toNatClampNeg) + r1))))] := hD
  exact ly_vret hx hb hr hlocks hP hD hS d_Qu_enter_87 rfl (by rw [s_Qu_enter] <;> simp only [hr1] <;> rw [if_pos c1, if_neg c9, if_neg c10])

set_option maxHeartbeats 4000000 in
set_option maxRecDepth 100000 in
theorem c_Qu_divide (l : Launch) (G : GG) (h : Nat) (nua : Nat) (v_sort : Int32) (v_column : Int32) (v_low : Int32) (v_high : Int32) (v_by : Int32) (v_top : Int32) (v_start : Int32) (v_end : Int32) (nuf : Nat → Int32) (x : Int32) (hok : ok_Qu_divide v_sort v_by x) : Det l G y_Qu_divide w_Qu_divide (rmD 0) 0 0 [.ref h, .ref nua, .int x] [(h, .inr (9, [.int v_sort, .int v_column, .int v_low, .int v_high, .int v_by, .int v_top, .int v_start, .int v_end])), (nua, .inl (gI G, 240, .inl nuf))] none [(h, .inr (9, [.int v_sort, .int v_column, .int v_low, .int v_high, .int v_by, .int v_top, .int v_start, .int v_end])), (nua, .inl (gI G, 240, .inl (s_Qu_divide v_sort v_by nuf x)))] := by
  refine Det.of (cc := b_Qu_divide) (maxL := 3) (ret := none) (by decide) rfl (Nat.le_of_ble_eq_true rfl) ?_
  intro p e s m args below meth c A ls hx hb hr hml hown hts hlocks hin hA hK hZ hP hD hS hl
  have hts : ∀ w ∈ wG, w.before args s = true := fun w h => hts w (List.mem_cons_of_mem _ h)
  have hown : s.vm.findClass R_Qu = some m.cls := hown
  have hl : lv_has ls 3 [(0, .ref h), (1, .ref nua), (2, .int x)] := hl
  rw [ok_Qu_divide] at hok
  refine lv_aload_n hx hb d_Qu_divide_0 rfl (lv_at hl 0 rfl) ?_
  refine va_get (D := G.1) (ci := 9) (C := R_Qu) (T := F_Qu) (N := 8) (v := .int v_sort) hx hb hts i_Qu hown hK hP 0 rfl rfl 0 (by decide) (hts (.fieldLink R_Qu 15 "PrivateQueries$Question" "sort" "I") k_107) (fun _ h9 => h9) rfl d_Qu_divide_1 ?_
  refine lv_iconst (v := 1) hx hb d_Qu_divide_4 (by decide) ?_
  refine lv_icmp_ne (tgt := 36) hx hb d_Qu_divide_5 (by decide) (fun c1 => ?_) (fun c1 => ?_)
  · skip
    rw [if_neg c1] at hok
    exact ly_vret hx hb hr hlocks hP hD hS d_Qu_divide_36 rfl (by rw [s_Qu_divide, if_neg c1])
  rw [if_pos c1] at hok
  refine lv_aload_n hx hb d_Qu_divide_8 rfl (lv_at hl 0 rfl) ?_
  refine va_get (D := G.1) (ci := 9) (C := R_Qu) (T := F_Qu) (N := 8) (v := .int v_by) hx hb hts i_Qu hown hK hP 0 rfl rfl 4 (by decide) (hts (.fieldLink R_Qu 9 "PrivateQueries$Question" "by" "I") k_111) (fun _ h9 => h9) rfl d_Qu_divide_9 ?_
  refine lv_iconst (v := 1) hx hb d_Qu_divide_12 (by decide) ?_
  refine lv_icmp_le (tgt := 36) hx hb d_Qu_divide_13 (by decide) (fun c2 => ?_) (fun c2 => ?_)
  · skip
    rw [if_pos c2] at hok
    exact ly_vret hx hb hr hlocks hP hD hS d_Qu_divide_36 rfl (by rw [s_Qu_divide, if_pos c1, if_pos c2])
  rw [if_neg c2] at hok
  refine lv_iload_n hx hb d_Qu_divide_16 rfl (lv_at hl 2 rfl) ?_
  refine lv_if_lt (tgt := 36) hx hb d_Qu_divide_17 (by decide) (fun c3 => ?_) (fun c3 => ?_)
  · skip
    rw [if_pos c3] at hok
    exact ly_vret hx hb hr hlocks hP hD hS d_Qu_divide_36 rfl (by rw [s_Qu_divide, if_pos c1, if_neg c2, if_pos c3])
  rw [if_neg c3] at hok
  refine lv_iload_n hx hb d_Qu_divide_20 rfl (lv_at hl 2 rfl) ?_
  refine lv_aload_n hx hb d_Qu_divide_21 rfl (lv_at hl 1 rfl) ?_
  refine va_alen (v := 240) hx hb hK hP 1 0 rfl rfl (show Int32.ofNat 240 = 240 by decide) d_Qu_divide_22 ?_
  refine lv_icmp_ge (tgt := 36) hx hb d_Qu_divide_23 (by decide) (fun c4 => ?_) (fun c4 => ?_)
  · skip
    rw [if_pos c4] at hok
    exact ly_vret hx hb hr hlocks hP hD hS d_Qu_divide_36 rfl (by rw [s_Qu_divide, if_pos c1, if_neg c2, if_neg c3, if_pos c4])
  rw [if_neg c4] at hok
  refine lv_aload_n hx hb d_Qu_divide_26 rfl (lv_at hl 1 rfl) ?_
  refine lv_iload_n hx hb d_Qu_divide_27 rfl (lv_at hl 2 rfl) ?_
  refine lv_dup2_11 hx hb d_Qu_divide_28 rfl rfl ?_
  refine va_iald hx hb hK hP 1 0 rfl rfl (ly_mk (ly_lo c3) (ly_hi (by decide) c4)) d_Qu_divide_29 ?_
  refine lv_aload_n hx hb d_Qu_divide_30 rfl (lv_at hl 0 rfl) ?_
  refine va_get (D := G.1) (ci := 9) (C := R_Qu) (T := F_Qu) (N := 8) (v := .int v_by) hx hb hts i_Qu hown hK hP 0 rfl rfl 4 (by decide) (hts (.fieldLink R_Qu 9 "PrivateQueries$Question" "by" "I") k_111) (fun _ h9 => h9) rfl d_Qu_divide_31 ?_
  obtain ⟨hv1, hok⟩ := hok
  refine lv_idiv hx hb d_Qu_divide_34 hv1 ?_
  refine va_iast hx hb hK hP hD hS 1 0 rfl rfl (ly_mk (ly_lo c3) (ly_hi (by decide) c4)) d_Qu_divide_35 (fun H locs hP hD hS => ?_)
  have hP : va_P G.1 classes [(h, .inr (9, [.int v_sort, .int v_column, .int v_low, .int v_high, .int v_by, .int v_top, .int v_start, .int v_end])), (nua, .inl (gI G, 240, .inl (upd nuf x.toNatClampNeg ((nuf x.toNatClampNeg) / v_by))))] H := hP
  have hD : va_D A [(h, .inr (9, [.int v_sort, .int v_column, .int v_low, .int v_high, .int v_by, .int v_top, .int v_start, .int v_end])), (nua, .inl (gI G, 240, .inl (upd nuf x.toNatClampNeg ((nuf x.toNatClampNeg) / v_by))))] := hD
  exact ly_vret hx hb hr hlocks hP hD hS d_Qu_divide_36 rfl (by rw [s_Qu_divide, if_pos c1, if_neg c2, if_neg c3, if_neg c4])

set_option maxHeartbeats 4000000 in
set_option maxRecDepth 100000 in
theorem c_Scr_addLet (l : Launch) (G : GG) (h : Nat) (tokens_h : Nat) (conditions_h : Nat) (conditions_a_steps : Nat) (conditions_a_values : Nat) (conditions_a_stack : Nat) (conditions_a_holding : Nat) (a_questions : Nat) (a_letStarts : Nat) (a_letEnds : Nat) (a_letOfLetter : Nat) (conditions__size : Int32) (conditions__height : Int32) (v_asked : Int32) (f_letStarts : Nat → Int32) (f_letEnds : Nat → Int32) (f_letOfLetter : Nat → Int32) (v_lets : Int32) (x : Int32) (z : Int32) (hok : ok_Scr_addLet v_lets x) : Det l G y_Scr_addLet w_Scr_addLet (rmD 1) 0 0 [.ref h, .int x, .int z] [(h, .inr (10, [.ref tokens_h, .ref conditions_h, .ref a_questions, .int v_asked, .ref a_letStarts, .ref a_letEnds, .ref a_letOfLetter, .int v_lets])), (conditions_h, .inr (8, [.ref conditions_a_steps, .ref conditions_a_values, .int conditions__size, .ref conditions_a_stack, .int conditions__height, .ref conditions_a_holding])), (a_letStarts, .inl (gI G, 10, .inl f_letStarts)), (a_letEnds, .inl (gI G, 10, .inl f_letEnds)), (a_letOfLetter, .inl (gI G, 26, .inl f_letOfLetter))] none [(h, .inr (10, [.ref tokens_h, .ref conditions_h, .ref a_questions, .int v_asked, .ref a_letStarts, .ref a_letEnds, .ref a_letOfLetter, .int (s_Scr_addLet conditions__size f_letStarts f_letEnds f_letOfLetter v_lets x z).1])), (conditions_h, .inr (8, [.ref conditions_a_steps, .ref conditions_a_values, .int conditions__size, .ref conditions_a_stack, .int conditions__height, .ref conditions_a_holding])), (a_letStarts, .inl (gI G, 10, .inl (s_Scr_addLet conditions__size f_letStarts f_letEnds f_letOfLetter v_lets x z).2.1)), (a_letEnds, .inl (gI G, 10, .inl (s_Scr_addLet conditions__size f_letStarts f_letEnds f_letOfLetter v_lets x z).2.2.1)), (a_letOfLetter, .inl (gI G, 26, .inl (s_Scr_addLet conditions__size f_letStarts f_letEnds f_letOfLetter v_lets x z).2.2.2))] := by
  refine Det.of (cc := b_Scr_addLet) (maxL := 3) (ret := none) (by decide) rfl (Nat.le_of_ble_eq_true rfl) ?_
  intro p e s m args below meth c A ls hx hb hr hml hown hts hlocks hin hA hK hZ hP hD hS hl
  have hts : ∀ w ∈ wG, w.before args s = true := fun w h => hts w (List.mem_cons_of_mem _ h)
  have hown : s.vm.findClass R_Scr = some m.cls := hown
  have hl : lv_has ls 3 [(0, .ref h), (1, .int x), (2, .int z)] := hl
  rw [ok_Scr_addLet] at hok
  refine lv_aload_n hx hb d_Scr_addLet_0 rfl (lv_at hl 0 rfl) ?_
  refine va_get (D := G.1) (ci := 10) (C := R_Scr) (T := F_Scr) (N := 8) (v := .int v_lets) hx hb hts i_Scr hown hK hP 0 rfl rfl 7 (by decide) (hts (.fieldLink R_Scr 46 "PrivateQueries$Script" "lets" "I") k_126) (fun _ h9 => h9) rfl d_Scr_addLet_1 ?_
  refine lv_bipush (v := 10) hx hb d_Scr_addLet_4 (by decide) ?_
  refine lv_icmp_ge (tgt := 22) hx hb d_Scr_addLet_6 (by decide) (fun c1 => ?_) (fun c1 => ?_)
  · skip
    rw [if_pos c1] at hok
    exact ly_vret hx hb hr hlocks hP hD hS d_Scr_addLet_22 rfl (by rw [s_Scr_addLet, if_pos c1])
  rw [if_neg c1] at hok
  refine lv_iload_n hx hb d_Scr_addLet_9 rfl (lv_at hl 1 rfl) ?_
  refine lv_if_lt (tgt := 22) hx hb d_Scr_addLet_10 (by decide) (fun c2 => ?_) (fun c2 => ?_)
  · skip
    rw [if_pos c2] at hok
    exact ly_vret hx hb hr hlocks hP hD hS d_Scr_addLet_22 rfl (by rw [s_Scr_addLet, if_neg c1, if_pos c2])
  rw [if_neg c2] at hok
  refine lv_iload_n hx hb d_Scr_addLet_13 rfl (lv_at hl 1 rfl) ?_
  refine lv_aload_n hx hb d_Scr_addLet_14 rfl (lv_at hl 0 rfl) ?_
  refine va_get (D := G.1) (ci := 10) (C := R_Scr) (T := F_Scr) (N := 8) (v := .ref a_letOfLetter) hx hb hts i_Scr hown hK hP 0 rfl rfl 6 (by decide) (hts (.fieldLink R_Scr 43 "PrivateQueries$Script" "letOfLetter" "[I") k_127) (fun _ h9 => h9) rfl d_Scr_addLet_15 ?_
  refine va_alen (v := 26) hx hb hK hP 4 0 rfl rfl (show Int32.ofNat 26 = 26 by decide) d_Scr_addLet_18 ?_
  refine lv_icmp_lt (tgt := 23) hx hb d_Scr_addLet_19 (by decide) (fun c3 => ?_) (fun c3 => ?_)
  · skip
    rw [if_pos c3] at hok
    refine lv_aload_n hx hb d_Scr_addLet_23 rfl (lv_at hl 0 rfl) ?_
    refine va_get (D := G.1) (ci := 10) (C := R_Scr) (T := F_Scr) (N := 8) (v := .ref a_letStarts) hx hb hts i_Scr hown hK hP 0 rfl rfl 4 (by decide) (hts (.fieldLink R_Scr 36 "PrivateQueries$Script" "letStarts" "[I") k_566) (fun _ h9 => h9) rfl d_Scr_addLet_24 ?_
    refine lv_aload_n hx hb d_Scr_addLet_27 rfl (lv_at hl 0 rfl) ?_
    refine va_get (D := G.1) (ci := 10) (C := R_Scr) (T := F_Scr) (N := 8) (v := .int v_lets) hx hb hts i_Scr hown hK hP 0 rfl rfl 7 (by decide) (hts (.fieldLink R_Scr 46 "PrivateQueries$Script" "lets" "I") k_126) (fun _ h9 => h9) rfl d_Scr_addLet_28 ?_
    refine lv_iload_n hx hb d_Scr_addLet_31 rfl (lv_at hl 2 rfl) ?_
    obtain ⟨hv1, hok⟩ := hok
    refine va_iast hx hb hK hP hD hS 2 0 rfl rfl hv1 d_Scr_addLet_32 (fun H locs hP hD hS => ?_)
    have hP : va_P G.1 classes [(h, .inr (10, [.ref tokens_h, .ref conditions_h, .ref a_questions, .int v_asked, .ref a_letStarts, .ref a_letEnds, .ref a_letOfLetter, .int v_lets])), (conditions_h, .inr (8, [.ref conditions_a_steps, .ref conditions_a_values, .int conditions__size, .ref conditions_a_stack, .int conditions__height, .ref conditions_a_holding])), (a_letStarts, .inl (gI G, 10, .inl (upd f_letStarts v_lets.toNatClampNeg z))), (a_letEnds, .inl (gI G, 10, .inl f_letEnds)), (a_letOfLetter, .inl (gI G, 26, .inl f_letOfLetter))] H := hP
    have hD : va_D A [(h, .inr (10, [.ref tokens_h, .ref conditions_h, .ref a_questions, .int v_asked, .ref a_letStarts, .ref a_letEnds, .ref a_letOfLetter, .int v_lets])), (conditions_h, .inr (8, [.ref conditions_a_steps, .ref conditions_a_values, .int conditions__size, .ref conditions_a_stack, .int conditions__height, .ref conditions_a_holding])), (a_letStarts, .inl (gI G, 10, .inl (upd f_letStarts v_lets.toNatClampNeg z))), (a_letEnds, .inl (gI G, 10, .inl f_letEnds)), (a_letOfLetter, .inl (gI G, 26, .inl f_letOfLetter))] := hD
    refine lv_aload_n hx hb d_Scr_addLet_33 rfl (lv_at hl 0 rfl) ?_
    refine va_get (D := G.1) (ci := 10) (C := R_Scr) (T := F_Scr) (N := 8) (v := .ref a_letEnds) hx hb hts i_Scr hown hK hP 0 rfl rfl 5 (by decide) (hts (.fieldLink R_Scr 40 "PrivateQueries$Script" "letEnds" "[I") k_567) (fun _ h9 => h9) rfl d_Scr_addLet_34 ?_
    refine lv_aload_n hx hb d_Scr_addLet_37 rfl (lv_at hl 0 rfl) ?_
    refine va_get (D := G.1) (ci := 10) (C := R_Scr) (T := F_Scr) (N := 8) (v := .int v_lets) hx hb hts i_Scr hown hK hP 0 rfl rfl 7 (by decide) (hts (.fieldLink R_Scr 46 "PrivateQueries$Script" "lets" "I") k_126) (fun _ h9 => h9) rfl d_Scr_addLet_38 ?_
    refine lv_aload_n hx hb d_Scr_addLet_41 rfl (lv_at hl 0 rfl) ?_
    refine va_get (D := G.1) (ci := 10) (C := R_Scr) (T := F_Scr) (N := 8) (v := .ref conditions_h) hx hb hts i_Scr hown hK hP 0 rfl rfl 1 (by decide) (hts (.fieldLink R_Scr 21 "PrivateQueries$Script" "conditions" "LPrivateQueries$Conditions;") k_568) (fun _ h9 => h9) rfl d_Scr_addLet_42 ?_
    refine ly_callV (rest := [.int v_lets, .ref a_letEnds]) (wf := [(h, .inr (10, [.ref tokens_h, .ref conditions_h, .ref a_questions, .int v_asked, .ref a_letStarts, .ref a_letEnds, .ref a_letOfLetter, .int v_lets])), (conditions_h, .inr (8, [.ref conditions_a_steps, .ref conditions_a_values, .int conditions__size, .ref conditions_a_stack, .int conditions__height, .ref conditions_a_holding])), (a_letStarts, .inl (gI G, 10, .inl (upd f_letStarts v_lets.toNatClampNeg z))), (a_letEnds, .inl (gI G, 10, .inl f_letEnds)), (a_letOfLetter, .inl (gI G, 26, .inl f_letOfLetter))]) ⟨hx, hb, hml, hown, hts⟩ hA hK hZ hP hD hS (c_Cond_size l G conditions_h conditions_a_steps conditions_a_values conditions_a_stack conditions_a_holding conditions__size conditions__height) (cwV 0 hts g_Scr_71 rfl rfl rfl (by decide +kernel) ⟨Nat.le_of_ble_eq_true rfl, Nat.le_of_ble_eq_true rfl⟩) (ci := 8) (q0 := 1) rfl rfl rfl [1] rfl (by decide) rfl rfl rfl hl.1 rfl (Nat.le_of_ble_eq_true rfl) d_Scr_addLet_45 ⟨Nat.le_of_ble_eq_true rfl, Nat.le_of_ble_eq_true rfl⟩ (st1 := [.int conditions__size, .int v_lets, .ref a_letEnds]) (c1 := 0) (s1 := 0) rfl rfl rfl (fun H locs hP hD hS => ?_)
    obtain ⟨hv2, hok⟩ := hok
    refine va_iast hx hb hK hP hD hS 3 0 rfl rfl hv2 d_Scr_addLet_48 (fun H locs hP hD hS => ?_)
    have hP : va_P G.1 classes [(h, .inr (10, [.ref tokens_h, .ref conditions_h, .ref a_questions, .int v_asked, .ref a_letStarts, .ref a_letEnds, .ref a_letOfLetter, .int v_lets])), (conditions_h, .inr (8, [.ref conditions_a_steps, .ref conditions_a_values, .int conditions__size, .ref conditions_a_stack, .int conditions__height, .ref conditions_a_holding])), (a_letStarts, .inl (gI G, 10, .inl (upd f_letStarts v_lets.toNatClampNeg z))), (a_letEnds, .inl (gI G, 10, .inl (upd f_letEnds v_lets.toNatClampNeg conditions__size))), (a_letOfLetter, .inl (gI G, 26, .inl f_letOfLetter))] H := hP
    have hD : va_D A [(h, .inr (10, [.ref tokens_h, .ref conditions_h, .ref a_questions, .int v_asked, .ref a_letStarts, .ref a_letEnds, .ref a_letOfLetter, .int v_lets])), (conditions_h, .inr (8, [.ref conditions_a_steps, .ref conditions_a_values, .int conditions__size, .ref conditions_a_stack, .int conditions__height, .ref conditions_a_holding])), (a_letStarts, .inl (gI G, 10, .inl (upd f_letStarts v_lets.toNatClampNeg z))), (a_letEnds, .inl (gI G, 10, .inl (upd f_letEnds v_lets.toNatClampNeg conditions__size))), (a_letOfLetter, .inl (gI G, 26, .inl f_letOfLetter))] := hD
    refine lv_aload_n hx hb d_Scr_addLet_49 rfl (lv_at hl 0 rfl) ?_
    refine va_get (D := G.1) (ci := 10) (C := R_Scr) (T := F_Scr) (N := 8) (v := .ref a_letOfLetter) hx hb hts i_Scr hown hK hP 0 rfl rfl 6 (by decide) (hts (.fieldLink R_Scr 43 "PrivateQueries$Script" "letOfLetter" "[I") k_127) (fun _ h9 => h9) rfl d_Scr_addLet_50 ?_
    refine lv_iload_n hx hb d_Scr_addLet_53 rfl (lv_at hl 1 rfl) ?_
    refine lv_aload_n hx hb d_Scr_addLet_54 rfl (lv_at hl 0 rfl) ?_
    refine va_get (D := G.1) (ci := 10) (C := R_Scr) (T := F_Scr) (N := 8) (v := .int v_lets) hx hb hts i_Scr hown hK hP 0 rfl rfl 7 (by decide) (hts (.fieldLink R_Scr 46 "PrivateQueries$Script" "lets" "I") k_126) (fun _ h9 => h9) rfl d_Scr_addLet_55 ?_
    refine va_iast hx hb hK hP hD hS 4 0 rfl rfl (ly_mk (ly_lo c2) (ly_hi2 (by decide) c3)) d_Scr_addLet_58 (fun H locs hP hD hS => ?_)
    have hP : va_P G.1 classes [(h, .inr (10, [.ref tokens_h, .ref conditions_h, .ref a_questions, .int v_asked, .ref a_letStarts, .ref a_letEnds, .ref a_letOfLetter, .int v_lets])), (conditions_h, .inr (8, [.ref conditions_a_steps, .ref conditions_a_values, .int conditions__size, .ref conditions_a_stack, .int conditions__height, .ref conditions_a_holding])), (a_letStarts, .inl (gI G, 10, .inl (upd f_letStarts v_lets.toNatClampNeg z))), (a_letEnds, .inl (gI G, 10, .inl (upd f_letEnds v_lets.toNatClampNeg conditions__size))), (a_letOfLetter, .inl (gI G, 26, .inl (upd f_letOfLetter x.toNatClampNeg v_lets)))] H := hP
    have hD : va_D A [(h, .inr (10, [.ref tokens_h, .ref conditions_h, .ref a_questions, .int v_asked, .ref a_letStarts, .ref a_letEnds, .ref a_letOfLetter, .int v_lets])), (conditions_h, .inr (8, [.ref conditions_a_steps, .ref conditions_a_values, .int conditions__size, .ref conditions_a_stack, .int conditions__height, .ref conditions_a_holding])), (a_letStarts, .inl (gI G, 10, .inl (upd f_letStarts v_lets.toNatClampNeg z))), (a_letEnds, .inl (gI G, 10, .inl (upd f_letEnds v_lets.toNatClampNeg conditions__size))), (a_letOfLetter, .inl (gI G, 26, .inl (upd f_letOfLetter x.toNatClampNeg v_lets)))] := hD
    refine lv_aload_n hx hb d_Scr_addLet_59 rfl (lv_at hl 0 rfl) ?_
    refine lv_dup hx hb d_Scr_addLet_60 rfl ?_
    refine va_get (D := G.1) (ci := 10) (C := R_Scr) (T := F_Scr) (N := 8) (v := .int v_lets) hx hb hts i_Scr hown hK hP 0 rfl rfl 7 (by decide) (hts (.fieldLink R_Scr 46 "PrivateQueries$Script" "lets" "I") k_126) (fun _ h9 => h9) rfl d_Scr_addLet_61 ?_
    refine lv_iconst (v := 1) hx hb d_Scr_addLet_64 (by decide) ?_
    refine lv_iadd hx hb d_Scr_addLet_65 ?_
    refine va_put (D := G.1) (ci := 10) (v := .int (v_lets + 1)) (ty := .int) (C := R_Scr) (T := F_Scr) (N := 8) hx hb hts i_Scr t_Scr t_Scr_ok n_Scr hown hK hP hD hS 0 rfl rfl 7 (by decide) (hts (.fieldLink R_Scr 46 "PrivateQueries$Script" "lets" "I") k_126) (fun _ h9 => h9) rfl (by decide +kernel) rfl rfl (Nat.le_of_ble_eq_true rfl) d_Scr_addLet_66 (fun H locs hP hD hS => ?_)
    have hP : va_P G.1 classes [(h, .inr (10, [.ref tokens_h, .ref conditions_h, .ref a_questions, .int v_asked, .ref a_letStarts, .ref a_letEnds, .ref a_letOfLetter, .int (v_lets + 1)])), (conditions_h, .inr (8, [.ref conditions_a_steps, .ref conditions_a_values, .int conditions__size, .ref conditions_a_stack, .int conditions__height, .ref conditions_a_holding])), (a_letStarts, .inl (gI G, 10, .inl (upd f_letStarts v_lets.toNatClampNeg z))), (a_letEnds, .inl (gI G, 10, .inl (upd f_letEnds v_lets.toNatClampNeg conditions__size))), (a_letOfLetter, .inl (gI G, 26, .inl (upd f_letOfLetter x.toNatClampNeg v_lets)))] H := hP
    have hD : va_D A [(h, .inr (10, [.ref tokens_h, .ref conditions_h, .ref a_questions, .int v_asked, .ref a_letStarts, .ref a_letEnds, .ref a_letOfLetter, .int (v_lets + 1)])), (conditions_h, .inr (8, [.ref conditions_a_steps, .ref conditions_a_values, .int conditions__size, .ref conditions_a_stack, .int conditions__height, .ref conditions_a_holding])), (a_letStarts, .inl (gI G, 10, .inl (upd f_letStarts v_lets.toNatClampNeg z))), (a_letEnds, .inl (gI G, 10, .inl (upd f_letEnds v_lets.toNatClampNeg conditions__size))), (a_letOfLetter, .inl (gI G, 26, .inl (upd f_letOfLetter x.toNatClampNeg v_lets)))] := hD
    exact ly_vret hx hb hr hlocks hP hD hS d_Scr_addLet_69 rfl (by rw [s_Scr_addLet, if_neg c1, if_neg c2, if_pos c3])
  rw [if_neg c3] at hok
  exact ly_vret hx hb hr hlocks hP hD hS d_Scr_addLet_22 rfl (by rw [s_Scr_addLet, if_neg c1, if_neg c2, if_neg c3])

set_option maxHeartbeats 4000000 in
set_option maxRecDepth 100000 in
theorem c_Scr_all (l : Launch) (G : GG) (h : Nat) (tokens_h : Nat) (conditions_h : Nat) (a_questions : Nat) (a_letStarts : Nat) (a_letEnds : Nat) (a_letOfLetter : Nat) (qa : Nat → Nat) (Q : Nat → Nat → Int32) (v_asked : Int32) (v_lets : Int32) (x : Int32) (hok : ok_Scr_all Q v_asked x) : Det l G y_Scr_all w_Scr_all (rmD 3) 0 0 [.ref h, .int x] [(h, .inr (10, [.ref tokens_h, .ref conditions_h, .ref a_questions, .int v_asked, .ref a_letStarts, .ref a_letEnds, .ref a_letOfLetter, .int v_lets])), (a_questions, .inl (gQ G, 12, .inr (.inr (.inr (.inr (fun j => some (qa j))))))), (qa 0, .inr (9, qfs (Q 0))), (qa 1, .inr (9, qfs (Q 1))), (qa 2, .inr (9, qfs (Q 2))), (qa 3, .inr (9, qfs (Q 3))), (qa 4, .inr (9, qfs (Q 4))), (qa 5, .inr (9, qfs (Q 5))), (qa 6, .inr (9, qfs (Q 6))), (qa 7, .inr (9, qfs (Q 7))), (qa 8, .inr (9, qfs (Q 8))), (qa 9, .inr (9, qfs (Q 9))), (qa 10, .inr (9, qfs (Q 10))), (qa 11, .inr (9, qfs (Q 11)))] (some (.int (lp_Scr_all_4 Q v_asked x 13 (0 : Int32) (0 : Int32)))) [(h, .inr (10, [.ref tokens_h, .ref conditions_h, .ref a_questions, .int v_asked, .ref a_letStarts, .ref a_letEnds, .ref a_letOfLetter, .int v_lets])), (a_questions, .inl (gQ G, 12, .inr (.inr (.inr (.inr (fun j => some (qa j))))))), (qa 0, .inr (9, qfs (Q 0))), (qa 1, .inr (9, qfs (Q 1))), (qa 2, .inr (9, qfs (Q 2))), (qa 3, .inr (9, qfs (Q 3))), (qa 4, .inr (9, qfs (Q 4))), (qa 5, .inr (9, qfs (Q 5))), (qa 6, .inr (9, qfs (Q 6))), (qa 7, .inr (9, qfs (Q 7))), (qa 8, .inr (9, qfs (Q 8))), (qa 9, .inr (9, qfs (Q 9))), (qa 10, .inr (9, qfs (Q 10))), (qa 11, .inr (9, qfs (Q 11)))] := by
  refine Det.of (cc := b_Scr_all) (maxL := 4) (ret := (some .int)) (by decide) rfl (Nat.le_of_ble_eq_true rfl) ?_
  intro p e s m args below meth c A ls hx hb hr hml hown hts hlocks hin hA hK hZ hP hD hS hl
  have hts : ∀ w ∈ wG, w.before args s = true := fun w h => hts w (List.mem_cons_of_mem _ h)
  have hown : s.vm.findClass R_Scr = some m.cls := hown
  have loop_4 : ∀ (n : Nat) (i2 : Int32) (i3 : Int32), (oklp_Scr_all_4 Q v_asked x n i2 i3) → ∀ (H : Heap) (locs : List Loc) (ls : Array Slot), va_P G.1 classes [(h, .inr (10, [.ref tokens_h, .ref conditions_h, .ref a_questions, .int v_asked, .ref a_letStarts, .ref a_letEnds, .ref a_letOfLetter, .int v_lets])), (a_questions, .inl (gQ G, 12, .inr (.inr (.inr (.inr (fun j => some (qa j))))))), (qa 0, .inr (9, qfs (Q 0))), (qa 1, .inr (9, qfs (Q 1))), (qa 2, .inr (9, qfs (Q 2))), (qa 3, .inr (9, qfs (Q 3))), (qa 4, .inr (9, qfs (Q 4))), (qa 5, .inr (9, qfs (Q 5))), (qa 6, .inr (9, qfs (Q 6))), (qa 7, .inr (9, qfs (Q 7))), (qa 8, .inr (9, qfs (Q 8))), (qa 9, .inr (9, qfs (Q 9))), (qa 10, .inr (9, qfs (Q 10))), (qa 11, .inr (9, qfs (Q 11)))] H → va_D A [(h, .inr (10, [.ref tokens_h, .ref conditions_h, .ref a_questions, .int v_asked, .ref a_letStarts, .ref a_letEnds, .ref a_letOfLetter, .int v_lets])), (a_questions, .inl (gQ G, 12, .inr (.inr (.inr (.inr (fun j => some (qa j))))))), (qa 0, .inr (9, qfs (Q 0))), (qa 1, .inr (9, qfs (Q 1))), (qa 2, .inr (9, qfs (Q 2))), (qa 3, .inr (9, qfs (Q 3))), (qa 4, .inr (9, qfs (Q 4))), (qa 5, .inr (9, qfs (Q 5))), (qa 6, .inr (9, qfs (Q 6))), (qa 7, .inr (9, qfs (Q 7))), (qa 8, .inr (9, qfs (Q 8))), (qa 9, .inr (9, qfs (Q 9))), (qa 10, .inr (9, qfs (Q 10))), (qa 11, .inr (9, qfs (Q 11)))] → va_S A s.heap H locs → lv_has ls 4 [(3, .int i3), (2, .int i2), (0, .ref h), (1, .int x)] → W p l e (rmD 3) s m args below meth c H locs 0 0 (MQ below (ly_Q G A (some (.int (lp_Scr_all_4 Q v_asked x n i2 i3))) [(h, .inr (10, [.ref tokens_h, .ref conditions_h, .ref a_questions, .int v_asked, .ref a_letStarts, .ref a_letEnds, .ref a_letOfLetter, .int v_lets])), (a_questions, .inl (gQ G, 12, .inr (.inr (.inr (.inr (fun j => some (qa j))))))), (qa 0, .inr (9, qfs (Q 0))), (qa 1, .inr (9, qfs (Q 1))), (qa 2, .inr (9, qfs (Q 2))), (qa 3, .inr (9, qfs (Q 3))), (qa 4, .inr (9, qfs (Q 4))), (qa 5, .inr (9, qfs (Q 5))), (qa 6, .inr (9, qfs (Q 6))), (qa 7, .inr (9, qfs (Q 7))), (qa 8, .inr (9, qfs (Q 8))), (qa 9, .inr (9, qfs (Q 9))), (qa 10, .inr (9, qfs (Q 10))), (qa 11, .inr (9, qfs (Q 11)))]) args s 0 0 A) (F0 m 4 ls []) := by
    intro n
    induction n with
    | zero => intro i2 i3 hok; exact absurd hok (fun h => h)
    | succ n ih =>
      intro i2 i3 hok H locs ls hP hD hS hl
      rw [oklp_Scr_all_4] at hok
      refine lv_iload_n hx hb d_Scr_all_4 rfl (lv_at hl 0 rfl) ?_
      refine lv_aload_n hx hb d_Scr_all_5 rfl (lv_at hl 2 rfl) ?_
      refine va_get (D := G.1) (ci := 10) (C := R_Scr) (T := F_Scr) (N := 8) (v := .int v_asked) hx hb hts i_Scr hown hK hP 0 rfl rfl 3 (by decide) (hts (.fieldLink R_Scr 32 "PrivateQueries$Script" "asked" "I") k_125) (fun _ h9 => h9) rfl d_Scr_all_6 ?_
      refine lv_icmp_ge (tgt := 30) hx hb d_Scr_all_9 (by decide) (fun c1 => ?_) (fun c1 => ?_)
      · skip
        rw [if_pos c1] at hok
        refine lv_iload_n hx hb d_Scr_all_30 rfl (lv_at hl 1 rfl) ?_
        exact ly_iret hx hb hr hlocks hP hD hS d_Scr_all_31 (by rw [lp_Scr_all_4, if_pos c1]) rfl
      rw [if_neg c1] at hok
      refine lv_iload_n hx hb d_Scr_all_12 rfl (lv_at hl 1 rfl) ?_
      refine lv_aload_n hx hb d_Scr_all_13 rfl (lv_at hl 2 rfl) ?_
      refine lv_iload_n hx hb d_Scr_all_14 rfl (lv_at hl 0 rfl) ?_
      refine ly_callV (rest := [.int i2]) (wf := [(h, .inr (10, [.ref tokens_h, .ref conditions_h, .ref a_questions, .int v_asked, .ref a_letStarts, .ref a_letEnds, .ref a_letOfLetter, .int v_lets])), (a_questions, .inl (gQ G, 12, .inr (.inr (.inr (.inr (fun j => some (qa j))))))), (qa 0, .inr (9, qfs (Q 0))), (qa 1, .inr (9, qfs (Q 1))), (qa 2, .inr (9, qfs (Q 2))), (qa 3, .inr (9, qfs (Q 3))), (qa 4, .inr (9, qfs (Q 4))), (qa 5, .inr (9, qfs (Q 5))), (qa 6, .inr (9, qfs (Q 6))), (qa 7, .inr (9, qfs (Q 7))), (qa 8, .inr (9, qfs (Q 8))), (qa 9, .inr (9, qfs (Q 9))), (qa 10, .inr (9, qfs (Q 10))), (qa 11, .inr (9, qfs (Q 11)))]) ⟨hx, hb, hml, hown, hts⟩ hA hK hZ hP hD hS (c_Scr_questionAt l G h tokens_h conditions_h a_questions a_letStarts a_letEnds a_letOfLetter qa v_asked v_lets i3) (cwV 1 hts g_Scr_75 rfl rfl rfl (by decide +kernel) ⟨Nat.le_of_ble_eq_true rfl, Nat.le_of_ble_eq_true rfl⟩) (ci := 10) (q0 := 0) rfl rfl rfl [0, 1] rfl (by decide) rfl rfl rfl hl.1 rfl (Nat.le_of_ble_eq_true rfl) d_Scr_all_15 ⟨Nat.le_of_ble_eq_true rfl, Nat.le_of_ble_eq_true rfl⟩ (st1 := [.ref (qa (s_qj i3)), .int i2]) (c1 := 0) (s1 := 0) rfl rfl rfl (fun H locs hP hD hS => ?_)
      have hP : va_P G.1 classes ([(h, .inr (10, [.ref tokens_h, .ref conditions_h, .ref a_questions, .int v_asked, .ref a_letStarts, .ref a_letEnds, .ref a_letOfLetter, .int v_lets])), (a_questions, .inl (gQ G, 12, .inr (.inr (.inr (.inr (fun j => some (qa j)))))))] ++ (qcells qa Q ++ [])) H := hP
      have hD : va_D A ([(h, .inr (10, [.ref tokens_h, .ref conditions_h, .ref a_questions, .int v_asked, .ref a_letStarts, .ref a_letEnds, .ref a_letOfLetter, .int v_lets])), (a_questions, .inl (gQ G, 12, .inr (.inr (.inr (.inr (fun j => some (qa j)))))))] ++ (qcells qa Q ++ [])) := hD
      have hP : va_P G.1 classes ([(h, .inr (10, [.ref tokens_h, .ref conditions_h, .ref a_questions, .int v_asked, .ref a_letStarts, .ref a_letEnds, .ref a_letOfLetter, .int v_lets])), (a_questions, .inl (gQ G, 12, .inr (.inr (.inr (.inr (fun j => some (qa j))))))), (qa (s_qj i3), .inr (9, [.int (Q (s_qj i3) 0), .int (Q (s_qj i3) 1), .int (Q (s_qj i3) 2), .int (Q (s_qj i3) 3), .int (Q (s_qj i3) 4), .int (Q (s_qj i3) 5), .int (Q (s_qj i3) 6), .int (Q (s_qj i3) 7)]))] ++ (qrest qa Q (s_qj i3))) H := q_focP (X := [(h, .inr (10, [.ref tokens_h, .ref conditions_h, .ref a_questions, .int v_asked, .ref a_letStarts, .ref a_letEnds, .ref a_letOfLetter, .int v_lets])), (a_questions, .inl (gQ G, 12, .inr (.inr (.inr (.inr (fun j => some (qa j)))))))]) (Y := []) (s_qj_lt i3) hP
      have hD : va_D A ([(h, .inr (10, [.ref tokens_h, .ref conditions_h, .ref a_questions, .int v_asked, .ref a_letStarts, .ref a_letEnds, .ref a_letOfLetter, .int v_lets])), (a_questions, .inl (gQ G, 12, .inr (.inr (.inr (.inr (fun j => some (qa j))))))), (qa (s_qj i3), .inr (9, [.int (Q (s_qj i3) 0), .int (Q (s_qj i3) 1), .int (Q (s_qj i3) 2), .int (Q (s_qj i3) 3), .int (Q (s_qj i3) 4), .int (Q (s_qj i3) 5), .int (Q (s_qj i3) 6), .int (Q (s_qj i3) 7)]))] ++ (qrest qa Q (s_qj i3))) := q_focD (X := [(h, .inr (10, [.ref tokens_h, .ref conditions_h, .ref a_questions, .int v_asked, .ref a_letStarts, .ref a_letEnds, .ref a_letOfLetter, .int v_lets])), (a_questions, .inl (gQ G, 12, .inr (.inr (.inr (.inr (fun j => some (qa j)))))))]) (Y := []) (s_qj_lt i3) hD
      refine lv_iload_n hx hb d_Scr_all_18 rfl (lv_at hl 3 rfl) ?_
      obtain ⟨r1, hr1⟩ : ∃ r, (s_Qu_part (Q (s_qj i3) 0) (Q (s_qj i3) 2) (Q (s_qj i3) 3) (Q (s_qj i3) 4) (Q (s_qj i3) 5) x) = r := ⟨_, rfl⟩
      try simp only [hr1] at hok
      have hC_r1 := (c_Qu_part l G (qa (s_qj i3)) (Q (s_qj i3) 0) (Q (s_qj i3) 1) (Q (s_qj i3) 2) (Q (s_qj i3) 3) (Q (s_qj i3) 4) (Q (s_qj i3) 5) (Q (s_qj i3) 6) (Q (s_qj i3) 7) x)
      rw [hr1] at hC_r1
      refine ly_callV (rest := [.int i2]) (wf := ([(h, .inr (10, [.ref tokens_h, .ref conditions_h, .ref a_questions, .int v_asked, .ref a_letStarts, .ref a_letEnds, .ref a_letOfLetter, .int v_lets])), (a_questions, .inl (gQ G, 12, .inr (.inr (.inr (.inr (fun j => some (qa j))))))), (qa (s_qj i3), .inr (9, [.int (Q (s_qj i3) 0), .int (Q (s_qj i3) 1), .int (Q (s_qj i3) 2), .int (Q (s_qj i3) 3), .int (Q (s_qj i3) 4), .int (Q (s_qj i3) 5), .int (Q (s_qj i3) 6), .int (Q (s_qj i3) 7)]))] ++ (qrest qa Q (s_qj i3)))) ⟨hx, hb, hml, hown, hts⟩ hA hK hZ hP hD hS hC_r1 (cwV 1 hts g_Scr_79 rfl rfl rfl (by decide +kernel) ⟨Nat.le_of_ble_eq_true rfl, Nat.le_of_ble_eq_true rfl⟩) (ci := 9) (q0 := 2) rfl rfl rfl [2] rfl (by decide) rfl rfl rfl hl.1 rfl (Nat.le_of_ble_eq_true rfl) d_Scr_all_19 ⟨Nat.le_of_ble_eq_true rfl, Nat.le_of_ble_eq_true rfl⟩ (st1 := [.int r1, .int i2]) (c1 := 0) (s1 := 0) rfl rfl rfl (fun H locs hP hD hS => ?_)
      refine lv_iadd hx hb d_Scr_all_22 ?_
      refine lv_istore_n (lv' := [(2, .int (i2 + r1)), (3, .int i3), (0, .ref h), (1, .int x)]) hx hb d_Scr_all_23 rfl hl (by decide) rfl (fun ls hl => ?_)
      refine lv_iinc (v := i3 + 1) (lv' := [(3, .int (i3 + 1)), (2, .int (i2 + r1)), (0, .ref h), (1, .int x)]) hx hb d_Scr_all_24 hl (k := 1) rfl (by rfl) (by decide) rfl (fun ls hl => ?_)
      refine lv_goto (tgt := 4) hx hb d_Scr_all_27 (by decide) ?_
      have hP : va_P G.1 classes ([(h, .inr (10, [.ref tokens_h, .ref conditions_h, .ref a_questions, .int v_asked, .ref a_letStarts, .ref a_letEnds, .ref a_letOfLetter, .int v_lets])), (a_questions, .inl (gQ G, 12, .inr (.inr (.inr (.inr (fun j => some (qa j)))))))] ++ ((qa (s_qj i3), .inr (9, qfs (Q (s_qj i3)))) :: ([] ++ qrest qa Q (s_qj i3)))) H := hP
      have hP : va_P G.1 classes ([(h, .inr (10, [.ref tokens_h, .ref conditions_h, .ref a_questions, .int v_asked, .ref a_letStarts, .ref a_letEnds, .ref a_letOfLetter, .int v_lets])), (a_questions, .inl (gQ G, 12, .inr (.inr (.inr (.inr (fun j => some (qa j)))))))] ++ (qcells qa Q ++ [])) H := q_baP (X := [(h, .inr (10, [.ref tokens_h, .ref conditions_h, .ref a_questions, .int v_asked, .ref a_letStarts, .ref a_letEnds, .ref a_letOfLetter, .int v_lets])), (a_questions, .inl (gQ G, 12, .inr (.inr (.inr (.inr (fun j => some (qa j)))))))]) (Y := []) (s_qj_lt i3) hP
      have hP : va_P G.1 classes [(h, .inr (10, [.ref tokens_h, .ref conditions_h, .ref a_questions, .int v_asked, .ref a_letStarts, .ref a_letEnds, .ref a_letOfLetter, .int v_lets])), (a_questions, .inl (gQ G, 12, .inr (.inr (.inr (.inr (fun j => some (qa j))))))), (qa 0, .inr (9, qfs (Q 0))), (qa 1, .inr (9, qfs (Q 1))), (qa 2, .inr (9, qfs (Q 2))), (qa 3, .inr (9, qfs (Q 3))), (qa 4, .inr (9, qfs (Q 4))), (qa 5, .inr (9, qfs (Q 5))), (qa 6, .inr (9, qfs (Q 6))), (qa 7, .inr (9, qfs (Q 7))), (qa 8, .inr (9, qfs (Q 8))), (qa 9, .inr (9, qfs (Q 9))), (qa 10, .inr (9, qfs (Q 10))), (qa 11, .inr (9, qfs (Q 11)))] H := hP
      have hD : va_D A ([(h, .inr (10, [.ref tokens_h, .ref conditions_h, .ref a_questions, .int v_asked, .ref a_letStarts, .ref a_letEnds, .ref a_letOfLetter, .int v_lets])), (a_questions, .inl (gQ G, 12, .inr (.inr (.inr (.inr (fun j => some (qa j)))))))] ++ ((qa (s_qj i3), .inr (9, qfs (Q (s_qj i3)))) :: ([] ++ qrest qa Q (s_qj i3)))) := hD
      have hD : va_D A ([(h, .inr (10, [.ref tokens_h, .ref conditions_h, .ref a_questions, .int v_asked, .ref a_letStarts, .ref a_letEnds, .ref a_letOfLetter, .int v_lets])), (a_questions, .inl (gQ G, 12, .inr (.inr (.inr (.inr (fun j => some (qa j)))))))] ++ (qcells qa Q ++ [])) := q_baD (X := [(h, .inr (10, [.ref tokens_h, .ref conditions_h, .ref a_questions, .int v_asked, .ref a_letStarts, .ref a_letEnds, .ref a_letOfLetter, .int v_lets])), (a_questions, .inl (gQ G, 12, .inr (.inr (.inr (.inr (fun j => some (qa j)))))))]) (Y := []) (s_qj_lt i3) hD
      have hD : va_D A [(h, .inr (10, [.ref tokens_h, .ref conditions_h, .ref a_questions, .int v_asked, .ref a_letStarts, .ref a_letEnds, .ref a_letOfLetter, .int v_lets])), (a_questions, .inl (gQ G, 12, .inr (.inr (.inr (.inr (fun j => some (qa j))))))), (qa 0, .inr (9, qfs (Q 0))), (qa 1, .inr (9, qfs (Q 1))), (qa 2, .inr (9, qfs (Q 2))), (qa 3, .inr (9, qfs (Q 3))), (qa 4, .inr (9, qfs (Q 4))), (qa 5, .inr (9, qfs (Q 5))), (qa 6, .inr (9, qfs (Q 6))), (qa 7, .inr (9, qfs (Q 7))), (qa 8, .inr (9, qfs (Q 8))), (qa 9, .inr (9, qfs (Q 9))), (qa 10, .inr (9, qfs (Q 10))), (qa 11, .inr (9, qfs (Q 11)))] := hD
      have e_ : (lp_Scr_all_4 Q v_asked x (n + 1) i2 i3) = (lp_Scr_all_4 Q v_asked x n (i2 + r1) (i3 + 1)) := (by rw [lp_Scr_all_4] <;> simp only [hr1] <;> rw [if_neg c1])
      rw [e_]
      exact ih (i2 + r1) (i3 + 1) hok _ _ _ hP hD hS (lv_sub hl [0, 1, 2, 3] rfl)
  have hl : lv_has ls 4 [(0, .ref h), (1, .int x)] := hl
  rw [ok_Scr_all] at hok
  refine lv_iconst (v := 0) hx hb d_Scr_all_0 (by decide) ?_
  refine lv_istore_n (lv' := [(2, .int 0), (0, .ref h), (1, .int x)]) hx hb d_Scr_all_1 rfl hl (by decide) rfl (fun ls hl => ?_)
  refine lv_iconst (v := 0) hx hb d_Scr_all_2 (by decide) ?_
  refine lv_istore_n (lv' := [(3, .int 0), (2, .int 0), (0, .ref h), (1, .int x)]) hx hb d_Scr_all_3 rfl hl (by decide) rfl (fun ls hl => ?_)
  exact loop_4 13 (0 : Int32) (0 : Int32) hok _ _ _ hP hD hS (lv_sub hl [0, 1, 2, 3] rfl)

set_option maxHeartbeats 4000000 in
set_option maxRecDepth 100000 in
theorem c_Scr_settleLets (l : Launch) (G : GG) (h : Nat) (tokens_h : Nat) (conditions_h : Nat) (conditions_a_steps : Nat) (conditions_a_values : Nat) (conditions_a_stack : Nat) (conditions_a_holding : Nat) (a_questions : Nat) (a_letStarts : Nat) (a_letEnds : Nat) (a_letOfLetter : Nat) (tb_h : Nat) (tb_a_numbers : Nat) (conditions_f_steps : Nat → Int32) (conditions_f_values : Nat → Int32) (conditions__size : Int32) (conditions_f_stack : Nat → Int32) (conditions__height : Int32) (conditions_f_holding : Nat → Int32) (v_asked : Int32) (f_letStarts : Nat → Int32) (f_letEnds : Nat → Int32) (v_lets : Int32) (tb_f_numbers : Nat → Int32) (tb__rows : Int32) (row : Int32) (hok : ok_Scr_settleLets conditions_f_steps conditions_f_values conditions_f_stack conditions__height conditions_f_holding f_letStarts f_letEnds v_lets tb_f_numbers row) : Det l G y_Scr_settleLets w_Scr_settleLets (rmD 4) 0 0 [.ref h, .ref tb_h, .int row] [(h, .inr (10, [.ref tokens_h, .ref conditions_h, .ref a_questions, .int v_asked, .ref a_letStarts, .ref a_letEnds, .ref a_letOfLetter, .int v_lets])), (conditions_h, .inr (8, [.ref conditions_a_steps, .ref conditions_a_values, .int conditions__size, .ref conditions_a_stack, .int conditions__height, .ref conditions_a_holding])), (conditions_a_steps, .inl (gI G, 2000, .inl conditions_f_steps)), (conditions_a_values, .inl (gI G, 2000, .inl conditions_f_values)), (conditions_a_stack, .inl (gI G, 64, .inl conditions_f_stack)), (conditions_a_holding, .inl (gZ G, 10, .inl conditions_f_holding)), (a_letStarts, .inl (gI G, 10, .inl f_letStarts)), (a_letEnds, .inl (gI G, 10, .inl f_letEnds)), (tb_h, .inr (1, [.ref tb_a_numbers, .int tb__rows])), (tb_a_numbers, .inl (gI G, 360, .inl tb_f_numbers))] none [(h, .inr (10, [.ref tokens_h, .ref conditions_h, .ref a_questions, .int v_asked, .ref a_letStarts, .ref a_letEnds, .ref a_letOfLetter, .int v_lets])), (conditions_h, .inr (8, [.ref conditions_a_steps, .ref conditions_a_values, .int conditions__size, .ref conditions_a_stack, .int (lp_Scr_settleLets_2 conditions_f_steps conditions_f_values f_letStarts f_letEnds v_lets tb_f_numbers row 11 (0 : Int32) conditions__height conditions_f_stack conditions_f_holding).1, .ref conditions_a_holding])), (conditions_a_steps, .inl (gI G, 2000, .inl conditions_f_steps)), (conditions_a_values, .inl (gI G, 2000, .inl conditions_f_values)), (conditions_a_stack, .inl (gI G, 64, .inl (lp_Scr_settleLets_2 conditions_f_steps conditions_f_values f_letStarts f_letEnds v_lets tb_f_numbers row 11 (0 : Int32) conditions__height conditions_f_stack conditions_f_holding).2.1)), (conditions_a_holding, .inl (gZ G, 10, .inl (lp_Scr_settleLets_2 conditions_f_steps conditions_f_values f_letStarts f_letEnds v_lets tb_f_numbers row 11 (0 : Int32) conditions__height conditions_f_stack conditions_f_holding).2.2)), (a_letStarts, .inl (gI G, 10, .inl f_letStarts)), (a_letEnds, .inl (gI G, 10, .inl f_letEnds)), (tb_h, .inr (1, [.ref tb_a_numbers, .int tb__rows])), (tb_a_numbers, .inl (gI G, 360, .inl tb_f_numbers))] := by
  refine Det.of (cc := b_Scr_settleLets) (maxL := 4) (ret := none) (by decide) rfl (Nat.le_of_ble_eq_true rfl) ?_
  intro p e s m args below meth c A ls hx hb hr hml hown hts hlocks hin hA hK hZ hP hD hS hl
  have hts : ∀ w ∈ wG, w.before args s = true := fun w h => hts w (List.mem_cons_of_mem _ h)
  have hown : s.vm.findClass R_Scr = some m.cls := hown
  have loop_2 : ∀ (n : Nat) (i3 : Int32) (c4_conditions_h : Int32) (g_conditions_a_stack : Nat → Int32) (g_conditions_a_holding : Nat → Int32), (oklp_Scr_settleLets_2 conditions_f_steps conditions_f_values f_letStarts f_letEnds v_lets tb_f_numbers row n i3 c4_conditions_h g_conditions_a_stack g_conditions_a_holding) → ∀ (H : Heap) (locs : List Loc) (ls : Array Slot), va_P G.1 classes [(h, .inr (10, [.ref tokens_h, .ref conditions_h, .ref a_questions, .int v_asked, .ref a_letStarts, .ref a_letEnds, .ref a_letOfLetter, .int v_lets])), (conditions_h, .inr (8, [.ref conditions_a_steps, .ref conditions_a_values, .int conditions__size, .ref conditions_a_stack, .int c4_conditions_h, .ref conditions_a_holding])), (conditions_a_steps, .inl (gI G, 2000, .inl conditions_f_steps)), (conditions_a_values, .inl (gI G, 2000, .inl conditions_f_values)), (conditions_a_stack, .inl (gI G, 64, .inl g_conditions_a_stack)), (conditions_a_holding, .inl (gZ G, 10, .inl g_conditions_a_holding)), (a_letStarts, .inl (gI G, 10, .inl f_letStarts)), (a_letEnds, .inl (gI G, 10, .inl f_letEnds)), (tb_h, .inr (1, [.ref tb_a_numbers, .int tb__rows])), (tb_a_numbers, .inl (gI G, 360, .inl tb_f_numbers))] H → va_D A [(h, .inr (10, [.ref tokens_h, .ref conditions_h, .ref a_questions, .int v_asked, .ref a_letStarts, .ref a_letEnds, .ref a_letOfLetter, .int v_lets])), (conditions_h, .inr (8, [.ref conditions_a_steps, .ref conditions_a_values, .int conditions__size, .ref conditions_a_stack, .int c4_conditions_h, .ref conditions_a_holding])), (conditions_a_steps, .inl (gI G, 2000, .inl conditions_f_steps)), (conditions_a_values, .inl (gI G, 2000, .inl conditions_f_values)), (conditions_a_stack, .inl (gI G, 64, .inl g_conditions_a_stack)), (conditions_a_holding, .inl (gZ G, 10, .inl g_conditions_a_holding)), (a_letStarts, .inl (gI G, 10, .inl f_letStarts)), (a_letEnds, .inl (gI G, 10, .inl f_letEnds)), (tb_h, .inr (1, [.ref tb_a_numbers, .int tb__rows])), (tb_a_numbers, .inl (gI G, 360, .inl tb_f_numbers))] → va_S A s.heap H locs → lv_has ls 4 [(3, .int i3), (0, .ref h), (1, .ref tb_h), (2, .int row)] → W p l e (rmD 4) s m args below meth c H locs 0 0 (MQ below (ly_Q G A none [(h, .inr (10, [.ref tokens_h, .ref conditions_h, .ref a_questions, .int v_asked, .ref a_letStarts, .ref a_letEnds, .ref a_letOfLetter, .int v_lets])), (conditions_h, .inr (8, [.ref conditions_a_steps, .ref conditions_a_values, .int conditions__size, .ref conditions_a_stack, .int (lp_Scr_settleLets_2 conditions_f_steps conditions_f_values f_letStarts f_letEnds v_lets tb_f_numbers row n i3 c4_conditions_h g_conditions_a_stack g_conditions_a_holding).1, .ref conditions_a_holding])), (conditions_a_steps, .inl (gI G, 2000, .inl conditions_f_steps)), (conditions_a_values, .inl (gI G, 2000, .inl conditions_f_values)), (conditions_a_stack, .inl (gI G, 64, .inl (lp_Scr_settleLets_2 conditions_f_steps conditions_f_values f_letStarts f_letEnds v_lets tb_f_numbers row n i3 c4_conditions_h g_conditions_a_stack g_conditions_a_holding).2.1)), (conditions_a_holding, .inl (gZ G, 10, .inl (lp_Scr_settleLets_2 conditions_f_steps conditions_f_values f_letStarts f_letEnds v_lets tb_f_numbers row n i3 c4_conditions_h g_conditions_a_stack g_conditions_a_holding).2.2)), (a_letStarts, .inl (gI G, 10, .inl f_letStarts)), (a_letEnds, .inl (gI G, 10, .inl f_letEnds)), (tb_h, .inr (1, [.ref tb_a_numbers, .int tb__rows])), (tb_a_numbers, .inl (gI G, 360, .inl tb_f_numbers))]) args s 0 0 A) (F0 m 2 ls []) := by
    intro n
    induction n with
    | zero => intro i3 c4_conditions_h g_conditions_a_stack g_conditions_a_holding hok; exact absurd hok (fun h => h)
    | succ n ih =>
      intro i3 c4_conditions_h g_conditions_a_stack g_conditions_a_holding hok H locs ls hP hD hS hl
      rw [oklp_Scr_settleLets_2] at hok
      refine lv_iload_n hx hb d_Scr_settleLets_2 rfl (lv_at hl 0 rfl) ?_
      refine lv_aload_n hx hb d_Scr_settleLets_3 rfl (lv_at hl 1 rfl) ?_
      refine va_get (D := G.1) (ci := 10) (C := R_Scr) (T := F_Scr) (N := 8) (v := .int v_lets) hx hb hts i_Scr hown hK hP 0 rfl rfl 7 (by decide) (hts (.fieldLink R_Scr 46 "PrivateQueries$Script" "lets" "I") k_126) (fun _ h9 => h9) rfl d_Scr_settleLets_4 ?_
      refine lv_icmp_ge (tgt := 63) hx hb d_Scr_settleLets_7 (by decide) (fun c1 => ?_) (fun c1 => ?_)
      · skip
        rw [if_pos c1] at hok
        exact ly_vret hx hb hr hlocks hP hD hS d_Scr_settleLets_63 rfl (by rw [lp_Scr_settleLets_2, if_pos c1])
      rw [if_neg c1] at hok
      refine lv_iload_n hx hb d_Scr_settleLets_10 rfl (lv_at hl 0 rfl) ?_
      refine lv_aload_n hx hb d_Scr_settleLets_11 rfl (lv_at hl 1 rfl) ?_
      refine va_get (D := G.1) (ci := 10) (C := R_Scr) (T := F_Scr) (N := 8) (v := .ref a_letStarts) hx hb hts i_Scr hown hK hP 0 rfl rfl 4 (by decide) (hts (.fieldLink R_Scr 36 "PrivateQueries$Script" "letStarts" "[I") k_566) (fun _ h9 => h9) rfl d_Scr_settleLets_12 ?_
      refine va_alen (v := 10) hx hb hK hP 6 0 rfl rfl (show Int32.ofNat 10 = 10 by decide) d_Scr_settleLets_15 ?_
      refine lv_icmp_ge (tgt := 63) hx hb d_Scr_settleLets_16 (by decide) (fun c2 => ?_) (fun c2 => ?_)
      · skip
        rw [if_pos c2] at hok
        exact ly_vret hx hb hr hlocks hP hD hS d_Scr_settleLets_63 rfl (by rw [lp_Scr_settleLets_2, if_neg c1, if_pos c2])
      rw [if_neg c2] at hok
      refine lv_iload_n hx hb d_Scr_settleLets_19 rfl (lv_at hl 0 rfl) ?_
      refine lv_aload_n hx hb d_Scr_settleLets_20 rfl (lv_at hl 1 rfl) ?_
      refine va_get (D := G.1) (ci := 10) (C := R_Scr) (T := F_Scr) (N := 8) (v := .ref a_letEnds) hx hb hts i_Scr hown hK hP 0 rfl rfl 5 (by decide) (hts (.fieldLink R_Scr 40 "PrivateQueries$Script" "letEnds" "[I") k_567) (fun _ h9 => h9) rfl d_Scr_settleLets_21 ?_
      refine va_alen (v := 10) hx hb hK hP 7 0 rfl rfl (show Int32.ofNat 10 = 10 by decide) d_Scr_settleLets_24 ?_
      refine lv_icmp_ge (tgt := 63) hx hb d_Scr_settleLets_25 (by decide) (fun c3 => ?_) (fun c3 => ?_)
      · skip
        rw [if_pos c3] at hok
        exact ly_vret hx hb hr hlocks hP hD hS d_Scr_settleLets_63 rfl (by rw [lp_Scr_settleLets_2, if_neg c1, if_neg c2, if_pos c3])
      rw [if_neg c3] at hok
      refine lv_aload_n hx hb d_Scr_settleLets_28 rfl (lv_at hl 1 rfl) ?_
      refine va_get (D := G.1) (ci := 10) (C := R_Scr) (T := F_Scr) (N := 8) (v := .ref conditions_h) hx hb hts i_Scr hown hK hP 0 rfl rfl 1 (by decide) (hts (.fieldLink R_Scr 21 "PrivateQueries$Script" "conditions" "LPrivateQueries$Conditions;") k_568) (fun _ h9 => h9) rfl d_Scr_settleLets_29 ?_
      refine lv_iload_n hx hb d_Scr_settleLets_32 rfl (lv_at hl 0 rfl) ?_
      refine lv_aload_n hx hb d_Scr_settleLets_33 rfl (lv_at hl 1 rfl) ?_
      refine va_get (D := G.1) (ci := 10) (C := R_Scr) (T := F_Scr) (N := 8) (v := .ref conditions_h) hx hb hts i_Scr hown hK hP 0 rfl rfl 1 (by decide) (hts (.fieldLink R_Scr 21 "PrivateQueries$Script" "conditions" "LPrivateQueries$Conditions;") k_568) (fun _ h9 => h9) rfl d_Scr_settleLets_34 ?_
      refine lv_aload_n hx hb d_Scr_settleLets_37 rfl (lv_at hl 1 rfl) ?_
      refine va_get (D := G.1) (ci := 10) (C := R_Scr) (T := F_Scr) (N := 8) (v := .ref a_letStarts) hx hb hts i_Scr hown hK hP 0 rfl rfl 4 (by decide) (hts (.fieldLink R_Scr 36 "PrivateQueries$Script" "letStarts" "[I") k_566) (fun _ h9 => h9) rfl d_Scr_settleLets_38 ?_
      refine lv_iload_n hx hb d_Scr_settleLets_41 rfl (lv_at hl 0 rfl) ?_
      obtain ⟨hv1, hok⟩ := hok
      refine va_iald hx hb hK hP 6 0 rfl rfl hv1 d_Scr_settleLets_42 ?_
      refine lv_aload_n hx hb d_Scr_settleLets_43 rfl (lv_at hl 1 rfl) ?_
      refine va_get (D := G.1) (ci := 10) (C := R_Scr) (T := F_Scr) (N := 8) (v := .ref a_letEnds) hx hb hts i_Scr hown hK hP 0 rfl rfl 5 (by decide) (hts (.fieldLink R_Scr 40 "PrivateQueries$Script" "letEnds" "[I") k_567) (fun _ h9 => h9) rfl d_Scr_settleLets_44 ?_
      refine lv_iload_n hx hb d_Scr_settleLets_47 rfl (lv_at hl 0 rfl) ?_
      obtain ⟨hv2, hok⟩ := hok
      refine va_iald hx hb hK hP 7 0 rfl rfl hv2 d_Scr_settleLets_48 ?_
      refine lv_aload_n hx hb d_Scr_settleLets_49 rfl (lv_at hl 2 rfl) ?_
      refine lv_iload_n hx hb d_Scr_settleLets_50 rfl (lv_at hl 3 rfl) ?_
      obtain ⟨r1, hr1⟩ : ∃ r, (s_Cond_hold conditions_f_steps conditions_f_values g_conditions_a_stack c4_conditions_h g_conditions_a_holding tb_f_numbers (f_letStarts i3.toNatClampNeg) (f_letEnds i3.toNatClampNeg) row) = r := ⟨_, rfl⟩
      try simp only [hr1] at hok
      have hC_r1 := (c_Cond_hold l G conditions_h conditions_a_steps conditions_a_values conditions_a_stack conditions_a_holding tb_h tb_a_numbers conditions_f_steps conditions_f_values conditions__size g_conditions_a_stack c4_conditions_h g_conditions_a_holding tb_f_numbers tb__rows (f_letStarts i3.toNatClampNeg) (f_letEnds i3.toNatClampNeg) row)
      rw [hr1] at hC_r1
      have hf_r1_1 : isB r1.1 := by rw [← hr1]; exact z_Cond_hold
      refine ly_callV (rest := [.int i3, .ref conditions_h]) (wf := [(h, .inr (10, [.ref tokens_h, .ref conditions_h, .ref a_questions, .int v_asked, .ref a_letStarts, .ref a_letEnds, .ref a_letOfLetter, .int v_lets])), (conditions_h, .inr (8, [.ref conditions_a_steps, .ref conditions_a_values, .int conditions__size, .ref conditions_a_stack, .int r1.2.1, .ref conditions_a_holding])), (conditions_a_steps, .inl (gI G, 2000, .inl conditions_f_steps)), (conditions_a_values, .inl (gI G, 2000, .inl conditions_f_values)), (conditions_a_stack, .inl (gI G, 64, .inl r1.2.2)), (conditions_a_holding, .inl (gZ G, 10, .inl g_conditions_a_holding)), (a_letStarts, .inl (gI G, 10, .inl f_letStarts)), (a_letEnds, .inl (gI G, 10, .inl f_letEnds)), (tb_h, .inr (1, [.ref tb_a_numbers, .int tb__rows])), (tb_a_numbers, .inl (gI G, 360, .inl tb_f_numbers))]) ⟨hx, hb, hml, hown, hts⟩ hA hK hZ hP hD hS hC_r1 (cwV 4 hts g_Scr_100 rfl rfl rfl (by decide +kernel) ⟨Nat.le_of_ble_eq_true rfl, Nat.le_of_ble_eq_true rfl⟩) (ci := 8) (q0 := 1) rfl rfl rfl [1, 2, 3, 4, 5, 8, 9] rfl (by decide) rfl rfl rfl hl.1 rfl (Nat.le_of_ble_eq_true rfl) d_Scr_settleLets_51 ⟨Nat.le_of_ble_eq_true rfl, Nat.le_of_ble_eq_true rfl⟩ (st1 := [.int r1.1, .int i3, .ref conditions_h]) (c1 := 0) (s1 := 0) rfl rfl rfl (fun H locs hP hD hS => ?_)
      obtain ⟨r2, hr2⟩ : ∃ r, (s_Cond_settle g_conditions_a_holding i3 r1.1) = r := ⟨_, rfl⟩
      try simp only [hr2] at hok
      have hC_r2 := (c_Cond_settle l G conditions_h conditions_a_steps conditions_a_values conditions_a_stack conditions_a_holding conditions__size r1.2.1 g_conditions_a_holding i3 r1.1)
      rw [hr2] at hC_r2
      refine ly_callV (rest := []) (wf := [(h, .inr (10, [.ref tokens_h, .ref conditions_h, .ref a_questions, .int v_asked, .ref a_letStarts, .ref a_letEnds, .ref a_letOfLetter, .int v_lets])), (conditions_h, .inr (8, [.ref conditions_a_steps, .ref conditions_a_values, .int conditions__size, .ref conditions_a_stack, .int r1.2.1, .ref conditions_a_holding])), (conditions_a_steps, .inl (gI G, 2000, .inl conditions_f_steps)), (conditions_a_values, .inl (gI G, 2000, .inl conditions_f_values)), (conditions_a_stack, .inl (gI G, 64, .inl r1.2.2)), (conditions_a_holding, .inl (gZ G, 10, .inl r2)), (a_letStarts, .inl (gI G, 10, .inl f_letStarts)), (a_letEnds, .inl (gI G, 10, .inl f_letEnds)), (tb_h, .inr (1, [.ref tb_a_numbers, .int tb__rows])), (tb_a_numbers, .inl (gI G, 360, .inl tb_f_numbers))]) ⟨hx, hb, hml, hown, hts⟩ hA hK hZ hP hD hS hC_r2 (cwV 2 hts g_Scr_104 rfl rfl rfl (by decide +kernel) ⟨Nat.le_of_ble_eq_true rfl, Nat.le_of_ble_eq_true rfl⟩) (ci := 8) (q0 := 1) rfl rfl rfl [1, 5] rfl (by decide) rfl rfl rfl hl.1 rfl (Nat.le_of_ble_eq_true rfl) d_Scr_settleLets_54 ⟨Nat.le_of_ble_eq_true rfl, Nat.le_of_ble_eq_true rfl⟩ (st1 := []) (c1 := 0) (s1 := 0) rfl rfl rfl (fun H locs hP hD hS => ?_)
      refine lv_iinc (v := i3 + 1) (lv' := [(3, .int (i3 + 1)), (0, .ref h), (1, .ref tb_h), (2, .int row)]) hx hb d_Scr_settleLets_57 hl (k := 0) rfl (by rfl) (by decide) rfl (fun ls hl => ?_)
      refine lv_goto (tgt := 2) hx hb d_Scr_settleLets_60 (by decide) ?_
      have e_ : (lp_Scr_settleLets_2 conditions_f_steps conditions_f_values f_letStarts f_letEnds v_lets tb_f_numbers row (n + 1) i3 c4_conditions_h g_conditions_a_stack g_conditions_a_holding) = (lp_Scr_settleLets_2 conditions_f_steps conditions_f_values f_letStarts f_letEnds v_lets tb_f_numbers row n (i3 + 1) r1.2.1 r1.2.2 r2) := (by rw [lp_Scr_settleLets_2] <;> simp only [hr1, hr2] <;> rw [if_neg c1, if_neg c2, if_neg c3])
      rw [e_]
      exact ih (i3 + 1) r1.2.1 r1.2.2 r2 hok _ _ _ hP hD hS (lv_sub hl [0, 1, 2, 3] rfl)
  have hl : lv_has ls 4 [(0, .ref h), (1, .ref tb_h), (2, .int row)] := hl
  rw [ok_Scr_settleLets] at hok
  refine lv_iconst (v := 0) hx hb d_Scr_settleLets_0 (by decide) ?_
  refine lv_istore_n (lv' := [(3, .int 0), (0, .ref h), (1, .ref tb_h), (2, .int row)]) hx hb d_Scr_settleLets_1 rfl hl (by decide) rfl (fun ls hl => ?_)
  exact loop_2 11 (0 : Int32) conditions__height conditions_f_stack conditions_f_holding hok _ _ _ hP hD hS (lv_sub hl [0, 1, 2, 3] rfl)

set_option maxHeartbeats 4000000 in
set_option maxRecDepth 100000 in
theorem c_Scr_enterRow (l : Launch) (G : GG) (h : Nat) (tokens_h : Nat) (conditions_h : Nat) (conditions_a_steps : Nat) (conditions_a_values : Nat) (conditions_a_stack : Nat) (conditions_a_holding : Nat) (a_questions : Nat) (a_letStarts : Nat) (a_letEnds : Nat) (a_letOfLetter : Nat) (tb_h : Nat) (tb_a_numbers : Nat) (nua : Nat) (conditions_f_steps : Nat → Int32) (conditions_f_values : Nat → Int32) (conditions__size : Int32) (conditions_f_stack : Nat → Int32) (conditions__height : Int32) (conditions_f_holding : Nat → Int32) (qa : Nat → Nat) (Q : Nat → Nat → Int32) (v_asked : Int32) (v_lets : Int32) (tb_f_numbers : Nat → Int32) (tb__rows : Int32) (nuf : Nat → Int32) (row : Int32) (hok : ok_Scr_enterRow conditions_f_steps conditions_f_values conditions_f_stack conditions__height conditions_f_holding Q v_asked tb_f_numbers nuf row) : Det l G y_Scr_enterRow w_Scr_enterRow (rmD 4) 0 0 [.ref h, .ref tb_h, .int row, .ref nua] [(h, .inr (10, [.ref tokens_h, .ref conditions_h, .ref a_questions, .int v_asked, .ref a_letStarts, .ref a_letEnds, .ref a_letOfLetter, .int v_lets])), (conditions_h, .inr (8, [.ref conditions_a_steps, .ref conditions_a_values, .int conditions__size, .ref conditions_a_stack, .int conditions__height, .ref conditions_a_holding])), (conditions_a_steps, .inl (gI G, 2000, .inl conditions_f_steps)), (conditions_a_values, .inl (gI G, 2000, .inl conditions_f_values)), (conditions_a_stack, .inl (gI G, 64, .inl conditions_f_stack)), (conditions_a_holding, .inl (gZ G, 10, .inl conditions_f_holding)), (a_questions, .inl (gQ G, 12, .inr (.inr (.inr (.inr (fun j => some (qa j))))))), (qa 0, .inr (9, qfs (Q 0))), (qa 1, .inr (9, qfs (Q 1))), (qa 2, .inr (9, qfs (Q 2))), (qa 3, .inr (9, qfs (Q 3))), (qa 4, .inr (9, qfs (Q 4))), (qa 5, .inr (9, qfs (Q 5))), (qa 6, .inr (9, qfs (Q 6))), (qa 7, .inr (9, qfs (Q 7))), (qa 8, .inr (9, qfs (Q 8))), (qa 9, .inr (9, qfs (Q 9))), (qa 10, .inr (9, qfs (Q 10))), (qa 11, .inr (9, qfs (Q 11))), (tb_h, .inr (1, [.ref tb_a_numbers, .int tb__rows])), (tb_a_numbers, .inl (gI G, 360, .inl tb_f_numbers)), (nua, .inl (gI G, 240, .inl nuf))] none [(h, .inr (10, [.ref tokens_h, .ref conditions_h, .ref a_questions, .int v_asked, .ref a_letStarts, .ref a_letEnds, .ref a_letOfLetter, .int v_lets])), (conditions_h, .inr (8, [.ref conditions_a_steps, .ref conditions_a_values, .int conditions__size, .ref conditions_a_stack, .int (lp_Scr_enterRow_6 conditions_f_steps conditions_f_values conditions_f_holding Q v_asked tb_f_numbers row 13 (0 : Int32) (0 : Int32) conditions__height conditions_f_stack nuf).1, .ref conditions_a_holding])), (conditions_a_steps, .inl (gI G, 2000, .inl conditions_f_steps)), (conditions_a_values, .inl (gI G, 2000, .inl conditions_f_values)), (conditions_a_stack, .inl (gI G, 64, .inl (lp_Scr_enterRow_6 conditions_f_steps conditions_f_values conditions_f_holding Q v_asked tb_f_numbers row 13 (0 : Int32) (0 : Int32) conditions__height conditions_f_stack nuf).2.1)), (conditions_a_holding, .inl (gZ G, 10, .inl conditions_f_holding)), (a_questions, .inl (gQ G, 12, .inr (.inr (.inr (.inr (fun j => some (qa j))))))), (qa 0, .inr (9, qfs (Q 0))), (qa 1, .inr (9, qfs (Q 1))), (qa 2, .inr (9, qfs (Q 2))), (qa 3, .inr (9, qfs (Q 3))), (qa 4, .inr (9, qfs (Q 4))), (qa 5, .inr (9, qfs (Q 5))), (qa 6, .inr (9, qfs (Q 6))), (qa 7, .inr (9, qfs (Q 7))), (qa 8, .inr (9, qfs (Q 8))), (qa 9, .inr (9, qfs (Q 9))), (qa 10, .inr (9, qfs (Q 10))), (qa 11, .inr (9, qfs (Q 11))), (tb_h, .inr (1, [.ref tb_a_numbers, .int tb__rows])), (tb_a_numbers, .inl (gI G, 360, .inl tb_f_numbers)), (nua, .inl (gI G, 240, .inl (lp_Scr_enterRow_6 conditions_f_steps conditions_f_values conditions_f_holding Q v_asked tb_f_numbers row 13 (0 : Int32) (0 : Int32) conditions__height conditions_f_stack nuf).2.2))] := by
  refine Det.of (cc := b_Scr_enterRow) (maxL := 7) (ret := none) (by decide) rfl (Nat.le_of_ble_eq_true rfl) ?_
  intro p e s m args below meth c A ls hx hb hr hml hown hts hlocks hin hA hK hZ hP hD hS hl
  have hts : ∀ w ∈ wG, w.before args s = true := fun w h => hts w (List.mem_cons_of_mem _ h)
  have hown : s.vm.findClass R_Scr = some m.cls := hown
  have loop_6 : ∀ (n : Nat) (i4 : Int32) (i5 : Int32) (c4_conditions_h : Int32) (g_conditions_a_stack : Nat → Int32) (g_nua : Nat → Int32), (oklp_Scr_enterRow_6 conditions_f_steps conditions_f_values conditions_f_holding Q v_asked tb_f_numbers row n i4 i5 c4_conditions_h g_conditions_a_stack g_nua) → ∀ (H : Heap) (locs : List Loc) (ls : Array Slot), va_P G.1 classes [(h, .inr (10, [.ref tokens_h, .ref conditions_h, .ref a_questions, .int v_asked, .ref a_letStarts, .ref a_letEnds, .ref a_letOfLetter, .int v_lets])), (conditions_h, .inr (8, [.ref conditions_a_steps, .ref conditions_a_values, .int conditions__size, .ref conditions_a_stack, .int c4_conditions_h, .ref conditions_a_holding])), (conditions_a_steps, .inl (gI G, 2000, .inl conditions_f_steps)), (conditions_a_values, .inl (gI G, 2000, .inl conditions_f_values)), (conditions_a_stack, .inl (gI G, 64, .inl g_conditions_a_stack)), (conditions_a_holding, .inl (gZ G, 10, .inl conditions_f_holding)), (a_questions, .inl (gQ G, 12, .inr (.inr (.inr (.inr (fun j => some (qa j))))))), (qa 0, .inr (9, qfs (Q 0))), (qa 1, .inr (9, qfs (Q 1))), (qa 2, .inr (9, qfs (Q 2))), (qa 3, .inr (9, qfs (Q 3))), (qa 4, .inr (9, qfs (Q 4))), (qa 5, .inr (9, qfs (Q 5))), (qa 6, .inr (9, qfs (Q 6))), (qa 7, .inr (9, qfs (Q 7))), (qa 8, .inr (9, qfs (Q 8))), (qa 9, .inr (9, qfs (Q 9))), (qa 10, .inr (9, qfs (Q 10))), (qa 11, .inr (9, qfs (Q 11))), (tb_h, .inr (1, [.ref tb_a_numbers, .int tb__rows])), (tb_a_numbers, .inl (gI G, 360, .inl tb_f_numbers)), (nua, .inl (gI G, 240, .inl g_nua))] H → va_D A [(h, .inr (10, [.ref tokens_h, .ref conditions_h, .ref a_questions, .int v_asked, .ref a_letStarts, .ref a_letEnds, .ref a_letOfLetter, .int v_lets])), (conditions_h, .inr (8, [.ref conditions_a_steps, .ref conditions_a_values, .int conditions__size, .ref conditions_a_stack, .int c4_conditions_h, .ref conditions_a_holding])), (conditions_a_steps, .inl (gI G, 2000, .inl conditions_f_steps)), (conditions_a_values, .inl (gI G, 2000, .inl conditions_f_values)), (conditions_a_stack, .inl (gI G, 64, .inl g_conditions_a_stack)), (conditions_a_holding, .inl (gZ G, 10, .inl conditions_f_holding)), (a_questions, .inl (gQ G, 12, .inr (.inr (.inr (.inr (fun j => some (qa j))))))), (qa 0, .inr (9, qfs (Q 0))), (qa 1, .inr (9, qfs (Q 1))), (qa 2, .inr (9, qfs (Q 2))), (qa 3, .inr (9, qfs (Q 3))), (qa 4, .inr (9, qfs (Q 4))), (qa 5, .inr (9, qfs (Q 5))), (qa 6, .inr (9, qfs (Q 6))), (qa 7, .inr (9, qfs (Q 7))), (qa 8, .inr (9, qfs (Q 8))), (qa 9, .inr (9, qfs (Q 9))), (qa 10, .inr (9, qfs (Q 10))), (qa 11, .inr (9, qfs (Q 11))), (tb_h, .inr (1, [.ref tb_a_numbers, .int tb__rows])), (tb_a_numbers, .inl (gI G, 360, .inl tb_f_numbers)), (nua, .inl (gI G, 240, .inl g_nua))] → va_S A s.heap H locs → lv_has ls 7 [(5, .int i5), (4, .int i4), (0, .ref h), (1, .ref tb_h), (2, .int row), (3, .ref nua)] → W p l e (rmD 4) s m args below meth c H locs 0 0 (MQ below (ly_Q G A none [(h, .inr (10, [.ref tokens_h, .ref conditions_h, .ref a_questions, .int v_asked, .ref a_letStarts, .ref a_letEnds, .ref a_letOfLetter, .int v_lets])), (conditions_h, .inr (8, [.ref conditions_a_steps, .ref conditions_a_values, .int conditions__size, .ref conditions_a_stack, .int (lp_Scr_enterRow_6 conditions_f_steps conditions_f_values conditions_f_holding Q v_asked tb_f_numbers row n i4 i5 c4_conditions_h g_conditions_a_stack g_nua).1, .ref conditions_a_holding])), (conditions_a_steps, .inl (gI G, 2000, .inl conditions_f_steps)), (conditions_a_values, .inl (gI G, 2000, .inl conditions_f_values)), (conditions_a_stack, .inl (gI G, 64, .inl (lp_Scr_enterRow_6 conditions_f_steps conditions_f_values conditions_f_holding Q v_asked tb_f_numbers row n i4 i5 c4_conditions_h g_conditions_a_stack g_nua).2.1)), (conditions_a_holding, .inl (gZ G, 10, .inl conditions_f_holding)), (a_questions, .inl (gQ G, 12, .inr (.inr (.inr (.inr (fun j => some (qa j))))))), (qa 0, .inr (9, qfs (Q 0))), (qa 1, .inr (9, qfs (Q 1))), (qa 2, .inr (9, qfs (Q 2))), (qa 3, .inr (9, qfs (Q 3))), (qa 4, .inr (9, qfs (Q 4))), (qa 5, .inr (9, qfs (Q 5))), (qa 6, .inr (9, qfs (Q 6))), (qa 7, .inr (9, qfs (Q 7))), (qa 8, .inr (9, qfs (Q 8))), (qa 9, .inr (9, qfs (Q 9))), (qa 10, .inr (9, qfs (Q 10))), (qa 11, .inr (9, qfs (Q 11))), (tb_h, .inr (1, [.ref tb_a_numbers, .int tb__rows])), (tb_a_numbers, .inl (gI G, 360, .inl tb_f_numbers)), (nua, .inl (gI G, 240, .inl (lp_Scr_enterRow_6 conditions_f_steps conditions_f_values conditions_f_holding Q v_asked tb_f_numbers row n i4 i5 c4_conditions_h g_conditions_a_stack g_nua).2.2))]) args s 0 0 A) (F0 m 6 ls []) := by
    intro n
    induction n with
    | zero => intro i4 i5 c4_conditions_h g_conditions_a_stack g_nua hok; exact absurd hok (fun h => h)
    | succ n ih =>
      intro i4 i5 c4_conditions_h g_conditions_a_stack g_nua hok H locs ls hP hD hS hl
      rw [oklp_Scr_enterRow_6] at hok
      refine lv_iload hx hb d_Scr_enterRow_6 (lv_at hl 0 rfl) ?_
      refine lv_aload_n hx hb d_Scr_enterRow_8 rfl (lv_at hl 2 rfl) ?_
      refine va_get (D := G.1) (ci := 10) (C := R_Scr) (T := F_Scr) (N := 8) (v := .int v_asked) hx hb hts i_Scr hown hK hP 0 rfl rfl 3 (by decide) (hts (.fieldLink R_Scr 32 "PrivateQueries$Script" "asked" "I") k_125) (fun _ h9 => h9) rfl d_Scr_enterRow_9 ?_
      refine lv_icmp_ge (tgt := 79) hx hb d_Scr_enterRow_12 (by decide) (fun c1 => ?_) (fun c1 => ?_)
      · skip
        rw [if_pos c1] at hok
        exact ly_vret hx hb hr hlocks hP hD hS d_Scr_enterRow_79 rfl (by rw [lp_Scr_enterRow_6, if_pos c1])
      rw [if_neg c1] at hok
      refine lv_aload_n hx hb d_Scr_enterRow_15 rfl (lv_at hl 2 rfl) ?_
      refine lv_iload hx hb d_Scr_enterRow_16 (lv_at hl 0 rfl) ?_
      refine ly_callV (rest := []) (wf := [(h, .inr (10, [.ref tokens_h, .ref conditions_h, .ref a_questions, .int v_asked, .ref a_letStarts, .ref a_letEnds, .ref a_letOfLetter, .int v_lets])), (conditions_h, .inr (8, [.ref conditions_a_steps, .ref conditions_a_values, .int conditions__size, .ref conditions_a_stack, .int c4_conditions_h, .ref conditions_a_holding])), (conditions_a_steps, .inl (gI G, 2000, .inl conditions_f_steps)), (conditions_a_values, .inl (gI G, 2000, .inl conditions_f_values)), (conditions_a_stack, .inl (gI G, 64, .inl g_conditions_a_stack)), (conditions_a_holding, .inl (gZ G, 10, .inl conditions_f_holding)), (a_questions, .inl (gQ G, 12, .inr (.inr (.inr (.inr (fun j => some (qa j))))))), (qa 0, .inr (9, qfs (Q 0))), (qa 1, .inr (9, qfs (Q 1))), (qa 2, .inr (9, qfs (Q 2))), (qa 3, .inr (9, qfs (Q 3))), (qa 4, .inr (9, qfs (Q 4))), (qa 5, .inr (9, qfs (Q 5))), (qa 6, .inr (9, qfs (Q 6))), (qa 7, .inr (9, qfs (Q 7))), (qa 8, .inr (9, qfs (Q 8))), (qa 9, .inr (9, qfs (Q 9))), (qa 10, .inr (9, qfs (Q 10))), (qa 11, .inr (9, qfs (Q 11))), (tb_h, .inr (1, [.ref tb_a_numbers, .int tb__rows])), (tb_a_numbers, .inl (gI G, 360, .inl tb_f_numbers)), (nua, .inl (gI G, 240, .inl g_nua))]) ⟨hx, hb, hml, hown, hts⟩ hA hK hZ hP hD hS (c_Scr_questionAt l G h tokens_h conditions_h a_questions a_letStarts a_letEnds a_letOfLetter qa v_asked v_lets i5) (cwV 1 hts g_Scr_75 rfl rfl rfl (by decide +kernel) ⟨Nat.le_of_ble_eq_true rfl, Nat.le_of_ble_eq_true rfl⟩) (ci := 10) (q0 := 0) rfl rfl rfl [0, 6] rfl (by decide) rfl rfl rfl hl.1 rfl (Nat.le_of_ble_eq_true rfl) d_Scr_enterRow_18 ⟨Nat.le_of_ble_eq_true rfl, Nat.le_of_ble_eq_true rfl⟩ (st1 := [.ref (qa (s_qj i5))]) (c1 := 0) (s1 := 0) rfl rfl rfl (fun H locs hP hD hS => ?_)
      have hP : va_P G.1 classes ([(h, .inr (10, [.ref tokens_h, .ref conditions_h, .ref a_questions, .int v_asked, .ref a_letStarts, .ref a_letEnds, .ref a_letOfLetter, .int v_lets])), (conditions_h, .inr (8, [.ref conditions_a_steps, .ref conditions_a_values, .int conditions__size, .ref conditions_a_stack, .int c4_conditions_h, .ref conditions_a_holding])), (conditions_a_steps, .inl (gI G, 2000, .inl conditions_f_steps)), (conditions_a_values, .inl (gI G, 2000, .inl conditions_f_values)), (conditions_a_stack, .inl (gI G, 64, .inl g_conditions_a_stack)), (conditions_a_holding, .inl (gZ G, 10, .inl conditions_f_holding)), (a_questions, .inl (gQ G, 12, .inr (.inr (.inr (.inr (fun j => some (qa j)))))))] ++ (qcells qa Q ++ [(tb_h, .inr (1, [.ref tb_a_numbers, .int tb__rows])), (tb_a_numbers, .inl (gI G, 360, .inl tb_f_numbers)), (nua, .inl (gI G, 240, .inl g_nua))])) H := hP
      have hD : va_D A ([(h, .inr (10, [.ref tokens_h, .ref conditions_h, .ref a_questions, .int v_asked, .ref a_letStarts, .ref a_letEnds, .ref a_letOfLetter, .int v_lets])), (conditions_h, .inr (8, [.ref conditions_a_steps, .ref conditions_a_values, .int conditions__size, .ref conditions_a_stack, .int c4_conditions_h, .ref conditions_a_holding])), (conditions_a_steps, .inl (gI G, 2000, .inl conditions_f_steps)), (conditions_a_values, .inl (gI G, 2000, .inl conditions_f_values)), (conditions_a_stack, .inl (gI G, 64, .inl g_conditions_a_stack)), (conditions_a_holding, .inl (gZ G, 10, .inl conditions_f_holding)), (a_questions, .inl (gQ G, 12, .inr (.inr (.inr (.inr (fun j => some (qa j)))))))] ++ (qcells qa Q ++ [(tb_h, .inr (1, [.ref tb_a_numbers, .int tb__rows])), (tb_a_numbers, .inl (gI G, 360, .inl tb_f_numbers)), (nua, .inl (gI G, 240, .inl g_nua))])) := hD
      have hP : va_P G.1 classes ([(h, .inr (10, [.ref tokens_h, .ref conditions_h, .ref a_questions, .int v_asked, .ref a_letStarts, .ref a_letEnds, .ref a_letOfLetter, .int v_lets])), (conditions_h, .inr (8, [.ref conditions_a_steps, .ref conditions_a_values, .int conditions__size, .ref conditions_a_stack, .int c4_conditions_h, .ref conditions_a_holding])), (conditions_a_steps, .inl (gI G, 2000, .inl conditions_f_steps)), (conditions_a_values, .inl (gI G, 2000, .inl conditions_f_values)), (conditions_a_stack, .inl (gI G, 64, .inl g_conditions_a_stack)), (conditions_a_holding, .inl (gZ G, 10, .inl conditions_f_holding)), (a_questions, .inl (gQ G, 12, .inr (.inr (.inr (.inr (fun j => some (qa j))))))), (qa (s_qj i5), .inr (9, [.int (Q (s_qj i5) 0), .int (Q (s_qj i5) 1), .int (Q (s_qj i5) 2), .int (Q (s_qj i5) 3), .int (Q (s_qj i5) 4), .int (Q (s_qj i5) 5), .int (Q (s_qj i5) 6), .int (Q (s_qj i5) 7)])), (tb_h, .inr (1, [.ref tb_a_numbers, .int tb__rows])), (tb_a_numbers, .inl (gI G, 360, .inl tb_f_numbers)), (nua, .inl (gI G, 240, .inl g_nua))] ++ (qrest qa Q (s_qj i5))) H := q_focP (X := [(h, .inr (10, [.ref tokens_h, .ref conditions_h, .ref a_questions, .int v_asked, .ref a_letStarts, .ref a_letEnds, .ref a_letOfLetter, .int v_lets])), (conditions_h, .inr (8, [.ref conditions_a_steps, .ref conditions_a_values, .int conditions__size, .ref conditions_a_stack, .int c4_conditions_h, .ref conditions_a_holding])), (conditions_a_steps, .inl (gI G, 2000, .inl conditions_f_steps)), (conditions_a_values, .inl (gI G, 2000, .inl conditions_f_values)), (conditions_a_stack, .inl (gI G, 64, .inl g_conditions_a_stack)), (conditions_a_holding, .inl (gZ G, 10, .inl conditions_f_holding)), (a_questions, .inl (gQ G, 12, .inr (.inr (.inr (.inr (fun j => some (qa j)))))))]) (Y := [(tb_h, .inr (1, [.ref tb_a_numbers, .int tb__rows])), (tb_a_numbers, .inl (gI G, 360, .inl tb_f_numbers)), (nua, .inl (gI G, 240, .inl g_nua))]) (s_qj_lt i5) hP
      have hD : va_D A ([(h, .inr (10, [.ref tokens_h, .ref conditions_h, .ref a_questions, .int v_asked, .ref a_letStarts, .ref a_letEnds, .ref a_letOfLetter, .int v_lets])), (conditions_h, .inr (8, [.ref conditions_a_steps, .ref conditions_a_values, .int conditions__size, .ref conditions_a_stack, .int c4_conditions_h, .ref conditions_a_holding])), (conditions_a_steps, .inl (gI G, 2000, .inl conditions_f_steps)), (conditions_a_values, .inl (gI G, 2000, .inl conditions_f_values)), (conditions_a_stack, .inl (gI G, 64, .inl g_conditions_a_stack)), (conditions_a_holding, .inl (gZ G, 10, .inl conditions_f_holding)), (a_questions, .inl (gQ G, 12, .inr (.inr (.inr (.inr (fun j => some (qa j))))))), (qa (s_qj i5), .inr (9, [.int (Q (s_qj i5) 0), .int (Q (s_qj i5) 1), .int (Q (s_qj i5) 2), .int (Q (s_qj i5) 3), .int (Q (s_qj i5) 4), .int (Q (s_qj i5) 5), .int (Q (s_qj i5) 6), .int (Q (s_qj i5) 7)])), (tb_h, .inr (1, [.ref tb_a_numbers, .int tb__rows])), (tb_a_numbers, .inl (gI G, 360, .inl tb_f_numbers)), (nua, .inl (gI G, 240, .inl g_nua))] ++ (qrest qa Q (s_qj i5))) := q_focD (X := [(h, .inr (10, [.ref tokens_h, .ref conditions_h, .ref a_questions, .int v_asked, .ref a_letStarts, .ref a_letEnds, .ref a_letOfLetter, .int v_lets])), (conditions_h, .inr (8, [.ref conditions_a_steps, .ref conditions_a_values, .int conditions__size, .ref conditions_a_stack, .int c4_conditions_h, .ref conditions_a_holding])), (conditions_a_steps, .inl (gI G, 2000, .inl conditions_f_steps)), (conditions_a_values, .inl (gI G, 2000, .inl conditions_f_values)), (conditions_a_stack, .inl (gI G, 64, .inl g_conditions_a_stack)), (conditions_a_holding, .inl (gZ G, 10, .inl conditions_f_holding)), (a_questions, .inl (gQ G, 12, .inr (.inr (.inr (.inr (fun j => some (qa j)))))))]) (Y := [(tb_h, .inr (1, [.ref tb_a_numbers, .int tb__rows])), (tb_a_numbers, .inl (gI G, 360, .inl tb_f_numbers)), (nua, .inl (gI G, 240, .inl g_nua))]) (s_qj_lt i5) hD
      refine lv_astore (lv' := [(6, .ref (qa (s_qj i5))), (5, .int i5), (4, .int i4), (0, .ref h), (1, .ref tb_h), (2, .int row), (3, .ref nua)]) hx hb d_Scr_enterRow_21 hl (by decide) rfl (fun ls hl => ?_)
      refine lv_aload_n hx hb d_Scr_enterRow_23 rfl (lv_at hl 3 rfl) ?_
      refine va_get (D := G.1) (ci := 10) (C := R_Scr) (T := F_Scr) (N := 8) (v := .ref conditions_h) hx hb hts i_Scr hown hK hP 0 rfl rfl 1 (by decide) (hts (.fieldLink R_Scr 21 "PrivateQueries$Script" "conditions" "LPrivateQueries$Conditions;") k_568) (fun _ h9 => h9) rfl d_Scr_enterRow_24 ?_
      refine lv_aload hx hb d_Scr_enterRow_27 (lv_at hl 0 rfl) ?_
      refine va_get (D := G.1) (ci := 9) (C := R_Qu) (T := F_Qu) (N := 8) (v := .int (Q (s_qj i5) 6)) hx hb hts i_Qu hown hK hP 7 rfl rfl 6 (by decide) (hts (.fieldLink R_Scr 108 "PrivateQueries$Question" "start" "I") k_589) (fun _ h9 => h9) rfl d_Scr_enterRow_29 ?_
      refine lv_aload hx hb d_Scr_enterRow_32 (lv_at hl 0 rfl) ?_
      refine va_get (D := G.1) (ci := 9) (C := R_Qu) (T := F_Qu) (N := 8) (v := .int (Q (s_qj i5) 7)) hx hb hts i_Qu hown hK hP 7 rfl rfl 7 (by decide) (hts (.fieldLink R_Scr 111 "PrivateQueries$Question" "end" "I") k_590) (fun _ h9 => h9) rfl d_Scr_enterRow_34 ?_
      refine lv_aload_n hx hb d_Scr_enterRow_37 rfl (lv_at hl 4 rfl) ?_
      refine lv_iload_n hx hb d_Scr_enterRow_38 rfl (lv_at hl 5 rfl) ?_
      obtain ⟨r1, hr1⟩ : ∃ r, (s_Cond_hold conditions_f_steps conditions_f_values g_conditions_a_stack c4_conditions_h conditions_f_holding tb_f_numbers (Q (s_qj i5) 6) (Q (s_qj i5) 7) row) = r := ⟨_, rfl⟩
      try simp only [hr1] at hok
      have hC_r1 := (c_Cond_hold l G conditions_h conditions_a_steps conditions_a_values conditions_a_stack conditions_a_holding tb_h tb_a_numbers conditions_f_steps conditions_f_values conditions__size g_conditions_a_stack c4_conditions_h conditions_f_holding tb_f_numbers tb__rows (Q (s_qj i5) 6) (Q (s_qj i5) 7) row)
      rw [hr1] at hC_r1
      have hf_r1_1 : isB r1.1 := by rw [← hr1]; exact z_Cond_hold
      refine ly_callV (rest := []) (wf := ([(h, .inr (10, [.ref tokens_h, .ref conditions_h, .ref a_questions, .int v_asked, .ref a_letStarts, .ref a_letEnds, .ref a_letOfLetter, .int v_lets])), (conditions_h, .inr (8, [.ref conditions_a_steps, .ref conditions_a_values, .int conditions__size, .ref conditions_a_stack, .int r1.2.1, .ref conditions_a_holding])), (conditions_a_steps, .inl (gI G, 2000, .inl conditions_f_steps)), (conditions_a_values, .inl (gI G, 2000, .inl conditions_f_values)), (conditions_a_stack, .inl (gI G, 64, .inl r1.2.2)), (conditions_a_holding, .inl (gZ G, 10, .inl conditions_f_holding)), (a_questions, .inl (gQ G, 12, .inr (.inr (.inr (.inr (fun j => some (qa j))))))), (qa (s_qj i5), .inr (9, [.int (Q (s_qj i5) 0), .int (Q (s_qj i5) 1), .int (Q (s_qj i5) 2), .int (Q (s_qj i5) 3), .int (Q (s_qj i5) 4), .int (Q (s_qj i5) 5), .int (Q (s_qj i5) 6), .int (Q (s_qj i5) 7)])), (tb_h, .inr (1, [.ref tb_a_numbers, .int tb__rows])), (tb_a_numbers, .inl (gI G, 360, .inl tb_f_numbers)), (nua, .inl (gI G, 240, .inl g_nua))] ++ (qrest qa Q (s_qj i5)))) ⟨hx, hb, hml, hown, hts⟩ hA hK hZ hP hD hS hC_r1 (cwV 4 hts g_Scr_100 rfl rfl rfl (by decide +kernel) ⟨Nat.le_of_ble_eq_true rfl, Nat.le_of_ble_eq_true rfl⟩) (ci := 8) (q0 := 1) rfl rfl rfl [1, 2, 3, 4, 5, 8, 9] rfl (by decide) rfl rfl rfl hl.1 rfl (Nat.le_of_ble_eq_true rfl) d_Scr_enterRow_39 ⟨Nat.le_of_ble_eq_true rfl, Nat.le_of_ble_eq_true rfl⟩ (st1 := [.int r1.1]) (c1 := 0) (s1 := 0) rfl rfl rfl (fun H locs hP hD hS => ?_)
      refine lv_if_eq (tgt := 63) hx hb d_Scr_enterRow_42 (by decide) (fun c2 => ?_) (fun c2 => ?_)
      · skip
        rw [if_pos c2] at hok
        refine lv_iload hx hb d_Scr_enterRow_63 (lv_at hl 2 rfl) ?_
        refine lv_aload hx hb d_Scr_enterRow_65 (lv_at hl 0 rfl) ?_
        obtain ⟨r2, hr2⟩ : ∃ r, (s_Qu_numbers (Q (s_qj i5) 0) (Q (s_qj i5) 2) (Q (s_qj i5) 3)) = r := ⟨_, rfl⟩
        try simp only [hr2] at hok
        have hC_r2 := (c_Qu_numbers l G (qa (s_qj i5)) (Q (s_qj i5) 0) (Q (s_qj i5) 1) (Q (s_qj i5) 2) (Q (s_qj i5) 3) (Q (s_qj i5) 4) (Q (s_qj i5) 5) (Q (s_qj i5) 6) (Q (s_qj i5) 7))
        rw [hr2] at hC_r2
        refine ly_callV (rest := [.int i4]) (wf := ([(h, .inr (10, [.ref tokens_h, .ref conditions_h, .ref a_questions, .int v_asked, .ref a_letStarts, .ref a_letEnds, .ref a_letOfLetter, .int v_lets])), (conditions_h, .inr (8, [.ref conditions_a_steps, .ref conditions_a_values, .int conditions__size, .ref conditions_a_stack, .int r1.2.1, .ref conditions_a_holding])), (conditions_a_steps, .inl (gI G, 2000, .inl conditions_f_steps)), (conditions_a_values, .inl (gI G, 2000, .inl conditions_f_values)), (conditions_a_stack, .inl (gI G, 64, .inl r1.2.2)), (conditions_a_holding, .inl (gZ G, 10, .inl conditions_f_holding)), (a_questions, .inl (gQ G, 12, .inr (.inr (.inr (.inr (fun j => some (qa j))))))), (qa (s_qj i5), .inr (9, [.int (Q (s_qj i5) 0), .int (Q (s_qj i5) 1), .int (Q (s_qj i5) 2), .int (Q (s_qj i5) 3), .int (Q (s_qj i5) 4), .int (Q (s_qj i5) 5), .int (Q (s_qj i5) 6), .int (Q (s_qj i5) 7)])), (tb_h, .inr (1, [.ref tb_a_numbers, .int tb__rows])), (tb_a_numbers, .inl (gI G, 360, .inl tb_f_numbers)), (nua, .inl (gI G, 240, .inl g_nua))] ++ (qrest qa Q (s_qj i5)))) ⟨hx, hb, hml, hown, hts⟩ hA hK hZ hP hD hS hC_r2 (cwV 0 hts g_Scr_97 rfl rfl rfl (by decide +kernel) ⟨Nat.le_of_ble_eq_true rfl, Nat.le_of_ble_eq_true rfl⟩) (ci := 9) (q0 := 7) rfl rfl rfl [7] rfl (by decide) rfl rfl rfl hl.1 rfl (Nat.le_of_ble_eq_true rfl) d_Scr_enterRow_67 ⟨Nat.le_of_ble_eq_true rfl, Nat.le_of_ble_eq_true rfl⟩ (st1 := [.int r2, .int i4]) (c1 := 0) (s1 := 0) rfl rfl rfl (fun H locs hP hD hS => ?_)
        refine lv_iadd hx hb d_Scr_enterRow_70 ?_
        refine lv_istore (lv' := [(4, .int (i4 + r2)), (6, .ref (qa (s_qj i5))), (5, .int i5), (0, .ref h), (1, .ref tb_h), (2, .int row), (3, .ref nua)]) hx hb d_Scr_enterRow_71 hl (by decide) rfl (fun ls hl => ?_)
        refine lv_iinc (v := i5 + 1) (lv' := [(5, .int (i5 + 1)), (4, .int (i4 + r2)), (6, .ref (qa (s_qj i5))), (0, .ref h), (1, .ref tb_h), (2, .int row), (3, .ref nua)]) hx hb d_Scr_enterRow_73 hl (k := 2) rfl (by rfl) (by decide) rfl (fun ls hl => ?_)
        refine lv_goto (tgt := 6) hx hb d_Scr_enterRow_76 (by decide) ?_
        have hP : va_P G.1 classes ([(h, .inr (10, [.ref tokens_h, .ref conditions_h, .ref a_questions, .int v_asked, .ref a_letStarts, .ref a_letEnds, .ref a_letOfLetter, .int v_lets])), (conditions_h, .inr (8, [.ref conditions_a_steps, .ref conditions_a_values, .int conditions__size, .ref conditions_a_stack, .int r1.2.1, .ref conditions_a_holding])), (conditions_a_steps, .inl (gI G, 2000, .inl conditions_f_steps)), (conditions_a_values, .inl (gI G, 2000, .inl conditions_f_values)), (conditions_a_stack, .inl (gI G, 64, .inl r1.2.2)), (conditions_a_holding, .inl (gZ G, 10, .inl conditions_f_holding)), (a_questions, .inl (gQ G, 12, .inr (.inr (.inr (.inr (fun j => some (qa j)))))))] ++ ((qa (s_qj i5), .inr (9, qfs (Q (s_qj i5)))) :: ([(tb_h, .inr (1, [.ref tb_a_numbers, .int tb__rows])), (tb_a_numbers, .inl (gI G, 360, .inl tb_f_numbers)), (nua, .inl (gI G, 240, .inl g_nua))] ++ qrest qa Q (s_qj i5)))) H := hP
        have hP : va_P G.1 classes ([(h, .inr (10, [.ref tokens_h, .ref conditions_h, .ref a_questions, .int v_asked, .ref a_letStarts, .ref a_letEnds, .ref a_letOfLetter, .int v_lets])), (conditions_h, .inr (8, [.ref conditions_a_steps, .ref conditions_a_values, .int conditions__size, .ref conditions_a_stack, .int r1.2.1, .ref conditions_a_holding])), (conditions_a_steps, .inl (gI G, 2000, .inl conditions_f_steps)), (conditions_a_values, .inl (gI G, 2000, .inl conditions_f_values)), (conditions_a_stack, .inl (gI G, 64, .inl r1.2.2)), (conditions_a_holding, .inl (gZ G, 10, .inl conditions_f_holding)), (a_questions, .inl (gQ G, 12, .inr (.inr (.inr (.inr (fun j => some (qa j)))))))] ++ (qcells qa Q ++ [(tb_h, .inr (1, [.ref tb_a_numbers, .int tb__rows])), (tb_a_numbers, .inl (gI G, 360, .inl tb_f_numbers)), (nua, .inl (gI G, 240, .inl g_nua))])) H := q_baP (X := [(h, .inr (10, [.ref tokens_h, .ref conditions_h, .ref a_questions, .int v_asked, .ref a_letStarts, .ref a_letEnds, .ref a_letOfLetter, .int v_lets])), (conditions_h, .inr (8, [.ref conditions_a_steps, .ref conditions_a_values, .int conditions__size, .ref conditions_a_stack, .int r1.2.1, .ref conditions_a_holding])), (conditions_a_steps, .inl (gI G, 2000, .inl conditions_f_steps)), (conditions_a_values, .inl (gI G, 2000, .inl conditions_f_values)), (conditions_a_stack, .inl (gI G, 64, .inl r1.2.2)), (conditions_a_holding, .inl (gZ G, 10, .inl conditions_f_holding)), (a_questions, .inl (gQ G, 12, .inr (.inr (.inr (.inr (fun j => some (qa j)))))))]) (Y := [(tb_h, .inr (1, [.ref tb_a_numbers, .int tb__rows])), (tb_a_numbers, .inl (gI G, 360, .inl tb_f_numbers)), (nua, .inl (gI G, 240, .inl g_nua))]) (s_qj_lt i5) hP
        have hP : va_P G.1 classes [(h, .inr (10, [.ref tokens_h, .ref conditions_h, .ref a_questions, .int v_asked, .ref a_letStarts, .ref a_letEnds, .ref a_letOfLetter, .int v_lets])), (conditions_h, .inr (8, [.ref conditions_a_steps, .ref conditions_a_values, .int conditions__size, .ref conditions_a_stack, .int r1.2.1, .ref conditions_a_holding])), (conditions_a_steps, .inl (gI G, 2000, .inl conditions_f_steps)), (conditions_a_values, .inl (gI G, 2000, .inl conditions_f_values)), (conditions_a_stack, .inl (gI G, 64, .inl r1.2.2)), (conditions_a_holding, .inl (gZ G, 10, .inl conditions_f_holding)), (a_questions, .inl (gQ G, 12, .inr (.inr (.inr (.inr (fun j => some (qa j))))))), (qa 0, .inr (9, qfs (Q 0))), (qa 1, .inr (9, qfs (Q 1))), (qa 2, .inr (9, qfs (Q 2))), (qa 3, .inr (9, qfs (Q 3))), (qa 4, .inr (9, qfs (Q 4))), (qa 5, .inr (9, qfs (Q 5))), (qa 6, .inr (9, qfs (Q 6))), (qa 7, .inr (9, qfs (Q 7))), (qa 8, .inr (9, qfs (Q 8))), (qa 9, .inr (9, qfs (Q 9))), (qa 10, .inr (9, qfs (Q 10))), (qa 11, .inr (9, qfs (Q 11))), (tb_h, .inr (1, [.ref tb_a_numbers, .int tb__rows])), (tb_a_numbers, .inl (gI G, 360, .inl tb_f_numbers)), (nua, .inl (gI G, 240, .inl g_nua))] H := hP
        have hD : va_D A ([(h, .inr (10, [.ref tokens_h, .ref conditions_h, .ref a_questions, .int v_asked, .ref a_letStarts, .ref a_letEnds, .ref a_letOfLetter, .int v_lets])), (conditions_h, .inr (8, [.ref conditions_a_steps, .ref conditions_a_values, .int conditions__size, .ref conditions_a_stack, .int r1.2.1, .ref conditions_a_holding])), (conditions_a_steps, .inl (gI G, 2000, .inl conditions_f_steps)), (conditions_a_values, .inl (gI G, 2000, .inl conditions_f_values)), (conditions_a_stack, .inl (gI G, 64, .inl r1.2.2)), (conditions_a_holding, .inl (gZ G, 10, .inl conditions_f_holding)), (a_questions, .inl (gQ G, 12, .inr (.inr (.inr (.inr (fun j => some (qa j)))))))] ++ ((qa (s_qj i5), .inr (9, qfs (Q (s_qj i5)))) :: ([(tb_h, .inr (1, [.ref tb_a_numbers, .int tb__rows])), (tb_a_numbers, .inl (gI G, 360, .inl tb_f_numbers)), (nua, .inl (gI G, 240, .inl g_nua))] ++ qrest qa Q (s_qj i5)))) := hD
        have hD : va_D A ([(h, .inr (10, [.ref tokens_h, .ref conditions_h, .ref a_questions, .int v_asked, .ref a_letStarts, .ref a_letEnds, .ref a_letOfLetter, .int v_lets])), (conditions_h, .inr (8, [.ref conditions_a_steps, .ref conditions_a_values, .int conditions__size, .ref conditions_a_stack, .int r1.2.1, .ref conditions_a_holding])), (conditions_a_steps, .inl (gI G, 2000, .inl conditions_f_steps)), (conditions_a_values, .inl (gI G, 2000, .inl conditions_f_values)), (conditions_a_stack, .inl (gI G, 64, .inl r1.2.2)), (conditions_a_holding, .inl (gZ G, 10, .inl conditions_f_holding)), (a_questions, .inl (gQ G, 12, .inr (.inr (.inr (.inr (fun j => some (qa j)))))))] ++ (qcells qa Q ++ [(tb_h, .inr (1, [.ref tb_a_numbers, .int tb__rows])), (tb_a_numbers, .inl (gI G, 360, .inl tb_f_numbers)), (nua, .inl (gI G, 240, .inl g_nua))])) := q_baD (X := [(h, .inr (10, [.ref tokens_h, .ref conditions_h, .ref a_questions, .int v_asked, .ref a_letStarts, .ref a_letEnds, .ref a_letOfLetter, .int v_lets])), (conditions_h, .inr (8, [.ref conditions_a_steps, .ref conditions_a_values, .int conditions__size, .ref conditions_a_stack, .int r1.2.1, .ref conditions_a_holding])), (conditions_a_steps, .inl (gI G, 2000, .inl conditions_f_steps)), (conditions_a_values, .inl (gI G, 2000, .inl conditions_f_values)), (conditions_a_stack, .inl (gI G, 64, .inl r1.2.2)), (conditions_a_holding, .inl (gZ G, 10, .inl conditions_f_holding)), (a_questions, .inl (gQ G, 12, .inr (.inr (.inr (.inr (fun j => some (qa j)))))))]) (Y := [(tb_h, .inr (1, [.ref tb_a_numbers, .int tb__rows])), (tb_a_numbers, .inl (gI G, 360, .inl tb_f_numbers)), (nua, .inl (gI G, 240, .inl g_nua))]) (s_qj_lt i5) hD
        have hD : va_D A [(h, .inr (10, [.ref tokens_h, .ref conditions_h, .ref a_questions, .int v_asked, .ref a_letStarts, .ref a_letEnds, .ref a_letOfLetter, .int v_lets])), (conditions_h, .inr (8, [.ref conditions_a_steps, .ref conditions_a_values, .int conditions__size, .ref conditions_a_stack, .int r1.2.1, .ref conditions_a_holding])), (conditions_a_steps, .inl (gI G, 2000, .inl conditions_f_steps)), (conditions_a_values, .inl (gI G, 2000, .inl conditions_f_values)), (conditions_a_stack, .inl (gI G, 64, .inl r1.2.2)), (conditions_a_holding, .inl (gZ G, 10, .inl conditions_f_holding)), (a_questions, .inl (gQ G, 12, .inr (.inr (.inr (.inr (fun j => some (qa j))))))), (qa 0, .inr (9, qfs (Q 0))), (qa 1, .inr (9, qfs (Q 1))), (qa 2, .inr (9, qfs (Q 2))), (qa 3, .inr (9, qfs (Q 3))), (qa 4, .inr (9, qfs (Q 4))), (qa 5, .inr (9, qfs (Q 5))), (qa 6, .inr (9, qfs (Q 6))), (qa 7, .inr (9, qfs (Q 7))), (qa 8, .inr (9, qfs (Q 8))), (qa 9, .inr (9, qfs (Q 9))), (qa 10, .inr (9, qfs (Q 10))), (qa 11, .inr (9, qfs (Q 11))), (tb_h, .inr (1, [.ref tb_a_numbers, .int tb__rows])), (tb_a_numbers, .inl (gI G, 360, .inl tb_f_numbers)), (nua, .inl (gI G, 240, .inl g_nua))] := hD
        have e_ : (lp_Scr_enterRow_6 conditions_f_steps conditions_f_values conditions_f_holding Q v_asked tb_f_numbers row (n + 1) i4 i5 c4_conditions_h g_conditions_a_stack g_nua) = (lp_Scr_enterRow_6 conditions_f_steps conditions_f_values conditions_f_holding Q v_asked tb_f_numbers row n (i4 + r2) (i5 + 1) r1.2.1 r1.2.2 g_nua) := (by rw [lp_Scr_enterRow_6] <;> simp only [hr1, hr2] <;> rw [if_neg c1, if_pos c2])
        rw [e_]
        exact ih (i4 + r2) (i5 + 1) r1.2.1 r1.2.2 g_nua hok _ _ _ hP hD hS (lv_sub hl [0, 1, 3, 4, 5, 6] rfl)
      rw [if_neg c2] at hok
      refine lv_aload hx hb d_Scr_enterRow_45 (lv_at hl 0 rfl) ?_
      refine lv_aload_n hx hb d_Scr_enterRow_47 rfl (lv_at hl 4 rfl) ?_
      refine lv_iload_n hx hb d_Scr_enterRow_48 rfl (lv_at hl 5 rfl) ?_
      refine lv_aload hx hb d_Scr_enterRow_49 (lv_at hl 0 rfl) ?_
      refine va_get (D := G.1) (ci := 9) (C := R_Qu) (T := F_Qu) (N := 8) (v := .int (Q (s_qj i5) 1)) hx hb hts i_Qu hown hK hP 7 rfl rfl 1 (by decide) (hts (.fieldLink R_Scr 114 "PrivateQueries$Question" "column" "I") k_592) (fun _ h9 => h9) rfl d_Scr_enterRow_51 ?_
      obtain ⟨r3, hr3⟩ : ∃ r, (s_Tab_at tb_f_numbers row (Q (s_qj i5) 1)) = r := ⟨_, rfl⟩
      try simp only [hr3] at hok
      have hC_r3 := (c_Tab_at l G tb_h tb_a_numbers tb_f_numbers tb__rows row (Q (s_qj i5) 1))
      rw [hr3] at hC_r3
      refine ly_callV (rest := [.ref (qa (s_qj i5))]) (wf := ([(h, .inr (10, [.ref tokens_h, .ref conditions_h, .ref a_questions, .int v_asked, .ref a_letStarts, .ref a_letEnds, .ref a_letOfLetter, .int v_lets])), (conditions_h, .inr (8, [.ref conditions_a_steps, .ref conditions_a_values, .int conditions__size, .ref conditions_a_stack, .int r1.2.1, .ref conditions_a_holding])), (conditions_a_steps, .inl (gI G, 2000, .inl conditions_f_steps)), (conditions_a_values, .inl (gI G, 2000, .inl conditions_f_values)), (conditions_a_stack, .inl (gI G, 64, .inl r1.2.2)), (conditions_a_holding, .inl (gZ G, 10, .inl conditions_f_holding)), (a_questions, .inl (gQ G, 12, .inr (.inr (.inr (.inr (fun j => some (qa j))))))), (qa (s_qj i5), .inr (9, [.int (Q (s_qj i5) 0), .int (Q (s_qj i5) 1), .int (Q (s_qj i5) 2), .int (Q (s_qj i5) 3), .int (Q (s_qj i5) 4), .int (Q (s_qj i5) 5), .int (Q (s_qj i5) 6), .int (Q (s_qj i5) 7)])), (tb_h, .inr (1, [.ref tb_a_numbers, .int tb__rows])), (tb_a_numbers, .inl (gI G, 360, .inl tb_f_numbers)), (nua, .inl (gI G, 240, .inl g_nua))] ++ (qrest qa Q (s_qj i5)))) ⟨hx, hb, hml, hown, hts⟩ hA hK hZ hP hD hS hC_r3 (cwV 2 hts g_Scr_117 rfl rfl rfl (by decide +kernel) ⟨Nat.le_of_ble_eq_true rfl, Nat.le_of_ble_eq_true rfl⟩) (ci := 1) (q0 := 8) rfl rfl rfl [8, 9] rfl (by decide) rfl rfl rfl hl.1 rfl (Nat.le_of_ble_eq_true rfl) d_Scr_enterRow_54 ⟨Nat.le_of_ble_eq_true rfl, Nat.le_of_ble_eq_true rfl⟩ (st1 := [.int r3, .ref (qa (s_qj i5))]) (c1 := 0) (s1 := 0) rfl rfl rfl (fun H locs hP hD hS => ?_)
      refine lv_aload_n hx hb d_Scr_enterRow_57 rfl (lv_at hl 6 rfl) ?_
      refine lv_iload hx hb d_Scr_enterRow_58 (lv_at hl 2 rfl) ?_
      obtain ⟨r4, hr4⟩ : ∃ r, (s_Qu_enter (Q (s_qj i5) 0) (Q (s_qj i5) 2) (Q (s_qj i5) 3) g_nua r3 i4) = r := ⟨_, rfl⟩
      try simp only [hr4] at hok
      have hC_r4 := (c_Qu_enter l G (qa (s_qj i5)) nua (Q (s_qj i5) 0) (Q (s_qj i5) 1) (Q (s_qj i5) 2) (Q (s_qj i5) 3) (Q (s_qj i5) 4) (Q (s_qj i5) 5) (Q (s_qj i5) 6) (Q (s_qj i5) 7) g_nua r3 i4)
      rw [hr4] at hC_r4
      refine ly_callV (rest := []) (wf := ([(h, .inr (10, [.ref tokens_h, .ref conditions_h, .ref a_questions, .int v_asked, .ref a_letStarts, .ref a_letEnds, .ref a_letOfLetter, .int v_lets])), (conditions_h, .inr (8, [.ref conditions_a_steps, .ref conditions_a_values, .int conditions__size, .ref conditions_a_stack, .int r1.2.1, .ref conditions_a_holding])), (conditions_a_steps, .inl (gI G, 2000, .inl conditions_f_steps)), (conditions_a_values, .inl (gI G, 2000, .inl conditions_f_values)), (conditions_a_stack, .inl (gI G, 64, .inl r1.2.2)), (conditions_a_holding, .inl (gZ G, 10, .inl conditions_f_holding)), (a_questions, .inl (gQ G, 12, .inr (.inr (.inr (.inr (fun j => some (qa j))))))), (qa (s_qj i5), .inr (9, [.int (Q (s_qj i5) 0), .int (Q (s_qj i5) 1), .int (Q (s_qj i5) 2), .int (Q (s_qj i5) 3), .int (Q (s_qj i5) 4), .int (Q (s_qj i5) 5), .int (Q (s_qj i5) 6), .int (Q (s_qj i5) 7)])), (tb_h, .inr (1, [.ref tb_a_numbers, .int tb__rows])), (tb_a_numbers, .inl (gI G, 360, .inl tb_f_numbers)), (nua, .inl (gI G, 240, .inl r4))] ++ (qrest qa Q (s_qj i5)))) ⟨hx, hb, hml, hown, hts⟩ hA hK hZ hP hD hS hC_r4 (cwV 3 hts g_Scr_120 rfl rfl rfl (by decide +kernel) ⟨Nat.le_of_ble_eq_true rfl, Nat.le_of_ble_eq_true rfl⟩) (ci := 9) (q0 := 7) rfl rfl rfl [7, 10] rfl (by decide) rfl rfl rfl hl.1 rfl (Nat.le_of_ble_eq_true rfl) d_Scr_enterRow_60 ⟨Nat.le_of_ble_eq_true rfl, Nat.le_of_ble_eq_true rfl⟩ (st1 := []) (c1 := 0) (s1 := 0) rfl rfl rfl (fun H locs hP hD hS => ?_)
      refine lv_iload hx hb d_Scr_enterRow_63 (lv_at hl 2 rfl) ?_
      refine lv_aload hx hb d_Scr_enterRow_65 (lv_at hl 0 rfl) ?_
      obtain ⟨r5, hr5⟩ : ∃ r, (s_Qu_numbers (Q (s_qj i5) 0) (Q (s_qj i5) 2) (Q (s_qj i5) 3)) = r := ⟨_, rfl⟩
      try simp only [hr5] at hok
      have hC_r5 := (c_Qu_numbers l G (qa (s_qj i5)) (Q (s_qj i5) 0) (Q (s_qj i5) 1) (Q (s_qj i5) 2) (Q (s_qj i5) 3) (Q (s_qj i5) 4) (Q (s_qj i5) 5) (Q (s_qj i5) 6) (Q (s_qj i5) 7))
      rw [hr5] at hC_r5
      refine ly_callV (rest := [.int i4]) (wf := ([(h, .inr (10, [.ref tokens_h, .ref conditions_h, .ref a_questions, .int v_asked, .ref a_letStarts, .ref a_letEnds, .ref a_letOfLetter, .int v_lets])), (conditions_h, .inr (8, [.ref conditions_a_steps, .ref conditions_a_values, .int conditions__size, .ref conditions_a_stack, .int r1.2.1, .ref conditions_a_holding])), (conditions_a_steps, .inl (gI G, 2000, .inl conditions_f_steps)), (conditions_a_values, .inl (gI G, 2000, .inl conditions_f_values)), (conditions_a_stack, .inl (gI G, 64, .inl r1.2.2)), (conditions_a_holding, .inl (gZ G, 10, .inl conditions_f_holding)), (a_questions, .inl (gQ G, 12, .inr (.inr (.inr (.inr (fun j => some (qa j))))))), (qa (s_qj i5), .inr (9, [.int (Q (s_qj i5) 0), .int (Q (s_qj i5) 1), .int (Q (s_qj i5) 2), .int (Q (s_qj i5) 3), .int (Q (s_qj i5) 4), .int (Q (s_qj i5) 5), .int (Q (s_qj i5) 6), .int (Q (s_qj i5) 7)])), (tb_h, .inr (1, [.ref tb_a_numbers, .int tb__rows])), (tb_a_numbers, .inl (gI G, 360, .inl tb_f_numbers)), (nua, .inl (gI G, 240, .inl r4))] ++ (qrest qa Q (s_qj i5)))) ⟨hx, hb, hml, hown, hts⟩ hA hK hZ hP hD hS hC_r5 (cwV 0 hts g_Scr_97 rfl rfl rfl (by decide +kernel) ⟨Nat.le_of_ble_eq_true rfl, Nat.le_of_ble_eq_true rfl⟩) (ci := 9) (q0 := 7) rfl rfl rfl [7] rfl (by decide) rfl rfl rfl hl.1 rfl (Nat.le_of_ble_eq_true rfl) d_Scr_enterRow_67 ⟨Nat.le_of_ble_eq_true rfl, Nat.le_of_ble_eq_true rfl⟩ (st1 := [.int r5, .int i4]) (c1 := 0) (s1 := 0) rfl rfl rfl (fun H locs hP hD hS => ?_)
      refine lv_iadd hx hb d_Scr_enterRow_70 ?_
      refine lv_istore (lv' := [(4, .int (i4 + r5)), (6, .ref (qa (s_qj i5))), (5, .int i5), (0, .ref h), (1, .ref tb_h), (2, .int row), (3, .ref nua)]) hx hb d_Scr_enterRow_71 hl (by decide) rfl (fun ls hl => ?_)
      refine lv_iinc (v := i5 + 1) (lv' := [(5, .int (i5 + 1)), (4, .int (i4 + r5)), (6, .ref (qa (s_qj i5))), (0, .ref h), (1, .ref tb_h), (2, .int row), (3, .ref nua)]) hx hb d_Scr_enterRow_73 hl (k := 2) rfl (by rfl) (by decide) rfl (fun ls hl => ?_)
      refine lv_goto (tgt := 6) hx hb d_Scr_enterRow_76 (by decide) ?_
      have hP : va_P G.1 classes ([(h, .inr (10, [.ref tokens_h, .ref conditions_h, .ref a_questions, .int v_asked, .ref a_letStarts, .ref a_letEnds, .ref a_letOfLetter, .int v_lets])), (conditions_h, .inr (8, [.ref conditions_a_steps, .ref conditions_a_values, .int conditions__size, .ref conditions_a_stack, .int r1.2.1, .ref conditions_a_holding])), (conditions_a_steps, .inl (gI G, 2000, .inl conditions_f_steps)), (conditions_a_values, .inl (gI G, 2000, .inl conditions_f_values)), (conditions_a_stack, .inl (gI G, 64, .inl r1.2.2)), (conditions_a_holding, .inl (gZ G, 10, .inl conditions_f_holding)), (a_questions, .inl (gQ G, 12, .inr (.inr (.inr (.inr (fun j => some (qa j)))))))] ++ ((qa (s_qj i5), .inr (9, qfs (Q (s_qj i5)))) :: ([(tb_h, .inr (1, [.ref tb_a_numbers, .int tb__rows])), (tb_a_numbers, .inl (gI G, 360, .inl tb_f_numbers)), (nua, .inl (gI G, 240, .inl r4))] ++ qrest qa Q (s_qj i5)))) H := hP
      have hP : va_P G.1 classes ([(h, .inr (10, [.ref tokens_h, .ref conditions_h, .ref a_questions, .int v_asked, .ref a_letStarts, .ref a_letEnds, .ref a_letOfLetter, .int v_lets])), (conditions_h, .inr (8, [.ref conditions_a_steps, .ref conditions_a_values, .int conditions__size, .ref conditions_a_stack, .int r1.2.1, .ref conditions_a_holding])), (conditions_a_steps, .inl (gI G, 2000, .inl conditions_f_steps)), (conditions_a_values, .inl (gI G, 2000, .inl conditions_f_values)), (conditions_a_stack, .inl (gI G, 64, .inl r1.2.2)), (conditions_a_holding, .inl (gZ G, 10, .inl conditions_f_holding)), (a_questions, .inl (gQ G, 12, .inr (.inr (.inr (.inr (fun j => some (qa j)))))))] ++ (qcells qa Q ++ [(tb_h, .inr (1, [.ref tb_a_numbers, .int tb__rows])), (tb_a_numbers, .inl (gI G, 360, .inl tb_f_numbers)), (nua, .inl (gI G, 240, .inl r4))])) H := q_baP (X := [(h, .inr (10, [.ref tokens_h, .ref conditions_h, .ref a_questions, .int v_asked, .ref a_letStarts, .ref a_letEnds, .ref a_letOfLetter, .int v_lets])), (conditions_h, .inr (8, [.ref conditions_a_steps, .ref conditions_a_values, .int conditions__size, .ref conditions_a_stack, .int r1.2.1, .ref conditions_a_holding])), (conditions_a_steps, .inl (gI G, 2000, .inl conditions_f_steps)), (conditions_a_values, .inl (gI G, 2000, .inl conditions_f_values)), (conditions_a_stack, .inl (gI G, 64, .inl r1.2.2)), (conditions_a_holding, .inl (gZ G, 10, .inl conditions_f_holding)), (a_questions, .inl (gQ G, 12, .inr (.inr (.inr (.inr (fun j => some (qa j)))))))]) (Y := [(tb_h, .inr (1, [.ref tb_a_numbers, .int tb__rows])), (tb_a_numbers, .inl (gI G, 360, .inl tb_f_numbers)), (nua, .inl (gI G, 240, .inl r4))]) (s_qj_lt i5) hP
      have hP : va_P G.1 classes [(h, .inr (10, [.ref tokens_h, .ref conditions_h, .ref a_questions, .int v_asked, .ref a_letStarts, .ref a_letEnds, .ref a_letOfLetter, .int v_lets])), (conditions_h, .inr (8, [.ref conditions_a_steps, .ref conditions_a_values, .int conditions__size, .ref conditions_a_stack, .int r1.2.1, .ref conditions_a_holding])), (conditions_a_steps, .inl (gI G, 2000, .inl conditions_f_steps)), (conditions_a_values, .inl (gI G, 2000, .inl conditions_f_values)), (conditions_a_stack, .inl (gI G, 64, .inl r1.2.2)), (conditions_a_holding, .inl (gZ G, 10, .inl conditions_f_holding)), (a_questions, .inl (gQ G, 12, .inr (.inr (.inr (.inr (fun j => some (qa j))))))), (qa 0, .inr (9, qfs (Q 0))), (qa 1, .inr (9, qfs (Q 1))), (qa 2, .inr (9, qfs (Q 2))), (qa 3, .inr (9, qfs (Q 3))), (qa 4, .inr (9, qfs (Q 4))), (qa 5, .inr (9, qfs (Q 5))), (qa 6, .inr (9, qfs (Q 6))), (qa 7, .inr (9, qfs (Q 7))), (qa 8, .inr (9, qfs (Q 8))), (qa 9, .inr (9, qfs (Q 9))), (qa 10, .inr (9, qfs (Q 10))), (qa 11, .inr (9, qfs (Q 11))), (tb_h, .inr (1, [.ref tb_a_numbers, .int tb__rows])), (tb_a_numbers, .inl (gI G, 360, .inl tb_f_numbers)), (nua, .inl (gI G, 240, .inl r4))] H := hP
      have hD : va_D A ([(h, .inr (10, [.ref tokens_h, .ref conditions_h, .ref a_questions, .int v_asked, .ref a_letStarts, .ref a_letEnds, .ref a_letOfLetter, .int v_lets])), (conditions_h, .inr (8, [.ref conditions_a_steps, .ref conditions_a_values, .int conditions__size, .ref conditions_a_stack, .int r1.2.1, .ref conditions_a_holding])), (conditions_a_steps, .inl (gI G, 2000, .inl conditions_f_steps)), (conditions_a_values, .inl (gI G, 2000, .inl conditions_f_values)), (conditions_a_stack, .inl (gI G, 64, .inl r1.2.2)), (conditions_a_holding, .inl (gZ G, 10, .inl conditions_f_holding)), (a_questions, .inl (gQ G, 12, .inr (.inr (.inr (.inr (fun j => some (qa j)))))))] ++ ((qa (s_qj i5), .inr (9, qfs (Q (s_qj i5)))) :: ([(tb_h, .inr (1, [.ref tb_a_numbers, .int tb__rows])), (tb_a_numbers, .inl (gI G, 360, .inl tb_f_numbers)), (nua, .inl (gI G, 240, .inl r4))] ++ qrest qa Q (s_qj i5)))) := hD
      have hD : va_D A ([(h, .inr (10, [.ref tokens_h, .ref conditions_h, .ref a_questions, .int v_asked, .ref a_letStarts, .ref a_letEnds, .ref a_letOfLetter, .int v_lets])), (conditions_h, .inr (8, [.ref conditions_a_steps, .ref conditions_a_values, .int conditions__size, .ref conditions_a_stack, .int r1.2.1, .ref conditions_a_holding])), (conditions_a_steps, .inl (gI G, 2000, .inl conditions_f_steps)), (conditions_a_values, .inl (gI G, 2000, .inl conditions_f_values)), (conditions_a_stack, .inl (gI G, 64, .inl r1.2.2)), (conditions_a_holding, .inl (gZ G, 10, .inl conditions_f_holding)), (a_questions, .inl (gQ G, 12, .inr (.inr (.inr (.inr (fun j => some (qa j)))))))] ++ (qcells qa Q ++ [(tb_h, .inr (1, [.ref tb_a_numbers, .int tb__rows])), (tb_a_numbers, .inl (gI G, 360, .inl tb_f_numbers)), (nua, .inl (gI G, 240, .inl r4))])) := q_baD (X := [(h, .inr (10, [.ref tokens_h, .ref conditions_h, .ref a_questions, .int v_asked, .ref a_letStarts, .ref a_letEnds, .ref a_letOfLetter, .int v_lets])), (conditions_h, .inr (8, [.ref conditions_a_steps, .ref conditions_a_values, .int conditions__size, .ref conditions_a_stack, .int r1.2.1, .ref conditions_a_holding])), (conditions_a_steps, .inl (gI G, 2000, .inl conditions_f_steps)), (conditions_a_values, .inl (gI G, 2000, .inl conditions_f_values)), (conditions_a_stack, .inl (gI G, 64, .inl r1.2.2)), (conditions_a_holding, .inl (gZ G, 10, .inl conditions_f_holding)), (a_questions, .inl (gQ G, 12, .inr (.inr (.inr (.inr (fun j => some (qa j)))))))]) (Y := [(tb_h, .inr (1, [.ref tb_a_numbers, .int tb__rows])), (tb_a_numbers, .inl (gI G, 360, .inl tb_f_numbers)), (nua, .inl (gI G, 240, .inl r4))]) (s_qj_lt i5) hD
      have hD : va_D A [(h, .inr (10, [.ref tokens_h, .ref conditions_h, .ref a_questions, .int v_asked, .ref a_letStarts, .ref a_letEnds, .ref a_letOfLetter, .int v_lets])), (conditions_h, .inr (8, [.ref conditions_a_steps, .ref conditions_a_values, .int conditions__size, .ref conditions_a_stack, .int r1.2.1, .ref conditions_a_holding])), (conditions_a_steps, .inl (gI G, 2000, .inl conditions_f_steps)), (conditions_a_values, .inl (gI G, 2000, .inl conditions_f_values)), (conditions_a_stack, .inl (gI G, 64, .inl r1.2.2)), (conditions_a_holding, .inl (gZ G, 10, .inl conditions_f_holding)), (a_questions, .inl (gQ G, 12, .inr (.inr (.inr (.inr (fun j => some (qa j))))))), (qa 0, .inr (9, qfs (Q 0))), (qa 1, .inr (9, qfs (Q 1))), (qa 2, .inr (9, qfs (Q 2))), (qa 3, .inr (9, qfs (Q 3))), (qa 4, .inr (9, qfs (Q 4))), (qa 5, .inr (9, qfs (Q 5))), (qa 6, .inr (9, qfs (Q 6))), (qa 7, .inr (9, qfs (Q 7))), (qa 8, .inr (9, qfs (Q 8))), (qa 9, .inr (9, qfs (Q 9))), (qa 10, .inr (9, qfs (Q 10))), (qa 11, .inr (9, qfs (Q 11))), (tb_h, .inr (1, [.ref tb_a_numbers, .int tb__rows])), (tb_a_numbers, .inl (gI G, 360, .inl tb_f_numbers)), (nua, .inl (gI G, 240, .inl r4))] := hD
      have e_ : (lp_Scr_enterRow_6 conditions_f_steps conditions_f_values conditions_f_holding Q v_asked tb_f_numbers row (n + 1) i4 i5 c4_conditions_h g_conditions_a_stack g_nua) = (lp_Scr_enterRow_6 conditions_f_steps conditions_f_values conditions_f_holding Q v_asked tb_f_numbers row n (i4 + r5) (i5 + 1) r1.2.1 r1.2.2 r4) := (by rw [lp_Scr_enterRow_6] <;> simp only [hr1, hr3, hr4, hr5] <;> rw [if_neg c1, if_neg c2])
      rw [e_]
      exact ih (i4 + r5) (i5 + 1) r1.2.1 r1.2.2 r4 hok _ _ _ hP hD hS (lv_sub hl [0, 1, 3, 4, 5, 6] rfl)
  have hl : lv_has ls 7 [(0, .ref h), (1, .ref tb_h), (2, .int row), (3, .ref nua)] := hl
  rw [ok_Scr_enterRow] at hok
  refine lv_iconst (v := 0) hx hb d_Scr_enterRow_0 (by decide) ?_
  refine lv_istore (lv' := [(4, .int 0), (0, .ref h), (1, .ref tb_h), (2, .int row), (3, .ref nua)]) hx hb d_Scr_enterRow_1 hl (by decide) rfl (fun ls hl => ?_)
  refine lv_iconst (v := 0) hx hb d_Scr_enterRow_3 (by decide) ?_
  refine lv_istore (lv' := [(5, .int 0), (4, .int 0), (0, .ref h), (1, .ref tb_h), (2, .int row), (3, .ref nua)]) hx hb d_Scr_enterRow_4 hl (by decide) rfl (fun ls hl => ?_)
  exact loop_6 13 (0 : Int32) (0 : Int32) conditions__height conditions_f_stack nuf hok _ _ _ hP hD hS (lv_sub hl [0, 1, 2, 3, 4, 5] rfl)
