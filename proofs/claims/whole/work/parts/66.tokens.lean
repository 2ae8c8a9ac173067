theorem d_Tok_cutNumber_0 : decode b_Tok_cutNumber 0 = .ok (.lconst 0, 1) := by decide +kernel
theorem d_Tok_cutNumber_1 : decode b_Tok_cutNumber 1 = .ok (.lstore_n 3, 1) := by decide +kernel
theorem d_Tok_cutNumber_2 : decode b_Tok_cutNumber 2 = .ok (.iconst 0, 1) := by decide +kernel
theorem d_Tok_cutNumber_3 : decode b_Tok_cutNumber 3 = .ok (.istore 5, 2) := by decide +kernel
theorem d_Tok_cutNumber_5 : decode b_Tok_cutNumber 5 = .ok (.iload 5, 2) := by decide +kernel
theorem d_Tok_cutNumber_7 : decode b_Tok_cutNumber 7 = .ok (.sipush 2000, 3) := by decide +kernel
theorem d_Tok_cutNumber_10 : decode b_Tok_cutNumber 10 = .ok (.if_icmp .ge 50, 3) := by decide +kernel
theorem d_Tok_cutNumber_13 : decode b_Tok_cutNumber 13 = .ok (.aload_n 1, 1) := by decide +kernel
theorem d_Tok_cutNumber_14 : decode b_Tok_cutNumber 14 = .ok (.iload_n 2, 1) := by decide +kernel
theorem d_Tok_cutNumber_15 : decode b_Tok_cutNumber 15 = .ok (.iload 5, 2) := by decide +kernel
theorem d_Tok_cutNumber_17 : decode b_Tok_cutNumber 17 = .ok (.iadd, 1) := by decide +kernel
theorem d_Tok_cutNumber_18 : decode b_Tok_cutNumber 18 = .ok (.invokevirtual 47, 3) := by decide +kernel
theorem d_Tok_cutNumber_21 : decode b_Tok_cutNumber 21 = .ok (.ifCond .eq 39, 3) := by decide +kernel
theorem d_Tok_cutNumber_24 : decode b_Tok_cutNumber 24 = .ok (.lload_n 3, 1) := by decide +kernel
theorem d_Tok_cutNumber_25 : decode b_Tok_cutNumber 25 = .ok (.ldc2_w 71, 3) := by decide +kernel
theorem d_Tok_cutNumber_28 : decode b_Tok_cutNumber 28 = .ok (.lmul, 1) := by decide +kernel
theorem d_Tok_cutNumber_29 : decode b_Tok_cutNumber 29 = .ok (.aload_n 1, 1) := by decide +kernel
theorem d_Tok_cutNumber_30 : decode b_Tok_cutNumber 30 = .ok (.iload_n 2, 1) := by decide +kernel
theorem d_Tok_cutNumber_31 : decode b_Tok_cutNumber 31 = .ok (.iload 5, 2) := by decide +kernel
theorem d_Tok_cutNumber_33 : decode b_Tok_cutNumber 33 = .ok (.iadd, 1) := by decide +kernel
theorem d_Tok_cutNumber_34 : decode b_Tok_cutNumber 34 = .ok (.invokevirtual 28, 3) := by decide +kernel
theorem d_Tok_cutNumber_37 : decode b_Tok_cutNumber 37 = .ok (.i2l, 1) := by decide +kernel
theorem d_Tok_cutNumber_38 : decode b_Tok_cutNumber 38 = .ok (.ladd, 1) := by decide +kernel
theorem d_Tok_cutNumber_39 : decode b_Tok_cutNumber 39 = .ok (.ldc2_w 73, 3) := by decide +kernel
theorem d_Tok_cutNumber_42 : decode b_Tok_cutNumber 42 = .ok (.lsub, 1) := by decide +kernel
theorem d_Tok_cutNumber_43 : decode b_Tok_cutNumber 43 = .ok (.lstore_n 3, 1) := by decide +kernel
theorem d_Tok_cutNumber_44 : decode b_Tok_cutNumber 44 = .ok (.lload_n 3, 1) := by decide +kernel
theorem d_Tok_cutNumber_45 : decode b_Tok_cutNumber 45 = .ok (.ldc2_w 75, 3) := by decide +kernel
theorem d_Tok_cutNumber_48 : decode b_Tok_cutNumber 48 = .ok (.lcmp, 1) := by decide +kernel
theorem d_Tok_cutNumber_49 : decode b_Tok_cutNumber 49 = .ok (.ifCond .le 5, 3) := by decide +kernel
theorem d_Tok_cutNumber_52 : decode b_Tok_cutNumber 52 = .ok (.iconst 0, 1) := by decide +kernel
theorem d_Tok_cutNumber_53 : decode b_Tok_cutNumber 53 = .ok (.ireturn, 1) := by decide +kernel
theorem d_Tok_cutNumber_54 : decode b_Tok_cutNumber 54 = .ok (.iinc 5 1, 3) := by decide +kernel
theorem d_Tok_cutNumber_57 : decode b_Tok_cutNumber 57 = .ok (.goto (-52), 3) := by decide +kernel
theorem d_Tok_cutNumber_60 : decode b_Tok_cutNumber 60 = .ok (.aload_n 0, 1) := by decide +kernel
theorem d_Tok_cutNumber_61 : decode b_Tok_cutNumber 61 = .ok (.iconst 2, 1) := by decide +kernel
theorem d_Tok_cutNumber_62 : decode b_Tok_cutNumber 62 = .ok (.lload_n 3, 1) := by decide +kernel
theorem d_Tok_cutNumber_63 : decode b_Tok_cutNumber 63 = .ok (.l2i, 1) := by decide +kernel
theorem d_Tok_cutNumber_64 : decode b_Tok_cutNumber 64 = .ok (.iload_n 2, 1) := by decide +kernel
theorem d_Tok_cutNumber_65 : decode b_Tok_cutNumber 65 = .ok (.invokevirtual 36, 3) := by decide +kernel
theorem d_Tok_cutNumber_68 : decode b_Tok_cutNumber 68 = .ok (.iload 5, 2) := by decide +kernel
theorem d_Tok_cutNumber_70 : decode b_Tok_cutNumber 70 = .ok (.ireturn, 1) := by decide +kernel
theorem d_Tok_cutWord_0 : decode b_Tok_cutWord 0 = .ok (.iconst 1, 1) := by decide +kernel
theorem d_Tok_cutWord_1 : decode b_Tok_cutWord 1 = .ok (.istore_n 3, 1) := by decide +kernel
theorem d_Tok_cutWord_2 : decode b_Tok_cutWord 2 = .ok (.iload_n 3, 1) := by decide +kernel
theorem d_Tok_cutWord_3 : decode b_Tok_cutWord 3 = .ok (.sipush 2000, 3) := by decide +kernel
theorem d_Tok_cutWord_6 : decode b_Tok_cutWord 6 = .ok (.if_icmp .ge 19, 3) := by decide +kernel
theorem d_Tok_cutWord_9 : decode b_Tok_cutWord 9 = .ok (.aload_n 1, 1) := by decide +kernel
theorem d_Tok_cutWord_10 : decode b_Tok_cutWord 10 = .ok (.iload_n 2, 1) := by decide +kernel
theorem d_Tok_cutWord_11 : decode b_Tok_cutWord 11 = .ok (.iload_n 3, 1) := by decide +kernel
theorem d_Tok_cutWord_12 : decode b_Tok_cutWord 12 = .ok (.iadd, 1) := by decide +kernel
theorem d_Tok_cutWord_13 : decode b_Tok_cutWord 13 = .ok (.invokevirtual 40, 3) := by decide +kernel
theorem d_Tok_cutWord_16 : decode b_Tok_cutWord 16 = .ok (.ifCond .eq 9, 3) := by decide +kernel
theorem d_Tok_cutWord_19 : decode b_Tok_cutWord 19 = .ok (.iinc 3 1, 3) := by decide +kernel
theorem d_Tok_cutWord_22 : decode b_Tok_cutWord 22 = .ok (.goto (-20), 3) := by decide +kernel
theorem d_Tok_cutWord_25 : decode b_Tok_cutWord 25 = .ok (.iload_n 3, 1) := by decide +kernel
theorem d_Tok_cutWord_26 : decode b_Tok_cutWord 26 = .ok (.iconst 1, 1) := by decide +kernel
theorem d_Tok_cutWord_27 : decode b_Tok_cutWord 27 = .ok (.if_icmp .ne 34, 3) := by decide +kernel
theorem d_Tok_cutWord_30 : decode b_Tok_cutWord 30 = .ok (.aload_n 1, 1) := by decide +kernel
theorem d_Tok_cutWord_31 : decode b_Tok_cutWord 31 = .ok (.iload_n 2, 1) := by decide +kernel
theorem d_Tok_cutWord_32 : decode b_Tok_cutWord 32 = .ok (.invokevirtual 28, 3) := by decide +kernel
theorem d_Tok_cutWord_35 : decode b_Tok_cutWord 35 = .ok (.bipush 97, 2) := by decide +kernel
theorem d_Tok_cutWord_37 : decode b_Tok_cutWord 37 = .ok (.isub, 1) := by decide +kernel
theorem d_Tok_cutWord_38 : decode b_Tok_cutWord 38 = .ok (.istore 4, 2) := by decide +kernel
theorem d_Tok_cutWord_40 : decode b_Tok_cutWord 40 = .ok (.aload_n 0, 1) := by decide +kernel
theorem d_Tok_cutWord_41 : decode b_Tok_cutWord 41 = .ok (.iload 4, 2) := by decide +kernel
theorem d_Tok_cutWord_43 : decode b_Tok_cutWord 43 = .ok (.bipush 6, 2) := by decide +kernel
theorem d_Tok_cutWord_45 : decode b_Tok_cutWord 45 = .ok (.if_icmp .ge 7, 3) := by decide +kernel
theorem d_Tok_cutWord_48 : decode b_Tok_cutWord 48 = .ok (.iconst 3, 1) := by decide +kernel
theorem d_Tok_cutWord_49 : decode b_Tok_cutWord 49 = .ok (.goto 4, 3) := by decide +kernel
theorem d_Tok_cutWord_52 : decode b_Tok_cutWord 52 = .ok (.iconst 4, 1) := by decide +kernel
theorem d_Tok_cutWord_53 : decode b_Tok_cutWord 53 = .ok (.iload 4, 2) := by decide +kernel
theorem d_Tok_cutWord_55 : decode b_Tok_cutWord 55 = .ok (.iload_n 2, 1) := by decide +kernel
theorem d_Tok_cutWord_56 : decode b_Tok_cutWord 56 = .ok (.invokevirtual 36, 3) := by decide +kernel
theorem d_Tok_cutWord_59 : decode b_Tok_cutWord 59 = .ok (.iconst 1, 1) := by decide +kernel
theorem d_Tok_cutWord_60 : decode b_Tok_cutWord 60 = .ok (.ireturn, 1) := by decide +kernel
theorem d_Tok_cutWord_61 : decode b_Tok_cutWord 61 = .ok (.iconst 5, 1) := by decide +kernel
theorem d_Tok_cutWord_62 : decode b_Tok_cutWord 62 = .ok (.istore 4, 2) := by decide +kernel
theorem d_Tok_cutWord_64 : decode b_Tok_cutWord 64 = .ok (.iload 4, 2) := by decide +kernel
theorem d_Tok_cutWord_66 : decode b_Tok_cutWord 66 = .ok (.bipush 16, 2) := by decide +kernel
theorem d_Tok_cutWord_68 : decode b_Tok_cutWord 68 = .ok (.if_icmp .gt 45, 3) := by decide +kernel
theorem d_Tok_cutWord_71 : decode b_Tok_cutWord 71 = .ok (.iload 4, 2) := by decide +kernel
theorem d_Tok_cutWord_73 : decode b_Tok_cutWord 73 = .ok (.invokestatic 58, 3) := by decide +kernel
theorem d_Tok_cutWord_76 : decode b_Tok_cutWord 76 = .ok (.astore 5, 2) := by decide +kernel
theorem d_Tok_cutWord_78 : decode b_Tok_cutWord 78 = .ok (.aload 5, 2) := by decide +kernel
theorem d_Tok_cutWord_80 : decode b_Tok_cutWord 80 = .ok (.invokevirtual 62, 3) := by decide +kernel
theorem d_Tok_cutWord_83 : decode b_Tok_cutWord 83 = .ok (.iload_n 3, 1) := by decide +kernel
theorem d_Tok_cutWord_84 : decode b_Tok_cutWord 84 = .ok (.if_icmp .ne 23, 3) := by decide +kernel
theorem d_Tok_cutWord_87 : decode b_Tok_cutWord 87 = .ok (.aload_n 1, 1) := by decide +kernel
theorem d_Tok_cutWord_88 : decode b_Tok_cutWord 88 = .ok (.aload 5, 2) := by decide +kernel
theorem d_Tok_cutWord_90 : decode b_Tok_cutWord 90 = .ok (.iload_n 2, 1) := by decide +kernel
theorem d_Tok_cutWord_91 : decode b_Tok_cutWord 91 = .ok (.invokevirtual 67, 3) := by decide +kernel
theorem d_Tok_cutWord_94 : decode b_Tok_cutWord 94 = .ok (.ifCond .eq 13, 3) := by decide +kernel
theorem d_Tok_cutWord_97 : decode b_Tok_cutWord 97 = .ok (.aload_n 0, 1) := by decide +kernel
theorem d_Tok_cutWord_98 : decode b_Tok_cutWord 98 = .ok (.iload 4, 2) := by decide +kernel
theorem d_Tok_cutWord_100 : decode b_Tok_cutWord 100 = .ok (.iconst 0, 1) := by decide +kernel
theorem d_Tok_cutWord_101 : decode b_Tok_cutWord 101 = .ok (.iload_n 2, 1) := by decide +kernel
theorem d_Tok_cutWord_102 : decode b_Tok_cutWord 102 = .ok (.invokevirtual 36, 3) := by decide +kernel
theorem d_Tok_cutWord_105 : decode b_Tok_cutWord 105 = .ok (.iload_n 3, 1) := by decide +kernel
theorem d_Tok_cutWord_106 : decode b_Tok_cutWord 106 = .ok (.ireturn, 1) := by decide +kernel
theorem d_Tok_cutWord_107 : decode b_Tok_cutWord 107 = .ok (.iinc 4 1, 3) := by decide +kernel
theorem d_Tok_cutWord_110 : decode b_Tok_cutWord 110 = .ok (.goto (-46), 3) := by decide +kernel
theorem d_Tok_cutWord_113 : decode b_Tok_cutWord 113 = .ok (.iconst 0, 1) := by decide +kernel
theorem d_Tok_cutWord_114 : decode b_Tok_cutWord 114 = .ok (.ireturn, 1) := by decide +kernel
theorem d_Tok_cutSign_0 : decode b_Tok_cutSign 0 = .ok (.bipush 17, 2) := by decide +kernel
theorem d_Tok_cutSign_2 : decode b_Tok_cutSign 2 = .ok (.istore_n 3, 1) := by decide +kernel
theorem d_Tok_cutSign_3 : decode b_Tok_cutSign 3 = .ok (.iload_n 3, 1) := by decide +kernel
theorem d_Tok_cutSign_4 : decode b_Tok_cutSign 4 = .ok (.bipush 30, 2) := by decide +kernel
theorem d_Tok_cutSign_6 : decode b_Tok_cutSign 6 = .ok (.if_icmp .gt 38, 3) := by decide +kernel
theorem d_Tok_cutSign_9 : decode b_Tok_cutSign 9 = .ok (.iload_n 3, 1) := by decide +kernel
theorem d_Tok_cutSign_10 : decode b_Tok_cutSign 10 = .ok (.invokestatic 58, 3) := by decide +kernel
theorem d_Tok_cutSign_13 : decode b_Tok_cutSign 13 = .ok (.astore 4, 2) := by decide +kernel
theorem d_Tok_cutSign_15 : decode b_Tok_cutSign 15 = .ok (.aload_n 1, 1) := by decide +kernel
theorem d_Tok_cutSign_16 : decode b_Tok_cutSign 16 = .ok (.aload 4, 2) := by decide +kernel
theorem d_Tok_cutSign_18 : decode b_Tok_cutSign 18 = .ok (.iload_n 2, 1) := by decide +kernel
theorem d_Tok_cutSign_19 : decode b_Tok_cutSign 19 = .ok (.invokevirtual 67, 3) := by decide +kernel
theorem d_Tok_cutSign_22 : decode b_Tok_cutSign 22 = .ok (.ifCond .eq 16, 3) := by decide +kernel
theorem d_Tok_cutSign_25 : decode b_Tok_cutSign 25 = .ok (.aload_n 0, 1) := by decide +kernel
theorem d_Tok_cutSign_26 : decode b_Tok_cutSign 26 = .ok (.iload_n 3, 1) := by decide +kernel
theorem d_Tok_cutSign_27 : decode b_Tok_cutSign 27 = .ok (.iconst 0, 1) := by decide +kernel
theorem d_Tok_cutSign_28 : decode b_Tok_cutSign 28 = .ok (.iload_n 2, 1) := by decide +kernel
theorem d_Tok_cutSign_29 : decode b_Tok_cutSign 29 = .ok (.invokevirtual 36, 3) := by decide +kernel
theorem d_Tok_cutSign_32 : decode b_Tok_cutSign 32 = .ok (.aload 4, 2) := by decide +kernel
theorem d_Tok_cutSign_34 : decode b_Tok_cutSign 34 = .ok (.invokevirtual 62, 3) := by decide +kernel
theorem d_Tok_cutSign_37 : decode b_Tok_cutSign 37 = .ok (.ireturn, 1) := by decide +kernel
theorem d_Tok_cutSign_38 : decode b_Tok_cutSign 38 = .ok (.iinc 3 1, 3) := by decide +kernel
theorem d_Tok_cutSign_41 : decode b_Tok_cutSign 41 = .ok (.goto (-38), 3) := by decide +kernel
theorem d_Tok_cutSign_44 : decode b_Tok_cutSign 44 = .ok (.iconst 0, 1) := by decide +kernel
theorem d_Tok_cutSign_45 : decode b_Tok_cutSign 45 = .ok (.ireturn, 1) := by decide +kernel
theorem d_Tok_cutOne_0 : decode b_Tok_cutOne 0 = .ok (.aload_n 1, 1) := by decide +kernel
theorem d_Tok_cutOne_1 : decode b_Tok_cutOne 1 = .ok (.iload_n 2, 1) := by decide +kernel
theorem d_Tok_cutOne_2 : decode b_Tok_cutOne 2 = .ok (.invokevirtual 40, 3) := by decide +kernel
theorem d_Tok_cutOne_5 : decode b_Tok_cutOne 5 = .ok (.ifCond .eq 10, 3) := by decide +kernel
theorem d_Tok_cutOne_8 : decode b_Tok_cutOne 8 = .ok (.aload_n 0, 1) := by decide +kernel
theorem d_Tok_cutOne_9 : decode b_Tok_cutOne 9 = .ok (.aload_n 1, 1) := by decide +kernel
theorem d_Tok_cutOne_10 : decode b_Tok_cutOne 10 = .ok (.iload_n 2, 1) := by decide +kernel
theorem d_Tok_cutOne_11 : decode b_Tok_cutOne 11 = .ok (.invokevirtual 44, 3) := by decide +kernel
theorem d_Tok_cutOne_14 : decode b_Tok_cutOne 14 = .ok (.ireturn, 1) := by decide +kernel
theorem d_Tok_cutOne_15 : decode b_Tok_cutOne 15 = .ok (.aload_n 1, 1) := by decide +kernel
theorem d_Tok_cutOne_16 : decode b_Tok_cutOne 16 = .ok (.iload_n 2, 1) := by decide +kernel
theorem d_Tok_cutOne_17 : decode b_Tok_cutOne 17 = .ok (.invokevirtual 47, 3) := by decide +kernel
theorem d_Tok_cutOne_20 : decode b_Tok_cutOne 20 = .ok (.ifCond .eq 12, 3) := by decide +kernel
theorem d_Tok_cutOne_23 : decode b_Tok_cutOne 23 = .ok (.aload_n 0, 1) := by decide +kernel
theorem d_Tok_cutOne_24 : decode b_Tok_cutOne 24 = .ok (.aload_n 1, 1) := by decide +kernel
theorem d_Tok_cutOne_25 : decode b_Tok_cutOne 25 = .ok (.iload_n 2, 1) := by decide +kernel
theorem d_Tok_cutOne_26 : decode b_Tok_cutOne 26 = .ok (.invokevirtual 50, 3) := by decide +kernel
theorem d_Tok_cutOne_29 : decode b_Tok_cutOne 29 = .ok (.goto 9, 3) := by decide +kernel
theorem d_Tok_cutOne_32 : decode b_Tok_cutOne 32 = .ok (.aload_n 0, 1) := by decide +kernel
theorem d_Tok_cutOne_33 : decode b_Tok_cutOne 33 = .ok (.aload_n 1, 1) := by decide +kernel
theorem d_Tok_cutOne_34 : decode b_Tok_cutOne 34 = .ok (.iload_n 2, 1) := by decide +kernel
theorem d_Tok_cutOne_35 : decode b_Tok_cutOne 35 = .ok (.invokevirtual 53, 3) := by decide +kernel
theorem d_Tok_cutOne_38 : decode b_Tok_cutOne 38 = .ok (.ireturn, 1) := by decide +kernel
theorem d_Tok_cut_0 : decode b_Tok_cut 0 = .ok (.aload_n 0, 1) := by decide +kernel
theorem d_Tok_cut_1 : decode b_Tok_cut 1 = .ok (.iconst 0, 1) := by decide +kernel
theorem d_Tok_cut_2 : decode b_Tok_cut 2 = .ok (.putfield 21, 3) := by decide +kernel
theorem d_Tok_cut_5 : decode b_Tok_cut 5 = .ok (.iconst 0, 1) := by decide +kernel
theorem d_Tok_cut_6 : decode b_Tok_cut 6 = .ok (.istore_n 2, 1) := by decide +kernel
theorem d_Tok_cut_7 : decode b_Tok_cut 7 = .ok (.iload_n 2, 1) := by decide +kernel
theorem d_Tok_cut_8 : decode b_Tok_cut 8 = .ok (.aload_n 1, 1) := by decide +kernel
theorem d_Tok_cut_9 : decode b_Tok_cut 9 = .ok (.invokevirtual 25, 3) := by decide +kernel
theorem d_Tok_cut_12 : decode b_Tok_cut 12 = .ok (.if_icmp .ge 56, 3) := by decide +kernel
theorem d_Tok_cut_15 : decode b_Tok_cut 15 = .ok (.aload_n 1, 1) := by decide +kernel
theorem d_Tok_cut_16 : decode b_Tok_cut 16 = .ok (.iload_n 2, 1) := by decide +kernel
theorem d_Tok_cut_17 : decode b_Tok_cut 17 = .ok (.invokevirtual 28, 3) := by decide +kernel
theorem d_Tok_cut_20 : decode b_Tok_cut 20 = .ok (.bipush 32, 2) := by decide +kernel
theorem d_Tok_cut_22 : decode b_Tok_cut 22 = .ok (.if_icmp .ne 9, 3) := by decide +kernel
theorem d_Tok_cut_25 : decode b_Tok_cut 25 = .ok (.iinc 2 1, 3) := by decide +kernel
theorem d_Tok_cut_28 : decode b_Tok_cut 28 = .ok (.goto (-21), 3) := by decide +kernel
theorem d_Tok_cut_31 : decode b_Tok_cut 31 = .ok (.aload_n 0, 1) := by decide +kernel
theorem d_Tok_cut_32 : decode b_Tok_cut 32 = .ok (.aload_n 1, 1) := by decide +kernel
theorem d_Tok_cut_33 : decode b_Tok_cut 33 = .ok (.iload_n 2, 1) := by decide +kernel
theorem d_Tok_cut_34 : decode b_Tok_cut 34 = .ok (.invokevirtual 32, 3) := by decide +kernel
theorem d_Tok_cut_37 : decode b_Tok_cut 37 = .ok (.istore_n 3, 1) := by decide +kernel
theorem d_Tok_cut_38 : decode b_Tok_cut 38 = .ok (.iload_n 3, 1) := by decide +kernel
theorem d_Tok_cut_39 : decode b_Tok_cut 39 = .ok (.iconst 1, 1) := by decide +kernel
theorem d_Tok_cut_40 : decode b_Tok_cut 40 = .ok (.if_icmp .ge 11, 3) := by decide +kernel
theorem d_Tok_cut_43 : decode b_Tok_cut 43 = .ok (.aload_n 0, 1) := by decide +kernel
theorem d_Tok_cut_44 : decode b_Tok_cut 44 = .ok (.iconst 1, 1) := by decide +kernel
theorem d_Tok_cut_45 : decode b_Tok_cut 45 = .ok (.iconst 0, 1) := by decide +kernel
theorem d_Tok_cut_46 : decode b_Tok_cut 46 = .ok (.iload_n 2, 1) := by decide +kernel
theorem d_Tok_cut_47 : decode b_Tok_cut 47 = .ok (.invokevirtual 36, 3) := by decide +kernel
theorem d_Tok_cut_50 : decode b_Tok_cut 50 = .ok (.return_, 1) := by decide +kernel
theorem d_Tok_cut_51 : decode b_Tok_cut 51 = .ok (.aload_n 0, 1) := by decide +kernel
theorem d_Tok_cut_52 : decode b_Tok_cut 52 = .ok (.dup, 1) := by decide +kernel
theorem d_Tok_cut_53 : decode b_Tok_cut 53 = .ok (.getfield 21, 3) := by decide +kernel
theorem d_Tok_cut_56 : decode b_Tok_cut 56 = .ok (.iconst 1, 1) := by decide +kernel
theorem d_Tok_cut_57 : decode b_Tok_cut 57 = .ok (.iadd, 1) := by decide +kernel
theorem d_Tok_cut_58 : decode b_Tok_cut 58 = .ok (.putfield 21, 3) := by decide +kernel
theorem d_Tok_cut_61 : decode b_Tok_cut 61 = .ok (.iload_n 2, 1) := by decide +kernel
theorem d_Tok_cut_62 : decode b_Tok_cut 62 = .ok (.iload_n 3, 1) := by decide +kernel
theorem d_Tok_cut_63 : decode b_Tok_cut 63 = .ok (.iadd, 1) := by decide +kernel
theorem d_Tok_cut_64 : decode b_Tok_cut 64 = .ok (.istore_n 2, 1) := by decide +kernel
theorem d_Tok_cut_65 : decode b_Tok_cut 65 = .ok (.goto (-58), 3) := by decide +kernel
theorem d_Tok_cut_68 : decode b_Tok_cut 68 = .ok (.aload_n 0, 1) := by decide +kernel
theorem d_Tok_cut_69 : decode b_Tok_cut 69 = .ok (.iconst 0, 1) := by decide +kernel
theorem d_Tok_cut_70 : decode b_Tok_cut 70 = .ok (.iconst 0, 1) := by decide +kernel
theorem d_Tok_cut_71 : decode b_Tok_cut 71 = .ok (.aload_n 1, 1) := by decide +kernel
theorem d_Tok_cut_72 : decode b_Tok_cut 72 = .ok (.invokevirtual 25, 3) := by decide +kernel
theorem d_Tok_cut_75 : decode b_Tok_cut 75 = .ok (.invokevirtual 36, 3) := by decide +kernel
theorem d_Tok_cut_78 : decode b_Tok_cut 78 = .ok (.return_, 1) := by decide +kernel
theorem d_Tok_writeOne_0 : decode b_Tok_writeOne 0 = .ok (.iload_n 0, 1) := by decide +kernel
theorem d_Tok_writeOne_1 : decode b_Tok_writeOne 1 = .ok (.tableswitch 47 2 4 #[27, 35, 35], 27) := by decide +kernel
theorem d_Tok_writeOne_28 : decode b_Tok_writeOne 28 = .ok (.aload_n 2, 1) := by decide +kernel
theorem d_Tok_writeOne_29 : decode b_Tok_writeOne 29 = .ok (.iload_n 1, 1) := by decide +kernel
theorem d_Tok_writeOne_30 : decode b_Tok_writeOne 30 = .ok (.invokevirtual 97, 3) := by decide +kernel
theorem d_Tok_writeOne_33 : decode b_Tok_writeOne 33 = .ok (.goto 23, 3) := by decide +kernel
theorem d_Tok_writeOne_36 : decode b_Tok_writeOne 36 = .ok (.aload_n 2, 1) := by decide +kernel
theorem d_Tok_writeOne_37 : decode b_Tok_writeOne 37 = .ok (.bipush 97, 2) := by decide +kernel
theorem d_Tok_writeOne_39 : decode b_Tok_writeOne 39 = .ok (.iload_n 1, 1) := by decide +kernel
theorem d_Tok_writeOne_40 : decode b_Tok_writeOne 40 = .ok (.iadd, 1) := by decide +kernel
theorem d_Tok_writeOne_41 : decode b_Tok_writeOne 41 = .ok (.i2c, 1) := by decide +kernel
theorem d_Tok_writeOne_42 : decode b_Tok_writeOne 42 = .ok (.invokevirtual 80, 3) := by decide +kernel
theorem d_Tok_writeOne_45 : decode b_Tok_writeOne 45 = .ok (.goto 11, 3) := by decide +kernel
theorem d_Tok_writeOne_48 : decode b_Tok_writeOne 48 = .ok (.aload_n 2, 1) := by decide +kernel
theorem d_Tok_writeOne_49 : decode b_Tok_writeOne 49 = .ok (.iload_n 0, 1) := by decide +kernel
theorem d_Tok_writeOne_50 : decode b_Tok_writeOne 50 = .ok (.invokestatic 58, 3) := by decide +kernel
theorem d_Tok_writeOne_53 : decode b_Tok_writeOne 53 = .ok (.invokevirtual 101, 3) := by decide +kernel
theorem d_Tok_writeOne_56 : decode b_Tok_writeOne 56 = .ok (.return_, 1) := by decide +kernel
theorem d_Tok_writeInto_0 : decode b_Tok_writeInto 0 = .ok (.iconst 0, 1) := by decide +kernel
theorem d_Tok_writeInto_1 : decode b_Tok_writeInto 1 = .ok (.istore_n 2, 1) := by decide +kernel
theorem d_Tok_writeInto_2 : decode b_Tok_writeInto 2 = .ok (.iload_n 2, 1) := by decide +kernel
theorem d_Tok_writeInto_3 : decode b_Tok_writeInto 3 = .ok (.aload_n 0, 1) := by decide +kernel
theorem d_Tok_writeInto_4 : decode b_Tok_writeInto 4 = .ok (.getfield 21, 3) := by decide +kernel
theorem d_Tok_writeInto_7 : decode b_Tok_writeInto 7 = .ok (.if_icmp .ge 54, 3) := by decide +kernel
theorem d_Tok_writeInto_10 : decode b_Tok_writeInto 10 = .ok (.aload_n 0, 1) := by decide +kernel
theorem d_Tok_writeInto_11 : decode b_Tok_writeInto 11 = .ok (.iload_n 2, 1) := by decide +kernel
theorem d_Tok_writeInto_12 : decode b_Tok_writeInto 12 = .ok (.invokevirtual 77, 3) := by decide +kernel
theorem d_Tok_writeInto_15 : decode b_Tok_writeInto 15 = .ok (.ifCond .ne 40, 3) := by decide +kernel
theorem d_Tok_writeInto_18 : decode b_Tok_writeInto 18 = .ok (.aload_n 0, 1) := by decide +kernel
theorem d_Tok_writeInto_19 : decode b_Tok_writeInto 19 = .ok (.iload_n 2, 1) := by decide +kernel
theorem d_Tok_writeInto_20 : decode b_Tok_writeInto 20 = .ok (.iconst 1, 1) := by decide +kernel
theorem d_Tok_writeInto_21 : decode b_Tok_writeInto 21 = .ok (.isub, 1) := by decide +kernel
theorem d_Tok_writeInto_22 : decode b_Tok_writeInto 22 = .ok (.invokevirtual 77, 3) := by decide +kernel
theorem d_Tok_writeInto_25 : decode b_Tok_writeInto 25 = .ok (.ifCond .eq 6, 3) := by decide +kernel
theorem d_Tok_writeInto_28 : decode b_Tok_writeInto 28 = .ok (.goto 27, 3) := by decide +kernel
theorem d_Tok_writeInto_31 : decode b_Tok_writeInto 31 = .ok (.iload_n 2, 1) := by decide +kernel
theorem d_Tok_writeInto_32 : decode b_Tok_writeInto 32 = .ok (.ifCond .le 9, 3) := by decide +kernel
theorem d_Tok_writeInto_35 : decode b_Tok_writeInto 35 = .ok (.aload_n 1, 1) := by decide +kernel
theorem d_Tok_writeInto_36 : decode b_Tok_writeInto 36 = .ok (.bipush 32, 2) := by decide +kernel
theorem d_Tok_writeInto_38 : decode b_Tok_writeInto 38 = .ok (.invokevirtual 80, 3) := by decide +kernel
theorem d_Tok_writeInto_41 : decode b_Tok_writeInto 41 = .ok (.aload_n 0, 1) := by decide +kernel
theorem d_Tok_writeInto_42 : decode b_Tok_writeInto 42 = .ok (.iload_n 2, 1) := by decide +kernel
theorem d_Tok_writeInto_43 : decode b_Tok_writeInto 43 = .ok (.invokevirtual 86, 3) := by decide +kernel
theorem d_Tok_writeInto_46 : decode b_Tok_writeInto 46 = .ok (.aload_n 0, 1) := by decide +kernel
theorem d_Tok_writeInto_47 : decode b_Tok_writeInto 47 = .ok (.iload_n 2, 1) := by decide +kernel
theorem d_Tok_writeInto_48 : decode b_Tok_writeInto 48 = .ok (.invokevirtual 90, 3) := by decide +kernel
theorem d_Tok_writeInto_51 : decode b_Tok_writeInto 51 = .ok (.aload_n 1, 1) := by decide +kernel
theorem d_Tok_writeInto_52 : decode b_Tok_writeInto 52 = .ok (.invokestatic 93, 3) := by decide +kernel
theorem d_Tok_writeInto_55 : decode b_Tok_writeInto 55 = .ok (.iinc 2 1, 3) := by decide +kernel
theorem d_Tok_writeInto_58 : decode b_Tok_writeInto 58 = .ok (.goto (-56), 3) := by decide +kernel
theorem d_Tok_writeInto_61 : decode b_Tok_writeInto 61 = .ok (.return_, 1) := by decide +kernel
theorem k_632 : (.methodLink R_Tok 47 y_Text_isDigit : Cond) ∈ wG := wGm 589 (by decide +kernel) (by decide +kernel)
theorem k_633 : (.instanceMethod y_Text_isDigit : Cond) ∈ wG := wGm 590 (by decide +kernel) (by decide +kernel)
theorem k_634 : (.selects R_Text y_Text_isDigit y_Text_isDigit : Cond) ∈ wG := wGm 591 (by decide +kernel) (by decide +kernel)
theorem k_635 : (.code y_Text_isDigit b_Text_isDigit 3 (some .boolean) : Cond) ∈ wG := wGm 592 (by decide +kernel) (by decide +kernel)
theorem k_636 : (.methodLink R_Tok 36 y_Tok_put : Cond) ∈ wG := wGm 502 (by decide +kernel) (by decide +kernel)
theorem k_637 : (.instanceMethod y_Tok_put : Cond) ∈ wG := wGm 504 (by decide +kernel) (by decide +kernel)
theorem k_638 : (.selects R_Tok y_Tok_put y_Tok_put : Cond) ∈ wG := wGm 2 (by decide +kernel) (by decide +kernel)
theorem k_639 : (.code y_Tok_put b_Tok_put 4 none : Cond) ∈ wG := wGm 505 (by decide +kernel) (by decide +kernel)
theorem k_640 : (.constantLong R_Tok 71 10 : Cond) ∈ wG := wGm 597 (by decide +kernel) (by decide +kernel)
theorem k_641 : (.methodLink R_Tok 28 y_Text_at : Cond) ∈ wG := wGm 485 (by decide +kernel) (by decide +kernel)
theorem k_642 : (.constantLong R_Tok 73 48 : Cond) ∈ wG := wGm 598 (by decide +kernel) (by decide +kernel)
theorem k_643 : (.constantLong R_Tok 75 2147483647 : Cond) ∈ wG := wGm 599 (by decide +kernel) (by decide +kernel)
theorem k_644 : (.methodLink R_Tok 40 y_Text_isLetter : Cond) ∈ wG := wGm 493 (by decide +kernel) (by decide +kernel)
theorem k_645 : (.instanceMethod y_Text_isLetter : Cond) ∈ wG := wGm 494 (by decide +kernel) (by decide +kernel)
theorem k_646 : (.selects R_Text y_Text_isLetter y_Text_isLetter : Cond) ∈ wG := wGm 495 (by decide +kernel) (by decide +kernel)
theorem k_647 : (.code y_Text_isLetter b_Text_isLetter 3 (some .boolean) : Cond) ∈ wG := wGm 496 (by decide +kernel) (by decide +kernel)
theorem k_648 : (.methodLink R_Tok 58 y_Tok_spelling : Cond) ∈ wG := wGm 506 (by decide +kernel) (by decide +kernel)
theorem k_649 : (.static y_Tok_spelling : Cond) ∈ wG := wGm 507 (by decide +kernel) (by decide +kernel)
theorem k_650 : (.code y_Tok_spelling b_Tok_spelling 1 (some (.object "java/lang/String")) : Cond) ∈ wG := wGm 508 (by decide +kernel) (by decide +kernel)
theorem k_651 : (.methodLink R_Tok 62 y_Str_length : Cond) ∈ wG := wGm 536 (by decide +kernel) (by decide +kernel)
theorem k_652 : (.methodLink R_Tok 67 y_Text_spells : Cond) ∈ wG := wGm 546 (by decide +kernel) (by decide +kernel)
theorem k_653 : (.instanceMethod y_Text_spells : Cond) ∈ wG := wGm 547 (by decide +kernel) (by decide +kernel)
theorem k_654 : (.selects R_Text y_Text_spells y_Text_spells : Cond) ∈ wG := wGm 548 (by decide +kernel) (by decide +kernel)
theorem k_655 : (.code y_Text_spells b_Text_spells 4 (some .boolean) : Cond) ∈ wG := wGm 549 (by decide +kernel) (by decide +kernel)
theorem k_656 : (.methodLink R_Tok 53 y_Tok_cutSign : Cond) ∈ wG := wGm 600 (by decide +kernel) (by decide +kernel)
theorem k_657 : (.instanceMethod y_Tok_cutSign : Cond) ∈ wG := wGm 602 (by decide +kernel) (by decide +kernel)
theorem k_658 : (.selects R_Tok y_Tok_cutSign y_Tok_cutSign : Cond) ∈ wG := wGm 4 (by decide +kernel) (by decide +kernel)
theorem k_659 : (.code y_Tok_cutSign b_Tok_cutSign 5 (some .int) : Cond) ∈ wG := wGm 603 (by decide +kernel) (by decide +kernel)
theorem k_660 : (.methodLink R_Tok 50 y_Tok_cutNumber : Cond) ∈ wG := wGm 593 (by decide +kernel) (by decide +kernel)
theorem k_661 : (.instanceMethod y_Tok_cutNumber : Cond) ∈ wG := wGm 595 (by decide +kernel) (by decide +kernel)
theorem k_662 : (.selects R_Tok y_Tok_cutNumber y_Tok_cutNumber : Cond) ∈ wG := wGm 3 (by decide +kernel) (by decide +kernel)
theorem k_663 : (.code y_Tok_cutNumber b_Tok_cutNumber 6 (some .int) : Cond) ∈ wG := wGm 596 (by decide +kernel) (by decide +kernel)
theorem k_664 : (.methodLink R_Tok 44 y_Tok_cutWord : Cond) ∈ wG := wGm 498 (by decide +kernel) (by decide +kernel)
theorem k_665 : (.instanceMethod y_Tok_cutWord : Cond) ∈ wG := wGm 500 (by decide +kernel) (by decide +kernel)
theorem k_666 : (.selects R_Tok y_Tok_cutWord y_Tok_cutWord : Cond) ∈ wG := wGm 1 (by decide +kernel) (by decide +kernel)
theorem k_667 : (.code y_Tok_cutWord b_Tok_cutWord 6 (some .int) : Cond) ∈ wG := wGm 501 (by decide +kernel) (by decide +kernel)
theorem k_668 : (.methodLink R_Tok 25 y_Text_size : Cond) ∈ wG := wGm 484 (by decide +kernel) (by decide +kernel)
theorem k_669 : (.methodLink R_Tok 32 y_Tok_cutOne : Cond) ∈ wG := wGm 489 (by decide +kernel) (by decide +kernel)
theorem k_670 : (.instanceMethod y_Tok_cutOne : Cond) ∈ wG := wGm 491 (by decide +kernel) (by decide +kernel)
theorem k_671 : (.selects R_Tok y_Tok_cutOne y_Tok_cutOne : Cond) ∈ wG := wGm 0 (by decide +kernel) (by decide +kernel)
theorem k_672 : (.code y_Tok_cutOne b_Tok_cutOne 3 (some .int) : Cond) ∈ wG := wGm 492 (by decide +kernel) (by decide +kernel)
theorem k_673 : (.methodLink R_Tok 97 y_Out_addNumber : Cond) ∈ wG := wGm 898 (by decide +kernel) (by decide +kernel)
theorem k_674 : (.instanceMethod y_Out_addNumber : Cond) ∈ wG := wGm 899 (by decide +kernel) (by decide +kernel)
theorem k_675 : (.selects R_Out y_Out_addNumber y_Out_addNumber : Cond) ∈ wG := wGm 900 (by decide +kernel) (by decide +kernel)
theorem k_676 : (.code y_Out_addNumber b_Out_addNumber 3 none : Cond) ∈ wG := wGm 901 (by decide +kernel) (by decide +kernel)
theorem k_677 : (.methodLink R_Tok 80 y_Out_add : Cond) ∈ wG := wGm 891 (by decide +kernel) (by decide +kernel)
theorem k_678 : (.methodLink R_Tok 101 y_Out_addWord : Cond) ∈ wG := wGm 904 (by decide +kernel) (by decide +kernel)
theorem k_679 : (.instanceMethod y_Out_addWord : Cond) ∈ wG := wGm 905 (by decide +kernel) (by decide +kernel)
theorem k_680 : (.selects R_Out y_Out_addWord y_Out_addWord : Cond) ∈ wG := wGm 906 (by decide +kernel) (by decide +kernel)
theorem k_681 : (.code y_Out_addWord b_Out_addWord 3 none : Cond) ∈ wG := wGm 907 (by decide +kernel) (by decide +kernel)
theorem k_682 : (.methodLink R_Tok 77 y_Tok_isIdle : Cond) ∈ wG := wGm 879 (by decide +kernel) (by decide +kernel)
theorem k_683 : (.instanceMethod y_Tok_isIdle : Cond) ∈ wG := wGm 881 (by decide +kernel) (by decide +kernel)
theorem k_684 : (.selects R_Tok y_Tok_isIdle y_Tok_isIdle : Cond) ∈ wG := wGm 29 (by decide +kernel) (by decide +kernel)
theorem k_685 : (.code y_Tok_isIdle b_Tok_isIdle 2 (some .boolean) : Cond) ∈ wG := wGm 882 (by decide +kernel) (by decide +kernel)
theorem k_686 : (.methodLink R_Tok 93 y_Tok_writeOne : Cond) ∈ wG := wGm 895 (by decide +kernel) (by decide +kernel)
theorem k_687 : (.static y_Tok_writeOne : Cond) ∈ wG := wGm 896 (by decide +kernel) (by decide +kernel)
theorem k_688 : (.code y_Tok_writeOne b_Tok_writeOne 3 none : Cond) ∈ wG := wGm 897 (by decide +kernel) (by decide +kernel)
theorem g_Tok_47 : GoodIn wG (wsV R_Tok 47 R_Text y_Text_isDigit w_Text_isDigit) := wGa (fun w hw => by
  rcases List.mem_cons.mp hw with e | hw
  · exact e ▸ k_632
  rcases List.mem_cons.mp hw with e | hw
  · exact e ▸ k_633
  rcases List.mem_cons.mp hw with e | hw
  · exact e ▸ k_634
  rcases List.mem_cons.mp hw with e | hw
  · exact e ▸ k_35
  · exact absurd hw List.not_mem_nil) (wGc k_635)
theorem g_Tok_36 : GoodIn wG (wsV R_Tok 36 R_Tok y_Tok_put w_Tok_put) := wGa (fun w hw => by
  rcases List.mem_cons.mp hw with e | hw
  · exact e ▸ k_636
  rcases List.mem_cons.mp hw with e | hw
  · exact e ▸ k_637
  rcases List.mem_cons.mp hw with e | hw
  · exact e ▸ k_638
  rcases List.mem_cons.mp hw with e | hw
  · exact e ▸ k_70
  · exact absurd hw List.not_mem_nil) (wGc k_639)
theorem g_Tok_28 : GoodIn wG (wsV R_Tok 28 R_Text y_Text_at w_Text_at) := wGa (fun w hw => by
  rcases List.mem_cons.mp hw with e | hw
  · exact e ▸ k_641
  rcases List.mem_cons.mp hw with e | hw
  · exact e ▸ k_33
  rcases List.mem_cons.mp hw with e | hw
  · exact e ▸ k_34
  rcases List.mem_cons.mp hw with e | hw
  · exact e ▸ k_35
  · exact absurd hw List.not_mem_nil) (wGc k_36)
theorem g_Tok_40 : GoodIn wG (wsV R_Tok 40 R_Text y_Text_isLetter w_Text_isLetter) := wGa (fun w hw => by
  rcases List.mem_cons.mp hw with e | hw
  · exact e ▸ k_644
  rcases List.mem_cons.mp hw with e | hw
  · exact e ▸ k_645
  rcases List.mem_cons.mp hw with e | hw
  · exact e ▸ k_646
  rcases List.mem_cons.mp hw with e | hw
  · exact e ▸ k_35
  · exact absurd hw List.not_mem_nil) (wGc k_647)
theorem g_Tok_58 : GoodIn wG (wsS R_Tok 58 y_Tok_spelling w_Tok_spelling) := wGa (fun w hw => by
  rcases List.mem_cons.mp hw with e | hw
  · exact e ▸ k_648
  rcases List.mem_cons.mp hw with e | hw
  · exact e ▸ k_649
  rcases List.mem_cons.mp hw with e | hw
  · exact e ▸ k_70
  · exact absurd hw List.not_mem_nil) (wGc k_650)
theorem g_Tok_62 : GoodIn wG (wsV R_Tok 62 R_Str y_Str_length w_Str_length) := wGa (fun w hw => by
  rcases List.mem_cons.mp hw with e | hw
  · exact e ▸ k_651
  rcases List.mem_cons.mp hw with e | hw
  · exact e ▸ k_623
  rcases List.mem_cons.mp hw with e | hw
  · exact e ▸ k_624
  rcases List.mem_cons.mp hw with e | hw
  · exact e ▸ k_604
  · exact absurd hw List.not_mem_nil) (wGc k_625)
theorem g_Tok_67 : GoodIn wG (wsV R_Tok 67 R_Text y_Text_spells w_Text_spells) := wGa (fun w hw => by
  rcases List.mem_cons.mp hw with e | hw
  · exact e ▸ k_652
  rcases List.mem_cons.mp hw with e | hw
  · exact e ▸ k_653
  rcases List.mem_cons.mp hw with e | hw
  · exact e ▸ k_654
  rcases List.mem_cons.mp hw with e | hw
  · exact e ▸ k_35
  · exact absurd hw List.not_mem_nil) (wGc k_655)
theorem g_Tok_53 : GoodIn wG (wsV R_Tok 53 R_Tok y_Tok_cutSign w_Tok_cutSign) := wGa (fun w hw => by
  rcases List.mem_cons.mp hw with e | hw
  · exact e ▸ k_656
  rcases List.mem_cons.mp hw with e | hw
  · exact e ▸ k_657
  rcases List.mem_cons.mp hw with e | hw
  · exact e ▸ k_658
  rcases List.mem_cons.mp hw with e | hw
  · exact e ▸ k_70
  · exact absurd hw List.not_mem_nil) (wGc k_659)
theorem g_Tok_50 : GoodIn wG (wsV R_Tok 50 R_Tok y_Tok_cutNumber w_Tok_cutNumber) := wGa (fun w hw => by
  rcases List.mem_cons.mp hw with e | hw
  · exact e ▸ k_660
  rcases List.mem_cons.mp hw with e | hw
  · exact e ▸ k_661
  rcases List.mem_cons.mp hw with e | hw
  · exact e ▸ k_662
  rcases List.mem_cons.mp hw with e | hw
  · exact e ▸ k_70
  · exact absurd hw List.not_mem_nil) (wGc k_663)
theorem g_Tok_44 : GoodIn wG (wsV R_Tok 44 R_Tok y_Tok_cutWord w_Tok_cutWord) := wGa (fun w hw => by
  rcases List.mem_cons.mp hw with e | hw
  · exact e ▸ k_664
  rcases List.mem_cons.mp hw with e | hw
  · exact e ▸ k_665
  rcases List.mem_cons.mp hw with e | hw
  · exact e ▸ k_666
  rcases List.mem_cons.mp hw with e | hw
  · exact e ▸ k_70
  · exact absurd hw List.not_mem_nil) (wGc k_667)
theorem g_Tok_25 : GoodIn wG (wsV R_Tok 25 R_Text y_Text_size w_Text_size) := wGa (fun w hw => by
  rcases List.mem_cons.mp hw with e | hw
  · exact e ▸ k_668
  rcases List.mem_cons.mp hw with e | hw
  · exact e ▸ k_483
  rcases List.mem_cons.mp hw with e | hw
  · exact e ▸ k_484
  rcases List.mem_cons.mp hw with e | hw
  · exact e ▸ k_35
  · exact absurd hw List.not_mem_nil) (wGc k_485)
theorem g_Tok_32 : GoodIn wG (wsV R_Tok 32 R_Tok y_Tok_cutOne w_Tok_cutOne) := wGa (fun w hw => by
  rcases List.mem_cons.mp hw with e | hw
  · exact e ▸ k_669
  rcases List.mem_cons.mp hw with e | hw
  · exact e ▸ k_670
  rcases List.mem_cons.mp hw with e | hw
  · exact e ▸ k_671
  rcases List.mem_cons.mp hw with e | hw
  · exact e ▸ k_70
  · exact absurd hw List.not_mem_nil) (wGc k_672)
theorem g_Tok_97 : GoodIn wG (wsV R_Tok 97 R_Out y_Out_addNumber w_Out_addNumber) := wGa (fun w hw => by
  rcases List.mem_cons.mp hw with e | hw
  · exact e ▸ k_673
  rcases List.mem_cons.mp hw with e | hw
  · exact e ▸ k_674
  rcases List.mem_cons.mp hw with e | hw
  · exact e ▸ k_675
  rcases List.mem_cons.mp hw with e | hw
  · exact e ▸ k_46
  · exact absurd hw List.not_mem_nil) (wGc k_676)
theorem g_Tok_80 : GoodIn wG (wsV R_Tok 80 R_Out y_Out_add w_Out_add) := wGa (fun w hw => by
  rcases List.mem_cons.mp hw with e | hw
  · exact e ▸ k_677
  rcases List.mem_cons.mp hw with e | hw
  · exact e ▸ k_44
  rcases List.mem_cons.mp hw with e | hw
  · exact e ▸ k_45
  rcases List.mem_cons.mp hw with e | hw
  · exact e ▸ k_46
  · exact absurd hw List.not_mem_nil) (wGc k_47)
theorem g_Tok_101 : GoodIn wG (wsV R_Tok 101 R_Out y_Out_addWord w_Out_addWord) := wGa (fun w hw => by
  rcases List.mem_cons.mp hw with e | hw
  · exact e ▸ k_678
  rcases List.mem_cons.mp hw with e | hw
  · exact e ▸ k_679
  rcases List.mem_cons.mp hw with e | hw
  · exact e ▸ k_680
  rcases List.mem_cons.mp hw with e | hw
  · exact e ▸ k_46
  · exact absurd hw List.not_mem_nil) (wGc k_681)
theorem g_Tok_77 : GoodIn wG (wsV R_Tok 77 R_Tok y_Tok_isIdle w_Tok_isIdle) := wGa (fun w hw => by
  rcases List.mem_cons.mp hw with e | hw
  · exact e ▸ k_682
  rcases List.mem_cons.mp hw with e | hw
  · exact e ▸ k_683
  rcases List.mem_cons.mp hw with e | hw
  · exact e ▸ k_684
  rcases List.mem_cons.mp hw with e | hw
  · exact e ▸ k_70
  · exact absurd hw List.not_mem_nil) (wGc k_685)
theorem g_Tok_93 : GoodIn wG (wsS R_Tok 93 y_Tok_writeOne w_Tok_writeOne) := wGa (fun w hw => by
  rcases List.mem_cons.mp hw with e | hw
  · exact e ▸ k_686
  rcases List.mem_cons.mp hw with e | hw
  · exact e ▸ k_687
  rcases List.mem_cons.mp hw with e | hw
  · exact e ▸ k_70
  · exact absurd hw List.not_mem_nil) (wGc k_688)
set_option maxHeartbeats 4000000 in
set_option maxRecDepth 100000 in
theorem c_Tok_cutNumber (l : Launch) (G : GG) (h : Nat) (a_kinds : Nat) (a_values : Nat) (a_places : Nat) (tx_h : Nat) (tx_a_signs : Nat) (f_kinds : Nat → Int32) (f_values : Nat → Int32) (f_places : Nat → Int32) (v_size : Int32) (tx_f_signs : Nat → Int32) (tx__size : Int32) (x : Int32) (hok : ok_Tok_cutNumber f_kinds f_values f_places v_size tx_f_signs tx__size x) : Det l G y_Tok_cutNumber w_Tok_cutNumber (rmD 2) 0 0 [.ref h, .ref tx_h, .int x] [(h, .inr (7, [.ref a_kinds, .ref a_values, .ref a_places, .int v_size])), (a_kinds, .inl (gI G, 2001, .inl f_kinds)), (a_values, .inl (gI G, 2001, .inl f_values)), (a_places, .inl (gI G, 2001, .inl f_places)), (tx_h, .inr (4, [.ref tx_a_signs, .int tx__size])), (tx_a_signs, .inl (gC G, 2000, .inl tx_f_signs))] (some (.int (lp_Tok_cutNumber_5 f_kinds f_values f_places v_size tx_f_signs tx__size x 2001 0 (0 : Int32)).1)) [(h, .inr (7, [.ref a_kinds, .ref a_values, .ref a_places, .int v_size])), (a_kinds, .inl (gI G, 2001, .inl (lp_Tok_cutNumber_5 f_kinds f_values f_places v_size tx_f_signs tx__size x 2001 0 (0 : Int32)).2.1)), (a_values, .inl (gI G, 2001, .inl (lp_Tok_cutNumber_5 f_kinds f_values f_places v_size tx_f_signs tx__size x 2001 0 (0 : Int32)).2.2.1)), (a_places, .inl (gI G, 2001, .inl (lp_Tok_cutNumber_5 f_kinds f_values f_places v_size tx_f_signs tx__size x 2001 0 (0 : Int32)).2.2.2)), (tx_h, .inr (4, [.ref tx_a_signs, .int tx__size])), (tx_a_signs, .inl (gC G, 2000, .inl tx_f_signs))] := by
  refine Det.of (cc := b_Tok_cutNumber) (maxL := 6) (ret := (some .int)) (by decide) rfl (Nat.le_of_ble_eq_true rfl) ?_
  intro p e s m args below meth c A ls hx hb hr hml hown hts hlocks hin hA hK hZ hP hD hS hl
  have hts : ∀ w ∈ wG, w.before args s = true := fun w h => hts w (List.mem_cons_of_mem _ h)
  have hown : s.vm.findClass R_Tok = some m.cls := hown
  have loop_5 : ∀ (n : Nat) (i3 : Int64) (i5 : Int32), (oklp_Tok_cutNumber_5 f_kinds f_values f_places v_size tx_f_signs tx__size x n i3 i5) → ∀ (H : Heap) (locs : List Loc) (ls : Array Slot), va_P G.1 classes [(h, .inr (7, [.ref a_kinds, .ref a_values, .ref a_places, .int v_size])), (a_kinds, .inl (gI G, 2001, .inl f_kinds)), (a_values, .inl (gI G, 2001, .inl f_values)), (a_places, .inl (gI G, 2001, .inl f_places)), (tx_h, .inr (4, [.ref tx_a_signs, .int tx__size])), (tx_a_signs, .inl (gC G, 2000, .inl tx_f_signs))] H → va_D A [(h, .inr (7, [.ref a_kinds, .ref a_values, .ref a_places, .int v_size])), (a_kinds, .inl (gI G, 2001, .inl f_kinds)), (a_values, .inl (gI G, 2001, .inl f_values)), (a_places, .inl (gI G, 2001, .inl f_places)), (tx_h, .inr (4, [.ref tx_a_signs, .int tx__size])), (tx_a_signs, .inl (gC G, 2000, .inl tx_f_signs))] → va_S A s.heap H locs → lv_has ls 6 [(5, .int i5), (3, .long i3), (0, .ref h), (1, .ref tx_h), (2, .int x)] → W p l e (rmD 2) s m args below meth c H locs 0 0 (MQ below (ly_Q G A (some (.int (lp_Tok_cutNumber_5 f_kinds f_values f_places v_size tx_f_signs tx__size x n i3 i5).1)) [(h, .inr (7, [.ref a_kinds, .ref a_values, .ref a_places, .int v_size])), (a_kinds, .inl (gI G, 2001, .inl (lp_Tok_cutNumber_5 f_kinds f_values f_places v_size tx_f_signs tx__size x n i3 i5).2.1)), (a_values, .inl (gI G, 2001, .inl (lp_Tok_cutNumber_5 f_kinds f_values f_places v_size tx_f_signs tx__size x n i3 i5).2.2.1)), (a_places, .inl (gI G, 2001, .inl (lp_Tok_cutNumber_5 f_kinds f_values f_places v_size tx_f_signs tx__size x n i3 i5).2.2.2)), (tx_h, .inr (4, [.ref tx_a_signs, .int tx__size])), (tx_a_signs, .inl (gC G, 2000, .inl tx_f_signs))]) args s 0 0 A) (F0 m 5 ls []) := by
    intro n
    induction n with
    | zero => intro i3 i5 hok; exact absurd hok (fun h => h)
    | succ n ih =>
      intro i3 i5 hok H locs ls hP hD hS hl
      rw [oklp_Tok_cutNumber_5] at hok
      refine lv_iload hx hb d_Tok_cutNumber_5 (lv_at hl 0 rfl) ?_
      refine lv_sipush (v := 2000) hx hb d_Tok_cutNumber_7 (by decide) ?_
      refine lv_icmp_ge (tgt := 60) hx hb d_Tok_cutNumber_10 (by decide) (fun c1 => ?_) (fun c1 => ?_)
      · skip
        rw [if_pos c1] at hok
        refine lv_aload_n hx hb d_Tok_cutNumber_60 rfl (lv_at hl 2 rfl) ?_
        refine lv_iconst (v := 2) hx hb d_Tok_cutNumber_61 (by decide) ?_
        refine lv_lload_n hx hb d_Tok_cutNumber_62 rfl (lv_at hl 1 rfl) ?_
        refine lv_l2i (v := i3.toInt32) hx hb d_Tok_cutNumber_63 rfl ?_
        refine lv_iload_n hx hb d_Tok_cutNumber_64 rfl (lv_at hl 4 rfl) ?_
        obtain ⟨hv1, hok⟩ := hok
        obtain ⟨r1, hr1⟩ : ∃ r, (s_Tok_put f_kinds f_values f_places v_size 2 i3.toInt32 x) = r := ⟨_, rfl⟩
        try simp only [hr1] at hok
        have hC_r1 := (c_Tok_put l G h a_kinds a_values a_places f_kinds f_values f_places v_size 2 i3.toInt32 x hv1)
        rw [hr1] at hC_r1
        refine ly_callV (rest := []) (wf := [(h, .inr (7, [.ref a_kinds, .ref a_values, .ref a_places, .int v_size])), (a_kinds, .inl (gI G, 2001, .inl r1.1)), (a_values, .inl (gI G, 2001, .inl r1.2.1)), (a_places, .inl (gI G, 2001, .inl r1.2.2)), (tx_h, .inr (4, [.ref tx_a_signs, .int tx__size])), (tx_a_signs, .inl (gC G, 2000, .inl tx_f_signs))]) ⟨hx, hb, hml, hown, hts⟩ hA hK hZ hP hD hS hC_r1 (cwV 3 hts g_Tok_36 rfl rfl rfl (by decide +kernel) ⟨Nat.le_of_ble_eq_true rfl, Nat.le_of_ble_eq_true rfl⟩) (ci := 7) (q0 := 0) rfl rfl rfl [0, 1, 2, 3] rfl (by decide) rfl rfl rfl hl.1 rfl (Nat.le_of_ble_eq_true rfl) d_Tok_cutNumber_65 ⟨Nat.le_of_ble_eq_true rfl, Nat.le_of_ble_eq_true rfl⟩ (st1 := []) (c1 := 0) (s1 := 0) rfl rfl rfl (fun H locs hP hD hS => ?_)
        refine lv_iload hx hb d_Tok_cutNumber_68 (lv_at hl 0 rfl) ?_
        exact ly_iret hx hb hr hlocks hP hD hS d_Tok_cutNumber_70 (by rw [lp_Tok_cutNumber_5] <;> simp only [hr1] <;> rw [if_pos c1]) (by rw [lp_Tok_cutNumber_5] <;> simp only [hr1] <;> rw [if_pos c1])
      rw [if_neg c1] at hok
      refine lv_aload_n hx hb d_Tok_cutNumber_13 rfl (lv_at hl 3 rfl) ?_
      refine lv_iload_n hx hb d_Tok_cutNumber_14 rfl (lv_at hl 4 rfl) ?_
      refine lv_iload hx hb d_Tok_cutNumber_15 (lv_at hl 0 rfl) ?_
      refine lv_iadd hx hb d_Tok_cutNumber_17 ?_
      obtain ⟨hv2, hok⟩ := hok
      obtain ⟨hv3, hok⟩ := hok
      obtain ⟨r2, hr2⟩ : ∃ r, (s_Text_isDigit tx_f_signs tx__size (x + i5)) = r := ⟨_, rfl⟩
      try simp only [hr2] at hok
      have hC_r2 := (c_Text_isDigit l G tx_h tx_a_signs tx_f_signs tx__size (x + i5) hv2 hv3)
      rw [hr2] at hC_r2
      have hf_r2_1 : isB r2 := by rw [← hr2]; exact z_Text_isDigit
      refine ly_callV (rest := []) (wf := [(h, .inr (7, [.ref a_kinds, .ref a_values, .ref a_places, .int v_size])), (a_kinds, .inl (gI G, 2001, .inl f_kinds)), (a_values, .inl (gI G, 2001, .inl f_values)), (a_places, .inl (gI G, 2001, .inl f_places)), (tx_h, .inr (4, [.ref tx_a_signs, .int tx__size])), (tx_a_signs, .inl (gC G, 2000, .inl tx_f_signs))]) ⟨hx, hb, hml, hown, hts⟩ hA hK hZ hP hD hS hC_r2 (cwV 1 hts g_Tok_47 rfl rfl rfl (by decide +kernel) ⟨Nat.le_of_ble_eq_true rfl, Nat.le_of_ble_eq_true rfl⟩) (ci := 4) (q0 := 4) rfl rfl rfl [4, 5] rfl (by decide) rfl rfl rfl hl.1 rfl (Nat.le_of_ble_eq_true rfl) d_Tok_cutNumber_18 ⟨Nat.le_of_ble_eq_true rfl, Nat.le_of_ble_eq_true rfl⟩ (st1 := [.int r2]) (c1 := 0) (s1 := 0) rfl rfl rfl (fun H locs hP hD hS => ?_)
      refine lv_if_eq (tgt := 60) hx hb d_Tok_cutNumber_21 (by decide) (fun c2 => ?_) (fun c2 => ?_)
      · skip
        rw [if_pos c2] at hok
        refine lv_aload_n hx hb d_Tok_cutNumber_60 rfl (lv_at hl 2 rfl) ?_
        refine lv_iconst (v := 2) hx hb d_Tok_cutNumber_61 (by decide) ?_
        refine lv_lload_n hx hb d_Tok_cutNumber_62 rfl (lv_at hl 1 rfl) ?_
        refine lv_l2i (v := i3.toInt32) hx hb d_Tok_cutNumber_63 rfl ?_
        refine lv_iload_n hx hb d_Tok_cutNumber_64 rfl (lv_at hl 4 rfl) ?_
        obtain ⟨hv4, hok⟩ := hok
        obtain ⟨r3, hr3⟩ : ∃ r, (s_Tok_put f_kinds f_values f_places v_size 2 i3.toInt32 x) = r := ⟨_, rfl⟩
        try simp only [hr3] at hok
        have hC_r3 := (c_Tok_put l G h a_kinds a_values a_places f_kinds f_values f_places v_size 2 i3.toInt32 x hv4)
        rw [hr3] at hC_r3
        refine ly_callV (rest := []) (wf := [(h, .inr (7, [.ref a_kinds, .ref a_values, .ref a_places, .int v_size])), (a_kinds, .inl (gI G, 2001, .inl r3.1)), (a_values, .inl (gI G, 2001, .inl r3.2.1)), (a_places, .inl (gI G, 2001, .inl r3.2.2)), (tx_h, .inr (4, [.ref tx_a_signs, .int tx__size])), (tx_a_signs, .inl (gC G, 2000, .inl tx_f_signs))]) ⟨hx, hb, hml, hown, hts⟩ hA hK hZ hP hD hS hC_r3 (cwV 3 hts g_Tok_36 rfl rfl rfl (by decide +kernel) ⟨Nat.le_of_ble_eq_true rfl, Nat.le_of_ble_eq_true rfl⟩) (ci := 7) (q0 := 0) rfl rfl rfl [0, 1, 2, 3] rfl (by decide) rfl rfl rfl hl.1 rfl (Nat.le_of_ble_eq_true rfl) d_Tok_cutNumber_65 ⟨Nat.le_of_ble_eq_true rfl, Nat.le_of_ble_eq_true rfl⟩ (st1 := []) (c1 := 0) (s1 := 0) rfl rfl rfl (fun H locs hP hD hS => ?_)
        refine lv_iload hx hb d_Tok_cutNumber_68 (lv_at hl 0 rfl) ?_
        exact ly_iret hx hb hr hlocks hP hD hS d_Tok_cutNumber_70 (by rw [lp_Tok_cutNumber_5] <;> simp only [hr2, hr3] <;> rw [if_neg c1, if_pos c2]) (by rw [lp_Tok_cutNumber_5] <;> simp only [hr2, hr3] <;> rw [if_neg c1, if_pos c2])
      rw [if_neg c2] at hok
      refine lv_lload_n hx hb d_Tok_cutNumber_24 rfl (lv_at hl 1 rfl) ?_
      refine lv_ldc2 (v := 10) hx hb hown (hts (.constantLong R_Tok 71 10) k_640) d_Tok_cutNumber_25 ?_
      refine lv_lmul hx hb d_Tok_cutNumber_28 ?_
      refine lv_aload_n hx hb d_Tok_cutNumber_29 rfl (lv_at hl 3 rfl) ?_
      refine lv_iload_n hx hb d_Tok_cutNumber_30 rfl (lv_at hl 4 rfl) ?_
      refine lv_iload hx hb d_Tok_cutNumber_31 (lv_at hl 0 rfl) ?_
      refine lv_iadd hx hb d_Tok_cutNumber_33 ?_
      obtain ⟨hv5, hok⟩ := hok
      obtain ⟨hv6, hok⟩ := hok
      obtain ⟨r4, hr4⟩ : ∃ r, (s_Text_at tx_f_signs tx__size (x + i5)) = r := ⟨_, rfl⟩
      try simp only [hr4] at hok
      have hC_r4 := (c_Text_at l G tx_h tx_a_signs tx_f_signs tx__size (x + i5) hv5 hv6)
      rw [hr4] at hC_r4
      refine ly_callV (rest := [.long (i3 * 10)]) (wf := [(h, .inr (7, [.ref a_kinds, .ref a_values, .ref a_places, .int v_size])), (a_kinds, .inl (gI G, 2001, .inl f_kinds)), (a_values, .inl (gI G, 2001, .inl f_values)), (a_places, .inl (gI G, 2001, .inl f_places)), (tx_h, .inr (4, [.ref tx_a_signs, .int tx__size])), (tx_a_signs, .inl (gC G, 2000, .inl tx_f_signs))]) ⟨hx, hb, hml, hown, hts⟩ hA hK hZ hP hD hS hC_r4 (cwV 1 hts g_Tok_28 rfl rfl rfl (by decide +kernel) ⟨Nat.le_of_ble_eq_true rfl, Nat.le_of_ble_eq_true rfl⟩) (ci := 4) (q0 := 4) rfl rfl rfl [4, 5] rfl (by decide) rfl rfl rfl hl.1 rfl (Nat.le_of_ble_eq_true rfl) d_Tok_cutNumber_34 ⟨Nat.le_of_ble_eq_true rfl, Nat.le_of_ble_eq_true rfl⟩ (st1 := [.int r4, .long (i3 * 10)]) (c1 := 0) (s1 := 0) rfl rfl rfl (fun H locs hP hD hS => ?_)
      refine lv_i2l (v := r4.toInt64) hx hb d_Tok_cutNumber_37 rfl ?_
      refine lv_ladd hx hb d_Tok_cutNumber_38 ?_
      refine lv_ldc2 (v := 48) hx hb hown (hts (.constantLong R_Tok 73 48) k_642) d_Tok_cutNumber_39 ?_
      refine lv_lsub hx hb d_Tok_cutNumber_42 ?_
      refine lv_lstore_n (lv' := [(3, .long (((i3 * 10) + r4.toInt64) - 48)), (5, .int i5), (0, .ref h), (1, .ref tx_h), (2, .int x)]) hx hb d_Tok_cutNumber_43 rfl hl (by decide) rfl (fun ls hl => ?_)
      refine lv_lload_n hx hb d_Tok_cutNumber_44 rfl (lv_at hl 0 rfl) ?_
      refine lv_ldc2 (v := 2147483647) hx hb hown (hts (.constantLong R_Tok 75 2147483647) k_643) d_Tok_cutNumber_45 ?_
      refine W.lcmp hx hb d_Tok_cutNumber_48 ?_
      refine lv_if_le (tgt := 54) hx hb d_Tok_cutNumber_49 (by decide) (fun c3 => ?_) (fun c3 => ?_)
      · skip
        rw [if_pos c3] at hok
        refine lv_iinc (v := i5 + 1) (lv' := [(5, .int (i5 + 1)), (3, .long (((i3 * 10) + r4.toInt64) - 48)), (0, .ref h), (1, .ref tx_h), (2, .int x)]) hx hb d_Tok_cutNumber_54 hl (k := 1) rfl (by rfl) (by decide) rfl (fun ls hl => ?_)
        refine lv_goto (tgt := 5) hx hb d_Tok_cutNumber_57 (by decide) ?_
        have e_ : (lp_Tok_cutNumber_5 f_kinds f_values f_places v_size tx_f_signs tx__size x (n + 1) i3 i5) = (lp_Tok_cutNumber_5 f_kinds f_values f_places v_size tx_f_signs tx__size x n (((i3 * 10) + r4.toInt64) - 48) (i5 + 1)) := (by rw [lp_Tok_cutNumber_5] <;> simp only [hr2, hr4] <;> rw [if_neg c1, if_neg c2, if_pos c3])
        rw [e_]
        exact ih (((i3 * 10) + r4.toInt64) - 48) (i5 + 1) hok _ _ _ hP hD hS (lv_sub hl [0, 1, 2, 3, 4] rfl)
      rw [if_neg c3] at hok
      refine lv_iconst (v := 0) hx hb d_Tok_cutNumber_52 (by decide) ?_
      exact ly_iret hx hb hr hlocks hP hD hS d_Tok_cutNumber_53 (by rw [lp_Tok_cutNumber_5] <;> simp only [hr2, hr4] <;> rw [if_neg c1, if_neg c2, if_neg c3]) (by rw [lp_Tok_cutNumber_5] <;> simp only [hr2, hr4] <;> rw [if_neg c1, if_neg c2, if_neg c3])
  have hl : lv_has ls 6 [(0, .ref h), (1, .ref tx_h), (2, .int x)] := hl
  rw [ok_Tok_cutNumber] at hok
  refine lv_lconst (v := 0) hx hb d_Tok_cutNumber_0 (by decide) ?_
  refine lv_lstore_n (lv' := [(3, .long 0), (0, .ref h), (1, .ref tx_h), (2, .int x)]) hx hb d_Tok_cutNumber_1 rfl hl (by decide) rfl (fun ls hl => ?_)
  refine lv_iconst (v := 0) hx hb d_Tok_cutNumber_2 (by decide) ?_
  refine lv_istore (lv' := [(5, .int 0), (3, .long 0), (0, .ref h), (1, .ref tx_h), (2, .int x)]) hx hb d_Tok_cutNumber_3 hl (by decide) rfl (fun ls hl => ?_)
  exact loop_5 2001 0 (0 : Int32) hok _ _ _ hP hD hS (lv_sub hl [0, 1, 2, 3, 4] rfl)

set_option maxHeartbeats 4000000 in
set_option maxRecDepth 100000 in
theorem c_Tok_cutWord (l : Launch) (G : GG) (h : Nat) (a_kinds : Nat) (a_values : Nat) (a_places : Nat) (tx_h : Nat) (tx_a_signs : Nat) (f_kinds : Nat → Int32) (f_values : Nat → Int32) (f_places : Nat → Int32) (v_size : Int32) (tx_f_signs : Nat → Int32) (tx__size : Int32) (x : Int32) (hok : ok_Tok_cutWord f_kinds f_values f_places v_size tx_f_signs tx__size x) : Det l G y_Tok_cutWord w_Tok_cutWord (rmD 5) 0 0 [.ref h, .ref tx_h, .int x] [(h, .inr (7, [.ref a_kinds, .ref a_values, .ref a_places, .int v_size])), (a_kinds, .inl (gI G, 2001, .inl f_kinds)), (a_values, .inl (gI G, 2001, .inl f_values)), (a_places, .inl (gI G, 2001, .inl f_places)), (tx_h, .inr (4, [.ref tx_a_signs, .int tx__size])), (tx_a_signs, .inl (gC G, 2000, .inl tx_f_signs))] (some (.int (s_Tok_cutWord f_kinds f_values f_places v_size tx_f_signs tx__size x).1)) [(h, .inr (7, [.ref a_kinds, .ref a_values, .ref a_places, .int v_size])), (a_kinds, .inl (gI G, 2001, .inl (s_Tok_cutWord f_kinds f_values f_places v_size tx_f_signs tx__size x).2.1)), (a_values, .inl (gI G, 2001, .inl (s_Tok_cutWord f_kinds f_values f_places v_size tx_f_signs tx__size x).2.2.1)), (a_places, .inl (gI G, 2001, .inl (s_Tok_cutWord f_kinds f_values f_places v_size tx_f_signs tx__size x).2.2.2)), (tx_h, .inr (4, [.ref tx_a_signs, .int tx__size])), (tx_a_signs, .inl (gC G, 2000, .inl tx_f_signs))] := by
  refine Det.of (cc := b_Tok_cutWord) (maxL := 6) (ret := (some .int)) (by decide) rfl (Nat.le_of_ble_eq_true rfl) ?_
  intro p e s m args below meth c A ls hx hb hr hml hown hts hlocks hin hA hK hZ hP hD hS hl
  have hts : ∀ w ∈ wG, w.before args s = true := fun w h => hts w (List.mem_cons_of_mem _ h)
  have hown : s.vm.findClass R_Tok = some m.cls := hown
  have loop_2 : ∀ (Q : State → Prop) (n : Nat) (i3 : Int32), (oklp_Tok_cutWord_2 tx_f_signs tx__size x n i3) → ∀ (H : Heap) (locs : List Loc) (ls : Array Slot), va_P G.1 classes [(h, .inr (7, [.ref a_kinds, .ref a_values, .ref a_places, .int v_size])), (a_kinds, .inl (gI G, 2001, .inl f_kinds)), (a_values, .inl (gI G, 2001, .inl f_values)), (a_places, .inl (gI G, 2001, .inl f_places)), (tx_h, .inr (4, [.ref tx_a_signs, .int tx__size])), (tx_a_signs, .inl (gC G, 2000, .inl tx_f_signs))] H → va_D A [(h, .inr (7, [.ref a_kinds, .ref a_values, .ref a_places, .int v_size])), (a_kinds, .inl (gI G, 2001, .inl f_kinds)), (a_values, .inl (gI G, 2001, .inl f_values)), (a_places, .inl (gI G, 2001, .inl f_places)), (tx_h, .inr (4, [.ref tx_a_signs, .int tx__size])), (tx_a_signs, .inl (gC G, 2000, .inl tx_f_signs))] → va_S A s.heap H locs → lv_has ls 6 [(3, .int i3), (0, .ref h), (1, .ref tx_h), (2, .int x)] → (∀ (H : Heap) (locs : List Loc) (ls : Array Slot), va_P G.1 classes [(h, .inr (7, [.ref a_kinds, .ref a_values, .ref a_places, .int v_size])), (a_kinds, .inl (gI G, 2001, .inl f_kinds)), (a_values, .inl (gI G, 2001, .inl f_values)), (a_places, .inl (gI G, 2001, .inl f_places)), (tx_h, .inr (4, [.ref tx_a_signs, .int tx__size])), (tx_a_signs, .inl (gC G, 2000, .inl tx_f_signs))] H → va_D A [(h, .inr (7, [.ref a_kinds, .ref a_values, .ref a_places, .int v_size])), (a_kinds, .inl (gI G, 2001, .inl f_kinds)), (a_values, .inl (gI G, 2001, .inl f_values)), (a_places, .inl (gI G, 2001, .inl f_places)), (tx_h, .inr (4, [.ref tx_a_signs, .int tx__size])), (tx_a_signs, .inl (gC G, 2000, .inl tx_f_signs))] → va_S A s.heap H locs → lv_has ls 6 [(3, .int ((lp_Tok_cutWord_2 tx_f_signs tx__size x n i3))), (0, .ref h), (1, .ref tx_h), (2, .int x)] → W p l e (rmD 5) s m args below meth c H locs 0 0 Q (F0 m 25 ls [])) → W p l e (rmD 5) s m args below meth c H locs 0 0 Q (F0 m 2 ls []) := by
    intro Q
    intro n
    induction n with
    | zero => intro i3 hok; exact absurd hok (fun h => h)
    | succ n ih =>
      intro i3 hok H locs ls hP hD hS hl kk
      rw [oklp_Tok_cutWord_2] at hok
      refine lv_iload_n hx hb d_Tok_cutWord_2 rfl (lv_at hl 0 rfl) ?_
      refine lv_sipush (v := 2000) hx hb d_Tok_cutWord_3 (by decide) ?_
      refine lv_icmp_ge (tgt := 25) hx hb d_Tok_cutWord_6 (by decide) (fun c1 => ?_) (fun c1 => ?_)
      · skip
        rw [if_pos c1] at hok
        have e_ : (lp_Tok_cutWord_2 tx_f_signs tx__size x (n + 1) i3) = i3 := (by rw [lp_Tok_cutWord_2, if_pos c1])
        rw [e_] at kk
        exact kk _ _ _ hP hD hS (lv_sub hl [0, 1, 2, 3] rfl)
      rw [if_neg c1] at hok
      refine lv_aload_n hx hb d_Tok_cutWord_9 rfl (lv_at hl 2 rfl) ?_
      refine lv_iload_n hx hb d_Tok_cutWord_10 rfl (lv_at hl 3 rfl) ?_
      refine lv_iload_n hx hb d_Tok_cutWord_11 rfl (lv_at hl 0 rfl) ?_
      refine lv_iadd hx hb d_Tok_cutWord_12 ?_
      obtain ⟨hv1, hok⟩ := hok
      obtain ⟨hv2, hok⟩ := hok
      obtain ⟨r1, hr1⟩ : ∃ r, (s_Text_isLetter tx_f_signs tx__size (x + i3)) = r := ⟨_, rfl⟩
      try simp only [hr1] at hok
      have hC_r1 := (c_Text_isLetter l G tx_h tx_a_signs tx_f_signs tx__size (x + i3) hv1 hv2)
      rw [hr1] at hC_r1
      have hf_r1_1 : isB r1 := by rw [← hr1]; exact z_Text_isLetter
      refine ly_callV (rest := []) (wf := [(h, .inr (7, [.ref a_kinds, .ref a_values, .ref a_places, .int v_size])), (a_kinds, .inl (gI G, 2001, .inl f_kinds)), (a_values, .inl (gI G, 2001, .inl f_values)), (a_places, .inl (gI G, 2001, .inl f_places)), (tx_h, .inr (4, [.ref tx_a_signs, .int tx__size])), (tx_a_signs, .inl (gC G, 2000, .inl tx_f_signs))]) ⟨hx, hb, hml, hown, hts⟩ hA hK hZ hP hD hS hC_r1 (cwV 1 hts g_Tok_40 rfl rfl rfl (by decide +kernel) ⟨Nat.le_of_ble_eq_true rfl, Nat.le_of_ble_eq_true rfl⟩) (ci := 4) (q0 := 4) rfl rfl rfl [4, 5] rfl (by decide) rfl rfl rfl hl.1 rfl (Nat.le_of_ble_eq_true rfl) d_Tok_cutWord_13 ⟨Nat.le_of_ble_eq_true rfl, Nat.le_of_ble_eq_true rfl⟩ (st1 := [.int r1]) (c1 := 0) (s1 := 0) rfl rfl rfl (fun H locs hP hD hS => ?_)
      refine lv_if_eq (tgt := 25) hx hb d_Tok_cutWord_16 (by decide) (fun c2 => ?_) (fun c2 => ?_)
      · skip
        rw [if_pos c2] at hok
        have e_ : (lp_Tok_cutWord_2 tx_f_signs tx__size x (n + 1) i3) = i3 := (by rw [lp_Tok_cutWord_2] <;> simp only [hr1] <;> rw [if_neg c1, if_pos c2])
        rw [e_] at kk
        exact kk _ _ _ hP hD hS (lv_sub hl [0, 1, 2, 3] rfl)
      rw [if_neg c2] at hok
      refine lv_iinc (v := i3 + 1) (lv' := [(3, .int (i3 + 1)), (0, .ref h), (1, .ref tx_h), (2, .int x)]) hx hb d_Tok_cutWord_19 hl (k := 0) rfl (by rfl) (by decide) rfl (fun ls hl => ?_)
      refine lv_goto (tgt := 2) hx hb d_Tok_cutWord_22 (by decide) ?_
      have e_ : (lp_Tok_cutWord_2 tx_f_signs tx__size x (n + 1) i3) = (lp_Tok_cutWord_2 tx_f_signs tx__size x n (i3 + 1)) := (by rw [lp_Tok_cutWord_2] <;> simp only [hr1] <;> rw [if_neg c1, if_neg c2])
      rw [e_] at kk
      exact ih (i3 + 1) hok _ _ _ hP hD hS (lv_sub hl [0, 1, 2, 3] rfl) kk
  have loop_64 : ∀ (n : Nat) (u3 : Int32) (i4 : Int32), (oklp_Tok_cutWord_64 f_kinds f_values f_places v_size tx_f_signs tx__size x n u3 i4) → ∀ (H : Heap) (locs : List Loc) (ls : Array Slot), va_P G.1 classes [(h, .inr (7, [.ref a_kinds, .ref a_values, .ref a_places, .int v_size])), (a_kinds, .inl (gI G, 2001, .inl f_kinds)), (a_values, .inl (gI G, 2001, .inl f_values)), (a_places, .inl (gI G, 2001, .inl f_places)), (tx_h, .inr (4, [.ref tx_a_signs, .int tx__size])), (tx_a_signs, .inl (gC G, 2000, .inl tx_f_signs))] H → va_D A [(h, .inr (7, [.ref a_kinds, .ref a_values, .ref a_places, .int v_size])), (a_kinds, .inl (gI G, 2001, .inl f_kinds)), (a_values, .inl (gI G, 2001, .inl f_values)), (a_places, .inl (gI G, 2001, .inl f_places)), (tx_h, .inr (4, [.ref tx_a_signs, .int tx__size])), (tx_a_signs, .inl (gC G, 2000, .inl tx_f_signs))] → va_S A s.heap H locs → lv_has ls 6 [(4, .int i4), (3, .int u3), (0, .ref h), (1, .ref tx_h), (2, .int x)] → W p l e (rmD 5) s m args below meth c H locs 0 0 (MQ below (ly_Q G A (some (.int (lp_Tok_cutWord_64 f_kinds f_values f_places v_size tx_f_signs tx__size x n u3 i4).1)) [(h, .inr (7, [.ref a_kinds, .ref a_values, .ref a_places, .int v_size])), (a_kinds, .inl (gI G, 2001, .inl (lp_Tok_cutWord_64 f_kinds f_values f_places v_size tx_f_signs tx__size x n u3 i4).2.1)), (a_values, .inl (gI G, 2001, .inl (lp_Tok_cutWord_64 f_kinds f_values f_places v_size tx_f_signs tx__size x n u3 i4).2.2.1)), (a_places, .inl (gI G, 2001, .inl (lp_Tok_cutWord_64 f_kinds f_values f_places v_size tx_f_signs tx__size x n u3 i4).2.2.2)), (tx_h, .inr (4, [.ref tx_a_signs, .int tx__size])), (tx_a_signs, .inl (gC G, 2000, .inl tx_f_signs))]) args s 0 0 A) (F0 m 64 ls []) := by
    intro n
    induction n with
    | zero => intro u3 i4 hok; exact absurd hok (fun h => h)
    | succ n ih =>
      intro u3 i4 hok H locs ls hP hD hS hl
      rw [oklp_Tok_cutWord_64] at hok
      refine lv_iload hx hb d_Tok_cutWord_64 (lv_at hl 0 rfl) ?_
      refine lv_bipush (v := 16) hx hb d_Tok_cutWord_66 (by decide) ?_
      refine lv_icmp_gt (tgt := 113) hx hb d_Tok_cutWord_68 (by decide) (fun c1 => ?_) (fun c1 => ?_)
      · skip
        rw [if_pos c1] at hok
        refine lv_iconst (v := 0) hx hb d_Tok_cutWord_113 (by decide) ?_
        exact ly_iret hx hb hr hlocks hP hD hS d_Tok_cutWord_114 (by rw [lp_Tok_cutWord_64, if_pos c1]) (by rw [lp_Tok_cutWord_64, if_pos c1])
      rw [if_neg c1] at hok
      refine lv_iload hx hb d_Tok_cutWord_71 (lv_at hl 0 rfl) ?_
      obtain ⟨r1, hr1⟩ : ∃ r, (s_Tok_spelling i4) = r := ⟨_, rfl⟩
      try simp only [hr1] at hok
      have hC_r1 := (c_Tok_spelling l G i4)
      rw [hr1] at hC_r1
      have hf_r1_1 : r1 < nS := by rw [← hr1]; exact k_spell
      refine ly_callS (rest := []) (wf := [(h, .inr (7, [.ref a_kinds, .ref a_values, .ref a_places, .int v_size])), (a_kinds, .inl (gI G, 2001, .inl f_kinds)), (a_values, .inl (gI G, 2001, .inl f_values)), (a_places, .inl (gI G, 2001, .inl f_places)), (tx_h, .inr (4, [.ref tx_a_signs, .int tx__size])), (tx_a_signs, .inl (gC G, 2000, .inl tx_f_signs))]) ⟨hx, hb, hml, hown, hts⟩ hA hK hZ hP hD hS hC_r1 (cwS 1 hts g_Tok_58 rfl rfl rfl (by decide +kernel) ⟨Nat.le_of_ble_eq_true rfl, Nat.le_of_ble_eq_true rfl⟩) [] rfl (by decide) rfl rfl rfl hl.1 rfl (Nat.le_of_ble_eq_true rfl) d_Tok_cutWord_73 ⟨Nat.le_of_ble_eq_true rfl, Nat.le_of_ble_eq_true rfl⟩ (st1 := [.ref (G.2.2.1 r1)]) (c1 := 0) (s1 := 0) rfl rfl rfl (fun H locs hP hD hS => ?_)
      refine lv_astore (lv' := [(5, .ref (G.2.2.1 r1)), (4, .int i4), (3, .int u3), (0, .ref h), (1, .ref tx_h), (2, .int x)]) hx hb d_Tok_cutWord_76 hl (by decide) rfl (fun ls hl => ?_)
      refine lv_aload hx hb d_Tok_cutWord_78 (lv_at hl 0 rfl) ?_
      obtain ⟨r2, hr2⟩ : ∃ r, (s_Str_length r1) = r := ⟨_, rfl⟩
      try simp only [hr2] at hok
      have hC_r2 := (c_Str_length l G r1 hf_r1_1)
      rw [hr2] at hC_r2
      refine ly_callL (rest := []) (wf := [(h, .inr (7, [.ref a_kinds, .ref a_values, .ref a_places, .int v_size])), (a_kinds, .inl (gI G, 2001, .inl f_kinds)), (a_values, .inl (gI G, 2001, .inl f_values)), (a_places, .inl (gI G, 2001, .inl f_places)), (tx_h, .inr (4, [.ref tx_a_signs, .int tx__size])), (tx_a_signs, .inl (gC G, 2000, .inl tx_f_signs))]) ⟨hx, hb, hml, hown, hts⟩ hA hK hZ hP hD hS hC_r2 (cwV 0 hts g_Tok_62 rfl rfl rfl (by decide +kernel) ⟨Nat.le_of_ble_eq_true rfl, Nat.le_of_ble_eq_true rfl⟩) (i := r1) hf_r1_1 [] rfl (by decide) rfl rfl rfl hl.1 rfl (Nat.le_of_ble_eq_true rfl) d_Tok_cutWord_80 ⟨Nat.le_of_ble_eq_true rfl, Nat.le_of_ble_eq_true rfl⟩ (st1 := [.int r2]) (c1 := 0) (s1 := 0) rfl rfl rfl (fun H locs hP hD hS => ?_)
      refine lv_iload_n hx hb d_Tok_cutWord_83 rfl (lv_at hl 2 rfl) ?_
      refine lv_icmp_ne (tgt := 107) hx hb d_Tok_cutWord_84 (by decide) (fun c2 => ?_) (fun c2 => ?_)
      · skip
        rw [if_neg c2] at hok
        refine lv_iinc (v := i4 + 1) (lv' := [(4, .int (i4 + 1)), (5, .ref (G.2.2.1 r1)), (3, .int u3), (0, .ref h), (1, .ref tx_h), (2, .int x)]) hx hb d_Tok_cutWord_107 hl (k := 1) rfl (by rfl) (by decide) rfl (fun ls hl => ?_)
        refine lv_goto (tgt := 64) hx hb d_Tok_cutWord_110 (by decide) ?_
        have e_ : (lp_Tok_cutWord_64 f_kinds f_values f_places v_size tx_f_signs tx__size x (n + 1) u3 i4) = (lp_Tok_cutWord_64 f_kinds f_values f_places v_size tx_f_signs tx__size x n u3 (i4 + 1)) := (by rw [lp_Tok_cutWord_64] <;> simp only [hr1, hr2] <;> rw [if_neg c1, if_neg c2])
        rw [e_]
        exact ih u3 (i4 + 1) hok _ _ _ hP hD hS (lv_sub hl [0, 2, 3, 4, 5] rfl)
      rw [if_pos c2] at hok
      refine lv_aload_n hx hb d_Tok_cutWord_87 rfl (lv_at hl 4 rfl) ?_
      refine lv_aload hx hb d_Tok_cutWord_88 (lv_at hl 0 rfl) ?_
      refine lv_iload_n hx hb d_Tok_cutWord_90 rfl (lv_at hl 5 rfl) ?_
      obtain ⟨hv1, hok⟩ := hok
      obtain ⟨r3, hr3⟩ : ∃ r, (lp_Text_spells_2 tx_f_signs tx__size r1 x 8 (0 : Int32)) = r := ⟨_, rfl⟩
      try simp only [hr3] at hok
      have hC_r3 := (c_Text_spells l G tx_h tx_a_signs tx_f_signs tx__size r1 x hf_r1_1 hv1)
      rw [hr3] at hC_r3
      have hf_r3_1 : isB r3 := by rw [← hr3]; exact zlp_Text_spells_2
      refine ly_callV (rest := []) (wf := [(h, .inr (7, [.ref a_kinds, .ref a_values, .ref a_places, .int v_size])), (a_kinds, .inl (gI G, 2001, .inl f_kinds)), (a_values, .inl (gI G, 2001, .inl f_values)), (a_places, .inl (gI G, 2001, .inl f_places)), (tx_h, .inr (4, [.ref tx_a_signs, .int tx__size])), (tx_a_signs, .inl (gC G, 2000, .inl tx_f_signs))]) ⟨hx, hb, hml, hown, hts⟩ hA hK hZ hP hD hS hC_r3 (cwV 2 hts g_Tok_67 rfl rfl rfl (by decide +kernel) ⟨Nat.le_of_ble_eq_true rfl, Nat.le_of_ble_eq_true rfl⟩) (ci := 4) (q0 := 4) rfl rfl rfl [4, 5] rfl (by decide) rfl rfl rfl hl.1 rfl (Nat.le_of_ble_eq_true rfl) d_Tok_cutWord_91 ⟨Nat.le_of_ble_eq_true rfl, Nat.le_of_ble_eq_true rfl⟩ (st1 := [.int r3]) (c1 := 0) (s1 := 0) rfl rfl rfl (fun H locs hP hD hS => ?_)
      refine lv_if_eq (tgt := 107) hx hb d_Tok_cutWord_94 (by decide) (fun c3 => ?_) (fun c3 => ?_)
      · skip
        rw [if_pos c3] at hok
        refine lv_iinc (v := i4 + 1) (lv' := [(4, .int (i4 + 1)), (5, .ref (G.2.2.1 r1)), (3, .int u3), (0, .ref h), (1, .ref tx_h), (2, .int x)]) hx hb d_Tok_cutWord_107 hl (k := 1) rfl (by rfl) (by decide) rfl (fun ls hl => ?_)
        refine lv_goto (tgt := 64) hx hb d_Tok_cutWord_110 (by decide) ?_
        have e_ : (lp_Tok_cutWord_64 f_kinds f_values f_places v_size tx_f_signs tx__size x (n + 1) u3 i4) = (lp_Tok_cutWord_64 f_kinds f_values f_places v_size tx_f_signs tx__size x n u3 (i4 + 1)) := (by rw [lp_Tok_cutWord_64] <;> simp only [hr1, hr2, hr3] <;> rw [if_neg c1, if_pos c2, if_pos c3])
        rw [e_]
        exact ih u3 (i4 + 1) hok _ _ _ hP hD hS (lv_sub hl [0, 2, 3, 4, 5] rfl)
      rw [if_neg c3] at hok
      refine lv_aload_n hx hb d_Tok_cutWord_97 rfl (lv_at hl 3 rfl) ?_
      refine lv_iload hx hb d_Tok_cutWord_98 (lv_at hl 1 rfl) ?_
      refine lv_iconst (v := 0) hx hb d_Tok_cutWord_100 (by decide) ?_
      refine lv_iload_n hx hb d_Tok_cutWord_101 rfl (lv_at hl 5 rfl) ?_
      obtain ⟨hv2, hok⟩ := hok
      obtain ⟨r4, hr4⟩ : ∃ r, (s_Tok_put f_kinds f_values f_places v_size i4 0 x) = r := ⟨_, rfl⟩
      try simp only [hr4] at hok
      have hC_r4 := (c_Tok_put l G h a_kinds a_values a_places f_kinds f_values f_places v_size i4 0 x hv2)
      rw [hr4] at hC_r4
      refine ly_callV (rest := []) (wf := [(h, .inr (7, [.ref a_kinds, .ref a_values, .ref a_places, .int v_size])), (a_kinds, .inl (gI G, 2001, .inl r4.1)), (a_values, .inl (gI G, 2001, .inl r4.2.1)), (a_places, .inl (gI G, 2001, .inl r4.2.2)), (tx_h, .inr (4, [.ref tx_a_signs, .int tx__size])), (tx_a_signs, .inl (gC G, 2000, .inl tx_f_signs))]) ⟨hx, hb, hml, hown, hts⟩ hA hK hZ hP hD hS hC_r4 (cwV 3 hts g_Tok_36 rfl rfl rfl (by decide +kernel) ⟨Nat.le_of_ble_eq_true rfl, Nat.le_of_ble_eq_true rfl⟩) (ci := 7) (q0 := 0) rfl rfl rfl [0, 1, 2, 3] rfl (by decide) rfl rfl rfl hl.1 rfl (Nat.le_of_ble_eq_true rfl) d_Tok_cutWord_102 ⟨Nat.le_of_ble_eq_true rfl, Nat.le_of_ble_eq_true rfl⟩ (st1 := []) (c1 := 0) (s1 := 0) rfl rfl rfl (fun H locs hP hD hS => ?_)
      refine lv_iload_n hx hb d_Tok_cutWord_105 rfl (lv_at hl 2 rfl) ?_
      exact ly_iret hx hb hr hlocks hP hD hS d_Tok_cutWord_106 (by rw [lp_Tok_cutWord_64] <;> simp only [hr1, hr2, hr3, hr4] <;> rw [if_neg c1, if_pos c2, if_neg c3]) (by rw [lp_Tok_cutWord_64] <;> simp only [hr1, hr2, hr3, hr4] <;> rw [if_neg c1, if_pos c2, if_neg c3])
  have hl : lv_has ls 6 [(0, .ref h), (1, .ref tx_h), (2, .int x)] := hl
  rw [ok_Tok_cutWord] at hok
  refine lv_iconst (v := 1) hx hb d_Tok_cutWord_0 (by decide) ?_
  refine lv_istore_n (lv' := [(3, .int 1), (0, .ref h), (1, .ref tx_h), (2, .int x)]) hx hb d_Tok_cutWord_1 rfl hl (by decide) rfl (fun ls hl => ?_)
  obtain ⟨hlp_r1, hok⟩ := hok
  obtain ⟨r1, hr1⟩ : ∃ r, (lp_Tok_cutWord_2 tx_f_signs tx__size x 2001 (1 : Int32)) = r := ⟨_, rfl⟩
  try simp only [hr1] at hok
  refine loop_2 _ 2001 (1 : Int32) hlp_r1 _ _ _ hP hD hS (lv_sub hl [0, 1, 2, 3] rfl) (fun H locs ls hP hD hS hl => ?_)
  try rw [hr1] at hP
  try rw [hr1] at hD
  try rw [hr1] at hl
  have hP : va_P G.1 classes [(h, .inr (7, [.ref a_kinds, .ref a_values, .ref a_places, .int v_size])), (a_kinds, .inl (gI G, 2001, .inl f_kinds)), (a_values, .inl (gI G, 2001, .inl f_values)), (a_places, .inl (gI G, 2001, .inl f_places)), (tx_h, .inr (4, [.ref tx_a_signs, .int tx__size])), (tx_a_signs, .inl (gC G, 2000, .inl tx_f_signs))] H := hP
  have hD : va_D A [(h, .inr (7, [.ref a_kinds, .ref a_values, .ref a_places, .int v_size])), (a_kinds, .inl (gI G, 2001, .inl f_kinds)), (a_values, .inl (gI G, 2001, .inl f_values)), (a_places, .inl (gI G, 2001, .inl f_places)), (tx_h, .inr (4, [.ref tx_a_signs, .int tx__size])), (tx_a_signs, .inl (gC G, 2000, .inl tx_f_signs))] := hD
  have hl : lv_has ls 6 [(3, .int r1), (0, .ref h), (1, .ref tx_h), (2, .int x)] := hl
  refine lv_iload_n hx hb d_Tok_cutWord_25 rfl (lv_at hl 0 rfl) ?_
  refine lv_iconst (v := 1) hx hb d_Tok_cutWord_26 (by decide) ?_
  refine lv_icmp_ne (tgt := 61) hx hb d_Tok_cutWord_27 (by decide) (fun c1 => ?_) (fun c1 => ?_)
  · skip
    rw [if_neg c1] at hok
    refine lv_iconst (v := 5) hx hb d_Tok_cutWord_61 (by decide) ?_
    refine lv_istore (lv' := [(4, .int 5), (3, .int r1), (0, .ref h), (1, .ref tx_h), (2, .int x)]) hx hb d_Tok_cutWord_62 hl (by decide) rfl (fun ls hl => ?_)
    have e_ : (s_Tok_cutWord f_kinds f_values f_places v_size tx_f_signs tx__size x) = (lp_Tok_cutWord_64 f_kinds f_values f_places v_size tx_f_signs tx__size x 13 r1 (5 : Int32)) := (by rw [s_Tok_cutWord] <;> simp only [hr1] <;> rw [if_neg c1])
    rw [e_]
    exact loop_64 13 r1 (5 : Int32) hok _ _ _ hP hD hS (lv_sub hl [0, 1, 2, 3, 4] rfl)
  rw [if_pos c1] at hok
  refine lv_aload_n hx hb d_Tok_cutWord_30 rfl (lv_at hl 2 rfl) ?_
  refine lv_iload_n hx hb d_Tok_cutWord_31 rfl (lv_at hl 3 rfl) ?_
  obtain ⟨hv1, hok⟩ := hok
  obtain ⟨hv2, hok⟩ := hok
  obtain ⟨r2, hr2⟩ : ∃ r, (s_Text_at tx_f_signs tx__size x) = r := ⟨_, rfl⟩
  try simp only [hr2] at hok
  have hC_r2 := (c_Text_at l G tx_h tx_a_signs tx_f_signs tx__size x hv1 hv2)
  rw [hr2] at hC_r2
  refine ly_callV (rest := []) (wf := [(h, .inr (7, [.ref a_kinds, .ref a_values, .ref a_places, .int v_size])), (a_kinds, .inl (gI G, 2001, .inl f_kinds)), (a_values, .inl (gI G, 2001, .inl f_values)), (a_places, .inl (gI G, 2001, .inl f_places)), (tx_h, .inr (4, [.ref tx_a_signs, .int tx__size])), (tx_a_signs, .inl (gC G, 2000, .inl tx_f_signs))]) ⟨hx, hb, hml, hown, hts⟩ hA hK hZ hP hD hS hC_r2 (cwV 1 hts g_Tok_28 rfl rfl rfl (by decide +kernel) ⟨Nat.le_of_ble_eq_true rfl, Nat.le_of_ble_eq_true rfl⟩) (ci := 4) (q0 := 4) rfl rfl rfl [4, 5] rfl (by decide) rfl rfl rfl hl.1 rfl (Nat.le_of_ble_eq_true rfl) d_Tok_cutWord_32 ⟨Nat.le_of_ble_eq_true rfl, Nat.le_of_ble_eq_true rfl⟩ (st1 := [.int r2]) (c1 := 0) (s1 := 0) rfl rfl rfl (fun H locs hP hD hS => ?_)
  refine lv_bipush (v := 97) hx hb d_Tok_cutWord_35 (by decide) ?_
  refine lv_isub hx hb d_Tok_cutWord_37 ?_
  refine lv_istore (lv' := [(4, .int (r2 - 97)), (3, .int r1), (0, .ref h), (1, .ref tx_h), (2, .int x)]) hx hb d_Tok_cutWord_38 hl (by decide) rfl (fun ls hl => ?_)
  refine lv_aload_n hx hb d_Tok_cutWord_40 rfl (lv_at hl 2 rfl) ?_
  refine lv_iload hx hb d_Tok_cutWord_41 (lv_at hl 0 rfl) ?_
  refine lv_bipush (v := 6) hx hb d_Tok_cutWord_43 (by decide) ?_
  refine lv_icmp_ge (tgt := 52) hx hb d_Tok_cutWord_45 (by decide) (fun c2 => ?_) (fun c2 => ?_)
  · skip
    rw [if_pos c2] at hok
    refine lv_iconst (v := 4) hx hb d_Tok_cutWord_52 (by decide) ?_
    refine lv_iload hx hb d_Tok_cutWord_53 (lv_at hl 0 rfl) ?_
    refine lv_iload_n hx hb d_Tok_cutWord_55 rfl (lv_at hl 4 rfl) ?_
    obtain ⟨hv3, hok⟩ := hok
    obtain ⟨r3, hr3⟩ : ∃ r, (s_Tok_put f_kinds f_values f_places v_size 4 (r2 - 97) x) = r := ⟨_, rfl⟩
    try simp only [hr3] at hok
    have hC_r3 := (c_Tok_put l G h a_kinds a_values a_places f_kinds f_values f_places v_size 4 (r2 - 97) x hv3)
    rw [hr3] at hC_r3
    refine ly_callV (rest := []) (wf := [(h, .inr (7, [.ref a_kinds, .ref a_values, .ref a_places, .int v_size])), (a_kinds, .inl (gI G, 2001, .inl r3.1)), (a_values, .inl (gI G, 2001, .inl r3.2.1)), (a_places, .inl (gI G, 2001, .inl r3.2.2)), (tx_h, .inr (4, [.ref tx_a_signs, .int tx__size])), (tx_a_signs, .inl (gC G, 2000, .inl tx_f_signs))]) ⟨hx, hb, hml, hown, hts⟩ hA hK hZ hP hD hS hC_r3 (cwV 3 hts g_Tok_36 rfl rfl rfl (by decide +kernel) ⟨Nat.le_of_ble_eq_true rfl, Nat.le_of_ble_eq_true rfl⟩) (ci := 7) (q0 := 0) rfl rfl rfl [0, 1, 2, 3] rfl (by decide) rfl rfl rfl hl.1 rfl (Nat.le_of_ble_eq_true rfl) d_Tok_cutWord_56 ⟨Nat.le_of_ble_eq_true rfl, Nat.le_of_ble_eq_true rfl⟩ (st1 := []) (c1 := 0) (s1 := 0) rfl rfl rfl (fun H locs hP hD hS => ?_)
    refine lv_iconst (v := 1) hx hb d_Tok_cutWord_59 (by decide) ?_
    exact ly_iret hx hb hr hlocks hP hD hS d_Tok_cutWord_60 (by rw [s_Tok_cutWord] <;> simp only [hr1, hr2, hr3] <;> rw [if_pos c1, if_pos c2]) (by rw [s_Tok_cutWord] <;> simp only [hr1, hr2, hr3] <;> rw [if_pos c1, if_pos c2])
  rw [if_neg c2] at hok
  refine lv_iconst (v := 3) hx hb d_Tok_cutWord_48 (by decide) ?_
  refine lv_goto (tgt := 53) hx hb d_Tok_cutWord_49 (by decide) ?_
  refine lv_iload hx hb d_Tok_cutWord_53 (lv_at hl 0 rfl) ?_
  refine lv_iload_n hx hb d_Tok_cutWord_55 rfl (lv_at hl 4 rfl) ?_
  obtain ⟨hv4, hok⟩ := hok
  obtain ⟨r4, hr4⟩ : ∃ r, (s_Tok_put f_kinds f_values f_places v_size 3 (r2 - 97) x) = r := ⟨_, rfl⟩
  try simp only [hr4] at hok
  have hC_r4 := (c_Tok_put l G h a_kinds a_values a_places f_kinds f_values f_places v_size 3 (r2 - 97) x hv4)
  rw [hr4] at hC_r4
  refine ly_callV (rest := []) (wf := [(h, .inr (7, [.ref a_kinds, .ref a_values, .ref a_places, .int v_size])), (a_kinds, .inl (gI G, 2001, .inl r4.1)), (a_values, .inl (gI G, 2001, .inl r4.2.1)), (a_places, .inl (gI G, 2001, .inl r4.2.2)), (tx_h, .inr (4, [.ref tx_a_signs, .int tx__size])), (tx_a_signs, .inl (gC G, 2000, .inl tx_f_signs))]) ⟨hx, hb, hml, hown, hts⟩ hA hK hZ hP hD hS hC_r4 (cwV 3 hts g_Tok_36 rfl rfl rfl (by decide +kernel) ⟨Nat.le_of_ble_eq_true rfl, Nat.le_of_ble_eq_true rfl⟩) (ci := 7) (q0 := 0) rfl rfl rfl [0, 1, 2, 3] rfl (by decide) rfl rfl rfl hl.1 rfl (Nat.le_of_ble_eq_true rfl) d_Tok_cutWord_56 ⟨Nat.le_of_ble_eq_true rfl, Nat.le_of_ble_eq_true rfl⟩ (st1 := []) (c1 := 0) (s1 := 0) rfl rfl rfl (fun H locs hP hD hS => ?_)
  refine lv_iconst (v := 1) hx hb d_Tok_cutWord_59 (by decide) ?_
  exact ly_iret hx hb hr hlocks hP hD hS d_Tok_cutWord_60 (by rw [s_Tok_cutWord] <;> simp only [hr1, hr2, hr4] <;> rw [if_pos c1, if_neg c2]) (by rw [s_Tok_cutWord] <;> simp only [hr1, hr2, hr4] <;> rw [if_pos c1, if_neg c2])

set_option maxHeartbeats 4000000 in
set_option maxRecDepth 100000 in
theorem c_Tok_cutSign (l : Launch) (G : GG) (h : Nat) (a_kinds : Nat) (a_values : Nat) (a_places : Nat) (tx_h : Nat) (tx_a_signs : Nat) (f_kinds : Nat → Int32) (f_values : Nat → Int32) (f_places : Nat → Int32) (v_size : Int32) (tx_f_signs : Nat → Int32) (tx__size : Int32) (x : Int32) (hok : ok_Tok_cutSign f_kinds f_values f_places v_size tx_f_signs tx__size x) : Det l G y_Tok_cutSign w_Tok_cutSign (rmD 5) 0 0 [.ref h, .ref tx_h, .int x] [(h, .inr (7, [.ref a_kinds, .ref a_values, .ref a_places, .int v_size])), (a_kinds, .inl (gI G, 2001, .inl f_kinds)), (a_values, .inl (gI G, 2001, .inl f_values)), (a_places, .inl (gI G, 2001, .inl f_places)), (tx_h, .inr (4, [.ref tx_a_signs, .int tx__size])), (tx_a_signs, .inl (gC G, 2000, .inl tx_f_signs))] (some (.int (lp_Tok_cutSign_3 f_kinds f_values f_places v_size tx_f_signs tx__size x 15 (17 : Int32)).1)) [(h, .inr (7, [.ref a_kinds, .ref a_values, .ref a_places, .int v_size])), (a_kinds, .inl (gI G, 2001, .inl (lp_Tok_cutSign_3 f_kinds f_values f_places v_size tx_f_signs tx__size x 15 (17 : Int32)).2.1)), (a_values, .inl (gI G, 2001, .inl (lp_Tok_cutSign_3 f_kinds f_values f_places v_size tx_f_signs tx__size x 15 (17 : Int32)).2.2.1)), (a_places, .inl (gI G, 2001, .inl (lp_Tok_cutSign_3 f_kinds f_values f_places v_size tx_f_signs tx__size x 15 (17 : Int32)).2.2.2)), (tx_h, .inr (4, [.ref tx_a_signs, .int tx__size])), (tx_a_signs, .inl (gC G, 2000, .inl tx_f_signs))] := by
  refine Det.of (cc := b_Tok_cutSign) (maxL := 5) (ret := (some .int)) (by decide) rfl (Nat.le_of_ble_eq_true rfl) ?_
  intro p e s m args below meth c A ls hx hb hr hml hown hts hlocks hin hA hK hZ hP hD hS hl
  have hts : ∀ w ∈ wG, w.before args s = true := fun w h => hts w (List.mem_cons_of_mem _ h)
  have hown : s.vm.findClass R_Tok = some m.cls := hown
  have loop_3 : ∀ (n : Nat) (i3 : Int32), (oklp_Tok_cutSign_3 f_kinds f_values f_places v_size tx_f_signs tx__size x n i3) → ∀ (H : Heap) (locs : List Loc) (ls : Array Slot), va_P G.1 classes [(h, .inr (7, [.ref a_kinds, .ref a_values, .ref a_places, .int v_size])), (a_kinds, .inl (gI G, 2001, .inl f_kinds)), (a_values, .inl (gI G, 2001, .inl f_values)), (a_places, .inl (gI G, 2001, .inl f_places)), (tx_h, .inr (4, [.ref tx_a_signs, .int tx__size])), (tx_a_signs, .inl (gC G, 2000, .inl tx_f_signs))] H → va_D A [(h, .inr (7, [.ref a_kinds, .ref a_values, .ref a_places, .int v_size])), (a_kinds, .inl (gI G, 2001, .inl f_kinds)), (a_values, .inl (gI G, 2001, .inl f_values)), (a_places, .inl (gI G, 2001, .inl f_places)), (tx_h, .inr (4, [.ref tx_a_signs, .int tx__size])), (tx_a_signs, .inl (gC G, 2000, .inl tx_f_signs))] → va_S A s.heap H locs → lv_has ls 5 [(3, .int i3), (0, .ref h), (1, .ref tx_h), (2, .int x)] → W p l e (rmD 5) s m args below meth c H locs 0 0 (MQ below (ly_Q G A (some (.int (lp_Tok_cutSign_3 f_kinds f_values f_places v_size tx_f_signs tx__size x n i3).1)) [(h, .inr (7, [.ref a_kinds, .ref a_values, .ref a_places, .int v_size])), (a_kinds, .inl (gI G, 2001, .inl (lp_Tok_cutSign_3 f_kinds f_values f_places v_size tx_f_signs tx__size x n i3).2.1)), (a_values, .inl (gI G, 2001, .inl (lp_Tok_cutSign_3 f_kinds f_values f_places v_size tx_f_signs tx__size x n i3).2.2.1)), (a_places, .inl (gI G, 2001, .inl (lp_Tok_cutSign_3 f_kinds f_values f_places v_size tx_f_signs tx__size x n i3).2.2.2)), (tx_h, .inr (4, [.ref tx_a_signs, .int tx__size])), (tx_a_signs, .inl (gC G, 2000, .inl tx_f_signs))]) args s 0 0 A) (F0 m 3 ls []) := by
    intro n
    induction n with
    | zero => intro i3 hok; exact absurd hok (fun h => h)
    | succ n ih =>
      intro i3 hok H locs ls hP hD hS hl
      rw [oklp_Tok_cutSign_3] at hok
      refine lv_iload_n hx hb d_Tok_cutSign_3 rfl (lv_at hl 0 rfl) ?_
      refine lv_bipush (v := 30) hx hb d_Tok_cutSign_4 (by decide) ?_
      refine lv_icmp_gt (tgt := 44) hx hb d_Tok_cutSign_6 (by decide) (fun c1 => ?_) (fun c1 => ?_)
      · skip
        rw [if_pos c1] at hok
        refine lv_iconst (v := 0) hx hb d_Tok_cutSign_44 (by decide) ?_
        exact ly_iret hx hb hr hlocks hP hD hS d_Tok_cutSign_45 (by rw [lp_Tok_cutSign_3, if_pos c1]) (by rw [lp_Tok_cutSign_3, if_pos c1])
      rw [if_neg c1] at hok
      refine lv_iload_n hx hb d_Tok_cutSign_9 rfl (lv_at hl 0 rfl) ?_
      obtain ⟨r1, hr1⟩ : ∃ r, (s_Tok_spelling i3) = r := ⟨_, rfl⟩
      try simp only [hr1] at hok
      have hC_r1 := (c_Tok_spelling l G i3)
      rw [hr1] at hC_r1
      have hf_r1_1 : r1 < nS := by rw [← hr1]; exact k_spell
      refine ly_callS (rest := []) (wf := [(h, .inr (7, [.ref a_kinds, .ref a_values, .ref a_places, .int v_size])), (a_kinds, .inl (gI G, 2001, .inl f_kinds)), (a_values, .inl (gI G, 2001, .inl f_values)), (a_places, .inl (gI G, 2001, .inl f_places)), (tx_h, .inr (4, [.ref tx_a_signs, .int tx__size])), (tx_a_signs, .inl (gC G, 2000, .inl tx_f_signs))]) ⟨hx, hb, hml, hown, hts⟩ hA hK hZ hP hD hS hC_r1 (cwS 1 hts g_Tok_58 rfl rfl rfl (by decide +kernel) ⟨Nat.le_of_ble_eq_true rfl, Nat.le_of_ble_eq_true rfl⟩) [] rfl (by decide) rfl rfl rfl hl.1 rfl (Nat.le_of_ble_eq_true rfl) d_Tok_cutSign_10 ⟨Nat.le_of_ble_eq_true rfl, Nat.le_of_ble_eq_true rfl⟩ (st1 := [.ref (G.2.2.1 r1)]) (c1 := 0) (s1 := 0) rfl rfl rfl (fun H locs hP hD hS => ?_)
      refine lv_astore (lv' := [(4, .ref (G.2.2.1 r1)), (3, .int i3), (0, .ref h), (1, .ref tx_h), (2, .int x)]) hx hb d_Tok_cutSign_13 hl (by decide) rfl (fun ls hl => ?_)
      refine lv_aload_n hx hb d_Tok_cutSign_15 rfl (lv_at hl 3 rfl) ?_
      refine lv_aload hx hb d_Tok_cutSign_16 (lv_at hl 0 rfl) ?_
      refine lv_iload_n hx hb d_Tok_cutSign_18 rfl (lv_at hl 4 rfl) ?_
      obtain ⟨hv1, hok⟩ := hok
      obtain ⟨r2, hr2⟩ : ∃ r, (lp_Text_spells_2 tx_f_signs tx__size r1 x 8 (0 : Int32)) = r := ⟨_, rfl⟩
      try simp only [hr2] at hok
      have hC_r2 := (c_Text_spells l G tx_h tx_a_signs tx_f_signs tx__size r1 x hf_r1_1 hv1)
      rw [hr2] at hC_r2
      have hf_r2_1 : isB r2 := by rw [← hr2]; exact zlp_Text_spells_2
      refine ly_callV (rest := []) (wf := [(h, .inr (7, [.ref a_kinds, .ref a_values, .ref a_places, .int v_size])), (a_kinds, .inl (gI G, 2001, .inl f_kinds)), (a_values, .inl (gI G, 2001, .inl f_values)), (a_places, .inl (gI G, 2001, .inl f_places)), (tx_h, .inr (4, [.ref tx_a_signs, .int tx__size])), (tx_a_signs, .inl (gC G, 2000, .inl tx_f_signs))]) ⟨hx, hb, hml, hown, hts⟩ hA hK hZ hP hD hS hC_r2 (cwV 2 hts g_Tok_67 rfl rfl rfl (by decide +kernel) ⟨Nat.le_of_ble_eq_true rfl, Nat.le_of_ble_eq_true rfl⟩) (ci := 4) (q0 := 4) rfl rfl rfl [4, 5] rfl (by decide) rfl rfl rfl hl.1 rfl (Nat.le_of_ble_eq_true rfl) d_Tok_cutSign_19 ⟨Nat.le_of_ble_eq_true rfl, Nat.le_of_ble_eq_true rfl⟩ (st1 := [.int r2]) (c1 := 0) (s1 := 0) rfl rfl rfl (fun H locs hP hD hS => ?_)
      refine lv_if_eq (tgt := 38) hx hb d_Tok_cutSign_22 (by decide) (fun c2 => ?_) (fun c2 => ?_)
      · skip
        rw [if_pos c2] at hok
        refine lv_iinc (v := i3 + 1) (lv' := [(3, .int (i3 + 1)), (4, .ref (G.2.2.1 r1)), (0, .ref h), (1, .ref tx_h), (2, .int x)]) hx hb d_Tok_cutSign_38 hl (k := 1) rfl (by rfl) (by decide) rfl (fun ls hl => ?_)
        refine lv_goto (tgt := 3) hx hb d_Tok_cutSign_41 (by decide) ?_
        have e_ : (lp_Tok_cutSign_3 f_kinds f_values f_places v_size tx_f_signs tx__size x (n + 1) i3) = (lp_Tok_cutSign_3 f_kinds f_values f_places v_size tx_f_signs tx__size x n (i3 + 1)) := (by rw [lp_Tok_cutSign_3] <;> simp only [hr1, hr2] <;> rw [if_neg c1, if_pos c2])
        rw [e_]
        exact ih (i3 + 1) hok _ _ _ hP hD hS (lv_sub hl [0, 2, 3, 4] rfl)
      rw [if_neg c2] at hok
      refine lv_aload_n hx hb d_Tok_cutSign_25 rfl (lv_at hl 2 rfl) ?_
      refine lv_iload_n hx hb d_Tok_cutSign_26 rfl (lv_at hl 1 rfl) ?_
      refine lv_iconst (v := 0) hx hb d_Tok_cutSign_27 (by decide) ?_
      refine lv_iload_n hx hb d_Tok_cutSign_28 rfl (lv_at hl 4 rfl) ?_
      obtain ⟨hv2, hok⟩ := hok
      obtain ⟨r3, hr3⟩ : ∃ r, (s_Tok_put f_kinds f_values f_places v_size i3 0 x) = r := ⟨_, rfl⟩
      try simp only [hr3] at hok
      have hC_r3 := (c_Tok_put l G h a_kinds a_values a_places f_kinds f_values f_places v_size i3 0 x hv2)
      rw [hr3] at hC_r3
      refine ly_callV (rest := []) (wf := [(h, .inr (7, [.ref a_kinds, .ref a_values, .ref a_places, .int v_size])), (a_kinds, .inl (gI G, 2001, .inl r3.1)), (a_values, .inl (gI G, 2001, .inl r3.2.1)), (a_places, .inl (gI G, 2001, .inl r3.2.2)), (tx_h, .inr (4, [.ref tx_a_signs, .int tx__size])), (tx_a_signs, .inl (gC G, 2000, .inl tx_f_signs))]) ⟨hx, hb, hml, hown, hts⟩ hA hK hZ hP hD hS hC_r3 (cwV 3 hts g_Tok_36 rfl rfl rfl (by decide +kernel) ⟨Nat.le_of_ble_eq_true rfl, Nat.le_of_ble_eq_true rfl⟩) (ci := 7) (q0 := 0) rfl rfl rfl [0, 1, 2, 3] rfl (by decide) rfl rfl rfl hl.1 rfl (Nat.le_of_ble_eq_true rfl) d_Tok_cutSign_29 ⟨Nat.le_of_ble_eq_true rfl, Nat.le_of_ble_eq_true rfl⟩ (st1 := []) (c1 := 0) (s1 := 0) rfl rfl rfl (fun H locs hP hD hS => ?_)
      refine lv_aload hx hb d_Tok_cutSign_32 (lv_at hl 0 rfl) ?_
      obtain ⟨r4, hr4⟩ : ∃ r, (s_Str_length r1) = r := ⟨_, rfl⟩
      try simp only [hr4] at hok
      have hC_r4 := (c_Str_length l G r1 hf_r1_1)
      rw [hr4] at hC_r4
      refine ly_callL (rest := []) (wf := [(h, .inr (7, [.ref a_kinds, .ref a_values, .ref a_places, .int v_size])), (a_kinds, .inl (gI G, 2001, .inl r3.1)), (a_values, .inl (gI G, 2001, .inl r3.2.1)), (a_places, .inl (gI G, 2001, .inl r3.2.2)), (tx_h, .inr (4, [.ref tx_a_signs, .int tx__size])), (tx_a_signs, .inl (gC G, 2000, .inl tx_f_signs))]) ⟨hx, hb, hml, hown, hts⟩ hA hK hZ hP hD hS hC_r4 (cwV 0 hts g_Tok_62 rfl rfl rfl (by decide +kernel) ⟨Nat.le_of_ble_eq_true rfl, Nat.le_of_ble_eq_true rfl⟩) (i := r1) hf_r1_1 [] rfl (by decide) rfl rfl rfl hl.1 rfl (Nat.le_of_ble_eq_true rfl) d_Tok_cutSign_34 ⟨Nat.le_of_ble_eq_true rfl, Nat.le_of_ble_eq_true rfl⟩ (st1 := [.int r4]) (c1 := 0) (s1 := 0) rfl rfl rfl (fun H locs hP hD hS => ?_)
      exact ly_iret hx hb hr hlocks hP hD hS d_Tok_cutSign_37 (by rw [lp_Tok_cutSign_3] <;> simp only [hr1, hr2, hr3, hr4] <;> rw [if_neg c1, if_neg c2]) (by rw [lp_Tok_cutSign_3] <;> simp only [hr1, hr2, hr3, hr4] <;> rw [if_neg c1, if_neg c2])
  have hl : lv_has ls 5 [(0, .ref h), (1, .ref tx_h), (2, .int x)] := hl
  rw [ok_Tok_cutSign] at hok
  refine lv_bipush (v := 17) hx hb d_Tok_cutSign_0 (by decide) ?_
  refine lv_istore_n (lv' := [(3, .int 17), (0, .ref h), (1, .ref tx_h), (2, .int x)]) hx hb d_Tok_cutSign_2 rfl hl (by decide) rfl (fun ls hl => ?_)
  exact loop_3 15 (17 : Int32) hok _ _ _ hP hD hS (lv_sub hl [0, 1, 2, 3] rfl)

set_option maxHeartbeats 4000000 in
set_option maxRecDepth 100000 in
theorem c_Tok_cutOne (l : Launch) (G : GG) (h : Nat) (a_kinds : Nat) (a_values : Nat) (a_places : Nat) (tx_h : Nat) (tx_a_signs : Nat) (f_kinds : Nat → Int32) (f_values : Nat → Int32) (f_places : Nat → Int32) (v_size : Int32) (tx_f_signs : Nat → Int32) (tx__size : Int32) (x : Int32) (hok : ok_Tok_cutOne f_kinds f_values f_places v_size tx_f_signs tx__size x) : Det l G y_Tok_cutOne w_Tok_cutOne (rmD 6) 0 0 [.ref h, .ref tx_h, .int x] [(h, .inr (7, [.ref a_kinds, .ref a_values, .ref a_places, .int v_size])), (a_kinds, .inl (gI G, 2001, .inl f_kinds)), (a_values, .inl (gI G, 2001, .inl f_values)), (a_places, .inl (gI G, 2001, .inl f_places)), (tx_h, .inr (4, [.ref tx_a_signs, .int tx__size])), (tx_a_signs, .inl (gC G, 2000, .inl tx_f_signs))] (some (.int (s_Tok_cutOne f_kinds f_values f_places v_size tx_f_signs tx__size x).1)) [(h, .inr (7, [.ref a_kinds, .ref a_values, .ref a_places, .int v_size])), (a_kinds, .inl (gI G, 2001, .inl (s_Tok_cutOne f_kinds f_values f_places v_size tx_f_signs tx__size x).2.1)), (a_values, .inl (gI G, 2001, .inl (s_Tok_cutOne f_kinds f_values f_places v_size tx_f_signs tx__size x).2.2.1)), (a_places, .inl (gI G, 2001, .inl (s_Tok_cutOne f_kinds f_values f_places v_size tx_f_signs tx__size x).2.2.2)), (tx_h, .inr (4, [.ref tx_a_signs, .int tx__size])), (tx_a_signs, .inl (gC G, 2000, .inl tx_f_signs))] := by
  refine Det.of (cc := b_Tok_cutOne) (maxL := 3) (ret := (some .int)) (by decide) rfl (Nat.le_of_ble_eq_true rfl) ?_
  intro p e s m args below meth c A ls hx hb hr hml hown hts hlocks hin hA hK hZ hP hD hS hl
  have hts : ∀ w ∈ wG, w.before args s = true := fun w h => hts w (List.mem_cons_of_mem _ h)
  have hown : s.vm.findClass R_Tok = some m.cls := hown
  have hl : lv_has ls 3 [(0, .ref h), (1, .ref tx_h), (2, .int x)] := hl
  rw [ok_Tok_cutOne] at hok
  refine lv_aload_n hx hb d_Tok_cutOne_0 rfl (lv_at hl 1 rfl) ?_
  refine lv_iload_n hx hb d_Tok_cutOne_1 rfl (lv_at hl 2 rfl) ?_
  obtain ⟨hv1, hok⟩ := hok
  obtain ⟨hv2, hok⟩ := hok
  obtain ⟨r1, hr1⟩ : ∃ r, (s_Text_isLetter tx_f_signs tx__size x) = r := ⟨_, rfl⟩
  try simp only [hr1] at hok
  have hC_r1 := (c_Text_isLetter l G tx_h tx_a_signs tx_f_signs tx__size x hv1 hv2)
  rw [hr1] at hC_r1
  have hf_r1_1 : isB r1 := by rw [← hr1]; exact z_Text_isLetter
  refine ly_callV (rest := []) (wf := [(h, .inr (7, [.ref a_kinds, .ref a_values, .ref a_places, .int v_size])), (a_kinds, .inl (gI G, 2001, .inl f_kinds)), (a_values, .inl (gI G, 2001, .inl f_values)), (a_places, .inl (gI G, 2001, .inl f_places)), (tx_h, .inr (4, [.ref tx_a_signs, .int tx__size])), (tx_a_signs, .inl (gC G, 2000, .inl tx_f_signs))]) ⟨hx, hb, hml, hown, hts⟩ hA hK hZ hP hD hS hC_r1 (cwV 1 hts g_Tok_40 rfl rfl rfl (by decide +kernel) ⟨Nat.le_of_ble_eq_true rfl, Nat.le_of_ble_eq_true rfl⟩) (ci := 4) (q0 := 4) rfl rfl rfl [4, 5] rfl (by decide) rfl rfl rfl hl.1 rfl (Nat.le_of_ble_eq_true rfl) d_Tok_cutOne_2 ⟨Nat.le_of_ble_eq_true rfl, Nat.le_of_ble_eq_true rfl⟩ (st1 := [.int r1]) (c1 := 0) (s1 := 0) rfl rfl rfl (fun H locs hP hD hS => ?_)
  refine lv_if_eq (tgt := 15) hx hb d_Tok_cutOne_5 (by decide) (fun c1 => ?_) (fun c1 => ?_)
  · skip
    rw [if_pos c1] at hok
    refine lv_aload_n hx hb d_Tok_cutOne_15 rfl (lv_at hl 1 rfl) ?_
    refine lv_iload_n hx hb d_Tok_cutOne_16 rfl (lv_at hl 2 rfl) ?_
    obtain ⟨hv3, hok⟩ := hok
    obtain ⟨hv4, hok⟩ := hok
    obtain ⟨r2, hr2⟩ : ∃ r, (s_Text_isDigit tx_f_signs tx__size x) = r := ⟨_, rfl⟩
    try simp only [hr2] at hok
    have hC_r2 := (c_Text_isDigit l G tx_h tx_a_signs tx_f_signs tx__size x hv3 hv4)
    rw [hr2] at hC_r2
    have hf_r2_1 : isB r2 := by rw [← hr2]; exact z_Text_isDigit
    refine ly_callV (rest := []) (wf := [(h, .inr (7, [.ref a_kinds, .ref a_values, .ref a_places, .int v_size])), (a_kinds, .inl (gI G, 2001, .inl f_kinds)), (a_values, .inl (gI G, 2001, .inl f_values)), (a_places, .inl (gI G, 2001, .inl f_places)), (tx_h, .inr (4, [.ref tx_a_signs, .int tx__size])), (tx_a_signs, .inl (gC G, 2000, .inl tx_f_signs))]) ⟨hx, hb, hml, hown, hts⟩ hA hK hZ hP hD hS hC_r2 (cwV 1 hts g_Tok_47 rfl rfl rfl (by decide +kernel) ⟨Nat.le_of_ble_eq_true rfl, Nat.le_of_ble_eq_true rfl⟩) (ci := 4) (q0 := 4) rfl rfl rfl [4, 5] rfl (by decide) rfl rfl rfl hl.1 rfl (Nat.le_of_ble_eq_true rfl) d_Tok_cutOne_17 ⟨Nat.le_of_ble_eq_true rfl, Nat.le_of_ble_eq_true rfl⟩ (st1 := [.int r2]) (c1 := 0) (s1 := 0) rfl rfl rfl (fun H locs hP hD hS => ?_)
    refine lv_if_eq (tgt := 32) hx hb d_Tok_cutOne_20 (by decide) (fun c2 => ?_) (fun c2 => ?_)
    · skip
      rw [if_pos c2] at hok
      refine lv_aload_n hx hb d_Tok_cutOne_32 rfl (lv_at hl 0 rfl) ?_
      refine lv_aload_n hx hb d_Tok_cutOne_33 rfl (lv_at hl 1 rfl) ?_
      refine lv_iload_n hx hb d_Tok_cutOne_34 rfl (lv_at hl 2 rfl) ?_
      obtain ⟨hv5, hok⟩ := hok
      obtain ⟨r3, hr3⟩ : ∃ r, (lp_Tok_cutSign_3 f_kinds f_values f_places v_size tx_f_signs tx__size x 15 (17 : Int32)) = r := ⟨_, rfl⟩
      try simp only [hr3] at hok
      have hC_r3 := (c_Tok_cutSign l G h a_kinds a_values a_places tx_h tx_a_signs f_kinds f_values f_places v_size tx_f_signs tx__size x hv5)
      rw [hr3] at hC_r3
      refine ly_callV (rest := []) (wf := [(h, .inr (7, [.ref a_kinds, .ref a_values, .ref a_places, .int v_size])), (a_kinds, .inl (gI G, 2001, .inl r3.2.1)), (a_values, .inl (gI G, 2001, .inl r3.2.2.1)), (a_places, .inl (gI G, 2001, .inl r3.2.2.2)), (tx_h, .inr (4, [.ref tx_a_signs, .int tx__size])), (tx_a_signs, .inl (gC G, 2000, .inl tx_f_signs))]) ⟨hx, hb, hml, hown, hts⟩ hA hK hZ hP hD hS hC_r3 (cwV 2 hts g_Tok_53 rfl rfl rfl (by decide +kernel) ⟨Nat.le_of_ble_eq_true rfl, Nat.le_of_ble_eq_true rfl⟩) (ci := 7) (q0 := 0) rfl rfl rfl [0, 1, 2, 3, 4, 5] rfl (by decide) rfl rfl rfl hl.1 rfl (Nat.le_of_ble_eq_true rfl) d_Tok_cutOne_35 ⟨Nat.le_of_ble_eq_true rfl, Nat.le_of_ble_eq_true rfl⟩ (st1 := [.int r3.1]) (c1 := 0) (s1 := 0) rfl rfl rfl (fun H locs hP hD hS => ?_)
      exact ly_iret hx hb hr hlocks hP hD hS d_Tok_cutOne_38 (by rw [s_Tok_cutOne] <;> simp only [hr1, hr2, hr3] <;> rw [if_pos c1, if_pos c2]) (by rw [s_Tok_cutOne] <;> simp only [hr1, hr2, hr3] <;> rw [if_pos c1, if_pos c2])
    rw [if_neg c2] at hok
    refine lv_aload_n hx hb d_Tok_cutOne_23 rfl (lv_at hl 0 rfl) ?_
    refine lv_aload_n hx hb d_Tok_cutOne_24 rfl (lv_at hl 1 rfl) ?_
    refine lv_iload_n hx hb d_Tok_cutOne_25 rfl (lv_at hl 2 rfl) ?_
    obtain ⟨hv6, hok⟩ := hok
    obtain ⟨r4, hr4⟩ : ∃ r, (lp_Tok_cutNumber_5 f_kinds f_values f_places v_size tx_f_signs tx__size x 2001 0 (0 : Int32)) = r := ⟨_, rfl⟩
    try simp only [hr4] at hok
    have hC_r4 := (c_Tok_cutNumber l G h a_kinds a_values a_places tx_h tx_a_signs f_kinds f_values f_places v_size tx_f_signs tx__size x hv6)
    rw [hr4] at hC_r4
    refine ly_callV (rest := []) (wf := [(h, .inr (7, [.ref a_kinds, .ref a_values, .ref a_places, .int v_size])), (a_kinds, .inl (gI G, 2001, .inl r4.2.1)), (a_values, .inl (gI G, 2001, .inl r4.2.2.1)), (a_places, .inl (gI G, 2001, .inl r4.2.2.2)), (tx_h, .inr (4, [.ref tx_a_signs, .int tx__size])), (tx_a_signs, .inl (gC G, 2000, .inl tx_f_signs))]) ⟨hx, hb, hml, hown, hts⟩ hA hK hZ hP hD hS hC_r4 (cwV 2 hts g_Tok_50 rfl rfl rfl (by decide +kernel) ⟨Nat.le_of_ble_eq_true rfl, Nat.le_of_ble_eq_true rfl⟩) (ci := 7) (q0 := 0) rfl rfl rfl [0, 1, 2, 3, 4, 5] rfl (by decide) rfl rfl rfl hl.1 rfl (Nat.le_of_ble_eq_true rfl) d_Tok_cutOne_26 ⟨Nat.le_of_ble_eq_true rfl, Nat.le_of_ble_eq_true rfl⟩ (st1 := [.int r4.1]) (c1 := 0) (s1 := 0) rfl rfl rfl (fun H locs hP hD hS => ?_)
    refine lv_goto (tgt := 38) hx hb d_Tok_cutOne_29 (by decide) ?_
    exact ly_iret hx hb hr hlocks hP hD hS d_Tok_cutOne_38 (by rw [s_Tok_cutOne] <;> simp only [hr1, hr2, hr4] <;> rw [if_pos c1, if_neg c2]) (by rw [s_Tok_cutOne] <;> simp only [hr1, hr2, hr4] <;> rw [if_pos c1, if_neg c2])
  rw [if_neg c1] at hok
  refine lv_aload_n hx hb d_Tok_cutOne_8 rfl (lv_at hl 0 rfl) ?_
  refine lv_aload_n hx hb d_Tok_cutOne_9 rfl (lv_at hl 1 rfl) ?_
  refine lv_iload_n hx hb d_Tok_cutOne_10 rfl (lv_at hl 2 rfl) ?_
  obtain ⟨hv7, hok⟩ := hok
  obtain ⟨r5, hr5⟩ : ∃ r, (s_Tok_cutWord f_kinds f_values f_places v_size tx_f_signs tx__size x) = r := ⟨_, rfl⟩
  try simp only [hr5] at hok
  have hC_r5 := (c_Tok_cutWord l G h a_kinds a_values a_places tx_h tx_a_signs f_kinds f_values f_places v_size tx_f_signs tx__size x hv7)
  rw [hr5] at hC_r5
  refine ly_callV (rest := []) (wf := [(h, .inr (7, [.ref a_kinds, .ref a_values, .ref a_places, .int v_size])), (a_kinds, .inl (gI G, 2001, .inl r5.2.1)), (a_values, .inl (gI G, 2001, .inl r5.2.2.1)), (a_places, .inl (gI G, 2001, .inl r5.2.2.2)), (tx_h, .inr (4, [.ref tx_a_signs, .int tx__size])), (tx_a_signs, .inl (gC G, 2000, .inl tx_f_signs))]) ⟨hx, hb, hml, hown, hts⟩ hA hK hZ hP hD hS hC_r5 (cwV 2 hts g_Tok_44 rfl rfl rfl (by decide +kernel) ⟨Nat.le_of_ble_eq_true rfl, Nat.le_of_ble_eq_true rfl⟩) (ci := 7) (q0 := 0) rfl rfl rfl [0, 1, 2, 3, 4, 5] rfl (by decide) rfl rfl rfl hl.1 rfl (Nat.le_of_ble_eq_true rfl) d_Tok_cutOne_11 ⟨Nat.le_of_ble_eq_true rfl, Nat.le_of_ble_eq_true rfl⟩ (st1 := [.int r5.1]) (c1 := 0) (s1 := 0) rfl rfl rfl (fun H locs hP hD hS => ?_)
  exact ly_iret hx hb hr hlocks hP hD hS d_Tok_cutOne_14 (by rw [s_Tok_cutOne] <;> simp only [hr1, hr5] <;> rw [if_neg c1]) (by rw [s_Tok_cutOne] <;> simp only [hr1, hr5] <;> rw [if_neg c1])

set_option maxHeartbeats 4000000 in
set_option maxRecDepth 100000 in
theorem c_Tok_cut (l : Launch) (G : GG) (h : Nat) (a_kinds : Nat) (a_values : Nat) (a_places : Nat) (tx_h : Nat) (tx_a_signs : Nat) (f_kinds : Nat → Int32) (f_values : Nat → Int32) (f_places : Nat → Int32) (v_size : Int32) (tx_f_signs : Nat → Int32) (tx__size : Int32) (hok : ok_Tok_cut f_kinds f_values f_places tx_f_signs tx__size) : Det l G y_Tok_cut w_Tok_cut (rmD 7) 0 0 [.ref h, .ref tx_h] [(h, .inr (7, [.ref a_kinds, .ref a_values, .ref a_places, .int v_size])), (a_kinds, .inl (gI G, 2001, .inl f_kinds)), (a_values, .inl (gI G, 2001, .inl f_values)), (a_places, .inl (gI G, 2001, .inl f_places)), (tx_h, .inr (4, [.ref tx_a_signs, .int tx__size])), (tx_a_signs, .inl (gC G, 2000, .inl tx_f_signs))] none [(h, .inr (7, [.ref a_kinds, .ref a_values, .ref a_places, .int (lp_Tok_cut_7 tx_f_signs tx__size 2001 (0 : Int32) f_kinds f_values f_places (0 : Int32)).1])), (a_kinds, .inl (gI G, 2001, .inl (lp_Tok_cut_7 tx_f_signs tx__size 2001 (0 : Int32) f_kinds f_values f_places (0 : Int32)).2.1)), (a_values, .inl (gI G, 2001, .inl (lp_Tok_cut_7 tx_f_signs tx__size 2001 (0 : Int32) f_kinds f_values f_places (0 : Int32)).2.2.1)), (a_places, .inl (gI G, 2001, .inl (lp_Tok_cut_7 tx_f_signs tx__size 2001 (0 : Int32) f_kinds f_values f_places (0 : Int32)).2.2.2)), (tx_h, .inr (4, [.ref tx_a_signs, .int tx__size])), (tx_a_signs, .inl (gC G, 2000, .inl tx_f_signs))] := by
  refine Det.of (cc := b_Tok_cut) (maxL := 4) (ret := none) (by decide) rfl (Nat.le_of_ble_eq_true rfl) ?_
  intro p e s m args below meth c A ls hx hb hr hml hown hts hlocks hin hA hK hZ hP hD hS hl
  have hts : ∀ w ∈ wG, w.before args s = true := fun w h => hts w (List.mem_cons_of_mem _ h)
  have hown : s.vm.findClass R_Tok = some m.cls := hown
  have loop_7 : ∀ (n : Nat) (i2 : Int32) (g_a_kinds : Nat → Int32) (g_a_values : Nat → Int32) (g_a_places : Nat → Int32) (w3_h : Int32), (oklp_Tok_cut_7 tx_f_signs tx__size n i2 g_a_kinds g_a_values g_a_places w3_h) → ∀ (H : Heap) (locs : List Loc) (ls : Array Slot), va_P G.1 classes [(h, .inr (7, [.ref a_kinds, .ref a_values, .ref a_places, .int w3_h])), (a_kinds, .inl (gI G, 2001, .inl g_a_kinds)), (a_values, .inl (gI G, 2001, .inl g_a_values)), (a_places, .inl (gI G, 2001, .inl g_a_places)), (tx_h, .inr (4, [.ref tx_a_signs, .int tx__size])), (tx_a_signs, .inl (gC G, 2000, .inl tx_f_signs))] H → va_D A [(h, .inr (7, [.ref a_kinds, .ref a_values, .ref a_places, .int w3_h])), (a_kinds, .inl (gI G, 2001, .inl g_a_kinds)), (a_values, .inl (gI G, 2001, .inl g_a_values)), (a_places, .inl (gI G, 2001, .inl g_a_places)), (tx_h, .inr (4, [.ref tx_a_signs, .int tx__size])), (tx_a_signs, .inl (gC G, 2000, .inl tx_f_signs))] → va_S A s.heap H locs → lv_has ls 4 [(2, .int i2), (0, .ref h), (1, .ref tx_h)] → W p l e (rmD 7) s m args below meth c H locs 0 0 (MQ below (ly_Q G A none [(h, .inr (7, [.ref a_kinds, .ref a_values, .ref a_places, .int (lp_Tok_cut_7 tx_f_signs tx__size n i2 g_a_kinds g_a_values g_a_places w3_h).1])), (a_kinds, .inl (gI G, 2001, .inl (lp_Tok_cut_7 tx_f_signs tx__size n i2 g_a_kinds g_a_values g_a_places w3_h).2.1)), (a_values, .inl (gI G, 2001, .inl (lp_Tok_cut_7 tx_f_signs tx__size n i2 g_a_kinds g_a_values g_a_places w3_h).2.2.1)), (a_places, .inl (gI G, 2001, .inl (lp_Tok_cut_7 tx_f_signs tx__size n i2 g_a_kinds g_a_values g_a_places w3_h).2.2.2)), (tx_h, .inr (4, [.ref tx_a_signs, .int tx__size])), (tx_a_signs, .inl (gC G, 2000, .inl tx_f_signs))]) args s 0 0 A) (F0 m 7 ls []) := by
    intro n
    induction n with
    | zero => intro i2 g_a_kinds g_a_values g_a_places w3_h hok; exact absurd hok (fun h => h)
    | succ n ih =>
      intro i2 g_a_kinds g_a_values g_a_places w3_h hok H locs ls hP hD hS hl
      rw [oklp_Tok_cut_7] at hok
      refine lv_iload_n hx hb d_Tok_cut_7 rfl (lv_at hl 0 rfl) ?_
      refine lv_aload_n hx hb d_Tok_cut_8 rfl (lv_at hl 2 rfl) ?_
      refine ly_callV (rest := [.int i2]) (wf := [(h, .inr (7, [.ref a_kinds, .ref a_values, .ref a_places, .int w3_h])), (a_kinds, .inl (gI G, 2001, .inl g_a_kinds)), (a_values, .inl (gI G, 2001, .inl g_a_values)), (a_places, .inl (gI G, 2001, .inl g_a_places)), (tx_h, .inr (4, [.ref tx_a_signs, .int tx__size])), (tx_a_signs, .inl (gC G, 2000, .inl tx_f_signs))]) ⟨hx, hb, hml, hown, hts⟩ hA hK hZ hP hD hS (c_Text_size l G tx_h tx_a_signs tx__size) (cwV 0 hts g_Tok_25 rfl rfl rfl (by decide +kernel) ⟨Nat.le_of_ble_eq_true rfl, Nat.le_of_ble_eq_true rfl⟩) (ci := 4) (q0 := 4) rfl rfl rfl [4] rfl (by decide) rfl rfl rfl hl.1 rfl (Nat.le_of_ble_eq_true rfl) d_Tok_cut_9 ⟨Nat.le_of_ble_eq_true rfl, Nat.le_of_ble_eq_true rfl⟩ (st1 := [.int tx__size, .int i2]) (c1 := 0) (s1 := 0) rfl rfl rfl (fun H locs hP hD hS => ?_)
      refine lv_icmp_ge (tgt := 68) hx hb d_Tok_cut_12 (by decide) (fun c1 => ?_) (fun c1 => ?_)
      · skip
        rw [if_pos c1] at hok
        refine lv_aload_n hx hb d_Tok_cut_68 rfl (lv_at hl 1 rfl) ?_
        refine lv_iconst (v := 0) hx hb d_Tok_cut_69 (by decide) ?_
        refine lv_iconst (v := 0) hx hb d_Tok_cut_70 (by decide) ?_
        refine lv_aload_n hx hb d_Tok_cut_71 rfl (lv_at hl 2 rfl) ?_
        refine ly_callV (rest := [.int 0, .int 0, .ref h]) (wf := [(h, .inr (7, [.ref a_kinds, .ref a_values, .ref a_places, .int w3_h])), (a_kinds, .inl (gI G, 2001, .inl g_a_kinds)), (a_values, .inl (gI G, 2001, .inl g_a_values)), (a_places, .inl (gI G, 2001, .inl g_a_places)), (tx_h, .inr (4, [.ref tx_a_signs, .int tx__size])), (tx_a_signs, .inl (gC G, 2000, .inl tx_f_signs))]) ⟨hx, hb, hml, hown, hts⟩ hA hK hZ hP hD hS (c_Text_size l G tx_h tx_a_signs tx__size) (cwV 0 hts g_Tok_25 rfl rfl rfl (by decide +kernel) ⟨Nat.le_of_ble_eq_true rfl, Nat.le_of_ble_eq_true rfl⟩) (ci := 4) (q0 := 4) rfl rfl rfl [4] rfl (by decide) rfl rfl rfl hl.1 rfl (Nat.le_of_ble_eq_true rfl) d_Tok_cut_72 ⟨Nat.le_of_ble_eq_true rfl, Nat.le_of_ble_eq_true rfl⟩ (st1 := [.int tx__size, .int 0, .int 0, .ref h]) (c1 := 0) (s1 := 0) rfl rfl rfl (fun H locs hP hD hS => ?_)
        obtain ⟨hv1, hok⟩ := hok
        obtain ⟨r1, hr1⟩ : ∃ r, (s_Tok_put g_a_kinds g_a_values g_a_places w3_h 0 0 tx__size) = r := ⟨_, rfl⟩
        try simp only [hr1] at hok
        have hC_r1 := (c_Tok_put l G h a_kinds a_values a_places g_a_kinds g_a_values g_a_places w3_h 0 0 tx__size hv1)
        rw [hr1] at hC_r1
        refine ly_callV (rest := []) (wf := [(h, .inr (7, [.ref a_kinds, .ref a_values, .ref a_places, .int w3_h])), (a_kinds, .inl (gI G, 2001, .inl r1.1)), (a_values, .inl (gI G, 2001, .inl r1.2.1)), (a_places, .inl (gI G, 2001, .inl r1.2.2)), (tx_h, .inr (4, [.ref tx_a_signs, .int tx__size])), (tx_a_signs, .inl (gC G, 2000, .inl tx_f_signs))]) ⟨hx, hb, hml, hown, hts⟩ hA hK hZ hP hD hS hC_r1 (cwV 3 hts g_Tok_36 rfl rfl rfl (by decide +kernel) ⟨Nat.le_of_ble_eq_true rfl, Nat.le_of_ble_eq_true rfl⟩) (ci := 7) (q0 := 0) rfl rfl rfl [0, 1, 2, 3] rfl (by decide) rfl rfl rfl hl.1 rfl (Nat.le_of_ble_eq_true rfl) d_Tok_cut_75 ⟨Nat.le_of_ble_eq_true rfl, Nat.le_of_ble_eq_true rfl⟩ (st1 := []) (c1 := 0) (s1 := 0) rfl rfl rfl (fun H locs hP hD hS => ?_)
        exact ly_vret hx hb hr hlocks hP hD hS d_Tok_cut_78 rfl (by rw [lp_Tok_cut_7] <;> simp only [hr1] <;> rw [if_pos c1])
      rw [if_neg c1] at hok
      refine lv_aload_n hx hb d_Tok_cut_15 rfl (lv_at hl 2 rfl) ?_
      refine lv_iload_n hx hb d_Tok_cut_16 rfl (lv_at hl 0 rfl) ?_
      obtain ⟨hv2, hok⟩ := hok
      obtain ⟨hv3, hok⟩ := hok
      obtain ⟨r2, hr2⟩ : ∃ r, (s_Text_at tx_f_signs tx__size i2) = r := ⟨_, rfl⟩
      try simp only [hr2] at hok
      have hC_r2 := (c_Text_at l G tx_h tx_a_signs tx_f_signs tx__size i2 hv2 hv3)
      rw [hr2] at hC_r2
      refine ly_callV (rest := []) (wf := [(h, .inr (7, [.ref a_kinds, .ref a_values, .ref a_places, .int w3_h])), (a_kinds, .inl (gI G, 2001, .inl g_a_kinds)), (a_values, .inl (gI G, 2001, .inl g_a_values)), (a_places, .inl (gI G, 2001, .inl g_a_places)), (tx_h, .inr (4, [.ref tx_a_signs, .int tx__size])), (tx_a_signs, .inl (gC G, 2000, .inl tx_f_signs))]) ⟨hx, hb, hml, hown, hts⟩ hA hK hZ hP hD hS hC_r2 (cwV 1 hts g_Tok_28 rfl rfl rfl (by decide +kernel) ⟨Nat.le_of_ble_eq_true rfl, Nat.le_of_ble_eq_true rfl⟩) (ci := 4) (q0 := 4) rfl rfl rfl [4, 5] rfl (by decide) rfl rfl rfl hl.1 rfl (Nat.le_of_ble_eq_true rfl) d_Tok_cut_17 ⟨Nat.le_of_ble_eq_true rfl, Nat.le_of_ble_eq_true rfl⟩ (st1 := [.int r2]) (c1 := 0) (s1 := 0) rfl rfl rfl (fun H locs hP hD hS => ?_)
      refine lv_bipush (v := 32) hx hb d_Tok_cut_20 (by decide) ?_
      refine lv_icmp_ne (tgt := 31) hx hb d_Tok_cut_22 (by decide) (fun c2 => ?_) (fun c2 => ?_)
      · skip
        rw [if_neg c2] at hok
        refine lv_aload_n hx hb d_Tok_cut_31 rfl (lv_at hl 1 rfl) ?_
        refine lv_aload_n hx hb d_Tok_cut_32 rfl (lv_at hl 2 rfl) ?_
        refine lv_iload_n hx hb d_Tok_cut_33 rfl (lv_at hl 0 rfl) ?_
        obtain ⟨hv4, hok⟩ := hok
        obtain ⟨r3, hr3⟩ : ∃ r, (s_Tok_cutOne g_a_kinds g_a_values g_a_places w3_h tx_f_signs tx__size i2) = r := ⟨_, rfl⟩
        try simp only [hr3] at hok
        have hC_r3 := (c_Tok_cutOne l G h a_kinds a_values a_places tx_h tx_a_signs g_a_kinds g_a_values g_a_places w3_h tx_f_signs tx__size i2 hv4)
        rw [hr3] at hC_r3
        refine ly_callV (rest := []) (wf := [(h, .inr (7, [.ref a_kinds, .ref a_values, .ref a_places, .int w3_h])), (a_kinds, .inl (gI G, 2001, .inl r3.2.1)), (a_values, .inl (gI G, 2001, .inl r3.2.2.1)), (a_places, .inl (gI G, 2001, .inl r3.2.2.2)), (tx_h, .inr (4, [.ref tx_a_signs, .int tx__size])), (tx_a_signs, .inl (gC G, 2000, .inl tx_f_signs))]) ⟨hx, hb, hml, hown, hts⟩ hA hK hZ hP hD hS hC_r3 (cwV 2 hts g_Tok_32 rfl rfl rfl (by decide +kernel) ⟨Nat.le_of_ble_eq_true rfl, Nat.le_of_ble_eq_true rfl⟩) (ci := 7) (q0 := 0) rfl rfl rfl [0, 1, 2, 3, 4, 5] rfl (by decide) rfl rfl rfl hl.1 rfl (Nat.le_of_ble_eq_true rfl) d_Tok_cut_34 ⟨Nat.le_of_ble_eq_true rfl, Nat.le_of_ble_eq_true rfl⟩ (st1 := [.int r3.1]) (c1 := 0) (s1 := 0) rfl rfl rfl (fun H locs hP hD hS => ?_)
        refine lv_istore_n (lv' := [(3, .int r3.1), (2, .int i2), (0, .ref h), (1, .ref tx_h)]) hx hb d_Tok_cut_37 rfl hl (by decide) rfl (fun ls hl => ?_)
        refine lv_iload_n hx hb d_Tok_cut_38 rfl (lv_at hl 0 rfl) ?_
        refine lv_iconst (v := 1) hx hb d_Tok_cut_39 (by decide) ?_
        refine lv_icmp_ge (tgt := 51) hx hb d_Tok_cut_40 (by decide) (fun c3 => ?_) (fun c3 => ?_)
        · skip
          rw [if_pos c3] at hok
          refine lv_aload_n hx hb d_Tok_cut_51 rfl (lv_at hl 2 rfl) ?_
          refine lv_dup hx hb d_Tok_cut_52 rfl ?_
          refine va_get (D := G.1) (ci := 7) (C := R_Tok) (T := F_Tok) (N := 4) (v := .int w3_h) hx hb hts i_Tok hown hK hP 0 rfl rfl 3 (by decide) (hts (.fieldLink R_Tok 21 "PrivateQueries$Tokens" "size" "I") k_65) (fun _ h9 => h9) rfl d_Tok_cut_53 ?_
          refine lv_iconst (v := 1) hx hb d_Tok_cut_56 (by decide) ?_
          refine lv_iadd hx hb d_Tok_cut_57 ?_
          refine va_put (D := G.1) (ci := 7) (v := .int (w3_h + 1)) (ty := .int) (C := R_Tok) (T := F_Tok) (N := 4) hx hb hts i_Tok t_Tok t_Tok_ok n_Tok hown hK hP hD hS 0 rfl rfl 3 (by decide) (hts (.fieldLink R_Tok 21 "PrivateQueries$Tokens" "size" "I") k_65) (fun _ h9 => h9) rfl (by decide +kernel) rfl rfl (Nat.le_of_ble_eq_true rfl) d_Tok_cut_58 (fun H locs hP hD hS => ?_)
          have hP : va_P G.1 classes [(h, .inr (7, [.ref a_kinds, .ref a_values, .ref a_places, .int (w3_h + 1)])), (a_kinds, .inl (gI G, 2001, .inl r3.2.1)), (a_values, .inl (gI G, 2001, .inl r3.2.2.1)), (a_places, .inl (gI G, 2001, .inl r3.2.2.2)), (tx_h, .inr (4, [.ref tx_a_signs, .int tx__size])), (tx_a_signs, .inl (gC G, 2000, .inl tx_f_signs))] H := hP
          have hD : va_D A [(h, .inr (7, [.ref a_kinds, .ref a_values, .ref a_places, .int (w3_h + 1)])), (a_kinds, .inl (gI G, 2001, .inl r3.2.1)), (a_values, .inl (gI G, 2001, .inl r3.2.2.1)), (a_places, .inl (gI G, 2001, .inl r3.2.2.2)), (tx_h, .inr (4, [.ref tx_a_signs, .int tx__size])), (tx_a_signs, .inl (gC G, 2000, .inl tx_f_signs))] := hD
          refine lv_iload_n hx hb d_Tok_cut_61 rfl (lv_at hl 1 rfl) ?_
          refine lv_iload_n hx hb d_Tok_cut_62 rfl (lv_at hl 0 rfl) ?_
          refine lv_iadd hx hb d_Tok_cut_63 ?_
          refine lv_istore_n (lv' := [(2, .int (i2 + r3.1)), (3, .int r3.1), (0, .ref h), (1, .ref tx_h)]) hx hb d_Tok_cut_64 rfl hl (by decide) rfl (fun ls hl => ?_)
          refine lv_goto (tgt := 7) hx hb d_Tok_cut_65 (by decide) ?_
          have e_ : (lp_Tok_cut_7 tx_f_signs tx__size (n + 1) i2 g_a_kinds g_a_values g_a_places w3_h) = (lp_Tok_cut_7 tx_f_signs tx__size n (i2 + r3.1) r3.2.1 r3.2.2.1 r3.2.2.2 (w3_h + 1)) := (by rw [lp_Tok_cut_7] <;> simp only [hr2, hr3] <;> rw [if_neg c1, if_neg c2, if_pos c3])
          rw [e_]
          exact ih (i2 + r3.1) r3.2.1 r3.2.2.1 r3.2.2.2 (w3_h + 1) hok _ _ _ hP hD hS (lv_sub hl [0, 2, 3] rfl)
        rw [if_neg c3] at hok
        refine lv_aload_n hx hb d_Tok_cut_43 rfl (lv_at hl 2 rfl) ?_
        refine lv_iconst (v := 1) hx hb d_Tok_cut_44 (by decide) ?_
        refine lv_iconst (v := 0) hx hb d_Tok_cut_45 (by decide) ?_
        refine lv_iload_n hx hb d_Tok_cut_46 rfl (lv_at hl 1 rfl) ?_
        obtain ⟨hv5, hok⟩ := hok
        obtain ⟨r4, hr4⟩ : ∃ r, (s_Tok_put r3.2.1 r3.2.2.1 r3.2.2.2 w3_h 1 0 i2) = r := ⟨_, rfl⟩
        try simp only [hr4] at hok
        have hC_r4 := (c_Tok_put l G h a_kinds a_values a_places r3.2.1 r3.2.2.1 r3.2.2.2 w3_h 1 0 i2 hv5)
        rw [hr4] at hC_r4
        refine ly_callV (rest := []) (wf := [(h, .inr (7, [.ref a_kinds, .ref a_values, .ref a_places, .int w3_h])), (a_kinds, .inl (gI G, 2001, .inl r4.1)), (a_values, .inl (gI G, 2001, .inl r4.2.1)), (a_places, .inl (gI G, 2001, .inl r4.2.2)), (tx_h, .inr (4, [.ref tx_a_signs, .int tx__size])), (tx_a_signs, .inl (gC G, 2000, .inl tx_f_signs))]) ⟨hx, hb, hml, hown, hts⟩ hA hK hZ hP hD hS hC_r4 (cwV 3 hts g_Tok_36 rfl rfl rfl (by decide +kernel) ⟨Nat.le_of_ble_eq_true rfl, Nat.le_of_ble_eq_true rfl⟩) (ci := 7) (q0 := 0) rfl rfl rfl [0, 1, 2, 3] rfl (by decide) rfl rfl rfl hl.1 rfl (Nat.le_of_ble_eq_true rfl) d_Tok_cut_47 ⟨Nat.le_of_ble_eq_true rfl, Nat.le_of_ble_eq_true rfl⟩ (st1 := []) (c1 := 0) (s1 := 0) rfl rfl rfl (fun H locs hP hD hS => ?_)
        exact ly_vret hx hb hr hlocks hP hD hS d_Tok_cut_50 rfl (by rw [lp_Tok_cut_7] <;> simp only [hr2, hr3, hr4] <;> rw [if_neg c1, if_neg c2, if_neg c3])
      rw [if_pos c2] at hok
      refine lv_iinc (v := i2 + 1) (lv' := [(2, .int (i2 + 1)), (0, .ref h), (1, .ref tx_h)]) hx hb d_Tok_cut_25 hl (k := 0) rfl (by rfl) (by decide) rfl (fun ls hl => ?_)
      refine lv_goto (tgt := 7) hx hb d_Tok_cut_28 (by decide) ?_
      have e_ : (lp_Tok_cut_7 tx_f_signs tx__size (n + 1) i2 g_a_kinds g_a_values g_a_places w3_h) = (lp_Tok_cut_7 tx_f_signs tx__size n (i2 + 1) g_a_kinds g_a_values g_a_places w3_h) := (by rw [lp_Tok_cut_7] <;> simp only [hr2] <;> rw [if_neg c1, if_pos c2])
      rw [e_]
      exact ih (i2 + 1) g_a_kinds g_a_values g_a_places w3_h hok _ _ _ hP hD hS (lv_sub hl [0, 1, 2] rfl)
  have hl : lv_has ls 4 [(0, .ref h), (1, .ref tx_h)] := hl
  rw [ok_Tok_cut] at hok
  refine lv_aload_n hx hb d_Tok_cut_0 rfl (lv_at hl 0 rfl) ?_
  refine lv_iconst (v := 0) hx hb d_Tok_cut_1 (by decide) ?_
  refine va_put (D := G.1) (ci := 7) (v := .int 0) (ty := .int) (C := R_Tok) (T := F_Tok) (N := 4) hx hb hts i_Tok t_Tok t_Tok_ok n_Tok hown hK hP hD hS 0 rfl rfl 3 (by decide) (hts (.fieldLink R_Tok 21 "PrivateQueries$Tokens" "size" "I") k_65) (fun _ h9 => h9) rfl (by decide +kernel) rfl rfl (Nat.le_of_ble_eq_true rfl) d_Tok_cut_2 (fun H locs hP hD hS => ?_)
  have hP : va_P G.1 classes [(h, .inr (7, [.ref a_kinds, .ref a_values, .ref a_places, .int 0])), (a_kinds, .inl (gI G, 2001, .inl f_kinds)), (a_values, .inl (gI G, 2001, .inl f_values)), (a_places, .inl (gI G, 2001, .inl f_places)), (tx_h, .inr (4, [.ref tx_a_signs, .int tx__size])), (tx_a_signs, .inl (gC G, 2000, .inl tx_f_signs))] H := hP
  have hD : va_D A [(h, .inr (7, [.ref a_kinds, .ref a_values, .ref a_places, .int 0])), (a_kinds, .inl (gI G, 2001, .inl f_kinds)), (a_values, .inl (gI G, 2001, .inl f_values)), (a_places, .inl (gI G, 2001, .inl f_places)), (tx_h, .inr (4, [.ref tx_a_signs, .int tx__size])), (tx_a_signs, .inl (gC G, 2000, .inl tx_f_signs))] := hD
  refine lv_iconst (v := 0) hx hb d_Tok_cut_5 (by decide) ?_
  refine lv_istore_n (lv' := [(2, .int 0), (0, .ref h), (1, .ref tx_h)]) hx hb d_Tok_cut_6 rfl hl (by decide) rfl (fun ls hl => ?_)
  exact loop_7 2001 (0 : Int32) f_kinds f_values f_places (0 : Int32) hok _ _ _ hP hD hS (lv_sub hl [0, 1, 2] rfl)

set_option maxHeartbeats 4000000 in
set_option maxRecDepth 100000 in
theorem c_Tok_writeOne (l : Launch) (G : GG) (w_h : Nat) (w_a_signs : Nat) (w_f_signs : Nat → Int32) (w__size : Int32) (x : Int32) (z : Int32) (hok : ok_Tok_writeOne w_f_signs w__size x z) : Det l G y_Tok_writeOne w_Tok_writeOne (rmD 5) 0 0 [.int x, .int z, .ref w_h] [(w_h, .inr (5, [.ref w_a_signs, .int w__size])), (w_a_signs, .inl (gC G, 4000, .inl w_f_signs))] none [(w_h, .inr (5, [.ref w_a_signs, .int (s_Tok_writeOne w_f_signs w__size x z).1])), (w_a_signs, .inl (gC G, 4000, .inl (s_Tok_writeOne w_f_signs w__size x z).2))] := by
  refine Det.of (cc := b_Tok_writeOne) (maxL := 3) (ret := none) (by decide) rfl (Nat.le_of_ble_eq_true rfl) ?_
  intro p e s m args below meth c A ls hx hb hr hml hown hts hlocks hin hA hK hZ hP hD hS hl
  have hts : ∀ w ∈ wG, w.before args s = true := fun w h => hts w (List.mem_cons_of_mem _ h)
  have hown : s.vm.findClass R_Tok = some m.cls := hown
  have hl : lv_has ls 3 [(0, .int x), (1, .int z), (2, .ref w_h)] := hl
  rw [ok_Tok_writeOne] at hok
  refine lv_iload_n hx hb d_Tok_writeOne_0 rfl (lv_at hl 0 rfl) ?_
  by_cases c1 : x = 2
  · skip
    rw [if_pos c1] at hok
    refine lv_tableIn (off := 27) (tgt := 28) hx hb d_Tok_writeOne_1 (by rw [c1]; decide) (by rw [c1]; decide) (by first | (rw [c1]; done) | (rw [c1]; rfl)) (by decide) ?_
    refine lv_aload_n hx hb d_Tok_writeOne_28 rfl (lv_at hl 2 rfl) ?_
    refine lv_iload_n hx hb d_Tok_writeOne_29 rfl (lv_at hl 1 rfl) ?_
    obtain ⟨hv1, hok⟩ := hok
    obtain ⟨r1, hr1⟩ : ∃ r, (lp_Out_addNumber z (((1000000000 : Int32).toInt.toNat) + 1) (1000000000 : Int32) w_f_signs w__size) = r := ⟨_, rfl⟩
    try simp only [hr1] at hok
    have hC_r1 := (c_Out_addNumber l G w_h w_a_signs w_f_signs w__size z hv1)
    rw [hr1] at hC_r1
    refine ly_callV (rest := []) (wf := [(w_h, .inr (5, [.ref w_a_signs, .int r1.1])), (w_a_signs, .inl (gC G, 4000, .inl r1.2))]) ⟨hx, hb, hml, hown, hts⟩ hA hK hZ hP hD hS hC_r1 (cwV 1 hts g_Tok_97 rfl rfl rfl (by decide +kernel) ⟨Nat.le_of_ble_eq_true rfl, Nat.le_of_ble_eq_true rfl⟩) (ci := 5) (q0 := 0) rfl rfl rfl [0, 1] rfl (by decide) rfl rfl rfl hl.1 rfl (Nat.le_of_ble_eq_true rfl) d_Tok_writeOne_30 ⟨Nat.le_of_ble_eq_true rfl, Nat.le_of_ble_eq_true rfl⟩ (st1 := []) (c1 := 0) (s1 := 0) rfl rfl rfl (fun H locs hP hD hS => ?_)
    refine lv_goto (tgt := 56) hx hb d_Tok_writeOne_33 (by decide) ?_
    exact ly_vret hx hb hr hlocks hP hD hS d_Tok_writeOne_56 rfl (by rw [s_Tok_writeOne] <;> simp only [hr1] <;> rw [if_pos c1])
  rw [if_neg c1] at hok
  by_cases c2 : x = 3
  · skip
    rw [if_pos c2] at hok
    refine lv_tableIn (off := 35) (tgt := 36) hx hb d_Tok_writeOne_1 (by rw [c2]; decide) (by rw [c2]; decide) (by first | (rw [c2]; done) | (rw [c2]; rfl)) (by decide) ?_
    refine lv_aload_n hx hb d_Tok_writeOne_36 rfl (lv_at hl 2 rfl) ?_
    refine lv_bipush (v := 97) hx hb d_Tok_writeOne_37 (by decide) ?_
    refine lv_iload_n hx hb d_Tok_writeOne_39 rfl (lv_at hl 1 rfl) ?_
    refine lv_iadd hx hb d_Tok_writeOne_40 ?_
    refine lv_i2c (v := ((97 + z).toUInt32 % 65536).toInt32) hx hb d_Tok_writeOne_41 rfl ?_
    obtain ⟨hv2, hok⟩ := hok
    obtain ⟨r2, hr2⟩ : ∃ r, (s_Out_add w_f_signs w__size (((97 + z).toUInt32 % 65536).toInt32)) = r := ⟨_, rfl⟩
    try simp only [hr2] at hok
    have hC_r2 := (c_Out_add l G w_h w_a_signs w_f_signs w__size (((97 + z).toUInt32 % 65536).toInt32) hv2)
    rw [hr2] at hC_r2
    have hf_r2_1 : up r2.1 4000 := by rw [← hr2]; exact (k_out hv2)
    refine ly_callV (rest := []) (wf := [(w_h, .inr (5, [.ref w_a_signs, .int r2.1])), (w_a_signs, .inl (gC G, 4000, .inl r2.2))]) ⟨hx, hb, hml, hown, hts⟩ hA hK hZ hP hD hS hC_r2 (cwV 1 hts g_Tok_80 rfl rfl rfl (by decide +kernel) ⟨Nat.le_of_ble_eq_true rfl, Nat.le_of_ble_eq_true rfl⟩) (ci := 5) (q0 := 0) rfl rfl rfl [0, 1] rfl (by decide) rfl rfl rfl hl.1 rfl (Nat.le_of_ble_eq_true rfl) d_Tok_writeOne_42 ⟨Nat.le_of_ble_eq_true rfl, Nat.le_of_ble_eq_true rfl⟩ (st1 := []) (c1 := 0) (s1 := 0) rfl rfl rfl (fun H locs hP hD hS => ?_)
    refine lv_goto (tgt := 56) hx hb d_Tok_writeOne_45 (by decide) ?_
    exact ly_vret hx hb hr hlocks hP hD hS d_Tok_writeOne_56 rfl (by rw [s_Tok_writeOne] <;> simp only [hr2] <;> rw [if_neg c1, if_pos c2])
  rw [if_neg c2] at hok
  by_cases c3 : x = 4
  · skip
    rw [if_pos c3] at hok
    refine lv_tableIn (off := 35) (tgt := 36) hx hb d_Tok_writeOne_1 (by rw [c3]; decide) (by rw [c3]; decide) (by first | (rw [c3]; done) | (rw [c3]; rfl)) (by decide) ?_
    refine lv_aload_n hx hb d_Tok_writeOne_36 rfl (lv_at hl 2 rfl) ?_
    refine lv_bipush (v := 97) hx hb d_Tok_writeOne_37 (by decide) ?_
    refine lv_iload_n hx hb d_Tok_writeOne_39 rfl (lv_at hl 1 rfl) ?_
    refine lv_iadd hx hb d_Tok_writeOne_40 ?_
    refine lv_i2c (v := ((97 + z).toUInt32 % 65536).toInt32) hx hb d_Tok_writeOne_41 rfl ?_
    obtain ⟨hv3, hok⟩ := hok
    obtain ⟨r3, hr3⟩ : ∃ r, (s_Out_add w_f_signs w__size (((97 + z).toUInt32 % 65536).toInt32)) = r := ⟨_, rfl⟩
    try simp only [hr3] at hok
    have hC_r3 := (c_Out_add l G w_h w_a_signs w_f_signs w__size (((97 + z).toUInt32 % 65536).toInt32) hv3)
    rw [hr3] at hC_r3
    have hf_r3_1 : up r3.1 4000 := by rw [← hr3]; exact (k_out hv3)
    refine ly_callV (rest := []) (wf := [(w_h, .inr (5, [.ref w_a_signs, .int r3.1])), (w_a_signs, .inl (gC G, 4000, .inl r3.2))]) ⟨hx, hb, hml, hown, hts⟩ hA hK hZ hP hD hS hC_r3 (cwV 1 hts g_Tok_80 rfl rfl rfl (by decide +kernel) ⟨Nat.le_of_ble_eq_true rfl, Nat.le_of_ble_eq_true rfl⟩) (ci := 5) (q0 := 0) rfl rfl rfl [0, 1] rfl (by decide) rfl rfl rfl hl.1 rfl (Nat.le_of_ble_eq_true rfl) d_Tok_writeOne_42 ⟨Nat.le_of_ble_eq_true rfl, Nat.le_of_ble_eq_true rfl⟩ (st1 := []) (c1 := 0) (s1 := 0) rfl rfl rfl (fun H locs hP hD hS => ?_)
    refine lv_goto (tgt := 56) hx hb d_Tok_writeOne_45 (by decide) ?_
    exact ly_vret hx hb hr hlocks hP hD hS d_Tok_writeOne_56 rfl (by rw [s_Tok_writeOne] <;> simp only [hr3] <;> rw [if_neg c1, if_neg c2, if_pos c3])
  rw [if_neg c3] at hok
  refine lv_tableOut (tgt := 48) hx hb d_Tok_writeOne_1 (by have gc1 := ly_ne c1 (by decide : (2 : Int32).toInt = 2); have gc2 := ly_ne c2 (by decide : (3 : Int32).toInt = 3); have gc3 := ly_ne c3 (by decide : (4 : Int32).toInt = 4); omega) (by decide) ?_
  refine lv_aload_n hx hb d_Tok_writeOne_48 rfl (lv_at hl 2 rfl) ?_
  refine lv_iload_n hx hb d_Tok_writeOne_49 rfl (lv_at hl 0 rfl) ?_
  obtain ⟨r4, hr4⟩ : ∃ r, (s_Tok_spelling x) = r := ⟨_, rfl⟩
  try simp only [hr4] at hok
  have hC_r4 := (c_Tok_spelling l G x)
  rw [hr4] at hC_r4
  have hf_r4_1 : r4 < nS := by rw [← hr4]; exact k_spell
  refine ly_callS (rest := [.ref w_h]) (wf := [(w_h, .inr (5, [.ref w_a_signs, .int w__size])), (w_a_signs, .inl (gC G, 4000, .inl w_f_signs))]) ⟨hx, hb, hml, hown, hts⟩ hA hK hZ hP hD hS hC_r4 (cwS 1 hts g_Tok_58 rfl rfl rfl (by decide +kernel) ⟨Nat.le_of_ble_eq_true rfl, Nat.le_of_ble_eq_true rfl⟩) [] rfl (by decide) rfl rfl rfl hl.1 rfl (Nat.le_of_ble_eq_true rfl) d_Tok_writeOne_50 ⟨Nat.le_of_ble_eq_true rfl, Nat.le_of_ble_eq_true rfl⟩ (st1 := [.ref (G.2.2.1 r4), .ref w_h]) (c1 := 0) (s1 := 0) rfl rfl rfl (fun H locs hP hD hS => ?_)
  obtain ⟨hv4, hok⟩ := hok
  obtain ⟨r5, hr5⟩ : ∃ r, (lp_Out_addWord_2 r4 8 (0 : Int32) w__size w_f_signs) = r := ⟨_, rfl⟩
  try simp only [hr5] at hok
  have hC_r5 := (c_Out_addWord l G w_h w_a_signs w_f_signs w__size r4 hf_r4_1 hv4)
  rw [hr5] at hC_r5
  refine ly_callV (rest := []) (wf := [(w_h, .inr (5, [.ref w_a_signs, .int r5.1])), (w_a_signs, .inl (gC G, 4000, .inl r5.2))]) ⟨hx, hb, hml, hown, hts⟩ hA hK hZ hP hD hS hC_r5 (cwV 1 hts g_Tok_101 rfl rfl rfl (by decide +kernel) ⟨Nat.le_of_ble_eq_true rfl, Nat.le_of_ble_eq_true rfl⟩) (ci := 5) (q0 := 0) rfl rfl rfl [0, 1] rfl (by decide) rfl rfl rfl hl.1 rfl (Nat.le_of_ble_eq_true rfl) d_Tok_writeOne_53 ⟨Nat.le_of_ble_eq_true rfl, Nat.le_of_ble_eq_true rfl⟩ (st1 := []) (c1 := 0) (s1 := 0) rfl rfl rfl (fun H locs hP hD hS => ?_)
  exact ly_vret hx hb hr hlocks hP hD hS d_Tok_writeOne_56 rfl (by rw [s_Tok_writeOne] <;> simp only [hr4, hr5] <;> rw [if_neg c1, if_neg c2, if_neg c3])

set_option maxHeartbeats 4000000 in
set_option maxRecDepth 100000 in
theorem c_Tok_writeInto (l : Launch) (G : GG) (h : Nat) (a_kinds : Nat) (a_values : Nat) (a_places : Nat) (w_h : Nat) (w_a_signs : Nat) (f_kinds : Nat → Int32) (f_values : Nat → Int32) (v_size : Int32) (w_f_signs : Nat → Int32) (w__size : Int32) (hok : ok_Tok_writeInto f_kinds f_values v_size w_f_signs w__size) : Det l G y_Tok_writeInto w_Tok_writeInto (rmD 6) 0 0 [.ref h, .ref w_h] [(h, .inr (7, [.ref a_kinds, .ref a_values, .ref a_places, .int v_size])), (a_kinds, .inl (gI G, 2001, .inl f_kinds)), (a_values, .inl (gI G, 2001, .inl f_values)), (w_h, .inr (5, [.ref w_a_signs, .int w__size])), (w_a_signs, .inl (gC G, 4000, .inl w_f_signs))] none [(h, .inr (7, [.ref a_kinds, .ref a_values, .ref a_places, .int v_size])), (a_kinds, .inl (gI G, 2001, .inl f_kinds)), (a_values, .inl (gI G, 2001, .inl f_values)), (w_h, .inr (5, [.ref w_a_signs, .int (lp_Tok_writeInto_2 f_kinds f_values v_size 2002 (0 : Int32) w__size w_f_signs).1])), (w_a_signs, .inl (gC G, 4000, .inl (lp_Tok_writeInto_2 f_kinds f_values v_size 2002 (0 : Int32) w__size w_f_signs).2))] := by
  refine Det.of (cc := b_Tok_writeInto) (maxL := 3) (ret := none) (by decide) rfl (Nat.le_of_ble_eq_true rfl) ?_
  intro p e s m args below meth c A ls hx hb hr hml hown hts hlocks hin hA hK hZ hP hD hS hl
  have hts : ∀ w ∈ wG, w.before args s = true := fun w h => hts w (List.mem_cons_of_mem _ h)
  have hown : s.vm.findClass R_Tok = some m.cls := hown
  have loop_2 : ∀ (n : Nat) (i2 : Int32) (c1_w_h : Int32) (g_w_a_signs : Nat → Int32), (oklp_Tok_writeInto_2 f_kinds f_values v_size n i2 c1_w_h g_w_a_signs) → ∀ (H : Heap) (locs : List Loc) (ls : Array Slot), va_P G.1 classes [(h, .inr (7, [.ref a_kinds, .ref a_values, .ref a_places, .int v_size])), (a_kinds, .inl (gI G, 2001, .inl f_kinds)), (a_values, .inl (gI G, 2001, .inl f_values)), (w_h, .inr (5, [.ref w_a_signs, .int c1_w_h])), (w_a_signs, .inl (gC G, 4000, .inl g_w_a_signs))] H → va_D A [(h, .inr (7, [.ref a_kinds, .ref a_values, .ref a_places, .int v_size])), (a_kinds, .inl (gI G, 2001, .inl f_kinds)), (a_values, .inl (gI G, 2001, .inl f_values)), (w_h, .inr (5, [.ref w_a_signs, .int c1_w_h])), (w_a_signs, .inl (gC G, 4000, .inl g_w_a_signs))] → va_S A s.heap H locs → lv_has ls 3 [(2, .int i2), (0, .ref h), (1, .ref w_h)] → W p l e (rmD 6) s m args below meth c H locs 0 0 (MQ below (ly_Q G A none [(h, .inr (7, [.ref a_kinds, .ref a_values, .ref a_places, .int v_size])), (a_kinds, .inl (gI G, 2001, .inl f_kinds)), (a_values, .inl (gI G, 2001, .inl f_values)), (w_h, .inr (5, [.ref w_a_signs, .int (lp_Tok_writeInto_2 f_kinds f_values v_size n i2 c1_w_h g_w_a_signs).1])), (w_a_signs, .inl (gC G, 4000, .inl (lp_Tok_writeInto_2 f_kinds f_values v_size n i2 c1_w_h g_w_a_signs).2))]) args s 0 0 A) (F0 m 2 ls []) := by
    intro n
    induction n with
    | zero => intro i2 c1_w_h g_w_a_signs hok; exact absurd hok (fun h => h)
    | succ n ih =>
      intro i2 c1_w_h g_w_a_signs hok H locs ls hP hD hS hl
      rw [oklp_Tok_writeInto_2] at hok
      refine lv_iload_n hx hb d_Tok_writeInto_2 rfl (lv_at hl 0 rfl) ?_
      refine lv_aload_n hx hb d_Tok_writeInto_3 rfl (lv_at hl 1 rfl) ?_
      refine va_get (D := G.1) (ci := 7) (C := R_Tok) (T := F_Tok) (N := 4) (v := .int v_size) hx hb hts i_Tok hown hK hP 0 rfl rfl 3 (by decide) (hts (.fieldLink R_Tok 21 "PrivateQueries$Tokens" "size" "I") k_65) (fun _ h9 => h9) rfl d_Tok_writeInto_4 ?_
      refine lv_icmp_ge (tgt := 61) hx hb d_Tok_writeInto_7 (by decide) (fun c1 => ?_) (fun c1 => ?_)
      · skip
        rw [if_pos c1] at hok
        exact ly_vret hx hb hr hlocks hP hD hS d_Tok_writeInto_61 rfl (by rw [lp_Tok_writeInto_2, if_pos c1])
      rw [if_neg c1] at hok
      refine lv_aload_n hx hb d_Tok_writeInto_10 rfl (lv_at hl 1 rfl) ?_
      refine lv_iload_n hx hb d_Tok_writeInto_11 rfl (lv_at hl 0 rfl) ?_
      obtain ⟨r1, hr1⟩ : ∃ r, (s_Tok_isIdle f_kinds f_values i2) = r := ⟨_, rfl⟩
      try simp only [hr1] at hok
      have hC_r1 := (c_Tok_isIdle l G h a_kinds a_values a_places f_kinds f_values v_size i2)
      rw [hr1] at hC_r1
      have hf_r1_1 : isB r1 := by rw [← hr1]; exact z_Tok_isIdle
      refine ly_callV (rest := []) (wf := [(h, .inr (7, [.ref a_kinds, .ref a_values, .ref a_places, .int v_size])), (a_kinds, .inl (gI G, 2001, .inl f_kinds)), (a_values, .inl (gI G, 2001, .inl f_values)), (w_h, .inr (5, [.ref w_a_signs, .int c1_w_h])), (w_a_signs, .inl (gC G, 4000, .inl g_w_a_signs))]) ⟨hx, hb, hml, hown, hts⟩ hA hK hZ hP hD hS hC_r1 (cwV 1 hts g_Tok_77 rfl rfl rfl (by decide +kernel) ⟨Nat.le_of_ble_eq_true rfl, Nat.le_of_ble_eq_true rfl⟩) (ci := 7) (q0 := 0) rfl rfl rfl [0, 1, 2] rfl (by decide) rfl rfl rfl hl.1 rfl (Nat.le_of_ble_eq_true rfl) d_Tok_writeInto_12 ⟨Nat.le_of_ble_eq_true rfl, Nat.le_of_ble_eq_true rfl⟩ (st1 := [.int r1]) (c1 := 0) (s1 := 0) rfl rfl rfl (fun H locs hP hD hS => ?_)
      refine lv_if_ne (tgt := 55) hx hb d_Tok_writeInto_15 (by decide) (fun c2 => ?_) (fun c2 => ?_)
      · skip
        rw [if_neg c2] at hok
        refine lv_iinc (v := i2 + 1) (lv' := [(2, .int (i2 + 1)), (0, .ref h), (1, .ref w_h)]) hx hb d_Tok_writeInto_55 hl (k := 0) rfl (by rfl) (by decide) rfl (fun ls hl => ?_)
        refine lv_goto (tgt := 2) hx hb d_Tok_writeInto_58 (by decide) ?_
        have e_ : (lp_Tok_writeInto_2 f_kinds f_values v_size (n + 1) i2 c1_w_h g_w_a_signs) = (lp_Tok_writeInto_2 f_kinds f_values v_size n (i2 + 1) c1_w_h g_w_a_signs) := (by rw [lp_Tok_writeInto_2] <;> simp only [hr1] <;> rw [if_neg c1, if_neg c2])
        rw [e_]
        exact ih (i2 + 1) c1_w_h g_w_a_signs hok _ _ _ hP hD hS (lv_sub hl [0, 1, 2] rfl)
      rw [if_pos c2] at hok
      refine lv_aload_n hx hb d_Tok_writeInto_18 rfl (lv_at hl 1 rfl) ?_
      refine lv_iload_n hx hb d_Tok_writeInto_19 rfl (lv_at hl 0 rfl) ?_
      refine lv_iconst (v := 1) hx hb d_Tok_writeInto_20 (by decide) ?_
      refine lv_isub hx hb d_Tok_writeInto_21 ?_
      obtain ⟨r2, hr2⟩ : ∃ r, (s_Tok_isIdle f_kinds f_values (i2 - 1)) = r := ⟨_, rfl⟩
      try simp only [hr2] at hok
      have hC_r2 := (c_Tok_isIdle l G h a_kinds a_values a_places f_kinds f_values v_size (i2 - 1))
      rw [hr2] at hC_r2
      have hf_r2_1 : isB r2 := by rw [← hr2]; exact z_Tok_isIdle
      refine ly_callV (rest := []) (wf := [(h, .inr (7, [.ref a_kinds, .ref a_values, .ref a_places, .int v_size])), (a_kinds, .inl (gI G, 2001, .inl f_kinds)), (a_values, .inl (gI G, 2001, .inl f_values)), (w_h, .inr (5, [.ref w_a_signs, .int c1_w_h])), (w_a_signs, .inl (gC G, 4000, .inl g_w_a_signs))]) ⟨hx, hb, hml, hown, hts⟩ hA hK hZ hP hD hS hC_r2 (cwV 1 hts g_Tok_77 rfl rfl rfl (by decide +kernel) ⟨Nat.le_of_ble_eq_true rfl, Nat.le_of_ble_eq_true rfl⟩) (ci := 7) (q0 := 0) rfl rfl rfl [0, 1, 2] rfl (by decide) rfl rfl rfl hl.1 rfl (Nat.le_of_ble_eq_true rfl) d_Tok_writeInto_22 ⟨Nat.le_of_ble_eq_true rfl, Nat.le_of_ble_eq_true rfl⟩ (st1 := [.int r2]) (c1 := 0) (s1 := 0) rfl rfl rfl (fun H locs hP hD hS => ?_)
      refine lv_if_eq (tgt := 31) hx hb d_Tok_writeInto_25 (by decide) (fun c3 => ?_) (fun c3 => ?_)
      · skip
        rw [if_pos c3] at hok
        refine lv_iload_n hx hb d_Tok_writeInto_31 rfl (lv_at hl 0 rfl) ?_
        refine lv_if_le (tgt := 41) hx hb d_Tok_writeInto_32 (by decide) (fun c4 => ?_) (fun c4 => ?_)
        · skip
          rw [if_pos c4] at hok
          refine lv_aload_n hx hb d_Tok_writeInto_41 rfl (lv_at hl 1 rfl) ?_
          refine lv_iload_n hx hb d_Tok_writeInto_42 rfl (lv_at hl 0 rfl) ?_
          obtain ⟨r3, hr3⟩ : ∃ r, (s_Tok_kindAt f_kinds i2) = r := ⟨_, rfl⟩
          try simp only [hr3] at hok
          have hC_r3 := (c_Tok_kindAt l G h a_kinds a_values a_places f_kinds v_size i2)
          rw [hr3] at hC_r3
          refine ly_callV (rest := []) (wf := [(h, .inr (7, [.ref a_kinds, .ref a_values, .ref a_places, .int v_size])), (a_kinds, .inl (gI G, 2001, .inl f_kinds)), (a_values, .inl (gI G, 2001, .inl f_values)), (w_h, .inr (5, [.ref w_a_signs, .int c1_w_h])), (w_a_signs, .inl (gC G, 4000, .inl g_w_a_signs))]) ⟨hx, hb, hml, hown, hts⟩ hA hK hZ hP hD hS hC_r3 (cwV 1 hts g_Tok_86 rfl rfl rfl (by decide +kernel) ⟨Nat.le_of_ble_eq_true rfl, Nat.le_of_ble_eq_true rfl⟩) (ci := 7) (q0 := 0) rfl rfl rfl [0, 1] rfl (by decide) rfl rfl rfl hl.1 rfl (Nat.le_of_ble_eq_true rfl) d_Tok_writeInto_43 ⟨Nat.le_of_ble_eq_true rfl, Nat.le_of_ble_eq_true rfl⟩ (st1 := [.int r3]) (c1 := 0) (s1 := 0) rfl rfl rfl (fun H locs hP hD hS => ?_)
          refine lv_aload_n hx hb d_Tok_writeInto_46 rfl (lv_at hl 1 rfl) ?_
          refine lv_iload_n hx hb d_Tok_writeInto_47 rfl (lv_at hl 0 rfl) ?_
          obtain ⟨r4, hr4⟩ : ∃ r, (s_Tok_valueAt f_values i2) = r := ⟨_, rfl⟩
          try simp only [hr4] at hok
          have hC_r4 := (c_Tok_valueAt l G h a_kinds a_values a_places f_values v_size i2)
          rw [hr4] at hC_r4
          refine ly_callV (rest := [.int r3]) (wf := [(h, .inr (7, [.ref a_kinds, .ref a_values, .ref a_places, .int v_size])), (a_kinds, .inl (gI G, 2001, .inl f_kinds)), (a_values, .inl (gI G, 2001, .inl f_values)), (w_h, .inr (5, [.ref w_a_signs, .int c1_w_h])), (w_a_signs, .inl (gC G, 4000, .inl g_w_a_signs))]) ⟨hx, hb, hml, hown, hts⟩ hA hK hZ hP hD hS hC_r4 (cwV 1 hts g_Tok_90 rfl rfl rfl (by decide +kernel) ⟨Nat.le_of_ble_eq_true rfl, Nat.le_of_ble_eq_true rfl⟩) (ci := 7) (q0 := 0) rfl rfl rfl [0, 2] rfl (by decide) rfl rfl rfl hl.1 rfl (Nat.le_of_ble_eq_true rfl) d_Tok_writeInto_48 ⟨Nat.le_of_ble_eq_true rfl, Nat.le_of_ble_eq_true rfl⟩ (st1 := [.int r4, .int r3]) (c1 := 0) (s1 := 0) rfl rfl rfl (fun H locs hP hD hS => ?_)
          refine lv_aload_n hx hb d_Tok_writeInto_51 rfl (lv_at hl 2 rfl) ?_
          obtain ⟨hv1, hok⟩ := hok
          obtain ⟨r5, hr5⟩ : ∃ r, (s_Tok_writeOne g_w_a_signs c1_w_h r3 r4) = r := ⟨_, rfl⟩
          try simp only [hr5] at hok
          have hC_r5 := (c_Tok_writeOne l G w_h w_a_signs g_w_a_signs c1_w_h r3 r4 hv1)
          rw [hr5] at hC_r5
          refine ly_callS (rest := []) (wf := [(h, .inr (7, [.ref a_kinds, .ref a_values, .ref a_places, .int v_size])), (a_kinds, .inl (gI G, 2001, .inl f_kinds)), (a_values, .inl (gI G, 2001, .inl f_values)), (w_h, .inr (5, [.ref w_a_signs, .int r5.1])), (w_a_signs, .inl (gC G, 4000, .inl r5.2))]) ⟨hx, hb, hml, hown, hts⟩ hA hK hZ hP hD hS hC_r5 (cwS 3 hts g_Tok_93 rfl rfl rfl (by decide +kernel) ⟨Nat.le_of_ble_eq_true rfl, Nat.le_of_ble_eq_true rfl⟩) [3, 4] rfl (by decide) rfl rfl rfl hl.1 rfl (Nat.le_of_ble_eq_true rfl) d_Tok_writeInto_52 ⟨Nat.le_of_ble_eq_true rfl, Nat.le_of_ble_eq_true rfl⟩ (st1 := []) (c1 := 0) (s1 := 0) rfl rfl rfl (fun H locs hP hD hS => ?_)
          refine lv_iinc (v := i2 + 1) (lv' := [(2, .int (i2 + 1)), (0, .ref h), (1, .ref w_h)]) hx hb d_Tok_writeInto_55 hl (k := 0) rfl (by rfl) (by decide) rfl (fun ls hl => ?_)
          refine lv_goto (tgt := 2) hx hb d_Tok_writeInto_58 (by decide) ?_
          have e_ : (lp_Tok_writeInto_2 f_kinds f_values v_size (n + 1) i2 c1_w_h g_w_a_signs) = (lp_Tok_writeInto_2 f_kinds f_values v_size n (i2 + 1) r5.1 r5.2) := (by rw [lp_Tok_writeInto_2] <;> simp only [hr1, hr2, hr3, hr4, hr5] <;> rw [if_neg c1, if_pos c2, if_pos c3, if_pos c4])
          rw [e_]
          exact ih (i2 + 1) r5.1 r5.2 hok _ _ _ hP hD hS (lv_sub hl [0, 1, 2] rfl)
        rw [if_neg c4] at hok
        refine lv_aload_n hx hb d_Tok_writeInto_35 rfl (lv_at hl 2 rfl) ?_
        refine lv_bipush (v := 32) hx hb d_Tok_writeInto_36 (by decide) ?_
        obtain ⟨hv2, hok⟩ := hok
        obtain ⟨r6, hr6⟩ : ∃ r, (s_Out_add g_w_a_signs c1_w_h 32) = r := ⟨_, rfl⟩
        try simp only [hr6] at hok
        have hC_r6 := (c_Out_add l G w_h w_a_signs g_w_a_signs c1_w_h 32 hv2)
        rw [hr6] at hC_r6
        have hf_r6_1 : up r6.1 4000 := by rw [← hr6]; exact (k_out hv2)
        refine ly_callV (rest := []) (wf := [(h, .inr (7, [.ref a_kinds, .ref a_values, .ref a_places, .int v_size])), (a_kinds, .inl (gI G, 2001, .inl f_kinds)), (a_values, .inl (gI G, 2001, .inl f_values)), (w_h, .inr (5, [.ref w_a_signs, .int r6.1])), (w_a_signs, .inl (gC G, 4000, .inl r6.2))]) ⟨hx, hb, hml, hown, hts⟩ hA hK hZ hP hD hS hC_r6 (cwV 1 hts g_Tok_80 rfl rfl rfl (by decide +kernel) ⟨Nat.le_of_ble_eq_true rfl, Nat.le_of_ble_eq_true rfl⟩) (ci := 5) (q0 := 3) rfl rfl rfl [3, 4] rfl (by decide) rfl rfl rfl hl.1 rfl (Nat.le_of_ble_eq_true rfl) d_Tok_writeInto_38 ⟨Nat.le_of_ble_eq_true rfl, Nat.le_of_ble_eq_true rfl⟩ (st1 := []) (c1 := 0) (s1 := 0) rfl rfl rfl (fun H locs hP hD hS => ?_)
        refine lv_aload_n hx hb d_Tok_writeInto_41 rfl (lv_at hl 1 rfl) ?_
        refine lv_iload_n hx hb d_Tok_writeInto_42 rfl (lv_at hl 0 rfl) ?_
        obtain ⟨r7, hr7⟩ : ∃ r, (s_Tok_kindAt f_kinds i2) = r := ⟨_, rfl⟩
        try simp only [hr7] at hok
        have hC_r7 := (c_Tok_kindAt l G h a_kinds a_values a_places f_kinds v_size i2)
        rw [hr7] at hC_r7
        refine ly_callV (rest := []) (wf := [(h, .inr (7, [.ref a_kinds, .ref a_values, .ref a_places, .int v_size])), (a_kinds, .inl (gI G, 2001, .inl f_kinds)), (a_values, .inl (gI G, 2001, .inl f_values)), (w_h, .inr (5, [.ref w_a_signs, .int r6.1])), (w_a_signs, .inl (gC G, 4000, .inl r6.2))]) ⟨hx, hb, hml, hown, hts⟩ hA hK hZ hP hD hS hC_r7 (cwV 1 hts g_Tok_86 rfl rfl rfl (by decide +kernel) ⟨Nat.le_of_ble_eq_true rfl, Nat.le_of_ble_eq_true rfl⟩) (ci := 7) (q0 := 0) rfl rfl rfl [0, 1] rfl (by decide) rfl rfl rfl hl.1 rfl (Nat.le_of_ble_eq_true rfl) d_Tok_writeInto_43 ⟨Nat.le_of_ble_eq_true rfl, Nat.le_of_ble_eq_true rfl⟩ (st1 := [.int r7]) (c1 := 0) (s1 := 0) rfl rfl rfl (fun H locs hP hD hS => ?_)
        refine lv_aload_n hx hb d_Tok_writeInto_46 rfl (lv_at hl 1 rfl) ?_
        refine lv_iload_n hx hb d_Tok_writeInto_47 rfl (lv_at hl 0 rfl) ?_
        obtain ⟨r8, hr8⟩ : ∃ r, (s_Tok_valueAt f_values i2) = r := ⟨_, rfl⟩
        try simp only [hr8] at hok
        have hC_r8 := (c_Tok_valueAt l G h a_kinds a_values a_places f_values v_size i2)
        rw [hr8] at hC_r8
        refine ly_callV (rest := [.int r7]) (wf := [(h, .inr (7, [.ref a_kinds, .ref a_values, .ref a_places, .int v_size])), (a_kinds, .inl (gI G, 2001, .inl f_kinds)), (a_values, .inl (gI G, 2001, .inl f_values)), (w_h, .inr (5, [.ref w_a_signs, .int r6.1])), (w_a_signs, .inl (gC G, 4000, .inl r6.2))]) ⟨hx, hb, hml, hown, hts⟩ hA hK hZ hP hD hS hC_r8 (cwV 1 hts g_Tok_90 rfl rfl rfl (by decide +kernel) ⟨Nat.le_of_ble_eq_true rfl, Nat.le_of_ble_eq_true rfl⟩) (ci := 7) (q0 := 0) rfl rfl rfl [0, 2] rfl (by decide) rfl rfl rfl hl.1 rfl (Nat.le_of_ble_eq_true rfl) d_Tok_writeInto_48 ⟨Nat.le_of_ble_eq_true rfl, Nat.le_of_ble_eq_true rfl⟩ (st1 := [.int r8, .int r7]) (c1 := 0) (s1 := 0) rfl rfl rfl (fun H locs hP hD hS => ?_)
        refine lv_aload_n hx hb d_Tok_writeInto_51 rfl (lv_at hl 2 rfl) ?_
        obtain ⟨hv3, hok⟩ := hok
        obtain ⟨r9, hr9⟩ : ∃ r, (s_Tok_writeOne r6.2 r6.1 r7 r8) = r := ⟨_, rfl⟩
        try simp only [hr9] at hok
        have hC_r9 := (c_Tok_writeOne l G w_h w_a_signs r6.2 r6.1 r7 r8 hv3)
        rw [hr9] at hC_r9
        refine ly_callS (rest := []) (wf := [(h, .inr (7, [.ref a_kinds, .ref a_values, .ref a_places, .int v_size])), (a_kinds, .inl (gI G, 2001, .inl f_kinds)), (a_values, .inl (gI G, 2001, .inl f_values)), (w_h, .inr (5, [.ref w_a_signs, .int r9.1])), (w_a_signs, .inl (gC G, 4000, .inl r9.2))]) ⟨hx, hb, hml, hown, hts⟩ hA hK hZ hP hD hS hC_r9 (cwS 3 hts g_Tok_93 rfl rfl rfl (by decide +kernel) ⟨Nat.le_of_ble_eq_true rfl, Nat.le_of_ble_eq_true rfl⟩) [3, 4] rfl (by decide) rfl rfl rfl hl.1 rfl (Nat.le_of_ble_eq_true rfl) d_Tok_writeInto_52 ⟨Nat.le_of_ble_eq_true rfl, Nat.le_of_ble_eq_true rfl⟩ (st1 := []) (c1 := 0) (s1 := 0) rfl rfl rfl (fun H locs hP hD hS => ?_)
        refine lv_iinc (v := i2 + 1) (lv' := [(2, .int (i2 + 1)), (0, .ref h), (1, .ref w_h)]) hx hb d_Tok_writeInto_55 hl (k := 0) rfl (by rfl) (by decide) rfl (fun ls hl => ?_)
        refine lv_goto (tgt := 2) hx hb d_Tok_writeInto_58 (by decide) ?_
        have e_ : (lp_Tok_writeInto_2 f_kinds f_values v_size (n + 1) i2 c1_w_h g_w_a_signs) = (lp_Tok_writeInto_2 f_kinds f_values v_size n (i2 + 1) r9.1 r9.2) := (by rw [lp_Tok_writeInto_2] <;> simp only [hr1, hr2, hr6, hr7, hr8, hr9] <;> rw [if_neg c1, if_pos c2, if_pos c3, if_neg c4])
        rw [e_]
        exact ih (i2 + 1) r9.1 r9.2 hok _ _ _ hP hD hS (lv_sub hl [0, 1, 2] rfl)
      rw [if_neg c3] at hok
      refine lv_goto (tgt := 55) hx hb d_Tok_writeInto_28 (by decide) ?_
      refine lv_iinc (v := i2 + 1) (lv' := [(2, .int (i2 + 1)), (0, .ref h), (1, .ref w_h)]) hx hb d_Tok_writeInto_55 hl (k := 0) rfl (by rfl) (by decide) rfl (fun ls hl => ?_)
      refine lv_goto (tgt := 2) hx hb d_Tok_writeInto_58 (by decide) ?_
      have e_ : (lp_Tok_writeInto_2 f_kinds f_values v_size (n + 1) i2 c1_w_h g_w_a_signs) = (lp_Tok_writeInto_2 f_kinds f_values v_size n (i2 + 1) c1_w_h g_w_a_signs) := (by rw [lp_Tok_writeInto_2] <;> simp only [hr1, hr2] <;> rw [if_neg c1, if_pos c2, if_neg c3])
      rw [e_]
      exact ih (i2 + 1) c1_w_h g_w_a_signs hok _ _ _ hP hD hS (lv_sub hl [0, 1, 2] rfl)
  have hl : lv_has ls 3 [(0, .ref h), (1, .ref w_h)] := hl
  rw [ok_Tok_writeInto] at hok
  refine lv_iconst (v := 0) hx hb d_Tok_writeInto_0 (by decide) ?_
  refine lv_istore_n (lv' := [(2, .int 0), (0, .ref h), (1, .ref w_h)]) hx hb d_Tok_writeInto_1 rfl hl (by decide) rfl (fun ls hl => ?_)
  exact loop_2 2002 (0 : Int32) w__size w_f_signs hok _ _ _ hP hD hS (lv_sub hl [0, 1, 2] rfl)
