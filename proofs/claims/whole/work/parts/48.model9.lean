theorem d_Mo_drop_0 : decode b_Mo_drop 0 = .ok (.iload_n 1, 1) := by decide +kernel
theorem d_Mo_drop_1 : decode b_Mo_drop 1 = .ok (.iconst 0, 1) := by decide +kernel
theorem d_Mo_drop_2 : decode b_Mo_drop 2 = .ok (.aload_n 0, 1) := by decide +kernel
theorem d_Mo_drop_3 : decode b_Mo_drop 3 = .ok (.getfield 141, 3) := by decide +kernel
theorem d_Mo_drop_6 : decode b_Mo_drop 6 = .ok (.iconst 1, 1) := by decide +kernel
theorem d_Mo_drop_7 : decode b_Mo_drop 7 = .ok (.isub, 1) := by decide +kernel
theorem d_Mo_drop_8 : decode b_Mo_drop 8 = .ok (.invokestatic 144, 3) := by decide +kernel
theorem d_Mo_drop_11 : decode b_Mo_drop 11 = .ok (.ifCond .ne 6, 3) := by decide +kernel
theorem d_Mo_drop_14 : decode b_Mo_drop 14 = .ok (.bipush (-101), 2) := by decide +kernel
theorem d_Mo_drop_16 : decode b_Mo_drop 16 = .ok (.ireturn, 1) := by decide +kernel
theorem d_Mo_drop_17 : decode b_Mo_drop 17 = .ok (.bipush 6, 2) := by decide +kernel
theorem d_Mo_drop_19 : decode b_Mo_drop 19 = .ok (.iload_n 1, 1) := by decide +kernel
theorem d_Mo_drop_20 : decode b_Mo_drop 20 = .ok (.imul, 1) := by decide +kernel
theorem d_Mo_drop_21 : decode b_Mo_drop 21 = .ok (.istore_n 2, 1) := by decide +kernel
theorem d_Mo_drop_22 : decode b_Mo_drop 22 = .ok (.iload_n 2, 1) := by decide +kernel
theorem d_Mo_drop_23 : decode b_Mo_drop 23 = .ok (.bipush 6, 2) := by decide +kernel
theorem d_Mo_drop_25 : decode b_Mo_drop 25 = .ok (.aload_n 0, 1) := by decide +kernel
theorem d_Mo_drop_26 : decode b_Mo_drop 26 = .ok (.getfield 141, 3) := by decide +kernel
theorem d_Mo_drop_29 : decode b_Mo_drop 29 = .ok (.imul, 1) := by decide +kernel
theorem d_Mo_drop_30 : decode b_Mo_drop 30 = .ok (.bipush 6, 2) := by decide +kernel
theorem d_Mo_drop_32 : decode b_Mo_drop 32 = .ok (.isub, 1) := by decide +kernel
theorem d_Mo_drop_33 : decode b_Mo_drop 33 = .ok (.if_icmp .ge 24, 3) := by decide +kernel
theorem d_Mo_drop_36 : decode b_Mo_drop 36 = .ok (.aload_n 0, 1) := by decide +kernel
theorem d_Mo_drop_37 : decode b_Mo_drop 37 = .ok (.getfield 7, 3) := by decide +kernel
theorem d_Mo_drop_40 : decode b_Mo_drop 40 = .ok (.iload_n 2, 1) := by decide +kernel
theorem d_Mo_drop_41 : decode b_Mo_drop 41 = .ok (.aload_n 0, 1) := by decide +kernel
theorem d_Mo_drop_42 : decode b_Mo_drop 42 = .ok (.getfield 7, 3) := by decide +kernel
theorem d_Mo_drop_45 : decode b_Mo_drop 45 = .ok (.iload_n 2, 1) := by decide +kernel
theorem d_Mo_drop_46 : decode b_Mo_drop 46 = .ok (.bipush 6, 2) := by decide +kernel
theorem d_Mo_drop_48 : decode b_Mo_drop 48 = .ok (.iadd, 1) := by decide +kernel
theorem d_Mo_drop_49 : decode b_Mo_drop 49 = .ok (.iaload, 1) := by decide +kernel
theorem d_Mo_drop_50 : decode b_Mo_drop 50 = .ok (.iastore, 1) := by decide +kernel
theorem d_Mo_drop_51 : decode b_Mo_drop 51 = .ok (.iinc 2 1, 3) := by decide +kernel
theorem d_Mo_drop_54 : decode b_Mo_drop 54 = .ok (.goto (-32), 3) := by decide +kernel
theorem d_Mo_drop_57 : decode b_Mo_drop 57 = .ok (.aload_n 0, 1) := by decide +kernel
theorem d_Mo_drop_58 : decode b_Mo_drop 58 = .ok (.dup, 1) := by decide +kernel
theorem d_Mo_drop_59 : decode b_Mo_drop 59 = .ok (.getfield 141, 3) := by decide +kernel
theorem d_Mo_drop_62 : decode b_Mo_drop 62 = .ok (.iconst 1, 1) := by decide +kernel
theorem d_Mo_drop_63 : decode b_Mo_drop 63 = .ok (.isub, 1) := by decide +kernel
theorem d_Mo_drop_64 : decode b_Mo_drop 64 = .ok (.putfield 141, 3) := by decide +kernel
theorem d_Mo_drop_67 : decode b_Mo_drop 67 = .ok (.aload_n 0, 1) := by decide +kernel
theorem d_Mo_drop_68 : decode b_Mo_drop 68 = .ok (.getfield 141, 3) := by decide +kernel
theorem d_Mo_drop_71 : decode b_Mo_drop 71 = .ok (.ireturn, 1) := by decide +kernel
theorem d_Mo_unitsOf_0 : decode b_Mo_unitsOf 0 = .ok (.aload_n 0, 1) := by decide +kernel
theorem d_Mo_unitsOf_1 : decode b_Mo_unitsOf 1 = .ok (.getfield 86, 3) := by decide +kernel
theorem d_Mo_unitsOf_4 : decode b_Mo_unitsOf 4 = .ok (.iload_n 1, 1) := by decide +kernel
theorem d_Mo_unitsOf_5 : decode b_Mo_unitsOf 5 = .ok (.iaload, 1) := by decide +kernel
theorem d_Mo_unitsOf_6 : decode b_Mo_unitsOf 6 = .ok (.iconst 1, 1) := by decide +kernel
theorem d_Mo_unitsOf_7 : decode b_Mo_unitsOf 7 = .ok (.if_icmp .ne 28, 3) := by decide +kernel
theorem d_Mo_unitsOf_10 : decode b_Mo_unitsOf 10 = .ok (.aload_n 0, 1) := by decide +kernel
theorem d_Mo_unitsOf_11 : decode b_Mo_unitsOf 11 = .ok (.getfield 95, 3) := by decide +kernel
theorem d_Mo_unitsOf_14 : decode b_Mo_unitsOf 14 = .ok (.iload_n 1, 1) := by decide +kernel
theorem d_Mo_unitsOf_15 : decode b_Mo_unitsOf 15 = .ok (.iaload, 1) := by decide +kernel
theorem d_Mo_unitsOf_16 : decode b_Mo_unitsOf 16 = .ok (.aload_n 0, 1) := by decide +kernel
theorem d_Mo_unitsOf_17 : decode b_Mo_unitsOf 17 = .ok (.getfield 98, 3) := by decide +kernel
theorem d_Mo_unitsOf_20 : decode b_Mo_unitsOf 20 = .ok (.iload_n 1, 1) := by decide +kernel
theorem d_Mo_unitsOf_21 : decode b_Mo_unitsOf 21 = .ok (.iaload, 1) := by decide +kernel
theorem d_Mo_unitsOf_22 : decode b_Mo_unitsOf 22 = .ok (.iadd, 1) := by decide +kernel
theorem d_Mo_unitsOf_23 : decode b_Mo_unitsOf 23 = .ok (.iconst 1, 1) := by decide +kernel
theorem d_Mo_unitsOf_24 : decode b_Mo_unitsOf 24 = .ok (.isub, 1) := by decide +kernel
theorem d_Mo_unitsOf_25 : decode b_Mo_unitsOf 25 = .ok (.aload_n 0, 1) := by decide +kernel
theorem d_Mo_unitsOf_26 : decode b_Mo_unitsOf 26 = .ok (.getfield 98, 3) := by decide +kernel
theorem d_Mo_unitsOf_29 : decode b_Mo_unitsOf 29 = .ok (.iload_n 1, 1) := by decide +kernel
theorem d_Mo_unitsOf_30 : decode b_Mo_unitsOf 30 = .ok (.iaload, 1) := by decide +kernel
theorem d_Mo_unitsOf_31 : decode b_Mo_unitsOf 31 = .ok (.idiv, 1) := by decide +kernel
theorem d_Mo_unitsOf_32 : decode b_Mo_unitsOf 32 = .ok (.goto 4, 3) := by decide +kernel
theorem d_Mo_unitsOf_35 : decode b_Mo_unitsOf 35 = .ok (.iconst 1, 1) := by decide +kernel
theorem d_Mo_unitsOf_36 : decode b_Mo_unitsOf 36 = .ok (.ireturn, 1) := by decide +kernel
theorem d_Mo_numbersOf_0 : decode b_Mo_numbersOf 0 = .ok (.aload_n 0, 1) := by decide +kernel
theorem d_Mo_numbersOf_1 : decode b_Mo_numbersOf 1 = .ok (.getfield 86, 3) := by decide +kernel
theorem d_Mo_numbersOf_4 : decode b_Mo_numbersOf 4 = .ok (.iload_n 1, 1) := by decide +kernel
theorem d_Mo_numbersOf_5 : decode b_Mo_numbersOf 5 = .ok (.iaload, 1) := by decide +kernel
theorem d_Mo_numbersOf_6 : decode b_Mo_numbersOf 6 = .ok (.iconst 2, 1) := by decide +kernel
theorem d_Mo_numbersOf_7 : decode b_Mo_numbersOf 7 = .ok (.if_icmp .ne 21, 3) := by decide +kernel
theorem d_Mo_numbersOf_10 : decode b_Mo_numbersOf 10 = .ok (.aload_n 0, 1) := by decide +kernel
theorem d_Mo_numbersOf_11 : decode b_Mo_numbersOf 11 = .ok (.getfield 95, 3) := by decide +kernel
theorem d_Mo_numbersOf_14 : decode b_Mo_numbersOf 14 = .ok (.iload_n 1, 1) := by decide +kernel
theorem d_Mo_numbersOf_15 : decode b_Mo_numbersOf 15 = .ok (.iaload, 1) := by decide +kernel
theorem d_Mo_numbersOf_16 : decode b_Mo_numbersOf 16 = .ok (.aload_n 0, 1) := by decide +kernel
theorem d_Mo_numbersOf_17 : decode b_Mo_numbersOf 17 = .ok (.getfield 92, 3) := by decide +kernel
theorem d_Mo_numbersOf_20 : decode b_Mo_numbersOf 20 = .ok (.iload_n 1, 1) := by decide +kernel
theorem d_Mo_numbersOf_21 : decode b_Mo_numbersOf 21 = .ok (.iaload, 1) := by decide +kernel
theorem d_Mo_numbersOf_22 : decode b_Mo_numbersOf 22 = .ok (.isub, 1) := by decide +kernel
theorem d_Mo_numbersOf_23 : decode b_Mo_numbersOf 23 = .ok (.iconst 1, 1) := by decide +kernel
theorem d_Mo_numbersOf_24 : decode b_Mo_numbersOf 24 = .ok (.iadd, 1) := by decide +kernel
theorem d_Mo_numbersOf_25 : decode b_Mo_numbersOf 25 = .ok (.goto 4, 3) := by decide +kernel
theorem d_Mo_numbersOf_28 : decode b_Mo_numbersOf 28 = .ok (.iconst 1, 1) := by decide +kernel
theorem d_Mo_numbersOf_29 : decode b_Mo_numbersOf 29 = .ok (.ireturn, 1) := by decide +kernel
theorem d_Mo_aspect_0 : decode b_Mo_aspect 0 = .ok (.iload_n 2, 1) := by decide +kernel
theorem d_Mo_aspect_1 : decode b_Mo_aspect 1 = .ok (.ifCond .ne 12, 3) := by decide +kernel
theorem d_Mo_aspect_4 : decode b_Mo_aspect 4 = .ok (.aload_n 0, 1) := by decide +kernel
theorem d_Mo_aspect_5 : decode b_Mo_aspect 5 = .ok (.getfield 86, 3) := by decide +kernel
theorem d_Mo_aspect_8 : decode b_Mo_aspect 8 = .ok (.iload_n 1, 1) := by decide +kernel
theorem d_Mo_aspect_9 : decode b_Mo_aspect 9 = .ok (.iaload, 1) := by decide +kernel
theorem d_Mo_aspect_10 : decode b_Mo_aspect 10 = .ok (.goto 57, 3) := by decide +kernel
theorem d_Mo_aspect_13 : decode b_Mo_aspect 13 = .ok (.iload_n 2, 1) := by decide +kernel
theorem d_Mo_aspect_14 : decode b_Mo_aspect 14 = .ok (.iconst 1, 1) := by decide +kernel
theorem d_Mo_aspect_15 : decode b_Mo_aspect 15 = .ok (.if_icmp .ne 11, 3) := by decide +kernel
theorem d_Mo_aspect_18 : decode b_Mo_aspect 18 = .ok (.aload_n 0, 1) := by decide +kernel
theorem d_Mo_aspect_19 : decode b_Mo_aspect 19 = .ok (.iload_n 1, 1) := by decide +kernel
theorem d_Mo_aspect_20 : decode b_Mo_aspect 20 = .ok (.invokevirtual 329, 3) := by decide +kernel
theorem d_Mo_aspect_23 : decode b_Mo_aspect 23 = .ok (.goto 44, 3) := by decide +kernel
theorem d_Mo_aspect_26 : decode b_Mo_aspect 26 = .ok (.iload_n 2, 1) := by decide +kernel
theorem d_Mo_aspect_27 : decode b_Mo_aspect 27 = .ok (.iconst 2, 1) := by decide +kernel
theorem d_Mo_aspect_28 : decode b_Mo_aspect 28 = .ok (.if_icmp .ne 11, 3) := by decide +kernel
theorem d_Mo_aspect_31 : decode b_Mo_aspect 31 = .ok (.aload_n 0, 1) := by decide +kernel
theorem d_Mo_aspect_32 : decode b_Mo_aspect 32 = .ok (.iload_n 1, 1) := by decide +kernel
theorem d_Mo_aspect_33 : decode b_Mo_aspect 33 = .ok (.invokevirtual 332, 3) := by decide +kernel
theorem d_Mo_aspect_36 : decode b_Mo_aspect 36 = .ok (.goto 31, 3) := by decide +kernel
theorem d_Mo_aspect_39 : decode b_Mo_aspect 39 = .ok (.iload_n 2, 1) := by decide +kernel
theorem d_Mo_aspect_40 : decode b_Mo_aspect 40 = .ok (.iconst 3, 1) := by decide +kernel
theorem d_Mo_aspect_41 : decode b_Mo_aspect 41 = .ok (.if_icmp .ne 12, 3) := by decide +kernel
theorem d_Mo_aspect_44 : decode b_Mo_aspect 44 = .ok (.aload_n 0, 1) := by decide +kernel
theorem d_Mo_aspect_45 : decode b_Mo_aspect 45 = .ok (.getfield 101, 3) := by decide +kernel
theorem d_Mo_aspect_48 : decode b_Mo_aspect 48 = .ok (.iload_n 1, 1) := by decide +kernel
theorem d_Mo_aspect_49 : decode b_Mo_aspect 49 = .ok (.iaload, 1) := by decide +kernel
theorem d_Mo_aspect_50 : decode b_Mo_aspect 50 = .ok (.goto 17, 3) := by decide +kernel
theorem d_Mo_aspect_53 : decode b_Mo_aspect 53 = .ok (.aload_n 0, 1) := by decide +kernel
theorem d_Mo_aspect_54 : decode b_Mo_aspect 54 = .ok (.iload_n 1, 1) := by decide +kernel
theorem d_Mo_aspect_55 : decode b_Mo_aspect 55 = .ok (.invokevirtual 332, 3) := by decide +kernel
theorem d_Mo_aspect_58 : decode b_Mo_aspect 58 = .ok (.aload_n 0, 1) := by decide +kernel
theorem d_Mo_aspect_59 : decode b_Mo_aspect 59 = .ok (.getfield 101, 3) := by decide +kernel
theorem d_Mo_aspect_62 : decode b_Mo_aspect 62 = .ok (.iload_n 1, 1) := by decide +kernel
theorem d_Mo_aspect_63 : decode b_Mo_aspect 63 = .ok (.iaload, 1) := by decide +kernel
theorem d_Mo_aspect_64 : decode b_Mo_aspect 64 = .ok (.iconst 1, 1) := by decide +kernel
theorem d_Mo_aspect_65 : decode b_Mo_aspect 65 = .ok (.iadd, 1) := by decide +kernel
theorem d_Mo_aspect_66 : decode b_Mo_aspect 66 = .ok (.imul, 1) := by decide +kernel
theorem d_Mo_aspect_67 : decode b_Mo_aspect 67 = .ok (.ireturn, 1) := by decide +kernel
theorem d_Mo_question_0 : decode b_Mo_question 0 = .ok (.iload_n 1, 1) := by decide +kernel
theorem d_Mo_question_1 : decode b_Mo_question 1 = .ok (.iconst 0, 1) := by decide +kernel
theorem d_Mo_question_2 : decode b_Mo_question 2 = .ok (.aload_n 0, 1) := by decide +kernel
theorem d_Mo_question_3 : decode b_Mo_question 3 = .ok (.getfield 158, 3) := by decide +kernel
theorem d_Mo_question_6 : decode b_Mo_question 6 = .ok (.iconst 1, 1) := by decide +kernel
theorem d_Mo_question_7 : decode b_Mo_question 7 = .ok (.isub, 1) := by decide +kernel
theorem d_Mo_question_8 : decode b_Mo_question 8 = .ok (.invokestatic 144, 3) := by decide +kernel
theorem d_Mo_question_11 : decode b_Mo_question 11 = .ok (.ifCond .ne 6, 3) := by decide +kernel
theorem d_Mo_question_14 : decode b_Mo_question 14 = .ok (.bipush (-101), 2) := by decide +kernel
theorem d_Mo_question_16 : decode b_Mo_question 16 = .ok (.ireturn, 1) := by decide +kernel
theorem d_Mo_question_17 : decode b_Mo_question 17 = .ok (.iload_n 2, 1) := by decide +kernel
theorem d_Mo_question_18 : decode b_Mo_question 18 = .ok (.iconst 0, 1) := by decide +kernel
theorem d_Mo_question_19 : decode b_Mo_question 19 = .ok (.iconst 4, 1) := by decide +kernel
theorem d_Mo_question_20 : decode b_Mo_question 20 = .ok (.invokestatic 144, 3) := by decide +kernel
theorem d_Mo_question_23 : decode b_Mo_question 23 = .ok (.ifCond .eq 12, 3) := by decide +kernel
theorem d_Mo_question_26 : decode b_Mo_question 26 = .ok (.aload_n 0, 1) := by decide +kernel
theorem d_Mo_question_27 : decode b_Mo_question 27 = .ok (.iload_n 1, 1) := by decide +kernel
theorem d_Mo_question_28 : decode b_Mo_question 28 = .ok (.iload_n 2, 1) := by decide +kernel
theorem d_Mo_question_29 : decode b_Mo_question 29 = .ok (.invokevirtual 335, 3) := by decide +kernel
theorem d_Mo_question_32 : decode b_Mo_question 32 = .ok (.goto 5, 3) := by decide +kernel
theorem d_Mo_question_35 : decode b_Mo_question 35 = .ok (.bipush (-102), 2) := by decide +kernel
theorem d_Mo_question_37 : decode b_Mo_question 37 = .ok (.ireturn, 1) := by decide +kernel
theorem d_Mo_wanted_0 : decode b_Mo_wanted 0 = .ok (.iconst 0, 1) := by decide +kernel
theorem d_Mo_wanted_1 : decode b_Mo_wanted 1 = .ok (.istore_n 2, 1) := by decide +kernel
theorem d_Mo_wanted_2 : decode b_Mo_wanted 2 = .ok (.iconst 0, 1) := by decide +kernel
theorem d_Mo_wanted_3 : decode b_Mo_wanted 3 = .ok (.istore_n 3, 1) := by decide +kernel
theorem d_Mo_wanted_4 : decode b_Mo_wanted 4 = .ok (.iload_n 3, 1) := by decide +kernel
theorem d_Mo_wanted_5 : decode b_Mo_wanted 5 = .ok (.aload_n 0, 1) := by decide +kernel
theorem d_Mo_wanted_6 : decode b_Mo_wanted 6 = .ok (.getfield 158, 3) := by decide +kernel
theorem d_Mo_wanted_9 : decode b_Mo_wanted 9 = .ok (.if_icmp .ge 35, 3) := by decide +kernel
theorem d_Mo_wanted_12 : decode b_Mo_wanted 12 = .ok (.iload_n 2, 1) := by decide +kernel
theorem d_Mo_wanted_13 : decode b_Mo_wanted 13 = .ok (.aload_n 0, 1) := by decide +kernel
theorem d_Mo_wanted_14 : decode b_Mo_wanted 14 = .ok (.iload_n 3, 1) := by decide +kernel
theorem d_Mo_wanted_15 : decode b_Mo_wanted 15 = .ok (.iload_n 1, 1) := by decide +kernel
theorem d_Mo_wanted_16 : decode b_Mo_wanted 16 = .ok (.ifCond .ne 7, 3) := by decide +kernel
theorem d_Mo_wanted_19 : decode b_Mo_wanted 19 = .ok (.iconst 1, 1) := by decide +kernel
theorem d_Mo_wanted_20 : decode b_Mo_wanted 20 = .ok (.goto 13, 3) := by decide +kernel
theorem d_Mo_wanted_23 : decode b_Mo_wanted 23 = .ok (.iload_n 1, 1) := by decide +kernel
theorem d_Mo_wanted_24 : decode b_Mo_wanted 24 = .ok (.iconst 1, 1) := by decide +kernel
theorem d_Mo_wanted_25 : decode b_Mo_wanted 25 = .ok (.if_icmp .ne 7, 3) := by decide +kernel
theorem d_Mo_wanted_28 : decode b_Mo_wanted 28 = .ok (.iconst 2, 1) := by decide +kernel
theorem d_Mo_wanted_29 : decode b_Mo_wanted 29 = .ok (.goto 4, 3) := by decide +kernel
theorem d_Mo_wanted_32 : decode b_Mo_wanted 32 = .ok (.iconst 4, 1) := by decide +kernel
theorem d_Mo_wanted_33 : decode b_Mo_wanted 33 = .ok (.invokevirtual 335, 3) := by decide +kernel
theorem d_Mo_wanted_36 : decode b_Mo_wanted 36 = .ok (.iadd, 1) := by decide +kernel
theorem d_Mo_wanted_37 : decode b_Mo_wanted 37 = .ok (.istore_n 2, 1) := by decide +kernel
theorem d_Mo_wanted_38 : decode b_Mo_wanted 38 = .ok (.iinc 3 1, 3) := by decide +kernel
theorem d_Mo_wanted_41 : decode b_Mo_wanted 41 = .ok (.goto (-37), 3) := by decide +kernel
theorem d_Mo_wanted_44 : decode b_Mo_wanted 44 = .ok (.iload_n 2, 1) := by decide +kernel
theorem d_Mo_wanted_45 : decode b_Mo_wanted 45 = .ok (.ireturn, 1) := by decide +kernel
theorem d_Mo_wants_0 : decode b_Mo_wants 0 = .ok (.iload_n 1, 1) := by decide +kernel
theorem d_Mo_wants_1 : decode b_Mo_wants 1 = .ok (.iconst 0, 1) := by decide +kernel
theorem d_Mo_wants_2 : decode b_Mo_wants 2 = .ok (.iconst 2, 1) := by decide +kernel
theorem d_Mo_wants_3 : decode b_Mo_wants 3 = .ok (.invokestatic 144, 3) := by decide +kernel
theorem d_Mo_wants_6 : decode b_Mo_wants 6 = .ok (.ifCond .ne 6, 3) := by decide +kernel
theorem d_Mo_wants_9 : decode b_Mo_wants 9 = .ok (.bipush (-102), 2) := by decide +kernel
theorem d_Mo_wants_11 : decode b_Mo_wants 11 = .ok (.ireturn, 1) := by decide +kernel
theorem d_Mo_wants_12 : decode b_Mo_wants 12 = .ok (.aload_n 0, 1) := by decide +kernel
theorem d_Mo_wants_13 : decode b_Mo_wants 13 = .ok (.getfield 313, 3) := by decide +kernel
theorem d_Mo_wants_16 : decode b_Mo_wants 16 = .ok (.ifCond .eq 11, 3) := by decide +kernel
theorem d_Mo_wants_19 : decode b_Mo_wants 19 = .ok (.aload_n 0, 1) := by decide +kernel
theorem d_Mo_wants_20 : decode b_Mo_wants 20 = .ok (.iload_n 1, 1) := by decide +kernel
theorem d_Mo_wants_21 : decode b_Mo_wants 21 = .ok (.invokevirtual 338, 3) := by decide +kernel
theorem d_Mo_wants_24 : decode b_Mo_wants 24 = .ok (.goto 5, 3) := by decide +kernel
theorem d_Mo_wants_27 : decode b_Mo_wants 27 = .ok (.bipush (-103), 2) := by decide +kernel
theorem d_Mo_wants_29 : decode b_Mo_wants 29 = .ok (.ireturn, 1) := by decide +kernel
theorem d_Mo_noiseAt_0 : decode b_Mo_noiseAt 0 = .ok (.aload_n 0, 1) := by decide +kernel
theorem d_Mo_noiseAt_1 : decode b_Mo_noiseAt 1 = .ok (.getfield 13, 3) := by decide +kernel
theorem d_Mo_noiseAt_4 : decode b_Mo_noiseAt 4 = .ok (.iload_n 1, 1) := by decide +kernel
theorem d_Mo_noiseAt_5 : decode b_Mo_noiseAt 5 = .ok (.iaload, 1) := by decide +kernel
theorem d_Mo_noiseAt_6 : decode b_Mo_noiseAt 6 = .ok (.istore_n 3, 1) := by decide +kernel
theorem d_Mo_noiseAt_7 : decode b_Mo_noiseAt 7 = .ok (.iload_n 3, 1) := by decide +kernel
theorem d_Mo_noiseAt_8 : decode b_Mo_noiseAt 8 = .ok (.aload_n 0, 1) := by decide +kernel
theorem d_Mo_noiseAt_9 : decode b_Mo_noiseAt 9 = .ok (.getfield 138, 3) := by decide +kernel
theorem d_Mo_noiseAt_12 : decode b_Mo_noiseAt 12 = .ok (.aload_n 0, 1) := by decide +kernel
theorem d_Mo_noiseAt_13 : decode b_Mo_noiseAt 13 = .ok (.getfield 138, 3) := by decide +kernel
theorem d_Mo_noiseAt_16 : decode b_Mo_noiseAt 16 = .ok (.aload_n 0, 1) := by decide +kernel
theorem d_Mo_noiseAt_17 : decode b_Mo_noiseAt 17 = .ok (.getfield 134, 3) := by decide +kernel
theorem d_Mo_noiseAt_20 : decode b_Mo_noiseAt 20 = .ok (.isub, 1) := by decide +kernel
theorem d_Mo_noiseAt_21 : decode b_Mo_noiseAt 21 = .ok (.imul, 1) := by decide +kernel
theorem d_Mo_noiseAt_22 : decode b_Mo_noiseAt 22 = .ok (.if_icmp .ge 5, 3) := by decide +kernel
theorem d_Mo_noiseAt_25 : decode b_Mo_noiseAt 25 = .ok (.iconst 0, 1) := by decide +kernel
theorem d_Mo_noiseAt_26 : decode b_Mo_noiseAt 26 = .ok (.ireturn, 1) := by decide +kernel
theorem d_Mo_noiseAt_27 : decode b_Mo_noiseAt 27 = .ok (.iconst 1, 1) := by decide +kernel
theorem d_Mo_noiseAt_28 : decode b_Mo_noiseAt 28 = .ok (.istore 4, 2) := by decide +kernel
theorem d_Mo_noiseAt_30 : decode b_Mo_noiseAt 30 = .ok (.iload 4, 2) := by decide +kernel
theorem d_Mo_noiseAt_32 : decode b_Mo_noiseAt 32 = .ok (.iload_n 2, 1) := by decide +kernel
theorem d_Mo_noiseAt_33 : decode b_Mo_noiseAt 33 = .ok (.if_icmp .gt 35, 3) := by decide +kernel
theorem d_Mo_noiseAt_36 : decode b_Mo_noiseAt 36 = .ok (.aload_n 0, 1) := by decide +kernel
theorem d_Mo_noiseAt_37 : decode b_Mo_noiseAt 37 = .ok (.getfield 13, 3) := by decide +kernel
theorem d_Mo_noiseAt_40 : decode b_Mo_noiseAt 40 = .ok (.iload_n 1, 1) := by decide +kernel
theorem d_Mo_noiseAt_41 : decode b_Mo_noiseAt 41 = .ok (.iload 4, 2) := by decide +kernel
theorem d_Mo_noiseAt_43 : decode b_Mo_noiseAt 43 = .ok (.iadd, 1) := by decide +kernel
theorem d_Mo_noiseAt_44 : decode b_Mo_noiseAt 44 = .ok (.iaload, 1) := by decide +kernel
theorem d_Mo_noiseAt_45 : decode b_Mo_noiseAt 45 = .ok (.aload_n 0, 1) := by decide +kernel
theorem d_Mo_noiseAt_46 : decode b_Mo_noiseAt 46 = .ok (.getfield 134, 3) := by decide +kernel
theorem d_Mo_noiseAt_49 : decode b_Mo_noiseAt 49 = .ok (.aload_n 0, 1) := by decide +kernel
theorem d_Mo_noiseAt_50 : decode b_Mo_noiseAt 50 = .ok (.getfield 134, 3) := by decide +kernel
theorem d_Mo_noiseAt_53 : decode b_Mo_noiseAt 53 = .ok (.aload_n 0, 1) := by decide +kernel
theorem d_Mo_noiseAt_54 : decode b_Mo_noiseAt 54 = .ok (.getfield 138, 3) := by decide +kernel
theorem d_Mo_noiseAt_57 : decode b_Mo_noiseAt 57 = .ok (.iadd, 1) := by decide +kernel
theorem d_Mo_noiseAt_58 : decode b_Mo_noiseAt 58 = .ok (.imul, 1) := by decide +kernel
theorem d_Mo_noiseAt_59 : decode b_Mo_noiseAt 59 = .ok (.if_icmp .ge 9, 3) := by decide +kernel
theorem d_Mo_noiseAt_62 : decode b_Mo_noiseAt 62 = .ok (.iinc 4 1, 3) := by decide +kernel
theorem d_Mo_noiseAt_65 : decode b_Mo_noiseAt 65 = .ok (.goto (-35), 3) := by decide +kernel
theorem d_Mo_noiseAt_68 : decode b_Mo_noiseAt 68 = .ok (.iload_n 3, 1) := by decide +kernel
theorem d_Mo_noiseAt_69 : decode b_Mo_noiseAt 69 = .ok (.aload_n 0, 1) := by decide +kernel
theorem d_Mo_noiseAt_70 : decode b_Mo_noiseAt 70 = .ok (.getfield 138, 3) := by decide +kernel
theorem d_Mo_noiseAt_73 : decode b_Mo_noiseAt 73 = .ok (.aload_n 0, 1) := by decide +kernel
theorem d_Mo_noiseAt_74 : decode b_Mo_noiseAt 74 = .ok (.getfield 138, 3) := by decide +kernel
theorem d_Mo_noiseAt_77 : decode b_Mo_noiseAt 77 = .ok (.aload_n 0, 1) := by decide +kernel
theorem d_Mo_noiseAt_78 : decode b_Mo_noiseAt 78 = .ok (.getfield 134, 3) := by decide +kernel
theorem d_Mo_noiseAt_81 : decode b_Mo_noiseAt 81 = .ok (.isub, 1) := by decide +kernel
theorem d_Mo_noiseAt_82 : decode b_Mo_noiseAt 82 = .ok (.imul, 1) := by decide +kernel
theorem d_Mo_noiseAt_83 : decode b_Mo_noiseAt 83 = .ok (.aload_n 0, 1) := by decide +kernel
theorem d_Mo_noiseAt_84 : decode b_Mo_noiseAt 84 = .ok (.getfield 134, 3) := by decide +kernel
theorem d_Mo_noiseAt_87 : decode b_Mo_noiseAt 87 = .ok (.aload_n 0, 1) := by decide +kernel
theorem d_Mo_noiseAt_88 : decode b_Mo_noiseAt 88 = .ok (.getfield 138, 3) := by decide +kernel
theorem d_Mo_noiseAt_91 : decode b_Mo_noiseAt 91 = .ok (.imul, 1) := by decide +kernel
theorem d_Mo_noiseAt_92 : decode b_Mo_noiseAt 92 = .ok (.iadd, 1) := by decide +kernel
theorem d_Mo_noiseAt_93 : decode b_Mo_noiseAt 93 = .ok (.if_icmp .ge 8, 3) := by decide +kernel
theorem d_Mo_noiseAt_96 : decode b_Mo_noiseAt 96 = .ok (.iload 4, 2) := by decide +kernel
theorem d_Mo_noiseAt_98 : decode b_Mo_noiseAt 98 = .ok (.goto 6, 3) := by decide +kernel
theorem d_Mo_noiseAt_101 : decode b_Mo_noiseAt 101 = .ok (.iload 4, 2) := by decide +kernel
theorem d_Mo_noiseAt_103 : decode b_Mo_noiseAt 103 = .ok (.ineg, 1) := by decide +kernel
theorem d_Mo_noiseAt_104 : decode b_Mo_noiseAt 104 = .ok (.ireturn, 1) := by decide +kernel
theorem d_Mo_told_0 : decode b_Mo_told 0 = .ok (.iload_n 1, 1) := by decide +kernel
theorem d_Mo_told_1 : decode b_Mo_told 1 = .ok (.iconst 0, 1) := by decide +kernel
theorem d_Mo_told_2 : decode b_Mo_told 2 = .ok (.aload_n 0, 1) := by decide +kernel
theorem d_Mo_told_3 : decode b_Mo_told 3 = .ok (.getfield 164, 3) := by decide +kernel
theorem d_Mo_told_6 : decode b_Mo_told 6 = .ok (.iconst 1, 1) := by decide +kernel
theorem d_Mo_told_7 : decode b_Mo_told 7 = .ok (.isub, 1) := by decide +kernel
theorem d_Mo_told_8 : decode b_Mo_told 8 = .ok (.invokestatic 144, 3) := by decide +kernel
theorem d_Mo_told_11 : decode b_Mo_told 11 = .ok (.ifCond .eq 12, 3) := by decide +kernel
theorem d_Mo_told_14 : decode b_Mo_told 14 = .ok (.aload_n 0, 1) := by decide +kernel
theorem d_Mo_told_15 : decode b_Mo_told 15 = .ok (.getfield 110, 3) := by decide +kernel
theorem d_Mo_told_18 : decode b_Mo_told 18 = .ok (.iload_n 1, 1) := by decide +kernel
theorem d_Mo_told_19 : decode b_Mo_told 19 = .ok (.iaload, 1) := by decide +kernel
theorem d_Mo_told_20 : decode b_Mo_told 20 = .ok (.goto 4, 3) := by decide +kernel
theorem d_Mo_told_23 : decode b_Mo_told 23 = .ok (.iconst (-1), 1) := by decide +kernel
theorem d_Mo_told_24 : decode b_Mo_told 24 = .ok (.ireturn, 1) := by decide +kernel
theorem d_Mo_noise_0 : decode b_Mo_noise 0 = .ok (.iload_n 2, 1) := by decide +kernel
theorem d_Mo_noise_1 : decode b_Mo_noise 1 = .ok (.iconst 0, 1) := by decide +kernel
theorem d_Mo_noise_2 : decode b_Mo_noise 2 = .ok (.bipush 30, 2) := by decide +kernel
theorem d_Mo_noise_4 : decode b_Mo_noise 4 = .ok (.invokestatic 144, 3) := by decide +kernel
theorem d_Mo_noise_7 : decode b_Mo_noise 7 = .ok (.ifCond .eq 7, 3) := by decide +kernel
theorem d_Mo_noise_10 : decode b_Mo_noise 10 = .ok (.iload_n 1, 1) := by decide +kernel
theorem d_Mo_noise_11 : decode b_Mo_noise 11 = .ok (.ifCond .ge 6, 3) := by decide +kernel
theorem d_Mo_noise_14 : decode b_Mo_noise 14 = .ok (.bipush (-102), 2) := by decide +kernel
theorem d_Mo_noise_16 : decode b_Mo_noise 16 = .ok (.ireturn, 1) := by decide +kernel
theorem d_Mo_noise_17 : decode b_Mo_noise 17 = .ok (.iload_n 1, 1) := by decide +kernel
theorem d_Mo_noise_18 : decode b_Mo_noise 18 = .ok (.i2l, 1) := by decide +kernel
theorem d_Mo_noise_19 : decode b_Mo_noise 19 = .ok (.iload_n 2, 1) := by decide +kernel
theorem d_Mo_noise_20 : decode b_Mo_noise 20 = .ok (.i2l, 1) := by decide +kernel
theorem d_Mo_noise_21 : decode b_Mo_noise 21 = .ok (.ladd, 1) := by decide +kernel
theorem d_Mo_noise_22 : decode b_Mo_noise 22 = .ok (.lconst 1, 1) := by decide +kernel
theorem d_Mo_noise_23 : decode b_Mo_noise 23 = .ok (.ladd, 1) := by decide +kernel
theorem d_Mo_noise_24 : decode b_Mo_noise 24 = .ok (.aload_n 0, 1) := by decide +kernel
theorem d_Mo_noise_25 : decode b_Mo_noise 25 = .ok (.getfield 152, 3) := by decide +kernel
theorem d_Mo_noise_28 : decode b_Mo_noise 28 = .ok (.i2l, 1) := by decide +kernel
theorem d_Mo_noise_29 : decode b_Mo_noise 29 = .ok (.lcmp, 1) := by decide +kernel
theorem d_Mo_noise_30 : decode b_Mo_noise 30 = .ok (.ifCond .le 8, 3) := by decide +kernel
theorem d_Mo_noise_33 : decode b_Mo_noise 33 = .ok (.bipush (-105), 2) := by decide +kernel
theorem d_Mo_noise_35 : decode b_Mo_noise 35 = .ok (.goto 9, 3) := by decide +kernel
theorem d_Mo_noise_38 : decode b_Mo_noise 38 = .ok (.aload_n 0, 1) := by decide +kernel
theorem d_Mo_noise_39 : decode b_Mo_noise 39 = .ok (.iload_n 1, 1) := by decide +kernel
theorem d_Mo_noise_40 : decode b_Mo_noise 40 = .ok (.iload_n 2, 1) := by decide +kernel
theorem d_Mo_noise_41 : decode b_Mo_noise 41 = .ok (.invokevirtual 357, 3) := by decide +kernel
theorem d_Mo_noise_44 : decode b_Mo_noise 44 = .ok (.ireturn, 1) := by decide +kernel
theorem d_Mo_write_0 : decode b_Mo_write 0 = .ok (.aload_n 0, 1) := by decide +kernel
theorem d_Mo_write_1 : decode b_Mo_write 1 = .ok (.getfield 113, 3) := by decide +kernel
theorem d_Mo_write_4 : decode b_Mo_write 4 = .ok (.aload_n 0, 1) := by decide +kernel
theorem d_Mo_write_5 : decode b_Mo_write 5 = .ok (.getfield 360, 3) := by decide +kernel
theorem d_Mo_write_8 : decode b_Mo_write 8 = .ok (.iload_n 1, 1) := by decide +kernel
theorem d_Mo_write_9 : decode b_Mo_write 9 = .ok (.iastore, 1) := by decide +kernel
theorem d_Mo_write_10 : decode b_Mo_write 10 = .ok (.aload_n 0, 1) := by decide +kernel
theorem d_Mo_write_11 : decode b_Mo_write 11 = .ok (.dup, 1) := by decide +kernel
theorem d_Mo_write_12 : decode b_Mo_write 12 = .ok (.getfield 360, 3) := by decide +kernel
theorem d_Mo_write_15 : decode b_Mo_write 15 = .ok (.iconst 1, 1) := by decide +kernel
theorem d_Mo_write_16 : decode b_Mo_write 16 = .ok (.iadd, 1) := by decide +kernel
theorem d_Mo_write_17 : decode b_Mo_write 17 = .ok (.putfield 360, 3) := by decide +kernel
theorem d_Mo_write_20 : decode b_Mo_write 20 = .ok (.return_, 1) := by decide +kernel
theorem d_Mo_out_0 : decode b_Mo_out 0 = .ok (.iload_n 1, 1) := by decide +kernel
theorem d_Mo_out_1 : decode b_Mo_out 1 = .ok (.iconst 0, 1) := by decide +kernel
theorem d_Mo_out_2 : decode b_Mo_out 2 = .ok (.aload_n 0, 1) := by decide +kernel
theorem d_Mo_out_3 : decode b_Mo_out 3 = .ok (.getfield 360, 3) := by decide +kernel
theorem d_Mo_out_6 : decode b_Mo_out 6 = .ok (.iconst 1, 1) := by decide +kernel
theorem d_Mo_out_7 : decode b_Mo_out 7 = .ok (.isub, 1) := by decide +kernel
theorem d_Mo_out_8 : decode b_Mo_out 8 = .ok (.invokestatic 144, 3) := by decide +kernel
theorem d_Mo_out_11 : decode b_Mo_out 11 = .ok (.ifCond .eq 12, 3) := by decide +kernel
theorem d_Mo_out_14 : decode b_Mo_out 14 = .ok (.aload_n 0, 1) := by decide +kernel
theorem d_Mo_out_15 : decode b_Mo_out 15 = .ok (.getfield 113, 3) := by decide +kernel
theorem d_Mo_out_18 : decode b_Mo_out 18 = .ok (.iload_n 1, 1) := by decide +kernel
theorem d_Mo_out_19 : decode b_Mo_out 19 = .ok (.iaload, 1) := by decide +kernel
theorem d_Mo_out_20 : decode b_Mo_out 20 = .ok (.goto 4, 3) := by decide +kernel
theorem d_Mo_out_23 : decode b_Mo_out 23 = .ok (.iconst (-1), 1) := by decide +kernel
theorem d_Mo_out_24 : decode b_Mo_out 24 = .ok (.ireturn, 1) := by decide +kernel
theorem k_301 : (.fieldLink R_Mo 86 "PrivateQueriesModel" "aSort" "[I" : Cond) ∈ wG := wGm 1010 (by decide +kernel) (by decide +kernel)
theorem k_302 : (.fieldLink R_Mo 95 "PrivateQueriesModel" "aHigh" "[I" : Cond) ∈ wG := wGm 1013 (by decide +kernel) (by decide +kernel)
theorem k_303 : (.fieldLink R_Mo 98 "PrivateQueriesModel" "aBy" "[I" : Cond) ∈ wG := wGm 1014 (by decide +kernel) (by decide +kernel)
theorem k_304 : (.fieldLink R_Mo 92 "PrivateQueriesModel" "aLow" "[I" : Cond) ∈ wG := wGm 1012 (by decide +kernel) (by decide +kernel)
theorem k_305 : (.methodLink R_Mo 332 y_Mo_numbersOf : Cond) ∈ wG := wGm 1345 (by decide +kernel) (by decide +kernel)
theorem k_306 : (.instanceMethod y_Mo_numbersOf : Cond) ∈ wG := wGm 1347 (by decide +kernel) (by decide +kernel)
theorem k_307 : (.selects R_Mo y_Mo_numbersOf y_Mo_numbersOf : Cond) ∈ wG := wGm 67 (by decide +kernel) (by decide +kernel)
theorem k_308 : (.code y_Mo_numbersOf b_Mo_numbersOf 2 (some .int) : Cond) ∈ wG := wGm 1348 (by decide +kernel) (by decide +kernel)
theorem k_309 : (.fieldLink R_Mo 101 "PrivateQueriesModel" "aTop" "[I" : Cond) ∈ wG := wGm 1015 (by decide +kernel) (by decide +kernel)
theorem k_310 : (.methodLink R_Mo 329 y_Mo_unitsOf : Cond) ∈ wG := wGm 1341 (by decide +kernel) (by decide +kernel)
theorem k_311 : (.instanceMethod y_Mo_unitsOf : Cond) ∈ wG := wGm 1343 (by decide +kernel) (by decide +kernel)
theorem k_312 : (.selects R_Mo y_Mo_unitsOf y_Mo_unitsOf : Cond) ∈ wG := wGm 66 (by decide +kernel) (by decide +kernel)
theorem k_313 : (.code y_Mo_unitsOf b_Mo_unitsOf 2 (some .int) : Cond) ∈ wG := wGm 1344 (by decide +kernel) (by decide +kernel)
theorem k_314 : (.methodLink R_Mo 335 y_Mo_aspect : Cond) ∈ wG := wGm 1337 (by decide +kernel) (by decide +kernel)
theorem k_315 : (.instanceMethod y_Mo_aspect : Cond) ∈ wG := wGm 1339 (by decide +kernel) (by decide +kernel)
theorem k_316 : (.selects R_Mo y_Mo_aspect y_Mo_aspect : Cond) ∈ wG := wGm 65 (by decide +kernel) (by decide +kernel)
theorem k_317 : (.code y_Mo_aspect b_Mo_aspect 3 (some .int) : Cond) ∈ wG := wGm 1340 (by decide +kernel) (by decide +kernel)
theorem k_318 : (.fieldLink R_Mo 313 "PrivateQueriesModel" "hasScript" "Z" : Cond) ∈ wG := wGm 1004 (by decide +kernel) (by decide +kernel)
theorem k_319 : (.methodLink R_Mo 338 y_Mo_wanted : Cond) ∈ wG := wGm 1353 (by decide +kernel) (by decide +kernel)
theorem k_320 : (.instanceMethod y_Mo_wanted : Cond) ∈ wG := wGm 1355 (by decide +kernel) (by decide +kernel)
theorem k_321 : (.selects R_Mo y_Mo_wanted y_Mo_wanted : Cond) ∈ wG := wGm 68 (by decide +kernel) (by decide +kernel)
theorem k_322 : (.code y_Mo_wanted b_Mo_wanted 4 (some .int) : Cond) ∈ wG := wGm 1356 (by decide +kernel) (by decide +kernel)
theorem k_323 : (.fieldLink R_Mo 110 "PrivateQueriesModel" "told" "[I" : Cond) ∈ wG := wGm 1018 (by decide +kernel) (by decide +kernel)
theorem k_324 : (.methodLink R_Mo 357 y_Mo_noiseAt : Cond) ∈ wG := wGm 1379 (by decide +kernel) (by decide +kernel)
theorem k_325 : (.instanceMethod y_Mo_noiseAt : Cond) ∈ wG := wGm 1381 (by decide +kernel) (by decide +kernel)
theorem k_326 : (.selects R_Mo y_Mo_noiseAt y_Mo_noiseAt : Cond) ∈ wG := wGm 72 (by decide +kernel) (by decide +kernel)
theorem k_327 : (.code y_Mo_noiseAt b_Mo_noiseAt 5 (some .int) : Cond) ∈ wG := wGm 1382 (by decide +kernel) (by decide +kernel)
theorem k_328 : (.fieldLink R_Mo 113 "PrivateQueriesModel" "out" "[I" : Cond) ∈ wG := wGm 1020 (by decide +kernel) (by decide +kernel)
theorem k_329 : (.fieldLink R_Mo 360 "PrivateQueriesModel" "outs" "I" : Cond) ∈ wG := wGm 1021 (by decide +kernel) (by decide +kernel)
theorem g_Mo_332 : GoodIn wG (wsV R_Mo 332 R_Mo y_Mo_numbersOf w_Mo_numbersOf) := wGa (fun w hw => by
  rcases List.mem_cons.mp hw with e | hw
  · exact e ▸ k_305
  rcases List.mem_cons.mp hw with e | hw
  · exact e ▸ k_306
  rcases List.mem_cons.mp hw with e | hw
  · exact e ▸ k_307
  rcases List.mem_cons.mp hw with e | hw
  · exact e ▸ k_185
  · exact absurd hw List.not_mem_nil) (wGc k_308)
theorem g_Mo_329 : GoodIn wG (wsV R_Mo 329 R_Mo y_Mo_unitsOf w_Mo_unitsOf) := wGa (fun w hw => by
  rcases List.mem_cons.mp hw with e | hw
  · exact e ▸ k_310
  rcases List.mem_cons.mp hw with e | hw
  · exact e ▸ k_311
  rcases List.mem_cons.mp hw with e | hw
  · exact e ▸ k_312
  rcases List.mem_cons.mp hw with e | hw
  · exact e ▸ k_185
  · exact absurd hw List.not_mem_nil) (wGc k_313)
theorem g_Mo_335 : GoodIn wG (wsV R_Mo 335 R_Mo y_Mo_aspect w_Mo_aspect) := wGa (fun w hw => by
  rcases List.mem_cons.mp hw with e | hw
  · exact e ▸ k_314
  rcases List.mem_cons.mp hw with e | hw
  · exact e ▸ k_315
  rcases List.mem_cons.mp hw with e | hw
  · exact e ▸ k_316
  rcases List.mem_cons.mp hw with e | hw
  · exact e ▸ k_185
  · exact absurd hw List.not_mem_nil) (wGc k_317)
theorem g_Mo_338 : GoodIn wG (wsV R_Mo 338 R_Mo y_Mo_wanted w_Mo_wanted) := wGa (fun w hw => by
  rcases List.mem_cons.mp hw with e | hw
  · exact e ▸ k_319
  rcases List.mem_cons.mp hw with e | hw
  · exact e ▸ k_320
  rcases List.mem_cons.mp hw with e | hw
  · exact e ▸ k_321
  rcases List.mem_cons.mp hw with e | hw
  · exact e ▸ k_185
  · exact absurd hw List.not_mem_nil) (wGc k_322)
theorem g_Mo_357 : GoodIn wG (wsV R_Mo 357 R_Mo y_Mo_noiseAt w_Mo_noiseAt) := wGa (fun w hw => by
  rcases List.mem_cons.mp hw with e | hw
  · exact e ▸ k_324
  rcases List.mem_cons.mp hw with e | hw
  · exact e ▸ k_325
  rcases List.mem_cons.mp hw with e | hw
  · exact e ▸ k_326
  rcases List.mem_cons.mp hw with e | hw
  · exact e ▸ k_185
  · exact absurd hw List.not_mem_nil) (wGc k_327)
theorem ly_lo9 {x : Int32} (h : 0 ≤ x) : 0 ≤ x.toInt := by
  rw [Int32.le_iff_toInt_le, i0] at h
  exact h
theorem dp_b {v : Int32} (hz : up v 60) : (6 * v - 6).toInt ≤ 354 := by
  obtain ⟨n, hn, hn2, rfl⟩ := up_nI hz
  rw [mo_6, Int32.toInt_sub, nI_toInt (by omega), show (6 : Int32).toInt = 6 by decide, Int.bmod_eq_of_le (by omega) (by omega)]
  omega
theorem dp_i {v i : Int32} (hz : up v 60) (hi : 0 ≤ i.toInt) (c : ¬ 6 * v - 6 ≤ i) : vp_in i 366 := by
  have h := dp_b hz
  rw [Int32.le_iff_toInt_le] at c
  exact ly_mk hi (by omega)
theorem dp_j {v i : Int32} (hz : up v 60) (hi : 0 ≤ i.toInt) (c : ¬ 6 * v - 6 ≤ i) : vp_in (i + 6) 366 := by
  have h := dp_b hz
  rw [Int32.le_iff_toInt_le] at c
  obtain ⟨n, hn, hn2, rfl⟩ := up_nI (v := i) (N := 353) ⟨hi, by omega⟩
  show vp_in (nI n + nI 6) 366
  rw [nI_add]
  exact vp_in_nI (by omega) (by decide)
theorem dp_0 {v row : Int32} (hz : up v 60) (h : ¬ s_Mo_in row 0 (v - 1) = 0) : 0 ≤ (6 * row).toInt := by
  have h1 := mo_in h
  have h2 : (v - 1).toInt ≤ 59 := by
    obtain ⟨n, hn, hn2, rfl⟩ := up_nI hz
    rw [Int32.toInt_sub, nI_toInt hn2, i1, Int.bmod_eq_of_le (by omega) (by omega)]
    omega
  rw [i0] at h1
  obtain ⟨n, hn, hn2, rfl⟩ := up_nI (v := row) (N := 59) ⟨h1.1, by omega⟩
  rw [mo_6, nI_toInt (by omega)]
  omega
theorem na_in {x k z : Int32} (h0 : 0 ≤ x.toInt) (h1 : x.toInt + z.toInt + 1 ≤ 3000) (hn : 1 ≤ k.toInt) (c : ¬ z < k) : vp_in (x + k) 3000 := by
  rw [Int32.lt_iff_toInt_lt] at c
  obtain ⟨a, ha, ha2, rfl⟩ := up_nI (v := x) (N := 3000) ⟨h0, by omega⟩
  obtain ⟨b, hb, hb2, rfl⟩ := up_nI (v := k) (N := 3000) ⟨by omega, by omega⟩
  rw [nI_toInt ha2] at h1
  rw [nI_toInt hb2] at hn c
  rw [nI_add]
  exact vp_in_nI (by omega) (by decide)
theorem na_k {k z : Int32} (hn : 1 ≤ k.toInt) (c : ¬ z < k) (hz : z.toInt ≤ 1000) : 1 ≤ (k + 1).toInt := by
  rw [Int32.lt_iff_toInt_lt] at c
  rw [i32_succ (by omega)]
  omega
theorem ns_in {x z c : Int32} (hx : 0 ≤ x.toInt) (hz : ¬ s_Mo_in z 0 30 = 0) (h : lg_cmp (x.toInt64 + z.toInt64 + 1) c.toInt64 ≤ 0) : x.toInt + z.toInt + 1 ≤ c.toInt := by
  have h1 := mo_in hz
  rw [i0, show (30 : Int32).toInt = 30 by decide] at h1
  have h2 := Int32.toInt_lt x
  have e : (x.toInt64 + z.toInt64 + 1).toInt = x.toInt + z.toInt + 1 := by
    rw [Int64.toInt_add, Int64.toInt_add, Int32.toInt_toInt64, Int32.toInt_toInt64, show (1 : Int64).toInt = 1 by decide, Int.bmod_eq_of_le (n := x.toInt + z.toInt) (by omega) (by omega), Int.bmod_eq_of_le (by omega) (by omega)]
  by_cases g : c.toInt64 < x.toInt64 + z.toInt64 + 1
  · have : lg_cmp (x.toInt64 + z.toInt64 + 1) c.toInt64 = 1 := by simp [lg_cmp, g]
    rw [this] at h
    exact absurd h (by decide)
  · rw [Int64.lt_iff_toInt_lt, e, Int32.toInt_toInt64] at g
    omega
theorem lst_in {x v : Int32} {N : Nat} (hv : up v N) (hN : N < 2000000) (h : ¬ s_Mo_in x 0 (v - 1) = 0) : vp_in x N := by
  have h1 := mo_in h
  rw [i0] at h1
  have h2 : (v - 1).toInt = v.toInt - 1 := i32_m1 (by have := hv.1; omega)
  have h3 := hv.2
  exact ly_mk h1.1 (by omega)
theorem byp {f : Nat → Int32} {n x : Int32} (h : BYP f n) (h0 : 0 ≤ x.toInt) (h1 : x.toInt < n.toInt) : ¬ f x.toNatClampNeg = 0 := by
  obtain ⟨j, hj, hj2, rfl⟩ := up_nI (v := x) (N := 2147483647) ⟨h0, by have := Int32.toInt_lt x; omega⟩
  rw [nI_toInt hj2] at h1
  rw [nI_clamp hj2]
  exact h j h1
set_option maxHeartbeats 4000000 in
set_option maxRecDepth 100000 in
theorem c_Mo_drop (l : Launch) (G : GG) (h : Nat) (a_table : Nat) (a_tape : Nat) (a_budget : Nat) (a_spent : Nat) (a_text : Nat) (a_kinds : Nat) (a_values : Nat) (a_scriptKinds : Nat) (a_scriptValues : Nat) (a_isTold : Nat) (a_letOf : Nat) (a_code : Nat) (a_letEnd : Nat) (a_letBegin : Nat) (a_sort : Nat) (a_column : Nat) (a_low : Nat) (a_high : Nat) (a_by : Nat) (a_top : Nat) (a_begins : Nat) (a_ends : Nat) (a_scriptCode : Nat) (a_scriptLetBegin : Nat) (a_scriptLetEnd : Nat) (a_aSort : Nat) (a_aColumn : Nat) (a_aLow : Nat) (a_aHigh : Nat) (a_aBy : Nat) (a_aTop : Nat) (a_aBegin : Nat) (a_anEnd : Nat) (a_told : Nat) (a_out : Nat) (a_goals : Nat) (a_withs : Nat) (a_pile : Nat) (a_letValue : Nat) (a_one : Nat) (a_two : Nat) (v_p : Int32) (v_q : Int32) (f_table : Nat → Int32) (v_rows : Int32) (v_cells : Int32) (v_signs : Int32) (v_tokens : Int32) (v_scriptTokens : Int32) (v_at : Int32) (v_place : Int32) (v_kind : Int32) (v_value : Int32) (v_depth : Int32) (v_asked : Int32) (v_lets : Int32) (v_questions : Int32) (v_statements : Int32) (v_size : Int32) (v_hasScript : Int32) (v_scriptLets : Int32) (v_scriptQuestions : Int32) (v_toldCount : Int32) (v_outs : Int32) (v_goalCount : Int32) (row : Int32) (hz_v_rows : up v_rows 60) : Det l G y_Mo_drop w_Mo_drop (rmD 1) 0 0 [.ref h, .int row] [(h, .inr (12, .int v_p :: .int v_q :: .ref a_table :: .int v_rows :: .ref a_tape :: .int v_cells :: .ref a_budget :: .ref a_spent :: .ref a_text :: .int v_signs :: .ref a_kinds :: .ref a_values :: .int v_tokens :: .ref a_scriptKinds :: .ref a_scriptValues :: .int v_scriptTokens :: .int v_at :: .int v_place :: .int v_kind :: .int v_value :: .int v_depth :: .int v_asked :: .int v_lets :: .int v_questions :: .int v_statements :: .ref a_isTold :: .ref a_letOf :: .ref a_code :: .int v_size :: .ref a_letEnd :: .ref a_letBegin :: .ref a_sort :: .ref a_column :: .ref a_low :: .ref a_high :: .ref a_by :: .ref a_top :: .ref a_begins :: .ref a_ends :: .int v_hasScript :: .int v_scriptLets :: .int v_scriptQuestions :: .ref a_scriptCode :: .ref a_scriptLetBegin :: .ref a_scriptLetEnd :: .ref a_aSort :: .ref a_aColumn :: .ref a_aLow :: .ref a_aHigh :: .ref a_aBy :: .ref a_aTop :: .ref a_aBegin :: .ref a_anEnd :: .ref a_told :: .int v_toldCount :: .ref a_out :: .int v_outs :: .ref a_goals :: .ref a_withs :: .int v_goalCount :: .ref a_pile :: .ref a_letValue :: .ref a_one :: .ref a_two :: [])), (a_table, .inl (gI G, 366, .inl f_table))] (some (.int (s_Mo_drop f_table v_rows row).1)) [(h, .inr (12, .int v_p :: .int v_q :: .ref a_table :: .int (s_Mo_drop f_table v_rows row).2.1 :: .ref a_tape :: .int v_cells :: .ref a_budget :: .ref a_spent :: .ref a_text :: .int v_signs :: .ref a_kinds :: .ref a_values :: .int v_tokens :: .ref a_scriptKinds :: .ref a_scriptValues :: .int v_scriptTokens :: .int v_at :: .int v_place :: .int v_kind :: .int v_value :: .int v_depth :: .int v_asked :: .int v_lets :: .int v_questions :: .int v_statements :: .ref a_isTold :: .ref a_letOf :: .ref a_code :: .int v_size :: .ref a_letEnd :: .ref a_letBegin :: .ref a_sort :: .ref a_column :: .ref a_low :: .ref a_high :: .ref a_by :: .ref a_top :: .ref a_begins :: .ref a_ends :: .int v_hasScript :: .int v_scriptLets :: .int v_scriptQuestions :: .ref a_scriptCode :: .ref a_scriptLetBegin :: .ref a_scriptLetEnd :: .ref a_aSort :: .ref a_aColumn :: .ref a_aLow :: .ref a_aHigh :: .ref a_aBy :: .ref a_aTop :: .ref a_aBegin :: .ref a_anEnd :: .ref a_told :: .int v_toldCount :: .ref a_out :: .int v_outs :: .ref a_goals :: .ref a_withs :: .int v_goalCount :: .ref a_pile :: .ref a_letValue :: .ref a_one :: .ref a_two :: [])), (a_table, .inl (gI G, 366, .inl (s_Mo_drop f_table v_rows row).2.2))] := by
  refine Det.of (cc := b_Mo_drop) (maxL := 3) (ret := (some .int)) (by decide) rfl (Nat.le_of_ble_eq_true rfl) ?_
  intro p e s m args below meth c A ls hx hb hr hml hown hts hlocks hin hA hK hZ hP hD hS hl
  have hts : ∀ w ∈ wG, w.before args s = true := fun w h => hts w (List.mem_cons_of_mem _ h)
  have hown : s.vm.findClass R_Mo = some m.cls := hown
  have loop_22 : ∀ (n : Nat) (i : Int32) (g : Nat → Int32), 0 ≤ i.toInt → ((6 * v_rows - 6).toInt - i.toInt).toNat < n → ∀ (H : Heap) (locs : List Loc) (ls : Array Slot), va_P G.1 classes [(h, .inr (12, .int v_p :: .int v_q :: .ref a_table :: .int v_rows :: .ref a_tape :: .int v_cells :: .ref a_budget :: .ref a_spent :: .ref a_text :: .int v_signs :: .ref a_kinds :: .ref a_values :: .int v_tokens :: .ref a_scriptKinds :: .ref a_scriptValues :: .int v_scriptTokens :: .int v_at :: .int v_place :: .int v_kind :: .int v_value :: .int v_depth :: .int v_asked :: .int v_lets :: .int v_questions :: .int v_statements :: .ref a_isTold :: .ref a_letOf :: .ref a_code :: .int v_size :: .ref a_letEnd :: .ref a_letBegin :: .ref a_sort :: .ref a_column :: .ref a_low :: .ref a_high :: .ref a_by :: .ref a_top :: .ref a_begins :: .ref a_ends :: .int v_hasScript :: .int v_scriptLets :: .int v_scriptQuestions :: .ref a_scriptCode :: .ref a_scriptLetBegin :: .ref a_scriptLetEnd :: .ref a_aSort :: .ref a_aColumn :: .ref a_aLow :: .ref a_aHigh :: .ref a_aBy :: .ref a_aTop :: .ref a_aBegin :: .ref a_anEnd :: .ref a_told :: .int v_toldCount :: .ref a_out :: .int v_outs :: .ref a_goals :: .ref a_withs :: .int v_goalCount :: .ref a_pile :: .ref a_letValue :: .ref a_one :: .ref a_two :: [])), (a_table, .inl (gI G, 366, .inl g))] H → va_D A [(h, .inr (12, .int v_p :: .int v_q :: .ref a_table :: .int v_rows :: .ref a_tape :: .int v_cells :: .ref a_budget :: .ref a_spent :: .ref a_text :: .int v_signs :: .ref a_kinds :: .ref a_values :: .int v_tokens :: .ref a_scriptKinds :: .ref a_scriptValues :: .int v_scriptTokens :: .int v_at :: .int v_place :: .int v_kind :: .int v_value :: .int v_depth :: .int v_asked :: .int v_lets :: .int v_questions :: .int v_statements :: .ref a_isTold :: .ref a_letOf :: .ref a_code :: .int v_size :: .ref a_letEnd :: .ref a_letBegin :: .ref a_sort :: .ref a_column :: .ref a_low :: .ref a_high :: .ref a_by :: .ref a_top :: .ref a_begins :: .ref a_ends :: .int v_hasScript :: .int v_scriptLets :: .int v_scriptQuestions :: .ref a_scriptCode :: .ref a_scriptLetBegin :: .ref a_scriptLetEnd :: .ref a_aSort :: .ref a_aColumn :: .ref a_aLow :: .ref a_aHigh :: .ref a_aBy :: .ref a_aTop :: .ref a_aBegin :: .ref a_anEnd :: .ref a_told :: .int v_toldCount :: .ref a_out :: .int v_outs :: .ref a_goals :: .ref a_withs :: .int v_goalCount :: .ref a_pile :: .ref a_letValue :: .ref a_one :: .ref a_two :: [])), (a_table, .inl (gI G, 366, .inl g))] → va_S A s.heap H locs → lv_has ls 3 [(2, .int i), (0, .ref h), (1, .int row)] → W p l e (rmD 1) s m args below meth c H locs 0 0 (MQ below (ly_Q G A (some (.int (lp_Mo_drop_22 v_rows n i g).1)) [(h, .inr (12, .int v_p :: .int v_q :: .ref a_table :: .int (lp_Mo_drop_22 v_rows n i g).2.1 :: .ref a_tape :: .int v_cells :: .ref a_budget :: .ref a_spent :: .ref a_text :: .int v_signs :: .ref a_kinds :: .ref a_values :: .int v_tokens :: .ref a_scriptKinds :: .ref a_scriptValues :: .int v_scriptTokens :: .int v_at :: .int v_place :: .int v_kind :: .int v_value :: .int v_depth :: .int v_asked :: .int v_lets :: .int v_questions :: .int v_statements :: .ref a_isTold :: .ref a_letOf :: .ref a_code :: .int v_size :: .ref a_letEnd :: .ref a_letBegin :: .ref a_sort :: .ref a_column :: .ref a_low :: .ref a_high :: .ref a_by :: .ref a_top :: .ref a_begins :: .ref a_ends :: .int v_hasScript :: .int v_scriptLets :: .int v_scriptQuestions :: .ref a_scriptCode :: .ref a_scriptLetBegin :: .ref a_scriptLetEnd :: .ref a_aSort :: .ref a_aColumn :: .ref a_aLow :: .ref a_aHigh :: .ref a_aBy :: .ref a_aTop :: .ref a_aBegin :: .ref a_anEnd :: .ref a_told :: .int v_toldCount :: .ref a_out :: .int v_outs :: .ref a_goals :: .ref a_withs :: .int v_goalCount :: .ref a_pile :: .ref a_letValue :: .ref a_one :: .ref a_two :: [])), (a_table, .inl (gI G, 366, .inl (lp_Mo_drop_22 v_rows n i g).2.2))]) args s 0 0 A) (F0 m 22 ls []) := by
    intro n
    induction n with
    | zero => intro i g hi hmu; exact absurd hmu (Nat.not_lt_zero _)
    | succ n ih =>
      intro i g hi hmu H locs ls hP hD hS hl
      refine lv_iload_n hx hb d_Mo_drop_22 rfl (lv_at hl 0 rfl) ?_
      refine lv_bipush (v := 6) hx hb d_Mo_drop_23 (by decide) ?_
      refine lv_aload_n hx hb d_Mo_drop_25 rfl (lv_at hl 1 rfl) ?_
      refine va_get (D := G.1) (ci := 12) (C := R_Mo) (T := F_Mo) (N := 64) (v := .int v_rows) hx hb hts i_Mo hown hK hP 0 rfl rfl 3 (by decide) (hts (.fieldLink R_Mo 141 "PrivateQueriesModel" "rows" "I") k_172) (fun _ h9 => h9) rfl d_Mo_drop_26 ?_
      refine lv_imul hx hb d_Mo_drop_29 ?_
      refine lv_bipush (v := 6) hx hb d_Mo_drop_30 (by decide) ?_
      refine lv_isub hx hb d_Mo_drop_32 ?_
      refine lv_icmp_ge (tgt := 57) hx hb d_Mo_drop_33 (by decide) (fun c1 => ?_) (fun c1 => ?_)
      · skip
        refine lv_aload_n hx hb d_Mo_drop_57 rfl (lv_at hl 1 rfl) ?_
        refine lv_dup hx hb d_Mo_drop_58 rfl ?_
        refine va_get (D := G.1) (ci := 12) (C := R_Mo) (T := F_Mo) (N := 64) (v := .int v_rows) hx hb hts i_Mo hown hK hP 0 rfl rfl 3 (by decide) (hts (.fieldLink R_Mo 141 "PrivateQueriesModel" "rows" "I") k_172) (fun _ h9 => h9) rfl d_Mo_drop_59 ?_
        refine lv_iconst (v := 1) hx hb d_Mo_drop_62 (by decide) ?_
        refine lv_isub hx hb d_Mo_drop_63 ?_
        refine va_put (D := G.1) (ci := 12) (v := .int (v_rows - 1)) (ty := .int) (C := R_Mo) (T := F_Mo) (N := 64) hx hb hts i_Mo t_Mo t_Mo_ok n_Mo hown hK hP hD hS 0 rfl rfl 3 (by decide) (hts (.fieldLink R_Mo 141 "PrivateQueriesModel" "rows" "I") k_172) (fun _ h9 => h9) rfl (by decide +kernel) rfl rfl (Nat.le_of_ble_eq_true rfl) d_Mo_drop_64 (fun H locs hP hD hS => ?_)
        have hP : va_P G.1 classes [(h, .inr (12, .int v_p :: .int v_q :: .ref a_table :: .int (v_rows - 1) :: .ref a_tape :: .int v_cells :: .ref a_budget :: .ref a_spent :: .ref a_text :: .int v_signs :: .ref a_kinds :: .ref a_values :: .int v_tokens :: .ref a_scriptKinds :: .ref a_scriptValues :: .int v_scriptTokens :: .int v_at :: .int v_place :: .int v_kind :: .int v_value :: .int v_depth :: .int v_asked :: .int v_lets :: .int v_questions :: .int v_statements :: .ref a_isTold :: .ref a_letOf :: .ref a_code :: .int v_size :: .ref a_letEnd :: .ref a_letBegin :: .ref a_sort :: .ref a_column :: .ref a_low :: .ref a_high :: .ref a_by :: .ref a_top :: .ref a_begins :: .ref a_ends :: .int v_hasScript :: .int v_scriptLets :: .int v_scriptQuestions :: .ref a_scriptCode :: .ref a_scriptLetBegin :: .ref a_scriptLetEnd :: .ref a_aSort :: .ref a_aColumn :: .ref a_aLow :: .ref a_aHigh :: .ref a_aBy :: .ref a_aTop :: .ref a_aBegin :: .ref a_anEnd :: .ref a_told :: .int v_toldCount :: .ref a_out :: .int v_outs :: .ref a_goals :: .ref a_withs :: .int v_goalCount :: .ref a_pile :: .ref a_letValue :: .ref a_one :: .ref a_two :: [])), (a_table, .inl (gI G, 366, .inl g))] H := hP
        have hD : va_D A [(h, .inr (12, .int v_p :: .int v_q :: .ref a_table :: .int (v_rows - 1) :: .ref a_tape :: .int v_cells :: .ref a_budget :: .ref a_spent :: .ref a_text :: .int v_signs :: .ref a_kinds :: .ref a_values :: .int v_tokens :: .ref a_scriptKinds :: .ref a_scriptValues :: .int v_scriptTokens :: .int v_at :: .int v_place :: .int v_kind :: .int v_value :: .int v_depth :: .int v_asked :: .int v_lets :: .int v_questions :: .int v_statements :: .ref a_isTold :: .ref a_letOf :: .ref a_code :: .int v_size :: .ref a_letEnd :: .ref a_letBegin :: .ref a_sort :: .ref a_column :: .ref a_low :: .ref a_high :: .ref a_by :: .ref a_top :: .ref a_begins :: .ref a_ends :: .int v_hasScript :: .int v_scriptLets :: .int v_scriptQuestions :: .ref a_scriptCode :: .ref a_scriptLetBegin :: .ref a_scriptLetEnd :: .ref a_aSort :: .ref a_aColumn :: .ref a_aLow :: .ref a_aHigh :: .ref a_aBy :: .ref a_aTop :: .ref a_aBegin :: .ref a_anEnd :: .ref a_told :: .int v_toldCount :: .ref a_out :: .int v_outs :: .ref a_goals :: .ref a_withs :: .int v_goalCount :: .ref a_pile :: .ref a_letValue :: .ref a_one :: .ref a_two :: [])), (a_table, .inl (gI G, 366, .inl g))] := hD
        refine lv_aload_n hx hb d_Mo_drop_67 rfl (lv_at hl 1 rfl) ?_
        refine va_get (D := G.1) (ci := 12) (C := R_Mo) (T := F_Mo) (N := 64) (v := .int (v_rows - 1)) hx hb hts i_Mo hown hK hP 0 rfl rfl 3 (by decide) (hts (.fieldLink R_Mo 141 "PrivateQueriesModel" "rows" "I") k_172) (fun _ h9 => h9) rfl d_Mo_drop_68 ?_
        exact ly_iret hx hb hr hlocks hP hD hS d_Mo_drop_71 (by rw [lp_Mo_drop_22, if_pos c1]) (by rw [lp_Mo_drop_22, if_pos c1])
      refine lv_aload_n hx hb d_Mo_drop_36 rfl (lv_at hl 1 rfl) ?_
      refine va_get (D := G.1) (ci := 12) (C := R_Mo) (T := F_Mo) (N := 64) (v := .ref a_table) hx hb hts i_Mo hown hK hP 0 rfl rfl 2 (by decide) (hts (.fieldLink R_Mo 7 "PrivateQueriesModel" "table" "[I") k_173) (fun _ h9 => h9) rfl d_Mo_drop_37 ?_
      refine lv_iload_n hx hb d_Mo_drop_40 rfl (lv_at hl 0 rfl) ?_
      refine lv_aload_n hx hb d_Mo_drop_41 rfl (lv_at hl 1 rfl) ?_
      refine va_get (D := G.1) (ci := 12) (C := R_Mo) (T := F_Mo) (N := 64) (v := .ref a_table) hx hb hts i_Mo hown hK hP 0 rfl rfl 2 (by decide) (hts (.fieldLink R_Mo 7 "PrivateQueriesModel" "table" "[I") k_173) (fun _ h9 => h9) rfl d_Mo_drop_42 ?_
      refine lv_iload_n hx hb d_Mo_drop_45 rfl (lv_at hl 0 rfl) ?_
      refine lv_bipush (v := 6) hx hb d_Mo_drop_46 (by decide) ?_
      refine lv_iadd hx hb d_Mo_drop_48 ?_
      refine va_iald hx hb hK hP 1 0 rfl rfl (dp_j hz_v_rows hi c1) d_Mo_drop_49 ?_
      refine va_iast hx hb hK hP hD hS 1 0 rfl rfl (dp_i hz_v_rows hi c1) d_Mo_drop_50 (fun H locs hP hD hS => ?_)
      have hP : va_P G.1 classes [(h, .inr (12, .int v_p :: .int v_q :: .ref a_table :: .int v_rows :: .ref a_tape :: .int v_cells :: .ref a_budget :: .ref a_spent :: .ref a_text :: .int v_signs :: .ref a_kinds :: .ref a_values :: .int v_tokens :: .ref a_scriptKinds :: .ref a_scriptValues :: .int v_scriptTokens :: .int v_at :: .int v_place :: .int v_kind :: .int v_value :: .int v_depth :: .int v_asked :: .int v_lets :: .int v_questions :: .int v_statements :: .ref a_isTold :: .ref a_letOf :: .ref a_code :: .int v_size :: .ref a_letEnd :: .ref a_letBegin :: .ref a_sort :: .ref a_column :: .ref a_low :: .ref a_high :: .ref a_by :: .ref a_top :: .ref a_begins :: .ref a_ends :: .int v_hasScript :: .int v_scriptLets :: .int v_scriptQuestions :: .ref a_scriptCode :: .ref a_scriptLetBegin :: .ref a_scriptLetEnd :: .ref a_aSort :: .ref a_aColumn :: .ref a_aLow :: .ref a_aHigh :: .ref a_aBy :: .ref a_aTop :: .ref a_aBegin :: .ref a_anEnd :: .ref a_told :: .int v_toldCount :: .ref a_out :: .int v_outs :: .ref a_goals :: .ref a_withs :: .int v_goalCount :: .ref a_pile :: .ref a_letValue :: .ref a_one :: .ref a_two :: [])), (a_table, .inl (gI G, 366, .inl (upd g i.toNatClampNeg (g (i + 6).toNatClampNeg))))] H := hP
      have hD : va_D A [(h, .inr (12, .int v_p :: .int v_q :: .ref a_table :: .int v_rows :: .ref a_tape :: .int v_cells :: .ref a_budget :: .ref a_spent :: .ref a_text :: .int v_signs :: .ref a_kinds :: .ref a_values :: .int v_tokens :: .ref a_scriptKinds :: .ref a_scriptValues :: .int v_scriptTokens :: .int v_at :: .int v_place :: .int v_kind :: .int v_value :: .int v_depth :: .int v_asked :: .int v_lets :: .int v_questions :: .int v_statements :: .ref a_isTold :: .ref a_letOf :: .ref a_code :: .int v_size :: .ref a_letEnd :: .ref a_letBegin :: .ref a_sort :: .ref a_column :: .ref a_low :: .ref a_high :: .ref a_by :: .ref a_top :: .ref a_begins :: .ref a_ends :: .int v_hasScript :: .int v_scriptLets :: .int v_scriptQuestions :: .ref a_scriptCode :: .ref a_scriptLetBegin :: .ref a_scriptLetEnd :: .ref a_aSort :: .ref a_aColumn :: .ref a_aLow :: .ref a_aHigh :: .ref a_aBy :: .ref a_aTop :: .ref a_aBegin :: .ref a_anEnd :: .ref a_told :: .int v_toldCount :: .ref a_out :: .int v_outs :: .ref a_goals :: .ref a_withs :: .int v_goalCount :: .ref a_pile :: .ref a_letValue :: .ref a_one :: .ref a_two :: [])), (a_table, .inl (gI G, 366, .inl (upd g i.toNatClampNeg (g (i + 6).toNatClampNeg))))] := hD
      refine lv_iinc (v := i + 1) (lv' := [(2, .int (i + 1)), (0, .ref h), (1, .int row)]) hx hb d_Mo_drop_51 hl (k := 0) rfl (by rfl) (by decide) rfl (fun ls hl => ?_)
      refine lv_goto (tgt := 22) hx hb d_Mo_drop_54 (by decide) ?_
      have e_ : (lp_Mo_drop_22 v_rows (n + 1) i g) = (lp_Mo_drop_22 v_rows n (i + 1) (upd g i.toNatClampNeg (g (i + 6).toNatClampNeg))) := (by rw [lp_Mo_drop_22, if_neg c1])
      rw [e_]
      exact ih (i + 1) (upd g i.toNatClampNeg (g (i + 6).toNatClampNeg)) (ho_1 c1 hi) (mu_step (mu_up c1) hmu) _ _ _ hP hD hS (lv_sub hl [0, 1, 2] rfl)
  have hl : lv_has ls 3 [(0, .ref h), (1, .int row)] := hl
  refine lv_iload_n hx hb d_Mo_drop_0 rfl (lv_at hl 1 rfl) ?_
  refine lv_iconst (v := 0) hx hb d_Mo_drop_1 (by decide) ?_
  refine lv_aload_n hx hb d_Mo_drop_2 rfl (lv_at hl 0 rfl) ?_
  refine va_get (D := G.1) (ci := 12) (C := R_Mo) (T := F_Mo) (N := 64) (v := .int v_rows) hx hb hts i_Mo hown hK hP 0 rfl rfl 3 (by decide) (hts (.fieldLink R_Mo 141 "PrivateQueriesModel" "rows" "I") k_172) (fun _ h9 => h9) rfl d_Mo_drop_3 ?_
  refine lv_iconst (v := 1) hx hb d_Mo_drop_6 (by decide) ?_
  refine lv_isub hx hb d_Mo_drop_7 ?_
  obtain ⟨r1, hr1⟩ : ∃ r, (s_Mo_in row 0 (v_rows - 1)) = r := ⟨_, rfl⟩
  have hC_r1 := (c_Mo_in l G row 0 (v_rows - 1))
  rw [hr1] at hC_r1
  have hf_r1_1 : isB r1 := by rw [← hr1]; exact z_Mo_in
  refine ly_callS (rest := []) (wf := [(h, .inr (12, .int v_p :: .int v_q :: .ref a_table :: .int v_rows :: .ref a_tape :: .int v_cells :: .ref a_budget :: .ref a_spent :: .ref a_text :: .int v_signs :: .ref a_kinds :: .ref a_values :: .int v_tokens :: .ref a_scriptKinds :: .ref a_scriptValues :: .int v_scriptTokens :: .int v_at :: .int v_place :: .int v_kind :: .int v_value :: .int v_depth :: .int v_asked :: .int v_lets :: .int v_questions :: .int v_statements :: .ref a_isTold :: .ref a_letOf :: .ref a_code :: .int v_size :: .ref a_letEnd :: .ref a_letBegin :: .ref a_sort :: .ref a_column :: .ref a_low :: .ref a_high :: .ref a_by :: .ref a_top :: .ref a_begins :: .ref a_ends :: .int v_hasScript :: .int v_scriptLets :: .int v_scriptQuestions :: .ref a_scriptCode :: .ref a_scriptLetBegin :: .ref a_scriptLetEnd :: .ref a_aSort :: .ref a_aColumn :: .ref a_aLow :: .ref a_aHigh :: .ref a_aBy :: .ref a_aTop :: .ref a_aBegin :: .ref a_anEnd :: .ref a_told :: .int v_toldCount :: .ref a_out :: .int v_outs :: .ref a_goals :: .ref a_withs :: .int v_goalCount :: .ref a_pile :: .ref a_letValue :: .ref a_one :: .ref a_two :: [])), (a_table, .inl (gI G, 366, .inl f_table))]) ⟨hx, hb, hml, hown, hts⟩ hA hK hZ hP hD hS hC_r1 (cwS 3 hts g_Mo_144 rfl rfl rfl (by decide +kernel) ⟨Nat.le_of_ble_eq_true rfl, Nat.le_of_ble_eq_true rfl⟩) [] rfl (by decide) rfl rfl rfl hl.1 rfl (Nat.le_of_ble_eq_true rfl) d_Mo_drop_8 ⟨Nat.le_of_ble_eq_true rfl, Nat.le_of_ble_eq_true rfl⟩ (st1 := [.int r1]) (c1 := 0) (s1 := 0) rfl rfl rfl (fun H locs hP hD hS => ?_)
  refine lv_if_ne (tgt := 17) hx hb d_Mo_drop_11 (by decide) (fun c1 => ?_) (fun c1 => ?_)
  · skip
    refine lv_bipush (v := 6) hx hb d_Mo_drop_17 (by decide) ?_
    refine lv_iload_n hx hb d_Mo_drop_19 rfl (lv_at hl 1 rfl) ?_
    refine lv_imul hx hb d_Mo_drop_20 ?_
    refine lv_istore_n (lv' := [(2, .int (6 * row)), (0, .ref h), (1, .int row)]) hx hb d_Mo_drop_21 rfl hl (by decide) rfl (fun ls hl => ?_)
    have e_ : (s_Mo_drop f_table v_rows row) = (lp_Mo_drop_22 v_rows ((((6 * v_rows - 6).toInt - (6 * row).toInt).toNat) + 1) (6 * row) f_table) := (by rw [s_Mo_drop] <;> simp only [hr1] <;> rw [if_neg c1])
    rw [e_]
    exact loop_22 ((((6 * v_rows - 6).toInt - (6 * row).toInt).toNat) + 1) (6 * row) f_table (dp_0 hz_v_rows (by rw [hr1]; exact c1)) (Nat.lt_succ_self _) _ _ _ hP hD hS (lv_sub hl [0, 1, 2] rfl)
  refine lv_bipush (v := (-101)) hx hb d_Mo_drop_14 (by decide) ?_
  exact ly_iret hx hb hr hlocks hP hD hS d_Mo_drop_16 (by rw [s_Mo_drop] <;> simp only [hr1] <;> rw [if_pos c1]) (by rw [s_Mo_drop] <;> simp only [hr1] <;> rw [if_pos c1])

set_option maxHeartbeats 4000000 in
set_option maxRecDepth 100000 in
theorem c_Mo_unitsOf (l : Launch) (G : GG) (h : Nat) (a_table : Nat) (a_tape : Nat) (a_budget : Nat) (a_spent : Nat) (a_text : Nat) (a_kinds : Nat) (a_values : Nat) (a_scriptKinds : Nat) (a_scriptValues : Nat) (a_isTold : Nat) (a_letOf : Nat) (a_code : Nat) (a_letEnd : Nat) (a_letBegin : Nat) (a_sort : Nat) (a_column : Nat) (a_low : Nat) (a_high : Nat) (a_by : Nat) (a_top : Nat) (a_begins : Nat) (a_ends : Nat) (a_scriptCode : Nat) (a_scriptLetBegin : Nat) (a_scriptLetEnd : Nat) (a_aSort : Nat) (a_aColumn : Nat) (a_aLow : Nat) (a_aHigh : Nat) (a_aBy : Nat) (a_aTop : Nat) (a_aBegin : Nat) (a_anEnd : Nat) (a_told : Nat) (a_out : Nat) (a_goals : Nat) (a_withs : Nat) (a_pile : Nat) (a_letValue : Nat) (a_one : Nat) (a_two : Nat) (v_p : Int32) (v_q : Int32) (v_rows : Int32) (v_cells : Int32) (v_signs : Int32) (v_tokens : Int32) (v_scriptTokens : Int32) (v_at : Int32) (v_place : Int32) (v_kind : Int32) (v_value : Int32) (v_depth : Int32) (v_asked : Int32) (v_lets : Int32) (v_questions : Int32) (v_statements : Int32) (v_size : Int32) (v_hasScript : Int32) (v_scriptLets : Int32) (v_scriptQuestions : Int32) (f_aSort : Nat → Int32) (f_aHigh : Nat → Int32) (f_aBy : Nat → Int32) (v_toldCount : Int32) (v_outs : Int32) (v_goalCount : Int32) (x : Int32) (hx1 : up x 11) (hb1 : ¬ f_aBy x.toNatClampNeg = 0) : Det l G y_Mo_unitsOf w_Mo_unitsOf (rmD 0) 0 0 [.ref h, .int x] [(h, .inr (12, .int v_p :: .int v_q :: .ref a_table :: .int v_rows :: .ref a_tape :: .int v_cells :: .ref a_budget :: .ref a_spent :: .ref a_text :: .int v_signs :: .ref a_kinds :: .ref a_values :: .int v_tokens :: .ref a_scriptKinds :: .ref a_scriptValues :: .int v_scriptTokens :: .int v_at :: .int v_place :: .int v_kind :: .int v_value :: .int v_depth :: .int v_asked :: .int v_lets :: .int v_questions :: .int v_statements :: .ref a_isTold :: .ref a_letOf :: .ref a_code :: .int v_size :: .ref a_letEnd :: .ref a_letBegin :: .ref a_sort :: .ref a_column :: .ref a_low :: .ref a_high :: .ref a_by :: .ref a_top :: .ref a_begins :: .ref a_ends :: .int v_hasScript :: .int v_scriptLets :: .int v_scriptQuestions :: .ref a_scriptCode :: .ref a_scriptLetBegin :: .ref a_scriptLetEnd :: .ref a_aSort :: .ref a_aColumn :: .ref a_aLow :: .ref a_aHigh :: .ref a_aBy :: .ref a_aTop :: .ref a_aBegin :: .ref a_anEnd :: .ref a_told :: .int v_toldCount :: .ref a_out :: .int v_outs :: .ref a_goals :: .ref a_withs :: .int v_goalCount :: .ref a_pile :: .ref a_letValue :: .ref a_one :: .ref a_two :: [])), (a_aSort, .inl (gI G, 12, .inl f_aSort)), (a_aHigh, .inl (gI G, 12, .inl f_aHigh)), (a_aBy, .inl (gI G, 12, .inl f_aBy))] (some (.int (s_Mo_unitsOf f_aSort f_aHigh f_aBy x))) [(h, .inr (12, .int v_p :: .int v_q :: .ref a_table :: .int v_rows :: .ref a_tape :: .int v_cells :: .ref a_budget :: .ref a_spent :: .ref a_text :: .int v_signs :: .ref a_kinds :: .ref a_values :: .int v_tokens :: .ref a_scriptKinds :: .ref a_scriptValues :: .int v_scriptTokens :: .int v_at :: .int v_place :: .int v_kind :: .int v_value :: .int v_depth :: .int v_asked :: .int v_lets :: .int v_questions :: .int v_statements :: .ref a_isTold :: .ref a_letOf :: .ref a_code :: .int v_size :: .ref a_letEnd :: .ref a_letBegin :: .ref a_sort :: .ref a_column :: .ref a_low :: .ref a_high :: .ref a_by :: .ref a_top :: .ref a_begins :: .ref a_ends :: .int v_hasScript :: .int v_scriptLets :: .int v_scriptQuestions :: .ref a_scriptCode :: .ref a_scriptLetBegin :: .ref a_scriptLetEnd :: .ref a_aSort :: .ref a_aColumn :: .ref a_aLow :: .ref a_aHigh :: .ref a_aBy :: .ref a_aTop :: .ref a_aBegin :: .ref a_anEnd :: .ref a_told :: .int v_toldCount :: .ref a_out :: .int v_outs :: .ref a_goals :: .ref a_withs :: .int v_goalCount :: .ref a_pile :: .ref a_letValue :: .ref a_one :: .ref a_two :: [])), (a_aSort, .inl (gI G, 12, .inl f_aSort)), (a_aHigh, .inl (gI G, 12, .inl f_aHigh)), (a_aBy, .inl (gI G, 12, .inl f_aBy))] := by
  refine Det.of (cc := b_Mo_unitsOf) (maxL := 2) (ret := (some .int)) (by decide) rfl (Nat.le_of_ble_eq_true rfl) ?_
  intro p e s m args below meth c A ls hx hb hr hml hown hts hlocks hin hA hK hZ hP hD hS hl
  have hts : ∀ w ∈ wG, w.before args s = true := fun w h => hts w (List.mem_cons_of_mem _ h)
  have hown : s.vm.findClass R_Mo = some m.cls := hown
  have hl : lv_has ls 2 [(0, .ref h), (1, .int x)] := hl
  refine lv_aload_n hx hb d_Mo_unitsOf_0 rfl (lv_at hl 0 rfl) ?_
  refine va_get (D := G.1) (ci := 12) (C := R_Mo) (T := F_Mo) (N := 64) (v := .ref a_aSort) hx hb hts i_Mo hown hK hP 0 rfl rfl 45 (by decide) (hts (.fieldLink R_Mo 86 "PrivateQueriesModel" "aSort" "[I") k_301) (fun _ h9 => h9) rfl d_Mo_unitsOf_1 ?_
  refine lv_iload_n hx hb d_Mo_unitsOf_4 rfl (lv_at hl 1 rfl) ?_
  refine va_iald hx hb hK hP 1 0 rfl rfl (x12 hx1) d_Mo_unitsOf_5 ?_
  refine lv_iconst (v := 1) hx hb d_Mo_unitsOf_6 (by decide) ?_
  refine lv_icmp_ne (tgt := 35) hx hb d_Mo_unitsOf_7 (by decide) (fun c1 => ?_) (fun c1 => ?_)
  · skip
    refine lv_iconst (v := 1) hx hb d_Mo_unitsOf_35 (by decide) ?_
    exact ly_iret hx hb hr hlocks hP hD hS d_Mo_unitsOf_36 (by rw [s_Mo_unitsOf, if_neg c1]) rfl
  refine lv_aload_n hx hb d_Mo_unitsOf_10 rfl (lv_at hl 0 rfl) ?_
  refine va_get (D := G.1) (ci := 12) (C := R_Mo) (T := F_Mo) (N := 64) (v := .ref a_aHigh) hx hb hts i_Mo hown hK hP 0 rfl rfl 48 (by decide) (hts (.fieldLink R_Mo 95 "PrivateQueriesModel" "aHigh" "[I") k_302) (fun _ h9 => h9) rfl d_Mo_unitsOf_11 ?_
  refine lv_iload_n hx hb d_Mo_unitsOf_14 rfl (lv_at hl 1 rfl) ?_
  refine va_iald hx hb hK hP 2 0 rfl rfl (x12 hx1) d_Mo_unitsOf_15 ?_
  refine lv_aload_n hx hb d_Mo_unitsOf_16 rfl (lv_at hl 0 rfl) ?_
  refine va_get (D := G.1) (ci := 12) (C := R_Mo) (T := F_Mo) (N := 64) (v := .ref a_aBy) hx hb hts i_Mo hown hK hP 0 rfl rfl 49 (by decide) (hts (.fieldLink R_Mo 98 "PrivateQueriesModel" "aBy" "[I") k_303) (fun _ h9 => h9) rfl d_Mo_unitsOf_17 ?_
  refine lv_iload_n hx hb d_Mo_unitsOf_20 rfl (lv_at hl 1 rfl) ?_
  refine va_iald hx hb hK hP 3 0 rfl rfl (x12 hx1) d_Mo_unitsOf_21 ?_
  refine lv_iadd hx hb d_Mo_unitsOf_22 ?_
  refine lv_iconst (v := 1) hx hb d_Mo_unitsOf_23 (by decide) ?_
  refine lv_isub hx hb d_Mo_unitsOf_24 ?_
  refine lv_aload_n hx hb d_Mo_unitsOf_25 rfl (lv_at hl 0 rfl) ?_
  refine va_get (D := G.1) (ci := 12) (C := R_Mo) (T := F_Mo) (N := 64) (v := .ref a_aBy) hx hb hts i_Mo hown hK hP 0 rfl rfl 49 (by decide) (hts (.fieldLink R_Mo 98 "PrivateQueriesModel" "aBy" "[I") k_303) (fun _ h9 => h9) rfl d_Mo_unitsOf_26 ?_
  refine lv_iload_n hx hb d_Mo_unitsOf_29 rfl (lv_at hl 1 rfl) ?_
  refine va_iald hx hb hK hP 3 0 rfl rfl (x12 hx1) d_Mo_unitsOf_30 ?_
  refine lv_idiv hx hb d_Mo_unitsOf_31 hb1 ?_
  refine lv_goto (tgt := 36) hx hb d_Mo_unitsOf_32 (by decide) ?_
  exact ly_iret hx hb hr hlocks hP hD hS d_Mo_unitsOf_36 (by rw [s_Mo_unitsOf, if_pos c1]) rfl

set_option maxHeartbeats 4000000 in
set_option maxRecDepth 100000 in
theorem c_Mo_numbersOf (l : Launch) (G : GG) (h : Nat) (a_table : Nat) (a_tape : Nat) (a_budget : Nat) (a_spent : Nat) (a_text : Nat) (a_kinds : Nat) (a_values : Nat) (a_scriptKinds : Nat) (a_scriptValues : Nat) (a_isTold : Nat) (a_letOf : Nat) (a_code : Nat) (a_letEnd : Nat) (a_letBegin : Nat) (a_sort : Nat) (a_column : Nat) (a_low : Nat) (a_high : Nat) (a_by : Nat) (a_top : Nat) (a_begins : Nat) (a_ends : Nat) (a_scriptCode : Nat) (a_scriptLetBegin : Nat) (a_scriptLetEnd : Nat) (a_aSort : Nat) (a_aColumn : Nat) (a_aLow : Nat) (a_aHigh : Nat) (a_aBy : Nat) (a_aTop : Nat) (a_aBegin : Nat) (a_anEnd : Nat) (a_told : Nat) (a_out : Nat) (a_goals : Nat) (a_withs : Nat) (a_pile : Nat) (a_letValue : Nat) (a_one : Nat) (a_two : Nat) (v_p : Int32) (v_q : Int32) (v_rows : Int32) (v_cells : Int32) (v_signs : Int32) (v_tokens : Int32) (v_scriptTokens : Int32) (v_at : Int32) (v_place : Int32) (v_kind : Int32) (v_value : Int32) (v_depth : Int32) (v_asked : Int32) (v_lets : Int32) (v_questions : Int32) (v_statements : Int32) (v_size : Int32) (v_hasScript : Int32) (v_scriptLets : Int32) (v_scriptQuestions : Int32) (f_aSort : Nat → Int32) (f_aLow : Nat → Int32) (f_aHigh : Nat → Int32) (v_toldCount : Int32) (v_outs : Int32) (v_goalCount : Int32) (x : Int32) (hx1 : up x 11) : Det l G y_Mo_numbersOf w_Mo_numbersOf (rmD 0) 0 0 [.ref h, .int x] [(h, .inr (12, .int v_p :: .int v_q :: .ref a_table :: .int v_rows :: .ref a_tape :: .int v_cells :: .ref a_budget :: .ref a_spent :: .ref a_text :: .int v_signs :: .ref a_kinds :: .ref a_values :: .int v_tokens :: .ref a_scriptKinds :: .ref a_scriptValues :: .int v_scriptTokens :: .int v_at :: .int v_place :: .int v_kind :: .int v_value :: .int v_depth :: .int v_asked :: .int v_lets :: .int v_questions :: .int v_statements :: .ref a_isTold :: .ref a_letOf :: .ref a_code :: .int v_size :: .ref a_letEnd :: .ref a_letBegin :: .ref a_sort :: .ref a_column :: .ref a_low :: .ref a_high :: .ref a_by :: .ref a_top :: .ref a_begins :: .ref a_ends :: .int v_hasScript :: .int v_scriptLets :: .int v_scriptQuestions :: .ref a_scriptCode :: .ref a_scriptLetBegin :: .ref a_scriptLetEnd :: .ref a_aSort :: .ref a_aColumn :: .ref a_aLow :: .ref a_aHigh :: .ref a_aBy :: .ref a_aTop :: .ref a_aBegin :: .ref a_anEnd :: .ref a_told :: .int v_toldCount :: .ref a_out :: .int v_outs :: .ref a_goals :: .ref a_withs :: .int v_goalCount :: .ref a_pile :: .ref a_letValue :: .ref a_one :: .ref a_two :: [])), (a_aSort, .inl (gI G, 12, .inl f_aSort)), (a_aLow, .inl (gI G, 12, .inl f_aLow)), (a_aHigh, .inl (gI G, 12, .inl f_aHigh))] (some (.int (s_Mo_numbersOf f_aSort f_aLow f_aHigh x))) [(h, .inr (12, .int v_p :: .int v_q :: .ref a_table :: .int v_rows :: .ref a_tape :: .int v_cells :: .ref a_budget :: .ref a_spent :: .ref a_text :: .int v_signs :: .ref a_kinds :: .ref a_values :: .int v_tokens :: .ref a_scriptKinds :: .ref a_scriptValues :: .int v_scriptTokens :: .int v_at :: .int v_place :: .int v_kind :: .int v_value :: .int v_depth :: .int v_asked :: .int v_lets :: .int v_questions :: .int v_statements :: .ref a_isTold :: .ref a_letOf :: .ref a_code :: .int v_size :: .ref a_letEnd :: .ref a_letBegin :: .ref a_sort :: .ref a_column :: .ref a_low :: .ref a_high :: .ref a_by :: .ref a_top :: .ref a_begins :: .ref a_ends :: .int v_hasScript :: .int v_scriptLets :: .int v_scriptQuestions :: .ref a_scriptCode :: .ref a_scriptLetBegin :: .ref a_scriptLetEnd :: .ref a_aSort :: .ref a_aColumn :: .ref a_aLow :: .ref a_aHigh :: .ref a_aBy :: .ref a_aTop :: .ref a_aBegin :: .ref a_anEnd :: .ref a_told :: .int v_toldCount :: .ref a_out :: .int v_outs :: .ref a_goals :: .ref a_withs :: .int v_goalCount :: .ref a_pile :: .ref a_letValue :: .ref a_one :: .ref a_two :: [])), (a_aSort, .inl (gI G, 12, .inl f_aSort)), (a_aLow, .inl (gI G, 12, .inl f_aLow)), (a_aHigh, .inl (gI G, 12, .inl f_aHigh))] := by
  refine Det.of (cc := b_Mo_numbersOf) (maxL := 2) (ret := (some .int)) (by decide) rfl (Nat.le_of_ble_eq_true rfl) ?_
  intro p e s m args below meth c A ls hx hb hr hml hown hts hlocks hin hA hK hZ hP hD hS hl
  have hts : ∀ w ∈ wG, w.before args s = true := fun w h => hts w (List.mem_cons_of_mem _ h)
  have hown : s.vm.findClass R_Mo = some m.cls := hown
  have hl : lv_has ls 2 [(0, .ref h), (1, .int x)] := hl
  refine lv_aload_n hx hb d_Mo_numbersOf_0 rfl (lv_at hl 0 rfl) ?_
  refine va_get (D := G.1) (ci := 12) (C := R_Mo) (T := F_Mo) (N := 64) (v := .ref a_aSort) hx hb hts i_Mo hown hK hP 0 rfl rfl 45 (by decide) (hts (.fieldLink R_Mo 86 "PrivateQueriesModel" "aSort" "[I") k_301) (fun _ h9 => h9) rfl d_Mo_numbersOf_1 ?_
  refine lv_iload_n hx hb d_Mo_numbersOf_4 rfl (lv_at hl 1 rfl) ?_
  refine va_iald hx hb hK hP 1 0 rfl rfl (x12 hx1) d_Mo_numbersOf_5 ?_
  refine lv_iconst (v := 2) hx hb d_Mo_numbersOf_6 (by decide) ?_
  refine lv_icmp_ne (tgt := 28) hx hb d_Mo_numbersOf_7 (by decide) (fun c1 => ?_) (fun c1 => ?_)
  · skip
    refine lv_iconst (v := 1) hx hb d_Mo_numbersOf_28 (by decide) ?_
    exact ly_iret hx hb hr hlocks hP hD hS d_Mo_numbersOf_29 (by rw [s_Mo_numbersOf, if_neg c1]) rfl
  refine lv_aload_n hx hb d_Mo_numbersOf_10 rfl (lv_at hl 0 rfl) ?_
  refine va_get (D := G.1) (ci := 12) (C := R_Mo) (T := F_Mo) (N := 64) (v := .ref a_aHigh) hx hb hts i_Mo hown hK hP 0 rfl rfl 48 (by decide) (hts (.fieldLink R_Mo 95 "PrivateQueriesModel" "aHigh" "[I") k_302) (fun _ h9 => h9) rfl d_Mo_numbersOf_11 ?_
  refine lv_iload_n hx hb d_Mo_numbersOf_14 rfl (lv_at hl 1 rfl) ?_
  refine va_iald hx hb hK hP 3 0 rfl rfl (x12 hx1) d_Mo_numbersOf_15 ?_
  refine lv_aload_n hx hb d_Mo_numbersOf_16 rfl (lv_at hl 0 rfl) ?_
  refine va_get (D := G.1) (ci := 12) (C := R_Mo) (T := F_Mo) (N := 64) (v := .ref a_aLow) hx hb hts i_Mo hown hK hP 0 rfl rfl 47 (by decide) (hts (.fieldLink R_Mo 92 "PrivateQueriesModel" "aLow" "[I") k_304) (fun _ h9 => h9) rfl d_Mo_numbersOf_17 ?_
  refine lv_iload_n hx hb d_Mo_numbersOf_20 rfl (lv_at hl 1 rfl) ?_
  refine va_iald hx hb hK hP 2 0 rfl rfl (x12 hx1) d_Mo_numbersOf_21 ?_
  refine lv_isub hx hb d_Mo_numbersOf_22 ?_
  refine lv_iconst (v := 1) hx hb d_Mo_numbersOf_23 (by decide) ?_
  refine lv_iadd hx hb d_Mo_numbersOf_24 ?_
  refine lv_goto (tgt := 29) hx hb d_Mo_numbersOf_25 (by decide) ?_
  exact ly_iret hx hb hr hlocks hP hD hS d_Mo_numbersOf_29 (by rw [s_Mo_numbersOf, if_pos c1]) rfl

set_option maxHeartbeats 4000000 in
set_option maxRecDepth 100000 in
theorem c_Mo_aspect (l : Launch) (G : GG) (h : Nat) (a_table : Nat) (a_tape : Nat) (a_budget : Nat) (a_spent : Nat) (a_text : Nat) (a_kinds : Nat) (a_values : Nat) (a_scriptKinds : Nat) (a_scriptValues : Nat) (a_isTold : Nat) (a_letOf : Nat) (a_code : Nat) (a_letEnd : Nat) (a_letBegin : Nat) (a_sort : Nat) (a_column : Nat) (a_low : Nat) (a_high : Nat) (a_by : Nat) (a_top : Nat) (a_begins : Nat) (a_ends : Nat) (a_scriptCode : Nat) (a_scriptLetBegin : Nat) (a_scriptLetEnd : Nat) (a_aSort : Nat) (a_aColumn : Nat) (a_aLow : Nat) (a_aHigh : Nat) (a_aBy : Nat) (a_aTop : Nat) (a_aBegin : Nat) (a_anEnd : Nat) (a_told : Nat) (a_out : Nat) (a_goals : Nat) (a_withs : Nat) (a_pile : Nat) (a_letValue : Nat) (a_one : Nat) (a_two : Nat) (v_p : Int32) (v_q : Int32) (v_rows : Int32) (v_cells : Int32) (v_signs : Int32) (v_tokens : Int32) (v_scriptTokens : Int32) (v_at : Int32) (v_place : Int32) (v_kind : Int32) (v_value : Int32) (v_depth : Int32) (v_asked : Int32) (v_lets : Int32) (v_questions : Int32) (v_statements : Int32) (v_size : Int32) (v_hasScript : Int32) (v_scriptLets : Int32) (v_scriptQuestions : Int32) (f_aSort : Nat → Int32) (f_aLow : Nat → Int32) (f_aHigh : Nat → Int32) (f_aBy : Nat → Int32) (f_aTop : Nat → Int32) (v_toldCount : Int32) (v_outs : Int32) (v_goalCount : Int32) (x : Int32) (z : Int32) (hx1 : up x 11) (hb1 : ¬ f_aBy x.toNatClampNeg = 0) : Det l G y_Mo_aspect w_Mo_aspect (rmD 1) 0 0 [.ref h, .int x, .int z] [(h, .inr (12, .int v_p :: .int v_q :: .ref a_table :: .int v_rows :: .ref a_tape :: .int v_cells :: .ref a_budget :: .ref a_spent :: .ref a_text :: .int v_signs :: .ref a_kinds :: .ref a_values :: .int v_tokens :: .ref a_scriptKinds :: .ref a_scriptValues :: .int v_scriptTokens :: .int v_at :: .int v_place :: .int v_kind :: .int v_value :: .int v_depth :: .int v_asked :: .int v_lets :: .int v_questions :: .int v_statements :: .ref a_isTold :: .ref a_letOf :: .ref a_code :: .int v_size :: .ref a_letEnd :: .ref a_letBegin :: .ref a_sort :: .ref a_column :: .ref a_low :: .ref a_high :: .ref a_by :: .ref a_top :: .ref a_begins :: .ref a_ends :: .int v_hasScript :: .int v_scriptLets :: .int v_scriptQuestions :: .ref a_scriptCode :: .ref a_scriptLetBegin :: .ref a_scriptLetEnd :: .ref a_aSort :: .ref a_aColumn :: .ref a_aLow :: .ref a_aHigh :: .ref a_aBy :: .ref a_aTop :: .ref a_aBegin :: .ref a_anEnd :: .ref a_told :: .int v_toldCount :: .ref a_out :: .int v_outs :: .ref a_goals :: .ref a_withs :: .int v_goalCount :: .ref a_pile :: .ref a_letValue :: .ref a_one :: .ref a_two :: [])), (a_aSort, .inl (gI G, 12, .inl f_aSort)), (a_aLow, .inl (gI G, 12, .inl f_aLow)), (a_aHigh, .inl (gI G, 12, .inl f_aHigh)), (a_aBy, .inl (gI G, 12, .inl f_aBy)), (a_aTop, .inl (gI G, 12, .inl f_aTop))] (some (.int (s_Mo_aspect f_aSort f_aLow f_aHigh f_aBy f_aTop x z))) [(h, .inr (12, .int v_p :: .int v_q :: .ref a_table :: .int v_rows :: .ref a_tape :: .int v_cells :: .ref a_budget :: .ref a_spent :: .ref a_text :: .int v_signs :: .ref a_kinds :: .ref a_values :: .int v_tokens :: .ref a_scriptKinds :: .ref a_scriptValues :: .int v_scriptTokens :: .int v_at :: .int v_place :: .int v_kind :: .int v_value :: .int v_depth :: .int v_asked :: .int v_lets :: .int v_questions :: .int v_statements :: .ref a_isTold :: .ref a_letOf :: .ref a_code :: .int v_size :: .ref a_letEnd :: .ref a_letBegin :: .ref a_sort :: .ref a_column :: .ref a_low :: .ref a_high :: .ref a_by :: .ref a_top :: .ref a_begins :: .ref a_ends :: .int v_hasScript :: .int v_scriptLets :: .int v_scriptQuestions :: .ref a_scriptCode :: .ref a_scriptLetBegin :: .ref a_scriptLetEnd :: .ref a_aSort :: .ref a_aColumn :: .ref a_aLow :: .ref a_aHigh :: .ref a_aBy :: .ref a_aTop :: .ref a_aBegin :: .ref a_anEnd :: .ref a_told :: .int v_toldCount :: .ref a_out :: .int v_outs :: .ref a_goals :: .ref a_withs :: .int v_goalCount :: .ref a_pile :: .ref a_letValue :: .ref a_one :: .ref a_two :: [])), (a_aSort, .inl (gI G, 12, .inl f_aSort)), (a_aLow, .inl (gI G, 12, .inl f_aLow)), (a_aHigh, .inl (gI G, 12, .inl f_aHigh)), (a_aBy, .inl (gI G, 12, .inl f_aBy)), (a_aTop, .inl (gI G, 12, .inl f_aTop))] := by
  refine Det.of (cc := b_Mo_aspect) (maxL := 3) (ret := (some .int)) (by decide) rfl (Nat.le_of_ble_eq_true rfl) ?_
  intro p e s m args below meth c A ls hx hb hr hml hown hts hlocks hin hA hK hZ hP hD hS hl
  have hts : ∀ w ∈ wG, w.before args s = true := fun w h => hts w (List.mem_cons_of_mem _ h)
  have hown : s.vm.findClass R_Mo = some m.cls := hown
  have hl : lv_has ls 3 [(0, .ref h), (1, .int x), (2, .int z)] := hl
  refine lv_iload_n hx hb d_Mo_aspect_0 rfl (lv_at hl 2 rfl) ?_
  refine lv_if_ne (tgt := 13) hx hb d_Mo_aspect_1 (by decide) (fun c1 => ?_) (fun c1 => ?_)
  · skip
    refine lv_iload_n hx hb d_Mo_aspect_13 rfl (lv_at hl 2 rfl) ?_
    refine lv_iconst (v := 1) hx hb d_Mo_aspect_14 (by decide) ?_
    refine lv_icmp_ne (tgt := 26) hx hb d_Mo_aspect_15 (by decide) (fun c2 => ?_) (fun c2 => ?_)
    · skip
      refine lv_iload_n hx hb d_Mo_aspect_26 rfl (lv_at hl 2 rfl) ?_
      refine lv_iconst (v := 2) hx hb d_Mo_aspect_27 (by decide) ?_
      refine lv_icmp_ne (tgt := 39) hx hb d_Mo_aspect_28 (by decide) (fun c3 => ?_) (fun c3 => ?_)
      · skip
        refine lv_iload_n hx hb d_Mo_aspect_39 rfl (lv_at hl 2 rfl) ?_
        refine lv_iconst (v := 3) hx hb d_Mo_aspect_40 (by decide) ?_
        refine lv_icmp_ne (tgt := 53) hx hb d_Mo_aspect_41 (by decide) (fun c4 => ?_) (fun c4 => ?_)
        · skip
          refine lv_aload_n hx hb d_Mo_aspect_53 rfl (lv_at hl 0 rfl) ?_
          refine lv_iload_n hx hb d_Mo_aspect_54 rfl (lv_at hl 1 rfl) ?_
          obtain ⟨r1, hr1⟩ : ∃ r, (s_Mo_numbersOf f_aSort f_aLow f_aHigh x) = r := ⟨_, rfl⟩
          have hC_r1 := (c_Mo_numbersOf l G h a_table a_tape a_budget a_spent a_text a_kinds a_values a_scriptKinds a_scriptValues a_isTold a_letOf a_code a_letEnd a_letBegin a_sort a_column a_low a_high a_by a_top a_begins a_ends a_scriptCode a_scriptLetBegin a_scriptLetEnd a_aSort a_aColumn a_aLow a_aHigh a_aBy a_aTop a_aBegin a_anEnd a_told a_out a_goals a_withs a_pile a_letValue a_one a_two v_p v_q v_rows v_cells v_signs v_tokens v_scriptTokens v_at v_place v_kind v_value v_depth v_asked v_lets v_questions v_statements v_size v_hasScript v_scriptLets v_scriptQuestions f_aSort f_aLow f_aHigh v_toldCount v_outs v_goalCount x hx1)
          rw [hr1] at hC_r1
          refine ly_callV (rest := []) (wf := [(h, .inr (12, .int v_p :: .int v_q :: .ref a_table :: .int v_rows :: .ref a_tape :: .int v_cells :: .ref a_budget :: .ref a_spent :: .ref a_text :: .int v_signs :: .ref a_kinds :: .ref a_values :: .int v_tokens :: .ref a_scriptKinds :: .ref a_scriptValues :: .int v_scriptTokens :: .int v_at :: .int v_place :: .int v_kind :: .int v_value :: .int v_depth :: .int v_asked :: .int v_lets :: .int v_questions :: .int v_statements :: .ref a_isTold :: .ref a_letOf :: .ref a_code :: .int v_size :: .ref a_letEnd :: .ref a_letBegin :: .ref a_sort :: .ref a_column :: .ref a_low :: .ref a_high :: .ref a_by :: .ref a_top :: .ref a_begins :: .ref a_ends :: .int v_hasScript :: .int v_scriptLets :: .int v_scriptQuestions :: .ref a_scriptCode :: .ref a_scriptLetBegin :: .ref a_scriptLetEnd :: .ref a_aSort :: .ref a_aColumn :: .ref a_aLow :: .ref a_aHigh :: .ref a_aBy :: .ref a_aTop :: .ref a_aBegin :: .ref a_anEnd :: .ref a_told :: .int v_toldCount :: .ref a_out :: .int v_outs :: .ref a_goals :: .ref a_withs :: .int v_goalCount :: .ref a_pile :: .ref a_letValue :: .ref a_one :: .ref a_two :: [])), (a_aSort, .inl (gI G, 12, .inl f_aSort)), (a_aLow, .inl (gI G, 12, .inl f_aLow)), (a_aHigh, .inl (gI G, 12, .inl f_aHigh)), (a_aBy, .inl (gI G, 12, .inl f_aBy)), (a_aTop, .inl (gI G, 12, .inl f_aTop))]) ⟨hx, hb, hml, hown, hts⟩ hA hK hZ hP hD hS hC_r1 (cwV 1 hts g_Mo_332 rfl rfl rfl (by decide +kernel) ⟨Nat.le_of_ble_eq_true rfl, Nat.le_of_ble_eq_true rfl⟩) (ci := 12) (q0 := 0) rfl rfl rfl [0, 1, 2, 3] rfl (by decide) rfl rfl rfl hl.1 rfl (Nat.le_of_ble_eq_true rfl) d_Mo_aspect_55 ⟨Nat.le_of_ble_eq_true rfl, Nat.le_of_ble_eq_true rfl⟩ (st1 := [.int r1]) (c1 := 0) (s1 := 0) rfl rfl rfl (fun H locs hP hD hS => ?_)
          refine lv_aload_n hx hb d_Mo_aspect_58 rfl (lv_at hl 0 rfl) ?_
          refine va_get (D := G.1) (ci := 12) (C := R_Mo) (T := F_Mo) (N := 64) (v := .ref a_aTop) hx hb hts i_Mo hown hK hP 0 rfl rfl 50 (by decide) (hts (.fieldLink R_Mo 101 "PrivateQueriesModel" "aTop" "[I") k_309) (fun _ h9 => h9) rfl d_Mo_aspect_59 ?_
          refine lv_iload_n hx hb d_Mo_aspect_62 rfl (lv_at hl 1 rfl) ?_
          refine va_iald hx hb hK hP 5 0 rfl rfl (x12 hx1) d_Mo_aspect_63 ?_
          refine lv_iconst (v := 1) hx hb d_Mo_aspect_64 (by decide) ?_
          refine lv_iadd hx hb d_Mo_aspect_65 ?_
          refine lv_imul hx hb d_Mo_aspect_66 ?_
          exact ly_iret hx hb hr hlocks hP hD hS d_Mo_aspect_67 (by rw [s_Mo_aspect] <;> simp only [hr1] <;> rw [if_neg c1, if_neg c2, if_neg c3, if_neg c4]) rfl
        refine lv_aload_n hx hb d_Mo_aspect_44 rfl (lv_at hl 0 rfl) ?_
        refine va_get (D := G.1) (ci := 12) (C := R_Mo) (T := F_Mo) (N := 64) (v := .ref a_aTop) hx hb hts i_Mo hown hK hP 0 rfl rfl 50 (by decide) (hts (.fieldLink R_Mo 101 "PrivateQueriesModel" "aTop" "[I") k_309) (fun _ h9 => h9) rfl d_Mo_aspect_45 ?_
        refine lv_iload_n hx hb d_Mo_aspect_48 rfl (lv_at hl 1 rfl) ?_
        refine va_iald hx hb hK hP 5 0 rfl rfl (x12 hx1) d_Mo_aspect_49 ?_
        refine lv_goto (tgt := 67) hx hb d_Mo_aspect_50 (by decide) ?_
        exact ly_iret hx hb hr hlocks hP hD hS d_Mo_aspect_67 (by rw [s_Mo_aspect, if_neg c1, if_neg c2, if_neg c3, if_pos c4]) rfl
      refine lv_aload_n hx hb d_Mo_aspect_31 rfl (lv_at hl 0 rfl) ?_
      refine lv_iload_n hx hb d_Mo_aspect_32 rfl (lv_at hl 1 rfl) ?_
      obtain ⟨r2, hr2⟩ : ∃ r, (s_Mo_numbersOf f_aSort f_aLow f_aHigh x) = r := ⟨_, rfl⟩
      have hC_r2 := (c_Mo_numbersOf l G h a_table a_tape a_budget a_spent a_text a_kinds a_values a_scriptKinds a_scriptValues a_isTold a_letOf a_code a_letEnd a_letBegin a_sort a_column a_low a_high a_by a_top a_begins a_ends a_scriptCode a_scriptLetBegin a_scriptLetEnd a_aSort a_aColumn a_aLow a_aHigh a_aBy a_aTop a_aBegin a_anEnd a_told a_out a_goals a_withs a_pile a_letValue a_one a_two v_p v_q v_rows v_cells v_signs v_tokens v_scriptTokens v_at v_place v_kind v_value v_depth v_asked v_lets v_questions v_statements v_size v_hasScript v_scriptLets v_scriptQuestions f_aSort f_aLow f_aHigh v_toldCount v_outs v_goalCount x hx1)
      rw [hr2] at hC_r2
      refine ly_callV (rest := []) (wf := [(h, .inr (12, .int v_p :: .int v_q :: .ref a_table :: .int v_rows :: .ref a_tape :: .int v_cells :: .ref a_budget :: .ref a_spent :: .ref a_text :: .int v_signs :: .ref a_kinds :: .ref a_values :: .int v_tokens :: .ref a_scriptKinds :: .ref a_scriptValues :: .int v_scriptTokens :: .int v_at :: .int v_place :: .int v_kind :: .int v_value :: .int v_depth :: .int v_asked :: .int v_lets :: .int v_questions :: .int v_statements :: .ref a_isTold :: .ref a_letOf :: .ref a_code :: .int v_size :: .ref a_letEnd :: .ref a_letBegin :: .ref a_sort :: .ref a_column :: .ref a_low :: .ref a_high :: .ref a_by :: .ref a_top :: .ref a_begins :: .ref a_ends :: .int v_hasScript :: .int v_scriptLets :: .int v_scriptQuestions :: .ref a_scriptCode :: .ref a_scriptLetBegin :: .ref a_scriptLetEnd :: .ref a_aSort :: .ref a_aColumn :: .ref a_aLow :: .ref a_aHigh :: .ref a_aBy :: .ref a_aTop :: .ref a_aBegin :: .ref a_anEnd :: .ref a_told :: .int v_toldCount :: .ref a_out :: .int v_outs :: .ref a_goals :: .ref a_withs :: .int v_goalCount :: .ref a_pile :: .ref a_letValue :: .ref a_one :: .ref a_two :: [])), (a_aSort, .inl (gI G, 12, .inl f_aSort)), (a_aLow, .inl (gI G, 12, .inl f_aLow)), (a_aHigh, .inl (gI G, 12, .inl f_aHigh)), (a_aBy, .inl (gI G, 12, .inl f_aBy)), (a_aTop, .inl (gI G, 12, .inl f_aTop))]) ⟨hx, hb, hml, hown, hts⟩ hA hK hZ hP hD hS hC_r2 (cwV 1 hts g_Mo_332 rfl rfl rfl (by decide +kernel) ⟨Nat.le_of_ble_eq_true rfl, Nat.le_of_ble_eq_true rfl⟩) (ci := 12) (q0 := 0) rfl rfl rfl [0, 1, 2, 3] rfl (by decide) rfl rfl rfl hl.1 rfl (Nat.le_of_ble_eq_true rfl) d_Mo_aspect_33 ⟨Nat.le_of_ble_eq_true rfl, Nat.le_of_ble_eq_true rfl⟩ (st1 := [.int r2]) (c1 := 0) (s1 := 0) rfl rfl rfl (fun H locs hP hD hS => ?_)
      refine lv_goto (tgt := 67) hx hb d_Mo_aspect_36 (by decide) ?_
      exact ly_iret hx hb hr hlocks hP hD hS d_Mo_aspect_67 (by rw [s_Mo_aspect] <;> simp only [hr2] <;> rw [if_neg c1, if_neg c2, if_pos c3]) rfl
    refine lv_aload_n hx hb d_Mo_aspect_18 rfl (lv_at hl 0 rfl) ?_
    refine lv_iload_n hx hb d_Mo_aspect_19 rfl (lv_at hl 1 rfl) ?_
    obtain ⟨r3, hr3⟩ : ∃ r, (s_Mo_unitsOf f_aSort f_aHigh f_aBy x) = r := ⟨_, rfl⟩
    have hC_r3 := (c_Mo_unitsOf l G h a_table a_tape a_budget a_spent a_text a_kinds a_values a_scriptKinds a_scriptValues a_isTold a_letOf a_code a_letEnd a_letBegin a_sort a_column a_low a_high a_by a_top a_begins a_ends a_scriptCode a_scriptLetBegin a_scriptLetEnd a_aSort a_aColumn a_aLow a_aHigh a_aBy a_aTop a_aBegin a_anEnd a_told a_out a_goals a_withs a_pile a_letValue a_one a_two v_p v_q v_rows v_cells v_signs v_tokens v_scriptTokens v_at v_place v_kind v_value v_depth v_asked v_lets v_questions v_statements v_size v_hasScript v_scriptLets v_scriptQuestions f_aSort f_aHigh f_aBy v_toldCount v_outs v_goalCount x hx1 hb1)
    rw [hr3] at hC_r3
    refine ly_callV (rest := []) (wf := [(h, .inr (12, .int v_p :: .int v_q :: .ref a_table :: .int v_rows :: .ref a_tape :: .int v_cells :: .ref a_budget :: .ref a_spent :: .ref a_text :: .int v_signs :: .ref a_kinds :: .ref a_values :: .int v_tokens :: .ref a_scriptKinds :: .ref a_scriptValues :: .int v_scriptTokens :: .int v_at :: .int v_place :: .int v_kind :: .int v_value :: .int v_depth :: .int v_asked :: .int v_lets :: .int v_questions :: .int v_statements :: .ref a_isTold :: .ref a_letOf :: .ref a_code :: .int v_size :: .ref a_letEnd :: .ref a_letBegin :: .ref a_sort :: .ref a_column :: .ref a_low :: .ref a_high :: .ref a_by :: .ref a_top :: .ref a_begins :: .ref a_ends :: .int v_hasScript :: .int v_scriptLets :: .int v_scriptQuestions :: .ref a_scriptCode :: .ref a_scriptLetBegin :: .ref a_scriptLetEnd :: .ref a_aSort :: .ref a_aColumn :: .ref a_aLow :: .ref a_aHigh :: .ref a_aBy :: .ref a_aTop :: .ref a_aBegin :: .ref a_anEnd :: .ref a_told :: .int v_toldCount :: .ref a_out :: .int v_outs :: .ref a_goals :: .ref a_withs :: .int v_goalCount :: .ref a_pile :: .ref a_letValue :: .ref a_one :: .ref a_two :: [])), (a_aSort, .inl (gI G, 12, .inl f_aSort)), (a_aLow, .inl (gI G, 12, .inl f_aLow)), (a_aHigh, .inl (gI G, 12, .inl f_aHigh)), (a_aBy, .inl (gI G, 12, .inl f_aBy)), (a_aTop, .inl (gI G, 12, .inl f_aTop))]) ⟨hx, hb, hml, hown, hts⟩ hA hK hZ hP hD hS hC_r3 (cwV 1 hts g_Mo_329 rfl rfl rfl (by decide +kernel) ⟨Nat.le_of_ble_eq_true rfl, Nat.le_of_ble_eq_true rfl⟩) (ci := 12) (q0 := 0) rfl rfl rfl [0, 1, 3, 4] rfl (by decide) rfl rfl rfl hl.1 rfl (Nat.le_of_ble_eq_true rfl) d_Mo_aspect_20 ⟨Nat.le_of_ble_eq_true rfl, Nat.le_of_ble_eq_true rfl⟩ (st1 := [.int r3]) (c1 := 0) (s1 := 0) rfl rfl rfl (fun H locs hP hD hS => ?_)
    refine lv_goto (tgt := 67) hx hb d_Mo_aspect_23 (by decide) ?_
    exact ly_iret hx hb hr hlocks hP hD hS d_Mo_aspect_67 (by rw [s_Mo_aspect] <;> simp only [hr3] <;> rw [if_neg c1, if_pos c2]) rfl
  refine lv_aload_n hx hb d_Mo_aspect_4 rfl (lv_at hl 0 rfl) ?_
  refine va_get (D := G.1) (ci := 12) (C := R_Mo) (T := F_Mo) (N := 64) (v := .ref a_aSort) hx hb hts i_Mo hown hK hP 0 rfl rfl 45 (by decide) (hts (.fieldLink R_Mo 86 "PrivateQueriesModel" "aSort" "[I") k_301) (fun _ h9 => h9) rfl d_Mo_aspect_5 ?_
  refine lv_iload_n hx hb d_Mo_aspect_8 rfl (lv_at hl 1 rfl) ?_
  refine va_iald hx hb hK hP 1 0 rfl rfl (x12 hx1) d_Mo_aspect_9 ?_
  refine lv_goto (tgt := 67) hx hb d_Mo_aspect_10 (by decide) ?_
  exact ly_iret hx hb hr hlocks hP hD hS d_Mo_aspect_67 (by rw [s_Mo_aspect, if_pos c1]) rfl

theorem qs_1 {x v : Int32} (hv : up v 12) (h : ¬ s_Mo_in x 0 (v - 1) = 0) : up x 11 := by
  have h1 := mo_in h
  rw [i0] at h1
  have h2 : (v - 1).toInt = v.toInt - 1 := i32_m1 (by have := hv.1; omega)
  have h3 := hv.2
  exact ⟨h1.1, by omega⟩
theorem qs_2 {f : Nat → Int32} {x v : Int32} (hv : up v 12) (hb : BYP f v) (h : ¬ s_Mo_in x 0 (v - 1) = 0) : ¬ f x.toNatClampNeg = 0 := by
  have h1 := mo_in h
  rw [i0] at h1
  have h2 : (v - 1).toInt = v.toInt - 1 := i32_m1 (by have := hv.1; omega)
  exact byp hb h1.1 (by omega)
set_option maxHeartbeats 4000000 in
set_option maxRecDepth 100000 in
theorem c_Mo_question (l : Launch) (G : GG) (h : Nat) (a_table : Nat) (a_tape : Nat) (a_budget : Nat) (a_spent : Nat) (a_text : Nat) (a_kinds : Nat) (a_values : Nat) (a_scriptKinds : Nat) (a_scriptValues : Nat) (a_isTold : Nat) (a_letOf : Nat) (a_code : Nat) (a_letEnd : Nat) (a_letBegin : Nat) (a_sort : Nat) (a_column : Nat) (a_low : Nat) (a_high : Nat) (a_by : Nat) (a_top : Nat) (a_begins : Nat) (a_ends : Nat) (a_scriptCode : Nat) (a_scriptLetBegin : Nat) (a_scriptLetEnd : Nat) (a_aSort : Nat) (a_aColumn : Nat) (a_aLow : Nat) (a_aHigh : Nat) (a_aBy : Nat) (a_aTop : Nat) (a_aBegin : Nat) (a_anEnd : Nat) (a_told : Nat) (a_out : Nat) (a_goals : Nat) (a_withs : Nat) (a_pile : Nat) (a_letValue : Nat) (a_one : Nat) (a_two : Nat) (v_p : Int32) (v_q : Int32) (v_rows : Int32) (v_cells : Int32) (v_signs : Int32) (v_tokens : Int32) (v_scriptTokens : Int32) (v_at : Int32) (v_place : Int32) (v_kind : Int32) (v_value : Int32) (v_depth : Int32) (v_asked : Int32) (v_lets : Int32) (v_questions : Int32) (v_statements : Int32) (v_size : Int32) (v_hasScript : Int32) (v_scriptLets : Int32) (v_scriptQuestions : Int32) (f_aSort : Nat → Int32) (f_aLow : Nat → Int32) (f_aHigh : Nat → Int32) (f_aBy : Nat → Int32) (f_aTop : Nat → Int32) (v_toldCount : Int32) (v_outs : Int32) (v_goalCount : Int32) (x : Int32) (z : Int32) (hz_v_scriptQuestions : up v_scriptQuestions 12) (hby : BYP f_aBy v_scriptQuestions) : Det l G y_Mo_question w_Mo_question (rmD 2) 0 0 [.ref h, .int x, .int z] [(h, .inr (12, .int v_p :: .int v_q :: .ref a_table :: .int v_rows :: .ref a_tape :: .int v_cells :: .ref a_budget :: .ref a_spent :: .ref a_text :: .int v_signs :: .ref a_kinds :: .ref a_values :: .int v_tokens :: .ref a_scriptKinds :: .ref a_scriptValues :: .int v_scriptTokens :: .int v_at :: .int v_place :: .int v_kind :: .int v_value :: .int v_depth :: .int v_asked :: .int v_lets :: .int v_questions :: .int v_statements :: .ref a_isTold :: .ref a_letOf :: .ref a_code :: .int v_size :: .ref a_letEnd :: .ref a_letBegin :: .ref a_sort :: .ref a_column :: .ref a_low :: .ref a_high :: .ref a_by :: .ref a_top :: .ref a_begins :: .ref a_ends :: .int v_hasScript :: .int v_scriptLets :: .int v_scriptQuestions :: .ref a_scriptCode :: .ref a_scriptLetBegin :: .ref a_scriptLetEnd :: .ref a_aSort :: .ref a_aColumn :: .ref a_aLow :: .ref a_aHigh :: .ref a_aBy :: .ref a_aTop :: .ref a_aBegin :: .ref a_anEnd :: .ref a_told :: .int v_toldCount :: .ref a_out :: .int v_outs :: .ref a_goals :: .ref a_withs :: .int v_goalCount :: .ref a_pile :: .ref a_letValue :: .ref a_one :: .ref a_two :: [])), (a_aSort, .inl (gI G, 12, .inl f_aSort)), (a_aLow, .inl (gI G, 12, .inl f_aLow)), (a_aHigh, .inl (gI G, 12, .inl f_aHigh)), (a_aBy, .inl (gI G, 12, .inl f_aBy)), (a_aTop, .inl (gI G, 12, .inl f_aTop))] (some (.int (s_Mo_question v_scriptQuestions f_aSort f_aLow f_aHigh f_aBy f_aTop x z))) [(h, .inr (12, .int v_p :: .int v_q :: .ref a_table :: .int v_rows :: .ref a_tape :: .int v_cells :: .ref a_budget :: .ref a_spent :: .ref a_text :: .int v_signs :: .ref a_kinds :: .ref a_values :: .int v_tokens :: .ref a_scriptKinds :: .ref a_scriptValues :: .int v_scriptTokens :: .int v_at :: .int v_place :: .int v_kind :: .int v_value :: .int v_depth :: .int v_asked :: .int v_lets :: .int v_questions :: .int v_statements :: .ref a_isTold :: .ref a_letOf :: .ref a_code :: .int v_size :: .ref a_letEnd :: .ref a_letBegin :: .ref a_sort :: .ref a_column :: .ref a_low :: .ref a_high :: .ref a_by :: .ref a_top :: .ref a_begins :: .ref a_ends :: .int v_hasScript :: .int v_scriptLets :: .int v_scriptQuestions :: .ref a_scriptCode :: .ref a_scriptLetBegin :: .ref a_scriptLetEnd :: .ref a_aSort :: .ref a_aColumn :: .ref a_aLow :: .ref a_aHigh :: .ref a_aBy :: .ref a_aTop :: .ref a_aBegin :: .ref a_anEnd :: .ref a_told :: .int v_toldCount :: .ref a_out :: .int v_outs :: .ref a_goals :: .ref a_withs :: .int v_goalCount :: .ref a_pile :: .ref a_letValue :: .ref a_one :: .ref a_two :: [])), (a_aSort, .inl (gI G, 12, .inl f_aSort)), (a_aLow, .inl (gI G, 12, .inl f_aLow)), (a_aHigh, .inl (gI G, 12, .inl f_aHigh)), (a_aBy, .inl (gI G, 12, .inl f_aBy)), (a_aTop, .inl (gI G, 12, .inl f_aTop))] := by
  refine Det.of (cc := b_Mo_question) (maxL := 3) (ret := (some .int)) (by decide) rfl (Nat.le_of_ble_eq_true rfl) ?_
  intro p e s m args below meth c A ls hx hb hr hml hown hts hlocks hin hA hK hZ hP hD hS hl
  have hts : ∀ w ∈ wG, w.before args s = true := fun w h => hts w (List.mem_cons_of_mem _ h)
  have hown : s.vm.findClass R_Mo = some m.cls := hown
  have hl : lv_has ls 3 [(0, .ref h), (1, .int x), (2, .int z)] := hl
  refine lv_iload_n hx hb d_Mo_question_0 rfl (lv_at hl 1 rfl) ?_
  refine lv_iconst (v := 0) hx hb d_Mo_question_1 (by decide) ?_
  refine lv_aload_n hx hb d_Mo_question_2 rfl (lv_at hl 0 rfl) ?_
  refine va_get (D := G.1) (ci := 12) (C := R_Mo) (T := F_Mo) (N := 64) (v := .int v_scriptQuestions) hx hb hts i_Mo hown hK hP 0 rfl rfl 41 (by decide) (hts (.fieldLink R_Mo 158 "PrivateQueriesModel" "scriptQuestions" "I") k_178) (fun _ h9 => h9) rfl d_Mo_question_3 ?_
  refine lv_iconst (v := 1) hx hb d_Mo_question_6 (by decide) ?_
  refine lv_isub hx hb d_Mo_question_7 ?_
  obtain ⟨r1, hr1⟩ : ∃ r, (s_Mo_in x 0 (v_scriptQuestions - 1)) = r := ⟨_, rfl⟩
  have hC_r1 := (c_Mo_in l G x 0 (v_scriptQuestions - 1))
  rw [hr1] at hC_r1
  have hf_r1_1 : isB r1 := by rw [← hr1]; exact z_Mo_in
  refine ly_callS (rest := []) (wf := [(h, .inr (12, .int v_p :: .int v_q :: .ref a_table :: .int v_rows :: .ref a_tape :: .int v_cells :: .ref a_budget :: .ref a_spent :: .ref a_text :: .int v_signs :: .ref a_kinds :: .ref a_values :: .int v_tokens :: .ref a_scriptKinds :: .ref a_scriptValues :: .int v_scriptTokens :: .int v_at :: .int v_place :: .int v_kind :: .int v_value :: .int v_depth :: .int v_asked :: .int v_lets :: .int v_questions :: .int v_statements :: .ref a_isTold :: .ref a_letOf :: .ref a_code :: .int v_size :: .ref a_letEnd :: .ref a_letBegin :: .ref a_sort :: .ref a_column :: .ref a_low :: .ref a_high :: .ref a_by :: .ref a_top :: .ref a_begins :: .ref a_ends :: .int v_hasScript :: .int v_scriptLets :: .int v_scriptQuestions :: .ref a_scriptCode :: .ref a_scriptLetBegin :: .ref a_scriptLetEnd :: .ref a_aSort :: .ref a_aColumn :: .ref a_aLow :: .ref a_aHigh :: .ref a_aBy :: .ref a_aTop :: .ref a_aBegin :: .ref a_anEnd :: .ref a_told :: .int v_toldCount :: .ref a_out :: .int v_outs :: .ref a_goals :: .ref a_withs :: .int v_goalCount :: .ref a_pile :: .ref a_letValue :: .ref a_one :: .ref a_two :: [])), (a_aSort, .inl (gI G, 12, .inl f_aSort)), (a_aLow, .inl (gI G, 12, .inl f_aLow)), (a_aHigh, .inl (gI G, 12, .inl f_aHigh)), (a_aBy, .inl (gI G, 12, .inl f_aBy)), (a_aTop, .inl (gI G, 12, .inl f_aTop))]) ⟨hx, hb, hml, hown, hts⟩ hA hK hZ hP hD hS hC_r1 (cwS 3 hts g_Mo_144 rfl rfl rfl (by decide +kernel) ⟨Nat.le_of_ble_eq_true rfl, Nat.le_of_ble_eq_true rfl⟩) [] rfl (by decide) rfl rfl rfl hl.1 rfl (Nat.le_of_ble_eq_true rfl) d_Mo_question_8 ⟨Nat.le_of_ble_eq_true rfl, Nat.le_of_ble_eq_true rfl⟩ (st1 := [.int r1]) (c1 := 0) (s1 := 0) rfl rfl rfl (fun H locs hP hD hS => ?_)
  refine lv_if_ne (tgt := 17) hx hb d_Mo_question_11 (by decide) (fun c1 => ?_) (fun c1 => ?_)
  · skip
    refine lv_iload_n hx hb d_Mo_question_17 rfl (lv_at hl 2 rfl) ?_
    refine lv_iconst (v := 0) hx hb d_Mo_question_18 (by decide) ?_
    refine lv_iconst (v := 4) hx hb d_Mo_question_19 (by decide) ?_
    obtain ⟨r2, hr2⟩ : ∃ r, (s_Mo_in z 0 4) = r := ⟨_, rfl⟩
    have hC_r2 := (c_Mo_in l G z 0 4)
    rw [hr2] at hC_r2
    have hf_r2_1 : isB r2 := by rw [← hr2]; exact z_Mo_in
    refine ly_callS (rest := []) (wf := [(h, .inr (12, .int v_p :: .int v_q :: .ref a_table :: .int v_rows :: .ref a_tape :: .int v_cells :: .ref a_budget :: .ref a_spent :: .ref a_text :: .int v_signs :: .ref a_kinds :: .ref a_values :: .int v_tokens :: .ref a_scriptKinds :: .ref a_scriptValues :: .int v_scriptTokens :: .int v_at :: .int v_place :: .int v_kind :: .int v_value :: .int v_depth :: .int v_asked :: .int v_lets :: .int v_questions :: .int v_statements :: .ref a_isTold :: .ref a_letOf :: .ref a_code :: .int v_size :: .ref a_letEnd :: .ref a_letBegin :: .ref a_sort :: .ref a_column :: .ref a_low :: .ref a_high :: .ref a_by :: .ref a_top :: .ref a_begins :: .ref a_ends :: .int v_hasScript :: .int v_scriptLets :: .int v_scriptQuestions :: .ref a_scriptCode :: .ref a_scriptLetBegin :: .ref a_scriptLetEnd :: .ref a_aSort :: .ref a_aColumn :: .ref a_aLow :: .ref a_aHigh :: .ref a_aBy :: .ref a_aTop :: .ref a_aBegin :: .ref a_anEnd :: .ref a_told :: .int v_toldCount :: .ref a_out :: .int v_outs :: .ref a_goals :: .ref a_withs :: .int v_goalCount :: .ref a_pile :: .ref a_letValue :: .ref a_one :: .ref a_two :: [])), (a_aSort, .inl (gI G, 12, .inl f_aSort)), (a_aLow, .inl (gI G, 12, .inl f_aLow)), (a_aHigh, .inl (gI G, 12, .inl f_aHigh)), (a_aBy, .inl (gI G, 12, .inl f_aBy)), (a_aTop, .inl (gI G, 12, .inl f_aTop))]) ⟨hx, hb, hml, hown, hts⟩ hA hK hZ hP hD hS hC_r2 (cwS 3 hts g_Mo_144 rfl rfl rfl (by decide +kernel) ⟨Nat.le_of_ble_eq_true rfl, Nat.le_of_ble_eq_true rfl⟩) [] rfl (by decide) rfl rfl rfl hl.1 rfl (Nat.le_of_ble_eq_true rfl) d_Mo_question_20 ⟨Nat.le_of_ble_eq_true rfl, Nat.le_of_ble_eq_true rfl⟩ (st1 := [.int r2]) (c1 := 0) (s1 := 0) rfl rfl rfl (fun H locs hP hD hS => ?_)
    refine lv_if_eq (tgt := 35) hx hb d_Mo_question_23 (by decide) (fun c2 => ?_) (fun c2 => ?_)
    · skip
      refine lv_bipush (v := (-102)) hx hb d_Mo_question_35 (by decide) ?_
      exact ly_iret hx hb hr hlocks hP hD hS d_Mo_question_37 (by rw [s_Mo_question] <;> simp only [hr1, hr2] <;> rw [if_neg c1, if_pos c2]) rfl
    refine lv_aload_n hx hb d_Mo_question_26 rfl (lv_at hl 0 rfl) ?_
    refine lv_iload_n hx hb d_Mo_question_27 rfl (lv_at hl 1 rfl) ?_
    refine lv_iload_n hx hb d_Mo_question_28 rfl (lv_at hl 2 rfl) ?_
    obtain ⟨r3, hr3⟩ : ∃ r, (s_Mo_aspect f_aSort f_aLow f_aHigh f_aBy f_aTop x z) = r := ⟨_, rfl⟩
    have hC_r3 := (c_Mo_aspect l G h a_table a_tape a_budget a_spent a_text a_kinds a_values a_scriptKinds a_scriptValues a_isTold a_letOf a_code a_letEnd a_letBegin a_sort a_column a_low a_high a_by a_top a_begins a_ends a_scriptCode a_scriptLetBegin a_scriptLetEnd a_aSort a_aColumn a_aLow a_aHigh a_aBy a_aTop a_aBegin a_anEnd a_told a_out a_goals a_withs a_pile a_letValue a_one a_two v_p v_q v_rows v_cells v_signs v_tokens v_scriptTokens v_at v_place v_kind v_value v_depth v_asked v_lets v_questions v_statements v_size v_hasScript v_scriptLets v_scriptQuestions f_aSort f_aLow f_aHigh f_aBy f_aTop v_toldCount v_outs v_goalCount x z (qs_1 hz_v_scriptQuestions (by rw [hr1]; exact c1)) (qs_2 hz_v_scriptQuestions hby (by rw [hr1]; exact c1)))
    rw [hr3] at hC_r3
    refine ly_callV (rest := []) (wf := [(h, .inr (12, .int v_p :: .int v_q :: .ref a_table :: .int v_rows :: .ref a_tape :: .int v_cells :: .ref a_budget :: .ref a_spent :: .ref a_text :: .int v_signs :: .ref a_kinds :: .ref a_values :: .int v_tokens :: .ref a_scriptKinds :: .ref a_scriptValues :: .int v_scriptTokens :: .int v_at :: .int v_place :: .int v_kind :: .int v_value :: .int v_depth :: .int v_asked :: .int v_lets :: .int v_questions :: .int v_statements :: .ref a_isTold :: .ref a_letOf :: .ref a_code :: .int v_size :: .ref a_letEnd :: .ref a_letBegin :: .ref a_sort :: .ref a_column :: .ref a_low :: .ref a_high :: .ref a_by :: .ref a_top :: .ref a_begins :: .ref a_ends :: .int v_hasScript :: .int v_scriptLets :: .int v_scriptQuestions :: .ref a_scriptCode :: .ref a_scriptLetBegin :: .ref a_scriptLetEnd :: .ref a_aSort :: .ref a_aColumn :: .ref a_aLow :: .ref a_aHigh :: .ref a_aBy :: .ref a_aTop :: .ref a_aBegin :: .ref a_anEnd :: .ref a_told :: .int v_toldCount :: .ref a_out :: .int v_outs :: .ref a_goals :: .ref a_withs :: .int v_goalCount :: .ref a_pile :: .ref a_letValue :: .ref a_one :: .ref a_two :: [])), (a_aSort, .inl (gI G, 12, .inl f_aSort)), (a_aLow, .inl (gI G, 12, .inl f_aLow)), (a_aHigh, .inl (gI G, 12, .inl f_aHigh)), (a_aBy, .inl (gI G, 12, .inl f_aBy)), (a_aTop, .inl (gI G, 12, .inl f_aTop))]) ⟨hx, hb, hml, hown, hts⟩ hA hK hZ hP hD hS hC_r3 (cwV 2 hts g_Mo_335 rfl rfl rfl (by decide +kernel) ⟨Nat.le_of_ble_eq_true rfl, Nat.le_of_ble_eq_true rfl⟩) (ci := 12) (q0 := 0) rfl rfl rfl [0, 1, 2, 3, 4, 5] rfl (by decide) rfl rfl rfl hl.1 rfl (Nat.le_of_ble_eq_true rfl) d_Mo_question_29 ⟨Nat.le_of_ble_eq_true rfl, Nat.le_of_ble_eq_true rfl⟩ (st1 := [.int r3]) (c1 := 0) (s1 := 0) rfl rfl rfl (fun H locs hP hD hS => ?_)
    refine lv_goto (tgt := 37) hx hb d_Mo_question_32 (by decide) ?_
    exact ly_iret hx hb hr hlocks hP hD hS d_Mo_question_37 (by rw [s_Mo_question] <;> simp only [hr1, hr2, hr3] <;> rw [if_neg c1, if_neg c2]) rfl
  refine lv_bipush (v := (-101)) hx hb d_Mo_question_14 (by decide) ?_
  exact ly_iret hx hb hr hlocks hP hD hS d_Mo_question_16 (by rw [s_Mo_question] <;> simp only [hr1] <;> rw [if_pos c1]) rfl

theorem wq_1 {i v : Int32} (hv : up v 12) (hi : 0 ≤ i.toInt) (c : ¬ v ≤ i) : up i 11 := by
  rw [Int32.le_iff_toInt_le] at c
  have := hv.2
  exact ⟨hi, by omega⟩
theorem wq_2 {f : Nat → Int32} {i v : Int32} (hb : BYP f v) (hi : 0 ≤ i.toInt) (c : ¬ v ≤ i) : ¬ f i.toNatClampNeg = 0 := by
  rw [Int32.le_iff_toInt_le] at c
  exact byp hb hi (by omega)
set_option maxHeartbeats 4000000 in
set_option maxRecDepth 100000 in
theorem c_Mo_wanted (l : Launch) (G : GG) (h : Nat) (a_table : Nat) (a_tape : Nat) (a_budget : Nat) (a_spent : Nat) (a_text : Nat) (a_kinds : Nat) (a_values : Nat) (a_scriptKinds : Nat) (a_scriptValues : Nat) (a_isTold : Nat) (a_letOf : Nat) (a_code : Nat) (a_letEnd : Nat) (a_letBegin : Nat) (a_sort : Nat) (a_column : Nat) (a_low : Nat) (a_high : Nat) (a_by : Nat) (a_top : Nat) (a_begins : Nat) (a_ends : Nat) (a_scriptCode : Nat) (a_scriptLetBegin : Nat) (a_scriptLetEnd : Nat) (a_aSort : Nat) (a_aColumn : Nat) (a_aLow : Nat) (a_aHigh : Nat) (a_aBy : Nat) (a_aTop : Nat) (a_aBegin : Nat) (a_anEnd : Nat) (a_told : Nat) (a_out : Nat) (a_goals : Nat) (a_withs : Nat) (a_pile : Nat) (a_letValue : Nat) (a_one : Nat) (a_two : Nat) (v_p : Int32) (v_q : Int32) (v_rows : Int32) (v_cells : Int32) (v_signs : Int32) (v_tokens : Int32) (v_scriptTokens : Int32) (v_at : Int32) (v_place : Int32) (v_kind : Int32) (v_value : Int32) (v_depth : Int32) (v_asked : Int32) (v_lets : Int32) (v_questions : Int32) (v_statements : Int32) (v_size : Int32) (v_hasScript : Int32) (v_scriptLets : Int32) (v_scriptQuestions : Int32) (f_aSort : Nat → Int32) (f_aLow : Nat → Int32) (f_aHigh : Nat → Int32) (f_aBy : Nat → Int32) (f_aTop : Nat → Int32) (v_toldCount : Int32) (v_outs : Int32) (v_goalCount : Int32) (x : Int32) (hz_v_scriptQuestions : up v_scriptQuestions 12) (hby : BYP f_aBy v_scriptQuestions) : Det l G y_Mo_wanted w_Mo_wanted (rmD 2) 0 0 [.ref h, .int x] [(h, .inr (12, .int v_p :: .int v_q :: .ref a_table :: .int v_rows :: .ref a_tape :: .int v_cells :: .ref a_budget :: .ref a_spent :: .ref a_text :: .int v_signs :: .ref a_kinds :: .ref a_values :: .int v_tokens :: .ref a_scriptKinds :: .ref a_scriptValues :: .int v_scriptTokens :: .int v_at :: .int v_place :: .int v_kind :: .int v_value :: .int v_depth :: .int v_asked :: .int v_lets :: .int v_questions :: .int v_statements :: .ref a_isTold :: .ref a_letOf :: .ref a_code :: .int v_size :: .ref a_letEnd :: .ref a_letBegin :: .ref a_sort :: .ref a_column :: .ref a_low :: .ref a_high :: .ref a_by :: .ref a_top :: .ref a_begins :: .ref a_ends :: .int v_hasScript :: .int v_scriptLets :: .int v_scriptQuestions :: .ref a_scriptCode :: .ref a_scriptLetBegin :: .ref a_scriptLetEnd :: .ref a_aSort :: .ref a_aColumn :: .ref a_aLow :: .ref a_aHigh :: .ref a_aBy :: .ref a_aTop :: .ref a_aBegin :: .ref a_anEnd :: .ref a_told :: .int v_toldCount :: .ref a_out :: .int v_outs :: .ref a_goals :: .ref a_withs :: .int v_goalCount :: .ref a_pile :: .ref a_letValue :: .ref a_one :: .ref a_two :: [])), (a_aSort, .inl (gI G, 12, .inl f_aSort)), (a_aLow, .inl (gI G, 12, .inl f_aLow)), (a_aHigh, .inl (gI G, 12, .inl f_aHigh)), (a_aBy, .inl (gI G, 12, .inl f_aBy)), (a_aTop, .inl (gI G, 12, .inl f_aTop))] (some (.int (lp_Mo_wanted_4 v_scriptQuestions f_aSort f_aLow f_aHigh f_aBy f_aTop x (((v_scriptQuestions.toInt - (0 : Int32).toInt).toNat) + 1) (0 : Int32) (0 : Int32)))) [(h, .inr (12, .int v_p :: .int v_q :: .ref a_table :: .int v_rows :: .ref a_tape :: .int v_cells :: .ref a_budget :: .ref a_spent :: .ref a_text :: .int v_signs :: .ref a_kinds :: .ref a_values :: .int v_tokens :: .ref a_scriptKinds :: .ref a_scriptValues :: .int v_scriptTokens :: .int v_at :: .int v_place :: .int v_kind :: .int v_value :: .int v_depth :: .int v_asked :: .int v_lets :: .int v_questions :: .int v_statements :: .ref a_isTold :: .ref a_letOf :: .ref a_code :: .int v_size :: .ref a_letEnd :: .ref a_letBegin :: .ref a_sort :: .ref a_column :: .ref a_low :: .ref a_high :: .ref a_by :: .ref a_top :: .ref a_begins :: .ref a_ends :: .int v_hasScript :: .int v_scriptLets :: .int v_scriptQuestions :: .ref a_scriptCode :: .ref a_scriptLetBegin :: .ref a_scriptLetEnd :: .ref a_aSort :: .ref a_aColumn :: .ref a_aLow :: .ref a_aHigh :: .ref a_aBy :: .ref a_aTop :: .ref a_aBegin :: .ref a_anEnd :: .ref a_told :: .int v_toldCount :: .ref a_out :: .int v_outs :: .ref a_goals :: .ref a_withs :: .int v_goalCount :: .ref a_pile :: .ref a_letValue :: .ref a_one :: .ref a_two :: [])), (a_aSort, .inl (gI G, 12, .inl f_aSort)), (a_aLow, .inl (gI G, 12, .inl f_aLow)), (a_aHigh, .inl (gI G, 12, .inl f_aHigh)), (a_aBy, .inl (gI G, 12, .inl f_aBy)), (a_aTop, .inl (gI G, 12, .inl f_aTop))] := by
  refine Det.of (cc := b_Mo_wanted) (maxL := 4) (ret := (some .int)) (by decide) rfl (Nat.le_of_ble_eq_true rfl) ?_
  intro p e s m args below meth c A ls hx hb hr hml hown hts hlocks hin hA hK hZ hP hD hS hl
  have hts : ∀ w ∈ wG, w.before args s = true := fun w h => hts w (List.mem_cons_of_mem _ h)
  have hown : s.vm.findClass R_Mo = some m.cls := hown
  have loop_4 : ∀ (n : Nat) (n9 : Int32) (i : Int32), 0 ≤ i.toInt → (v_scriptQuestions.toInt - i.toInt).toNat < n → ∀ (H : Heap) (locs : List Loc) (ls : Array Slot), va_P G.1 classes [(h, .inr (12, .int v_p :: .int v_q :: .ref a_table :: .int v_rows :: .ref a_tape :: .int v_cells :: .ref a_budget :: .ref a_spent :: .ref a_text :: .int v_signs :: .ref a_kinds :: .ref a_values :: .int v_tokens :: .ref a_scriptKinds :: .ref a_scriptValues :: .int v_scriptTokens :: .int v_at :: .int v_place :: .int v_kind :: .int v_value :: .int v_depth :: .int v_asked :: .int v_lets :: .int v_questions :: .int v_statements :: .ref a_isTold :: .ref a_letOf :: .ref a_code :: .int v_size :: .ref a_letEnd :: .ref a_letBegin :: .ref a_sort :: .ref a_column :: .ref a_low :: .ref a_high :: .ref a_by :: .ref a_top :: .ref a_begins :: .ref a_ends :: .int v_hasScript :: .int v_scriptLets :: .int v_scriptQuestions :: .ref a_scriptCode :: .ref a_scriptLetBegin :: .ref a_scriptLetEnd :: .ref a_aSort :: .ref a_aColumn :: .ref a_aLow :: .ref a_aHigh :: .ref a_aBy :: .ref a_aTop :: .ref a_aBegin :: .ref a_anEnd :: .ref a_told :: .int v_toldCount :: .ref a_out :: .int v_outs :: .ref a_goals :: .ref a_withs :: .int v_goalCount :: .ref a_pile :: .ref a_letValue :: .ref a_one :: .ref a_two :: [])), (a_aSort, .inl (gI G, 12, .inl f_aSort)), (a_aLow, .inl (gI G, 12, .inl f_aLow)), (a_aHigh, .inl (gI G, 12, .inl f_aHigh)), (a_aBy, .inl (gI G, 12, .inl f_aBy)), (a_aTop, .inl (gI G, 12, .inl f_aTop))] H → va_D A [(h, .inr (12, .int v_p :: .int v_q :: .ref a_table :: .int v_rows :: .ref a_tape :: .int v_cells :: .ref a_budget :: .ref a_spent :: .ref a_text :: .int v_signs :: .ref a_kinds :: .ref a_values :: .int v_tokens :: .ref a_scriptKinds :: .ref a_scriptValues :: .int v_scriptTokens :: .int v_at :: .int v_place :: .int v_kind :: .int v_value :: .int v_depth :: .int v_asked :: .int v_lets :: .int v_questions :: .int v_statements :: .ref a_isTold :: .ref a_letOf :: .ref a_code :: .int v_size :: .ref a_letEnd :: .ref a_letBegin :: .ref a_sort :: .ref a_column :: .ref a_low :: .ref a_high :: .ref a_by :: .ref a_top :: .ref a_begins :: .ref a_ends :: .int v_hasScript :: .int v_scriptLets :: .int v_scriptQuestions :: .ref a_scriptCode :: .ref a_scriptLetBegin :: .ref a_scriptLetEnd :: .ref a_aSort :: .ref a_aColumn :: .ref a_aLow :: .ref a_aHigh :: .ref a_aBy :: .ref a_aTop :: .ref a_aBegin :: .ref a_anEnd :: .ref a_told :: .int v_toldCount :: .ref a_out :: .int v_outs :: .ref a_goals :: .ref a_withs :: .int v_goalCount :: .ref a_pile :: .ref a_letValue :: .ref a_one :: .ref a_two :: [])), (a_aSort, .inl (gI G, 12, .inl f_aSort)), (a_aLow, .inl (gI G, 12, .inl f_aLow)), (a_aHigh, .inl (gI G, 12, .inl f_aHigh)), (a_aBy, .inl (gI G, 12, .inl f_aBy)), (a_aTop, .inl (gI G, 12, .inl f_aTop))] → va_S A s.heap H locs → lv_has ls 4 [(3, .int i), (2, .int n9), (0, .ref h), (1, .int x)] → W p l e (rmD 2) s m args below meth c H locs 0 0 (MQ below (ly_Q G A (some (.int (lp_Mo_wanted_4 v_scriptQuestions f_aSort f_aLow f_aHigh f_aBy f_aTop x n n9 i))) [(h, .inr (12, .int v_p :: .int v_q :: .ref a_table :: .int v_rows :: .ref a_tape :: .int v_cells :: .ref a_budget :: .ref a_spent :: .ref a_text :: .int v_signs :: .ref a_kinds :: .ref a_values :: .int v_tokens :: .ref a_scriptKinds :: .ref a_scriptValues :: .int v_scriptTokens :: .int v_at :: .int v_place :: .int v_kind :: .int v_value :: .int v_depth :: .int v_asked :: .int v_lets :: .int v_questions :: .int v_statements :: .ref a_isTold :: .ref a_letOf :: .ref a_code :: .int v_size :: .ref a_letEnd :: .ref a_letBegin :: .ref a_sort :: .ref a_column :: .ref a_low :: .ref a_high :: .ref a_by :: .ref a_top :: .ref a_begins :: .ref a_ends :: .int v_hasScript :: .int v_scriptLets :: .int v_scriptQuestions :: .ref a_scriptCode :: .ref a_scriptLetBegin :: .ref a_scriptLetEnd :: .ref a_aSort :: .ref a_aColumn :: .ref a_aLow :: .ref a_aHigh :: .ref a_aBy :: .ref a_aTop :: .ref a_aBegin :: .ref a_anEnd :: .ref a_told :: .int v_toldCount :: .ref a_out :: .int v_outs :: .ref a_goals :: .ref a_withs :: .int v_goalCount :: .ref a_pile :: .ref a_letValue :: .ref a_one :: .ref a_two :: [])), (a_aSort, .inl (gI G, 12, .inl f_aSort)), (a_aLow, .inl (gI G, 12, .inl f_aLow)), (a_aHigh, .inl (gI G, 12, .inl f_aHigh)), (a_aBy, .inl (gI G, 12, .inl f_aBy)), (a_aTop, .inl (gI G, 12, .inl f_aTop))]) args s 0 0 A) (F0 m 4 ls []) := by
    intro n
    induction n with
    | zero => intro n9 i hi hmu; exact absurd hmu (Nat.not_lt_zero _)
    | succ n ih =>
      intro n9 i hi hmu H locs ls hP hD hS hl
      refine lv_iload_n hx hb d_Mo_wanted_4 rfl (lv_at hl 0 rfl) ?_
      refine lv_aload_n hx hb d_Mo_wanted_5 rfl (lv_at hl 2 rfl) ?_
      refine va_get (D := G.1) (ci := 12) (C := R_Mo) (T := F_Mo) (N := 64) (v := .int v_scriptQuestions) hx hb hts i_Mo hown hK hP 0 rfl rfl 41 (by decide) (hts (.fieldLink R_Mo 158 "PrivateQueriesModel" "scriptQuestions" "I") k_178) (fun _ h9 => h9) rfl d_Mo_wanted_6 ?_
      refine lv_icmp_ge (tgt := 44) hx hb d_Mo_wanted_9 (by decide) (fun c1 => ?_) (fun c1 => ?_)
      · skip
        refine lv_iload_n hx hb d_Mo_wanted_44 rfl (lv_at hl 1 rfl) ?_
        exact ly_iret hx hb hr hlocks hP hD hS d_Mo_wanted_45 (by rw [lp_Mo_wanted_4, if_pos c1]) rfl
      refine lv_iload_n hx hb d_Mo_wanted_12 rfl (lv_at hl 1 rfl) ?_
      refine lv_aload_n hx hb d_Mo_wanted_13 rfl (lv_at hl 2 rfl) ?_
      refine lv_iload_n hx hb d_Mo_wanted_14 rfl (lv_at hl 0 rfl) ?_
      refine lv_iload_n hx hb d_Mo_wanted_15 rfl (lv_at hl 3 rfl) ?_
      refine lv_if_ne (tgt := 23) hx hb d_Mo_wanted_16 (by decide) (fun c2 => ?_) (fun c2 => ?_)
      · skip
        refine lv_iload_n hx hb d_Mo_wanted_23 rfl (lv_at hl 3 rfl) ?_
        refine lv_iconst (v := 1) hx hb d_Mo_wanted_24 (by decide) ?_
        refine lv_icmp_ne (tgt := 32) hx hb d_Mo_wanted_25 (by decide) (fun c3 => ?_) (fun c3 => ?_)
        · skip
          refine lv_iconst (v := 4) hx hb d_Mo_wanted_32 (by decide) ?_
          obtain ⟨r1, hr1⟩ : ∃ r, (s_Mo_aspect f_aSort f_aLow f_aHigh f_aBy f_aTop i 4) = r := ⟨_, rfl⟩
          have hC_r1 := (c_Mo_aspect l G h a_table a_tape a_budget a_spent a_text a_kinds a_values a_scriptKinds a_scriptValues a_isTold a_letOf a_code a_letEnd a_letBegin a_sort a_column a_low a_high a_by a_top a_begins a_ends a_scriptCode a_scriptLetBegin a_scriptLetEnd a_aSort a_aColumn a_aLow a_aHigh a_aBy a_aTop a_aBegin a_anEnd a_told a_out a_goals a_withs a_pile a_letValue a_one a_two v_p v_q v_rows v_cells v_signs v_tokens v_scriptTokens v_at v_place v_kind v_value v_depth v_asked v_lets v_questions v_statements v_size v_hasScript v_scriptLets v_scriptQuestions f_aSort f_aLow f_aHigh f_aBy f_aTop v_toldCount v_outs v_goalCount i 4 (wq_1 hz_v_scriptQuestions hi c1) (wq_2 hby hi c1))
          rw [hr1] at hC_r1
          refine ly_callV (rest := [.int n9]) (wf := [(h, .inr (12, .int v_p :: .int v_q :: .ref a_table :: .int v_rows :: .ref a_tape :: .int v_cells :: .ref a_budget :: .ref a_spent :: .ref a_text :: .int v_signs :: .ref a_kinds :: .ref a_values :: .int v_tokens :: .ref a_scriptKinds :: .ref a_scriptValues :: .int v_scriptTokens :: .int v_at :: .int v_place :: .int v_kind :: .int v_value :: .int v_depth :: .int v_asked :: .int v_lets :: .int v_questions :: .int v_statements :: .ref a_isTold :: .ref a_letOf :: .ref a_code :: .int v_size :: .ref a_letEnd :: .ref a_letBegin :: .ref a_sort :: .ref a_column :: .ref a_low :: .ref a_high :: .ref a_by :: .ref a_top :: .ref a_begins :: .ref a_ends :: .int v_hasScript :: .int v_scriptLets :: .int v_scriptQuestions :: .ref a_scriptCode :: .ref a_scriptLetBegin :: .ref a_scriptLetEnd :: .ref a_aSort :: .ref a_aColumn :: .ref a_aLow :: .ref a_aHigh :: .ref a_aBy :: .ref a_aTop :: .ref a_aBegin :: .ref a_anEnd :: .ref a_told :: .int v_toldCount :: .ref a_out :: .int v_outs :: .ref a_goals :: .ref a_withs :: .int v_goalCount :: .ref a_pile :: .ref a_letValue :: .ref a_one :: .ref a_two :: [])), (a_aSort, .inl (gI G, 12, .inl f_aSort)), (a_aLow, .inl (gI G, 12, .inl f_aLow)), (a_aHigh, .inl (gI G, 12, .inl f_aHigh)), (a_aBy, .inl (gI G, 12, .inl f_aBy)), (a_aTop, .inl (gI G, 12, .inl f_aTop))]) ⟨hx, hb, hml, hown, hts⟩ hA hK hZ hP hD hS hC_r1 (cwV 2 hts g_Mo_335 rfl rfl rfl (by decide +kernel) ⟨Nat.le_of_ble_eq_true rfl, Nat.le_of_ble_eq_true rfl⟩) (ci := 12) (q0 := 0) rfl rfl rfl [0, 1, 2, 3, 4, 5] rfl (by decide) rfl rfl rfl hl.1 rfl (Nat.le_of_ble_eq_true rfl) d_Mo_wanted_33 ⟨Nat.le_of_ble_eq_true rfl, Nat.le_of_ble_eq_true rfl⟩ (st1 := [.int r1, .int n9]) (c1 := 0) (s1 := 0) rfl rfl rfl (fun H locs hP hD hS => ?_)
          refine lv_iadd hx hb d_Mo_wanted_36 ?_
          refine lv_istore_n (lv' := [(2, .int (n9 + r1)), (3, .int i), (0, .ref h), (1, .int x)]) hx hb d_Mo_wanted_37 rfl hl (by decide) rfl (fun ls hl => ?_)
          refine lv_iinc (v := i + 1) (lv' := [(3, .int (i + 1)), (2, .int (n9 + r1)), (0, .ref h), (1, .int x)]) hx hb d_Mo_wanted_38 hl (k := 1) rfl (by rfl) (by decide) rfl (fun ls hl => ?_)
          refine lv_goto (tgt := 4) hx hb d_Mo_wanted_41 (by decide) ?_
          have e_ : (lp_Mo_wanted_4 v_scriptQuestions f_aSort f_aLow f_aHigh f_aBy f_aTop x (n + 1) n9 i) = (lp_Mo_wanted_4 v_scriptQuestions f_aSort f_aLow f_aHigh f_aBy f_aTop x n (n9 + r1) (i + 1)) := (by rw [lp_Mo_wanted_4] <;> simp only [hr1] <;> rw [if_neg c1, if_neg c2, if_neg c3])
          rw [e_]
          exact ih (n9 + r1) (i + 1) (ho_1 c1 hi) (mu_step (mu_up c1) hmu) _ _ _ hP hD hS (lv_sub hl [0, 1, 2, 3] rfl)
        refine lv_iconst (v := 2) hx hb d_Mo_wanted_28 (by decide) ?_
        refine lv_goto (tgt := 33) hx hb d_Mo_wanted_29 (by decide) ?_
        obtain ⟨r2, hr2⟩ : ∃ r, (s_Mo_aspect f_aSort f_aLow f_aHigh f_aBy f_aTop i 2) = r := ⟨_, rfl⟩
        have hC_r2 := (c_Mo_aspect l G h a_table a_tape a_budget a_spent a_text a_kinds a_values a_scriptKinds a_scriptValues a_isTold a_letOf a_code a_letEnd a_letBegin a_sort a_column a_low a_high a_by a_top a_begins a_ends a_scriptCode a_scriptLetBegin a_scriptLetEnd a_aSort a_aColumn a_aLow a_aHigh a_aBy a_aTop a_aBegin a_anEnd a_told a_out a_goals a_withs a_pile a_letValue a_one a_two v_p v_q v_rows v_cells v_signs v_tokens v_scriptTokens v_at v_place v_kind v_value v_depth v_asked v_lets v_questions v_statements v_size v_hasScript v_scriptLets v_scriptQuestions f_aSort f_aLow f_aHigh f_aBy f_aTop v_toldCount v_outs v_goalCount i 2 (wq_1 hz_v_scriptQuestions hi c1) (wq_2 hby hi c1))
        rw [hr2] at hC_r2
        refine ly_callV (rest := [.int n9]) (wf := [(h, .inr (12, .int v_p :: .int v_q :: .ref a_table :: .int v_rows :: .ref a_tape :: .int v_cells :: .ref a_budget :: .ref a_spent :: .ref a_text :: .int v_signs :: .ref a_kinds :: .ref a_values :: .int v_tokens :: .ref a_scriptKinds :: .ref a_scriptValues :: .int v_scriptTokens :: .int v_at :: .int v_place :: .int v_kind :: .int v_value :: .int v_depth :: .int v_asked :: .int v_lets :: .int v_questions :: .int v_statements :: .ref a_isTold :: .ref a_letOf :: .ref a_code :: .int v_size :: .ref a_letEnd :: .ref a_letBegin :: .ref a_sort :: .ref a_column :: .ref a_low :: .ref a_high :: .ref a_by :: .ref a_top :: .ref a_begins :: .ref a_ends :: .int v_hasScript :: .int v_scriptLets :: .int v_scriptQuestions :: .ref a_scriptCode :: .ref a_scriptLetBegin :: .ref a_scriptLetEnd :: .ref a_aSort :: .ref a_aColumn :: .ref a_aLow :: .ref a_aHigh :: .ref a_aBy :: .ref a_aTop :: .ref a_aBegin :: .ref a_anEnd :: .ref a_told :: .int v_toldCount :: .ref a_out :: .int v_outs :: .ref a_goals :: .ref a_withs :: .int v_goalCount :: .ref a_pile :: .ref a_letValue :: .ref a_one :: .ref a_two :: [])), (a_aSort, .inl (gI G, 12, .inl f_aSort)), (a_aLow, .inl (gI G, 12, .inl f_aLow)), (a_aHigh, .inl (gI G, 12, .inl f_aHigh)), (a_aBy, .inl (gI G, 12, .inl f_aBy)), (a_aTop, .inl (gI G, 12, .inl f_aTop))]) ⟨hx, hb, hml, hown, hts⟩ hA hK hZ hP hD hS hC_r2 (cwV 2 hts g_Mo_335 rfl rfl rfl (by decide +kernel) ⟨Nat.le_of_ble_eq_true rfl, Nat.le_of_ble_eq_true rfl⟩) (ci := 12) (q0 := 0) rfl rfl rfl [0, 1, 2, 3, 4, 5] rfl (by decide) rfl rfl rfl hl.1 rfl (Nat.le_of_ble_eq_true rfl) d_Mo_wanted_33 ⟨Nat.le_of_ble_eq_true rfl, Nat.le_of_ble_eq_true rfl⟩ (st1 := [.int r2, .int n9]) (c1 := 0) (s1 := 0) rfl rfl rfl (fun H locs hP hD hS => ?_)
        refine lv_iadd hx hb d_Mo_wanted_36 ?_
        refine lv_istore_n (lv' := [(2, .int (n9 + r2)), (3, .int i), (0, .ref h), (1, .int x)]) hx hb d_Mo_wanted_37 rfl hl (by decide) rfl (fun ls hl => ?_)
        refine lv_iinc (v := i + 1) (lv' := [(3, .int (i + 1)), (2, .int (n9 + r2)), (0, .ref h), (1, .int x)]) hx hb d_Mo_wanted_38 hl (k := 1) rfl (by rfl) (by decide) rfl (fun ls hl => ?_)
        refine lv_goto (tgt := 4) hx hb d_Mo_wanted_41 (by decide) ?_
        have e_ : (lp_Mo_wanted_4 v_scriptQuestions f_aSort f_aLow f_aHigh f_aBy f_aTop x (n + 1) n9 i) = (lp_Mo_wanted_4 v_scriptQuestions f_aSort f_aLow f_aHigh f_aBy f_aTop x n (n9 + r2) (i + 1)) := (by rw [lp_Mo_wanted_4] <;> simp only [hr2] <;> rw [if_neg c1, if_neg c2, if_pos c3])
        rw [e_]
        exact ih (n9 + r2) (i + 1) (ho_1 c1 hi) (mu_step (mu_up c1) hmu) _ _ _ hP hD hS (lv_sub hl [0, 1, 2, 3] rfl)
      refine lv_iconst (v := 1) hx hb d_Mo_wanted_19 (by decide) ?_
      refine lv_goto (tgt := 33) hx hb d_Mo_wanted_20 (by decide) ?_
      obtain ⟨r3, hr3⟩ : ∃ r, (s_Mo_aspect f_aSort f_aLow f_aHigh f_aBy f_aTop i 1) = r := ⟨_, rfl⟩
      have hC_r3 := (c_Mo_aspect l G h a_table a_tape a_budget a_spent a_text a_kinds a_values a_scriptKinds a_scriptValues a_isTold a_letOf a_code a_letEnd a_letBegin a_sort a_column a_low a_high a_by a_top a_begins a_ends a_scriptCode a_scriptLetBegin a_scriptLetEnd a_aSort a_aColumn a_aLow a_aHigh a_aBy a_aTop a_aBegin a_anEnd a_told a_out a_goals a_withs a_pile a_letValue a_one a_two v_p v_q v_rows v_cells v_signs v_tokens v_scriptTokens v_at v_place v_kind v_value v_depth v_asked v_lets v_questions v_statements v_size v_hasScript v_scriptLets v_scriptQuestions f_aSort f_aLow f_aHigh f_aBy f_aTop v_toldCount v_outs v_goalCount i 1 (wq_1 hz_v_scriptQuestions hi c1) (wq_2 hby hi c1))
      rw [hr3] at hC_r3
      refine ly_callV (rest := [.int n9]) (wf := [(h, .inr (12, .int v_p :: .int v_q :: .ref a_table :: .int v_rows :: .ref a_tape :: .int v_cells :: .ref a_budget :: .ref a_spent :: .ref a_text :: .int v_signs :: .ref a_kinds :: .ref a_values :: .int v_tokens :: .ref a_scriptKinds :: .ref a_scriptValues :: .int v_scriptTokens :: .int v_at :: .int v_place :: .int v_kind :: .int v_value :: .int v_depth :: .int v_asked :: .int v_lets :: .int v_questions :: .int v_statements :: .ref a_isTold :: .ref a_letOf :: .ref a_code :: .int v_size :: .ref a_letEnd :: .ref a_letBegin :: .ref a_sort :: .ref a_column :: .ref a_low :: .ref a_high :: .ref a_by :: .ref a_top :: .ref a_begins :: .ref a_ends :: .int v_hasScript :: .int v_scriptLets :: .int v_scriptQuestions :: .ref a_scriptCode :: .ref a_scriptLetBegin :: .ref a_scriptLetEnd :: .ref a_aSort :: .ref a_aColumn :: .ref a_aLow :: .ref a_aHigh :: .ref a_aBy :: .ref a_aTop :: .ref a_aBegin :: .ref a_anEnd :: .ref a_told :: .int v_toldCount :: .ref a_out :: .int v_outs :: .ref a_goals :: .ref a_withs :: .int v_goalCount :: .ref a_pile :: .ref a_letValue :: .ref a_one :: .ref a_two :: [])), (a_aSort, .inl (gI G, 12, .inl f_aSort)), (a_aLow, .inl (gI G, 12, .inl f_aLow)), (a_aHigh, .inl (gI G, 12, .inl f_aHigh)), (a_aBy, .inl (gI G, 12, .inl f_aBy)), (a_aTop, .inl (gI G, 12, .inl f_aTop))]) ⟨hx, hb, hml, hown, hts⟩ hA hK hZ hP hD hS hC_r3 (cwV 2 hts g_Mo_335 rfl rfl rfl (by decide +kernel) ⟨Nat.le_of_ble_eq_true rfl, Nat.le_of_ble_eq_true rfl⟩) (ci := 12) (q0 := 0) rfl rfl rfl [0, 1, 2, 3, 4, 5] rfl (by decide) rfl rfl rfl hl.1 rfl (Nat.le_of_ble_eq_true rfl) d_Mo_wanted_33 ⟨Nat.le_of_ble_eq_true rfl, Nat.le_of_ble_eq_true rfl⟩ (st1 := [.int r3, .int n9]) (c1 := 0) (s1 := 0) rfl rfl rfl (fun H locs hP hD hS => ?_)
      refine lv_iadd hx hb d_Mo_wanted_36 ?_
      refine lv_istore_n (lv' := [(2, .int (n9 + r3)), (3, .int i), (0, .ref h), (1, .int x)]) hx hb d_Mo_wanted_37 rfl hl (by decide) rfl (fun ls hl => ?_)
      refine lv_iinc (v := i + 1) (lv' := [(3, .int (i + 1)), (2, .int (n9 + r3)), (0, .ref h), (1, .int x)]) hx hb d_Mo_wanted_38 hl (k := 1) rfl (by rfl) (by decide) rfl (fun ls hl => ?_)
      refine lv_goto (tgt := 4) hx hb d_Mo_wanted_41 (by decide) ?_
      have e_ : (lp_Mo_wanted_4 v_scriptQuestions f_aSort f_aLow f_aHigh f_aBy f_aTop x (n + 1) n9 i) = (lp_Mo_wanted_4 v_scriptQuestions f_aSort f_aLow f_aHigh f_aBy f_aTop x n (n9 + r3) (i + 1)) := (by rw [lp_Mo_wanted_4] <;> simp only [hr3] <;> rw [if_neg c1, if_pos c2])
      rw [e_]
      exact ih (n9 + r3) (i + 1) (ho_1 c1 hi) (mu_step (mu_up c1) hmu) _ _ _ hP hD hS (lv_sub hl [0, 1, 2, 3] rfl)
  have hl : lv_has ls 4 [(0, .ref h), (1, .int x)] := hl
  refine lv_iconst (v := 0) hx hb d_Mo_wanted_0 (by decide) ?_
  refine lv_istore_n (lv' := [(2, .int 0), (0, .ref h), (1, .int x)]) hx hb d_Mo_wanted_1 rfl hl (by decide) rfl (fun ls hl => ?_)
  refine lv_iconst (v := 0) hx hb d_Mo_wanted_2 (by decide) ?_
  refine lv_istore_n (lv' := [(3, .int 0), (2, .int 0), (0, .ref h), (1, .int x)]) hx hb d_Mo_wanted_3 rfl hl (by decide) rfl (fun ls hl => ?_)
  exact loop_4 (((v_scriptQuestions.toInt - (0 : Int32).toInt).toNat) + 1) (0 : Int32) (0 : Int32) (by decide) (Nat.lt_succ_self _) _ _ _ hP hD hS (lv_sub hl [0, 1, 2, 3] rfl)

set_option maxHeartbeats 4000000 in
set_option maxRecDepth 100000 in
theorem c_Mo_wants (l : Launch) (G : GG) (h : Nat) (a_table : Nat) (a_tape : Nat) (a_budget : Nat) (a_spent : Nat) (a_text : Nat) (a_kinds : Nat) (a_values : Nat) (a_scriptKinds : Nat) (a_scriptValues : Nat) (a_isTold : Nat) (a_letOf : Nat) (a_code : Nat) (a_letEnd : Nat) (a_letBegin : Nat) (a_sort : Nat) (a_column : Nat) (a_low : Nat) (a_high : Nat) (a_by : Nat) (a_top : Nat) (a_begins : Nat) (a_ends : Nat) (a_scriptCode : Nat) (a_scriptLetBegin : Nat) (a_scriptLetEnd : Nat) (a_aSort : Nat) (a_aColumn : Nat) (a_aLow : Nat) (a_aHigh : Nat) (a_aBy : Nat) (a_aTop : Nat) (a_aBegin : Nat) (a_anEnd : Nat) (a_told : Nat) (a_out : Nat) (a_goals : Nat) (a_withs : Nat) (a_pile : Nat) (a_letValue : Nat) (a_one : Nat) (a_two : Nat) (v_p : Int32) (v_q : Int32) (v_rows : Int32) (v_cells : Int32) (v_signs : Int32) (v_tokens : Int32) (v_scriptTokens : Int32) (v_at : Int32) (v_place : Int32) (v_kind : Int32) (v_value : Int32) (v_depth : Int32) (v_asked : Int32) (v_lets : Int32) (v_questions : Int32) (v_statements : Int32) (v_size : Int32) (v_hasScript : Int32) (v_scriptLets : Int32) (v_scriptQuestions : Int32) (f_aSort : Nat → Int32) (f_aLow : Nat → Int32) (f_aHigh : Nat → Int32) (f_aBy : Nat → Int32) (f_aTop : Nat → Int32) (v_toldCount : Int32) (v_outs : Int32) (v_goalCount : Int32) (x : Int32) (hz_v_scriptQuestions : up v_scriptQuestions 12) (hby : BYP f_aBy v_scriptQuestions) : Det l G y_Mo_wants w_Mo_wants (rmD 3) 0 0 [.ref h, .int x] [(h, .inr (12, .int v_p :: .int v_q :: .ref a_table :: .int v_rows :: .ref a_tape :: .int v_cells :: .ref a_budget :: .ref a_spent :: .ref a_text :: .int v_signs :: .ref a_kinds :: .ref a_values :: .int v_tokens :: .ref a_scriptKinds :: .ref a_scriptValues :: .int v_scriptTokens :: .int v_at :: .int v_place :: .int v_kind :: .int v_value :: .int v_depth :: .int v_asked :: .int v_lets :: .int v_questions :: .int v_statements :: .ref a_isTold :: .ref a_letOf :: .ref a_code :: .int v_size :: .ref a_letEnd :: .ref a_letBegin :: .ref a_sort :: .ref a_column :: .ref a_low :: .ref a_high :: .ref a_by :: .ref a_top :: .ref a_begins :: .ref a_ends :: .int v_hasScript :: .int v_scriptLets :: .int v_scriptQuestions :: .ref a_scriptCode :: .ref a_scriptLetBegin :: .ref a_scriptLetEnd :: .ref a_aSort :: .ref a_aColumn :: .ref a_aLow :: .ref a_aHigh :: .ref a_aBy :: .ref a_aTop :: .ref a_aBegin :: .ref a_anEnd :: .ref a_told :: .int v_toldCount :: .ref a_out :: .int v_outs :: .ref a_goals :: .ref a_withs :: .int v_goalCount :: .ref a_pile :: .ref a_letValue :: .ref a_one :: .ref a_two :: [])), (a_aSort, .inl (gI G, 12, .inl f_aSort)), (a_aLow, .inl (gI G, 12, .inl f_aLow)), (a_aHigh, .inl (gI G, 12, .inl f_aHigh)), (a_aBy, .inl (gI G, 12, .inl f_aBy)), (a_aTop, .inl (gI G, 12, .inl f_aTop))] (some (.int (s_Mo_wants v_hasScript v_scriptQuestions f_aSort f_aLow f_aHigh f_aBy f_aTop x))) [(h, .inr (12, .int v_p :: .int v_q :: .ref a_table :: .int v_rows :: .ref a_tape :: .int v_cells :: .ref a_budget :: .ref a_spent :: .ref a_text :: .int v_signs :: .ref a_kinds :: .ref a_values :: .int v_tokens :: .ref a_scriptKinds :: .ref a_scriptValues :: .int v_scriptTokens :: .int v_at :: .int v_place :: .int v_kind :: .int v_value :: .int v_depth :: .int v_asked :: .int v_lets :: .int v_questions :: .int v_statements :: .ref a_isTold :: .ref a_letOf :: .ref a_code :: .int v_size :: .ref a_letEnd :: .ref a_letBegin :: .ref a_sort :: .ref a_column :: .ref a_low :: .ref a_high :: .ref a_by :: .ref a_top :: .ref a_begins :: .ref a_ends :: .int v_hasScript :: .int v_scriptLets :: .int v_scriptQuestions :: .ref a_scriptCode :: .ref a_scriptLetBegin :: .ref a_scriptLetEnd :: .ref a_aSort :: .ref a_aColumn :: .ref a_aLow :: .ref a_aHigh :: .ref a_aBy :: .ref a_aTop :: .ref a_aBegin :: .ref a_anEnd :: .ref a_told :: .int v_toldCount :: .ref a_out :: .int v_outs :: .ref a_goals :: .ref a_withs :: .int v_goalCount :: .ref a_pile :: .ref a_letValue :: .ref a_one :: .ref a_two :: [])), (a_aSort, .inl (gI G, 12, .inl f_aSort)), (a_aLow, .inl (gI G, 12, .inl f_aLow)), (a_aHigh, .inl (gI G, 12, .inl f_aHigh)), (a_aBy, .inl (gI G, 12, .inl f_aBy)), (a_aTop, .inl (gI G, 12, .inl f_aTop))] := by
  refine Det.of (cc := b_Mo_wants) (maxL := 2) (ret := (some .int)) (by decide) rfl (Nat.le_of_ble_eq_true rfl) ?_
  intro p e s m args below meth c A ls hx hb hr hml hown hts hlocks hin hA hK hZ hP hD hS hl
  have hts : ∀ w ∈ wG, w.before args s = true := fun w h => hts w (List.mem_cons_of_mem _ h)
  have hown : s.vm.findClass R_Mo = some m.cls := hown
  have hl : lv_has ls 2 [(0, .ref h), (1, .int x)] := hl
  refine lv_iload_n hx hb d_Mo_wants_0 rfl (lv_at hl 1 rfl) ?_
  refine lv_iconst (v := 0) hx hb d_Mo_wants_1 (by decide) ?_
  refine lv_iconst (v := 2) hx hb d_Mo_wants_2 (by decide) ?_
  obtain ⟨r1, hr1⟩ : ∃ r, (s_Mo_in x 0 2) = r := ⟨_, rfl⟩
  have hC_r1 := (c_Mo_in l G x 0 2)
  rw [hr1] at hC_r1
  have hf_r1_1 : isB r1 := by rw [← hr1]; exact z_Mo_in
  refine ly_callS (rest := []) (wf := [(h, .inr (12, .int v_p :: .int v_q :: .ref a_table :: .int v_rows :: .ref a_tape :: .int v_cells :: .ref a_budget :: .ref a_spent :: .ref a_text :: .int v_signs :: .ref a_kinds :: .ref a_values :: .int v_tokens :: .ref a_scriptKinds :: .ref a_scriptValues :: .int v_scriptTokens :: .int v_at :: .int v_place :: .int v_kind :: .int v_value :: .int v_depth :: .int v_asked :: .int v_lets :: .int v_questions :: .int v_statements :: .ref a_isTold :: .ref a_letOf :: .ref a_code :: .int v_size :: .ref a_letEnd :: .ref a_letBegin :: .ref a_sort :: .ref a_column :: .ref a_low :: .ref a_high :: .ref a_by :: .ref a_top :: .ref a_begins :: .ref a_ends :: .int v_hasScript :: .int v_scriptLets :: .int v_scriptQuestions :: .ref a_scriptCode :: .ref a_scriptLetBegin :: .ref a_scriptLetEnd :: .ref a_aSort :: .ref a_aColumn :: .ref a_aLow :: .ref a_aHigh :: .ref a_aBy :: .ref a_aTop :: .ref a_aBegin :: .ref a_anEnd :: .ref a_told :: .int v_toldCount :: .ref a_out :: .int v_outs :: .ref a_goals :: .ref a_withs :: .int v_goalCount :: .ref a_pile :: .ref a_letValue :: .ref a_one :: .ref a_two :: [])), (a_aSort, .inl (gI G, 12, .inl f_aSort)), (a_aLow, .inl (gI G, 12, .inl f_aLow)), (a_aHigh, .inl (gI G, 12, .inl f_aHigh)), (a_aBy, .inl (gI G, 12, .inl f_aBy)), (a_aTop, .inl (gI G, 12, .inl f_aTop))]) ⟨hx, hb, hml, hown, hts⟩ hA hK hZ hP hD hS hC_r1 (cwS 3 hts g_Mo_144 rfl rfl rfl (by decide +kernel) ⟨Nat.le_of_ble_eq_true rfl, Nat.le_of_ble_eq_true rfl⟩) [] rfl (by decide) rfl rfl rfl hl.1 rfl (Nat.le_of_ble_eq_true rfl) d_Mo_wants_3 ⟨Nat.le_of_ble_eq_true rfl, Nat.le_of_ble_eq_true rfl⟩ (st1 := [.int r1]) (c1 := 0) (s1 := 0) rfl rfl rfl (fun H locs hP hD hS => ?_)
  refine lv_if_ne (tgt := 12) hx hb d_Mo_wants_6 (by decide) (fun c1 => ?_) (fun c1 => ?_)
  · skip
    refine lv_aload_n hx hb d_Mo_wants_12 rfl (lv_at hl 0 rfl) ?_
    refine va_get (D := G.1) (ci := 12) (C := R_Mo) (T := F_Mo) (N := 64) (v := .int v_hasScript) hx hb hts i_Mo hown hK hP 0 rfl rfl 39 (by decide) (hts (.fieldLink R_Mo 313 "PrivateQueriesModel" "hasScript" "Z") k_318) (fun _ h9 => h9) rfl d_Mo_wants_13 ?_
    refine lv_if_eq (tgt := 27) hx hb d_Mo_wants_16 (by decide) (fun c2 => ?_) (fun c2 => ?_)
    · skip
      refine lv_bipush (v := (-103)) hx hb d_Mo_wants_27 (by decide) ?_
      exact ly_iret hx hb hr hlocks hP hD hS d_Mo_wants_29 (by rw [s_Mo_wants] <;> simp only [hr1] <;> rw [if_neg c1, if_pos c2]) rfl
    refine lv_aload_n hx hb d_Mo_wants_19 rfl (lv_at hl 0 rfl) ?_
    refine lv_iload_n hx hb d_Mo_wants_20 rfl (lv_at hl 1 rfl) ?_
    obtain ⟨r2, hr2⟩ : ∃ r, (lp_Mo_wanted_4 v_scriptQuestions f_aSort f_aLow f_aHigh f_aBy f_aTop x (((v_scriptQuestions.toInt - (0 : Int32).toInt).toNat) + 1) (0 : Int32) (0 : Int32)) = r := ⟨_, rfl⟩
    have hC_r2 := (c_Mo_wanted l G h a_table a_tape a_budget a_spent a_text a_kinds a_values a_scriptKinds a_scriptValues a_isTold a_letOf a_code a_letEnd a_letBegin a_sort a_column a_low a_high a_by a_top a_begins a_ends a_scriptCode a_scriptLetBegin a_scriptLetEnd a_aSort a_aColumn a_aLow a_aHigh a_aBy a_aTop a_aBegin a_anEnd a_told a_out a_goals a_withs a_pile a_letValue a_one a_two v_p v_q v_rows v_cells v_signs v_tokens v_scriptTokens v_at v_place v_kind v_value v_depth v_asked v_lets v_questions v_statements v_size v_hasScript v_scriptLets v_scriptQuestions f_aSort f_aLow f_aHigh f_aBy f_aTop v_toldCount v_outs v_goalCount x hz_v_scriptQuestions hby)
    rw [hr2] at hC_r2
    refine ly_callV (rest := []) (wf := [(h, .inr (12, .int v_p :: .int v_q :: .ref a_table :: .int v_rows :: .ref a_tape :: .int v_cells :: .ref a_budget :: .ref a_spent :: .ref a_text :: .int v_signs :: .ref a_kinds :: .ref a_values :: .int v_tokens :: .ref a_scriptKinds :: .ref a_scriptValues :: .int v_scriptTokens :: .int v_at :: .int v_place :: .int v_kind :: .int v_value :: .int v_depth :: .int v_asked :: .int v_lets :: .int v_questions :: .int v_statements :: .ref a_isTold :: .ref a_letOf :: .ref a_code :: .int v_size :: .ref a_letEnd :: .ref a_letBegin :: .ref a_sort :: .ref a_column :: .ref a_low :: .ref a_high :: .ref a_by :: .ref a_top :: .ref a_begins :: .ref a_ends :: .int v_hasScript :: .int v_scriptLets :: .int v_scriptQuestions :: .ref a_scriptCode :: .ref a_scriptLetBegin :: .ref a_scriptLetEnd :: .ref a_aSort :: .ref a_aColumn :: .ref a_aLow :: .ref a_aHigh :: .ref a_aBy :: .ref a_aTop :: .ref a_aBegin :: .ref a_anEnd :: .ref a_told :: .int v_toldCount :: .ref a_out :: .int v_outs :: .ref a_goals :: .ref a_withs :: .int v_goalCount :: .ref a_pile :: .ref a_letValue :: .ref a_one :: .ref a_two :: [])), (a_aSort, .inl (gI G, 12, .inl f_aSort)), (a_aLow, .inl (gI G, 12, .inl f_aLow)), (a_aHigh, .inl (gI G, 12, .inl f_aHigh)), (a_aBy, .inl (gI G, 12, .inl f_aBy)), (a_aTop, .inl (gI G, 12, .inl f_aTop))]) ⟨hx, hb, hml, hown, hts⟩ hA hK hZ hP hD hS hC_r2 (cwV 1 hts g_Mo_338 rfl rfl rfl (by decide +kernel) ⟨Nat.le_of_ble_eq_true rfl, Nat.le_of_ble_eq_true rfl⟩) (ci := 12) (q0 := 0) rfl rfl rfl [0, 1, 2, 3, 4, 5] rfl (by decide) rfl rfl rfl hl.1 rfl (Nat.le_of_ble_eq_true rfl) d_Mo_wants_21 ⟨Nat.le_of_ble_eq_true rfl, Nat.le_of_ble_eq_true rfl⟩ (st1 := [.int r2]) (c1 := 0) (s1 := 0) rfl rfl rfl (fun H locs hP hD hS => ?_)
    refine lv_goto (tgt := 29) hx hb d_Mo_wants_24 (by decide) ?_
    exact ly_iret hx hb hr hlocks hP hD hS d_Mo_wants_29 (by rw [s_Mo_wants] <;> simp only [hr1, hr2] <;> rw [if_neg c1, if_neg c2]) rfl
  refine lv_bipush (v := (-102)) hx hb d_Mo_wants_9 (by decide) ?_
  exact ly_iret hx hb hr hlocks hP hD hS d_Mo_wants_11 (by rw [s_Mo_wants] <;> simp only [hr1] <;> rw [if_pos c1]) rfl

set_option maxHeartbeats 4000000 in
set_option maxRecDepth 100000 in
theorem c_Mo_noiseAt (l : Launch) (G : GG) (h : Nat) (a_table : Nat) (a_tape : Nat) (a_budget : Nat) (a_spent : Nat) (a_text : Nat) (a_kinds : Nat) (a_values : Nat) (a_scriptKinds : Nat) (a_scriptValues : Nat) (a_isTold : Nat) (a_letOf : Nat) (a_code : Nat) (a_letEnd : Nat) (a_letBegin : Nat) (a_sort : Nat) (a_column : Nat) (a_low : Nat) (a_high : Nat) (a_by : Nat) (a_top : Nat) (a_begins : Nat) (a_ends : Nat) (a_scriptCode : Nat) (a_scriptLetBegin : Nat) (a_scriptLetEnd : Nat) (a_aSort : Nat) (a_aColumn : Nat) (a_aLow : Nat) (a_aHigh : Nat) (a_aBy : Nat) (a_aTop : Nat) (a_aBegin : Nat) (a_anEnd : Nat) (a_told : Nat) (a_out : Nat) (a_goals : Nat) (a_withs : Nat) (a_pile : Nat) (a_letValue : Nat) (a_one : Nat) (a_two : Nat) (v_p : Int32) (v_q : Int32) (v_rows : Int32) (f_tape : Nat → Int32) (v_cells : Int32) (v_signs : Int32) (v_tokens : Int32) (v_scriptTokens : Int32) (v_at : Int32) (v_place : Int32) (v_kind : Int32) (v_value : Int32) (v_depth : Int32) (v_asked : Int32) (v_lets : Int32) (v_questions : Int32) (v_statements : Int32) (v_size : Int32) (v_hasScript : Int32) (v_scriptLets : Int32) (v_scriptQuestions : Int32) (v_toldCount : Int32) (v_outs : Int32) (v_goalCount : Int32) (x : Int32) (z : Int32) (h0 : 0 ≤ x.toInt) (h1 : x.toInt + z.toInt + 1 ≤ 3000) (h2 : 0 ≤ z.toInt) (h3 : z.toInt ≤ 1000) : Det l G y_Mo_noiseAt w_Mo_noiseAt (rmD 0) 0 0 [.ref h, .int x, .int z] [(h, .inr (12, .int v_p :: .int v_q :: .ref a_table :: .int v_rows :: .ref a_tape :: .int v_cells :: .ref a_budget :: .ref a_spent :: .ref a_text :: .int v_signs :: .ref a_kinds :: .ref a_values :: .int v_tokens :: .ref a_scriptKinds :: .ref a_scriptValues :: .int v_scriptTokens :: .int v_at :: .int v_place :: .int v_kind :: .int v_value :: .int v_depth :: .int v_asked :: .int v_lets :: .int v_questions :: .int v_statements :: .ref a_isTold :: .ref a_letOf :: .ref a_code :: .int v_size :: .ref a_letEnd :: .ref a_letBegin :: .ref a_sort :: .ref a_column :: .ref a_low :: .ref a_high :: .ref a_by :: .ref a_top :: .ref a_begins :: .ref a_ends :: .int v_hasScript :: .int v_scriptLets :: .int v_scriptQuestions :: .ref a_scriptCode :: .ref a_scriptLetBegin :: .ref a_scriptLetEnd :: .ref a_aSort :: .ref a_aColumn :: .ref a_aLow :: .ref a_aHigh :: .ref a_aBy :: .ref a_aTop :: .ref a_aBegin :: .ref a_anEnd :: .ref a_told :: .int v_toldCount :: .ref a_out :: .int v_outs :: .ref a_goals :: .ref a_withs :: .int v_goalCount :: .ref a_pile :: .ref a_letValue :: .ref a_one :: .ref a_two :: [])), (a_tape, .inl (gI G, 3000, .inl f_tape))] (some (.int (s_Mo_noiseAt v_p v_q f_tape x z))) [(h, .inr (12, .int v_p :: .int v_q :: .ref a_table :: .int v_rows :: .ref a_tape :: .int v_cells :: .ref a_budget :: .ref a_spent :: .ref a_text :: .int v_signs :: .ref a_kinds :: .ref a_values :: .int v_tokens :: .ref a_scriptKinds :: .ref a_scriptValues :: .int v_scriptTokens :: .int v_at :: .int v_place :: .int v_kind :: .int v_value :: .int v_depth :: .int v_asked :: .int v_lets :: .int v_questions :: .int v_statements :: .ref a_isTold :: .ref a_letOf :: .ref a_code :: .int v_size :: .ref a_letEnd :: .ref a_letBegin :: .ref a_sort :: .ref a_column :: .ref a_low :: .ref a_high :: .ref a_by :: .ref a_top :: .ref a_begins :: .ref a_ends :: .int v_hasScript :: .int v_scriptLets :: .int v_scriptQuestions :: .ref a_scriptCode :: .ref a_scriptLetBegin :: .ref a_scriptLetEnd :: .ref a_aSort :: .ref a_aColumn :: .ref a_aLow :: .ref a_aHigh :: .ref a_aBy :: .ref a_aTop :: .ref a_aBegin :: .ref a_anEnd :: .ref a_told :: .int v_toldCount :: .ref a_out :: .int v_outs :: .ref a_goals :: .ref a_withs :: .int v_goalCount :: .ref a_pile :: .ref a_letValue :: .ref a_one :: .ref a_two :: [])), (a_tape, .inl (gI G, 3000, .inl f_tape))] := by
  refine Det.of (cc := b_Mo_noiseAt) (maxL := 5) (ret := (some .int)) (by decide) rfl (Nat.le_of_ble_eq_true rfl) ?_
  intro p e s m args below meth c A ls hx hb hr hml hown hts hlocks hin hA hK hZ hP hD hS hl
  have hts : ∀ w ∈ wG, w.before args s = true := fun w h => hts w (List.mem_cons_of_mem _ h)
  have hown : s.vm.findClass R_Mo = some m.cls := hown
  have loop_30 : ∀ (n : Nat) (u3 : Int32) (k : Int32), 1 ≤ k.toInt → (z.toInt - k.toInt + 1).toNat < n → ∀ (H : Heap) (locs : List Loc) (ls : Array Slot), va_P G.1 classes [(h, .inr (12, .int v_p :: .int v_q :: .ref a_table :: .int v_rows :: .ref a_tape :: .int v_cells :: .ref a_budget :: .ref a_spent :: .ref a_text :: .int v_signs :: .ref a_kinds :: .ref a_values :: .int v_tokens :: .ref a_scriptKinds :: .ref a_scriptValues :: .int v_scriptTokens :: .int v_at :: .int v_place :: .int v_kind :: .int v_value :: .int v_depth :: .int v_asked :: .int v_lets :: .int v_questions :: .int v_statements :: .ref a_isTold :: .ref a_letOf :: .ref a_code :: .int v_size :: .ref a_letEnd :: .ref a_letBegin :: .ref a_sort :: .ref a_column :: .ref a_low :: .ref a_high :: .ref a_by :: .ref a_top :: .ref a_begins :: .ref a_ends :: .int v_hasScript :: .int v_scriptLets :: .int v_scriptQuestions :: .ref a_scriptCode :: .ref a_scriptLetBegin :: .ref a_scriptLetEnd :: .ref a_aSort :: .ref a_aColumn :: .ref a_aLow :: .ref a_aHigh :: .ref a_aBy :: .ref a_aTop :: .ref a_aBegin :: .ref a_anEnd :: .ref a_told :: .int v_toldCount :: .ref a_out :: .int v_outs :: .ref a_goals :: .ref a_withs :: .int v_goalCount :: .ref a_pile :: .ref a_letValue :: .ref a_one :: .ref a_two :: [])), (a_tape, .inl (gI G, 3000, .inl f_tape))] H → va_D A [(h, .inr (12, .int v_p :: .int v_q :: .ref a_table :: .int v_rows :: .ref a_tape :: .int v_cells :: .ref a_budget :: .ref a_spent :: .ref a_text :: .int v_signs :: .ref a_kinds :: .ref a_values :: .int v_tokens :: .ref a_scriptKinds :: .ref a_scriptValues :: .int v_scriptTokens :: .int v_at :: .int v_place :: .int v_kind :: .int v_value :: .int v_depth :: .int v_asked :: .int v_lets :: .int v_questions :: .int v_statements :: .ref a_isTold :: .ref a_letOf :: .ref a_code :: .int v_size :: .ref a_letEnd :: .ref a_letBegin :: .ref a_sort :: .ref a_column :: .ref a_low :: .ref a_high :: .ref a_by :: .ref a_top :: .ref a_begins :: .ref a_ends :: .int v_hasScript :: .int v_scriptLets :: .int v_scriptQuestions :: .ref a_scriptCode :: .ref a_scriptLetBegin :: .ref a_scriptLetEnd :: .ref a_aSort :: .ref a_aColumn :: .ref a_aLow :: .ref a_aHigh :: .ref a_aBy :: .ref a_aTop :: .ref a_aBegin :: .ref a_anEnd :: .ref a_told :: .int v_toldCount :: .ref a_out :: .int v_outs :: .ref a_goals :: .ref a_withs :: .int v_goalCount :: .ref a_pile :: .ref a_letValue :: .ref a_one :: .ref a_two :: [])), (a_tape, .inl (gI G, 3000, .inl f_tape))] → va_S A s.heap H locs → lv_has ls 5 [(4, .int k), (3, .int u3), (0, .ref h), (1, .int x), (2, .int z)] → W p l e (rmD 0) s m args below meth c H locs 0 0 (MQ below (ly_Q G A (some (.int (lp_Mo_noiseAt_30 v_p v_q f_tape x z n u3 k))) [(h, .inr (12, .int v_p :: .int v_q :: .ref a_table :: .int v_rows :: .ref a_tape :: .int v_cells :: .ref a_budget :: .ref a_spent :: .ref a_text :: .int v_signs :: .ref a_kinds :: .ref a_values :: .int v_tokens :: .ref a_scriptKinds :: .ref a_scriptValues :: .int v_scriptTokens :: .int v_at :: .int v_place :: .int v_kind :: .int v_value :: .int v_depth :: .int v_asked :: .int v_lets :: .int v_questions :: .int v_statements :: .ref a_isTold :: .ref a_letOf :: .ref a_code :: .int v_size :: .ref a_letEnd :: .ref a_letBegin :: .ref a_sort :: .ref a_column :: .ref a_low :: .ref a_high :: .ref a_by :: .ref a_top :: .ref a_begins :: .ref a_ends :: .int v_hasScript :: .int v_scriptLets :: .int v_scriptQuestions :: .ref a_scriptCode :: .ref a_scriptLetBegin :: .ref a_scriptLetEnd :: .ref a_aSort :: .ref a_aColumn :: .ref a_aLow :: .ref a_aHigh :: .ref a_aBy :: .ref a_aTop :: .ref a_aBegin :: .ref a_anEnd :: .ref a_told :: .int v_toldCount :: .ref a_out :: .int v_outs :: .ref a_goals :: .ref a_withs :: .int v_goalCount :: .ref a_pile :: .ref a_letValue :: .ref a_one :: .ref a_two :: [])), (a_tape, .inl (gI G, 3000, .inl f_tape))]) args s 0 0 A) (F0 m 30 ls []) := by
    intro n
    induction n with
    | zero => intro u3 k hn hmu; exact absurd hmu (Nat.not_lt_zero _)
    | succ n ih =>
      intro u3 k hn hmu H locs ls hP hD hS hl
      refine lv_iload hx hb d_Mo_noiseAt_30 (lv_at hl 0 rfl) ?_
      refine lv_iload_n hx hb d_Mo_noiseAt_32 rfl (lv_at hl 4 rfl) ?_
      refine lv_icmp_gt (tgt := 68) hx hb d_Mo_noiseAt_33 (by decide) (fun c1 => ?_) (fun c1 => ?_)
      · skip
        refine lv_iload_n hx hb d_Mo_noiseAt_68 rfl (lv_at hl 1 rfl) ?_
        refine lv_aload_n hx hb d_Mo_noiseAt_69 rfl (lv_at hl 2 rfl) ?_
        refine va_get (D := G.1) (ci := 12) (C := R_Mo) (T := F_Mo) (N := 64) (v := .int v_q) hx hb hts i_Mo hown hK hP 0 rfl rfl 1 (by decide) (hts (.fieldLink R_Mo 138 "PrivateQueriesModel" "q" "I") k_174) (fun _ h9 => h9) rfl d_Mo_noiseAt_70 ?_
        refine lv_aload_n hx hb d_Mo_noiseAt_73 rfl (lv_at hl 2 rfl) ?_
        refine va_get (D := G.1) (ci := 12) (C := R_Mo) (T := F_Mo) (N := 64) (v := .int v_q) hx hb hts i_Mo hown hK hP 0 rfl rfl 1 (by decide) (hts (.fieldLink R_Mo 138 "PrivateQueriesModel" "q" "I") k_174) (fun _ h9 => h9) rfl d_Mo_noiseAt_74 ?_
        refine lv_aload_n hx hb d_Mo_noiseAt_77 rfl (lv_at hl 2 rfl) ?_
        refine va_get (D := G.1) (ci := 12) (C := R_Mo) (T := F_Mo) (N := 64) (v := .int v_p) hx hb hts i_Mo hown hK hP 0 rfl rfl 0 (by decide) (hts (.fieldLink R_Mo 134 "PrivateQueriesModel" "p" "I") k_175) (fun _ h9 => h9) rfl d_Mo_noiseAt_78 ?_
        refine lv_isub hx hb d_Mo_noiseAt_81 ?_
        refine lv_imul hx hb d_Mo_noiseAt_82 ?_
        refine lv_aload_n hx hb d_Mo_noiseAt_83 rfl (lv_at hl 2 rfl) ?_
        refine va_get (D := G.1) (ci := 12) (C := R_Mo) (T := F_Mo) (N := 64) (v := .int v_p) hx hb hts i_Mo hown hK hP 0 rfl rfl 0 (by decide) (hts (.fieldLink R_Mo 134 "PrivateQueriesModel" "p" "I") k_175) (fun _ h9 => h9) rfl d_Mo_noiseAt_84 ?_
        refine lv_aload_n hx hb d_Mo_noiseAt_87 rfl (lv_at hl 2 rfl) ?_
        refine va_get (D := G.1) (ci := 12) (C := R_Mo) (T := F_Mo) (N := 64) (v := .int v_q) hx hb hts i_Mo hown hK hP 0 rfl rfl 1 (by decide) (hts (.fieldLink R_Mo 138 "PrivateQueriesModel" "q" "I") k_174) (fun _ h9 => h9) rfl d_Mo_noiseAt_88 ?_
        refine lv_imul hx hb d_Mo_noiseAt_91 ?_
        refine lv_iadd hx hb d_Mo_noiseAt_92 ?_
        refine lv_icmp_ge (tgt := 101) hx hb d_Mo_noiseAt_93 (by decide) (fun c2 => ?_) (fun c2 => ?_)
        · skip
          refine lv_iload hx hb d_Mo_noiseAt_101 (lv_at hl 0 rfl) ?_
          refine lv_ineg hx hb d_Mo_noiseAt_103 ?_
          exact ly_iret hx hb hr hlocks hP hD hS d_Mo_noiseAt_104 (by rw [lp_Mo_noiseAt_30, if_pos c1, if_pos c2]) rfl
        refine lv_iload hx hb d_Mo_noiseAt_96 (lv_at hl 0 rfl) ?_
        refine lv_goto (tgt := 104) hx hb d_Mo_noiseAt_98 (by decide) ?_
        exact ly_iret hx hb hr hlocks hP hD hS d_Mo_noiseAt_104 (by rw [lp_Mo_noiseAt_30, if_pos c1, if_neg c2]) rfl
      refine lv_aload_n hx hb d_Mo_noiseAt_36 rfl (lv_at hl 2 rfl) ?_
      refine va_get (D := G.1) (ci := 12) (C := R_Mo) (T := F_Mo) (N := 64) (v := .ref a_tape) hx hb hts i_Mo hown hK hP 0 rfl rfl 4 (by decide) (hts (.fieldLink R_Mo 13 "PrivateQueriesModel" "tape" "[I") k_187) (fun _ h9 => h9) rfl d_Mo_noiseAt_37 ?_
      refine lv_iload_n hx hb d_Mo_noiseAt_40 rfl (lv_at hl 3 rfl) ?_
      refine lv_iload hx hb d_Mo_noiseAt_41 (lv_at hl 0 rfl) ?_
      refine lv_iadd hx hb d_Mo_noiseAt_43 ?_
      refine va_iald hx hb hK hP 1 0 rfl rfl (na_in h0 h1 hn c1) d_Mo_noiseAt_44 ?_
      refine lv_aload_n hx hb d_Mo_noiseAt_45 rfl (lv_at hl 2 rfl) ?_
      refine va_get (D := G.1) (ci := 12) (C := R_Mo) (T := F_Mo) (N := 64) (v := .int v_p) hx hb hts i_Mo hown hK hP 0 rfl rfl 0 (by decide) (hts (.fieldLink R_Mo 134 "PrivateQueriesModel" "p" "I") k_175) (fun _ h9 => h9) rfl d_Mo_noiseAt_46 ?_
      refine lv_aload_n hx hb d_Mo_noiseAt_49 rfl (lv_at hl 2 rfl) ?_
      refine va_get (D := G.1) (ci := 12) (C := R_Mo) (T := F_Mo) (N := 64) (v := .int v_p) hx hb hts i_Mo hown hK hP 0 rfl rfl 0 (by decide) (hts (.fieldLink R_Mo 134 "PrivateQueriesModel" "p" "I") k_175) (fun _ h9 => h9) rfl d_Mo_noiseAt_50 ?_
      refine lv_aload_n hx hb d_Mo_noiseAt_53 rfl (lv_at hl 2 rfl) ?_
      refine va_get (D := G.1) (ci := 12) (C := R_Mo) (T := F_Mo) (N := 64) (v := .int v_q) hx hb hts i_Mo hown hK hP 0 rfl rfl 1 (by decide) (hts (.fieldLink R_Mo 138 "PrivateQueriesModel" "q" "I") k_174) (fun _ h9 => h9) rfl d_Mo_noiseAt_54 ?_
      refine lv_iadd hx hb d_Mo_noiseAt_57 ?_
      refine lv_imul hx hb d_Mo_noiseAt_58 ?_
      refine lv_icmp_ge (tgt := 68) hx hb d_Mo_noiseAt_59 (by decide) (fun c3 => ?_) (fun c3 => ?_)
      · skip
        refine lv_iload_n hx hb d_Mo_noiseAt_68 rfl (lv_at hl 1 rfl) ?_
        refine lv_aload_n hx hb d_Mo_noiseAt_69 rfl (lv_at hl 2 rfl) ?_
        refine va_get (D := G.1) (ci := 12) (C := R_Mo) (T := F_Mo) (N := 64) (v := .int v_q) hx hb hts i_Mo hown hK hP 0 rfl rfl 1 (by decide) (hts (.fieldLink R_Mo 138 "PrivateQueriesModel" "q" "I") k_174) (fun _ h9 => h9) rfl d_Mo_noiseAt_70 ?_
        refine lv_aload_n hx hb d_Mo_noiseAt_73 rfl (lv_at hl 2 rfl) ?_
        refine va_get (D := G.1) (ci := 12) (C := R_Mo) (T := F_Mo) (N := 64) (v := .int v_q) hx hb hts i_Mo hown hK hP 0 rfl rfl 1 (by decide) (hts (.fieldLink R_Mo 138 "PrivateQueriesModel" "q" "I") k_174) (fun _ h9 => h9) rfl d_Mo_noiseAt_74 ?_
        refine lv_aload_n hx hb d_Mo_noiseAt_77 rfl (lv_at hl 2 rfl) ?_
        refine va_get (D := G.1) (ci := 12) (C := R_Mo) (T := F_Mo) (N := 64) (v := .int v_p) hx hb hts i_Mo hown hK hP 0 rfl rfl 0 (by decide) (hts (.fieldLink R_Mo 134 "PrivateQueriesModel" "p" "I") k_175) (fun _ h9 => h9) rfl d_Mo_noiseAt_78 ?_
        refine lv_isub hx hb d_Mo_noiseAt_81 ?_
        refine lv_imul hx hb d_Mo_noiseAt_82 ?_
        refine lv_aload_n hx hb d_Mo_noiseAt_83 rfl (lv_at hl 2 rfl) ?_
        refine va_get (D := G.1) (ci := 12) (C := R_Mo) (T := F_Mo) (N := 64) (v := .int v_p) hx hb hts i_Mo hown hK hP 0 rfl rfl 0 (by decide) (hts (.fieldLink R_Mo 134 "PrivateQueriesModel" "p" "I") k_175) (fun _ h9 => h9) rfl d_Mo_noiseAt_84 ?_
        refine lv_aload_n hx hb d_Mo_noiseAt_87 rfl (lv_at hl 2 rfl) ?_
        refine va_get (D := G.1) (ci := 12) (C := R_Mo) (T := F_Mo) (N := 64) (v := .int v_q) hx hb hts i_Mo hown hK hP 0 rfl rfl 1 (by decide) (hts (.fieldLink R_Mo 138 "PrivateQueriesModel" "q" "I") k_174) (fun _ h9 => h9) rfl d_Mo_noiseAt_88 ?_
        refine lv_imul hx hb d_Mo_noiseAt_91 ?_
        refine lv_iadd hx hb d_Mo_noiseAt_92 ?_
        refine lv_icmp_ge (tgt := 101) hx hb d_Mo_noiseAt_93 (by decide) (fun c4 => ?_) (fun c4 => ?_)
        · skip
          refine lv_iload hx hb d_Mo_noiseAt_101 (lv_at hl 0 rfl) ?_
          refine lv_ineg hx hb d_Mo_noiseAt_103 ?_
          exact ly_iret hx hb hr hlocks hP hD hS d_Mo_noiseAt_104 (by rw [lp_Mo_noiseAt_30, if_neg c1, if_pos c3, if_pos c4]) rfl
        refine lv_iload hx hb d_Mo_noiseAt_96 (lv_at hl 0 rfl) ?_
        refine lv_goto (tgt := 104) hx hb d_Mo_noiseAt_98 (by decide) ?_
        exact ly_iret hx hb hr hlocks hP hD hS d_Mo_noiseAt_104 (by rw [lp_Mo_noiseAt_30, if_neg c1, if_pos c3, if_neg c4]) rfl
      refine lv_iinc (v := k + 1) (lv' := [(4, .int (k + 1)), (3, .int u3), (0, .ref h), (1, .int x), (2, .int z)]) hx hb d_Mo_noiseAt_62 hl (k := 0) rfl (by rfl) (by decide) rfl (fun ls hl => ?_)
      refine lv_goto (tgt := 30) hx hb d_Mo_noiseAt_65 (by decide) ?_
      have e_ : (lp_Mo_noiseAt_30 v_p v_q f_tape x z (n + 1) u3 k) = (lp_Mo_noiseAt_30 v_p v_q f_tape x z n u3 (k + 1)) := (by rw [lp_Mo_noiseAt_30, if_neg c1, if_neg c3])
      rw [e_]
      exact ih u3 (k + 1) (na_k hn c1 h3) (mu_step (mu_up2 c1 h3) hmu) _ _ _ hP hD hS (lv_sub hl [0, 1, 2, 3, 4] rfl)
  have hl : lv_has ls 5 [(0, .ref h), (1, .int x), (2, .int z)] := hl
  refine lv_aload_n hx hb d_Mo_noiseAt_0 rfl (lv_at hl 0 rfl) ?_
  refine va_get (D := G.1) (ci := 12) (C := R_Mo) (T := F_Mo) (N := 64) (v := .ref a_tape) hx hb hts i_Mo hown hK hP 0 rfl rfl 4 (by decide) (hts (.fieldLink R_Mo 13 "PrivateQueriesModel" "tape" "[I") k_187) (fun _ h9 => h9) rfl d_Mo_noiseAt_1 ?_
  refine lv_iload_n hx hb d_Mo_noiseAt_4 rfl (lv_at hl 1 rfl) ?_
  refine va_iald hx hb hK hP 1 0 rfl rfl (ly_mk h0 (by omega)) d_Mo_noiseAt_5 ?_
  refine lv_istore_n (lv' := [(3, .int (f_tape x.toNatClampNeg)), (0, .ref h), (1, .int x), (2, .int z)]) hx hb d_Mo_noiseAt_6 rfl hl (by decide) rfl (fun ls hl => ?_)
  refine lv_iload_n hx hb d_Mo_noiseAt_7 rfl (lv_at hl 0 rfl) ?_
  refine lv_aload_n hx hb d_Mo_noiseAt_8 rfl (lv_at hl 1 rfl) ?_
  refine va_get (D := G.1) (ci := 12) (C := R_Mo) (T := F_Mo) (N := 64) (v := .int v_q) hx hb hts i_Mo hown hK hP 0 rfl rfl 1 (by decide) (hts (.fieldLink R_Mo 138 "PrivateQueriesModel" "q" "I") k_174) (fun _ h9 => h9) rfl d_Mo_noiseAt_9 ?_
  refine lv_aload_n hx hb d_Mo_noiseAt_12 rfl (lv_at hl 1 rfl) ?_
  refine va_get (D := G.1) (ci := 12) (C := R_Mo) (T := F_Mo) (N := 64) (v := .int v_q) hx hb hts i_Mo hown hK hP 0 rfl rfl 1 (by decide) (hts (.fieldLink R_Mo 138 "PrivateQueriesModel" "q" "I") k_174) (fun _ h9 => h9) rfl d_Mo_noiseAt_13 ?_
  refine lv_aload_n hx hb d_Mo_noiseAt_16 rfl (lv_at hl 1 rfl) ?_
  refine va_get (D := G.1) (ci := 12) (C := R_Mo) (T := F_Mo) (N := 64) (v := .int v_p) hx hb hts i_Mo hown hK hP 0 rfl rfl 0 (by decide) (hts (.fieldLink R_Mo 134 "PrivateQueriesModel" "p" "I") k_175) (fun _ h9 => h9) rfl d_Mo_noiseAt_17 ?_
  refine lv_isub hx hb d_Mo_noiseAt_20 ?_
  refine lv_imul hx hb d_Mo_noiseAt_21 ?_
  refine lv_icmp_ge (tgt := 27) hx hb d_Mo_noiseAt_22 (by decide) (fun c1 => ?_) (fun c1 => ?_)
  · skip
    refine lv_iconst (v := 1) hx hb d_Mo_noiseAt_27 (by decide) ?_
    refine lv_istore (lv' := [(4, .int 1), (3, .int (f_tape x.toNatClampNeg)), (0, .ref h), (1, .int x), (2, .int z)]) hx hb d_Mo_noiseAt_28 hl (by decide) rfl (fun ls hl => ?_)
    have e_ : (s_Mo_noiseAt v_p v_q f_tape x z) = (lp_Mo_noiseAt_30 v_p v_q f_tape x z (((z.toInt - (1 : Int32).toInt + 1).toNat) + 1) (f_tape x.toNatClampNeg) (1 : Int32)) := (by rw [s_Mo_noiseAt, if_pos c1])
    rw [e_]
    exact loop_30 (((z.toInt - (1 : Int32).toInt + 1).toNat) + 1) (f_tape x.toNatClampNeg) (1 : Int32) (by decide) (Nat.lt_succ_self _) _ _ _ hP hD hS (lv_sub hl [0, 1, 2, 3, 4] rfl)
  refine lv_iconst (v := 0) hx hb d_Mo_noiseAt_25 (by decide) ?_
  exact ly_iret hx hb hr hlocks hP hD hS d_Mo_noiseAt_26 (by rw [s_Mo_noiseAt, if_neg c1]) rfl

set_option maxHeartbeats 4000000 in
set_option maxRecDepth 100000 in
theorem c_Mo_told (l : Launch) (G : GG) (h : Nat) (a_table : Nat) (a_tape : Nat) (a_budget : Nat) (a_spent : Nat) (a_text : Nat) (a_kinds : Nat) (a_values : Nat) (a_scriptKinds : Nat) (a_scriptValues : Nat) (a_isTold : Nat) (a_letOf : Nat) (a_code : Nat) (a_letEnd : Nat) (a_letBegin : Nat) (a_sort : Nat) (a_column : Nat) (a_low : Nat) (a_high : Nat) (a_by : Nat) (a_top : Nat) (a_begins : Nat) (a_ends : Nat) (a_scriptCode : Nat) (a_scriptLetBegin : Nat) (a_scriptLetEnd : Nat) (a_aSort : Nat) (a_aColumn : Nat) (a_aLow : Nat) (a_aHigh : Nat) (a_aBy : Nat) (a_aTop : Nat) (a_aBegin : Nat) (a_anEnd : Nat) (a_told : Nat) (a_out : Nat) (a_goals : Nat) (a_withs : Nat) (a_pile : Nat) (a_letValue : Nat) (a_one : Nat) (a_two : Nat) (v_p : Int32) (v_q : Int32) (v_rows : Int32) (v_cells : Int32) (v_signs : Int32) (v_tokens : Int32) (v_scriptTokens : Int32) (v_at : Int32) (v_place : Int32) (v_kind : Int32) (v_value : Int32) (v_depth : Int32) (v_asked : Int32) (v_lets : Int32) (v_questions : Int32) (v_statements : Int32) (v_size : Int32) (v_hasScript : Int32) (v_scriptLets : Int32) (v_scriptQuestions : Int32) (f_told : Nat → Int32) (v_toldCount : Int32) (v_outs : Int32) (v_goalCount : Int32) (x : Int32) (hz_v_toldCount : up v_toldCount 240) : Det l G y_Mo_told w_Mo_told (rmD 1) 0 0 [.ref h, .int x] [(h, .inr (12, .int v_p :: .int v_q :: .ref a_table :: .int v_rows :: .ref a_tape :: .int v_cells :: .ref a_budget :: .ref a_spent :: .ref a_text :: .int v_signs :: .ref a_kinds :: .ref a_values :: .int v_tokens :: .ref a_scriptKinds :: .ref a_scriptValues :: .int v_scriptTokens :: .int v_at :: .int v_place :: .int v_kind :: .int v_value :: .int v_depth :: .int v_asked :: .int v_lets :: .int v_questions :: .int v_statements :: .ref a_isTold :: .ref a_letOf :: .ref a_code :: .int v_size :: .ref a_letEnd :: .ref a_letBegin :: .ref a_sort :: .ref a_column :: .ref a_low :: .ref a_high :: .ref a_by :: .ref a_top :: .ref a_begins :: .ref a_ends :: .int v_hasScript :: .int v_scriptLets :: .int v_scriptQuestions :: .ref a_scriptCode :: .ref a_scriptLetBegin :: .ref a_scriptLetEnd :: .ref a_aSort :: .ref a_aColumn :: .ref a_aLow :: .ref a_aHigh :: .ref a_aBy :: .ref a_aTop :: .ref a_aBegin :: .ref a_anEnd :: .ref a_told :: .int v_toldCount :: .ref a_out :: .int v_outs :: .ref a_goals :: .ref a_withs :: .int v_goalCount :: .ref a_pile :: .ref a_letValue :: .ref a_one :: .ref a_two :: [])), (a_told, .inl (gI G, 240, .inl f_told))] (some (.int (s_Mo_told f_told v_toldCount x))) [(h, .inr (12, .int v_p :: .int v_q :: .ref a_table :: .int v_rows :: .ref a_tape :: .int v_cells :: .ref a_budget :: .ref a_spent :: .ref a_text :: .int v_signs :: .ref a_kinds :: .ref a_values :: .int v_tokens :: .ref a_scriptKinds :: .ref a_scriptValues :: .int v_scriptTokens :: .int v_at :: .int v_place :: .int v_kind :: .int v_value :: .int v_depth :: .int v_asked :: .int v_lets :: .int v_questions :: .int v_statements :: .ref a_isTold :: .ref a_letOf :: .ref a_code :: .int v_size :: .ref a_letEnd :: .ref a_letBegin :: .ref a_sort :: .ref a_column :: .ref a_low :: .ref a_high :: .ref a_by :: .ref a_top :: .ref a_begins :: .ref a_ends :: .int v_hasScript :: .int v_scriptLets :: .int v_scriptQuestions :: .ref a_scriptCode :: .ref a_scriptLetBegin :: .ref a_scriptLetEnd :: .ref a_aSort :: .ref a_aColumn :: .ref a_aLow :: .ref a_aHigh :: .ref a_aBy :: .ref a_aTop :: .ref a_aBegin :: .ref a_anEnd :: .ref a_told :: .int v_toldCount :: .ref a_out :: .int v_outs :: .ref a_goals :: .ref a_withs :: .int v_goalCount :: .ref a_pile :: .ref a_letValue :: .ref a_one :: .ref a_two :: [])), (a_told, .inl (gI G, 240, .inl f_told))] := by
  refine Det.of (cc := b_Mo_told) (maxL := 2) (ret := (some .int)) (by decide) rfl (Nat.le_of_ble_eq_true rfl) ?_
  intro p e s m args below meth c A ls hx hb hr hml hown hts hlocks hin hA hK hZ hP hD hS hl
  have hts : ∀ w ∈ wG, w.before args s = true := fun w h => hts w (List.mem_cons_of_mem _ h)
  have hown : s.vm.findClass R_Mo = some m.cls := hown
  have hl : lv_has ls 2 [(0, .ref h), (1, .int x)] := hl
  refine lv_iload_n hx hb d_Mo_told_0 rfl (lv_at hl 1 rfl) ?_
  refine lv_iconst (v := 0) hx hb d_Mo_told_1 (by decide) ?_
  refine lv_aload_n hx hb d_Mo_told_2 rfl (lv_at hl 0 rfl) ?_
  refine va_get (D := G.1) (ci := 12) (C := R_Mo) (T := F_Mo) (N := 64) (v := .int v_toldCount) hx hb hts i_Mo hown hK hP 0 rfl rfl 54 (by decide) (hts (.fieldLink R_Mo 164 "PrivateQueriesModel" "toldCount" "I") k_180) (fun _ h9 => h9) rfl d_Mo_told_3 ?_
  refine lv_iconst (v := 1) hx hb d_Mo_told_6 (by decide) ?_
  refine lv_isub hx hb d_Mo_told_7 ?_
  obtain ⟨r1, hr1⟩ : ∃ r, (s_Mo_in x 0 (v_toldCount - 1)) = r := ⟨_, rfl⟩
  have hC_r1 := (c_Mo_in l G x 0 (v_toldCount - 1))
  rw [hr1] at hC_r1
  have hf_r1_1 : isB r1 := by rw [← hr1]; exact z_Mo_in
  refine ly_callS (rest := []) (wf := [(h, .inr (12, .int v_p :: .int v_q :: .ref a_table :: .int v_rows :: .ref a_tape :: .int v_cells :: .ref a_budget :: .ref a_spent :: .ref a_text :: .int v_signs :: .ref a_kinds :: .ref a_values :: .int v_tokens :: .ref a_scriptKinds :: .ref a_scriptValues :: .int v_scriptTokens :: .int v_at :: .int v_place :: .int v_kind :: .int v_value :: .int v_depth :: .int v_asked :: .int v_lets :: .int v_questions :: .int v_statements :: .ref a_isTold :: .ref a_letOf :: .ref a_code :: .int v_size :: .ref a_letEnd :: .ref a_letBegin :: .ref a_sort :: .ref a_column :: .ref a_low :: .ref a_high :: .ref a_by :: .ref a_top :: .ref a_begins :: .ref a_ends :: .int v_hasScript :: .int v_scriptLets :: .int v_scriptQuestions :: .ref a_scriptCode :: .ref a_scriptLetBegin :: .ref a_scriptLetEnd :: .ref a_aSort :: .ref a_aColumn :: .ref a_aLow :: .ref a_aHigh :: .ref a_aBy :: .ref a_aTop :: .ref a_aBegin :: .ref a_anEnd :: .ref a_told :: .int v_toldCount :: .ref a_out :: .int v_outs :: .ref a_goals :: .ref a_withs :: .int v_goalCount :: .ref a_pile :: .ref a_letValue :: .ref a_one :: .ref a_two :: [])), (a_told, .inl (gI G, 240, .inl f_told))]) ⟨hx, hb, hml, hown, hts⟩ hA hK hZ hP hD hS hC_r1 (cwS 3 hts g_Mo_144 rfl rfl rfl (by decide +kernel) ⟨Nat.le_of_ble_eq_true rfl, Nat.le_of_ble_eq_true rfl⟩) [] rfl (by decide) rfl rfl rfl hl.1 rfl (Nat.le_of_ble_eq_true rfl) d_Mo_told_8 ⟨Nat.le_of_ble_eq_true rfl, Nat.le_of_ble_eq_true rfl⟩ (st1 := [.int r1]) (c1 := 0) (s1 := 0) rfl rfl rfl (fun H locs hP hD hS => ?_)
  refine lv_if_eq (tgt := 23) hx hb d_Mo_told_11 (by decide) (fun c1 => ?_) (fun c1 => ?_)
  · skip
    refine lv_iconst (v := -1) hx hb d_Mo_told_23 (by decide) ?_
    exact ly_iret hx hb hr hlocks hP hD hS d_Mo_told_24 (by rw [s_Mo_told] <;> simp only [hr1] <;> rw [if_pos c1]) rfl
  refine lv_aload_n hx hb d_Mo_told_14 rfl (lv_at hl 0 rfl) ?_
  refine va_get (D := G.1) (ci := 12) (C := R_Mo) (T := F_Mo) (N := 64) (v := .ref a_told) hx hb hts i_Mo hown hK hP 0 rfl rfl 53 (by decide) (hts (.fieldLink R_Mo 110 "PrivateQueriesModel" "told" "[I") k_323) (fun _ h9 => h9) rfl d_Mo_told_15 ?_
  refine lv_iload_n hx hb d_Mo_told_18 rfl (lv_at hl 1 rfl) ?_
  refine va_iald hx hb hK hP 1 0 rfl rfl (lst_in hz_v_toldCount (by decide) (by rw [hr1]; exact c1)) d_Mo_told_19 ?_
  refine lv_goto (tgt := 24) hx hb d_Mo_told_20 (by decide) ?_
  exact ly_iret hx hb hr hlocks hP hD hS d_Mo_told_24 (by rw [s_Mo_told] <;> simp only [hr1] <;> rw [if_neg c1]) rfl

theorem ns_4 {z : Int32} (h : ¬ s_Mo_in z 0 30 = 0) : 0 ≤ z.toInt ∧ z.toInt ≤ 1000 := by
  have h1 := mo_in h
  rw [i0, show (30 : Int32).toInt = 30 by decide] at h1
  omega
set_option maxHeartbeats 4000000 in
set_option maxRecDepth 100000 in
theorem c_Mo_noise (l : Launch) (G : GG) (h : Nat) (a_table : Nat) (a_tape : Nat) (a_budget : Nat) (a_spent : Nat) (a_text : Nat) (a_kinds : Nat) (a_values : Nat) (a_scriptKinds : Nat) (a_scriptValues : Nat) (a_isTold : Nat) (a_letOf : Nat) (a_code : Nat) (a_letEnd : Nat) (a_letBegin : Nat) (a_sort : Nat) (a_column : Nat) (a_low : Nat) (a_high : Nat) (a_by : Nat) (a_top : Nat) (a_begins : Nat) (a_ends : Nat) (a_scriptCode : Nat) (a_scriptLetBegin : Nat) (a_scriptLetEnd : Nat) (a_aSort : Nat) (a_aColumn : Nat) (a_aLow : Nat) (a_aHigh : Nat) (a_aBy : Nat) (a_aTop : Nat) (a_aBegin : Nat) (a_anEnd : Nat) (a_told : Nat) (a_out : Nat) (a_goals : Nat) (a_withs : Nat) (a_pile : Nat) (a_letValue : Nat) (a_one : Nat) (a_two : Nat) (v_p : Int32) (v_q : Int32) (v_rows : Int32) (f_tape : Nat → Int32) (v_cells : Int32) (v_signs : Int32) (v_tokens : Int32) (v_scriptTokens : Int32) (v_at : Int32) (v_place : Int32) (v_kind : Int32) (v_value : Int32) (v_depth : Int32) (v_asked : Int32) (v_lets : Int32) (v_questions : Int32) (v_statements : Int32) (v_size : Int32) (v_hasScript : Int32) (v_scriptLets : Int32) (v_scriptQuestions : Int32) (v_toldCount : Int32) (v_outs : Int32) (v_goalCount : Int32) (x : Int32) (z : Int32) (hz_v_cells : up v_cells 3000) : Det l G y_Mo_noise w_Mo_noise (rmD 1) 0 0 [.ref h, .int x, .int z] [(h, .inr (12, .int v_p :: .int v_q :: .ref a_table :: .int v_rows :: .ref a_tape :: .int v_cells :: .ref a_budget :: .ref a_spent :: .ref a_text :: .int v_signs :: .ref a_kinds :: .ref a_values :: .int v_tokens :: .ref a_scriptKinds :: .ref a_scriptValues :: .int v_scriptTokens :: .int v_at :: .int v_place :: .int v_kind :: .int v_value :: .int v_depth :: .int v_asked :: .int v_lets :: .int v_questions :: .int v_statements :: .ref a_isTold :: .ref a_letOf :: .ref a_code :: .int v_size :: .ref a_letEnd :: .ref a_letBegin :: .ref a_sort :: .ref a_column :: .ref a_low :: .ref a_high :: .ref a_by :: .ref a_top :: .ref a_begins :: .ref a_ends :: .int v_hasScript :: .int v_scriptLets :: .int v_scriptQuestions :: .ref a_scriptCode :: .ref a_scriptLetBegin :: .ref a_scriptLetEnd :: .ref a_aSort :: .ref a_aColumn :: .ref a_aLow :: .ref a_aHigh :: .ref a_aBy :: .ref a_aTop :: .ref a_aBegin :: .ref a_anEnd :: .ref a_told :: .int v_toldCount :: .ref a_out :: .int v_outs :: .ref a_goals :: .ref a_withs :: .int v_goalCount :: .ref a_pile :: .ref a_letValue :: .ref a_one :: .ref a_two :: [])), (a_tape, .inl (gI G, 3000, .inl f_tape))] (some (.int (s_Mo_noise v_p v_q f_tape v_cells x z))) [(h, .inr (12, .int v_p :: .int v_q :: .ref a_table :: .int v_rows :: .ref a_tape :: .int v_cells :: .ref a_budget :: .ref a_spent :: .ref a_text :: .int v_signs :: .ref a_kinds :: .ref a_values :: .int v_tokens :: .ref a_scriptKinds :: .ref a_scriptValues :: .int v_scriptTokens :: .int v_at :: .int v_place :: .int v_kind :: .int v_value :: .int v_depth :: .int v_asked :: .int v_lets :: .int v_questions :: .int v_statements :: .ref a_isTold :: .ref a_letOf :: .ref a_code :: .int v_size :: .ref a_letEnd :: .ref a_letBegin :: .ref a_sort :: .ref a_column :: .ref a_low :: .ref a_high :: .ref a_by :: .ref a_top :: .ref a_begins :: .ref a_ends :: .int v_hasScript :: .int v_scriptLets :: .int v_scriptQuestions :: .ref a_scriptCode :: .ref a_scriptLetBegin :: .ref a_scriptLetEnd :: .ref a_aSort :: .ref a_aColumn :: .ref a_aLow :: .ref a_aHigh :: .ref a_aBy :: .ref a_aTop :: .ref a_aBegin :: .ref a_anEnd :: .ref a_told :: .int v_toldCount :: .ref a_out :: .int v_outs :: .ref a_goals :: .ref a_withs :: .int v_goalCount :: .ref a_pile :: .ref a_letValue :: .ref a_one :: .ref a_two :: [])), (a_tape, .inl (gI G, 3000, .inl f_tape))] := by
  refine Det.of (cc := b_Mo_noise) (maxL := 3) (ret := (some .int)) (by decide) rfl (Nat.le_of_ble_eq_true rfl) ?_
  intro p e s m args below meth c A ls hx hb hr hml hown hts hlocks hin hA hK hZ hP hD hS hl
  have hts : ∀ w ∈ wG, w.before args s = true := fun w h => hts w (List.mem_cons_of_mem _ h)
  have hown : s.vm.findClass R_Mo = some m.cls := hown
  have hl : lv_has ls 3 [(0, .ref h), (1, .int x), (2, .int z)] := hl
  refine lv_iload_n hx hb d_Mo_noise_0 rfl (lv_at hl 2 rfl) ?_
  refine lv_iconst (v := 0) hx hb d_Mo_noise_1 (by decide) ?_
  refine lv_bipush (v := 30) hx hb d_Mo_noise_2 (by decide) ?_
  obtain ⟨r1, hr1⟩ : ∃ r, (s_Mo_in z 0 30) = r := ⟨_, rfl⟩
  have hC_r1 := (c_Mo_in l G z 0 30)
  rw [hr1] at hC_r1
  have hf_r1_1 : isB r1 := by rw [← hr1]; exact z_Mo_in
  refine ly_callS (rest := []) (wf := [(h, .inr (12, .int v_p :: .int v_q :: .ref a_table :: .int v_rows :: .ref a_tape :: .int v_cells :: .ref a_budget :: .ref a_spent :: .ref a_text :: .int v_signs :: .ref a_kinds :: .ref a_values :: .int v_tokens :: .ref a_scriptKinds :: .ref a_scriptValues :: .int v_scriptTokens :: .int v_at :: .int v_place :: .int v_kind :: .int v_value :: .int v_depth :: .int v_asked :: .int v_lets :: .int v_questions :: .int v_statements :: .ref a_isTold :: .ref a_letOf :: .ref a_code :: .int v_size :: .ref a_letEnd :: .ref a_letBegin :: .ref a_sort :: .ref a_column :: .ref a_low :: .ref a_high :: .ref a_by :: .ref a_top :: .ref a_begins :: .ref a_ends :: .int v_hasScript :: .int v_scriptLets :: .int v_scriptQuestions :: .ref a_scriptCode :: .ref a_scriptLetBegin :: .ref a_scriptLetEnd :: .ref a_aSort :: .ref a_aColumn :: .ref a_aLow :: .ref a_aHigh :: .ref a_aBy :: .ref a_aTop :: .ref a_aBegin :: .ref a_anEnd :: .ref a_told :: .int v_toldCount :: .ref a_out :: .int v_outs :: .ref a_goals :: .ref a_withs :: .int v_goalCount :: .ref a_pile :: .ref a_letValue :: .ref a_one :: .ref a_two :: [])), (a_tape, .inl (gI G, 3000, .inl f_tape))]) ⟨hx, hb, hml, hown, hts⟩ hA hK hZ hP hD hS hC_r1 (cwS 3 hts g_Mo_144 rfl rfl rfl (by decide +kernel) ⟨Nat.le_of_ble_eq_true rfl, Nat.le_of_ble_eq_true rfl⟩) [] rfl (by decide) rfl rfl rfl hl.1 rfl (Nat.le_of_ble_eq_true rfl) d_Mo_noise_4 ⟨Nat.le_of_ble_eq_true rfl, Nat.le_of_ble_eq_true rfl⟩ (st1 := [.int r1]) (c1 := 0) (s1 := 0) rfl rfl rfl (fun H locs hP hD hS => ?_)
  refine lv_if_eq (tgt := 14) hx hb d_Mo_noise_7 (by decide) (fun c1 => ?_) (fun c1 => ?_)
  · skip
    refine lv_bipush (v := (-102)) hx hb d_Mo_noise_14 (by decide) ?_
    exact ly_iret hx hb hr hlocks hP hD hS d_Mo_noise_16 (by rw [s_Mo_noise] <;> simp only [hr1] <;> rw [if_pos c1]) rfl
  refine lv_iload_n hx hb d_Mo_noise_10 rfl (lv_at hl 1 rfl) ?_
  refine lv_if_ge (tgt := 17) hx hb d_Mo_noise_11 (by decide) (fun c2 => ?_) (fun c2 => ?_)
  · skip
    refine lv_iload_n hx hb d_Mo_noise_17 rfl (lv_at hl 1 rfl) ?_
    refine lv_i2l (v := x.toInt64) hx hb d_Mo_noise_18 rfl ?_
    refine lv_iload_n hx hb d_Mo_noise_19 rfl (lv_at hl 2 rfl) ?_
    refine lv_i2l (v := z.toInt64) hx hb d_Mo_noise_20 rfl ?_
    refine lv_ladd hx hb d_Mo_noise_21 ?_
    refine lv_lconst (v := 1) hx hb d_Mo_noise_22 (by decide) ?_
    refine lv_ladd hx hb d_Mo_noise_23 ?_
    refine lv_aload_n hx hb d_Mo_noise_24 rfl (lv_at hl 0 rfl) ?_
    refine va_get (D := G.1) (ci := 12) (C := R_Mo) (T := F_Mo) (N := 64) (v := .int v_cells) hx hb hts i_Mo hown hK hP 0 rfl rfl 5 (by decide) (hts (.fieldLink R_Mo 152 "PrivateQueriesModel" "cells" "I") k_176) (fun _ h9 => h9) rfl d_Mo_noise_25 ?_
    refine lv_i2l (v := v_cells.toInt64) hx hb d_Mo_noise_28 rfl ?_
    refine W.lcmp hx hb d_Mo_noise_29 ?_
    refine lv_if_le (tgt := 38) hx hb d_Mo_noise_30 (by decide) (fun c3 => ?_) (fun c3 => ?_)
    · skip
      refine lv_aload_n hx hb d_Mo_noise_38 rfl (lv_at hl 0 rfl) ?_
      refine lv_iload_n hx hb d_Mo_noise_39 rfl (lv_at hl 1 rfl) ?_
      refine lv_iload_n hx hb d_Mo_noise_40 rfl (lv_at hl 2 rfl) ?_
      obtain ⟨r2, hr2⟩ : ∃ r, (s_Mo_noiseAt v_p v_q f_tape x z) = r := ⟨_, rfl⟩
      have hC_r2 := (c_Mo_noiseAt l G h a_table a_tape a_budget a_spent a_text a_kinds a_values a_scriptKinds a_scriptValues a_isTold a_letOf a_code a_letEnd a_letBegin a_sort a_column a_low a_high a_by a_top a_begins a_ends a_scriptCode a_scriptLetBegin a_scriptLetEnd a_aSort a_aColumn a_aLow a_aHigh a_aBy a_aTop a_aBegin a_anEnd a_told a_out a_goals a_withs a_pile a_letValue a_one a_two v_p v_q v_rows f_tape v_cells v_signs v_tokens v_scriptTokens v_at v_place v_kind v_value v_depth v_asked v_lets v_questions v_statements v_size v_hasScript v_scriptLets v_scriptQuestions v_toldCount v_outs v_goalCount x z (ly_lo9 c2) (Int.le_trans (ns_in (ly_lo9 c2) (by rw [hr1]; exact c1) c3) hz_v_cells.2) (ns_4 (by rw [hr1]; exact c1)).1 (ns_4 (by rw [hr1]; exact c1)).2)
      rw [hr2] at hC_r2
      refine ly_callV (rest := []) (wf := [(h, .inr (12, .int v_p :: .int v_q :: .ref a_table :: .int v_rows :: .ref a_tape :: .int v_cells :: .ref a_budget :: .ref a_spent :: .ref a_text :: .int v_signs :: .ref a_kinds :: .ref a_values :: .int v_tokens :: .ref a_scriptKinds :: .ref a_scriptValues :: .int v_scriptTokens :: .int v_at :: .int v_place :: .int v_kind :: .int v_value :: .int v_depth :: .int v_asked :: .int v_lets :: .int v_questions :: .int v_statements :: .ref a_isTold :: .ref a_letOf :: .ref a_code :: .int v_size :: .ref a_letEnd :: .ref a_letBegin :: .ref a_sort :: .ref a_column :: .ref a_low :: .ref a_high :: .ref a_by :: .ref a_top :: .ref a_begins :: .ref a_ends :: .int v_hasScript :: .int v_scriptLets :: .int v_scriptQuestions :: .ref a_scriptCode :: .ref a_scriptLetBegin :: .ref a_scriptLetEnd :: .ref a_aSort :: .ref a_aColumn :: .ref a_aLow :: .ref a_aHigh :: .ref a_aBy :: .ref a_aTop :: .ref a_aBegin :: .ref a_anEnd :: .ref a_told :: .int v_toldCount :: .ref a_out :: .int v_outs :: .ref a_goals :: .ref a_withs :: .int v_goalCount :: .ref a_pile :: .ref a_letValue :: .ref a_one :: .ref a_two :: [])), (a_tape, .inl (gI G, 3000, .inl f_tape))]) ⟨hx, hb, hml, hown, hts⟩ hA hK hZ hP hD hS hC_r2 (cwV 2 hts g_Mo_357 rfl rfl rfl (by decide +kernel) ⟨Nat.le_of_ble_eq_true rfl, Nat.le_of_ble_eq_true rfl⟩) (ci := 12) (q0 := 0) rfl rfl rfl [0, 1] rfl (by decide) rfl rfl rfl hl.1 rfl (Nat.le_of_ble_eq_true rfl) d_Mo_noise_41 ⟨Nat.le_of_ble_eq_true rfl, Nat.le_of_ble_eq_true rfl⟩ (st1 := [.int r2]) (c1 := 0) (s1 := 0) rfl rfl rfl (fun H locs hP hD hS => ?_)
      exact ly_iret hx hb hr hlocks hP hD hS d_Mo_noise_44 (by rw [s_Mo_noise] <;> simp only [hr1, hr2] <;> rw [if_neg c1, if_pos c2, if_pos c3]) rfl
    refine lv_bipush (v := (-105)) hx hb d_Mo_noise_33 (by decide) ?_
    refine lv_goto (tgt := 44) hx hb d_Mo_noise_35 (by decide) ?_
    exact ly_iret hx hb hr hlocks hP hD hS d_Mo_noise_44 (by rw [s_Mo_noise] <;> simp only [hr1] <;> rw [if_neg c1, if_pos c2, if_neg c3]) rfl
  refine lv_bipush (v := (-102)) hx hb d_Mo_noise_14 (by decide) ?_
  exact ly_iret hx hb hr hlocks hP hD hS d_Mo_noise_16 (by rw [s_Mo_noise] <;> simp only [hr1] <;> rw [if_neg c1, if_neg c2]) rfl

theorem wr_in {v : Int32} (h : up v 4199) : vp_in v 4200 := ly_mk h.1 (by have := h.2; omega)
set_option maxHeartbeats 4000000 in
set_option maxRecDepth 100000 in
theorem c_Mo_write (l : Launch) (G : GG) (h : Nat) (a_table : Nat) (a_tape : Nat) (a_budget : Nat) (a_spent : Nat) (a_text : Nat) (a_kinds : Nat) (a_values : Nat) (a_scriptKinds : Nat) (a_scriptValues : Nat) (a_isTold : Nat) (a_letOf : Nat) (a_code : Nat) (a_letEnd : Nat) (a_letBegin : Nat) (a_sort : Nat) (a_column : Nat) (a_low : Nat) (a_high : Nat) (a_by : Nat) (a_top : Nat) (a_begins : Nat) (a_ends : Nat) (a_scriptCode : Nat) (a_scriptLetBegin : Nat) (a_scriptLetEnd : Nat) (a_aSort : Nat) (a_aColumn : Nat) (a_aLow : Nat) (a_aHigh : Nat) (a_aBy : Nat) (a_aTop : Nat) (a_aBegin : Nat) (a_anEnd : Nat) (a_told : Nat) (a_out : Nat) (a_goals : Nat) (a_withs : Nat) (a_pile : Nat) (a_letValue : Nat) (a_one : Nat) (a_two : Nat) (v_p : Int32) (v_q : Int32) (v_rows : Int32) (v_cells : Int32) (v_signs : Int32) (v_tokens : Int32) (v_scriptTokens : Int32) (v_at : Int32) (v_place : Int32) (v_kind : Int32) (v_value : Int32) (v_depth : Int32) (v_asked : Int32) (v_lets : Int32) (v_questions : Int32) (v_statements : Int32) (v_size : Int32) (v_hasScript : Int32) (v_scriptLets : Int32) (v_scriptQuestions : Int32) (v_toldCount : Int32) (f_out : Nat → Int32) (v_outs : Int32) (v_goalCount : Int32) (x : Int32) (ho : up v_outs 4199) : Det l G y_Mo_write w_Mo_write (rmD 0) 0 0 [.ref h, .int x] [(h, .inr (12, .int v_p :: .int v_q :: .ref a_table :: .int v_rows :: .ref a_tape :: .int v_cells :: .ref a_budget :: .ref a_spent :: .ref a_text :: .int v_signs :: .ref a_kinds :: .ref a_values :: .int v_tokens :: .ref a_scriptKinds :: .ref a_scriptValues :: .int v_scriptTokens :: .int v_at :: .int v_place :: .int v_kind :: .int v_value :: .int v_depth :: .int v_asked :: .int v_lets :: .int v_questions :: .int v_statements :: .ref a_isTold :: .ref a_letOf :: .ref a_code :: .int v_size :: .ref a_letEnd :: .ref a_letBegin :: .ref a_sort :: .ref a_column :: .ref a_low :: .ref a_high :: .ref a_by :: .ref a_top :: .ref a_begins :: .ref a_ends :: .int v_hasScript :: .int v_scriptLets :: .int v_scriptQuestions :: .ref a_scriptCode :: .ref a_scriptLetBegin :: .ref a_scriptLetEnd :: .ref a_aSort :: .ref a_aColumn :: .ref a_aLow :: .ref a_aHigh :: .ref a_aBy :: .ref a_aTop :: .ref a_aBegin :: .ref a_anEnd :: .ref a_told :: .int v_toldCount :: .ref a_out :: .int v_outs :: .ref a_goals :: .ref a_withs :: .int v_goalCount :: .ref a_pile :: .ref a_letValue :: .ref a_one :: .ref a_two :: [])), (a_out, .inl (gI G, 4200, .inl f_out))] none [(h, .inr (12, .int v_p :: .int v_q :: .ref a_table :: .int v_rows :: .ref a_tape :: .int v_cells :: .ref a_budget :: .ref a_spent :: .ref a_text :: .int v_signs :: .ref a_kinds :: .ref a_values :: .int v_tokens :: .ref a_scriptKinds :: .ref a_scriptValues :: .int v_scriptTokens :: .int v_at :: .int v_place :: .int v_kind :: .int v_value :: .int v_depth :: .int v_asked :: .int v_lets :: .int v_questions :: .int v_statements :: .ref a_isTold :: .ref a_letOf :: .ref a_code :: .int v_size :: .ref a_letEnd :: .ref a_letBegin :: .ref a_sort :: .ref a_column :: .ref a_low :: .ref a_high :: .ref a_by :: .ref a_top :: .ref a_begins :: .ref a_ends :: .int v_hasScript :: .int v_scriptLets :: .int v_scriptQuestions :: .ref a_scriptCode :: .ref a_scriptLetBegin :: .ref a_scriptLetEnd :: .ref a_aSort :: .ref a_aColumn :: .ref a_aLow :: .ref a_aHigh :: .ref a_aBy :: .ref a_aTop :: .ref a_aBegin :: .ref a_anEnd :: .ref a_told :: .int v_toldCount :: .ref a_out :: .int (v_outs + 1) :: .ref a_goals :: .ref a_withs :: .int v_goalCount :: .ref a_pile :: .ref a_letValue :: .ref a_one :: .ref a_two :: [])), (a_out, .inl (gI G, 4200, .inl (upd f_out v_outs.toNatClampNeg x)))] := by
  refine Det.of (cc := b_Mo_write) (maxL := 2) (ret := none) (by decide) rfl (Nat.le_of_ble_eq_true rfl) ?_
  intro p e s m args below meth c A ls hx hb hr hml hown hts hlocks hin hA hK hZ hP hD hS hl
  have hts : ∀ w ∈ wG, w.before args s = true := fun w h => hts w (List.mem_cons_of_mem _ h)
  have hown : s.vm.findClass R_Mo = some m.cls := hown
  have hl : lv_has ls 2 [(0, .ref h), (1, .int x)] := hl
  refine lv_aload_n hx hb d_Mo_write_0 rfl (lv_at hl 0 rfl) ?_
  refine va_get (D := G.1) (ci := 12) (C := R_Mo) (T := F_Mo) (N := 64) (v := .ref a_out) hx hb hts i_Mo hown hK hP 0 rfl rfl 55 (by decide) (hts (.fieldLink R_Mo 113 "PrivateQueriesModel" "out" "[I") k_328) (fun _ h9 => h9) rfl d_Mo_write_1 ?_
  refine lv_aload_n hx hb d_Mo_write_4 rfl (lv_at hl 0 rfl) ?_
  refine va_get (D := G.1) (ci := 12) (C := R_Mo) (T := F_Mo) (N := 64) (v := .int v_outs) hx hb hts i_Mo hown hK hP 0 rfl rfl 56 (by decide) (hts (.fieldLink R_Mo 360 "PrivateQueriesModel" "outs" "I") k_329) (fun _ h9 => h9) rfl d_Mo_write_5 ?_
  refine lv_iload_n hx hb d_Mo_write_8 rfl (lv_at hl 1 rfl) ?_
  refine va_iast hx hb hK hP hD hS 1 0 rfl rfl (wr_in ho) d_Mo_write_9 (fun H locs hP hD hS => ?_)
  have hP : va_P G.1 classes [(h, .inr (12, .int v_p :: .int v_q :: .ref a_table :: .int v_rows :: .ref a_tape :: .int v_cells :: .ref a_budget :: .ref a_spent :: .ref a_text :: .int v_signs :: .ref a_kinds :: .ref a_values :: .int v_tokens :: .ref a_scriptKinds :: .ref a_scriptValues :: .int v_scriptTokens :: .int v_at :: .int v_place :: .int v_kind :: .int v_value :: .int v_depth :: .int v_asked :: .int v_lets :: .int v_questions :: .int v_statements :: .ref a_isTold :: .ref a_letOf :: .ref a_code :: .int v_size :: .ref a_letEnd :: .ref a_letBegin :: .ref a_sort :: .ref a_column :: .ref a_low :: .ref a_high :: .ref a_by :: .ref a_top :: .ref a_begins :: .ref a_ends :: .int v_hasScript :: .int v_scriptLets :: .int v_scriptQuestions :: .ref a_scriptCode :: .ref a_scriptLetBegin :: .ref a_scriptLetEnd :: .ref a_aSort :: .ref a_aColumn :: .ref a_aLow :: .ref a_aHigh :: .ref a_aBy :: .ref a_aTop :: .ref a_aBegin :: .ref a_anEnd :: .ref a_told :: .int v_toldCount :: .ref a_out :: .int v_outs :: .ref a_goals :: .ref a_withs :: .int v_goalCount :: .ref a_pile :: .ref a_letValue :: .ref a_one :: .ref a_two :: [])), (a_out, .inl (gI G, 4200, .inl (upd f_out v_outs.toNatClampNeg x)))] H := hP
  have hD : va_D A [(h, .inr (12, .int v_p :: .int v_q :: .ref a_table :: .int v_rows :: .ref a_tape :: .int v_cells :: .ref a_budget :: .ref a_spent :: .ref a_text :: .int v_signs :: .ref a_kinds :: .ref a_values :: .int v_tokens :: .ref a_scriptKinds :: .ref a_scriptValues :: .int v_scriptTokens :: .int v_at :: .int v_place :: .int v_kind :: .int v_value :: .int v_depth :: .int v_asked :: .int v_lets :: .int v_questions :: .int v_statements :: .ref a_isTold :: .ref a_letOf :: .ref a_code :: .int v_size :: .ref a_letEnd :: .ref a_letBegin :: .ref a_sort :: .ref a_column :: .ref a_low :: .ref a_high :: .ref a_by :: .ref a_top :: .ref a_begins :: .ref a_ends :: .int v_hasScript :: .int v_scriptLets :: .int v_scriptQuestions :: .ref a_scriptCode :: .ref a_scriptLetBegin :: .ref a_scriptLetEnd :: .ref a_aSort :: .ref a_aColumn :: .ref a_aLow :: .ref a_aHigh :: .ref a_aBy :: .ref a_aTop :: .ref a_aBegin :: .ref a_anEnd :: .ref a_told :: .int v_toldCount :: .ref a_out :: .int v_outs :: .ref a_goals :: .ref a_withs :: .int v_goalCount :: .ref a_pile :: .ref a_letValue :: .ref a_one :: .ref a_two :: [])), (a_out, .inl (gI G, 4200, .inl (upd f_out v_outs.toNatClampNeg x)))] := hD
  refine lv_aload_n hx hb d_Mo_write_10 rfl (lv_at hl 0 rfl) ?_
  refine lv_dup hx hb d_Mo_write_11 rfl ?_
  refine va_get (D := G.1) (ci := 12) (C := R_Mo) (T := F_Mo) (N := 64) (v := .int v_outs) hx hb hts i_Mo hown hK hP 0 rfl rfl 56 (by decide) (hts (.fieldLink R_Mo 360 "PrivateQueriesModel" "outs" "I") k_329) (fun _ h9 => h9) rfl d_Mo_write_12 ?_
  refine lv_iconst (v := 1) hx hb d_Mo_write_15 (by decide) ?_
  refine lv_iadd hx hb d_Mo_write_16 ?_
  refine va_put (D := G.1) (ci := 12) (v := .int (v_outs + 1)) (ty := .int) (C := R_Mo) (T := F_Mo) (N := 64) hx hb hts i_Mo t_Mo t_Mo_ok n_Mo hown hK hP hD hS 0 rfl rfl 56 (by decide) (hts (.fieldLink R_Mo 360 "PrivateQueriesModel" "outs" "I") k_329) (fun _ h9 => h9) rfl (by decide +kernel) rfl rfl (Nat.le_of_ble_eq_true rfl) d_Mo_write_17 (fun H locs hP hD hS => ?_)
  have hP : va_P G.1 classes [(h, .inr (12, .int v_p :: .int v_q :: .ref a_table :: .int v_rows :: .ref a_tape :: .int v_cells :: .ref a_budget :: .ref a_spent :: .ref a_text :: .int v_signs :: .ref a_kinds :: .ref a_values :: .int v_tokens :: .ref a_scriptKinds :: .ref a_scriptValues :: .int v_scriptTokens :: .int v_at :: .int v_place :: .int v_kind :: .int v_value :: .int v_depth :: .int v_asked :: .int v_lets :: .int v_questions :: .int v_statements :: .ref a_isTold :: .ref a_letOf :: .ref a_code :: .int v_size :: .ref a_letEnd :: .ref a_letBegin :: .ref a_sort :: .ref a_column :: .ref a_low :: .ref a_high :: .ref a_by :: .ref a_top :: .ref a_begins :: .ref a_ends :: .int v_hasScript :: .int v_scriptLets :: .int v_scriptQuestions :: .ref a_scriptCode :: .ref a_scriptLetBegin :: .ref a_scriptLetEnd :: .ref a_aSort :: .ref a_aColumn :: .ref a_aLow :: .ref a_aHigh :: .ref a_aBy :: .ref a_aTop :: .ref a_aBegin :: .ref a_anEnd :: .ref a_told :: .int v_toldCount :: .ref a_out :: .int (v_outs + 1) :: .ref a_goals :: .ref a_withs :: .int v_goalCount :: .ref a_pile :: .ref a_letValue :: .ref a_one :: .ref a_two :: [])), (a_out, .inl (gI G, 4200, .inl (upd f_out v_outs.toNatClampNeg x)))] H := hP
  have hD : va_D A [(h, .inr (12, .int v_p :: .int v_q :: .ref a_table :: .int v_rows :: .ref a_tape :: .int v_cells :: .ref a_budget :: .ref a_spent :: .ref a_text :: .int v_signs :: .ref a_kinds :: .ref a_values :: .int v_tokens :: .ref a_scriptKinds :: .ref a_scriptValues :: .int v_scriptTokens :: .int v_at :: .int v_place :: .int v_kind :: .int v_value :: .int v_depth :: .int v_asked :: .int v_lets :: .int v_questions :: .int v_statements :: .ref a_isTold :: .ref a_letOf :: .ref a_code :: .int v_size :: .ref a_letEnd :: .ref a_letBegin :: .ref a_sort :: .ref a_column :: .ref a_low :: .ref a_high :: .ref a_by :: .ref a_top :: .ref a_begins :: .ref a_ends :: .int v_hasScript :: .int v_scriptLets :: .int v_scriptQuestions :: .ref a_scriptCode :: .ref a_scriptLetBegin :: .ref a_scriptLetEnd :: .ref a_aSort :: .ref a_aColumn :: .ref a_aLow :: .ref a_aHigh :: .ref a_aBy :: .ref a_aTop :: .ref a_aBegin :: .ref a_anEnd :: .ref a_told :: .int v_toldCount :: .ref a_out :: .int (v_outs + 1) :: .ref a_goals :: .ref a_withs :: .int v_goalCount :: .ref a_pile :: .ref a_letValue :: .ref a_one :: .ref a_two :: [])), (a_out, .inl (gI G, 4200, .inl (upd f_out v_outs.toNatClampNeg x)))] := hD
  exact ly_vret hx hb hr hlocks hP hD hS d_Mo_write_20 rfl rfl

set_option maxHeartbeats 4000000 in
set_option maxRecDepth 100000 in
theorem c_Mo_out (l : Launch) (G : GG) (h : Nat) (a_table : Nat) (a_tape : Nat) (a_budget : Nat) (a_spent : Nat) (a_text : Nat) (a_kinds : Nat) (a_values : Nat) (a_scriptKinds : Nat) (a_scriptValues : Nat) (a_isTold : Nat) (a_letOf : Nat) (a_code : Nat) (a_letEnd : Nat) (a_letBegin : Nat) (a_sort : Nat) (a_column : Nat) (a_low : Nat) (a_high : Nat) (a_by : Nat) (a_top : Nat) (a_begins : Nat) (a_ends : Nat) (a_scriptCode : Nat) (a_scriptLetBegin : Nat) (a_scriptLetEnd : Nat) (a_aSort : Nat) (a_aColumn : Nat) (a_aLow : Nat) (a_aHigh : Nat) (a_aBy : Nat) (a_aTop : Nat) (a_aBegin : Nat) (a_anEnd : Nat) (a_told : Nat) (a_out : Nat) (a_goals : Nat) (a_withs : Nat) (a_pile : Nat) (a_letValue : Nat) (a_one : Nat) (a_two : Nat) (v_p : Int32) (v_q : Int32) (v_rows : Int32) (v_cells : Int32) (v_signs : Int32) (v_tokens : Int32) (v_scriptTokens : Int32) (v_at : Int32) (v_place : Int32) (v_kind : Int32) (v_value : Int32) (v_depth : Int32) (v_asked : Int32) (v_lets : Int32) (v_questions : Int32) (v_statements : Int32) (v_size : Int32) (v_hasScript : Int32) (v_scriptLets : Int32) (v_scriptQuestions : Int32) (v_toldCount : Int32) (f_out : Nat → Int32) (v_outs : Int32) (v_goalCount : Int32) (x : Int32) (hz_v_outs : up v_outs 4200) : Det l G y_Mo_out w_Mo_out (rmD 1) 0 0 [.ref h, .int x] [(h, .inr (12, .int v_p :: .int v_q :: .ref a_table :: .int v_rows :: .ref a_tape :: .int v_cells :: .ref a_budget :: .ref a_spent :: .ref a_text :: .int v_signs :: .ref a_kinds :: .ref a_values :: .int v_tokens :: .ref a_scriptKinds :: .ref a_scriptValues :: .int v_scriptTokens :: .int v_at :: .int v_place :: .int v_kind :: .int v_value :: .int v_depth :: .int v_asked :: .int v_lets :: .int v_questions :: .int v_statements :: .ref a_isTold :: .ref a_letOf :: .ref a_code :: .int v_size :: .ref a_letEnd :: .ref a_letBegin :: .ref a_sort :: .ref a_column :: .ref a_low :: .ref a_high :: .ref a_by :: .ref a_top :: .ref a_begins :: .ref a_ends :: .int v_hasScript :: .int v_scriptLets :: .int v_scriptQuestions :: .ref a_scriptCode :: .ref a_scriptLetBegin :: .ref a_scriptLetEnd :: .ref a_aSort :: .ref a_aColumn :: .ref a_aLow :: .ref a_aHigh :: .ref a_aBy :: .ref a_aTop :: .ref a_aBegin :: .ref a_anEnd :: .ref a_told :: .int v_toldCount :: .ref a_out :: .int v_outs :: .ref a_goals :: .ref a_withs :: .int v_goalCount :: .ref a_pile :: .ref a_letValue :: .ref a_one :: .ref a_two :: [])), (a_out, .inl (gI G, 4200, .inl f_out))] (some (.int (s_Mo_out f_out v_outs x))) [(h, .inr (12, .int v_p :: .int v_q :: .ref a_table :: .int v_rows :: .ref a_tape :: .int v_cells :: .ref a_budget :: .ref a_spent :: .ref a_text :: .int v_signs :: .ref a_kinds :: .ref a_values :: .int v_tokens :: .ref a_scriptKinds :: .ref a_scriptValues :: .int v_scriptTokens :: .int v_at :: .int v_place :: .int v_kind :: .int v_value :: .int v_depth :: .int v_asked :: .int v_lets :: .int v_questions :: .int v_statements :: .ref a_isTold :: .ref a_letOf :: .ref a_code :: .int v_size :: .ref a_letEnd :: .ref a_letBegin :: .ref a_sort :: .ref a_column :: .ref a_low :: .ref a_high :: .ref a_by :: .ref a_top :: .ref a_begins :: .ref a_ends :: .int v_hasScript :: .int v_scriptLets :: .int v_scriptQuestions :: .ref a_scriptCode :: .ref a_scriptLetBegin :: .ref a_scriptLetEnd :: .ref a_aSort :: .ref a_aColumn :: .ref a_aLow :: .ref a_aHigh :: .ref a_aBy :: .ref a_aTop :: .ref a_aBegin :: .ref a_anEnd :: .ref a_told :: .int v_toldCount :: .ref a_out :: .int v_outs :: .ref a_goals :: .ref a_withs :: .int v_goalCount :: .ref a_pile :: .ref a_letValue :: .ref a_one :: .ref a_two :: [])), (a_out, .inl (gI G, 4200, .inl f_out))] := by
  refine Det.of (cc := b_Mo_out) (maxL := 2) (ret := (some .int)) (by decide) rfl (Nat.le_of_ble_eq_true rfl) ?_
  intro p e s m args below meth c A ls hx hb hr hml hown hts hlocks hin hA hK hZ hP hD hS hl
  have hts : ∀ w ∈ wG, w.before args s = true := fun w h => hts w (List.mem_cons_of_mem _ h)
  have hown : s.vm.findClass R_Mo = some m.cls := hown
  have hl : lv_has ls 2 [(0, .ref h), (1, .int x)] := hl
  refine lv_iload_n hx hb d_Mo_out_0 rfl (lv_at hl 1 rfl) ?_
  refine lv_iconst (v := 0) hx hb d_Mo_out_1 (by decide) ?_
  refine lv_aload_n hx hb d_Mo_out_2 rfl (lv_at hl 0 rfl) ?_
  refine va_get (D := G.1) (ci := 12) (C := R_Mo) (T := F_Mo) (N := 64) (v := .int v_outs) hx hb hts i_Mo hown hK hP 0 rfl rfl 56 (by decide) (hts (.fieldLink R_Mo 360 "PrivateQueriesModel" "outs" "I") k_329) (fun _ h9 => h9) rfl d_Mo_out_3 ?_
  refine lv_iconst (v := 1) hx hb d_Mo_out_6 (by decide) ?_
  refine lv_isub hx hb d_Mo_out_7 ?_
  obtain ⟨r1, hr1⟩ : ∃ r, (s_Mo_in x 0 (v_outs - 1)) = r := ⟨_, rfl⟩
  have hC_r1 := (c_Mo_in l G x 0 (v_outs - 1))
  rw [hr1] at hC_r1
  have hf_r1_1 : isB r1 := by rw [← hr1]; exact z_Mo_in
  refine ly_callS (rest := []) (wf := [(h, .inr (12, .int v_p :: .int v_q :: .ref a_table :: .int v_rows :: .ref a_tape :: .int v_cells :: .ref a_budget :: .ref a_spent :: .ref a_text :: .int v_signs :: .ref a_kinds :: .ref a_values :: .int v_tokens :: .ref a_scriptKinds :: .ref a_scriptValues :: .int v_scriptTokens :: .int v_at :: .int v_place :: .int v_kind :: .int v_value :: .int v_depth :: .int v_asked :: .int v_lets :: .int v_questions :: .int v_statements :: .ref a_isTold :: .ref a_letOf :: .ref a_code :: .int v_size :: .ref a_letEnd :: .ref a_letBegin :: .ref a_sort :: .ref a_column :: .ref a_low :: .ref a_high :: .ref a_by :: .ref a_top :: .ref a_begins :: .ref a_ends :: .int v_hasScript :: .int v_scriptLets :: .int v_scriptQuestions :: .ref a_scriptCode :: .ref a_scriptLetBegin :: .ref a_scriptLetEnd :: .ref a_aSort :: .ref a_aColumn :: .ref a_aLow :: .ref a_aHigh :: .ref a_aBy :: .ref a_aTop :: .ref a_aBegin :: .ref a_anEnd :: .ref a_told :: .int v_toldCount :: .ref a_out :: .int v_outs :: .ref a_goals :: .ref a_withs :: .int v_goalCount :: .ref a_pile :: .ref a_letValue :: .ref a_one :: .ref a_two :: [])), (a_out, .inl (gI G, 4200, .inl f_out))]) ⟨hx, hb, hml, hown, hts⟩ hA hK hZ hP hD hS hC_r1 (cwS 3 hts g_Mo_144 rfl rfl rfl (by decide +kernel) ⟨Nat.le_of_ble_eq_true rfl, Nat.le_of_ble_eq_true rfl⟩) [] rfl (by decide) rfl rfl rfl hl.1 rfl (Nat.le_of_ble_eq_true rfl) d_Mo_out_8 ⟨Nat.le_of_ble_eq_true rfl, Nat.le_of_ble_eq_true rfl⟩ (st1 := [.int r1]) (c1 := 0) (s1 := 0) rfl rfl rfl (fun H locs hP hD hS => ?_)
  refine lv_if_eq (tgt := 23) hx hb d_Mo_out_11 (by decide) (fun c1 => ?_) (fun c1 => ?_)
  · skip
    refine lv_iconst (v := -1) hx hb d_Mo_out_23 (by decide) ?_
    exact ly_iret hx hb hr hlocks hP hD hS d_Mo_out_24 (by rw [s_Mo_out] <;> simp only [hr1] <;> rw [if_pos c1]) rfl
  refine lv_aload_n hx hb d_Mo_out_14 rfl (lv_at hl 0 rfl) ?_
  refine va_get (D := G.1) (ci := 12) (C := R_Mo) (T := F_Mo) (N := 64) (v := .ref a_out) hx hb hts i_Mo hown hK hP 0 rfl rfl 55 (by decide) (hts (.fieldLink R_Mo 113 "PrivateQueriesModel" "out" "[I") k_328) (fun _ h9 => h9) rfl d_Mo_out_15 ?_
  refine lv_iload_n hx hb d_Mo_out_18 rfl (lv_at hl 1 rfl) ?_
  refine va_iald hx hb hK hP 1 0 rfl rfl (lst_in hz_v_outs (by decide) (by rw [hr1]; exact c1)) d_Mo_out_19 ?_
  refine lv_goto (tgt := 24) hx hb d_Mo_out_20 (by decide) ?_
  exact ly_iret hx hb hr hlocks hP hD hS d_Mo_out_24 (by rw [s_Mo_out] <;> simp only [hr1] <;> rw [if_neg c1]) rfl
