theorem dX0_init_0 : decode cX0_init 0 = .ok (.aload_n 0, 1) := by decide +kernel
theorem dX0_init_1 : decode cX0_init 1 = .ok (.invokespecial 3, 3) := by decide +kernel
theorem dX0_init_4 : decode cX0_init 4 = .ok (.aload_n 0, 1) := by decide +kernel
theorem dX0_init_5 : decode cX0_init 5 = .ok (.sipush 272, 3) := by decide +kernel
theorem dX0_init_8 : decode cX0_init 8 = .ok (.newarray .int, 2) := by decide +kernel
theorem dX0_init_10 : decode cX0_init 10 = .ok (.putfield 9, 3) := by decide +kernel
theorem dX0_init_13 : decode cX0_init 13 = .ok (.aload_n 0, 1) := by decide +kernel
theorem dX0_init_14 : decode cX0_init 14 = .ok (.sipush 4096, 3) := by decide +kernel
theorem dX0_init_17 : decode cX0_init 17 = .ok (.newarray .int, 2) := by decide +kernel
theorem dX0_init_19 : decode cX0_init 19 = .ok (.putfield 15, 3) := by decide +kernel
theorem dX0_init_22 : decode cX0_init 22 = .ok (.aload_n 0, 1) := by decide +kernel
theorem dX0_init_23 : decode cX0_init 23 = .ok (.bipush 8, 2) := by decide +kernel
theorem dX0_init_25 : decode cX0_init 25 = .ok (.newarray .int, 2) := by decide +kernel
theorem dX0_init_27 : decode cX0_init 27 = .ok (.putfield 18, 3) := by decide +kernel
theorem dX0_init_30 : decode cX0_init 30 = .ok (.return_, 1) := by decide +kernel
theorem dX0_forget_0 : decode cX0_forget 0 = .ok (.aload_n 0, 1) := by decide +kernel
theorem dX0_forget_1 : decode cX0_forget 1 = .ok (.iconst 0, 1) := by decide +kernel
theorem dX0_forget_2 : decode cX0_forget 2 = .ok (.putfield 21, 3) := by decide +kernel
theorem dX0_forget_5 : decode cX0_forget 5 = .ok (.return_, 1) := by decide +kernel
theorem dX0_total_0 : decode cX0_total 0 = .ok (.aload_n 0, 1) := by decide +kernel
theorem dX0_total_1 : decode cX0_total 1 = .ok (.getfield 25, 3) := by decide +kernel
theorem dX0_total_4 : decode cX0_total 4 = .ok (.ireturn, 1) := by decide +kernel
theorem dX0_codeAt_0 : decode cX0_codeAt 0 = .ok (.iload_n 1, 1) := by decide +kernel
theorem dX0_codeAt_1 : decode cX0_codeAt 1 = .ok (.iconst 0, 1) := by decide +kernel
theorem dX0_codeAt_2 : decode cX0_codeAt 2 = .ok (.bipush 7, 2) := by decide +kernel
theorem dX0_codeAt_4 : decode cX0_codeAt 4 = .ok (.invokestatic 29, 3) := by decide +kernel
theorem dX0_codeAt_7 : decode cX0_codeAt 7 = .ok (.ifCond .eq 12, 3) := by decide +kernel
theorem dX0_codeAt_10 : decode cX0_codeAt 10 = .ok (.aload_n 0, 1) := by decide +kernel
theorem dX0_codeAt_11 : decode cX0_codeAt 11 = .ok (.getfield 18, 3) := by decide +kernel
theorem dX0_codeAt_14 : decode cX0_codeAt 14 = .ok (.iload_n 1, 1) := by decide +kernel
theorem dX0_codeAt_15 : decode cX0_codeAt 15 = .ok (.iaload, 1) := by decide +kernel
theorem dX0_codeAt_16 : decode cX0_codeAt 16 = .ok (.goto 4, 3) := by decide +kernel
theorem dX0_codeAt_19 : decode cX0_codeAt 19 = .ok (.iconst (-1), 1) := by decide +kernel
theorem dX0_codeAt_20 : decode cX0_codeAt 20 = .ok (.ireturn, 1) := by decide +kernel
theorem dX0_find_0 : decode cX0_find 0 = .ok (.aload_n 0, 1) := by decide +kernel
theorem dX0_find_1 : decode cX0_find 1 = .ok (.getfield 21, 3) := by decide +kernel
theorem dX0_find_4 : decode cX0_find 4 = .ok (.ifCond .eq 4, 3) := by decide +kernel
theorem dX0_find_7 : decode cX0_find 7 = .ok (.return_, 1) := by decide +kernel
theorem dX0_find_8 : decode cX0_find 8 = .ok (.aload_n 1, 1) := by decide +kernel
theorem dX0_find_9 : decode cX0_find 9 = .ok (.invokevirtual 33, 3) := by decide +kernel
theorem dX0_find_12 : decode cX0_find 12 = .ok (.bipush 8, 2) := by decide +kernel
theorem dX0_find_14 : decode cX0_find 14 = .ok (.invokestatic 39, 3) := by decide +kernel
theorem dX0_find_17 : decode cX0_find 17 = .ok (.istore_n 3, 1) := by decide +kernel
theorem dX0_find_18 : decode cX0_find 18 = .ok (.aload_n 0, 1) := by decide +kernel
theorem dX0_find_19 : decode cX0_find 19 = .ok (.iconst 2, 1) := by decide +kernel
theorem dX0_find_20 : decode cX0_find 20 = .ok (.iload_n 3, 1) := by decide +kernel
theorem dX0_find_21 : decode cX0_find 21 = .ok (.imul, 1) := by decide +kernel
theorem dX0_find_22 : decode cX0_find 22 = .ok (.putfield 45, 3) := by decide +kernel
theorem dX0_find_25 : decode cX0_find 25 = .ok (.aload_n 0, 1) := by decide +kernel
theorem dX0_find_26 : decode cX0_find 26 = .ok (.aload_n 1, 1) := by decide +kernel
theorem dX0_find_27 : decode cX0_find 27 = .ok (.iload_n 2, 1) := by decide +kernel
theorem dX0_find_28 : decode cX0_find 28 = .ok (.invokevirtual 48, 3) := by decide +kernel
theorem dX0_find_31 : decode cX0_find 31 = .ok (.aload_n 0, 1) := by decide +kernel
theorem dX0_find_32 : decode cX0_find 32 = .ok (.iconst 1, 1) := by decide +kernel
theorem dX0_find_33 : decode cX0_find 33 = .ok (.iload_n 3, 1) := by decide +kernel
theorem dX0_find_34 : decode cX0_find 34 = .ok (.ishl, 1) := by decide +kernel
theorem dX0_find_35 : decode cX0_find 35 = .ok (.iconst 1, 1) := by decide +kernel
theorem dX0_find_36 : decode cX0_find 36 = .ok (.isub, 1) := by decide +kernel
theorem dX0_find_37 : decode cX0_find 37 = .ok (.invokevirtual 52, 3) := by decide +kernel
theorem dX0_find_40 : decode cX0_find 40 = .ok (.aload_n 0, 1) := by decide +kernel
theorem dX0_find_41 : decode cX0_find 41 = .ok (.iload_n 3, 1) := by decide +kernel
theorem dX0_find_42 : decode cX0_find 42 = .ok (.invokevirtual 56, 3) := by decide +kernel
theorem dX0_find_45 : decode cX0_find 45 = .ok (.aload_n 0, 1) := by decide +kernel
theorem dX0_find_46 : decode cX0_find 46 = .ok (.iconst 1, 1) := by decide +kernel
theorem dX0_find_47 : decode cX0_find 47 = .ok (.putfield 21, 3) := by decide +kernel
theorem dX0_find_50 : decode cX0_find 50 = .ok (.return_, 1) := by decide +kernel
theorem dX0_fillSteps_0 : decode cX0_fillSteps 0 = .ok (.iconst (-1), 1) := by decide +kernel
theorem dX0_fillSteps_1 : decode cX0_fillSteps 1 = .ok (.istore_n 3, 1) := by decide +kernel
theorem dX0_fillSteps_2 : decode cX0_fillSteps 2 = .ok (.iload_n 3, 1) := by decide +kernel
theorem dX0_fillSteps_3 : decode cX0_fillSteps 3 = .ok (.aload_n 0, 1) := by decide +kernel
theorem dX0_fillSteps_4 : decode cX0_fillSteps 4 = .ok (.getfield 45, 3) := by decide +kernel
theorem dX0_fillSteps_7 : decode cX0_fillSteps 7 = .ok (.if_icmp .ge 49, 3) := by decide +kernel
theorem dX0_fillSteps_10 : decode cX0_fillSteps 10 = .ok (.iconst 0, 1) := by decide +kernel
theorem dX0_fillSteps_11 : decode cX0_fillSteps 11 = .ok (.istore 4, 2) := by decide +kernel
theorem dX0_fillSteps_13 : decode cX0_fillSteps 13 = .ok (.iload 4, 2) := by decide +kernel
theorem dX0_fillSteps_15 : decode cX0_fillSteps 15 = .ok (.aload_n 0, 1) := by decide +kernel
theorem dX0_fillSteps_16 : decode cX0_fillSteps 16 = .ok (.getfield 45, 3) := by decide +kernel
theorem dX0_fillSteps_19 : decode cX0_fillSteps 19 = .ok (.if_icmp .ge 31, 3) := by decide +kernel
theorem dX0_fillSteps_22 : decode cX0_fillSteps 22 = .ok (.aload_n 0, 1) := by decide +kernel
theorem dX0_fillSteps_23 : decode cX0_fillSteps 23 = .ok (.getfield 9, 3) := by decide +kernel
theorem dX0_fillSteps_26 : decode cX0_fillSteps 26 = .ok (.iload_n 3, 1) := by decide +kernel
theorem dX0_fillSteps_27 : decode cX0_fillSteps 27 = .ok (.iconst 1, 1) := by decide +kernel
theorem dX0_fillSteps_28 : decode cX0_fillSteps 28 = .ok (.iadd, 1) := by decide +kernel
theorem dX0_fillSteps_29 : decode cX0_fillSteps 29 = .ok (.bipush 16, 2) := by decide +kernel
theorem dX0_fillSteps_31 : decode cX0_fillSteps 31 = .ok (.imul, 1) := by decide +kernel
theorem dX0_fillSteps_32 : decode cX0_fillSteps 32 = .ok (.iload 4, 2) := by decide +kernel
theorem dX0_fillSteps_34 : decode cX0_fillSteps 34 = .ok (.iadd, 1) := by decide +kernel
theorem dX0_fillSteps_35 : decode cX0_fillSteps 35 = .ok (.aload_n 1, 1) := by decide +kernel
theorem dX0_fillSteps_36 : decode cX0_fillSteps 36 = .ok (.iload_n 3, 1) := by decide +kernel
theorem dX0_fillSteps_37 : decode cX0_fillSteps 37 = .ok (.iload 4, 2) := by decide +kernel
theorem dX0_fillSteps_39 : decode cX0_fillSteps 39 = .ok (.iload_n 2, 1) := by decide +kernel
theorem dX0_fillSteps_40 : decode cX0_fillSteps 40 = .ok (.invokevirtual 59, 3) := by decide +kernel
theorem dX0_fillSteps_43 : decode cX0_fillSteps 43 = .ok (.iastore, 1) := by decide +kernel
theorem dX0_fillSteps_44 : decode cX0_fillSteps 44 = .ok (.iinc 4 1, 3) := by decide +kernel
theorem dX0_fillSteps_47 : decode cX0_fillSteps 47 = .ok (.goto (-34), 3) := by decide +kernel
theorem dX0_fillSteps_50 : decode cX0_fillSteps 50 = .ok (.iinc 3 1, 3) := by decide +kernel
theorem dX0_fillSteps_53 : decode cX0_fillSteps 53 = .ok (.goto (-51), 3) := by decide +kernel
theorem dX0_fillSteps_56 : decode cX0_fillSteps 56 = .ok (.return_, 1) := by decide +kernel
theorem dX0_fillRests_0 : decode cX0_fillRests 0 = .ok (.iconst 0, 1) := by decide +kernel
theorem dX0_fillRests_1 : decode cX0_fillRests 1 = .ok (.istore_n 2, 1) := by decide +kernel
theorem dX0_fillRests_2 : decode cX0_fillRests 2 = .ok (.iload_n 2, 1) := by decide +kernel
theorem dX0_fillRests_3 : decode cX0_fillRests 3 = .ok (.iload_n 1, 1) := by decide +kernel
theorem dX0_fillRests_4 : decode cX0_fillRests 4 = .ok (.if_icmp .ge 74, 3) := by decide +kernel
theorem dX0_fillRests_7 : decode cX0_fillRests 7 = .ok (.iconst 0, 1) := by decide +kernel
theorem dX0_fillRests_8 : decode cX0_fillRests 8 = .ok (.istore_n 3, 1) := by decide +kernel
theorem dX0_fillRests_9 : decode cX0_fillRests 9 = .ok (.iload_n 3, 1) := by decide +kernel
theorem dX0_fillRests_10 : decode cX0_fillRests 10 = .ok (.aload_n 0, 1) := by decide +kernel
theorem dX0_fillRests_11 : decode cX0_fillRests 11 = .ok (.getfield 45, 3) := by decide +kernel
theorem dX0_fillRests_14 : decode cX0_fillRests 14 = .ok (.if_icmp .ge 58, 3) := by decide +kernel
theorem dX0_fillRests_17 : decode cX0_fillRests 17 = .ok (.iload_n 2, 1) := by decide +kernel
theorem dX0_fillRests_18 : decode cX0_fillRests 18 = .ok (.iload_n 3, 1) := by decide +kernel
theorem dX0_fillRests_19 : decode cX0_fillRests 19 = .ok (.invokestatic 63, 3) := by decide +kernel
theorem dX0_fillRests_22 : decode cX0_fillRests 22 = .ok (.ifCond .ne 44, 3) := by decide +kernel
theorem dX0_fillRests_25 : decode cX0_fillRests 25 = .ok (.aload_n 0, 1) := by decide +kernel
theorem dX0_fillRests_26 : decode cX0_fillRests 26 = .ok (.iload_n 2, 1) := by decide +kernel
theorem dX0_fillRests_27 : decode cX0_fillRests 27 = .ok (.iload_n 3, 1) := by decide +kernel
theorem dX0_fillRests_28 : decode cX0_fillRests 28 = .ok (.invokevirtual 67, 3) := by decide +kernel
theorem dX0_fillRests_31 : decode cX0_fillRests 31 = .ok (.istore 4, 2) := by decide +kernel
theorem dX0_fillRests_33 : decode cX0_fillRests 33 = .ok (.iload 4, 2) := by decide +kernel
theorem dX0_fillRests_35 : decode cX0_fillRests 35 = .ok (.iconst (-1), 1) := by decide +kernel
theorem dX0_fillRests_36 : decode cX0_fillRests 36 = .ok (.if_icmp .ne 7, 3) := by decide +kernel
theorem dX0_fillRests_39 : decode cX0_fillRests 39 = .ok (.iconst 0, 1) := by decide +kernel
theorem dX0_fillRests_40 : decode cX0_fillRests 40 = .ok (.goto 11, 3) := by decide +kernel
theorem dX0_fillRests_43 : decode cX0_fillRests 43 = .ok (.aload_n 0, 1) := by decide +kernel
theorem dX0_fillRests_44 : decode cX0_fillRests 44 = .ok (.iload_n 2, 1) := by decide +kernel
theorem dX0_fillRests_45 : decode cX0_fillRests 45 = .ok (.iload_n 3, 1) := by decide +kernel
theorem dX0_fillRests_46 : decode cX0_fillRests 46 = .ok (.iload 4, 2) := by decide +kernel
theorem dX0_fillRests_48 : decode cX0_fillRests 48 = .ok (.invokevirtual 70, 3) := by decide +kernel
theorem dX0_fillRests_51 : decode cX0_fillRests 51 = .ok (.istore 5, 2) := by decide +kernel
theorem dX0_fillRests_53 : decode cX0_fillRests 53 = .ok (.aload_n 0, 1) := by decide +kernel
theorem dX0_fillRests_54 : decode cX0_fillRests 54 = .ok (.getfield 15, 3) := by decide +kernel
theorem dX0_fillRests_57 : decode cX0_fillRests 57 = .ok (.iload_n 2, 1) := by decide +kernel
theorem dX0_fillRests_58 : decode cX0_fillRests 58 = .ok (.bipush 16, 2) := by decide +kernel
theorem dX0_fillRests_60 : decode cX0_fillRests 60 = .ok (.imul, 1) := by decide +kernel
theorem dX0_fillRests_61 : decode cX0_fillRests 61 = .ok (.iload_n 3, 1) := by decide +kernel
theorem dX0_fillRests_62 : decode cX0_fillRests 62 = .ok (.iadd, 1) := by decide +kernel
theorem dX0_fillRests_63 : decode cX0_fillRests 63 = .ok (.iload 5, 2) := by decide +kernel
theorem dX0_fillRests_65 : decode cX0_fillRests 65 = .ok (.iastore, 1) := by decide +kernel
theorem dX0_fillRests_66 : decode cX0_fillRests 66 = .ok (.iinc 3 1, 3) := by decide +kernel
theorem dX0_fillRests_69 : decode cX0_fillRests 69 = .ok (.goto (-60), 3) := by decide +kernel
theorem dX0_fillRests_72 : decode cX0_fillRests 72 = .ok (.iinc 2 1, 3) := by decide +kernel
theorem dX0_fillRests_75 : decode cX0_fillRests 75 = .ok (.goto (-73), 3) := by decide +kernel
theorem dX0_fillRests_78 : decode cX0_fillRests 78 = .ok (.return_, 1) := by decide +kernel
theorem dX0_follow_0 : decode cX0_follow 0 = .ok (.iconst 1, 1) := by decide +kernel
theorem dX0_follow_1 : decode cX0_follow 1 = .ok (.iload_n 1, 1) := by decide +kernel
theorem dX0_follow_2 : decode cX0_follow 2 = .ok (.ishl, 1) := by decide +kernel
theorem dX0_follow_3 : decode cX0_follow 3 = .ok (.iconst 1, 1) := by decide +kernel
theorem dX0_follow_4 : decode cX0_follow 4 = .ok (.isub, 1) := by decide +kernel
theorem dX0_follow_5 : decode cX0_follow 5 = .ok (.istore_n 2, 1) := by decide +kernel
theorem dX0_follow_6 : decode cX0_follow 6 = .ok (.iconst (-1), 1) := by decide +kernel
theorem dX0_follow_7 : decode cX0_follow 7 = .ok (.istore_n 3, 1) := by decide +kernel
theorem dX0_follow_8 : decode cX0_follow 8 = .ok (.aload_n 0, 1) := by decide +kernel
theorem dX0_follow_9 : decode cX0_follow 9 = .ok (.iconst 0, 1) := by decide +kernel
theorem dX0_follow_10 : decode cX0_follow 10 = .ok (.putfield 25, 3) := by decide +kernel
theorem dX0_follow_13 : decode cX0_follow 13 = .ok (.iconst 0, 1) := by decide +kernel
theorem dX0_follow_14 : decode cX0_follow 14 = .ok (.istore 4, 2) := by decide +kernel
theorem dX0_follow_16 : decode cX0_follow 16 = .ok (.iload 4, 2) := by decide +kernel
theorem dX0_follow_18 : decode cX0_follow 18 = .ok (.iload_n 1, 1) := by decide +kernel
theorem dX0_follow_19 : decode cX0_follow 19 = .ok (.if_icmp .ge 52, 3) := by decide +kernel
theorem dX0_follow_22 : decode cX0_follow 22 = .ok (.aload_n 0, 1) := by decide +kernel
theorem dX0_follow_23 : decode cX0_follow 23 = .ok (.iload_n 2, 1) := by decide +kernel
theorem dX0_follow_24 : decode cX0_follow 24 = .ok (.iload_n 3, 1) := by decide +kernel
theorem dX0_follow_25 : decode cX0_follow 25 = .ok (.invokevirtual 67, 3) := by decide +kernel
theorem dX0_follow_28 : decode cX0_follow 28 = .ok (.istore 5, 2) := by decide +kernel
theorem dX0_follow_30 : decode cX0_follow 30 = .ok (.aload_n 0, 1) := by decide +kernel
theorem dX0_follow_31 : decode cX0_follow 31 = .ok (.dup, 1) := by decide +kernel
theorem dX0_follow_32 : decode cX0_follow 32 = .ok (.getfield 25, 3) := by decide +kernel
theorem dX0_follow_35 : decode cX0_follow 35 = .ok (.aload_n 0, 1) := by decide +kernel
theorem dX0_follow_36 : decode cX0_follow 36 = .ok (.iload_n 3, 1) := by decide +kernel
theorem dX0_follow_37 : decode cX0_follow 37 = .ok (.iload 5, 2) := by decide +kernel
theorem dX0_follow_39 : decode cX0_follow 39 = .ok (.invokevirtual 73, 3) := by decide +kernel
theorem dX0_follow_42 : decode cX0_follow 42 = .ok (.iadd, 1) := by decide +kernel
theorem dX0_follow_43 : decode cX0_follow 43 = .ok (.putfield 25, 3) := by decide +kernel
theorem dX0_follow_46 : decode cX0_follow 46 = .ok (.aload_n 0, 1) := by decide +kernel
theorem dX0_follow_47 : decode cX0_follow 47 = .ok (.getfield 18, 3) := by decide +kernel
theorem dX0_follow_50 : decode cX0_follow 50 = .ok (.iload 4, 2) := by decide +kernel
theorem dX0_follow_52 : decode cX0_follow 52 = .ok (.iload 5, 2) := by decide +kernel
theorem dX0_follow_54 : decode cX0_follow 54 = .ok (.iastore, 1) := by decide +kernel
theorem dX0_follow_55 : decode cX0_follow 55 = .ok (.iload_n 2, 1) := by decide +kernel
theorem dX0_follow_56 : decode cX0_follow 56 = .ok (.iload 5, 2) := by decide +kernel
theorem dX0_follow_58 : decode cX0_follow 58 = .ok (.invokestatic 76, 3) := by decide +kernel
theorem dX0_follow_61 : decode cX0_follow 61 = .ok (.istore_n 2, 1) := by decide +kernel
theorem dX0_follow_62 : decode cX0_follow 62 = .ok (.iload 5, 2) := by decide +kernel
theorem dX0_follow_64 : decode cX0_follow 64 = .ok (.istore_n 3, 1) := by decide +kernel
theorem dX0_follow_65 : decode cX0_follow 65 = .ok (.iinc 4 1, 3) := by decide +kernel
theorem dX0_follow_68 : decode cX0_follow 68 = .ok (.goto (-52), 3) := by decide +kernel
theorem dX0_follow_71 : decode cX0_follow 71 = .ok (.return_, 1) := by decide +kernel
theorem dX0_cheapestNext_0 : decode cX0_cheapestNext 0 = .ok (.iconst (-1), 1) := by decide +kernel
theorem dX0_cheapestNext_1 : decode cX0_cheapestNext 1 = .ok (.istore_n 3, 1) := by decide +kernel
theorem dX0_cheapestNext_2 : decode cX0_cheapestNext 2 = .ok (.iconst 0, 1) := by decide +kernel
theorem dX0_cheapestNext_3 : decode cX0_cheapestNext 3 = .ok (.istore 4, 2) := by decide +kernel
theorem dX0_cheapestNext_5 : decode cX0_cheapestNext 5 = .ok (.iconst 0, 1) := by decide +kernel
theorem dX0_cheapestNext_6 : decode cX0_cheapestNext 6 = .ok (.istore 5, 2) := by decide +kernel
theorem dX0_cheapestNext_8 : decode cX0_cheapestNext 8 = .ok (.iload 5, 2) := by decide +kernel
theorem dX0_cheapestNext_10 : decode cX0_cheapestNext 10 = .ok (.aload_n 0, 1) := by decide +kernel
theorem dX0_cheapestNext_11 : decode cX0_cheapestNext 11 = .ok (.getfield 45, 3) := by decide +kernel
theorem dX0_cheapestNext_14 : decode cX0_cheapestNext 14 = .ok (.if_icmp .ge 47, 3) := by decide +kernel
theorem dX0_cheapestNext_17 : decode cX0_cheapestNext 17 = .ok (.iload_n 1, 1) := by decide +kernel
theorem dX0_cheapestNext_18 : decode cX0_cheapestNext 18 = .ok (.iload 5, 2) := by decide +kernel
theorem dX0_cheapestNext_20 : decode cX0_cheapestNext 20 = .ok (.invokestatic 63, 3) := by decide +kernel
theorem dX0_cheapestNext_23 : decode cX0_cheapestNext 23 = .ok (.ifCond .eq 32, 3) := by decide +kernel
theorem dX0_cheapestNext_26 : decode cX0_cheapestNext 26 = .ok (.aload_n 0, 1) := by decide +kernel
theorem dX0_cheapestNext_27 : decode cX0_cheapestNext 27 = .ok (.iload_n 1, 1) := by decide +kernel
theorem dX0_cheapestNext_28 : decode cX0_cheapestNext 28 = .ok (.iload_n 2, 1) := by decide +kernel
theorem dX0_cheapestNext_29 : decode cX0_cheapestNext 29 = .ok (.iload 5, 2) := by decide +kernel
theorem dX0_cheapestNext_31 : decode cX0_cheapestNext 31 = .ok (.invokevirtual 70, 3) := by decide +kernel
theorem dX0_cheapestNext_34 : decode cX0_cheapestNext 34 = .ok (.istore 6, 2) := by decide +kernel
theorem dX0_cheapestNext_36 : decode cX0_cheapestNext 36 = .ok (.iload_n 3, 1) := by decide +kernel
theorem dX0_cheapestNext_37 : decode cX0_cheapestNext 37 = .ok (.iconst (-1), 1) := by decide +kernel
theorem dX0_cheapestNext_38 : decode cX0_cheapestNext 38 = .ok (.if_icmp .eq 10, 3) := by decide +kernel
theorem dX0_cheapestNext_41 : decode cX0_cheapestNext 41 = .ok (.iload 6, 2) := by decide +kernel
theorem dX0_cheapestNext_43 : decode cX0_cheapestNext 43 = .ok (.iload 4, 2) := by decide +kernel
theorem dX0_cheapestNext_45 : decode cX0_cheapestNext 45 = .ok (.if_icmp .ge 10, 3) := by decide +kernel
theorem dX0_cheapestNext_48 : decode cX0_cheapestNext 48 = .ok (.iload 5, 2) := by decide +kernel
theorem dX0_cheapestNext_50 : decode cX0_cheapestNext 50 = .ok (.istore_n 3, 1) := by decide +kernel
theorem dX0_cheapestNext_51 : decode cX0_cheapestNext 51 = .ok (.iload 6, 2) := by decide +kernel
theorem dX0_cheapestNext_53 : decode cX0_cheapestNext 53 = .ok (.istore 4, 2) := by decide +kernel
theorem dX0_cheapestNext_55 : decode cX0_cheapestNext 55 = .ok (.iinc 5 1, 3) := by decide +kernel
theorem dX0_cheapestNext_58 : decode cX0_cheapestNext 58 = .ok (.goto (-50), 3) := by decide +kernel
theorem dX0_cheapestNext_61 : decode cX0_cheapestNext 61 = .ok (.iload_n 3, 1) := by decide +kernel
theorem dX0_cheapestNext_62 : decode cX0_cheapestNext 62 = .ok (.ireturn, 1) := by decide +kernel
theorem dX0_costThrough_0 : decode cX0_costThrough 0 = .ok (.aload_n 0, 1) := by decide +kernel
theorem dX0_costThrough_1 : decode cX0_costThrough 1 = .ok (.iload_n 2, 1) := by decide +kernel
theorem dX0_costThrough_2 : decode cX0_costThrough 2 = .ok (.iload_n 3, 1) := by decide +kernel
theorem dX0_costThrough_3 : decode cX0_costThrough 3 = .ok (.invokevirtual 73, 3) := by decide +kernel
theorem dX0_costThrough_6 : decode cX0_costThrough 6 = .ok (.aload_n 0, 1) := by decide +kernel
theorem dX0_costThrough_7 : decode cX0_costThrough 7 = .ok (.iload_n 1, 1) := by decide +kernel
theorem dX0_costThrough_8 : decode cX0_costThrough 8 = .ok (.iload_n 3, 1) := by decide +kernel
theorem dX0_costThrough_9 : decode cX0_costThrough 9 = .ok (.invokestatic 76, 3) := by decide +kernel
theorem dX0_costThrough_12 : decode cX0_costThrough 12 = .ok (.iload_n 3, 1) := by decide +kernel
theorem dX0_costThrough_13 : decode cX0_costThrough 13 = .ok (.invokevirtual 79, 3) := by decide +kernel
theorem dX0_costThrough_16 : decode cX0_costThrough 16 = .ok (.iadd, 1) := by decide +kernel
theorem dX0_costThrough_17 : decode cX0_costThrough 17 = .ok (.ireturn, 1) := by decide +kernel
theorem dX0_stepAt_0 : decode cX0_stepAt 0 = .ok (.iload_n 1, 1) := by decide +kernel
theorem dX0_stepAt_1 : decode cX0_stepAt 1 = .ok (.iconst 1, 1) := by decide +kernel
theorem dX0_stepAt_2 : decode cX0_stepAt 2 = .ok (.iadd, 1) := by decide +kernel
theorem dX0_stepAt_3 : decode cX0_stepAt 3 = .ok (.bipush 16, 2) := by decide +kernel
theorem dX0_stepAt_5 : decode cX0_stepAt 5 = .ok (.imul, 1) := by decide +kernel
theorem dX0_stepAt_6 : decode cX0_stepAt 6 = .ok (.iload_n 2, 1) := by decide +kernel
theorem dX0_stepAt_7 : decode cX0_stepAt 7 = .ok (.iadd, 1) := by decide +kernel
theorem dX0_stepAt_8 : decode cX0_stepAt 8 = .ok (.istore_n 3, 1) := by decide +kernel
theorem dX0_stepAt_9 : decode cX0_stepAt 9 = .ok (.iload_n 3, 1) := by decide +kernel
theorem dX0_stepAt_10 : decode cX0_stepAt 10 = .ok (.ifCond .lt 21, 3) := by decide +kernel
theorem dX0_stepAt_13 : decode cX0_stepAt 13 = .ok (.iload_n 3, 1) := by decide +kernel
theorem dX0_stepAt_14 : decode cX0_stepAt 14 = .ok (.aload_n 0, 1) := by decide +kernel
theorem dX0_stepAt_15 : decode cX0_stepAt 15 = .ok (.getfield 9, 3) := by decide +kernel
theorem dX0_stepAt_18 : decode cX0_stepAt 18 = .ok (.arraylength, 1) := by decide +kernel
theorem dX0_stepAt_19 : decode cX0_stepAt 19 = .ok (.if_icmp .ge 12, 3) := by decide +kernel
theorem dX0_stepAt_22 : decode cX0_stepAt 22 = .ok (.aload_n 0, 1) := by decide +kernel
theorem dX0_stepAt_23 : decode cX0_stepAt 23 = .ok (.getfield 9, 3) := by decide +kernel
theorem dX0_stepAt_26 : decode cX0_stepAt 26 = .ok (.iload_n 3, 1) := by decide +kernel
theorem dX0_stepAt_27 : decode cX0_stepAt 27 = .ok (.iaload, 1) := by decide +kernel
theorem dX0_stepAt_28 : decode cX0_stepAt 28 = .ok (.goto 4, 3) := by decide +kernel
theorem dX0_stepAt_31 : decode cX0_stepAt 31 = .ok (.iconst 0, 1) := by decide +kernel
theorem dX0_stepAt_32 : decode cX0_stepAt 32 = .ok (.ireturn, 1) := by decide +kernel
theorem dX0_restAt_0 : decode cX0_restAt 0 = .ok (.iload_n 1, 1) := by decide +kernel
theorem dX0_restAt_1 : decode cX0_restAt 1 = .ok (.bipush 16, 2) := by decide +kernel
theorem dX0_restAt_3 : decode cX0_restAt 3 = .ok (.imul, 1) := by decide +kernel
theorem dX0_restAt_4 : decode cX0_restAt 4 = .ok (.iload_n 2, 1) := by decide +kernel
theorem dX0_restAt_5 : decode cX0_restAt 5 = .ok (.iadd, 1) := by decide +kernel
theorem dX0_restAt_6 : decode cX0_restAt 6 = .ok (.istore_n 3, 1) := by decide +kernel
theorem dX0_restAt_7 : decode cX0_restAt 7 = .ok (.iload_n 3, 1) := by decide +kernel
theorem dX0_restAt_8 : decode cX0_restAt 8 = .ok (.ifCond .lt 21, 3) := by decide +kernel
theorem dX0_restAt_11 : decode cX0_restAt 11 = .ok (.iload_n 3, 1) := by decide +kernel
theorem dX0_restAt_12 : decode cX0_restAt 12 = .ok (.aload_n 0, 1) := by decide +kernel
theorem dX0_restAt_13 : decode cX0_restAt 13 = .ok (.getfield 15, 3) := by decide +kernel
theorem dX0_restAt_16 : decode cX0_restAt 16 = .ok (.arraylength, 1) := by decide +kernel
theorem dX0_restAt_17 : decode cX0_restAt 17 = .ok (.if_icmp .ge 12, 3) := by decide +kernel
theorem dX0_restAt_20 : decode cX0_restAt 20 = .ok (.aload_n 0, 1) := by decide +kernel
theorem dX0_restAt_21 : decode cX0_restAt 21 = .ok (.getfield 15, 3) := by decide +kernel
theorem dX0_restAt_24 : decode cX0_restAt 24 = .ok (.iload_n 3, 1) := by decide +kernel
theorem dX0_restAt_25 : decode cX0_restAt 25 = .ok (.iaload, 1) := by decide +kernel
theorem dX0_restAt_26 : decode cX0_restAt 26 = .ok (.goto 4, 3) := by decide +kernel
theorem dX0_restAt_29 : decode cX0_restAt 29 = .ok (.iconst 0, 1) := by decide +kernel
theorem dX0_restAt_30 : decode cX0_restAt 30 = .ok (.ireturn, 1) := by decide +kernel
theorem dX0_contains_0 : decode cX0_contains 0 = .ok (.iload_n 0, 1) := by decide +kernel
theorem dX0_contains_1 : decode cX0_contains 1 = .ok (.iload_n 1, 1) := by decide +kernel
theorem dX0_contains_2 : decode cX0_contains 2 = .ok (.iconst 2, 1) := by decide +kernel
theorem dX0_contains_3 : decode cX0_contains 3 = .ok (.idiv, 1) := by decide +kernel
theorem dX0_contains_4 : decode cX0_contains 4 = .ok (.ishr, 1) := by decide +kernel
theorem dX0_contains_5 : decode cX0_contains 5 = .ok (.iconst 1, 1) := by decide +kernel
theorem dX0_contains_6 : decode cX0_contains 6 = .ok (.iand, 1) := by decide +kernel
theorem dX0_contains_7 : decode cX0_contains 7 = .ok (.iconst 1, 1) := by decide +kernel
theorem dX0_contains_8 : decode cX0_contains 8 = .ok (.if_icmp .ne 7, 3) := by decide +kernel
theorem dX0_contains_11 : decode cX0_contains 11 = .ok (.iconst 1, 1) := by decide +kernel
theorem dX0_contains_12 : decode cX0_contains 12 = .ok (.goto 4, 3) := by decide +kernel
theorem dX0_contains_15 : decode cX0_contains 15 = .ok (.iconst 0, 1) := by decide +kernel
theorem dX0_contains_16 : decode cX0_contains 16 = .ok (.ireturn, 1) := by decide +kernel
theorem dX0_without_0 : decode cX0_without 0 = .ok (.iload_n 0, 1) := by decide +kernel
theorem dX0_without_1 : decode cX0_without 1 = .ok (.iconst 1, 1) := by decide +kernel
theorem dX0_without_2 : decode cX0_without 2 = .ok (.iload_n 1, 1) := by decide +kernel
theorem dX0_without_3 : decode cX0_without 3 = .ok (.iconst 2, 1) := by decide +kernel
theorem dX0_without_4 : decode cX0_without 4 = .ok (.idiv, 1) := by decide +kernel
theorem dX0_without_5 : decode cX0_without 5 = .ok (.ishl, 1) := by decide +kernel
theorem dX0_without_6 : decode cX0_without 6 = .ok (.iconst (-1), 1) := by decide +kernel
theorem dX0_without_7 : decode cX0_without 7 = .ok (.ixor, 1) := by decide +kernel
theorem dX0_without_8 : decode cX0_without 8 = .ok (.iand, 1) := by decide +kernel
theorem dX0_without_9 : decode cX0_without 9 = .ok (.ireturn, 1) := by decide +kernel
theorem dX2_init_0 : decode cX2_init 0 = .ok (.aload_n 0, 1) := by decide +kernel
theorem dX2_init_1 : decode cX2_init 1 = .ok (.invokespecial 3, 3) := by decide +kernel
theorem dX2_init_4 : decode cX2_init 4 = .ok (.aload_n 0, 1) := by decide +kernel
theorem dX2_init_5 : decode cX2_init 5 = .ok (.iconst 4, 1) := by decide +kernel
theorem dX2_init_6 : decode cX2_init 6 = .ok (.anewarray 9, 3) := by decide +kernel
theorem dX2_init_9 : decode cX2_init 9 = .ok (.putfield 11, 3) := by decide +kernel
theorem dX2_init_12 : decode cX2_init 12 = .ok (.iconst 0, 1) := by decide +kernel
theorem dX2_init_13 : decode cX2_init 13 = .ok (.istore_n 1, 1) := by decide +kernel
theorem dX2_init_14 : decode cX2_init 14 = .ok (.iload_n 1, 1) := by decide +kernel
theorem dX2_init_15 : decode cX2_init 15 = .ok (.iconst 4, 1) := by decide +kernel
theorem dX2_init_16 : decode cX2_init 16 = .ok (.if_icmp .ge 22, 3) := by decide +kernel
theorem dX2_init_19 : decode cX2_init 19 = .ok (.aload_n 0, 1) := by decide +kernel
theorem dX2_init_20 : decode cX2_init 20 = .ok (.getfield 11, 3) := by decide +kernel
theorem dX2_init_23 : decode cX2_init 23 = .ok (.iload_n 1, 1) := by decide +kernel
theorem dX2_init_24 : decode cX2_init 24 = .ok (.new 9, 3) := by decide +kernel
theorem dX2_init_27 : decode cX2_init 27 = .ok (.dup, 1) := by decide +kernel
theorem dX2_init_28 : decode cX2_init 28 = .ok (.invokespecial 17, 3) := by decide +kernel
theorem dX2_init_31 : decode cX2_init 31 = .ok (.aastore, 1) := by decide +kernel
theorem dX2_init_32 : decode cX2_init 32 = .ok (.iinc 1 1, 3) := by decide +kernel
theorem dX2_init_35 : decode cX2_init 35 = .ok (.goto (-21), 3) := by decide +kernel
theorem dX2_init_38 : decode cX2_init 38 = .ok (.return_, 1) := by decide +kernel
theorem dX2_isEmpty_0 : decode cX2_isEmpty 0 = .ok (.aload_n 0, 1) := by decide +kernel
theorem dX2_isEmpty_1 : decode cX2_isEmpty 1 = .ok (.getfield 18, 3) := by decide +kernel
theorem dX2_isEmpty_4 : decode cX2_isEmpty 4 = .ok (.ifCond .ne 7, 3) := by decide +kernel
theorem dX2_isEmpty_7 : decode cX2_isEmpty 7 = .ok (.iconst 1, 1) := by decide +kernel
theorem dX2_isEmpty_8 : decode cX2_isEmpty 8 = .ok (.goto 4, 3) := by decide +kernel
theorem dX2_isEmpty_11 : decode cX2_isEmpty 11 = .ok (.iconst 0, 1) := by decide +kernel
theorem dX2_isEmpty_12 : decode cX2_isEmpty 12 = .ok (.ireturn, 1) := by decide +kernel
theorem dX2_depth_0 : decode cX2_depth 0 = .ok (.aload_n 0, 1) := by decide +kernel
theorem dX2_depth_1 : decode cX2_depth 1 = .ok (.getfield 18, 3) := by decide +kernel
theorem dX2_depth_4 : decode cX2_depth 4 = .ok (.ireturn, 1) := by decide +kernel
theorem dX2_keep_0 : decode cX2_keep 0 = .ok (.aload_n 0, 1) := by decide +kernel
theorem dX2_keep_1 : decode cX2_keep 1 = .ok (.aload_n 0, 1) := by decide +kernel
theorem dX2_keep_2 : decode cX2_keep 2 = .ok (.getfield 22, 3) := by decide +kernel
theorem dX2_keep_5 : decode cX2_keep 5 = .ok (.invokevirtual 25, 3) := by decide +kernel
theorem dX2_keep_8 : decode cX2_keep 8 = .ok (.astore_n 2, 1) := by decide +kernel
theorem dX2_keep_9 : decode cX2_keep 9 = .ok (.aload_n 2, 1) := by decide +kernel
theorem dX2_keep_10 : decode cX2_keep 10 = .ok (.ifnull 34, 3) := by decide +kernel
theorem dX2_keep_13 : decode cX2_keep 13 = .ok (.aload_n 2, 1) := by decide +kernel
theorem dX2_keep_14 : decode cX2_keep 14 = .ok (.aload_n 1, 1) := by decide +kernel
theorem dX2_keep_15 : decode cX2_keep 15 = .ok (.invokevirtual 29, 3) := by decide +kernel
theorem dX2_keep_18 : decode cX2_keep 18 = .ok (.aload_n 0, 1) := by decide +kernel
theorem dX2_keep_19 : decode cX2_keep 19 = .ok (.aload_n 0, 1) := by decide +kernel
theorem dX2_keep_20 : decode cX2_keep 20 = .ok (.getfield 22, 3) := by decide +kernel
theorem dX2_keep_23 : decode cX2_keep 23 = .ok (.iconst 1, 1) := by decide +kernel
theorem dX2_keep_24 : decode cX2_keep 24 = .ok (.iadd, 1) := by decide +kernel
theorem dX2_keep_25 : decode cX2_keep 25 = .ok (.iconst 4, 1) := by decide +kernel
theorem dX2_keep_26 : decode cX2_keep 26 = .ok (.irem, 1) := by decide +kernel
theorem dX2_keep_27 : decode cX2_keep 27 = .ok (.putfield 22, 3) := by decide +kernel
theorem dX2_keep_30 : decode cX2_keep 30 = .ok (.aload_n 0, 1) := by decide +kernel
theorem dX2_keep_31 : decode cX2_keep 31 = .ok (.aload_n 0, 1) := by decide +kernel
theorem dX2_keep_32 : decode cX2_keep 32 = .ok (.getfield 18, 3) := by decide +kernel
theorem dX2_keep_35 : decode cX2_keep 35 = .ok (.iconst 1, 1) := by decide +kernel
theorem dX2_keep_36 : decode cX2_keep 36 = .ok (.iadd, 1) := by decide +kernel
theorem dX2_keep_37 : decode cX2_keep 37 = .ok (.iconst 4, 1) := by decide +kernel
theorem dX2_keep_38 : decode cX2_keep 38 = .ok (.invokestatic 33, 3) := by decide +kernel
theorem dX2_keep_41 : decode cX2_keep 41 = .ok (.putfield 18, 3) := by decide +kernel
theorem dX2_keep_44 : decode cX2_keep 44 = .ok (.return_, 1) := by decide +kernel
theorem dX2_restore_0 : decode cX2_restore 0 = .ok (.aload_n 0, 1) := by decide +kernel
theorem dX2_restore_1 : decode cX2_restore 1 = .ok (.getfield 22, 3) := by decide +kernel
theorem dX2_restore_4 : decode cX2_restore 4 = .ok (.iconst 4, 1) := by decide +kernel
theorem dX2_restore_5 : decode cX2_restore 5 = .ok (.iadd, 1) := by decide +kernel
theorem dX2_restore_6 : decode cX2_restore 6 = .ok (.iconst 1, 1) := by decide +kernel
theorem dX2_restore_7 : decode cX2_restore 7 = .ok (.isub, 1) := by decide +kernel
theorem dX2_restore_8 : decode cX2_restore 8 = .ok (.iconst 4, 1) := by decide +kernel
theorem dX2_restore_9 : decode cX2_restore 9 = .ok (.irem, 1) := by decide +kernel
theorem dX2_restore_10 : decode cX2_restore 10 = .ok (.istore_n 2, 1) := by decide +kernel
theorem dX2_restore_11 : decode cX2_restore 11 = .ok (.aload_n 0, 1) := by decide +kernel
theorem dX2_restore_12 : decode cX2_restore 12 = .ok (.iload_n 2, 1) := by decide +kernel
theorem dX2_restore_13 : decode cX2_restore 13 = .ok (.invokevirtual 25, 3) := by decide +kernel
theorem dX2_restore_16 : decode cX2_restore 16 = .ok (.astore_n 3, 1) := by decide +kernel
theorem dX2_restore_17 : decode cX2_restore 17 = .ok (.aload_n 3, 1) := by decide +kernel
theorem dX2_restore_18 : decode cX2_restore 18 = .ok (.ifnull 30, 3) := by decide +kernel
theorem dX2_restore_21 : decode cX2_restore 21 = .ok (.aload_n 0, 1) := by decide +kernel
theorem dX2_restore_22 : decode cX2_restore 22 = .ok (.getfield 18, 3) := by decide +kernel
theorem dX2_restore_25 : decode cX2_restore 25 = .ok (.ifCond .le 23, 3) := by decide +kernel
theorem dX2_restore_28 : decode cX2_restore 28 = .ok (.aload_n 1, 1) := by decide +kernel
theorem dX2_restore_29 : decode cX2_restore 29 = .ok (.aload_n 3, 1) := by decide +kernel
theorem dX2_restore_30 : decode cX2_restore 30 = .ok (.invokevirtual 29, 3) := by decide +kernel
theorem dX2_restore_33 : decode cX2_restore 33 = .ok (.aload_n 0, 1) := by decide +kernel
theorem dX2_restore_34 : decode cX2_restore 34 = .ok (.iload_n 2, 1) := by decide +kernel
theorem dX2_restore_35 : decode cX2_restore 35 = .ok (.putfield 22, 3) := by decide +kernel
theorem dX2_restore_38 : decode cX2_restore 38 = .ok (.aload_n 0, 1) := by decide +kernel
theorem dX2_restore_39 : decode cX2_restore 39 = .ok (.dup, 1) := by decide +kernel
theorem dX2_restore_40 : decode cX2_restore 40 = .ok (.getfield 18, 3) := by decide +kernel
theorem dX2_restore_43 : decode cX2_restore 43 = .ok (.iconst 1, 1) := by decide +kernel
theorem dX2_restore_44 : decode cX2_restore 44 = .ok (.isub, 1) := by decide +kernel
theorem dX2_restore_45 : decode cX2_restore 45 = .ok (.putfield 18, 3) := by decide +kernel
theorem dX2_restore_48 : decode cX2_restore 48 = .ok (.return_, 1) := by decide +kernel
theorem dX2_slotAt_0 : decode cX2_slotAt 0 = .ok (.iload_n 1, 1) := by decide +kernel
theorem dX2_slotAt_1 : decode cX2_slotAt 1 = .ok (.ifCond .lt 17, 3) := by decide +kernel
theorem dX2_slotAt_4 : decode cX2_slotAt 4 = .ok (.iload_n 1, 1) := by decide +kernel
theorem dX2_slotAt_5 : decode cX2_slotAt 5 = .ok (.iconst 4, 1) := by decide +kernel
theorem dX2_slotAt_6 : decode cX2_slotAt 6 = .ok (.if_icmp .ge 12, 3) := by decide +kernel
theorem dX2_slotAt_9 : decode cX2_slotAt 9 = .ok (.aload_n 0, 1) := by decide +kernel
theorem dX2_slotAt_10 : decode cX2_slotAt 10 = .ok (.getfield 11, 3) := by decide +kernel
theorem dX2_slotAt_13 : decode cX2_slotAt 13 = .ok (.iload_n 1, 1) := by decide +kernel
theorem dX2_slotAt_14 : decode cX2_slotAt 14 = .ok (.aaload, 1) := by decide +kernel
theorem dX2_slotAt_15 : decode cX2_slotAt 15 = .ok (.goto 4, 3) := by decide +kernel
theorem dX2_slotAt_18 : decode cX2_slotAt 18 = .ok (.aconst_null, 1) := by decide +kernel
theorem dX2_slotAt_19 : decode cX2_slotAt 19 = .ok (.areturn, 1) := by decide +kernel
theorem dX3_init_0 : decode cX3_init 0 = .ok (.aload_n 0, 1) := by decide +kernel
theorem dX3_init_1 : decode cX3_init 1 = .ok (.invokespecial 3, 3) := by decide +kernel
theorem dX3_init_4 : decode cX3_init 4 = .ok (.aload_n 0, 1) := by decide +kernel
theorem dX3_init_5 : decode cX3_init 5 = .ok (.bipush 8, 2) := by decide +kernel
theorem dX3_init_7 : decode cX3_init 7 = .ok (.newarray .int, 2) := by decide +kernel
theorem dX3_init_9 : decode cX3_init 9 = .ok (.putfield 9, 3) := by decide +kernel
theorem dX3_init_12 : decode cX3_init 12 = .ok (.return_, 1) := by decide +kernel
theorem dX3_fewestRuns_0 : decode cX3_fewestRuns 0 = .ok (.aload_n 1, 1) := by decide +kernel
theorem dX3_fewestRuns_1 : decode cX3_fewestRuns 1 = .ok (.invokevirtual 15, 3) := by decide +kernel
theorem dX3_fewestRuns_4 : decode cX3_fewestRuns 4 = .ok (.bipush 8, 2) := by decide +kernel
theorem dX3_fewestRuns_6 : decode cX3_fewestRuns 6 = .ok (.invokestatic 21, 3) := by decide +kernel
theorem dX3_fewestRuns_9 : decode cX3_fewestRuns 9 = .ok (.istore_n 3, 1) := by decide +kernel
theorem dX3_fewestRuns_10 : decode cX3_fewestRuns 10 = .ok (.aload_n 0, 1) := by decide +kernel
theorem dX3_fewestRuns_11 : decode cX3_fewestRuns 11 = .ok (.aload_n 1, 1) := by decide +kernel
theorem dX3_fewestRuns_12 : decode cX3_fewestRuns 12 = .ok (.iload_n 2, 1) := by decide +kernel
theorem dX3_fewestRuns_13 : decode cX3_fewestRuns 13 = .ok (.iload_n 3, 1) := by decide +kernel
theorem dX3_fewestRuns_14 : decode cX3_fewestRuns 14 = .ok (.invokevirtual 27, 3) := by decide +kernel
theorem dX3_fewestRuns_17 : decode cX3_fewestRuns 17 = .ok (.iconst 0, 1) := by decide +kernel
theorem dX3_fewestRuns_18 : decode cX3_fewestRuns 18 = .ok (.istore 4, 2) := by decide +kernel
theorem dX3_fewestRuns_20 : decode cX3_fewestRuns 20 = .ok (.iconst 0, 1) := by decide +kernel
theorem dX3_fewestRuns_21 : decode cX3_fewestRuns 21 = .ok (.istore 5, 2) := by decide +kernel
theorem dX3_fewestRuns_23 : decode cX3_fewestRuns 23 = .ok (.iload 5, 2) := by decide +kernel
theorem dX3_fewestRuns_25 : decode cX3_fewestRuns 25 = .ok (.iload_n 3, 1) := by decide +kernel
theorem dX3_fewestRuns_26 : decode cX3_fewestRuns 26 = .ok (.if_icmp .ge 50, 3) := by decide +kernel
theorem dX3_fewestRuns_29 : decode cX3_fewestRuns 29 = .ok (.aload_n 1, 1) := by decide +kernel
theorem dX3_fewestRuns_30 : decode cX3_fewestRuns 30 = .ok (.iload 5, 2) := by decide +kernel
theorem dX3_fewestRuns_32 : decode cX3_fewestRuns 32 = .ok (.invokevirtual 31, 3) := by decide +kernel
theorem dX3_fewestRuns_35 : decode cX3_fewestRuns 35 = .ok (.iload_n 2, 1) := by decide +kernel
theorem dX3_fewestRuns_36 : decode cX3_fewestRuns 36 = .ok (.if_icmp .ne 34, 3) := by decide +kernel
theorem dX3_fewestRuns_39 : decode cX3_fewestRuns 39 = .ok (.aload_n 0, 1) := by decide +kernel
theorem dX3_fewestRuns_40 : decode cX3_fewestRuns 40 = .ok (.getfield 9, 3) := by decide +kernel
theorem dX3_fewestRuns_43 : decode cX3_fewestRuns 43 = .ok (.iload 5, 2) := by decide +kernel
theorem dX3_fewestRuns_45 : decode cX3_fewestRuns 45 = .ok (.iaload, 1) := by decide +kernel
theorem dX3_fewestRuns_46 : decode cX3_fewestRuns 46 = .ok (.iload 5, 2) := by decide +kernel
theorem dX3_fewestRuns_48 : decode cX3_fewestRuns 48 = .ok (.if_icmp .ne 22, 3) := by decide +kernel
theorem dX3_fewestRuns_51 : decode cX3_fewestRuns 51 = .ok (.iload 4, 2) := by decide +kernel
theorem dX3_fewestRuns_53 : decode cX3_fewestRuns 53 = .ok (.iconst 1, 1) := by decide +kernel
theorem dX3_fewestRuns_54 : decode cX3_fewestRuns 54 = .ok (.aload_n 0, 1) := by decide +kernel
theorem dX3_fewestRuns_55 : decode cX3_fewestRuns 55 = .ok (.aload_n 1, 1) := by decide +kernel
theorem dX3_fewestRuns_56 : decode cX3_fewestRuns 56 = .ok (.iload 5, 2) := by decide +kernel
theorem dX3_fewestRuns_58 : decode cX3_fewestRuns 58 = .ok (.iload_n 3, 1) := by decide +kernel
theorem dX3_fewestRuns_59 : decode cX3_fewestRuns 59 = .ok (.invokevirtual 35, 3) := by decide +kernel
theorem dX3_fewestRuns_62 : decode cX3_fewestRuns 62 = .ok (.iconst 2, 1) := by decide +kernel
theorem dX3_fewestRuns_63 : decode cX3_fewestRuns 63 = .ok (.idiv, 1) := by decide +kernel
theorem dX3_fewestRuns_64 : decode cX3_fewestRuns 64 = .ok (.invokestatic 39, 3) := by decide +kernel
theorem dX3_fewestRuns_67 : decode cX3_fewestRuns 67 = .ok (.iadd, 1) := by decide +kernel
theorem dX3_fewestRuns_68 : decode cX3_fewestRuns 68 = .ok (.istore 4, 2) := by decide +kernel
theorem dX3_fewestRuns_70 : decode cX3_fewestRuns 70 = .ok (.iinc 5 1, 3) := by decide +kernel
theorem dX3_fewestRuns_73 : decode cX3_fewestRuns 73 = .ok (.goto (-50), 3) := by decide +kernel
theorem dX3_fewestRuns_76 : decode cX3_fewestRuns 76 = .ok (.iload 4, 2) := by decide +kernel
theorem dX3_fewestRuns_78 : decode cX3_fewestRuns 78 = .ok (.ireturn, 1) := by decide +kernel
theorem dX3_joinComponents_0 : decode cX3_joinComponents 0 = .ok (.iconst 0, 1) := by decide +kernel
theorem dX3_joinComponents_1 : decode cX3_joinComponents 1 = .ok (.istore 4, 2) := by decide +kernel
theorem dX3_joinComponents_3 : decode cX3_joinComponents 3 = .ok (.iload 4, 2) := by decide +kernel
theorem dX3_joinComponents_5 : decode cX3_joinComponents 5 = .ok (.iload_n 3, 1) := by decide +kernel
theorem dX3_joinComponents_6 : decode cX3_joinComponents 6 = .ok (.if_icmp .ge 18, 3) := by decide +kernel
theorem dX3_joinComponents_9 : decode cX3_joinComponents 9 = .ok (.aload_n 0, 1) := by decide +kernel
theorem dX3_joinComponents_10 : decode cX3_joinComponents 10 = .ok (.getfield 9, 3) := by decide +kernel
theorem dX3_joinComponents_13 : decode cX3_joinComponents 13 = .ok (.iload 4, 2) := by decide +kernel
theorem dX3_joinComponents_15 : decode cX3_joinComponents 15 = .ok (.iload 4, 2) := by decide +kernel
theorem dX3_joinComponents_17 : decode cX3_joinComponents 17 = .ok (.iastore, 1) := by decide +kernel
theorem dX3_joinComponents_18 : decode cX3_joinComponents 18 = .ok (.iinc 4 1, 3) := by decide +kernel
theorem dX3_joinComponents_21 : decode cX3_joinComponents 21 = .ok (.goto (-18), 3) := by decide +kernel
theorem dX3_joinComponents_24 : decode cX3_joinComponents 24 = .ok (.iconst 0, 1) := by decide +kernel
theorem dX3_joinComponents_25 : decode cX3_joinComponents 25 = .ok (.istore 4, 2) := by decide +kernel
theorem dX3_joinComponents_27 : decode cX3_joinComponents 27 = .ok (.iload 4, 2) := by decide +kernel
theorem dX3_joinComponents_29 : decode cX3_joinComponents 29 = .ok (.iload_n 3, 1) := by decide +kernel
theorem dX3_joinComponents_30 : decode cX3_joinComponents 30 = .ok (.if_icmp .ge 75, 3) := by decide +kernel
theorem dX3_joinComponents_33 : decode cX3_joinComponents 33 = .ok (.iconst 0, 1) := by decide +kernel
theorem dX3_joinComponents_34 : decode cX3_joinComponents 34 = .ok (.istore 5, 2) := by decide +kernel
theorem dX3_joinComponents_36 : decode cX3_joinComponents 36 = .ok (.iload 5, 2) := by decide +kernel
theorem dX3_joinComponents_38 : decode cX3_joinComponents 38 = .ok (.iload 4, 2) := by decide +kernel
theorem dX3_joinComponents_40 : decode cX3_joinComponents 40 = .ok (.if_icmp .ge 59, 3) := by decide +kernel
theorem dX3_joinComponents_43 : decode cX3_joinComponents 43 = .ok (.aload_n 1, 1) := by decide +kernel
theorem dX3_joinComponents_44 : decode cX3_joinComponents 44 = .ok (.iload 4, 2) := by decide +kernel
theorem dX3_joinComponents_46 : decode cX3_joinComponents 46 = .ok (.invokevirtual 31, 3) := by decide +kernel
theorem dX3_joinComponents_49 : decode cX3_joinComponents 49 = .ok (.iload_n 2, 1) := by decide +kernel
theorem dX3_joinComponents_50 : decode cX3_joinComponents 50 = .ok (.if_icmp .ne 43, 3) := by decide +kernel
theorem dX3_joinComponents_53 : decode cX3_joinComponents 53 = .ok (.aload_n 1, 1) := by decide +kernel
theorem dX3_joinComponents_54 : decode cX3_joinComponents 54 = .ok (.iload 5, 2) := by decide +kernel
theorem dX3_joinComponents_56 : decode cX3_joinComponents 56 = .ok (.invokevirtual 31, 3) := by decide +kernel
theorem dX3_joinComponents_59 : decode cX3_joinComponents 59 = .ok (.iload_n 2, 1) := by decide +kernel
theorem dX3_joinComponents_60 : decode cX3_joinComponents 60 = .ok (.if_icmp .ne 33, 3) := by decide +kernel
theorem dX3_joinComponents_63 : decode cX3_joinComponents 63 = .ok (.aload_n 1, 1) := by decide +kernel
theorem dX3_joinComponents_64 : decode cX3_joinComponents 64 = .ok (.iload 4, 2) := by decide +kernel
theorem dX3_joinComponents_66 : decode cX3_joinComponents 66 = .ok (.iload 5, 2) := by decide +kernel
theorem dX3_joinComponents_68 : decode cX3_joinComponents 68 = .ok (.invokestatic 42, 3) := by decide +kernel
theorem dX3_joinComponents_71 : decode cX3_joinComponents 71 = .ok (.ifCond .eq 22, 3) := by decide +kernel
theorem dX3_joinComponents_74 : decode cX3_joinComponents 74 = .ok (.aload_n 0, 1) := by decide +kernel
theorem dX3_joinComponents_75 : decode cX3_joinComponents 75 = .ok (.aload_n 0, 1) := by decide +kernel
theorem dX3_joinComponents_76 : decode cX3_joinComponents 76 = .ok (.getfield 9, 3) := by decide +kernel
theorem dX3_joinComponents_79 : decode cX3_joinComponents 79 = .ok (.iload 4, 2) := by decide +kernel
theorem dX3_joinComponents_81 : decode cX3_joinComponents 81 = .ok (.iaload, 1) := by decide +kernel
theorem dX3_joinComponents_82 : decode cX3_joinComponents 82 = .ok (.aload_n 0, 1) := by decide +kernel
theorem dX3_joinComponents_83 : decode cX3_joinComponents 83 = .ok (.getfield 9, 3) := by decide +kernel
theorem dX3_joinComponents_86 : decode cX3_joinComponents 86 = .ok (.iload 5, 2) := by decide +kernel
theorem dX3_joinComponents_88 : decode cX3_joinComponents 88 = .ok (.iaload, 1) := by decide +kernel
theorem dX3_joinComponents_89 : decode cX3_joinComponents 89 = .ok (.iload_n 3, 1) := by decide +kernel
theorem dX3_joinComponents_90 : decode cX3_joinComponents 90 = .ok (.invokevirtual 46, 3) := by decide +kernel
theorem dX3_joinComponents_93 : decode cX3_joinComponents 93 = .ok (.iinc 5 1, 3) := by decide +kernel
theorem dX3_joinComponents_96 : decode cX3_joinComponents 96 = .ok (.goto (-60), 3) := by decide +kernel
theorem dX3_joinComponents_99 : decode cX3_joinComponents 99 = .ok (.iinc 4 1, 3) := by decide +kernel
theorem dX3_joinComponents_102 : decode cX3_joinComponents 102 = .ok (.goto (-75), 3) := by decide +kernel
theorem dX3_joinComponents_105 : decode cX3_joinComponents 105 = .ok (.return_, 1) := by decide +kernel
theorem dX3_touch_0 : decode cX3_touch 0 = .ok (.iconst 2, 1) := by decide +kernel
theorem dX3_touch_1 : decode cX3_touch 1 = .ok (.iload_n 1, 1) := by decide +kernel
theorem dX3_touch_2 : decode cX3_touch 2 = .ok (.imul, 1) := by decide +kernel
theorem dX3_touch_3 : decode cX3_touch 3 = .ok (.istore_n 3, 1) := by decide +kernel
theorem dX3_touch_4 : decode cX3_touch 4 = .ok (.iconst 2, 1) := by decide +kernel
theorem dX3_touch_5 : decode cX3_touch 5 = .ok (.iload_n 2, 1) := by decide +kernel
theorem dX3_touch_6 : decode cX3_touch 6 = .ok (.imul, 1) := by decide +kernel
theorem dX3_touch_7 : decode cX3_touch 7 = .ok (.istore 4, 2) := by decide +kernel
theorem dX3_touch_9 : decode cX3_touch 9 = .ok (.aload_n 0, 1) := by decide +kernel
theorem dX3_touch_10 : decode cX3_touch 10 = .ok (.iload_n 3, 1) := by decide +kernel
theorem dX3_touch_11 : decode cX3_touch 11 = .ok (.iload 4, 2) := by decide +kernel
theorem dX3_touch_13 : decode cX3_touch 13 = .ok (.invokevirtual 50, 3) := by decide +kernel
theorem dX3_touch_16 : decode cX3_touch 16 = .ok (.ifCond .ne 41, 3) := by decide +kernel
theorem dX3_touch_19 : decode cX3_touch 19 = .ok (.aload_n 0, 1) := by decide +kernel
theorem dX3_touch_20 : decode cX3_touch 20 = .ok (.iload_n 3, 1) := by decide +kernel
theorem dX3_touch_21 : decode cX3_touch 21 = .ok (.iload 4, 2) := by decide +kernel
theorem dX3_touch_23 : decode cX3_touch 23 = .ok (.iconst 1, 1) := by decide +kernel
theorem dX3_touch_24 : decode cX3_touch 24 = .ok (.iadd, 1) := by decide +kernel
theorem dX3_touch_25 : decode cX3_touch 25 = .ok (.invokevirtual 50, 3) := by decide +kernel
theorem dX3_touch_28 : decode cX3_touch 28 = .ok (.ifCond .ne 29, 3) := by decide +kernel
theorem dX3_touch_31 : decode cX3_touch 31 = .ok (.aload_n 0, 1) := by decide +kernel
theorem dX3_touch_32 : decode cX3_touch 32 = .ok (.iload_n 3, 1) := by decide +kernel
theorem dX3_touch_33 : decode cX3_touch 33 = .ok (.iconst 1, 1) := by decide +kernel
theorem dX3_touch_34 : decode cX3_touch 34 = .ok (.iadd, 1) := by decide +kernel
theorem dX3_touch_35 : decode cX3_touch 35 = .ok (.iload 4, 2) := by decide +kernel
theorem dX3_touch_37 : decode cX3_touch 37 = .ok (.invokevirtual 50, 3) := by decide +kernel
theorem dX3_touch_40 : decode cX3_touch 40 = .ok (.ifCond .ne 17, 3) := by decide +kernel
theorem dX3_touch_43 : decode cX3_touch 43 = .ok (.aload_n 0, 1) := by decide +kernel
theorem dX3_touch_44 : decode cX3_touch 44 = .ok (.iload_n 3, 1) := by decide +kernel
theorem dX3_touch_45 : decode cX3_touch 45 = .ok (.iconst 1, 1) := by decide +kernel
theorem dX3_touch_46 : decode cX3_touch 46 = .ok (.iadd, 1) := by decide +kernel
theorem dX3_touch_47 : decode cX3_touch 47 = .ok (.iload 4, 2) := by decide +kernel
theorem dX3_touch_49 : decode cX3_touch 49 = .ok (.iconst 1, 1) := by decide +kernel
theorem dX3_touch_50 : decode cX3_touch 50 = .ok (.iadd, 1) := by decide +kernel
theorem dX3_touch_51 : decode cX3_touch 51 = .ok (.invokevirtual 50, 3) := by decide +kernel
theorem dX3_touch_54 : decode cX3_touch 54 = .ok (.ifCond .eq 7, 3) := by decide +kernel
theorem dX3_touch_57 : decode cX3_touch 57 = .ok (.iconst 1, 1) := by decide +kernel
theorem dX3_touch_58 : decode cX3_touch 58 = .ok (.goto 4, 3) := by decide +kernel
theorem dX3_touch_61 : decode cX3_touch 61 = .ok (.iconst 0, 1) := by decide +kernel
theorem dX3_touch_62 : decode cX3_touch 62 = .ok (.ireturn, 1) := by decide +kernel
theorem dX3_rename_0 : decode cX3_rename 0 = .ok (.iconst 0, 1) := by decide +kernel
theorem dX3_rename_1 : decode cX3_rename 1 = .ok (.istore 4, 2) := by decide +kernel
theorem dX3_rename_3 : decode cX3_rename 3 = .ok (.iload 4, 2) := by decide +kernel
theorem dX3_rename_5 : decode cX3_rename 5 = .ok (.iload_n 3, 1) := by decide +kernel
theorem dX3_rename_6 : decode cX3_rename 6 = .ok (.if_icmp .ge 28, 3) := by decide +kernel
theorem dX3_rename_9 : decode cX3_rename 9 = .ok (.aload_n 0, 1) := by decide +kernel
theorem dX3_rename_10 : decode cX3_rename 10 = .ok (.getfield 9, 3) := by decide +kernel
theorem dX3_rename_13 : decode cX3_rename 13 = .ok (.iload 4, 2) := by decide +kernel
theorem dX3_rename_15 : decode cX3_rename 15 = .ok (.iaload, 1) := by decide +kernel
theorem dX3_rename_16 : decode cX3_rename 16 = .ok (.iload_n 1, 1) := by decide +kernel
theorem dX3_rename_17 : decode cX3_rename 17 = .ok (.if_icmp .ne 11, 3) := by decide +kernel
theorem dX3_rename_20 : decode cX3_rename 20 = .ok (.aload_n 0, 1) := by decide +kernel
theorem dX3_rename_21 : decode cX3_rename 21 = .ok (.getfield 9, 3) := by decide +kernel
theorem dX3_rename_24 : decode cX3_rename 24 = .ok (.iload 4, 2) := by decide +kernel
theorem dX3_rename_26 : decode cX3_rename 26 = .ok (.iload_n 2, 1) := by decide +kernel
theorem dX3_rename_27 : decode cX3_rename 27 = .ok (.iastore, 1) := by decide +kernel
theorem dX3_rename_28 : decode cX3_rename 28 = .ok (.iinc 4 1, 3) := by decide +kernel
theorem dX3_rename_31 : decode cX3_rename 31 = .ok (.goto (-28), 3) := by decide +kernel
theorem dX3_rename_34 : decode cX3_rename 34 = .ok (.return_, 1) := by decide +kernel
theorem dX3_countOddVertices_0 : decode cX3_countOddVertices 0 = .ok (.iconst 0, 1) := by decide +kernel
theorem dX3_countOddVertices_1 : decode cX3_countOddVertices 1 = .ok (.istore 4, 2) := by decide +kernel
theorem dX3_countOddVertices_3 : decode cX3_countOddVertices 3 = .ok (.iconst 0, 1) := by decide +kernel
theorem dX3_countOddVertices_4 : decode cX3_countOddVertices 4 = .ok (.istore 5, 2) := by decide +kernel
theorem dX3_countOddVertices_6 : decode cX3_countOddVertices 6 = .ok (.iload 5, 2) := by decide +kernel
theorem dX3_countOddVertices_8 : decode cX3_countOddVertices 8 = .ok (.iconst 2, 1) := by decide +kernel
theorem dX3_countOddVertices_9 : decode cX3_countOddVertices 9 = .ok (.iload_n 3, 1) := by decide +kernel
theorem dX3_countOddVertices_10 : decode cX3_countOddVertices 10 = .ok (.imul, 1) := by decide +kernel
theorem dX3_countOddVertices_11 : decode cX3_countOddVertices 11 = .ok (.if_icmp .ge 36, 3) := by decide +kernel
theorem dX3_countOddVertices_14 : decode cX3_countOddVertices 14 = .ok (.aload_n 0, 1) := by decide +kernel
theorem dX3_countOddVertices_15 : decode cX3_countOddVertices 15 = .ok (.getfield 9, 3) := by decide +kernel
theorem dX3_countOddVertices_18 : decode cX3_countOddVertices 18 = .ok (.iload 5, 2) := by decide +kernel
theorem dX3_countOddVertices_20 : decode cX3_countOddVertices 20 = .ok (.iconst 2, 1) := by decide +kernel
theorem dX3_countOddVertices_21 : decode cX3_countOddVertices 21 = .ok (.idiv, 1) := by decide +kernel
theorem dX3_countOddVertices_22 : decode cX3_countOddVertices 22 = .ok (.iaload, 1) := by decide +kernel
theorem dX3_countOddVertices_23 : decode cX3_countOddVertices 23 = .ok (.iload_n 2, 1) := by decide +kernel
theorem dX3_countOddVertices_24 : decode cX3_countOddVertices 24 = .ok (.if_icmp .ne 17, 3) := by decide +kernel
theorem dX3_countOddVertices_27 : decode cX3_countOddVertices 27 = .ok (.aload_n 0, 1) := by decide +kernel
theorem dX3_countOddVertices_28 : decode cX3_countOddVertices 28 = .ok (.aload_n 1, 1) := by decide +kernel
theorem dX3_countOddVertices_29 : decode cX3_countOddVertices 29 = .ok (.iload 5, 2) := by decide +kernel
theorem dX3_countOddVertices_31 : decode cX3_countOddVertices 31 = .ok (.iload_n 3, 1) := by decide +kernel
theorem dX3_countOddVertices_32 : decode cX3_countOddVertices 32 = .ok (.invokevirtual 54, 3) := by decide +kernel
theorem dX3_countOddVertices_35 : decode cX3_countOddVertices 35 = .ok (.ifCond .eq 6, 3) := by decide +kernel
theorem dX3_countOddVertices_38 : decode cX3_countOddVertices 38 = .ok (.iinc 4 1, 3) := by decide +kernel
theorem dX3_countOddVertices_41 : decode cX3_countOddVertices 41 = .ok (.iinc 5 1, 3) := by decide +kernel
theorem dX3_countOddVertices_44 : decode cX3_countOddVertices 44 = .ok (.goto (-38), 3) := by decide +kernel
theorem dX3_countOddVertices_47 : decode cX3_countOddVertices 47 = .ok (.iload 4, 2) := by decide +kernel
theorem dX3_countOddVertices_49 : decode cX3_countOddVertices 49 = .ok (.ireturn, 1) := by decide +kernel
theorem dX3_isOddVertex_0 : decode cX3_isOddVertex 0 = .ok (.iconst 0, 1) := by decide +kernel
theorem dX3_isOddVertex_1 : decode cX3_isOddVertex 1 = .ok (.istore 4, 2) := by decide +kernel
theorem dX3_isOddVertex_3 : decode cX3_isOddVertex 3 = .ok (.iconst 0, 1) := by decide +kernel
theorem dX3_isOddVertex_4 : decode cX3_isOddVertex 4 = .ok (.istore 5, 2) := by decide +kernel
theorem dX3_isOddVertex_6 : decode cX3_isOddVertex 6 = .ok (.iload 5, 2) := by decide +kernel
theorem dX3_isOddVertex_8 : decode cX3_isOddVertex 8 = .ok (.iconst 2, 1) := by decide +kernel
theorem dX3_isOddVertex_9 : decode cX3_isOddVertex 9 = .ok (.iload_n 3, 1) := by decide +kernel
theorem dX3_isOddVertex_10 : decode cX3_isOddVertex 10 = .ok (.imul, 1) := by decide +kernel
theorem dX3_isOddVertex_11 : decode cX3_isOddVertex 11 = .ok (.if_icmp .ge 50, 3) := by decide +kernel
theorem dX3_isOddVertex_14 : decode cX3_isOddVertex 14 = .ok (.aload_n 0, 1) := by decide +kernel
theorem dX3_isOddVertex_15 : decode cX3_isOddVertex 15 = .ok (.getfield 9, 3) := by decide +kernel
theorem dX3_isOddVertex_18 : decode cX3_isOddVertex 18 = .ok (.iload 5, 2) := by decide +kernel
theorem dX3_isOddVertex_20 : decode cX3_isOddVertex 20 = .ok (.iconst 2, 1) := by decide +kernel
theorem dX3_isOddVertex_21 : decode cX3_isOddVertex 21 = .ok (.idiv, 1) := by decide +kernel
theorem dX3_isOddVertex_22 : decode cX3_isOddVertex 22 = .ok (.iaload, 1) := by decide +kernel
theorem dX3_isOddVertex_23 : decode cX3_isOddVertex 23 = .ok (.aload_n 0, 1) := by decide +kernel
theorem dX3_isOddVertex_24 : decode cX3_isOddVertex 24 = .ok (.getfield 9, 3) := by decide +kernel
theorem dX3_isOddVertex_27 : decode cX3_isOddVertex 27 = .ok (.iload_n 2, 1) := by decide +kernel
theorem dX3_isOddVertex_28 : decode cX3_isOddVertex 28 = .ok (.iconst 2, 1) := by decide +kernel
theorem dX3_isOddVertex_29 : decode cX3_isOddVertex 29 = .ok (.idiv, 1) := by decide +kernel
theorem dX3_isOddVertex_30 : decode cX3_isOddVertex 30 = .ok (.iaload, 1) := by decide +kernel
theorem dX3_isOddVertex_31 : decode cX3_isOddVertex 31 = .ok (.if_icmp .ne 24, 3) := by decide +kernel
theorem dX3_isOddVertex_34 : decode cX3_isOddVertex 34 = .ok (.aload_n 1, 1) := by decide +kernel
theorem dX3_isOddVertex_35 : decode cX3_isOddVertex 35 = .ok (.iload_n 2, 1) := by decide +kernel
theorem dX3_isOddVertex_36 : decode cX3_isOddVertex 36 = .ok (.iload 5, 2) := by decide +kernel
theorem dX3_isOddVertex_38 : decode cX3_isOddVertex 38 = .ok (.invokevirtual 50, 3) := by decide +kernel
theorem dX3_isOddVertex_41 : decode cX3_isOddVertex 41 = .ok (.ifCond .eq 14, 3) := by decide +kernel
theorem dX3_isOddVertex_44 : decode cX3_isOddVertex 44 = .ok (.iload 5, 2) := by decide +kernel
theorem dX3_isOddVertex_46 : decode cX3_isOddVertex 46 = .ok (.iload_n 2, 1) := by decide +kernel
theorem dX3_isOddVertex_47 : decode cX3_isOddVertex 47 = .ok (.if_icmp .ge 5, 3) := by decide +kernel
theorem dX3_isOddVertex_50 : decode cX3_isOddVertex 50 = .ok (.iconst 0, 1) := by decide +kernel
theorem dX3_isOddVertex_51 : decode cX3_isOddVertex 51 = .ok (.ireturn, 1) := by decide +kernel
theorem dX3_isOddVertex_52 : decode cX3_isOddVertex 52 = .ok (.iinc 4 1, 3) := by decide +kernel
theorem dX3_isOddVertex_55 : decode cX3_isOddVertex 55 = .ok (.iinc 5 1, 3) := by decide +kernel
theorem dX3_isOddVertex_58 : decode cX3_isOddVertex 58 = .ok (.goto (-52), 3) := by decide +kernel
theorem dX3_isOddVertex_61 : decode cX3_isOddVertex 61 = .ok (.iload 4, 2) := by decide +kernel
theorem dX3_isOddVertex_63 : decode cX3_isOddVertex 63 = .ok (.iconst 2, 1) := by decide +kernel
theorem dX3_isOddVertex_64 : decode cX3_isOddVertex 64 = .ok (.irem, 1) := by decide +kernel
theorem dX3_isOddVertex_65 : decode cX3_isOddVertex 65 = .ok (.iconst 1, 1) := by decide +kernel
theorem dX3_isOddVertex_66 : decode cX3_isOddVertex 66 = .ok (.if_icmp .ne 7, 3) := by decide +kernel
theorem dX3_isOddVertex_69 : decode cX3_isOddVertex 69 = .ok (.iconst 1, 1) := by decide +kernel
theorem dX3_isOddVertex_70 : decode cX3_isOddVertex 70 = .ok (.goto 4, 3) := by decide +kernel
theorem dX3_isOddVertex_73 : decode cX3_isOddVertex 73 = .ok (.iconst 0, 1) := by decide +kernel
theorem dX3_isOddVertex_74 : decode cX3_isOddVertex 74 = .ok (.ireturn, 1) := by decide +kernel
theorem dX4_init_0 : decode cX4_init 0 = .ok (.aload_n 0, 1) := by decide +kernel
theorem dX4_init_1 : decode cX4_init 1 = .ok (.invokespecial 3, 3) := by decide +kernel
theorem dX4_init_4 : decode cX4_init 4 = .ok (.aload_n 0, 1) := by decide +kernel
theorem dX4_init_5 : decode cX4_init 5 = .ok (.bipush 8, 2) := by decide +kernel
theorem dX4_init_7 : decode cX4_init 7 = .ok (.newarray .int, 2) := by decide +kernel
theorem dX4_init_9 : decode cX4_init 9 = .ok (.putfield 9, 3) := by decide +kernel
theorem dX4_init_12 : decode cX4_init 12 = .ok (.return_, 1) := by decide +kernel
theorem dX4_compute_0 : decode cX4_compute 0 = .ok (.aload_n 1, 1) := by decide +kernel
theorem dX4_compute_1 : decode cX4_compute 1 = .ok (.invokevirtual 15, 3) := by decide +kernel
theorem dX4_compute_4 : decode cX4_compute 4 = .ok (.bipush 8, 2) := by decide +kernel
theorem dX4_compute_6 : decode cX4_compute 6 = .ok (.invokestatic 21, 3) := by decide +kernel
theorem dX4_compute_9 : decode cX4_compute 9 = .ok (.istore 4, 2) := by decide +kernel
theorem dX4_compute_11 : decode cX4_compute 11 = .ok (.iconst 0, 1) := by decide +kernel
theorem dX4_compute_12 : decode cX4_compute 12 = .ok (.istore 5, 2) := by decide +kernel
theorem dX4_compute_14 : decode cX4_compute 14 = .ok (.iload 5, 2) := by decide +kernel
theorem dX4_compute_16 : decode cX4_compute 16 = .ok (.iload 4, 2) := by decide +kernel
theorem dX4_compute_18 : decode cX4_compute 18 = .ok (.if_icmp .ge 68, 3) := by decide +kernel
theorem dX4_compute_21 : decode cX4_compute 21 = .ok (.aload_n 0, 1) := by decide +kernel
theorem dX4_compute_22 : decode cX4_compute 22 = .ok (.getfield 9, 3) := by decide +kernel
theorem dX4_compute_25 : decode cX4_compute 25 = .ok (.iload 5, 2) := by decide +kernel
theorem dX4_compute_27 : decode cX4_compute 27 = .ok (.iconst 0, 1) := by decide +kernel
theorem dX4_compute_28 : decode cX4_compute 28 = .ok (.iastore, 1) := by decide +kernel
theorem dX4_compute_29 : decode cX4_compute 29 = .ok (.aload_n 1, 1) := by decide +kernel
theorem dX4_compute_30 : decode cX4_compute 30 = .ok (.iload 5, 2) := by decide +kernel
theorem dX4_compute_32 : decode cX4_compute 32 = .ok (.invokevirtual 27, 3) := by decide +kernel
theorem dX4_compute_35 : decode cX4_compute 35 = .ok (.ifCond .eq 45, 3) := by decide +kernel
theorem dX4_compute_38 : decode cX4_compute 38 = .ok (.aload_n 0, 1) := by decide +kernel
theorem dX4_compute_39 : decode cX4_compute 39 = .ok (.iload 5, 2) := by decide +kernel
theorem dX4_compute_41 : decode cX4_compute 41 = .ok (.invokevirtual 31, 3) := by decide +kernel
theorem dX4_compute_44 : decode cX4_compute 44 = .ok (.iconst 2, 1) := by decide +kernel
theorem dX4_compute_45 : decode cX4_compute 45 = .ok (.iload_n 3, 1) := by decide +kernel
theorem dX4_compute_46 : decode cX4_compute 46 = .ok (.imul, 1) := by decide +kernel
theorem dX4_compute_47 : decode cX4_compute 47 = .ok (.aload_n 1, 1) := by decide +kernel
theorem dX4_compute_48 : decode cX4_compute 48 = .ok (.iload 5, 2) := by decide +kernel
theorem dX4_compute_50 : decode cX4_compute 50 = .ok (.invokevirtual 35, 3) := by decide +kernel
theorem dX4_compute_53 : decode cX4_compute 53 = .ok (.imul, 1) := by decide +kernel
theorem dX4_compute_54 : decode cX4_compute 54 = .ok (.iadd, 1) := by decide +kernel
theorem dX4_compute_55 : decode cX4_compute 55 = .ok (.istore 6, 2) := by decide +kernel
theorem dX4_compute_57 : decode cX4_compute 57 = .ok (.aload_n 1, 1) := by decide +kernel
theorem dX4_compute_58 : decode cX4_compute 58 = .ok (.iload 5, 2) := by decide +kernel
theorem dX4_compute_60 : decode cX4_compute 60 = .ok (.iload_n 2, 1) := by decide +kernel
theorem dX4_compute_61 : decode cX4_compute 61 = .ok (.invokevirtual 38, 3) := by decide +kernel
theorem dX4_compute_64 : decode cX4_compute 64 = .ok (.istore 7, 2) := by decide +kernel
theorem dX4_compute_66 : decode cX4_compute 66 = .ok (.aload_n 0, 1) := by decide +kernel
theorem dX4_compute_67 : decode cX4_compute 67 = .ok (.getfield 9, 3) := by decide +kernel
theorem dX4_compute_70 : decode cX4_compute 70 = .ok (.iload 5, 2) := by decide +kernel
theorem dX4_compute_72 : decode cX4_compute 72 = .ok (.iload 7, 2) := by decide +kernel
theorem dX4_compute_74 : decode cX4_compute 74 = .ok (.iload 6, 2) := by decide +kernel
theorem dX4_compute_76 : decode cX4_compute 76 = .ok (.invokestatic 21, 3) := by decide +kernel
theorem dX4_compute_79 : decode cX4_compute 79 = .ok (.iastore, 1) := by decide +kernel
theorem dX4_compute_80 : decode cX4_compute 80 = .ok (.iinc 5 1, 3) := by decide +kernel
theorem dX4_compute_83 : decode cX4_compute 83 = .ok (.goto (-69), 3) := by decide +kernel
theorem dX4_compute_86 : decode cX4_compute 86 = .ok (.iload 4, 2) := by decide +kernel
theorem dX4_compute_88 : decode cX4_compute 88 = .ok (.iconst 1, 1) := by decide +kernel
theorem dX4_compute_89 : decode cX4_compute 89 = .ok (.isub, 1) := by decide +kernel
theorem dX4_compute_90 : decode cX4_compute 90 = .ok (.istore 5, 2) := by decide +kernel
theorem dX4_compute_92 : decode cX4_compute 92 = .ok (.iload 5, 2) := by decide +kernel
theorem dX4_compute_94 : decode cX4_compute 94 = .ok (.ifCond .le 52, 3) := by decide +kernel
theorem dX4_compute_97 : decode cX4_compute 97 = .ok (.aload_n 0, 1) := by decide +kernel
theorem dX4_compute_98 : decode cX4_compute 98 = .ok (.getfield 9, 3) := by decide +kernel
theorem dX4_compute_101 : decode cX4_compute 101 = .ok (.iload 5, 2) := by decide +kernel
theorem dX4_compute_103 : decode cX4_compute 103 = .ok (.iaload, 1) := by decide +kernel
theorem dX4_compute_104 : decode cX4_compute 104 = .ok (.iconst 2, 1) := by decide +kernel
theorem dX4_compute_105 : decode cX4_compute 105 = .ok (.iload_n 3, 1) := by decide +kernel
theorem dX4_compute_106 : decode cX4_compute 106 = .ok (.imul, 1) := by decide +kernel
theorem dX4_compute_107 : decode cX4_compute 107 = .ok (.aload_n 1, 1) := by decide +kernel
theorem dX4_compute_108 : decode cX4_compute 108 = .ok (.iload 5, 2) := by decide +kernel
theorem dX4_compute_110 : decode cX4_compute 110 = .ok (.invokevirtual 35, 3) := by decide +kernel
theorem dX4_compute_113 : decode cX4_compute 113 = .ok (.imul, 1) := by decide +kernel
theorem dX4_compute_114 : decode cX4_compute 114 = .ok (.iadd, 1) := by decide +kernel
theorem dX4_compute_115 : decode cX4_compute 115 = .ok (.istore 6, 2) := by decide +kernel
theorem dX4_compute_117 : decode cX4_compute 117 = .ok (.aload_n 0, 1) := by decide +kernel
theorem dX4_compute_118 : decode cX4_compute 118 = .ok (.getfield 9, 3) := by decide +kernel
theorem dX4_compute_121 : decode cX4_compute 121 = .ok (.iload 5, 2) := by decide +kernel
theorem dX4_compute_123 : decode cX4_compute 123 = .ok (.iconst 1, 1) := by decide +kernel
theorem dX4_compute_124 : decode cX4_compute 124 = .ok (.isub, 1) := by decide +kernel
theorem dX4_compute_125 : decode cX4_compute 125 = .ok (.aload_n 0, 1) := by decide +kernel
theorem dX4_compute_126 : decode cX4_compute 126 = .ok (.getfield 9, 3) := by decide +kernel
theorem dX4_compute_129 : decode cX4_compute 129 = .ok (.iload 5, 2) := by decide +kernel
theorem dX4_compute_131 : decode cX4_compute 131 = .ok (.iconst 1, 1) := by decide +kernel
theorem dX4_compute_132 : decode cX4_compute 132 = .ok (.isub, 1) := by decide +kernel
theorem dX4_compute_133 : decode cX4_compute 133 = .ok (.iaload, 1) := by decide +kernel
theorem dX4_compute_134 : decode cX4_compute 134 = .ok (.iload 6, 2) := by decide +kernel
theorem dX4_compute_136 : decode cX4_compute 136 = .ok (.invokestatic 21, 3) := by decide +kernel
theorem dX4_compute_139 : decode cX4_compute 139 = .ok (.iastore, 1) := by decide +kernel
theorem dX4_compute_140 : decode cX4_compute 140 = .ok (.iinc 5 (-1), 3) := by decide +kernel
theorem dX4_compute_143 : decode cX4_compute 143 = .ok (.goto (-51), 3) := by decide +kernel
theorem dX4_compute_146 : decode cX4_compute 146 = .ok (.return_, 1) := by decide +kernel
theorem dX4_endAt_0 : decode cX4_endAt 0 = .ok (.iload_n 1, 1) := by decide +kernel
theorem dX4_endAt_1 : decode cX4_endAt 1 = .ok (.iconst 0, 1) := by decide +kernel
theorem dX4_endAt_2 : decode cX4_endAt 2 = .ok (.bipush 7, 2) := by decide +kernel
theorem dX4_endAt_4 : decode cX4_endAt 4 = .ok (.invokestatic 41, 3) := by decide +kernel
theorem dX4_endAt_7 : decode cX4_endAt 7 = .ok (.ifCond .eq 12, 3) := by decide +kernel
theorem dX4_endAt_10 : decode cX4_endAt 10 = .ok (.aload_n 0, 1) := by decide +kernel
theorem dX4_endAt_11 : decode cX4_endAt 11 = .ok (.getfield 9, 3) := by decide +kernel
theorem dX4_endAt_14 : decode cX4_endAt 14 = .ok (.iload_n 1, 1) := by decide +kernel
theorem dX4_endAt_15 : decode cX4_endAt 15 = .ok (.iaload, 1) := by decide +kernel
theorem dX4_endAt_16 : decode cX4_endAt 16 = .ok (.goto 4, 3) := by decide +kernel
theorem dX4_endAt_19 : decode cX4_endAt 19 = .ok (.iconst 0, 1) := by decide +kernel
theorem dX4_endAt_20 : decode cX4_endAt 20 = .ok (.ireturn, 1) := by decide +kernel
theorem dX4_beginAt_0 : decode cX4_beginAt 0 = .ok (.aload_n 0, 1) := by decide +kernel
theorem dX4_beginAt_1 : decode cX4_beginAt 1 = .ok (.iload_n 1, 1) := by decide +kernel
theorem dX4_beginAt_2 : decode cX4_beginAt 2 = .ok (.iconst 1, 1) := by decide +kernel
theorem dX4_beginAt_3 : decode cX4_beginAt 3 = .ok (.isub, 1) := by decide +kernel
theorem dX4_beginAt_4 : decode cX4_beginAt 4 = .ok (.invokevirtual 45, 3) := by decide +kernel
theorem dX4_beginAt_7 : decode cX4_beginAt 7 = .ok (.ireturn, 1) := by decide +kernel
