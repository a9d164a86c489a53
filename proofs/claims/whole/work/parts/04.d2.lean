theorem dX5_init_0 : decode cX5_init 0 = .ok (.aload_n 0, 1) := by decide +kernel
theorem dX5_init_1 : decode cX5_init 1 = .ok (.invokespecial 3, 3) := by decide +kernel
theorem dX5_init_4 : decode cX5_init 4 = .ok (.aload_n 0, 1) := by decide +kernel
theorem dX5_init_5 : decode cX5_init 5 = .ok (.new 9, 3) := by decide +kernel
theorem dX5_init_8 : decode cX5_init 8 = .ok (.dup, 1) := by decide +kernel
theorem dX5_init_9 : decode cX5_init 9 = .ok (.invokespecial 11, 3) := by decide +kernel
theorem dX5_init_12 : decode cX5_init 12 = .ok (.putfield 12, 3) := by decide +kernel
theorem dX5_init_15 : decode cX5_init 15 = .ok (.aload_n 0, 1) := by decide +kernel
theorem dX5_init_16 : decode cX5_init 16 = .ok (.new 16, 3) := by decide +kernel
theorem dX5_init_19 : decode cX5_init 19 = .ok (.dup, 1) := by decide +kernel
theorem dX5_init_20 : decode cX5_init 20 = .ok (.invokespecial 18, 3) := by decide +kernel
theorem dX5_init_23 : decode cX5_init 23 = .ok (.putfield 19, 3) := by decide +kernel
theorem dX5_init_26 : decode cX5_init 26 = .ok (.aload_n 0, 1) := by decide +kernel
theorem dX5_init_27 : decode cX5_init 27 = .ok (.new 23, 3) := by decide +kernel
theorem dX5_init_30 : decode cX5_init 30 = .ok (.dup, 1) := by decide +kernel
theorem dX5_init_31 : decode cX5_init 31 = .ok (.invokespecial 25, 3) := by decide +kernel
theorem dX5_init_34 : decode cX5_init 34 = .ok (.putfield 26, 3) := by decide +kernel
theorem dX5_init_37 : decode cX5_init 37 = .ok (.aload_n 0, 1) := by decide +kernel
theorem dX5_init_38 : decode cX5_init 38 = .ok (.new 30, 3) := by decide +kernel
theorem dX5_init_41 : decode cX5_init 41 = .ok (.dup, 1) := by decide +kernel
theorem dX5_init_42 : decode cX5_init 42 = .ok (.invokespecial 32, 3) := by decide +kernel
theorem dX5_init_45 : decode cX5_init 45 = .ok (.putfield 33, 3) := by decide +kernel
theorem dX5_init_48 : decode cX5_init 48 = .ok (.aload_n 0, 1) := by decide +kernel
theorem dX5_init_49 : decode cX5_init 49 = .ok (.new 37, 3) := by decide +kernel
theorem dX5_init_52 : decode cX5_init 52 = .ok (.dup, 1) := by decide +kernel
theorem dX5_init_53 : decode cX5_init 53 = .ok (.invokespecial 39, 3) := by decide +kernel
theorem dX5_init_56 : decode cX5_init 56 = .ok (.putfield 40, 3) := by decide +kernel
theorem dX5_init_59 : decode cX5_init 59 = .ok (.aload_n 0, 1) := by decide +kernel
theorem dX5_init_60 : decode cX5_init 60 = .ok (.bipush 50, 2) := by decide +kernel
theorem dX5_init_62 : decode cX5_init 62 = .ok (.putfield 44, 3) := by decide +kernel
theorem dX5_init_65 : decode cX5_init 65 = .ok (.aload_n 0, 1) := by decide +kernel
theorem dX5_init_66 : decode cX5_init 66 = .ok (.sipush 400, 3) := by decide +kernel
theorem dX5_init_69 : decode cX5_init 69 = .ok (.putfield 48, 3) := by decide +kernel
theorem dX5_init_72 : decode cX5_init 72 = .ok (.aload_n 0, 1) := by decide +kernel
theorem dX5_init_73 : decode cX5_init 73 = .ok (.bipush 10, 2) := by decide +kernel
theorem dX5_init_75 : decode cX5_init 75 = .ok (.putfield 51, 3) := by decide +kernel
theorem dX5_init_78 : decode cX5_init 78 = .ok (.return_, 1) := by decide +kernel
theorem dX5_addStroke_0 : decode cX5_addStroke 0 = .ok (.iload_n 1, 1) := by decide +kernel
theorem dX5_addStroke_1 : decode cX5_addStroke 1 = .ok (.iload_n 2, 1) := by decide +kernel
theorem dX5_addStroke_2 : decode cX5_addStroke 2 = .ok (.invokestatic 54, 3) := by decide +kernel
theorem dX5_addStroke_5 : decode cX5_addStroke 5 = .ok (.ifCond .eq 31, 3) := by decide +kernel
theorem dX5_addStroke_8 : decode cX5_addStroke 8 = .ok (.iload_n 3, 1) := by decide +kernel
theorem dX5_addStroke_9 : decode cX5_addStroke 9 = .ok (.iload 4, 2) := by decide +kernel
theorem dX5_addStroke_11 : decode cX5_addStroke 11 = .ok (.invokestatic 54, 3) := by decide +kernel
theorem dX5_addStroke_14 : decode cX5_addStroke 14 = .ok (.ifCond .eq 22, 3) := by decide +kernel
theorem dX5_addStroke_17 : decode cX5_addStroke 17 = .ok (.iload 5, 2) := by decide +kernel
theorem dX5_addStroke_19 : decode cX5_addStroke 19 = .ok (.invokestatic 58, 3) := by decide +kernel
theorem dX5_addStroke_22 : decode cX5_addStroke 22 = .ok (.ifCond .eq 14, 3) := by decide +kernel
theorem dX5_addStroke_25 : decode cX5_addStroke 25 = .ok (.iload_n 1, 1) := by decide +kernel
theorem dX5_addStroke_26 : decode cX5_addStroke 26 = .ok (.iload_n 3, 1) := by decide +kernel
theorem dX5_addStroke_27 : decode cX5_addStroke 27 = .ok (.if_icmp .ne 11, 3) := by decide +kernel
theorem dX5_addStroke_30 : decode cX5_addStroke 30 = .ok (.iload_n 2, 1) := by decide +kernel
theorem dX5_addStroke_31 : decode cX5_addStroke 31 = .ok (.iload 4, 2) := by decide +kernel
theorem dX5_addStroke_33 : decode cX5_addStroke 33 = .ok (.if_icmp .ne 5, 3) := by decide +kernel
theorem dX5_addStroke_36 : decode cX5_addStroke 36 = .ok (.iconst (-1), 1) := by decide +kernel
theorem dX5_addStroke_37 : decode cX5_addStroke 37 = .ok (.ireturn, 1) := by decide +kernel
theorem dX5_addStroke_38 : decode cX5_addStroke 38 = .ok (.aload_n 0, 1) := by decide +kernel
theorem dX5_addStroke_39 : decode cX5_addStroke 39 = .ok (.getfield 12, 3) := by decide +kernel
theorem dX5_addStroke_42 : decode cX5_addStroke 42 = .ok (.invokevirtual 62, 3) := by decide +kernel
theorem dX5_addStroke_45 : decode cX5_addStroke 45 = .ok (.bipush 8, 2) := by decide +kernel
theorem dX5_addStroke_47 : decode cX5_addStroke 47 = .ok (.if_icmp .lt 6, 3) := by decide +kernel
theorem dX5_addStroke_50 : decode cX5_addStroke 50 = .ok (.bipush (-2), 2) := by decide +kernel
theorem dX5_addStroke_52 : decode cX5_addStroke 52 = .ok (.ireturn, 1) := by decide +kernel
theorem dX5_addStroke_53 : decode cX5_addStroke 53 = .ok (.aload_n 0, 1) := by decide +kernel
theorem dX5_addStroke_54 : decode cX5_addStroke 54 = .ok (.invokevirtual 66, 3) := by decide +kernel
theorem dX5_addStroke_57 : decode cX5_addStroke 57 = .ok (.aload_n 0, 1) := by decide +kernel
theorem dX5_addStroke_58 : decode cX5_addStroke 58 = .ok (.getfield 12, 3) := by decide +kernel
theorem dX5_addStroke_61 : decode cX5_addStroke 61 = .ok (.iload_n 1, 1) := by decide +kernel
theorem dX5_addStroke_62 : decode cX5_addStroke 62 = .ok (.iload_n 2, 1) := by decide +kernel
theorem dX5_addStroke_63 : decode cX5_addStroke 63 = .ok (.iload_n 3, 1) := by decide +kernel
theorem dX5_addStroke_64 : decode cX5_addStroke 64 = .ok (.iload 4, 2) := by decide +kernel
theorem dX5_addStroke_66 : decode cX5_addStroke 66 = .ok (.iload 5, 2) := by decide +kernel
theorem dX5_addStroke_68 : decode cX5_addStroke 68 = .ok (.invokevirtual 69, 3) := by decide +kernel
theorem dX5_addStroke_71 : decode cX5_addStroke 71 = .ok (.ireturn, 1) := by decide +kernel
theorem dX5_removeStroke_0 : decode cX5_removeStroke 0 = .ok (.aload_n 0, 1) := by decide +kernel
theorem dX5_removeStroke_1 : decode cX5_removeStroke 1 = .ok (.getfield 12, 3) := by decide +kernel
theorem dX5_removeStroke_4 : decode cX5_removeStroke 4 = .ok (.iload_n 1, 1) := by decide +kernel
theorem dX5_removeStroke_5 : decode cX5_removeStroke 5 = .ok (.invokevirtual 73, 3) := by decide +kernel
theorem dX5_removeStroke_8 : decode cX5_removeStroke 8 = .ok (.ifCond .ne 5, 3) := by decide +kernel
theorem dX5_removeStroke_11 : decode cX5_removeStroke 11 = .ok (.iconst (-1), 1) := by decide +kernel
theorem dX5_removeStroke_12 : decode cX5_removeStroke 12 = .ok (.ireturn, 1) := by decide +kernel
theorem dX5_removeStroke_13 : decode cX5_removeStroke 13 = .ok (.aload_n 0, 1) := by decide +kernel
theorem dX5_removeStroke_14 : decode cX5_removeStroke 14 = .ok (.invokevirtual 66, 3) := by decide +kernel
theorem dX5_removeStroke_17 : decode cX5_removeStroke 17 = .ok (.aload_n 0, 1) := by decide +kernel
theorem dX5_removeStroke_18 : decode cX5_removeStroke 18 = .ok (.getfield 12, 3) := by decide +kernel
theorem dX5_removeStroke_21 : decode cX5_removeStroke 21 = .ok (.iload_n 1, 1) := by decide +kernel
theorem dX5_removeStroke_22 : decode cX5_removeStroke 22 = .ok (.invokevirtual 76, 3) := by decide +kernel
theorem dX5_removeStroke_25 : decode cX5_removeStroke 25 = .ok (.aload_n 0, 1) := by decide +kernel
theorem dX5_removeStroke_26 : decode cX5_removeStroke 26 = .ok (.getfield 12, 3) := by decide +kernel
theorem dX5_removeStroke_29 : decode cX5_removeStroke 29 = .ok (.invokevirtual 62, 3) := by decide +kernel
theorem dX5_removeStroke_32 : decode cX5_removeStroke 32 = .ok (.ireturn, 1) := by decide +kernel
theorem dX5_strokeCount_0 : decode cX5_strokeCount 0 = .ok (.aload_n 0, 1) := by decide +kernel
theorem dX5_strokeCount_1 : decode cX5_strokeCount 1 = .ok (.getfield 12, 3) := by decide +kernel
theorem dX5_strokeCount_4 : decode cX5_strokeCount 4 = .ok (.invokevirtual 62, 3) := by decide +kernel
theorem dX5_strokeCount_7 : decode cX5_strokeCount 7 = .ok (.ireturn, 1) := by decide +kernel
theorem dX5_penOf_0 : decode cX5_penOf 0 = .ok (.aload_n 0, 1) := by decide +kernel
theorem dX5_penOf_1 : decode cX5_penOf 1 = .ok (.getfield 12, 3) := by decide +kernel
theorem dX5_penOf_4 : decode cX5_penOf 4 = .ok (.iload_n 1, 1) := by decide +kernel
theorem dX5_penOf_5 : decode cX5_penOf 5 = .ok (.invokevirtual 73, 3) := by decide +kernel
theorem dX5_penOf_8 : decode cX5_penOf 8 = .ok (.ifCond .eq 14, 3) := by decide +kernel
theorem dX5_penOf_11 : decode cX5_penOf 11 = .ok (.aload_n 0, 1) := by decide +kernel
theorem dX5_penOf_12 : decode cX5_penOf 12 = .ok (.getfield 12, 3) := by decide +kernel
theorem dX5_penOf_15 : decode cX5_penOf 15 = .ok (.iload_n 1, 1) := by decide +kernel
theorem dX5_penOf_16 : decode cX5_penOf 16 = .ok (.invokevirtual 80, 3) := by decide +kernel
theorem dX5_penOf_19 : decode cX5_penOf 19 = .ok (.goto 4, 3) := by decide +kernel
theorem dX5_penOf_22 : decode cX5_penOf 22 = .ok (.iconst (-1), 1) := by decide +kernel
theorem dX5_penOf_23 : decode cX5_penOf 23 = .ok (.ireturn, 1) := by decide +kernel
theorem dX5_alikeTo_0 : decode cX5_alikeTo 0 = .ok (.aload_n 0, 1) := by decide +kernel
theorem dX5_alikeTo_1 : decode cX5_alikeTo 1 = .ok (.getfield 12, 3) := by decide +kernel
theorem dX5_alikeTo_4 : decode cX5_alikeTo 4 = .ok (.iload_n 1, 1) := by decide +kernel
theorem dX5_alikeTo_5 : decode cX5_alikeTo 5 = .ok (.invokevirtual 73, 3) := by decide +kernel
theorem dX5_alikeTo_8 : decode cX5_alikeTo 8 = .ok (.ifCond .eq 14, 3) := by decide +kernel
theorem dX5_alikeTo_11 : decode cX5_alikeTo 11 = .ok (.aload_n 0, 1) := by decide +kernel
theorem dX5_alikeTo_12 : decode cX5_alikeTo 12 = .ok (.getfield 12, 3) := by decide +kernel
theorem dX5_alikeTo_15 : decode cX5_alikeTo 15 = .ok (.iload_n 1, 1) := by decide +kernel
theorem dX5_alikeTo_16 : decode cX5_alikeTo 16 = .ok (.invokevirtual 84, 3) := by decide +kernel
theorem dX5_alikeTo_19 : decode cX5_alikeTo 19 = .ok (.goto 4, 3) := by decide +kernel
theorem dX5_alikeTo_22 : decode cX5_alikeTo 22 = .ok (.iconst (-1), 1) := by decide +kernel
theorem dX5_alikeTo_23 : decode cX5_alikeTo 23 = .ok (.ireturn, 1) := by decide +kernel
theorem dX5_coveredBy_0 : decode cX5_coveredBy 0 = .ok (.aload_n 0, 1) := by decide +kernel
theorem dX5_coveredBy_1 : decode cX5_coveredBy 1 = .ok (.getfield 12, 3) := by decide +kernel
theorem dX5_coveredBy_4 : decode cX5_coveredBy 4 = .ok (.iload_n 1, 1) := by decide +kernel
theorem dX5_coveredBy_5 : decode cX5_coveredBy 5 = .ok (.invokevirtual 73, 3) := by decide +kernel
theorem dX5_coveredBy_8 : decode cX5_coveredBy 8 = .ok (.ifCond .eq 14, 3) := by decide +kernel
theorem dX5_coveredBy_11 : decode cX5_coveredBy 11 = .ok (.aload_n 0, 1) := by decide +kernel
theorem dX5_coveredBy_12 : decode cX5_coveredBy 12 = .ok (.getfield 12, 3) := by decide +kernel
theorem dX5_coveredBy_15 : decode cX5_coveredBy 15 = .ok (.iload_n 1, 1) := by decide +kernel
theorem dX5_coveredBy_16 : decode cX5_coveredBy 16 = .ok (.invokevirtual 87, 3) := by decide +kernel
theorem dX5_coveredBy_19 : decode cX5_coveredBy 19 = .ok (.goto 4, 3) := by decide +kernel
theorem dX5_coveredBy_22 : decode cX5_coveredBy 22 = .ok (.iconst (-1), 1) := by decide +kernel
theorem dX5_coveredBy_23 : decode cX5_coveredBy 23 = .ok (.ireturn, 1) := by decide +kernel
theorem dX5_removeDuplicates_0 : decode cX5_removeDuplicates 0 = .ok (.aload_n 0, 1) := by decide +kernel
theorem dX5_removeDuplicates_1 : decode cX5_removeDuplicates 1 = .ok (.invokevirtual 66, 3) := by decide +kernel
theorem dX5_removeDuplicates_4 : decode cX5_removeDuplicates 4 = .ok (.aload_n 0, 1) := by decide +kernel
theorem dX5_removeDuplicates_5 : decode cX5_removeDuplicates 5 = .ok (.getfield 12, 3) := by decide +kernel
theorem dX5_removeDuplicates_8 : decode cX5_removeDuplicates 8 = .ok (.invokevirtual 90, 3) := by decide +kernel
theorem dX5_removeDuplicates_11 : decode cX5_removeDuplicates 11 = .ok (.ireturn, 1) := by decide +kernel
theorem dX5_leastRuns_0 : decode cX5_leastRuns 0 = .ok (.iload_n 1, 1) := by decide +kernel
theorem dX5_leastRuns_1 : decode cX5_leastRuns 1 = .ok (.invokestatic 58, 3) := by decide +kernel
theorem dX5_leastRuns_4 : decode cX5_leastRuns 4 = .ok (.ifCond .eq 18, 3) := by decide +kernel
theorem dX5_leastRuns_7 : decode cX5_leastRuns 7 = .ok (.aload_n 0, 1) := by decide +kernel
theorem dX5_leastRuns_8 : decode cX5_leastRuns 8 = .ok (.getfield 33, 3) := by decide +kernel
theorem dX5_leastRuns_11 : decode cX5_leastRuns 11 = .ok (.aload_n 0, 1) := by decide +kernel
theorem dX5_leastRuns_12 : decode cX5_leastRuns 12 = .ok (.getfield 12, 3) := by decide +kernel
theorem dX5_leastRuns_15 : decode cX5_leastRuns 15 = .ok (.iload_n 1, 1) := by decide +kernel
theorem dX5_leastRuns_16 : decode cX5_leastRuns 16 = .ok (.invokevirtual 93, 3) := by decide +kernel
theorem dX5_leastRuns_19 : decode cX5_leastRuns 19 = .ok (.goto 4, 3) := by decide +kernel
theorem dX5_leastRuns_22 : decode cX5_leastRuns 22 = .ok (.iconst (-1), 1) := by decide +kernel
theorem dX5_leastRuns_23 : decode cX5_leastRuns 23 = .ok (.ireturn, 1) := by decide +kernel
theorem dX5_strokeAt_0 : decode cX5_strokeAt 0 = .ok (.aload_n 0, 1) := by decide +kernel
theorem dX5_strokeAt_1 : decode cX5_strokeAt 1 = .ok (.iload_n 1, 1) := by decide +kernel
theorem dX5_strokeAt_2 : decode cX5_strokeAt 2 = .ok (.invokevirtual 97, 3) := by decide +kernel
theorem dX5_strokeAt_5 : decode cX5_strokeAt 5 = .ok (.istore_n 2, 1) := by decide +kernel
theorem dX5_strokeAt_6 : decode cX5_strokeAt 6 = .ok (.iload_n 2, 1) := by decide +kernel
theorem dX5_strokeAt_7 : decode cX5_strokeAt 7 = .ok (.ifCond .ge 7, 3) := by decide +kernel
theorem dX5_strokeAt_10 : decode cX5_strokeAt 10 = .ok (.iload_n 2, 1) := by decide +kernel
theorem dX5_strokeAt_11 : decode cX5_strokeAt 11 = .ok (.goto 6, 3) := by decide +kernel
theorem dX5_strokeAt_14 : decode cX5_strokeAt 14 = .ok (.iload_n 2, 1) := by decide +kernel
theorem dX5_strokeAt_15 : decode cX5_strokeAt 15 = .ok (.iconst 2, 1) := by decide +kernel
theorem dX5_strokeAt_16 : decode cX5_strokeAt 16 = .ok (.idiv, 1) := by decide +kernel
theorem dX5_strokeAt_17 : decode cX5_strokeAt 17 = .ok (.ireturn, 1) := by decide +kernel
theorem dX5_directionAt_0 : decode cX5_directionAt 0 = .ok (.aload_n 0, 1) := by decide +kernel
theorem dX5_directionAt_1 : decode cX5_directionAt 1 = .ok (.iload_n 1, 1) := by decide +kernel
theorem dX5_directionAt_2 : decode cX5_directionAt 2 = .ok (.invokevirtual 97, 3) := by decide +kernel
theorem dX5_directionAt_5 : decode cX5_directionAt 5 = .ok (.istore_n 2, 1) := by decide +kernel
theorem dX5_directionAt_6 : decode cX5_directionAt 6 = .ok (.iload_n 2, 1) := by decide +kernel
theorem dX5_directionAt_7 : decode cX5_directionAt 7 = .ok (.ifCond .ge 7, 3) := by decide +kernel
theorem dX5_directionAt_10 : decode cX5_directionAt 10 = .ok (.iload_n 2, 1) := by decide +kernel
theorem dX5_directionAt_11 : decode cX5_directionAt 11 = .ok (.goto 6, 3) := by decide +kernel
theorem dX5_directionAt_14 : decode cX5_directionAt 14 = .ok (.iload_n 2, 1) := by decide +kernel
theorem dX5_directionAt_15 : decode cX5_directionAt 15 = .ok (.iconst 2, 1) := by decide +kernel
theorem dX5_directionAt_16 : decode cX5_directionAt 16 = .ok (.irem, 1) := by decide +kernel
theorem dX5_directionAt_17 : decode cX5_directionAt 17 = .ok (.ireturn, 1) := by decide +kernel
theorem dX5_movePosition_0 : decode cX5_movePosition 0 = .ok (.aload_n 0, 1) := by decide +kernel
theorem dX5_movePosition_1 : decode cX5_movePosition 1 = .ok (.getfield 12, 3) := by decide +kernel
theorem dX5_movePosition_4 : decode cX5_movePosition 4 = .ok (.iload_n 1, 1) := by decide +kernel
theorem dX5_movePosition_5 : decode cX5_movePosition 5 = .ok (.invokevirtual 100, 3) := by decide +kernel
theorem dX5_movePosition_8 : decode cX5_movePosition 8 = .ok (.ifCond .eq 14, 3) := by decide +kernel
theorem dX5_movePosition_11 : decode cX5_movePosition 11 = .ok (.aload_n 0, 1) := by decide +kernel
theorem dX5_movePosition_12 : decode cX5_movePosition 12 = .ok (.getfield 12, 3) := by decide +kernel
theorem dX5_movePosition_15 : decode cX5_movePosition 15 = .ok (.iload_n 2, 1) := by decide +kernel
theorem dX5_movePosition_16 : decode cX5_movePosition 16 = .ok (.invokevirtual 100, 3) := by decide +kernel
theorem dX5_movePosition_19 : decode cX5_movePosition 19 = .ok (.ifCond .ne 5, 3) := by decide +kernel
theorem dX5_movePosition_22 : decode cX5_movePosition 22 = .ok (.iconst (-1), 1) := by decide +kernel
theorem dX5_movePosition_23 : decode cX5_movePosition 23 = .ok (.ireturn, 1) := by decide +kernel
theorem dX5_movePosition_24 : decode cX5_movePosition 24 = .ok (.aload_n 0, 1) := by decide +kernel
theorem dX5_movePosition_25 : decode cX5_movePosition 25 = .ok (.invokevirtual 66, 3) := by decide +kernel
theorem dX5_movePosition_28 : decode cX5_movePosition 28 = .ok (.aload_n 0, 1) := by decide +kernel
theorem dX5_movePosition_29 : decode cX5_movePosition 29 = .ok (.getfield 12, 3) := by decide +kernel
theorem dX5_movePosition_32 : decode cX5_movePosition 32 = .ok (.iload_n 1, 1) := by decide +kernel
theorem dX5_movePosition_33 : decode cX5_movePosition 33 = .ok (.iload_n 2, 1) := by decide +kernel
theorem dX5_movePosition_34 : decode cX5_movePosition 34 = .ok (.invokevirtual 103, 3) := by decide +kernel
theorem dX5_movePosition_37 : decode cX5_movePosition 37 = .ok (.aload_n 0, 1) := by decide +kernel
theorem dX5_movePosition_38 : decode cX5_movePosition 38 = .ok (.getfield 12, 3) := by decide +kernel
theorem dX5_movePosition_41 : decode cX5_movePosition 41 = .ok (.iload_n 2, 1) := by decide +kernel
theorem dX5_movePosition_42 : decode cX5_movePosition 42 = .ok (.invokevirtual 107, 3) := by decide +kernel
theorem dX5_movePosition_45 : decode cX5_movePosition 45 = .ok (.iconst 2, 1) := by decide +kernel
theorem dX5_movePosition_46 : decode cX5_movePosition 46 = .ok (.idiv, 1) := by decide +kernel
theorem dX5_movePosition_47 : decode cX5_movePosition 47 = .ok (.ireturn, 1) := by decide +kernel
theorem dX5_turnPosition_0 : decode cX5_turnPosition 0 = .ok (.aload_n 0, 1) := by decide +kernel
theorem dX5_turnPosition_1 : decode cX5_turnPosition 1 = .ok (.getfield 12, 3) := by decide +kernel
theorem dX5_turnPosition_4 : decode cX5_turnPosition 4 = .ok (.iload_n 1, 1) := by decide +kernel
theorem dX5_turnPosition_5 : decode cX5_turnPosition 5 = .ok (.invokevirtual 100, 3) := by decide +kernel
theorem dX5_turnPosition_8 : decode cX5_turnPosition 8 = .ok (.ifCond .ne 5, 3) := by decide +kernel
theorem dX5_turnPosition_11 : decode cX5_turnPosition 11 = .ok (.iconst (-1), 1) := by decide +kernel
theorem dX5_turnPosition_12 : decode cX5_turnPosition 12 = .ok (.ireturn, 1) := by decide +kernel
theorem dX5_turnPosition_13 : decode cX5_turnPosition 13 = .ok (.aload_n 0, 1) := by decide +kernel
theorem dX5_turnPosition_14 : decode cX5_turnPosition 14 = .ok (.invokevirtual 66, 3) := by decide +kernel
theorem dX5_turnPosition_17 : decode cX5_turnPosition 17 = .ok (.aload_n 0, 1) := by decide +kernel
theorem dX5_turnPosition_18 : decode cX5_turnPosition 18 = .ok (.getfield 12, 3) := by decide +kernel
theorem dX5_turnPosition_21 : decode cX5_turnPosition 21 = .ok (.iload_n 1, 1) := by decide +kernel
theorem dX5_turnPosition_22 : decode cX5_turnPosition 22 = .ok (.invokevirtual 110, 3) := by decide +kernel
theorem dX5_turnPosition_25 : decode cX5_turnPosition 25 = .ok (.aload_n 0, 1) := by decide +kernel
theorem dX5_turnPosition_26 : decode cX5_turnPosition 26 = .ok (.getfield 12, 3) := by decide +kernel
theorem dX5_turnPosition_29 : decode cX5_turnPosition 29 = .ok (.iload_n 1, 1) := by decide +kernel
theorem dX5_turnPosition_30 : decode cX5_turnPosition 30 = .ok (.invokevirtual 107, 3) := by decide +kernel
theorem dX5_turnPosition_33 : decode cX5_turnPosition 33 = .ok (.iconst 2, 1) := by decide +kernel
theorem dX5_turnPosition_34 : decode cX5_turnPosition 34 = .ok (.irem, 1) := by decide +kernel
theorem dX5_turnPosition_35 : decode cX5_turnPosition 35 = .ok (.ireturn, 1) := by decide +kernel
theorem dX5_cost_0 : decode cX5_cost 0 = .ok (.aload_n 0, 1) := by decide +kernel
theorem dX5_cost_1 : decode cX5_cost 1 = .ok (.getfield 12, 3) := by decide +kernel
theorem dX5_cost_4 : decode cX5_cost 4 = .ok (.aload_n 0, 1) := by decide +kernel
theorem dX5_cost_5 : decode cX5_cost 5 = .ok (.getfield 44, 3) := by decide +kernel
theorem dX5_cost_8 : decode cX5_cost 8 = .ok (.invokevirtual 113, 3) := by decide +kernel
theorem dX5_cost_11 : decode cX5_cost 11 = .ok (.ireturn, 1) := by decide +kernel
theorem dX5_penChanges_0 : decode cX5_penChanges 0 = .ok (.aload_n 0, 1) := by decide +kernel
theorem dX5_penChanges_1 : decode cX5_penChanges 1 = .ok (.getfield 12, 3) := by decide +kernel
theorem dX5_penChanges_4 : decode cX5_penChanges 4 = .ok (.invokevirtual 116, 3) := by decide +kernel
theorem dX5_penChanges_7 : decode cX5_penChanges 7 = .ok (.ireturn, 1) := by decide +kernel
theorem dX5_runCount_0 : decode cX5_runCount 0 = .ok (.aload_n 0, 1) := by decide +kernel
theorem dX5_runCount_1 : decode cX5_runCount 1 = .ok (.getfield 12, 3) := by decide +kernel
theorem dX5_runCount_4 : decode cX5_runCount 4 = .ok (.invokevirtual 119, 3) := by decide +kernel
theorem dX5_runCount_7 : decode cX5_runCount 7 = .ok (.ireturn, 1) := by decide +kernel
theorem dX5_runLength_0 : decode cX5_runLength 0 = .ok (.iload_n 1, 1) := by decide +kernel
theorem dX5_runLength_1 : decode cX5_runLength 1 = .ok (.ifCond .ge 5, 3) := by decide +kernel
theorem dX5_runLength_4 : decode cX5_runLength 4 = .ok (.iconst (-1), 1) := by decide +kernel
theorem dX5_runLength_5 : decode cX5_runLength 5 = .ok (.ireturn, 1) := by decide +kernel
theorem dX5_runLength_6 : decode cX5_runLength 6 = .ok (.aload_n 0, 1) := by decide +kernel
theorem dX5_runLength_7 : decode cX5_runLength 7 = .ok (.getfield 12, 3) := by decide +kernel
theorem dX5_runLength_10 : decode cX5_runLength 10 = .ok (.iload_n 1, 1) := by decide +kernel
theorem dX5_runLength_11 : decode cX5_runLength 11 = .ok (.invokevirtual 122, 3) := by decide +kernel
theorem dX5_runLength_14 : decode cX5_runLength 14 = .ok (.istore_n 2, 1) := by decide +kernel
theorem dX5_runLength_15 : decode cX5_runLength 15 = .ok (.iload_n 2, 1) := by decide +kernel
theorem dX5_runLength_16 : decode cX5_runLength 16 = .ok (.ifCond .ne 8, 3) := by decide +kernel
theorem dX5_runLength_19 : decode cX5_runLength 19 = .ok (.bipush (-3), 2) := by decide +kernel
theorem dX5_runLength_21 : decode cX5_runLength 21 = .ok (.goto 4, 3) := by decide +kernel
theorem dX5_runLength_24 : decode cX5_runLength 24 = .ok (.iload_n 2, 1) := by decide +kernel
theorem dX5_runLength_25 : decode cX5_runLength 25 = .ok (.ireturn, 1) := by decide +kernel
theorem dX5_setPenCost_0 : decode cX5_setPenCost 0 = .ok (.iload_n 1, 1) := by decide +kernel
theorem dX5_setPenCost_1 : decode cX5_setPenCost 1 = .ok (.iconst 0, 1) := by decide +kernel
theorem dX5_setPenCost_2 : decode cX5_setPenCost 2 = .ok (.sipush 500, 3) := by decide +kernel
theorem dX5_setPenCost_5 : decode cX5_setPenCost 5 = .ok (.invokestatic 125, 3) := by decide +kernel
theorem dX5_setPenCost_8 : decode cX5_setPenCost 8 = .ok (.ifCond .ne 5, 3) := by decide +kernel
theorem dX5_setPenCost_11 : decode cX5_setPenCost 11 = .ok (.iconst (-1), 1) := by decide +kernel
theorem dX5_setPenCost_12 : decode cX5_setPenCost 12 = .ok (.ireturn, 1) := by decide +kernel
theorem dX5_setPenCost_13 : decode cX5_setPenCost 13 = .ok (.aload_n 0, 1) := by decide +kernel
theorem dX5_setPenCost_14 : decode cX5_setPenCost 14 = .ok (.getfield 44, 3) := by decide +kernel
theorem dX5_setPenCost_17 : decode cX5_setPenCost 17 = .ok (.istore_n 2, 1) := by decide +kernel
theorem dX5_setPenCost_18 : decode cX5_setPenCost 18 = .ok (.aload_n 0, 1) := by decide +kernel
theorem dX5_setPenCost_19 : decode cX5_setPenCost 19 = .ok (.iload_n 1, 1) := by decide +kernel
theorem dX5_setPenCost_20 : decode cX5_setPenCost 20 = .ok (.putfield 44, 3) := by decide +kernel
theorem dX5_setPenCost_23 : decode cX5_setPenCost 23 = .ok (.aload_n 0, 1) := by decide +kernel
theorem dX5_setPenCost_24 : decode cX5_setPenCost 24 = .ok (.getfield 26, 3) := by decide +kernel
theorem dX5_setPenCost_27 : decode cX5_setPenCost 27 = .ok (.invokevirtual 129, 3) := by decide +kernel
theorem dX5_setPenCost_30 : decode cX5_setPenCost 30 = .ok (.iload_n 2, 1) := by decide +kernel
theorem dX5_setPenCost_31 : decode cX5_setPenCost 31 = .ok (.ireturn, 1) := by decide +kernel
theorem dX5_bestCost_0 : decode cX5_bestCost 0 = .ok (.aload_n 0, 1) := by decide +kernel
theorem dX5_bestCost_1 : decode cX5_bestCost 1 = .ok (.getfield 26, 3) := by decide +kernel
theorem dX5_bestCost_4 : decode cX5_bestCost 4 = .ok (.aload_n 0, 1) := by decide +kernel
theorem dX5_bestCost_5 : decode cX5_bestCost 5 = .ok (.getfield 12, 3) := by decide +kernel
theorem dX5_bestCost_8 : decode cX5_bestCost 8 = .ok (.aload_n 0, 1) := by decide +kernel
theorem dX5_bestCost_9 : decode cX5_bestCost 9 = .ok (.getfield 44, 3) := by decide +kernel
theorem dX5_bestCost_12 : decode cX5_bestCost 12 = .ok (.invokevirtual 132, 3) := by decide +kernel
theorem dX5_bestCost_15 : decode cX5_bestCost 15 = .ok (.aload_n 0, 1) := by decide +kernel
theorem dX5_bestCost_16 : decode cX5_bestCost 16 = .ok (.getfield 26, 3) := by decide +kernel
theorem dX5_bestCost_19 : decode cX5_bestCost 19 = .ok (.invokevirtual 136, 3) := by decide +kernel
theorem dX5_bestCost_22 : decode cX5_bestCost 22 = .ok (.ireturn, 1) := by decide +kernel
theorem dX5_bestAt_0 : decode cX5_bestAt 0 = .ok (.iload_n 1, 1) := by decide +kernel
theorem dX5_bestAt_1 : decode cX5_bestAt 1 = .ok (.ifCond .ge 5, 3) := by decide +kernel
theorem dX5_bestAt_4 : decode cX5_bestAt 4 = .ok (.iconst (-1), 1) := by decide +kernel
theorem dX5_bestAt_5 : decode cX5_bestAt 5 = .ok (.ireturn, 1) := by decide +kernel
theorem dX5_bestAt_6 : decode cX5_bestAt 6 = .ok (.aload_n 0, 1) := by decide +kernel
theorem dX5_bestAt_7 : decode cX5_bestAt 7 = .ok (.getfield 12, 3) := by decide +kernel
theorem dX5_bestAt_10 : decode cX5_bestAt 10 = .ok (.iload_n 1, 1) := by decide +kernel
theorem dX5_bestAt_11 : decode cX5_bestAt 11 = .ok (.invokevirtual 100, 3) := by decide +kernel
theorem dX5_bestAt_14 : decode cX5_bestAt 14 = .ok (.ifCond .ne 6, 3) := by decide +kernel
theorem dX5_bestAt_17 : decode cX5_bestAt 17 = .ok (.bipush (-3), 2) := by decide +kernel
theorem dX5_bestAt_19 : decode cX5_bestAt 19 = .ok (.ireturn, 1) := by decide +kernel
theorem dX5_bestAt_20 : decode cX5_bestAt 20 = .ok (.aload_n 0, 1) := by decide +kernel
theorem dX5_bestAt_21 : decode cX5_bestAt 21 = .ok (.getfield 26, 3) := by decide +kernel
theorem dX5_bestAt_24 : decode cX5_bestAt 24 = .ok (.aload_n 0, 1) := by decide +kernel
theorem dX5_bestAt_25 : decode cX5_bestAt 25 = .ok (.getfield 12, 3) := by decide +kernel
theorem dX5_bestAt_28 : decode cX5_bestAt 28 = .ok (.aload_n 0, 1) := by decide +kernel
theorem dX5_bestAt_29 : decode cX5_bestAt 29 = .ok (.getfield 44, 3) := by decide +kernel
theorem dX5_bestAt_32 : decode cX5_bestAt 32 = .ok (.invokevirtual 132, 3) := by decide +kernel
theorem dX5_bestAt_35 : decode cX5_bestAt 35 = .ok (.aload_n 0, 1) := by decide +kernel
theorem dX5_bestAt_36 : decode cX5_bestAt 36 = .ok (.getfield 26, 3) := by decide +kernel
theorem dX5_bestAt_39 : decode cX5_bestAt 39 = .ok (.iload_n 1, 1) := by decide +kernel
theorem dX5_bestAt_40 : decode cX5_bestAt 40 = .ok (.invokevirtual 139, 3) := by decide +kernel
theorem dX5_bestAt_43 : decode cX5_bestAt 43 = .ok (.ireturn, 1) := by decide +kernel
theorem dX5_adoptBest_0 : decode cX5_adoptBest 0 = .ok (.aload_n 0, 1) := by decide +kernel
theorem dX5_adoptBest_1 : decode cX5_adoptBest 1 = .ok (.invokevirtual 66, 3) := by decide +kernel
theorem dX5_adoptBest_4 : decode cX5_adoptBest 4 = .ok (.aload_n 0, 1) := by decide +kernel
theorem dX5_adoptBest_5 : decode cX5_adoptBest 5 = .ok (.getfield 26, 3) := by decide +kernel
theorem dX5_adoptBest_8 : decode cX5_adoptBest 8 = .ok (.aload_n 0, 1) := by decide +kernel
theorem dX5_adoptBest_9 : decode cX5_adoptBest 9 = .ok (.getfield 12, 3) := by decide +kernel
theorem dX5_adoptBest_12 : decode cX5_adoptBest 12 = .ok (.aload_n 0, 1) := by decide +kernel
theorem dX5_adoptBest_13 : decode cX5_adoptBest 13 = .ok (.getfield 44, 3) := by decide +kernel
theorem dX5_adoptBest_16 : decode cX5_adoptBest 16 = .ok (.invokevirtual 132, 3) := by decide +kernel
theorem dX5_adoptBest_19 : decode cX5_adoptBest 19 = .ok (.iconst 0, 1) := by decide +kernel
theorem dX5_adoptBest_20 : decode cX5_adoptBest 20 = .ok (.istore_n 1, 1) := by decide +kernel
theorem dX5_adoptBest_21 : decode cX5_adoptBest 21 = .ok (.iload_n 1, 1) := by decide +kernel
theorem dX5_adoptBest_22 : decode cX5_adoptBest 22 = .ok (.aload_n 0, 1) := by decide +kernel
theorem dX5_adoptBest_23 : decode cX5_adoptBest 23 = .ok (.getfield 12, 3) := by decide +kernel
theorem dX5_adoptBest_26 : decode cX5_adoptBest 26 = .ok (.invokevirtual 62, 3) := by decide +kernel
theorem dX5_adoptBest_29 : decode cX5_adoptBest 29 = .ok (.if_icmp .ge 25, 3) := by decide +kernel
theorem dX5_adoptBest_32 : decode cX5_adoptBest 32 = .ok (.aload_n 0, 1) := by decide +kernel
theorem dX5_adoptBest_33 : decode cX5_adoptBest 33 = .ok (.getfield 12, 3) := by decide +kernel
theorem dX5_adoptBest_36 : decode cX5_adoptBest 36 = .ok (.iload_n 1, 1) := by decide +kernel
theorem dX5_adoptBest_37 : decode cX5_adoptBest 37 = .ok (.aload_n 0, 1) := by decide +kernel
theorem dX5_adoptBest_38 : decode cX5_adoptBest 38 = .ok (.getfield 26, 3) := by decide +kernel
theorem dX5_adoptBest_41 : decode cX5_adoptBest 41 = .ok (.iload_n 1, 1) := by decide +kernel
theorem dX5_adoptBest_42 : decode cX5_adoptBest 42 = .ok (.invokevirtual 139, 3) := by decide +kernel
theorem dX5_adoptBest_45 : decode cX5_adoptBest 45 = .ok (.invokevirtual 140, 3) := by decide +kernel
theorem dX5_adoptBest_48 : decode cX5_adoptBest 48 = .ok (.iinc 1 1, 3) := by decide +kernel
theorem dX5_adoptBest_51 : decode cX5_adoptBest 51 = .ok (.goto (-30), 3) := by decide +kernel
theorem dX5_adoptBest_54 : decode cX5_adoptBest 54 = .ok (.aload_n 0, 1) := by decide +kernel
theorem dX5_adoptBest_55 : decode cX5_adoptBest 55 = .ok (.getfield 12, 3) := by decide +kernel
theorem dX5_adoptBest_58 : decode cX5_adoptBest 58 = .ok (.aload_n 0, 1) := by decide +kernel
theorem dX5_adoptBest_59 : decode cX5_adoptBest 59 = .ok (.getfield 44, 3) := by decide +kernel
theorem dX5_adoptBest_62 : decode cX5_adoptBest 62 = .ok (.invokevirtual 113, 3) := by decide +kernel
theorem dX5_adoptBest_65 : decode cX5_adoptBest 65 = .ok (.ireturn, 1) := by decide +kernel
theorem dX5_adoptNearest_0 : decode cX5_adoptNearest 0 = .ok (.aload_n 0, 1) := by decide +kernel
theorem dX5_adoptNearest_1 : decode cX5_adoptNearest 1 = .ok (.invokevirtual 66, 3) := by decide +kernel
theorem dX5_adoptNearest_4 : decode cX5_adoptNearest 4 = .ok (.aload_n 0, 1) := by decide +kernel
theorem dX5_adoptNearest_5 : decode cX5_adoptNearest 5 = .ok (.getfield 12, 3) := by decide +kernel
theorem dX5_adoptNearest_8 : decode cX5_adoptNearest 8 = .ok (.aload_n 0, 1) := by decide +kernel
theorem dX5_adoptNearest_9 : decode cX5_adoptNearest 9 = .ok (.getfield 44, 3) := by decide +kernel
theorem dX5_adoptNearest_12 : decode cX5_adoptNearest 12 = .ok (.invokevirtual 143, 3) := by decide +kernel
theorem dX5_adoptNearest_15 : decode cX5_adoptNearest 15 = .ok (.aload_n 0, 1) := by decide +kernel
theorem dX5_adoptNearest_16 : decode cX5_adoptNearest 16 = .ok (.getfield 12, 3) := by decide +kernel
theorem dX5_adoptNearest_19 : decode cX5_adoptNearest 19 = .ok (.aload_n 0, 1) := by decide +kernel
theorem dX5_adoptNearest_20 : decode cX5_adoptNearest 20 = .ok (.getfield 44, 3) := by decide +kernel
theorem dX5_adoptNearest_23 : decode cX5_adoptNearest 23 = .ok (.invokevirtual 113, 3) := by decide +kernel
theorem dX5_adoptNearest_26 : decode cX5_adoptNearest 26 = .ok (.ireturn, 1) := by decide +kernel
theorem dX5_setSquareLimit_0 : decode cX5_setSquareLimit 0 = .ok (.iload_n 1, 1) := by decide +kernel
theorem dX5_setSquareLimit_1 : decode cX5_setSquareLimit 1 = .ok (.iconst 1, 1) := by decide +kernel
theorem dX5_setSquareLimit_2 : decode cX5_setSquareLimit 2 = .ok (.sipush 9999, 3) := by decide +kernel
theorem dX5_setSquareLimit_5 : decode cX5_setSquareLimit 5 = .ok (.invokestatic 125, 3) := by decide +kernel
theorem dX5_setSquareLimit_8 : decode cX5_setSquareLimit 8 = .ok (.ifCond .ne 5, 3) := by decide +kernel
theorem dX5_setSquareLimit_11 : decode cX5_setSquareLimit 11 = .ok (.iconst (-1), 1) := by decide +kernel
theorem dX5_setSquareLimit_12 : decode cX5_setSquareLimit 12 = .ok (.ireturn, 1) := by decide +kernel
theorem dX5_setSquareLimit_13 : decode cX5_setSquareLimit 13 = .ok (.aload_n 0, 1) := by decide +kernel
theorem dX5_setSquareLimit_14 : decode cX5_setSquareLimit 14 = .ok (.getfield 48, 3) := by decide +kernel
theorem dX5_setSquareLimit_17 : decode cX5_setSquareLimit 17 = .ok (.istore_n 2, 1) := by decide +kernel
theorem dX5_setSquareLimit_18 : decode cX5_setSquareLimit 18 = .ok (.aload_n 0, 1) := by decide +kernel
theorem dX5_setSquareLimit_19 : decode cX5_setSquareLimit 19 = .ok (.iload_n 1, 1) := by decide +kernel
theorem dX5_setSquareLimit_20 : decode cX5_setSquareLimit 20 = .ok (.putfield 48, 3) := by decide +kernel
theorem dX5_setSquareLimit_23 : decode cX5_setSquareLimit 23 = .ok (.iload_n 2, 1) := by decide +kernel
theorem dX5_setSquareLimit_24 : decode cX5_setSquareLimit 24 = .ok (.ireturn, 1) := by decide +kernel
theorem dX5_setAcceleration_0 : decode cX5_setAcceleration 0 = .ok (.iload_n 1, 1) := by decide +kernel
theorem dX5_setAcceleration_1 : decode cX5_setAcceleration 1 = .ok (.iconst 1, 1) := by decide +kernel
theorem dX5_setAcceleration_2 : decode cX5_setAcceleration 2 = .ok (.bipush 99, 2) := by decide +kernel
theorem dX5_setAcceleration_4 : decode cX5_setAcceleration 4 = .ok (.invokestatic 125, 3) := by decide +kernel
theorem dX5_setAcceleration_7 : decode cX5_setAcceleration 7 = .ok (.ifCond .ne 5, 3) := by decide +kernel
theorem dX5_setAcceleration_10 : decode cX5_setAcceleration 10 = .ok (.iconst (-1), 1) := by decide +kernel
theorem dX5_setAcceleration_11 : decode cX5_setAcceleration 11 = .ok (.ireturn, 1) := by decide +kernel
theorem dX5_setAcceleration_12 : decode cX5_setAcceleration 12 = .ok (.aload_n 0, 1) := by decide +kernel
theorem dX5_setAcceleration_13 : decode cX5_setAcceleration 13 = .ok (.getfield 51, 3) := by decide +kernel
theorem dX5_setAcceleration_16 : decode cX5_setAcceleration 16 = .ok (.istore_n 2, 1) := by decide +kernel
theorem dX5_setAcceleration_17 : decode cX5_setAcceleration 17 = .ok (.aload_n 0, 1) := by decide +kernel
theorem dX5_setAcceleration_18 : decode cX5_setAcceleration 18 = .ok (.iload_n 1, 1) := by decide +kernel
theorem dX5_setAcceleration_19 : decode cX5_setAcceleration 19 = .ok (.putfield 51, 3) := by decide +kernel
theorem dX5_setAcceleration_22 : decode cX5_setAcceleration 22 = .ok (.iload_n 2, 1) := by decide +kernel
theorem dX5_setAcceleration_23 : decode cX5_setAcceleration 23 = .ok (.ireturn, 1) := by decide +kernel
theorem dX5_cornerLimit_0 : decode cX5_cornerLimit 0 = .ok (.aload_n 0, 1) := by decide +kernel
theorem dX5_cornerLimit_1 : decode cX5_cornerLimit 1 = .ok (.getfield 12, 3) := by decide +kernel
theorem dX5_cornerLimit_4 : decode cX5_cornerLimit 4 = .ok (.iload_n 1, 1) := by decide +kernel
theorem dX5_cornerLimit_5 : decode cX5_cornerLimit 5 = .ok (.invokevirtual 100, 3) := by decide +kernel
theorem dX5_cornerLimit_8 : decode cX5_cornerLimit 8 = .ok (.ifCond .ne 5, 3) := by decide +kernel
theorem dX5_cornerLimit_11 : decode cX5_cornerLimit 11 = .ok (.iconst (-1), 1) := by decide +kernel
theorem dX5_cornerLimit_12 : decode cX5_cornerLimit 12 = .ok (.ireturn, 1) := by decide +kernel
theorem dX5_cornerLimit_13 : decode cX5_cornerLimit 13 = .ok (.aload_n 0, 1) := by decide +kernel
theorem dX5_cornerLimit_14 : decode cX5_cornerLimit 14 = .ok (.getfield 12, 3) := by decide +kernel
theorem dX5_cornerLimit_17 : decode cX5_cornerLimit 17 = .ok (.iload_n 1, 1) := by decide +kernel
theorem dX5_cornerLimit_18 : decode cX5_cornerLimit 18 = .ok (.invokevirtual 146, 3) := by decide +kernel
theorem dX5_cornerLimit_21 : decode cX5_cornerLimit 21 = .ok (.ifCond .eq 18, 3) := by decide +kernel
theorem dX5_cornerLimit_24 : decode cX5_cornerLimit 24 = .ok (.aload_n 0, 1) := by decide +kernel
theorem dX5_cornerLimit_25 : decode cX5_cornerLimit 25 = .ok (.getfield 12, 3) := by decide +kernel
theorem dX5_cornerLimit_28 : decode cX5_cornerLimit 28 = .ok (.iload_n 1, 1) := by decide +kernel
theorem dX5_cornerLimit_29 : decode cX5_cornerLimit 29 = .ok (.aload_n 0, 1) := by decide +kernel
theorem dX5_cornerLimit_30 : decode cX5_cornerLimit 30 = .ok (.getfield 48, 3) := by decide +kernel
theorem dX5_cornerLimit_33 : decode cX5_cornerLimit 33 = .ok (.invokevirtual 149, 3) := by decide +kernel
theorem dX5_cornerLimit_36 : decode cX5_cornerLimit 36 = .ok (.goto 5, 3) := by decide +kernel
theorem dX5_cornerLimit_39 : decode cX5_cornerLimit 39 = .ok (.bipush (-3), 2) := by decide +kernel
theorem dX5_cornerLimit_41 : decode cX5_cornerLimit 41 = .ok (.ireturn, 1) := by decide +kernel
theorem dX5_endSquare_0 : decode cX5_endSquare 0 = .ok (.aload_n 0, 1) := by decide +kernel
theorem dX5_endSquare_1 : decode cX5_endSquare 1 = .ok (.getfield 12, 3) := by decide +kernel
theorem dX5_endSquare_4 : decode cX5_endSquare 4 = .ok (.iload_n 1, 1) := by decide +kernel
theorem dX5_endSquare_5 : decode cX5_endSquare 5 = .ok (.invokevirtual 100, 3) := by decide +kernel
theorem dX5_endSquare_8 : decode cX5_endSquare 8 = .ok (.ifCond .ne 5, 3) := by decide +kernel
theorem dX5_endSquare_11 : decode cX5_endSquare 11 = .ok (.iconst (-1), 1) := by decide +kernel
theorem dX5_endSquare_12 : decode cX5_endSquare 12 = .ok (.ireturn, 1) := by decide +kernel
theorem dX5_endSquare_13 : decode cX5_endSquare 13 = .ok (.aload_n 0, 1) := by decide +kernel
theorem dX5_endSquare_14 : decode cX5_endSquare 14 = .ok (.getfield 40, 3) := by decide +kernel
theorem dX5_endSquare_17 : decode cX5_endSquare 17 = .ok (.aload_n 0, 1) := by decide +kernel
theorem dX5_endSquare_18 : decode cX5_endSquare 18 = .ok (.getfield 12, 3) := by decide +kernel
theorem dX5_endSquare_21 : decode cX5_endSquare 21 = .ok (.aload_n 0, 1) := by decide +kernel
theorem dX5_endSquare_22 : decode cX5_endSquare 22 = .ok (.getfield 48, 3) := by decide +kernel
theorem dX5_endSquare_25 : decode cX5_endSquare 25 = .ok (.aload_n 0, 1) := by decide +kernel
theorem dX5_endSquare_26 : decode cX5_endSquare 26 = .ok (.getfield 51, 3) := by decide +kernel
theorem dX5_endSquare_29 : decode cX5_endSquare 29 = .ok (.invokevirtual 153, 3) := by decide +kernel
theorem dX5_endSquare_32 : decode cX5_endSquare 32 = .ok (.aload_n 0, 1) := by decide +kernel
theorem dX5_endSquare_33 : decode cX5_endSquare 33 = .ok (.getfield 40, 3) := by decide +kernel
theorem dX5_endSquare_36 : decode cX5_endSquare 36 = .ok (.iload_n 1, 1) := by decide +kernel
theorem dX5_endSquare_37 : decode cX5_endSquare 37 = .ok (.invokevirtual 157, 3) := by decide +kernel
theorem dX5_endSquare_40 : decode cX5_endSquare 40 = .ok (.ireturn, 1) := by decide +kernel
theorem dX5_peakSquare_0 : decode cX5_peakSquare 0 = .ok (.aload_n 0, 1) := by decide +kernel
theorem dX5_peakSquare_1 : decode cX5_peakSquare 1 = .ok (.getfield 12, 3) := by decide +kernel
theorem dX5_peakSquare_4 : decode cX5_peakSquare 4 = .ok (.iload_n 1, 1) := by decide +kernel
theorem dX5_peakSquare_5 : decode cX5_peakSquare 5 = .ok (.invokevirtual 100, 3) := by decide +kernel
theorem dX5_peakSquare_8 : decode cX5_peakSquare 8 = .ok (.ifCond .ne 5, 3) := by decide +kernel
theorem dX5_peakSquare_11 : decode cX5_peakSquare 11 = .ok (.iconst (-1), 1) := by decide +kernel
theorem dX5_peakSquare_12 : decode cX5_peakSquare 12 = .ok (.ireturn, 1) := by decide +kernel
theorem dX5_peakSquare_13 : decode cX5_peakSquare 13 = .ok (.aload_n 0, 1) := by decide +kernel
theorem dX5_peakSquare_14 : decode cX5_peakSquare 14 = .ok (.getfield 40, 3) := by decide +kernel
theorem dX5_peakSquare_17 : decode cX5_peakSquare 17 = .ok (.aload_n 0, 1) := by decide +kernel
theorem dX5_peakSquare_18 : decode cX5_peakSquare 18 = .ok (.getfield 12, 3) := by decide +kernel
theorem dX5_peakSquare_21 : decode cX5_peakSquare 21 = .ok (.aload_n 0, 1) := by decide +kernel
theorem dX5_peakSquare_22 : decode cX5_peakSquare 22 = .ok (.getfield 48, 3) := by decide +kernel
theorem dX5_peakSquare_25 : decode cX5_peakSquare 25 = .ok (.aload_n 0, 1) := by decide +kernel
theorem dX5_peakSquare_26 : decode cX5_peakSquare 26 = .ok (.getfield 51, 3) := by decide +kernel
theorem dX5_peakSquare_29 : decode cX5_peakSquare 29 = .ok (.invokevirtual 153, 3) := by decide +kernel
theorem dX5_peakSquare_32 : decode cX5_peakSquare 32 = .ok (.aload_n 0, 1) := by decide +kernel
theorem dX5_peakSquare_33 : decode cX5_peakSquare 33 = .ok (.getfield 40, 3) := by decide +kernel
theorem dX5_peakSquare_36 : decode cX5_peakSquare 36 = .ok (.iload_n 1, 1) := by decide +kernel
theorem dX5_peakSquare_37 : decode cX5_peakSquare 37 = .ok (.invokevirtual 160, 3) := by decide +kernel
theorem dX5_peakSquare_40 : decode cX5_peakSquare 40 = .ok (.aload_n 0, 1) := by decide +kernel
theorem dX5_peakSquare_41 : decode cX5_peakSquare 41 = .ok (.getfield 40, 3) := by decide +kernel
theorem dX5_peakSquare_44 : decode cX5_peakSquare 44 = .ok (.iload_n 1, 1) := by decide +kernel
theorem dX5_peakSquare_45 : decode cX5_peakSquare 45 = .ok (.invokevirtual 157, 3) := by decide +kernel
theorem dX5_peakSquare_48 : decode cX5_peakSquare 48 = .ok (.iadd, 1) := by decide +kernel
theorem dX5_peakSquare_49 : decode cX5_peakSquare 49 = .ok (.iconst 2, 1) := by decide +kernel
theorem dX5_peakSquare_50 : decode cX5_peakSquare 50 = .ok (.aload_n 0, 1) := by decide +kernel
theorem dX5_peakSquare_51 : decode cX5_peakSquare 51 = .ok (.getfield 51, 3) := by decide +kernel
theorem dX5_peakSquare_54 : decode cX5_peakSquare 54 = .ok (.imul, 1) := by decide +kernel
theorem dX5_peakSquare_55 : decode cX5_peakSquare 55 = .ok (.aload_n 0, 1) := by decide +kernel
theorem dX5_peakSquare_56 : decode cX5_peakSquare 56 = .ok (.getfield 12, 3) := by decide +kernel
theorem dX5_peakSquare_59 : decode cX5_peakSquare 59 = .ok (.iload_n 1, 1) := by decide +kernel
theorem dX5_peakSquare_60 : decode cX5_peakSquare 60 = .ok (.invokevirtual 163, 3) := by decide +kernel
theorem dX5_peakSquare_63 : decode cX5_peakSquare 63 = .ok (.imul, 1) := by decide +kernel
theorem dX5_peakSquare_64 : decode cX5_peakSquare 64 = .ok (.iadd, 1) := by decide +kernel
theorem dX5_peakSquare_65 : decode cX5_peakSquare 65 = .ok (.istore_n 2, 1) := by decide +kernel
theorem dX5_peakSquare_66 : decode cX5_peakSquare 66 = .ok (.aload_n 0, 1) := by decide +kernel
theorem dX5_peakSquare_67 : decode cX5_peakSquare 67 = .ok (.getfield 48, 3) := by decide +kernel
theorem dX5_peakSquare_70 : decode cX5_peakSquare 70 = .ok (.iload_n 2, 1) := by decide +kernel
theorem dX5_peakSquare_71 : decode cX5_peakSquare 71 = .ok (.iconst 2, 1) := by decide +kernel
theorem dX5_peakSquare_72 : decode cX5_peakSquare 72 = .ok (.idiv, 1) := by decide +kernel
theorem dX5_peakSquare_73 : decode cX5_peakSquare 73 = .ok (.invokestatic 166, 3) := by decide +kernel
theorem dX5_peakSquare_76 : decode cX5_peakSquare 76 = .ok (.ireturn, 1) := by decide +kernel
theorem dX5_undo_0 : decode cX5_undo 0 = .ok (.aload_n 0, 1) := by decide +kernel
theorem dX5_undo_1 : decode cX5_undo 1 = .ok (.getfield 19, 3) := by decide +kernel
theorem dX5_undo_4 : decode cX5_undo 4 = .ok (.invokevirtual 171, 3) := by decide +kernel
theorem dX5_undo_7 : decode cX5_undo 7 = .ok (.ifCond .eq 6, 3) := by decide +kernel
theorem dX5_undo_10 : decode cX5_undo 10 = .ok (.bipush (-3), 2) := by decide +kernel
theorem dX5_undo_12 : decode cX5_undo 12 = .ok (.ireturn, 1) := by decide +kernel
theorem dX5_undo_13 : decode cX5_undo 13 = .ok (.aload_n 0, 1) := by decide +kernel
theorem dX5_undo_14 : decode cX5_undo 14 = .ok (.getfield 19, 3) := by decide +kernel
theorem dX5_undo_17 : decode cX5_undo 17 = .ok (.aload_n 0, 1) := by decide +kernel
theorem dX5_undo_18 : decode cX5_undo 18 = .ok (.getfield 12, 3) := by decide +kernel
theorem dX5_undo_21 : decode cX5_undo 21 = .ok (.invokevirtual 175, 3) := by decide +kernel
theorem dX5_undo_24 : decode cX5_undo 24 = .ok (.aload_n 0, 1) := by decide +kernel
theorem dX5_undo_25 : decode cX5_undo 25 = .ok (.getfield 26, 3) := by decide +kernel
theorem dX5_undo_28 : decode cX5_undo 28 = .ok (.invokevirtual 129, 3) := by decide +kernel
theorem dX5_undo_31 : decode cX5_undo 31 = .ok (.aload_n 0, 1) := by decide +kernel
theorem dX5_undo_32 : decode cX5_undo 32 = .ok (.getfield 19, 3) := by decide +kernel
theorem dX5_undo_35 : decode cX5_undo 35 = .ok (.invokevirtual 179, 3) := by decide +kernel
theorem dX5_undo_38 : decode cX5_undo 38 = .ok (.ireturn, 1) := by decide +kernel
theorem dX5_beginEdit_0 : decode cX5_beginEdit 0 = .ok (.aload_n 0, 1) := by decide +kernel
theorem dX5_beginEdit_1 : decode cX5_beginEdit 1 = .ok (.getfield 19, 3) := by decide +kernel
theorem dX5_beginEdit_4 : decode cX5_beginEdit 4 = .ok (.aload_n 0, 1) := by decide +kernel
theorem dX5_beginEdit_5 : decode cX5_beginEdit 5 = .ok (.getfield 12, 3) := by decide +kernel
theorem dX5_beginEdit_8 : decode cX5_beginEdit 8 = .ok (.invokevirtual 182, 3) := by decide +kernel
theorem dX5_beginEdit_11 : decode cX5_beginEdit 11 = .ok (.aload_n 0, 1) := by decide +kernel
theorem dX5_beginEdit_12 : decode cX5_beginEdit 12 = .ok (.getfield 26, 3) := by decide +kernel
theorem dX5_beginEdit_15 : decode cX5_beginEdit 15 = .ok (.invokevirtual 129, 3) := by decide +kernel
theorem dX5_beginEdit_18 : decode cX5_beginEdit 18 = .ok (.return_, 1) := by decide +kernel
theorem dX5_codeOrError_0 : decode cX5_codeOrError 0 = .ok (.iload_n 1, 1) := by decide +kernel
theorem dX5_codeOrError_1 : decode cX5_codeOrError 1 = .ok (.ifCond .ge 5, 3) := by decide +kernel
theorem dX5_codeOrError_4 : decode cX5_codeOrError 4 = .ok (.iconst (-1), 1) := by decide +kernel
theorem dX5_codeOrError_5 : decode cX5_codeOrError 5 = .ok (.ireturn, 1) := by decide +kernel
theorem dX5_codeOrError_6 : decode cX5_codeOrError 6 = .ok (.aload_n 0, 1) := by decide +kernel
theorem dX5_codeOrError_7 : decode cX5_codeOrError 7 = .ok (.getfield 12, 3) := by decide +kernel
theorem dX5_codeOrError_10 : decode cX5_codeOrError 10 = .ok (.iload_n 1, 1) := by decide +kernel
theorem dX5_codeOrError_11 : decode cX5_codeOrError 11 = .ok (.invokevirtual 100, 3) := by decide +kernel
theorem dX5_codeOrError_14 : decode cX5_codeOrError 14 = .ok (.ifCond .eq 14, 3) := by decide +kernel
theorem dX5_codeOrError_17 : decode cX5_codeOrError 17 = .ok (.aload_n 0, 1) := by decide +kernel
theorem dX5_codeOrError_18 : decode cX5_codeOrError 18 = .ok (.getfield 12, 3) := by decide +kernel
theorem dX5_codeOrError_21 : decode cX5_codeOrError 21 = .ok (.iload_n 1, 1) := by decide +kernel
theorem dX5_codeOrError_22 : decode cX5_codeOrError 22 = .ok (.invokevirtual 107, 3) := by decide +kernel
theorem dX5_codeOrError_25 : decode cX5_codeOrError 25 = .ok (.goto 5, 3) := by decide +kernel
theorem dX5_codeOrError_28 : decode cX5_codeOrError 28 = .ok (.bipush (-3), 2) := by decide +kernel
theorem dX5_codeOrError_30 : decode cX5_codeOrError 30 = .ok (.ireturn, 1) := by decide +kernel
theorem dX5_isPoint_0 : decode cX5_isPoint 0 = .ok (.iload_n 0, 1) := by decide +kernel
theorem dX5_isPoint_1 : decode cX5_isPoint 1 = .ok (.iconst 0, 1) := by decide +kernel
theorem dX5_isPoint_2 : decode cX5_isPoint 2 = .ok (.bipush 99, 2) := by decide +kernel
theorem dX5_isPoint_4 : decode cX5_isPoint 4 = .ok (.invokestatic 125, 3) := by decide +kernel
theorem dX5_isPoint_7 : decode cX5_isPoint 7 = .ok (.ifCond .eq 17, 3) := by decide +kernel
theorem dX5_isPoint_10 : decode cX5_isPoint 10 = .ok (.iload_n 1, 1) := by decide +kernel
theorem dX5_isPoint_11 : decode cX5_isPoint 11 = .ok (.iconst 0, 1) := by decide +kernel
theorem dX5_isPoint_12 : decode cX5_isPoint 12 = .ok (.bipush 99, 2) := by decide +kernel
theorem dX5_isPoint_14 : decode cX5_isPoint 14 = .ok (.invokestatic 125, 3) := by decide +kernel
theorem dX5_isPoint_17 : decode cX5_isPoint 17 = .ok (.ifCond .eq 7, 3) := by decide +kernel
theorem dX5_isPoint_20 : decode cX5_isPoint 20 = .ok (.iconst 1, 1) := by decide +kernel
theorem dX5_isPoint_21 : decode cX5_isPoint 21 = .ok (.goto 4, 3) := by decide +kernel
theorem dX5_isPoint_24 : decode cX5_isPoint 24 = .ok (.iconst 0, 1) := by decide +kernel
theorem dX5_isPoint_25 : decode cX5_isPoint 25 = .ok (.ireturn, 1) := by decide +kernel
theorem dX5_isPen_0 : decode cX5_isPen 0 = .ok (.iload_n 0, 1) := by decide +kernel
theorem dX5_isPen_1 : decode cX5_isPen 1 = .ok (.iconst 0, 1) := by decide +kernel
theorem dX5_isPen_2 : decode cX5_isPen 2 = .ok (.iconst 3, 1) := by decide +kernel
theorem dX5_isPen_3 : decode cX5_isPen 3 = .ok (.invokestatic 125, 3) := by decide +kernel
theorem dX5_isPen_6 : decode cX5_isPen 6 = .ok (.ireturn, 1) := by decide +kernel
theorem dX5_isWithin_0 : decode cX5_isWithin 0 = .ok (.iload_n 0, 1) := by decide +kernel
theorem dX5_isWithin_1 : decode cX5_isWithin 1 = .ok (.iload_n 1, 1) := by decide +kernel
theorem dX5_isWithin_2 : decode cX5_isWithin 2 = .ok (.if_icmp .lt 12, 3) := by decide +kernel
theorem dX5_isWithin_5 : decode cX5_isWithin 5 = .ok (.iload_n 0, 1) := by decide +kernel
theorem dX5_isWithin_6 : decode cX5_isWithin 6 = .ok (.iload_n 2, 1) := by decide +kernel
theorem dX5_isWithin_7 : decode cX5_isWithin 7 = .ok (.if_icmp .gt 7, 3) := by decide +kernel
theorem dX5_isWithin_10 : decode cX5_isWithin 10 = .ok (.iconst 1, 1) := by decide +kernel
theorem dX5_isWithin_11 : decode cX5_isWithin 11 = .ok (.goto 4, 3) := by decide +kernel
theorem dX5_isWithin_14 : decode cX5_isWithin 14 = .ok (.iconst 0, 1) := by decide +kernel
theorem dX5_isWithin_15 : decode cX5_isWithin 15 = .ok (.ireturn, 1) := by decide +kernel
