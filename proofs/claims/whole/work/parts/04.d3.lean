theorem dX6_init_0 : decode cX6_init 0 = .ok (.aload_n 0, 1) := by decide +kernel
theorem dX6_init_1 : decode cX6_init 1 = .ok (.invokespecial 1, 3) := by decide +kernel
theorem dX6_init_4 : decode cX6_init 4 = .ok (.aload_n 0, 1) := by decide +kernel
theorem dX6_init_5 : decode cX6_init 5 = .ok (.bipush 49, 2) := by decide +kernel
theorem dX6_init_7 : decode cX6_init 7 = .ok (.newarray .int, 2) := by decide +kernel
theorem dX6_init_9 : decode cX6_init 9 = .ok (.putfield 7, 3) := by decide +kernel
theorem dX6_init_12 : decode cX6_init 12 = .ok (.aload_n 0, 1) := by decide +kernel
theorem dX6_init_13 : decode cX6_init 13 = .ok (.sipush 196, 3) := by decide +kernel
theorem dX6_init_16 : decode cX6_init 16 = .ok (.newarray .int, 2) := by decide +kernel
theorem dX6_init_18 : decode cX6_init 18 = .ok (.putfield 13, 3) := by decide +kernel
theorem dX6_init_21 : decode cX6_init 21 = .ok (.aload_n 0, 1) := by decide +kernel
theorem dX6_init_22 : decode cX6_init 22 = .ok (.bipush 50, 2) := by decide +kernel
theorem dX6_init_24 : decode cX6_init 24 = .ok (.putfield 16, 3) := by decide +kernel
theorem dX6_init_27 : decode cX6_init 27 = .ok (.aload_n 0, 1) := by decide +kernel
theorem dX6_init_28 : decode cX6_init 28 = .ok (.sipush 400, 3) := by decide +kernel
theorem dX6_init_31 : decode cX6_init 31 = .ok (.putfield 20, 3) := by decide +kernel
theorem dX6_init_34 : decode cX6_init 34 = .ok (.aload_n 0, 1) := by decide +kernel
theorem dX6_init_35 : decode cX6_init 35 = .ok (.bipush 10, 2) := by decide +kernel
theorem dX6_init_37 : decode cX6_init 37 = .ok (.putfield 23, 3) := by decide +kernel
theorem dX6_init_40 : decode cX6_init 40 = .ok (.aload_n 0, 1) := by decide +kernel
theorem dX6_init_41 : decode cX6_init 41 = .ok (.sipush 4096, 3) := by decide +kernel
theorem dX6_init_44 : decode cX6_init 44 = .ok (.newarray .int, 2) := by decide +kernel
theorem dX6_init_46 : decode cX6_init 46 = .ok (.putfield 26, 3) := by decide +kernel
theorem dX6_init_49 : decode cX6_init 49 = .ok (.aload_n 0, 1) := by decide +kernel
theorem dX6_init_50 : decode cX6_init 50 = .ok (.bipush 8, 2) := by decide +kernel
theorem dX6_init_52 : decode cX6_init 52 = .ok (.newarray .int, 2) := by decide +kernel
theorem dX6_init_54 : decode cX6_init 54 = .ok (.putfield 29, 3) := by decide +kernel
theorem dX6_init_57 : decode cX6_init 57 = .ok (.aload_n 0, 1) := by decide +kernel
theorem dX6_init_58 : decode cX6_init 58 = .ok (.bipush 16, 2) := by decide +kernel
theorem dX6_init_60 : decode cX6_init 60 = .ok (.newarray .int, 2) := by decide +kernel
theorem dX6_init_62 : decode cX6_init 62 = .ok (.putfield 32, 3) := by decide +kernel
theorem dX6_init_65 : decode cX6_init 65 = .ok (.aload_n 0, 1) := by decide +kernel
theorem dX6_init_66 : decode cX6_init 66 = .ok (.bipush 8, 2) := by decide +kernel
theorem dX6_init_68 : decode cX6_init 68 = .ok (.newarray .int, 2) := by decide +kernel
theorem dX6_init_70 : decode cX6_init 70 = .ok (.putfield 35, 3) := by decide +kernel
theorem dX6_init_73 : decode cX6_init 73 = .ok (.return_, 1) := by decide +kernel
theorem dX6_in_0 : decode cX6_in 0 = .ok (.iload_n 0, 1) := by decide +kernel
theorem dX6_in_1 : decode cX6_in 1 = .ok (.iload_n 1, 1) := by decide +kernel
theorem dX6_in_2 : decode cX6_in 2 = .ok (.if_icmp .lt 12, 3) := by decide +kernel
theorem dX6_in_5 : decode cX6_in 5 = .ok (.iload_n 0, 1) := by decide +kernel
theorem dX6_in_6 : decode cX6_in 6 = .ok (.iload_n 2, 1) := by decide +kernel
theorem dX6_in_7 : decode cX6_in 7 = .ok (.if_icmp .gt 7, 3) := by decide +kernel
theorem dX6_in_10 : decode cX6_in 10 = .ok (.iconst 1, 1) := by decide +kernel
theorem dX6_in_11 : decode cX6_in 11 = .ok (.goto 4, 3) := by decide +kernel
theorem dX6_in_14 : decode cX6_in 14 = .ok (.iconst 0, 1) := by decide +kernel
theorem dX6_in_15 : decode cX6_in 15 = .ok (.ireturn, 1) := by decide +kernel
theorem dX6_isStroke_0 : decode cX6_isStroke 0 = .ok (.iload_n 1, 1) := by decide +kernel
theorem dX6_isStroke_1 : decode cX6_isStroke 1 = .ok (.iconst 0, 1) := by decide +kernel
theorem dX6_isStroke_2 : decode cX6_isStroke 2 = .ok (.aload_n 0, 1) := by decide +kernel
theorem dX6_isStroke_3 : decode cX6_isStroke 3 = .ok (.getfield 7, 3) := by decide +kernel
theorem dX6_isStroke_6 : decode cX6_isStroke 6 = .ok (.bipush 48, 2) := by decide +kernel
theorem dX6_isStroke_8 : decode cX6_isStroke 8 = .ok (.iaload, 1) := by decide +kernel
theorem dX6_isStroke_9 : decode cX6_isStroke 9 = .ok (.iconst 1, 1) := by decide +kernel
theorem dX6_isStroke_10 : decode cX6_isStroke 10 = .ok (.isub, 1) := by decide +kernel
theorem dX6_isStroke_11 : decode cX6_isStroke 11 = .ok (.invokestatic 38, 3) := by decide +kernel
theorem dX6_isStroke_14 : decode cX6_isStroke 14 = .ok (.ireturn, 1) := by decide +kernel
theorem dX6_edit_0 : decode cX6_edit 0 = .ok (.aload_n 0, 1) := by decide +kernel
theorem dX6_edit_1 : decode cX6_edit 1 = .ok (.getfield 42, 3) := by decide +kernel
theorem dX6_edit_4 : decode cX6_edit 4 = .ok (.iconst 4, 1) := by decide +kernel
theorem dX6_edit_5 : decode cX6_edit 5 = .ok (.if_icmp .ne 43, 3) := by decide +kernel
theorem dX6_edit_8 : decode cX6_edit 8 = .ok (.iconst 0, 1) := by decide +kernel
theorem dX6_edit_9 : decode cX6_edit 9 = .ok (.istore_n 1, 1) := by decide +kernel
theorem dX6_edit_10 : decode cX6_edit 10 = .ok (.iload_n 1, 1) := by decide +kernel
theorem dX6_edit_11 : decode cX6_edit 11 = .ok (.sipush 147, 3) := by decide +kernel
theorem dX6_edit_14 : decode cX6_edit 14 = .ok (.if_icmp .ge 24, 3) := by decide +kernel
theorem dX6_edit_17 : decode cX6_edit 17 = .ok (.aload_n 0, 1) := by decide +kernel
theorem dX6_edit_18 : decode cX6_edit 18 = .ok (.getfield 13, 3) := by decide +kernel
theorem dX6_edit_21 : decode cX6_edit 21 = .ok (.iload_n 1, 1) := by decide +kernel
theorem dX6_edit_22 : decode cX6_edit 22 = .ok (.aload_n 0, 1) := by decide +kernel
theorem dX6_edit_23 : decode cX6_edit 23 = .ok (.getfield 13, 3) := by decide +kernel
theorem dX6_edit_26 : decode cX6_edit 26 = .ok (.iload_n 1, 1) := by decide +kernel
theorem dX6_edit_27 : decode cX6_edit 27 = .ok (.bipush 49, 2) := by decide +kernel
theorem dX6_edit_29 : decode cX6_edit 29 = .ok (.iadd, 1) := by decide +kernel
theorem dX6_edit_30 : decode cX6_edit 30 = .ok (.iaload, 1) := by decide +kernel
theorem dX6_edit_31 : decode cX6_edit 31 = .ok (.iastore, 1) := by decide +kernel
theorem dX6_edit_32 : decode cX6_edit 32 = .ok (.iinc 1 1, 3) := by decide +kernel
theorem dX6_edit_35 : decode cX6_edit 35 = .ok (.goto (-25), 3) := by decide +kernel
theorem dX6_edit_38 : decode cX6_edit 38 = .ok (.aload_n 0, 1) := by decide +kernel
theorem dX6_edit_39 : decode cX6_edit 39 = .ok (.dup, 1) := by decide +kernel
theorem dX6_edit_40 : decode cX6_edit 40 = .ok (.getfield 42, 3) := by decide +kernel
theorem dX6_edit_43 : decode cX6_edit 43 = .ok (.iconst 1, 1) := by decide +kernel
theorem dX6_edit_44 : decode cX6_edit 44 = .ok (.isub, 1) := by decide +kernel
theorem dX6_edit_45 : decode cX6_edit 45 = .ok (.putfield 42, 3) := by decide +kernel
theorem dX6_edit_48 : decode cX6_edit 48 = .ok (.iconst 0, 1) := by decide +kernel
theorem dX6_edit_49 : decode cX6_edit 49 = .ok (.istore_n 1, 1) := by decide +kernel
theorem dX6_edit_50 : decode cX6_edit 50 = .ok (.iload_n 1, 1) := by decide +kernel
theorem dX6_edit_51 : decode cX6_edit 51 = .ok (.bipush 49, 2) := by decide +kernel
theorem dX6_edit_53 : decode cX6_edit 53 = .ok (.if_icmp .ge 29, 3) := by decide +kernel
theorem dX6_edit_56 : decode cX6_edit 56 = .ok (.aload_n 0, 1) := by decide +kernel
theorem dX6_edit_57 : decode cX6_edit 57 = .ok (.getfield 13, 3) := by decide +kernel
theorem dX6_edit_60 : decode cX6_edit 60 = .ok (.bipush 49, 2) := by decide +kernel
theorem dX6_edit_62 : decode cX6_edit 62 = .ok (.aload_n 0, 1) := by decide +kernel
theorem dX6_edit_63 : decode cX6_edit 63 = .ok (.getfield 42, 3) := by decide +kernel
theorem dX6_edit_66 : decode cX6_edit 66 = .ok (.imul, 1) := by decide +kernel
theorem dX6_edit_67 : decode cX6_edit 67 = .ok (.iload_n 1, 1) := by decide +kernel
theorem dX6_edit_68 : decode cX6_edit 68 = .ok (.iadd, 1) := by decide +kernel
theorem dX6_edit_69 : decode cX6_edit 69 = .ok (.aload_n 0, 1) := by decide +kernel
theorem dX6_edit_70 : decode cX6_edit 70 = .ok (.getfield 7, 3) := by decide +kernel
theorem dX6_edit_73 : decode cX6_edit 73 = .ok (.iload_n 1, 1) := by decide +kernel
theorem dX6_edit_74 : decode cX6_edit 74 = .ok (.iaload, 1) := by decide +kernel
theorem dX6_edit_75 : decode cX6_edit 75 = .ok (.iastore, 1) := by decide +kernel
theorem dX6_edit_76 : decode cX6_edit 76 = .ok (.iinc 1 1, 3) := by decide +kernel
theorem dX6_edit_79 : decode cX6_edit 79 = .ok (.goto (-29), 3) := by decide +kernel
theorem dX6_edit_82 : decode cX6_edit 82 = .ok (.aload_n 0, 1) := by decide +kernel
theorem dX6_edit_83 : decode cX6_edit 83 = .ok (.dup, 1) := by decide +kernel
theorem dX6_edit_84 : decode cX6_edit 84 = .ok (.getfield 42, 3) := by decide +kernel
theorem dX6_edit_87 : decode cX6_edit 87 = .ok (.iconst 1, 1) := by decide +kernel
theorem dX6_edit_88 : decode cX6_edit 88 = .ok (.iadd, 1) := by decide +kernel
theorem dX6_edit_89 : decode cX6_edit 89 = .ok (.putfield 42, 3) := by decide +kernel
theorem dX6_edit_92 : decode cX6_edit 92 = .ok (.return_, 1) := by decide +kernel
theorem dX6_undo_0 : decode cX6_undo 0 = .ok (.aload_n 0, 1) := by decide +kernel
theorem dX6_undo_1 : decode cX6_undo 1 = .ok (.getfield 42, 3) := by decide +kernel
theorem dX6_undo_4 : decode cX6_undo 4 = .ok (.ifCond .ne 6, 3) := by decide +kernel
theorem dX6_undo_7 : decode cX6_undo 7 = .ok (.bipush (-3), 2) := by decide +kernel
theorem dX6_undo_9 : decode cX6_undo 9 = .ok (.ireturn, 1) := by decide +kernel
theorem dX6_undo_10 : decode cX6_undo 10 = .ok (.aload_n 0, 1) := by decide +kernel
theorem dX6_undo_11 : decode cX6_undo 11 = .ok (.dup, 1) := by decide +kernel
theorem dX6_undo_12 : decode cX6_undo 12 = .ok (.getfield 42, 3) := by decide +kernel
theorem dX6_undo_15 : decode cX6_undo 15 = .ok (.iconst 1, 1) := by decide +kernel
theorem dX6_undo_16 : decode cX6_undo 16 = .ok (.isub, 1) := by decide +kernel
theorem dX6_undo_17 : decode cX6_undo 17 = .ok (.putfield 42, 3) := by decide +kernel
theorem dX6_undo_20 : decode cX6_undo 20 = .ok (.iconst 0, 1) := by decide +kernel
theorem dX6_undo_21 : decode cX6_undo 21 = .ok (.istore_n 1, 1) := by decide +kernel
theorem dX6_undo_22 : decode cX6_undo 22 = .ok (.iload_n 1, 1) := by decide +kernel
theorem dX6_undo_23 : decode cX6_undo 23 = .ok (.bipush 49, 2) := by decide +kernel
theorem dX6_undo_25 : decode cX6_undo 25 = .ok (.if_icmp .ge 29, 3) := by decide +kernel
theorem dX6_undo_28 : decode cX6_undo 28 = .ok (.aload_n 0, 1) := by decide +kernel
theorem dX6_undo_29 : decode cX6_undo 29 = .ok (.getfield 7, 3) := by decide +kernel
theorem dX6_undo_32 : decode cX6_undo 32 = .ok (.iload_n 1, 1) := by decide +kernel
theorem dX6_undo_33 : decode cX6_undo 33 = .ok (.aload_n 0, 1) := by decide +kernel
theorem dX6_undo_34 : decode cX6_undo 34 = .ok (.getfield 13, 3) := by decide +kernel
theorem dX6_undo_37 : decode cX6_undo 37 = .ok (.bipush 49, 2) := by decide +kernel
theorem dX6_undo_39 : decode cX6_undo 39 = .ok (.aload_n 0, 1) := by decide +kernel
theorem dX6_undo_40 : decode cX6_undo 40 = .ok (.getfield 42, 3) := by decide +kernel
theorem dX6_undo_43 : decode cX6_undo 43 = .ok (.imul, 1) := by decide +kernel
theorem dX6_undo_44 : decode cX6_undo 44 = .ok (.iload_n 1, 1) := by decide +kernel
theorem dX6_undo_45 : decode cX6_undo 45 = .ok (.iadd, 1) := by decide +kernel
theorem dX6_undo_46 : decode cX6_undo 46 = .ok (.iaload, 1) := by decide +kernel
theorem dX6_undo_47 : decode cX6_undo 47 = .ok (.iastore, 1) := by decide +kernel
theorem dX6_undo_48 : decode cX6_undo 48 = .ok (.iinc 1 1, 3) := by decide +kernel
theorem dX6_undo_51 : decode cX6_undo 51 = .ok (.goto (-29), 3) := by decide +kernel
theorem dX6_undo_54 : decode cX6_undo 54 = .ok (.aload_n 0, 1) := by decide +kernel
theorem dX6_undo_55 : decode cX6_undo 55 = .ok (.getfield 42, 3) := by decide +kernel
theorem dX6_undo_58 : decode cX6_undo 58 = .ok (.ireturn, 1) := by decide +kernel
theorem dX6_addStroke_0 : decode cX6_addStroke 0 = .ok (.iload_n 1, 1) := by decide +kernel
theorem dX6_addStroke_1 : decode cX6_addStroke 1 = .ok (.iconst 0, 1) := by decide +kernel
theorem dX6_addStroke_2 : decode cX6_addStroke 2 = .ok (.bipush 99, 2) := by decide +kernel
theorem dX6_addStroke_4 : decode cX6_addStroke 4 = .ok (.invokestatic 38, 3) := by decide +kernel
theorem dX6_addStroke_7 : decode cX6_addStroke 7 = .ok (.ifCond .eq 59, 3) := by decide +kernel
theorem dX6_addStroke_10 : decode cX6_addStroke 10 = .ok (.iload_n 2, 1) := by decide +kernel
theorem dX6_addStroke_11 : decode cX6_addStroke 11 = .ok (.iconst 0, 1) := by decide +kernel
theorem dX6_addStroke_12 : decode cX6_addStroke 12 = .ok (.bipush 99, 2) := by decide +kernel
theorem dX6_addStroke_14 : decode cX6_addStroke 14 = .ok (.invokestatic 38, 3) := by decide +kernel
theorem dX6_addStroke_17 : decode cX6_addStroke 17 = .ok (.ifCond .eq 49, 3) := by decide +kernel
theorem dX6_addStroke_20 : decode cX6_addStroke 20 = .ok (.iload_n 3, 1) := by decide +kernel
theorem dX6_addStroke_21 : decode cX6_addStroke 21 = .ok (.iconst 0, 1) := by decide +kernel
theorem dX6_addStroke_22 : decode cX6_addStroke 22 = .ok (.bipush 99, 2) := by decide +kernel
theorem dX6_addStroke_24 : decode cX6_addStroke 24 = .ok (.invokestatic 38, 3) := by decide +kernel
theorem dX6_addStroke_27 : decode cX6_addStroke 27 = .ok (.ifCond .eq 39, 3) := by decide +kernel
theorem dX6_addStroke_30 : decode cX6_addStroke 30 = .ok (.iload 4, 2) := by decide +kernel
theorem dX6_addStroke_32 : decode cX6_addStroke 32 = .ok (.iconst 0, 1) := by decide +kernel
theorem dX6_addStroke_33 : decode cX6_addStroke 33 = .ok (.bipush 99, 2) := by decide +kernel
theorem dX6_addStroke_35 : decode cX6_addStroke 35 = .ok (.invokestatic 38, 3) := by decide +kernel
theorem dX6_addStroke_38 : decode cX6_addStroke 38 = .ok (.ifCond .eq 28, 3) := by decide +kernel
theorem dX6_addStroke_41 : decode cX6_addStroke 41 = .ok (.iload 5, 2) := by decide +kernel
theorem dX6_addStroke_43 : decode cX6_addStroke 43 = .ok (.iconst 0, 1) := by decide +kernel
theorem dX6_addStroke_44 : decode cX6_addStroke 44 = .ok (.iconst 3, 1) := by decide +kernel
theorem dX6_addStroke_45 : decode cX6_addStroke 45 = .ok (.invokestatic 38, 3) := by decide +kernel
theorem dX6_addStroke_48 : decode cX6_addStroke 48 = .ok (.ifCond .eq 18, 3) := by decide +kernel
theorem dX6_addStroke_51 : decode cX6_addStroke 51 = .ok (.iload_n 1, 1) := by decide +kernel
theorem dX6_addStroke_52 : decode cX6_addStroke 52 = .ok (.iload_n 3, 1) := by decide +kernel
theorem dX6_addStroke_53 : decode cX6_addStroke 53 = .ok (.if_icmp .ne 9, 3) := by decide +kernel
theorem dX6_addStroke_56 : decode cX6_addStroke 56 = .ok (.iload_n 2, 1) := by decide +kernel
theorem dX6_addStroke_57 : decode cX6_addStroke 57 = .ok (.iload 4, 2) := by decide +kernel
theorem dX6_addStroke_59 : decode cX6_addStroke 59 = .ok (.if_icmp .eq 7, 3) := by decide +kernel
theorem dX6_addStroke_62 : decode cX6_addStroke 62 = .ok (.iconst 1, 1) := by decide +kernel
theorem dX6_addStroke_63 : decode cX6_addStroke 63 = .ok (.goto 4, 3) := by decide +kernel
theorem dX6_addStroke_66 : decode cX6_addStroke 66 = .ok (.iconst 0, 1) := by decide +kernel
theorem dX6_addStroke_67 : decode cX6_addStroke 67 = .ok (.istore 6, 2) := by decide +kernel
theorem dX6_addStroke_69 : decode cX6_addStroke 69 = .ok (.iload 6, 2) := by decide +kernel
theorem dX6_addStroke_71 : decode cX6_addStroke 71 = .ok (.ifCond .ne 5, 3) := by decide +kernel
theorem dX6_addStroke_74 : decode cX6_addStroke 74 = .ok (.iconst (-1), 1) := by decide +kernel
theorem dX6_addStroke_75 : decode cX6_addStroke 75 = .ok (.ireturn, 1) := by decide +kernel
theorem dX6_addStroke_76 : decode cX6_addStroke 76 = .ok (.aload_n 0, 1) := by decide +kernel
theorem dX6_addStroke_77 : decode cX6_addStroke 77 = .ok (.getfield 7, 3) := by decide +kernel
theorem dX6_addStroke_80 : decode cX6_addStroke 80 = .ok (.bipush 48, 2) := by decide +kernel
theorem dX6_addStroke_82 : decode cX6_addStroke 82 = .ok (.iaload, 1) := by decide +kernel
theorem dX6_addStroke_83 : decode cX6_addStroke 83 = .ok (.bipush 8, 2) := by decide +kernel
theorem dX6_addStroke_85 : decode cX6_addStroke 85 = .ok (.if_icmp .ne 6, 3) := by decide +kernel
theorem dX6_addStroke_88 : decode cX6_addStroke 88 = .ok (.bipush (-2), 2) := by decide +kernel
theorem dX6_addStroke_90 : decode cX6_addStroke 90 = .ok (.ireturn, 1) := by decide +kernel
theorem dX6_addStroke_91 : decode cX6_addStroke 91 = .ok (.aload_n 0, 1) := by decide +kernel
theorem dX6_addStroke_92 : decode cX6_addStroke 92 = .ok (.invokevirtual 45, 3) := by decide +kernel
theorem dX6_addStroke_95 : decode cX6_addStroke 95 = .ok (.aload_n 0, 1) := by decide +kernel
theorem dX6_addStroke_96 : decode cX6_addStroke 96 = .ok (.getfield 7, 3) := by decide +kernel
theorem dX6_addStroke_99 : decode cX6_addStroke 99 = .ok (.bipush 48, 2) := by decide +kernel
theorem dX6_addStroke_101 : decode cX6_addStroke 101 = .ok (.iaload, 1) := by decide +kernel
theorem dX6_addStroke_102 : decode cX6_addStroke 102 = .ok (.istore 7, 2) := by decide +kernel
theorem dX6_addStroke_104 : decode cX6_addStroke 104 = .ok (.aload_n 0, 1) := by decide +kernel
theorem dX6_addStroke_105 : decode cX6_addStroke 105 = .ok (.getfield 7, 3) := by decide +kernel
theorem dX6_addStroke_108 : decode cX6_addStroke 108 = .ok (.iconst 5, 1) := by decide +kernel
theorem dX6_addStroke_109 : decode cX6_addStroke 109 = .ok (.iload 7, 2) := by decide +kernel
theorem dX6_addStroke_111 : decode cX6_addStroke 111 = .ok (.imul, 1) := by decide +kernel
theorem dX6_addStroke_112 : decode cX6_addStroke 112 = .ok (.iload_n 1, 1) := by decide +kernel
theorem dX6_addStroke_113 : decode cX6_addStroke 113 = .ok (.iastore, 1) := by decide +kernel
theorem dX6_addStroke_114 : decode cX6_addStroke 114 = .ok (.aload_n 0, 1) := by decide +kernel
theorem dX6_addStroke_115 : decode cX6_addStroke 115 = .ok (.getfield 7, 3) := by decide +kernel
theorem dX6_addStroke_118 : decode cX6_addStroke 118 = .ok (.iconst 5, 1) := by decide +kernel
theorem dX6_addStroke_119 : decode cX6_addStroke 119 = .ok (.iload 7, 2) := by decide +kernel
theorem dX6_addStroke_121 : decode cX6_addStroke 121 = .ok (.imul, 1) := by decide +kernel
theorem dX6_addStroke_122 : decode cX6_addStroke 122 = .ok (.iconst 1, 1) := by decide +kernel
theorem dX6_addStroke_123 : decode cX6_addStroke 123 = .ok (.iadd, 1) := by decide +kernel
theorem dX6_addStroke_124 : decode cX6_addStroke 124 = .ok (.iload_n 2, 1) := by decide +kernel
theorem dX6_addStroke_125 : decode cX6_addStroke 125 = .ok (.iastore, 1) := by decide +kernel
theorem dX6_addStroke_126 : decode cX6_addStroke 126 = .ok (.aload_n 0, 1) := by decide +kernel
theorem dX6_addStroke_127 : decode cX6_addStroke 127 = .ok (.getfield 7, 3) := by decide +kernel
theorem dX6_addStroke_130 : decode cX6_addStroke 130 = .ok (.iconst 5, 1) := by decide +kernel
theorem dX6_addStroke_131 : decode cX6_addStroke 131 = .ok (.iload 7, 2) := by decide +kernel
theorem dX6_addStroke_133 : decode cX6_addStroke 133 = .ok (.imul, 1) := by decide +kernel
theorem dX6_addStroke_134 : decode cX6_addStroke 134 = .ok (.iconst 2, 1) := by decide +kernel
theorem dX6_addStroke_135 : decode cX6_addStroke 135 = .ok (.iadd, 1) := by decide +kernel
theorem dX6_addStroke_136 : decode cX6_addStroke 136 = .ok (.iload_n 3, 1) := by decide +kernel
theorem dX6_addStroke_137 : decode cX6_addStroke 137 = .ok (.iastore, 1) := by decide +kernel
theorem dX6_addStroke_138 : decode cX6_addStroke 138 = .ok (.aload_n 0, 1) := by decide +kernel
theorem dX6_addStroke_139 : decode cX6_addStroke 139 = .ok (.getfield 7, 3) := by decide +kernel
theorem dX6_addStroke_142 : decode cX6_addStroke 142 = .ok (.iconst 5, 1) := by decide +kernel
theorem dX6_addStroke_143 : decode cX6_addStroke 143 = .ok (.iload 7, 2) := by decide +kernel
theorem dX6_addStroke_145 : decode cX6_addStroke 145 = .ok (.imul, 1) := by decide +kernel
theorem dX6_addStroke_146 : decode cX6_addStroke 146 = .ok (.iconst 3, 1) := by decide +kernel
theorem dX6_addStroke_147 : decode cX6_addStroke 147 = .ok (.iadd, 1) := by decide +kernel
theorem dX6_addStroke_148 : decode cX6_addStroke 148 = .ok (.iload 4, 2) := by decide +kernel
theorem dX6_addStroke_150 : decode cX6_addStroke 150 = .ok (.iastore, 1) := by decide +kernel
theorem dX6_addStroke_151 : decode cX6_addStroke 151 = .ok (.aload_n 0, 1) := by decide +kernel
theorem dX6_addStroke_152 : decode cX6_addStroke 152 = .ok (.getfield 7, 3) := by decide +kernel
theorem dX6_addStroke_155 : decode cX6_addStroke 155 = .ok (.iconst 5, 1) := by decide +kernel
theorem dX6_addStroke_156 : decode cX6_addStroke 156 = .ok (.iload 7, 2) := by decide +kernel
theorem dX6_addStroke_158 : decode cX6_addStroke 158 = .ok (.imul, 1) := by decide +kernel
theorem dX6_addStroke_159 : decode cX6_addStroke 159 = .ok (.iconst 4, 1) := by decide +kernel
theorem dX6_addStroke_160 : decode cX6_addStroke 160 = .ok (.iadd, 1) := by decide +kernel
theorem dX6_addStroke_161 : decode cX6_addStroke 161 = .ok (.iload 5, 2) := by decide +kernel
theorem dX6_addStroke_163 : decode cX6_addStroke 163 = .ok (.iastore, 1) := by decide +kernel
theorem dX6_addStroke_164 : decode cX6_addStroke 164 = .ok (.aload_n 0, 1) := by decide +kernel
theorem dX6_addStroke_165 : decode cX6_addStroke 165 = .ok (.getfield 7, 3) := by decide +kernel
theorem dX6_addStroke_168 : decode cX6_addStroke 168 = .ok (.bipush 40, 2) := by decide +kernel
theorem dX6_addStroke_170 : decode cX6_addStroke 170 = .ok (.iload 7, 2) := by decide +kernel
theorem dX6_addStroke_172 : decode cX6_addStroke 172 = .ok (.iadd, 1) := by decide +kernel
theorem dX6_addStroke_173 : decode cX6_addStroke 173 = .ok (.iconst 2, 1) := by decide +kernel
theorem dX6_addStroke_174 : decode cX6_addStroke 174 = .ok (.iload 7, 2) := by decide +kernel
theorem dX6_addStroke_176 : decode cX6_addStroke 176 = .ok (.imul, 1) := by decide +kernel
theorem dX6_addStroke_177 : decode cX6_addStroke 177 = .ok (.iastore, 1) := by decide +kernel
theorem dX6_addStroke_178 : decode cX6_addStroke 178 = .ok (.aload_n 0, 1) := by decide +kernel
theorem dX6_addStroke_179 : decode cX6_addStroke 179 = .ok (.getfield 7, 3) := by decide +kernel
theorem dX6_addStroke_182 : decode cX6_addStroke 182 = .ok (.bipush 48, 2) := by decide +kernel
theorem dX6_addStroke_184 : decode cX6_addStroke 184 = .ok (.dup2, 1) := by decide +kernel
theorem dX6_addStroke_185 : decode cX6_addStroke 185 = .ok (.iaload, 1) := by decide +kernel
theorem dX6_addStroke_186 : decode cX6_addStroke 186 = .ok (.iconst 1, 1) := by decide +kernel
theorem dX6_addStroke_187 : decode cX6_addStroke 187 = .ok (.iadd, 1) := by decide +kernel
theorem dX6_addStroke_188 : decode cX6_addStroke 188 = .ok (.iastore, 1) := by decide +kernel
theorem dX6_addStroke_189 : decode cX6_addStroke 189 = .ok (.iload 7, 2) := by decide +kernel
theorem dX6_addStroke_191 : decode cX6_addStroke 191 = .ok (.ireturn, 1) := by decide +kernel
theorem dX6_removes_0 : decode cX6_removes 0 = .ok (.iconst 0, 1) := by decide +kernel
theorem dX6_removes_1 : decode cX6_removes 1 = .ok (.istore_n 2, 1) := by decide +kernel
theorem dX6_removes_2 : decode cX6_removes 2 = .ok (.aload_n 0, 1) := by decide +kernel
theorem dX6_removes_3 : decode cX6_removes 3 = .ok (.getfield 7, 3) := by decide +kernel
theorem dX6_removes_6 : decode cX6_removes 6 = .ok (.bipush 40, 2) := by decide +kernel
theorem dX6_removes_8 : decode cX6_removes 8 = .ok (.iload_n 2, 1) := by decide +kernel
theorem dX6_removes_9 : decode cX6_removes 9 = .ok (.iadd, 1) := by decide +kernel
theorem dX6_removes_10 : decode cX6_removes 10 = .ok (.iaload, 1) := by decide +kernel
theorem dX6_removes_11 : decode cX6_removes 11 = .ok (.iconst 2, 1) := by decide +kernel
theorem dX6_removes_12 : decode cX6_removes 12 = .ok (.idiv, 1) := by decide +kernel
theorem dX6_removes_13 : decode cX6_removes 13 = .ok (.iload_n 1, 1) := by decide +kernel
theorem dX6_removes_14 : decode cX6_removes 14 = .ok (.if_icmp .eq 9, 3) := by decide +kernel
theorem dX6_removes_17 : decode cX6_removes 17 = .ok (.iinc 2 1, 3) := by decide +kernel
theorem dX6_removes_20 : decode cX6_removes 20 = .ok (.goto (-18), 3) := by decide +kernel
theorem dX6_removes_23 : decode cX6_removes 23 = .ok (.aload_n 0, 1) := by decide +kernel
theorem dX6_removes_24 : decode cX6_removes 24 = .ok (.getfield 7, 3) := by decide +kernel
theorem dX6_removes_27 : decode cX6_removes 27 = .ok (.bipush 48, 2) := by decide +kernel
theorem dX6_removes_29 : decode cX6_removes 29 = .ok (.dup2, 1) := by decide +kernel
theorem dX6_removes_30 : decode cX6_removes 30 = .ok (.iaload, 1) := by decide +kernel
theorem dX6_removes_31 : decode cX6_removes 31 = .ok (.iconst 1, 1) := by decide +kernel
theorem dX6_removes_32 : decode cX6_removes 32 = .ok (.isub, 1) := by decide +kernel
theorem dX6_removes_33 : decode cX6_removes 33 = .ok (.iastore, 1) := by decide +kernel
theorem dX6_removes_34 : decode cX6_removes 34 = .ok (.iload_n 2, 1) := by decide +kernel
theorem dX6_removes_35 : decode cX6_removes 35 = .ok (.istore_n 3, 1) := by decide +kernel
theorem dX6_removes_36 : decode cX6_removes 36 = .ok (.iload_n 3, 1) := by decide +kernel
theorem dX6_removes_37 : decode cX6_removes 37 = .ok (.aload_n 0, 1) := by decide +kernel
theorem dX6_removes_38 : decode cX6_removes 38 = .ok (.getfield 7, 3) := by decide +kernel
theorem dX6_removes_41 : decode cX6_removes 41 = .ok (.bipush 48, 2) := by decide +kernel
theorem dX6_removes_43 : decode cX6_removes 43 = .ok (.iaload, 1) := by decide +kernel
theorem dX6_removes_44 : decode cX6_removes 44 = .ok (.if_icmp .ge 29, 3) := by decide +kernel
theorem dX6_removes_47 : decode cX6_removes 47 = .ok (.aload_n 0, 1) := by decide +kernel
theorem dX6_removes_48 : decode cX6_removes 48 = .ok (.getfield 7, 3) := by decide +kernel
theorem dX6_removes_51 : decode cX6_removes 51 = .ok (.bipush 40, 2) := by decide +kernel
theorem dX6_removes_53 : decode cX6_removes 53 = .ok (.iload_n 3, 1) := by decide +kernel
theorem dX6_removes_54 : decode cX6_removes 54 = .ok (.iadd, 1) := by decide +kernel
theorem dX6_removes_55 : decode cX6_removes 55 = .ok (.aload_n 0, 1) := by decide +kernel
theorem dX6_removes_56 : decode cX6_removes 56 = .ok (.getfield 7, 3) := by decide +kernel
theorem dX6_removes_59 : decode cX6_removes 59 = .ok (.bipush 40, 2) := by decide +kernel
theorem dX6_removes_61 : decode cX6_removes 61 = .ok (.iload_n 3, 1) := by decide +kernel
theorem dX6_removes_62 : decode cX6_removes 62 = .ok (.iadd, 1) := by decide +kernel
theorem dX6_removes_63 : decode cX6_removes 63 = .ok (.iconst 1, 1) := by decide +kernel
theorem dX6_removes_64 : decode cX6_removes 64 = .ok (.iadd, 1) := by decide +kernel
theorem dX6_removes_65 : decode cX6_removes 65 = .ok (.iaload, 1) := by decide +kernel
theorem dX6_removes_66 : decode cX6_removes 66 = .ok (.iastore, 1) := by decide +kernel
theorem dX6_removes_67 : decode cX6_removes 67 = .ok (.iinc 3 1, 3) := by decide +kernel
theorem dX6_removes_70 : decode cX6_removes 70 = .ok (.goto (-34), 3) := by decide +kernel
theorem dX6_removes_73 : decode cX6_removes 73 = .ok (.iconst 0, 1) := by decide +kernel
theorem dX6_removes_74 : decode cX6_removes 74 = .ok (.istore_n 3, 1) := by decide +kernel
theorem dX6_removes_75 : decode cX6_removes 75 = .ok (.iload_n 3, 1) := by decide +kernel
theorem dX6_removes_76 : decode cX6_removes 76 = .ok (.aload_n 0, 1) := by decide +kernel
theorem dX6_removes_77 : decode cX6_removes 77 = .ok (.getfield 7, 3) := by decide +kernel
theorem dX6_removes_80 : decode cX6_removes 80 = .ok (.bipush 48, 2) := by decide +kernel
theorem dX6_removes_82 : decode cX6_removes 82 = .ok (.iaload, 1) := by decide +kernel
theorem dX6_removes_83 : decode cX6_removes 83 = .ok (.if_icmp .ge 41, 3) := by decide +kernel
theorem dX6_removes_86 : decode cX6_removes 86 = .ok (.aload_n 0, 1) := by decide +kernel
theorem dX6_removes_87 : decode cX6_removes 87 = .ok (.getfield 7, 3) := by decide +kernel
theorem dX6_removes_90 : decode cX6_removes 90 = .ok (.bipush 40, 2) := by decide +kernel
theorem dX6_removes_92 : decode cX6_removes 92 = .ok (.iload_n 3, 1) := by decide +kernel
theorem dX6_removes_93 : decode cX6_removes 93 = .ok (.iadd, 1) := by decide +kernel
theorem dX6_removes_94 : decode cX6_removes 94 = .ok (.dup2, 1) := by decide +kernel
theorem dX6_removes_95 : decode cX6_removes 95 = .ok (.iaload, 1) := by decide +kernel
theorem dX6_removes_96 : decode cX6_removes 96 = .ok (.aload_n 0, 1) := by decide +kernel
theorem dX6_removes_97 : decode cX6_removes 97 = .ok (.getfield 7, 3) := by decide +kernel
theorem dX6_removes_100 : decode cX6_removes 100 = .ok (.bipush 40, 2) := by decide +kernel
theorem dX6_removes_102 : decode cX6_removes 102 = .ok (.iload_n 3, 1) := by decide +kernel
theorem dX6_removes_103 : decode cX6_removes 103 = .ok (.iadd, 1) := by decide +kernel
theorem dX6_removes_104 : decode cX6_removes 104 = .ok (.iaload, 1) := by decide +kernel
theorem dX6_removes_105 : decode cX6_removes 105 = .ok (.iconst 2, 1) := by decide +kernel
theorem dX6_removes_106 : decode cX6_removes 106 = .ok (.idiv, 1) := by decide +kernel
theorem dX6_removes_107 : decode cX6_removes 107 = .ok (.iload_n 1, 1) := by decide +kernel
theorem dX6_removes_108 : decode cX6_removes 108 = .ok (.if_icmp .le 7, 3) := by decide +kernel
theorem dX6_removes_111 : decode cX6_removes 111 = .ok (.iconst 2, 1) := by decide +kernel
theorem dX6_removes_112 : decode cX6_removes 112 = .ok (.goto 4, 3) := by decide +kernel
theorem dX6_removes_115 : decode cX6_removes 115 = .ok (.iconst 0, 1) := by decide +kernel
theorem dX6_removes_116 : decode cX6_removes 116 = .ok (.isub, 1) := by decide +kernel
theorem dX6_removes_117 : decode cX6_removes 117 = .ok (.iastore, 1) := by decide +kernel
theorem dX6_removes_118 : decode cX6_removes 118 = .ok (.iinc 3 1, 3) := by decide +kernel
theorem dX6_removes_121 : decode cX6_removes 121 = .ok (.goto (-46), 3) := by decide +kernel
theorem dX6_removes_124 : decode cX6_removes 124 = .ok (.iconst 5, 1) := by decide +kernel
theorem dX6_removes_125 : decode cX6_removes 125 = .ok (.iload_n 1, 1) := by decide +kernel
theorem dX6_removes_126 : decode cX6_removes 126 = .ok (.imul, 1) := by decide +kernel
theorem dX6_removes_127 : decode cX6_removes 127 = .ok (.istore_n 3, 1) := by decide +kernel
theorem dX6_removes_128 : decode cX6_removes 128 = .ok (.iload_n 3, 1) := by decide +kernel
theorem dX6_removes_129 : decode cX6_removes 129 = .ok (.iconst 5, 1) := by decide +kernel
theorem dX6_removes_130 : decode cX6_removes 130 = .ok (.aload_n 0, 1) := by decide +kernel
theorem dX6_removes_131 : decode cX6_removes 131 = .ok (.getfield 7, 3) := by decide +kernel
theorem dX6_removes_134 : decode cX6_removes 134 = .ok (.bipush 48, 2) := by decide +kernel
theorem dX6_removes_136 : decode cX6_removes 136 = .ok (.iaload, 1) := by decide +kernel
theorem dX6_removes_137 : decode cX6_removes 137 = .ok (.imul, 1) := by decide +kernel
theorem dX6_removes_138 : decode cX6_removes 138 = .ok (.if_icmp .ge 23, 3) := by decide +kernel
theorem dX6_removes_141 : decode cX6_removes 141 = .ok (.aload_n 0, 1) := by decide +kernel
theorem dX6_removes_142 : decode cX6_removes 142 = .ok (.getfield 7, 3) := by decide +kernel
theorem dX6_removes_145 : decode cX6_removes 145 = .ok (.iload_n 3, 1) := by decide +kernel
theorem dX6_removes_146 : decode cX6_removes 146 = .ok (.aload_n 0, 1) := by decide +kernel
theorem dX6_removes_147 : decode cX6_removes 147 = .ok (.getfield 7, 3) := by decide +kernel
theorem dX6_removes_150 : decode cX6_removes 150 = .ok (.iload_n 3, 1) := by decide +kernel
theorem dX6_removes_151 : decode cX6_removes 151 = .ok (.iconst 5, 1) := by decide +kernel
theorem dX6_removes_152 : decode cX6_removes 152 = .ok (.iadd, 1) := by decide +kernel
theorem dX6_removes_153 : decode cX6_removes 153 = .ok (.iaload, 1) := by decide +kernel
theorem dX6_removes_154 : decode cX6_removes 154 = .ok (.iastore, 1) := by decide +kernel
theorem dX6_removes_155 : decode cX6_removes 155 = .ok (.iinc 3 1, 3) := by decide +kernel
theorem dX6_removes_158 : decode cX6_removes 158 = .ok (.goto (-30), 3) := by decide +kernel
theorem dX6_removes_161 : decode cX6_removes 161 = .ok (.return_, 1) := by decide +kernel
theorem dX6_removeStroke_0 : decode cX6_removeStroke 0 = .ok (.aload_n 0, 1) := by decide +kernel
theorem dX6_removeStroke_1 : decode cX6_removeStroke 1 = .ok (.iload_n 1, 1) := by decide +kernel
theorem dX6_removeStroke_2 : decode cX6_removeStroke 2 = .ok (.invokevirtual 48, 3) := by decide +kernel
theorem dX6_removeStroke_5 : decode cX6_removeStroke 5 = .ok (.ifCond .ne 5, 3) := by decide +kernel
theorem dX6_removeStroke_8 : decode cX6_removeStroke 8 = .ok (.iconst (-1), 1) := by decide +kernel
theorem dX6_removeStroke_9 : decode cX6_removeStroke 9 = .ok (.ireturn, 1) := by decide +kernel
theorem dX6_removeStroke_10 : decode cX6_removeStroke 10 = .ok (.aload_n 0, 1) := by decide +kernel
theorem dX6_removeStroke_11 : decode cX6_removeStroke 11 = .ok (.invokevirtual 45, 3) := by decide +kernel
theorem dX6_removeStroke_14 : decode cX6_removeStroke 14 = .ok (.aload_n 0, 1) := by decide +kernel
theorem dX6_removeStroke_15 : decode cX6_removeStroke 15 = .ok (.iload_n 1, 1) := by decide +kernel
theorem dX6_removeStroke_16 : decode cX6_removeStroke 16 = .ok (.invokevirtual 52, 3) := by decide +kernel
theorem dX6_removeStroke_19 : decode cX6_removeStroke 19 = .ok (.aload_n 0, 1) := by decide +kernel
theorem dX6_removeStroke_20 : decode cX6_removeStroke 20 = .ok (.getfield 7, 3) := by decide +kernel
theorem dX6_removeStroke_23 : decode cX6_removeStroke 23 = .ok (.bipush 48, 2) := by decide +kernel
theorem dX6_removeStroke_25 : decode cX6_removeStroke 25 = .ok (.iaload, 1) := by decide +kernel
theorem dX6_removeStroke_26 : decode cX6_removeStroke 26 = .ok (.ireturn, 1) := by decide +kernel
theorem dX6_strokeCount_0 : decode cX6_strokeCount 0 = .ok (.aload_n 0, 1) := by decide +kernel
theorem dX6_strokeCount_1 : decode cX6_strokeCount 1 = .ok (.getfield 7, 3) := by decide +kernel
theorem dX6_strokeCount_4 : decode cX6_strokeCount 4 = .ok (.bipush 48, 2) := by decide +kernel
theorem dX6_strokeCount_6 : decode cX6_strokeCount 6 = .ok (.iaload, 1) := by decide +kernel
theorem dX6_strokeCount_7 : decode cX6_strokeCount 7 = .ok (.ireturn, 1) := by decide +kernel
theorem dX6_penAt_0 : decode cX6_penAt 0 = .ok (.aload_n 0, 1) := by decide +kernel
theorem dX6_penAt_1 : decode cX6_penAt 1 = .ok (.getfield 7, 3) := by decide +kernel
theorem dX6_penAt_4 : decode cX6_penAt 4 = .ok (.iconst 5, 1) := by decide +kernel
theorem dX6_penAt_5 : decode cX6_penAt 5 = .ok (.iload_n 1, 1) := by decide +kernel
theorem dX6_penAt_6 : decode cX6_penAt 6 = .ok (.imul, 1) := by decide +kernel
theorem dX6_penAt_7 : decode cX6_penAt 7 = .ok (.iconst 4, 1) := by decide +kernel
theorem dX6_penAt_8 : decode cX6_penAt 8 = .ok (.iadd, 1) := by decide +kernel
theorem dX6_penAt_9 : decode cX6_penAt 9 = .ok (.iaload, 1) := by decide +kernel
theorem dX6_penAt_10 : decode cX6_penAt 10 = .ok (.ireturn, 1) := by decide +kernel
theorem dX6_penOf_0 : decode cX6_penOf 0 = .ok (.aload_n 0, 1) := by decide +kernel
theorem dX6_penOf_1 : decode cX6_penOf 1 = .ok (.iload_n 1, 1) := by decide +kernel
theorem dX6_penOf_2 : decode cX6_penOf 2 = .ok (.invokevirtual 48, 3) := by decide +kernel
theorem dX6_penOf_5 : decode cX6_penOf 5 = .ok (.ifCond .eq 11, 3) := by decide +kernel
theorem dX6_penOf_8 : decode cX6_penOf 8 = .ok (.aload_n 0, 1) := by decide +kernel
theorem dX6_penOf_9 : decode cX6_penOf 9 = .ok (.iload_n 1, 1) := by decide +kernel
theorem dX6_penOf_10 : decode cX6_penOf 10 = .ok (.invokevirtual 56, 3) := by decide +kernel
theorem dX6_penOf_13 : decode cX6_penOf 13 = .ok (.goto 4, 3) := by decide +kernel
theorem dX6_penOf_16 : decode cX6_penOf 16 = .ok (.iconst (-1), 1) := by decide +kernel
theorem dX6_penOf_17 : decode cX6_penOf 17 = .ok (.ireturn, 1) := by decide +kernel
theorem dX6_areAlike_0 : decode cX6_areAlike 0 = .ok (.aload_n 0, 1) := by decide +kernel
theorem dX6_areAlike_1 : decode cX6_areAlike 1 = .ok (.getfield 7, 3) := by decide +kernel
theorem dX6_areAlike_4 : decode cX6_areAlike 4 = .ok (.iconst 5, 1) := by decide +kernel
theorem dX6_areAlike_5 : decode cX6_areAlike 5 = .ok (.iload_n 1, 1) := by decide +kernel
theorem dX6_areAlike_6 : decode cX6_areAlike 6 = .ok (.imul, 1) := by decide +kernel
theorem dX6_areAlike_7 : decode cX6_areAlike 7 = .ok (.iaload, 1) := by decide +kernel
theorem dX6_areAlike_8 : decode cX6_areAlike 8 = .ok (.aload_n 0, 1) := by decide +kernel
theorem dX6_areAlike_9 : decode cX6_areAlike 9 = .ok (.getfield 7, 3) := by decide +kernel
theorem dX6_areAlike_12 : decode cX6_areAlike 12 = .ok (.iconst 5, 1) := by decide +kernel
theorem dX6_areAlike_13 : decode cX6_areAlike 13 = .ok (.iload_n 2, 1) := by decide +kernel
theorem dX6_areAlike_14 : decode cX6_areAlike 14 = .ok (.imul, 1) := by decide +kernel
theorem dX6_areAlike_15 : decode cX6_areAlike 15 = .ok (.iaload, 1) := by decide +kernel
theorem dX6_areAlike_16 : decode cX6_areAlike 16 = .ok (.if_icmp .ne 76, 3) := by decide +kernel
theorem dX6_areAlike_19 : decode cX6_areAlike 19 = .ok (.aload_n 0, 1) := by decide +kernel
theorem dX6_areAlike_20 : decode cX6_areAlike 20 = .ok (.getfield 7, 3) := by decide +kernel
theorem dX6_areAlike_23 : decode cX6_areAlike 23 = .ok (.iconst 5, 1) := by decide +kernel
theorem dX6_areAlike_24 : decode cX6_areAlike 24 = .ok (.iload_n 1, 1) := by decide +kernel
theorem dX6_areAlike_25 : decode cX6_areAlike 25 = .ok (.imul, 1) := by decide +kernel
theorem dX6_areAlike_26 : decode cX6_areAlike 26 = .ok (.iconst 1, 1) := by decide +kernel
theorem dX6_areAlike_27 : decode cX6_areAlike 27 = .ok (.iadd, 1) := by decide +kernel
theorem dX6_areAlike_28 : decode cX6_areAlike 28 = .ok (.iaload, 1) := by decide +kernel
theorem dX6_areAlike_29 : decode cX6_areAlike 29 = .ok (.aload_n 0, 1) := by decide +kernel
theorem dX6_areAlike_30 : decode cX6_areAlike 30 = .ok (.getfield 7, 3) := by decide +kernel
theorem dX6_areAlike_33 : decode cX6_areAlike 33 = .ok (.iconst 5, 1) := by decide +kernel
theorem dX6_areAlike_34 : decode cX6_areAlike 34 = .ok (.iload_n 2, 1) := by decide +kernel
theorem dX6_areAlike_35 : decode cX6_areAlike 35 = .ok (.imul, 1) := by decide +kernel
theorem dX6_areAlike_36 : decode cX6_areAlike 36 = .ok (.iconst 1, 1) := by decide +kernel
theorem dX6_areAlike_37 : decode cX6_areAlike 37 = .ok (.iadd, 1) := by decide +kernel
theorem dX6_areAlike_38 : decode cX6_areAlike 38 = .ok (.iaload, 1) := by decide +kernel
theorem dX6_areAlike_39 : decode cX6_areAlike 39 = .ok (.if_icmp .ne 53, 3) := by decide +kernel
theorem dX6_areAlike_42 : decode cX6_areAlike 42 = .ok (.aload_n 0, 1) := by decide +kernel
theorem dX6_areAlike_43 : decode cX6_areAlike 43 = .ok (.getfield 7, 3) := by decide +kernel
theorem dX6_areAlike_46 : decode cX6_areAlike 46 = .ok (.iconst 5, 1) := by decide +kernel
theorem dX6_areAlike_47 : decode cX6_areAlike 47 = .ok (.iload_n 1, 1) := by decide +kernel
theorem dX6_areAlike_48 : decode cX6_areAlike 48 = .ok (.imul, 1) := by decide +kernel
theorem dX6_areAlike_49 : decode cX6_areAlike 49 = .ok (.iconst 2, 1) := by decide +kernel
theorem dX6_areAlike_50 : decode cX6_areAlike 50 = .ok (.iadd, 1) := by decide +kernel
theorem dX6_areAlike_51 : decode cX6_areAlike 51 = .ok (.iaload, 1) := by decide +kernel
theorem dX6_areAlike_52 : decode cX6_areAlike 52 = .ok (.aload_n 0, 1) := by decide +kernel
theorem dX6_areAlike_53 : decode cX6_areAlike 53 = .ok (.getfield 7, 3) := by decide +kernel
theorem dX6_areAlike_56 : decode cX6_areAlike 56 = .ok (.iconst 5, 1) := by decide +kernel
theorem dX6_areAlike_57 : decode cX6_areAlike 57 = .ok (.iload_n 2, 1) := by decide +kernel
theorem dX6_areAlike_58 : decode cX6_areAlike 58 = .ok (.imul, 1) := by decide +kernel
theorem dX6_areAlike_59 : decode cX6_areAlike 59 = .ok (.iconst 2, 1) := by decide +kernel
theorem dX6_areAlike_60 : decode cX6_areAlike 60 = .ok (.iadd, 1) := by decide +kernel
theorem dX6_areAlike_61 : decode cX6_areAlike 61 = .ok (.iaload, 1) := by decide +kernel
theorem dX6_areAlike_62 : decode cX6_areAlike 62 = .ok (.if_icmp .ne 30, 3) := by decide +kernel
theorem dX6_areAlike_65 : decode cX6_areAlike 65 = .ok (.aload_n 0, 1) := by decide +kernel
theorem dX6_areAlike_66 : decode cX6_areAlike 66 = .ok (.getfield 7, 3) := by decide +kernel
theorem dX6_areAlike_69 : decode cX6_areAlike 69 = .ok (.iconst 5, 1) := by decide +kernel
theorem dX6_areAlike_70 : decode cX6_areAlike 70 = .ok (.iload_n 1, 1) := by decide +kernel
theorem dX6_areAlike_71 : decode cX6_areAlike 71 = .ok (.imul, 1) := by decide +kernel
theorem dX6_areAlike_72 : decode cX6_areAlike 72 = .ok (.iconst 3, 1) := by decide +kernel
theorem dX6_areAlike_73 : decode cX6_areAlike 73 = .ok (.iadd, 1) := by decide +kernel
theorem dX6_areAlike_74 : decode cX6_areAlike 74 = .ok (.iaload, 1) := by decide +kernel
theorem dX6_areAlike_75 : decode cX6_areAlike 75 = .ok (.aload_n 0, 1) := by decide +kernel
theorem dX6_areAlike_76 : decode cX6_areAlike 76 = .ok (.getfield 7, 3) := by decide +kernel
theorem dX6_areAlike_79 : decode cX6_areAlike 79 = .ok (.iconst 5, 1) := by decide +kernel
theorem dX6_areAlike_80 : decode cX6_areAlike 80 = .ok (.iload_n 2, 1) := by decide +kernel
theorem dX6_areAlike_81 : decode cX6_areAlike 81 = .ok (.imul, 1) := by decide +kernel
theorem dX6_areAlike_82 : decode cX6_areAlike 82 = .ok (.iconst 3, 1) := by decide +kernel
theorem dX6_areAlike_83 : decode cX6_areAlike 83 = .ok (.iadd, 1) := by decide +kernel
theorem dX6_areAlike_84 : decode cX6_areAlike 84 = .ok (.iaload, 1) := by decide +kernel
theorem dX6_areAlike_85 : decode cX6_areAlike 85 = .ok (.if_icmp .ne 7, 3) := by decide +kernel
theorem dX6_areAlike_88 : decode cX6_areAlike 88 = .ok (.iconst 1, 1) := by decide +kernel
theorem dX6_areAlike_89 : decode cX6_areAlike 89 = .ok (.goto 4, 3) := by decide +kernel
theorem dX6_areAlike_92 : decode cX6_areAlike 92 = .ok (.iconst 0, 1) := by decide +kernel
theorem dX6_areAlike_93 : decode cX6_areAlike 93 = .ok (.istore_n 3, 1) := by decide +kernel
theorem dX6_areAlike_94 : decode cX6_areAlike 94 = .ok (.aload_n 0, 1) := by decide +kernel
theorem dX6_areAlike_95 : decode cX6_areAlike 95 = .ok (.getfield 7, 3) := by decide +kernel
theorem dX6_areAlike_98 : decode cX6_areAlike 98 = .ok (.iconst 5, 1) := by decide +kernel
theorem dX6_areAlike_99 : decode cX6_areAlike 99 = .ok (.iload_n 1, 1) := by decide +kernel
theorem dX6_areAlike_100 : decode cX6_areAlike 100 = .ok (.imul, 1) := by decide +kernel
theorem dX6_areAlike_101 : decode cX6_areAlike 101 = .ok (.iaload, 1) := by decide +kernel
theorem dX6_areAlike_102 : decode cX6_areAlike 102 = .ok (.aload_n 0, 1) := by decide +kernel
theorem dX6_areAlike_103 : decode cX6_areAlike 103 = .ok (.getfield 7, 3) := by decide +kernel
theorem dX6_areAlike_106 : decode cX6_areAlike 106 = .ok (.iconst 5, 1) := by decide +kernel
theorem dX6_areAlike_107 : decode cX6_areAlike 107 = .ok (.iload_n 2, 1) := by decide +kernel
theorem dX6_areAlike_108 : decode cX6_areAlike 108 = .ok (.imul, 1) := by decide +kernel
theorem dX6_areAlike_109 : decode cX6_areAlike 109 = .ok (.iconst 2, 1) := by decide +kernel
theorem dX6_areAlike_110 : decode cX6_areAlike 110 = .ok (.iadd, 1) := by decide +kernel
theorem dX6_areAlike_111 : decode cX6_areAlike 111 = .ok (.iaload, 1) := by decide +kernel
theorem dX6_areAlike_112 : decode cX6_areAlike 112 = .ok (.if_icmp .ne 74, 3) := by decide +kernel
theorem dX6_areAlike_115 : decode cX6_areAlike 115 = .ok (.aload_n 0, 1) := by decide +kernel
theorem dX6_areAlike_116 : decode cX6_areAlike 116 = .ok (.getfield 7, 3) := by decide +kernel
theorem dX6_areAlike_119 : decode cX6_areAlike 119 = .ok (.iconst 5, 1) := by decide +kernel
theorem dX6_areAlike_120 : decode cX6_areAlike 120 = .ok (.iload_n 1, 1) := by decide +kernel
theorem dX6_areAlike_121 : decode cX6_areAlike 121 = .ok (.imul, 1) := by decide +kernel
theorem dX6_areAlike_122 : decode cX6_areAlike 122 = .ok (.iconst 1, 1) := by decide +kernel
theorem dX6_areAlike_123 : decode cX6_areAlike 123 = .ok (.iadd, 1) := by decide +kernel
theorem dX6_areAlike_124 : decode cX6_areAlike 124 = .ok (.iaload, 1) := by decide +kernel
theorem dX6_areAlike_125 : decode cX6_areAlike 125 = .ok (.aload_n 0, 1) := by decide +kernel
theorem dX6_areAlike_126 : decode cX6_areAlike 126 = .ok (.getfield 7, 3) := by decide +kernel
theorem dX6_areAlike_129 : decode cX6_areAlike 129 = .ok (.iconst 5, 1) := by decide +kernel
theorem dX6_areAlike_130 : decode cX6_areAlike 130 = .ok (.iload_n 2, 1) := by decide +kernel
theorem dX6_areAlike_131 : decode cX6_areAlike 131 = .ok (.imul, 1) := by decide +kernel
theorem dX6_areAlike_132 : decode cX6_areAlike 132 = .ok (.iconst 3, 1) := by decide +kernel
theorem dX6_areAlike_133 : decode cX6_areAlike 133 = .ok (.iadd, 1) := by decide +kernel
theorem dX6_areAlike_134 : decode cX6_areAlike 134 = .ok (.iaload, 1) := by decide +kernel
theorem dX6_areAlike_135 : decode cX6_areAlike 135 = .ok (.if_icmp .ne 51, 3) := by decide +kernel
theorem dX6_areAlike_138 : decode cX6_areAlike 138 = .ok (.aload_n 0, 1) := by decide +kernel
theorem dX6_areAlike_139 : decode cX6_areAlike 139 = .ok (.getfield 7, 3) := by decide +kernel
theorem dX6_areAlike_142 : decode cX6_areAlike 142 = .ok (.iconst 5, 1) := by decide +kernel
theorem dX6_areAlike_143 : decode cX6_areAlike 143 = .ok (.iload_n 1, 1) := by decide +kernel
theorem dX6_areAlike_144 : decode cX6_areAlike 144 = .ok (.imul, 1) := by decide +kernel
theorem dX6_areAlike_145 : decode cX6_areAlike 145 = .ok (.iconst 2, 1) := by decide +kernel
theorem dX6_areAlike_146 : decode cX6_areAlike 146 = .ok (.iadd, 1) := by decide +kernel
theorem dX6_areAlike_147 : decode cX6_areAlike 147 = .ok (.iaload, 1) := by decide +kernel
theorem dX6_areAlike_148 : decode cX6_areAlike 148 = .ok (.aload_n 0, 1) := by decide +kernel
theorem dX6_areAlike_149 : decode cX6_areAlike 149 = .ok (.getfield 7, 3) := by decide +kernel
theorem dX6_areAlike_152 : decode cX6_areAlike 152 = .ok (.iconst 5, 1) := by decide +kernel
theorem dX6_areAlike_153 : decode cX6_areAlike 153 = .ok (.iload_n 2, 1) := by decide +kernel
theorem dX6_areAlike_154 : decode cX6_areAlike 154 = .ok (.imul, 1) := by decide +kernel
theorem dX6_areAlike_155 : decode cX6_areAlike 155 = .ok (.iaload, 1) := by decide +kernel
theorem dX6_areAlike_156 : decode cX6_areAlike 156 = .ok (.if_icmp .ne 30, 3) := by decide +kernel
theorem dX6_areAlike_159 : decode cX6_areAlike 159 = .ok (.aload_n 0, 1) := by decide +kernel
theorem dX6_areAlike_160 : decode cX6_areAlike 160 = .ok (.getfield 7, 3) := by decide +kernel
theorem dX6_areAlike_163 : decode cX6_areAlike 163 = .ok (.iconst 5, 1) := by decide +kernel
theorem dX6_areAlike_164 : decode cX6_areAlike 164 = .ok (.iload_n 1, 1) := by decide +kernel
theorem dX6_areAlike_165 : decode cX6_areAlike 165 = .ok (.imul, 1) := by decide +kernel
theorem dX6_areAlike_166 : decode cX6_areAlike 166 = .ok (.iconst 3, 1) := by decide +kernel
theorem dX6_areAlike_167 : decode cX6_areAlike 167 = .ok (.iadd, 1) := by decide +kernel
theorem dX6_areAlike_168 : decode cX6_areAlike 168 = .ok (.iaload, 1) := by decide +kernel
theorem dX6_areAlike_169 : decode cX6_areAlike 169 = .ok (.aload_n 0, 1) := by decide +kernel
theorem dX6_areAlike_170 : decode cX6_areAlike 170 = .ok (.getfield 7, 3) := by decide +kernel
theorem dX6_areAlike_173 : decode cX6_areAlike 173 = .ok (.iconst 5, 1) := by decide +kernel
theorem dX6_areAlike_174 : decode cX6_areAlike 174 = .ok (.iload_n 2, 1) := by decide +kernel
theorem dX6_areAlike_175 : decode cX6_areAlike 175 = .ok (.imul, 1) := by decide +kernel
theorem dX6_areAlike_176 : decode cX6_areAlike 176 = .ok (.iconst 1, 1) := by decide +kernel
theorem dX6_areAlike_177 : decode cX6_areAlike 177 = .ok (.iadd, 1) := by decide +kernel
theorem dX6_areAlike_178 : decode cX6_areAlike 178 = .ok (.iaload, 1) := by decide +kernel
theorem dX6_areAlike_179 : decode cX6_areAlike 179 = .ok (.if_icmp .ne 7, 3) := by decide +kernel
theorem dX6_areAlike_182 : decode cX6_areAlike 182 = .ok (.iconst 1, 1) := by decide +kernel
theorem dX6_areAlike_183 : decode cX6_areAlike 183 = .ok (.goto 4, 3) := by decide +kernel
theorem dX6_areAlike_186 : decode cX6_areAlike 186 = .ok (.iconst 0, 1) := by decide +kernel
theorem dX6_areAlike_187 : decode cX6_areAlike 187 = .ok (.istore 4, 2) := by decide +kernel
theorem dX6_areAlike_189 : decode cX6_areAlike 189 = .ok (.aload_n 0, 1) := by decide +kernel
theorem dX6_areAlike_190 : decode cX6_areAlike 190 = .ok (.iload_n 1, 1) := by decide +kernel
theorem dX6_areAlike_191 : decode cX6_areAlike 191 = .ok (.invokevirtual 56, 3) := by decide +kernel
theorem dX6_areAlike_194 : decode cX6_areAlike 194 = .ok (.aload_n 0, 1) := by decide +kernel
theorem dX6_areAlike_195 : decode cX6_areAlike 195 = .ok (.iload_n 2, 1) := by decide +kernel
theorem dX6_areAlike_196 : decode cX6_areAlike 196 = .ok (.invokevirtual 56, 3) := by decide +kernel
theorem dX6_areAlike_199 : decode cX6_areAlike 199 = .ok (.if_icmp .ne 16, 3) := by decide +kernel
theorem dX6_areAlike_202 : decode cX6_areAlike 202 = .ok (.iload_n 3, 1) := by decide +kernel
theorem dX6_areAlike_203 : decode cX6_areAlike 203 = .ok (.ifCond .ne 8, 3) := by decide +kernel
theorem dX6_areAlike_206 : decode cX6_areAlike 206 = .ok (.iload 4, 2) := by decide +kernel
theorem dX6_areAlike_208 : decode cX6_areAlike 208 = .ok (.ifCond .eq 7, 3) := by decide +kernel
theorem dX6_areAlike_211 : decode cX6_areAlike 211 = .ok (.iconst 1, 1) := by decide +kernel
theorem dX6_areAlike_212 : decode cX6_areAlike 212 = .ok (.goto 4, 3) := by decide +kernel
theorem dX6_areAlike_215 : decode cX6_areAlike 215 = .ok (.iconst 0, 1) := by decide +kernel
theorem dX6_areAlike_216 : decode cX6_areAlike 216 = .ok (.ireturn, 1) := by decide +kernel
theorem dX6_alikeTo_0 : decode cX6_alikeTo 0 = .ok (.aload_n 0, 1) := by decide +kernel
theorem dX6_alikeTo_1 : decode cX6_alikeTo 1 = .ok (.iload_n 1, 1) := by decide +kernel
theorem dX6_alikeTo_2 : decode cX6_alikeTo 2 = .ok (.invokevirtual 48, 3) := by decide +kernel
theorem dX6_alikeTo_5 : decode cX6_alikeTo 5 = .ok (.ifCond .ne 5, 3) := by decide +kernel
theorem dX6_alikeTo_8 : decode cX6_alikeTo 8 = .ok (.iconst (-1), 1) := by decide +kernel
theorem dX6_alikeTo_9 : decode cX6_alikeTo 9 = .ok (.ireturn, 1) := by decide +kernel
theorem dX6_alikeTo_10 : decode cX6_alikeTo 10 = .ok (.iconst 0, 1) := by decide +kernel
theorem dX6_alikeTo_11 : decode cX6_alikeTo 11 = .ok (.istore_n 2, 1) := by decide +kernel
theorem dX6_alikeTo_12 : decode cX6_alikeTo 12 = .ok (.iload_n 2, 1) := by decide +kernel
theorem dX6_alikeTo_13 : decode cX6_alikeTo 13 = .ok (.aload_n 0, 1) := by decide +kernel
theorem dX6_alikeTo_14 : decode cX6_alikeTo 14 = .ok (.getfield 7, 3) := by decide +kernel
theorem dX6_alikeTo_17 : decode cX6_alikeTo 17 = .ok (.bipush 48, 2) := by decide +kernel
theorem dX6_alikeTo_19 : decode cX6_alikeTo 19 = .ok (.iaload, 1) := by decide +kernel
theorem dX6_alikeTo_20 : decode cX6_alikeTo 20 = .ok (.if_icmp .ge 25, 3) := by decide +kernel
theorem dX6_alikeTo_23 : decode cX6_alikeTo 23 = .ok (.iload_n 2, 1) := by decide +kernel
theorem dX6_alikeTo_24 : decode cX6_alikeTo 24 = .ok (.iload_n 1, 1) := by decide +kernel
theorem dX6_alikeTo_25 : decode cX6_alikeTo 25 = .ok (.if_icmp .eq 14, 3) := by decide +kernel
theorem dX6_alikeTo_28 : decode cX6_alikeTo 28 = .ok (.aload_n 0, 1) := by decide +kernel
theorem dX6_alikeTo_29 : decode cX6_alikeTo 29 = .ok (.iload_n 1, 1) := by decide +kernel
theorem dX6_alikeTo_30 : decode cX6_alikeTo 30 = .ok (.iload_n 2, 1) := by decide +kernel
theorem dX6_alikeTo_31 : decode cX6_alikeTo 31 = .ok (.invokevirtual 60, 3) := by decide +kernel
theorem dX6_alikeTo_34 : decode cX6_alikeTo 34 = .ok (.ifCond .eq 5, 3) := by decide +kernel
theorem dX6_alikeTo_37 : decode cX6_alikeTo 37 = .ok (.iload_n 2, 1) := by decide +kernel
theorem dX6_alikeTo_38 : decode cX6_alikeTo 38 = .ok (.ireturn, 1) := by decide +kernel
theorem dX6_alikeTo_39 : decode cX6_alikeTo 39 = .ok (.iinc 2 1, 3) := by decide +kernel
theorem dX6_alikeTo_42 : decode cX6_alikeTo 42 = .ok (.goto (-30), 3) := by decide +kernel
theorem dX6_alikeTo_45 : decode cX6_alikeTo 45 = .ok (.bipush (-3), 2) := by decide +kernel
theorem dX6_alikeTo_47 : decode cX6_alikeTo 47 = .ok (.ireturn, 1) := by decide +kernel
theorem dX6_isBetween_0 : decode cX6_isBetween 0 = .ok (.iload_n 1, 1) := by decide +kernel
theorem dX6_isBetween_1 : decode cX6_isBetween 1 = .ok (.iload_n 2, 1) := by decide +kernel
theorem dX6_isBetween_2 : decode cX6_isBetween 2 = .ok (.if_icmp .ge 12, 3) := by decide +kernel
theorem dX6_isBetween_5 : decode cX6_isBetween 5 = .ok (.iload_n 0, 1) := by decide +kernel
theorem dX6_isBetween_6 : decode cX6_isBetween 6 = .ok (.iload_n 1, 1) := by decide +kernel
theorem dX6_isBetween_7 : decode cX6_isBetween 7 = .ok (.iload_n 2, 1) := by decide +kernel
theorem dX6_isBetween_8 : decode cX6_isBetween 8 = .ok (.invokestatic 38, 3) := by decide +kernel
theorem dX6_isBetween_11 : decode cX6_isBetween 11 = .ok (.goto 9, 3) := by decide +kernel
theorem dX6_isBetween_14 : decode cX6_isBetween 14 = .ok (.iload_n 0, 1) := by decide +kernel
theorem dX6_isBetween_15 : decode cX6_isBetween 15 = .ok (.iload_n 2, 1) := by decide +kernel
theorem dX6_isBetween_16 : decode cX6_isBetween 16 = .ok (.iload_n 1, 1) := by decide +kernel
theorem dX6_isBetween_17 : decode cX6_isBetween 17 = .ok (.invokestatic 38, 3) := by decide +kernel
theorem dX6_isBetween_20 : decode cX6_isBetween 20 = .ok (.ireturn, 1) := by decide +kernel
theorem dX6_lies_0 : decode cX6_lies 0 = .ok (.aload_n 0, 1) := by decide +kernel
theorem dX6_lies_1 : decode cX6_lies 1 = .ok (.getfield 7, 3) := by decide +kernel
theorem dX6_lies_4 : decode cX6_lies 4 = .ok (.iconst 5, 1) := by decide +kernel
theorem dX6_lies_5 : decode cX6_lies 5 = .ok (.iload_n 3, 1) := by decide +kernel
theorem dX6_lies_6 : decode cX6_lies 6 = .ok (.imul, 1) := by decide +kernel
theorem dX6_lies_7 : decode cX6_lies 7 = .ok (.iaload, 1) := by decide +kernel
theorem dX6_lies_8 : decode cX6_lies 8 = .ok (.istore 4, 2) := by decide +kernel
theorem dX6_lies_10 : decode cX6_lies 10 = .ok (.aload_n 0, 1) := by decide +kernel
theorem dX6_lies_11 : decode cX6_lies 11 = .ok (.getfield 7, 3) := by decide +kernel
theorem dX6_lies_14 : decode cX6_lies 14 = .ok (.iconst 5, 1) := by decide +kernel
theorem dX6_lies_15 : decode cX6_lies 15 = .ok (.iload_n 3, 1) := by decide +kernel
theorem dX6_lies_16 : decode cX6_lies 16 = .ok (.imul, 1) := by decide +kernel
theorem dX6_lies_17 : decode cX6_lies 17 = .ok (.iconst 1, 1) := by decide +kernel
theorem dX6_lies_18 : decode cX6_lies 18 = .ok (.iadd, 1) := by decide +kernel
theorem dX6_lies_19 : decode cX6_lies 19 = .ok (.iaload, 1) := by decide +kernel
theorem dX6_lies_20 : decode cX6_lies 20 = .ok (.istore 5, 2) := by decide +kernel
theorem dX6_lies_22 : decode cX6_lies 22 = .ok (.aload_n 0, 1) := by decide +kernel
theorem dX6_lies_23 : decode cX6_lies 23 = .ok (.getfield 7, 3) := by decide +kernel
theorem dX6_lies_26 : decode cX6_lies 26 = .ok (.iconst 5, 1) := by decide +kernel
theorem dX6_lies_27 : decode cX6_lies 27 = .ok (.iload_n 3, 1) := by decide +kernel
theorem dX6_lies_28 : decode cX6_lies 28 = .ok (.imul, 1) := by decide +kernel
theorem dX6_lies_29 : decode cX6_lies 29 = .ok (.iconst 2, 1) := by decide +kernel
theorem dX6_lies_30 : decode cX6_lies 30 = .ok (.iadd, 1) := by decide +kernel
theorem dX6_lies_31 : decode cX6_lies 31 = .ok (.iaload, 1) := by decide +kernel
theorem dX6_lies_32 : decode cX6_lies 32 = .ok (.istore 6, 2) := by decide +kernel
theorem dX6_lies_34 : decode cX6_lies 34 = .ok (.aload_n 0, 1) := by decide +kernel
theorem dX6_lies_35 : decode cX6_lies 35 = .ok (.getfield 7, 3) := by decide +kernel
theorem dX6_lies_38 : decode cX6_lies 38 = .ok (.iconst 5, 1) := by decide +kernel
theorem dX6_lies_39 : decode cX6_lies 39 = .ok (.iload_n 3, 1) := by decide +kernel
theorem dX6_lies_40 : decode cX6_lies 40 = .ok (.imul, 1) := by decide +kernel
theorem dX6_lies_41 : decode cX6_lies 41 = .ok (.iconst 3, 1) := by decide +kernel
theorem dX6_lies_42 : decode cX6_lies 42 = .ok (.iadd, 1) := by decide +kernel
theorem dX6_lies_43 : decode cX6_lies 43 = .ok (.iaload, 1) := by decide +kernel
theorem dX6_lies_44 : decode cX6_lies 44 = .ok (.istore 7, 2) := by decide +kernel
theorem dX6_lies_46 : decode cX6_lies 46 = .ok (.iload 6, 2) := by decide +kernel
theorem dX6_lies_48 : decode cX6_lies 48 = .ok (.iload 4, 2) := by decide +kernel
theorem dX6_lies_50 : decode cX6_lies 50 = .ok (.isub, 1) := by decide +kernel
theorem dX6_lies_51 : decode cX6_lies 51 = .ok (.iload_n 2, 1) := by decide +kernel
theorem dX6_lies_52 : decode cX6_lies 52 = .ok (.iload 5, 2) := by decide +kernel
theorem dX6_lies_54 : decode cX6_lies 54 = .ok (.isub, 1) := by decide +kernel
theorem dX6_lies_55 : decode cX6_lies 55 = .ok (.imul, 1) := by decide +kernel
theorem dX6_lies_56 : decode cX6_lies 56 = .ok (.iload 7, 2) := by decide +kernel
theorem dX6_lies_58 : decode cX6_lies 58 = .ok (.iload 5, 2) := by decide +kernel
theorem dX6_lies_60 : decode cX6_lies 60 = .ok (.isub, 1) := by decide +kernel
theorem dX6_lies_61 : decode cX6_lies 61 = .ok (.iload_n 1, 1) := by decide +kernel
theorem dX6_lies_62 : decode cX6_lies 62 = .ok (.iload 4, 2) := by decide +kernel
theorem dX6_lies_64 : decode cX6_lies 64 = .ok (.isub, 1) := by decide +kernel
theorem dX6_lies_65 : decode cX6_lies 65 = .ok (.imul, 1) := by decide +kernel
theorem dX6_lies_66 : decode cX6_lies 66 = .ok (.if_icmp .ne 29, 3) := by decide +kernel
theorem dX6_lies_69 : decode cX6_lies 69 = .ok (.iload_n 1, 1) := by decide +kernel
theorem dX6_lies_70 : decode cX6_lies 70 = .ok (.iload 4, 2) := by decide +kernel
theorem dX6_lies_72 : decode cX6_lies 72 = .ok (.iload 6, 2) := by decide +kernel
theorem dX6_lies_74 : decode cX6_lies 74 = .ok (.invokestatic 64, 3) := by decide +kernel
theorem dX6_lies_77 : decode cX6_lies 77 = .ok (.ifCond .eq 18, 3) := by decide +kernel
theorem dX6_lies_80 : decode cX6_lies 80 = .ok (.iload_n 2, 1) := by decide +kernel
theorem dX6_lies_81 : decode cX6_lies 81 = .ok (.iload 5, 2) := by decide +kernel
theorem dX6_lies_83 : decode cX6_lies 83 = .ok (.iload 7, 2) := by decide +kernel
theorem dX6_lies_85 : decode cX6_lies 85 = .ok (.invokestatic 64, 3) := by decide +kernel
theorem dX6_lies_88 : decode cX6_lies 88 = .ok (.ifCond .eq 7, 3) := by decide +kernel
theorem dX6_lies_91 : decode cX6_lies 91 = .ok (.iconst 1, 1) := by decide +kernel
theorem dX6_lies_92 : decode cX6_lies 92 = .ok (.goto 4, 3) := by decide +kernel
theorem dX6_lies_95 : decode cX6_lies 95 = .ok (.iconst 0, 1) := by decide +kernel
theorem dX6_lies_96 : decode cX6_lies 96 = .ok (.ireturn, 1) := by decide +kernel
theorem dX6_coveredBy_0 : decode cX6_coveredBy 0 = .ok (.aload_n 0, 1) := by decide +kernel
theorem dX6_coveredBy_1 : decode cX6_coveredBy 1 = .ok (.iload_n 1, 1) := by decide +kernel
theorem dX6_coveredBy_2 : decode cX6_coveredBy 2 = .ok (.invokevirtual 48, 3) := by decide +kernel
theorem dX6_coveredBy_5 : decode cX6_coveredBy 5 = .ok (.ifCond .ne 5, 3) := by decide +kernel
theorem dX6_coveredBy_8 : decode cX6_coveredBy 8 = .ok (.iconst (-1), 1) := by decide +kernel
theorem dX6_coveredBy_9 : decode cX6_coveredBy 9 = .ok (.ireturn, 1) := by decide +kernel
theorem dX6_coveredBy_10 : decode cX6_coveredBy 10 = .ok (.iconst 0, 1) := by decide +kernel
theorem dX6_coveredBy_11 : decode cX6_coveredBy 11 = .ok (.istore_n 2, 1) := by decide +kernel
theorem dX6_coveredBy_12 : decode cX6_coveredBy 12 = .ok (.iload_n 2, 1) := by decide +kernel
theorem dX6_coveredBy_13 : decode cX6_coveredBy 13 = .ok (.aload_n 0, 1) := by decide +kernel
theorem dX6_coveredBy_14 : decode cX6_coveredBy 14 = .ok (.getfield 7, 3) := by decide +kernel
theorem dX6_coveredBy_17 : decode cX6_coveredBy 17 = .ok (.bipush 48, 2) := by decide +kernel
theorem dX6_coveredBy_19 : decode cX6_coveredBy 19 = .ok (.iaload, 1) := by decide +kernel
theorem dX6_coveredBy_20 : decode cX6_coveredBy 20 = .ok (.if_icmp .ge 102, 3) := by decide +kernel
theorem dX6_coveredBy_23 : decode cX6_coveredBy 23 = .ok (.iload_n 2, 1) := by decide +kernel
theorem dX6_coveredBy_24 : decode cX6_coveredBy 24 = .ok (.iload_n 1, 1) := by decide +kernel
theorem dX6_coveredBy_25 : decode cX6_coveredBy 25 = .ok (.if_icmp .eq 29, 3) := by decide +kernel
theorem dX6_coveredBy_28 : decode cX6_coveredBy 28 = .ok (.aload_n 0, 1) := by decide +kernel
theorem dX6_coveredBy_29 : decode cX6_coveredBy 29 = .ok (.iload_n 1, 1) := by decide +kernel
theorem dX6_coveredBy_30 : decode cX6_coveredBy 30 = .ok (.invokevirtual 56, 3) := by decide +kernel
theorem dX6_coveredBy_33 : decode cX6_coveredBy 33 = .ok (.aload_n 0, 1) := by decide +kernel
theorem dX6_coveredBy_34 : decode cX6_coveredBy 34 = .ok (.iload_n 2, 1) := by decide +kernel
theorem dX6_coveredBy_35 : decode cX6_coveredBy 35 = .ok (.invokevirtual 56, 3) := by decide +kernel
theorem dX6_coveredBy_38 : decode cX6_coveredBy 38 = .ok (.if_icmp .ne 16, 3) := by decide +kernel
theorem dX6_coveredBy_41 : decode cX6_coveredBy 41 = .ok (.aload_n 0, 1) := by decide +kernel
theorem dX6_coveredBy_42 : decode cX6_coveredBy 42 = .ok (.iload_n 1, 1) := by decide +kernel
theorem dX6_coveredBy_43 : decode cX6_coveredBy 43 = .ok (.iload_n 2, 1) := by decide +kernel
theorem dX6_coveredBy_44 : decode cX6_coveredBy 44 = .ok (.invokevirtual 60, 3) := by decide +kernel
theorem dX6_coveredBy_47 : decode cX6_coveredBy 47 = .ok (.ifCond .ne 7, 3) := by decide +kernel
theorem dX6_coveredBy_50 : decode cX6_coveredBy 50 = .ok (.iconst 1, 1) := by decide +kernel
theorem dX6_coveredBy_51 : decode cX6_coveredBy 51 = .ok (.goto 4, 3) := by decide +kernel
theorem dX6_coveredBy_54 : decode cX6_coveredBy 54 = .ok (.iconst 0, 1) := by decide +kernel
theorem dX6_coveredBy_55 : decode cX6_coveredBy 55 = .ok (.istore_n 3, 1) := by decide +kernel
theorem dX6_coveredBy_56 : decode cX6_coveredBy 56 = .ok (.iload_n 3, 1) := by decide +kernel
theorem dX6_coveredBy_57 : decode cX6_coveredBy 57 = .ok (.ifCond .eq 59, 3) := by decide +kernel
theorem dX6_coveredBy_60 : decode cX6_coveredBy 60 = .ok (.aload_n 0, 1) := by decide +kernel
theorem dX6_coveredBy_61 : decode cX6_coveredBy 61 = .ok (.aload_n 0, 1) := by decide +kernel
theorem dX6_coveredBy_62 : decode cX6_coveredBy 62 = .ok (.getfield 7, 3) := by decide +kernel
theorem dX6_coveredBy_65 : decode cX6_coveredBy 65 = .ok (.iconst 5, 1) := by decide +kernel
theorem dX6_coveredBy_66 : decode cX6_coveredBy 66 = .ok (.iload_n 1, 1) := by decide +kernel
theorem dX6_coveredBy_67 : decode cX6_coveredBy 67 = .ok (.imul, 1) := by decide +kernel
theorem dX6_coveredBy_68 : decode cX6_coveredBy 68 = .ok (.iaload, 1) := by decide +kernel
theorem dX6_coveredBy_69 : decode cX6_coveredBy 69 = .ok (.aload_n 0, 1) := by decide +kernel
theorem dX6_coveredBy_70 : decode cX6_coveredBy 70 = .ok (.getfield 7, 3) := by decide +kernel
theorem dX6_coveredBy_73 : decode cX6_coveredBy 73 = .ok (.iconst 5, 1) := by decide +kernel
theorem dX6_coveredBy_74 : decode cX6_coveredBy 74 = .ok (.iload_n 1, 1) := by decide +kernel
theorem dX6_coveredBy_75 : decode cX6_coveredBy 75 = .ok (.imul, 1) := by decide +kernel
theorem dX6_coveredBy_76 : decode cX6_coveredBy 76 = .ok (.iconst 1, 1) := by decide +kernel
theorem dX6_coveredBy_77 : decode cX6_coveredBy 77 = .ok (.iadd, 1) := by decide +kernel
theorem dX6_coveredBy_78 : decode cX6_coveredBy 78 = .ok (.iaload, 1) := by decide +kernel
theorem dX6_coveredBy_79 : decode cX6_coveredBy 79 = .ok (.iload_n 2, 1) := by decide +kernel
theorem dX6_coveredBy_80 : decode cX6_coveredBy 80 = .ok (.invokevirtual 67, 3) := by decide +kernel
theorem dX6_coveredBy_83 : decode cX6_coveredBy 83 = .ok (.ifCond .eq 33, 3) := by decide +kernel
theorem dX6_coveredBy_86 : decode cX6_coveredBy 86 = .ok (.aload_n 0, 1) := by decide +kernel
theorem dX6_coveredBy_87 : decode cX6_coveredBy 87 = .ok (.aload_n 0, 1) := by decide +kernel
theorem dX6_coveredBy_88 : decode cX6_coveredBy 88 = .ok (.getfield 7, 3) := by decide +kernel
theorem dX6_coveredBy_91 : decode cX6_coveredBy 91 = .ok (.iconst 5, 1) := by decide +kernel
theorem dX6_coveredBy_92 : decode cX6_coveredBy 92 = .ok (.iload_n 1, 1) := by decide +kernel
theorem dX6_coveredBy_93 : decode cX6_coveredBy 93 = .ok (.imul, 1) := by decide +kernel
theorem dX6_coveredBy_94 : decode cX6_coveredBy 94 = .ok (.iconst 2, 1) := by decide +kernel
theorem dX6_coveredBy_95 : decode cX6_coveredBy 95 = .ok (.iadd, 1) := by decide +kernel
theorem dX6_coveredBy_96 : decode cX6_coveredBy 96 = .ok (.iaload, 1) := by decide +kernel
theorem dX6_coveredBy_97 : decode cX6_coveredBy 97 = .ok (.aload_n 0, 1) := by decide +kernel
theorem dX6_coveredBy_98 : decode cX6_coveredBy 98 = .ok (.getfield 7, 3) := by decide +kernel
theorem dX6_coveredBy_101 : decode cX6_coveredBy 101 = .ok (.iconst 5, 1) := by decide +kernel
theorem dX6_coveredBy_102 : decode cX6_coveredBy 102 = .ok (.iload_n 1, 1) := by decide +kernel
theorem dX6_coveredBy_103 : decode cX6_coveredBy 103 = .ok (.imul, 1) := by decide +kernel
theorem dX6_coveredBy_104 : decode cX6_coveredBy 104 = .ok (.iconst 3, 1) := by decide +kernel
theorem dX6_coveredBy_105 : decode cX6_coveredBy 105 = .ok (.iadd, 1) := by decide +kernel
theorem dX6_coveredBy_106 : decode cX6_coveredBy 106 = .ok (.iaload, 1) := by decide +kernel
theorem dX6_coveredBy_107 : decode cX6_coveredBy 107 = .ok (.iload_n 2, 1) := by decide +kernel
theorem dX6_coveredBy_108 : decode cX6_coveredBy 108 = .ok (.invokevirtual 67, 3) := by decide +kernel
theorem dX6_coveredBy_111 : decode cX6_coveredBy 111 = .ok (.ifCond .eq 5, 3) := by decide +kernel
theorem dX6_coveredBy_114 : decode cX6_coveredBy 114 = .ok (.iload_n 2, 1) := by decide +kernel
theorem dX6_coveredBy_115 : decode cX6_coveredBy 115 = .ok (.ireturn, 1) := by decide +kernel
theorem dX6_coveredBy_116 : decode cX6_coveredBy 116 = .ok (.iinc 2 1, 3) := by decide +kernel
theorem dX6_coveredBy_119 : decode cX6_coveredBy 119 = .ok (.goto (-107), 3) := by decide +kernel
theorem dX6_coveredBy_122 : decode cX6_coveredBy 122 = .ok (.bipush (-3), 2) := by decide +kernel
theorem dX6_coveredBy_124 : decode cX6_coveredBy 124 = .ok (.ireturn, 1) := by decide +kernel
theorem dX6_removeDuplicates_0 : decode cX6_removeDuplicates 0 = .ok (.aload_n 0, 1) := by decide +kernel
theorem dX6_removeDuplicates_1 : decode cX6_removeDuplicates 1 = .ok (.invokevirtual 45, 3) := by decide +kernel
theorem dX6_removeDuplicates_4 : decode cX6_removeDuplicates 4 = .ok (.iconst 0, 1) := by decide +kernel
theorem dX6_removeDuplicates_5 : decode cX6_removeDuplicates 5 = .ok (.istore_n 1, 1) := by decide +kernel
theorem dX6_removeDuplicates_6 : decode cX6_removeDuplicates 6 = .ok (.aload_n 0, 1) := by decide +kernel
theorem dX6_removeDuplicates_7 : decode cX6_removeDuplicates 7 = .ok (.getfield 7, 3) := by decide +kernel
theorem dX6_removeDuplicates_10 : decode cX6_removeDuplicates 10 = .ok (.bipush 48, 2) := by decide +kernel
theorem dX6_removeDuplicates_12 : decode cX6_removeDuplicates 12 = .ok (.iaload, 1) := by decide +kernel
theorem dX6_removeDuplicates_13 : decode cX6_removeDuplicates 13 = .ok (.iconst 1, 1) := by decide +kernel
theorem dX6_removeDuplicates_14 : decode cX6_removeDuplicates 14 = .ok (.isub, 1) := by decide +kernel
theorem dX6_removeDuplicates_15 : decode cX6_removeDuplicates 15 = .ok (.istore_n 2, 1) := by decide +kernel
theorem dX6_removeDuplicates_16 : decode cX6_removeDuplicates 16 = .ok (.iload_n 2, 1) := by decide +kernel
theorem dX6_removeDuplicates_17 : decode cX6_removeDuplicates 17 = .ok (.ifCond .le 58, 3) := by decide +kernel
theorem dX6_removeDuplicates_20 : decode cX6_removeDuplicates 20 = .ok (.iconst 0, 1) := by decide +kernel
theorem dX6_removeDuplicates_21 : decode cX6_removeDuplicates 21 = .ok (.istore_n 3, 1) := by decide +kernel
theorem dX6_removeDuplicates_22 : decode cX6_removeDuplicates 22 = .ok (.iconst 0, 1) := by decide +kernel
theorem dX6_removeDuplicates_23 : decode cX6_removeDuplicates 23 = .ok (.istore 4, 2) := by decide +kernel
theorem dX6_removeDuplicates_25 : decode cX6_removeDuplicates 25 = .ok (.iload 4, 2) := by decide +kernel
theorem dX6_removeDuplicates_27 : decode cX6_removeDuplicates 27 = .ok (.iload_n 2, 1) := by decide +kernel
theorem dX6_removeDuplicates_28 : decode cX6_removeDuplicates 28 = .ok (.if_icmp .ge 29, 3) := by decide +kernel
theorem dX6_removeDuplicates_31 : decode cX6_removeDuplicates 31 = .ok (.iload_n 3, 1) := by decide +kernel
theorem dX6_removeDuplicates_32 : decode cX6_removeDuplicates 32 = .ok (.ifCond .ne 13, 3) := by decide +kernel
theorem dX6_removeDuplicates_35 : decode cX6_removeDuplicates 35 = .ok (.aload_n 0, 1) := by decide +kernel
theorem dX6_removeDuplicates_36 : decode cX6_removeDuplicates 36 = .ok (.iload_n 2, 1) := by decide +kernel
theorem dX6_removeDuplicates_37 : decode cX6_removeDuplicates 37 = .ok (.iload 4, 2) := by decide +kernel
theorem dX6_removeDuplicates_39 : decode cX6_removeDuplicates 39 = .ok (.invokevirtual 60, 3) := by decide +kernel
theorem dX6_removeDuplicates_42 : decode cX6_removeDuplicates 42 = .ok (.ifCond .eq 7, 3) := by decide +kernel
theorem dX6_removeDuplicates_45 : decode cX6_removeDuplicates 45 = .ok (.iconst 1, 1) := by decide +kernel
theorem dX6_removeDuplicates_46 : decode cX6_removeDuplicates 46 = .ok (.goto 4, 3) := by decide +kernel
theorem dX6_removeDuplicates_49 : decode cX6_removeDuplicates 49 = .ok (.iconst 0, 1) := by decide +kernel
theorem dX6_removeDuplicates_50 : decode cX6_removeDuplicates 50 = .ok (.istore_n 3, 1) := by decide +kernel
theorem dX6_removeDuplicates_51 : decode cX6_removeDuplicates 51 = .ok (.iinc 4 1, 3) := by decide +kernel
theorem dX6_removeDuplicates_54 : decode cX6_removeDuplicates 54 = .ok (.goto (-29), 3) := by decide +kernel
theorem dX6_removeDuplicates_57 : decode cX6_removeDuplicates 57 = .ok (.iload_n 3, 1) := by decide +kernel
theorem dX6_removeDuplicates_58 : decode cX6_removeDuplicates 58 = .ok (.ifCond .eq 11, 3) := by decide +kernel
theorem dX6_removeDuplicates_61 : decode cX6_removeDuplicates 61 = .ok (.aload_n 0, 1) := by decide +kernel
theorem dX6_removeDuplicates_62 : decode cX6_removeDuplicates 62 = .ok (.iload_n 2, 1) := by decide +kernel
theorem dX6_removeDuplicates_63 : decode cX6_removeDuplicates 63 = .ok (.invokevirtual 52, 3) := by decide +kernel
theorem dX6_removeDuplicates_66 : decode cX6_removeDuplicates 66 = .ok (.iinc 1 1, 3) := by decide +kernel
theorem dX6_removeDuplicates_69 : decode cX6_removeDuplicates 69 = .ok (.iinc 2 (-1), 3) := by decide +kernel
theorem dX6_removeDuplicates_72 : decode cX6_removeDuplicates 72 = .ok (.goto (-56), 3) := by decide +kernel
theorem dX6_removeDuplicates_75 : decode cX6_removeDuplicates 75 = .ok (.iload_n 1, 1) := by decide +kernel
theorem dX6_removeDuplicates_76 : decode cX6_removeDuplicates 76 = .ok (.ireturn, 1) := by decide +kernel
theorem dX6_isSamePoint_0 : decode cX6_isSamePoint 0 = .ok (.iconst 5, 1) := by decide +kernel
theorem dX6_isSamePoint_1 : decode cX6_isSamePoint 1 = .ok (.iload_n 1, 1) := by decide +kernel
theorem dX6_isSamePoint_2 : decode cX6_isSamePoint 2 = .ok (.iconst 2, 1) := by decide +kernel
theorem dX6_isSamePoint_3 : decode cX6_isSamePoint 3 = .ok (.idiv, 1) := by decide +kernel
theorem dX6_isSamePoint_4 : decode cX6_isSamePoint 4 = .ok (.imul, 1) := by decide +kernel
theorem dX6_isSamePoint_5 : decode cX6_isSamePoint 5 = .ok (.iconst 2, 1) := by decide +kernel
theorem dX6_isSamePoint_6 : decode cX6_isSamePoint 6 = .ok (.iload_n 1, 1) := by decide +kernel
theorem dX6_isSamePoint_7 : decode cX6_isSamePoint 7 = .ok (.iconst 2, 1) := by decide +kernel
theorem dX6_isSamePoint_8 : decode cX6_isSamePoint 8 = .ok (.irem, 1) := by decide +kernel
theorem dX6_isSamePoint_9 : decode cX6_isSamePoint 9 = .ok (.imul, 1) := by decide +kernel
theorem dX6_isSamePoint_10 : decode cX6_isSamePoint 10 = .ok (.iadd, 1) := by decide +kernel
theorem dX6_isSamePoint_11 : decode cX6_isSamePoint 11 = .ok (.istore_n 3, 1) := by decide +kernel
theorem dX6_isSamePoint_12 : decode cX6_isSamePoint 12 = .ok (.iconst 5, 1) := by decide +kernel
theorem dX6_isSamePoint_13 : decode cX6_isSamePoint 13 = .ok (.iload_n 2, 1) := by decide +kernel
theorem dX6_isSamePoint_14 : decode cX6_isSamePoint 14 = .ok (.iconst 2, 1) := by decide +kernel
theorem dX6_isSamePoint_15 : decode cX6_isSamePoint 15 = .ok (.idiv, 1) := by decide +kernel
theorem dX6_isSamePoint_16 : decode cX6_isSamePoint 16 = .ok (.imul, 1) := by decide +kernel
theorem dX6_isSamePoint_17 : decode cX6_isSamePoint 17 = .ok (.iconst 2, 1) := by decide +kernel
theorem dX6_isSamePoint_18 : decode cX6_isSamePoint 18 = .ok (.iload_n 2, 1) := by decide +kernel
theorem dX6_isSamePoint_19 : decode cX6_isSamePoint 19 = .ok (.iconst 2, 1) := by decide +kernel
theorem dX6_isSamePoint_20 : decode cX6_isSamePoint 20 = .ok (.irem, 1) := by decide +kernel
theorem dX6_isSamePoint_21 : decode cX6_isSamePoint 21 = .ok (.imul, 1) := by decide +kernel
theorem dX6_isSamePoint_22 : decode cX6_isSamePoint 22 = .ok (.iadd, 1) := by decide +kernel
theorem dX6_isSamePoint_23 : decode cX6_isSamePoint 23 = .ok (.istore 4, 2) := by decide +kernel
theorem dX6_isSamePoint_25 : decode cX6_isSamePoint 25 = .ok (.aload_n 0, 1) := by decide +kernel
theorem dX6_isSamePoint_26 : decode cX6_isSamePoint 26 = .ok (.getfield 7, 3) := by decide +kernel
theorem dX6_isSamePoint_29 : decode cX6_isSamePoint 29 = .ok (.iload_n 3, 1) := by decide +kernel
theorem dX6_isSamePoint_30 : decode cX6_isSamePoint 30 = .ok (.iaload, 1) := by decide +kernel
theorem dX6_isSamePoint_31 : decode cX6_isSamePoint 31 = .ok (.aload_n 0, 1) := by decide +kernel
theorem dX6_isSamePoint_32 : decode cX6_isSamePoint 32 = .ok (.getfield 7, 3) := by decide +kernel
theorem dX6_isSamePoint_35 : decode cX6_isSamePoint 35 = .ok (.iload 4, 2) := by decide +kernel
theorem dX6_isSamePoint_37 : decode cX6_isSamePoint 37 = .ok (.iaload, 1) := by decide +kernel
theorem dX6_isSamePoint_38 : decode cX6_isSamePoint 38 = .ok (.if_icmp .ne 27, 3) := by decide +kernel
theorem dX6_isSamePoint_41 : decode cX6_isSamePoint 41 = .ok (.aload_n 0, 1) := by decide +kernel
theorem dX6_isSamePoint_42 : decode cX6_isSamePoint 42 = .ok (.getfield 7, 3) := by decide +kernel
theorem dX6_isSamePoint_45 : decode cX6_isSamePoint 45 = .ok (.iload_n 3, 1) := by decide +kernel
theorem dX6_isSamePoint_46 : decode cX6_isSamePoint 46 = .ok (.iconst 1, 1) := by decide +kernel
theorem dX6_isSamePoint_47 : decode cX6_isSamePoint 47 = .ok (.iadd, 1) := by decide +kernel
theorem dX6_isSamePoint_48 : decode cX6_isSamePoint 48 = .ok (.iaload, 1) := by decide +kernel
theorem dX6_isSamePoint_49 : decode cX6_isSamePoint 49 = .ok (.aload_n 0, 1) := by decide +kernel
theorem dX6_isSamePoint_50 : decode cX6_isSamePoint 50 = .ok (.getfield 7, 3) := by decide +kernel
theorem dX6_isSamePoint_53 : decode cX6_isSamePoint 53 = .ok (.iload 4, 2) := by decide +kernel
theorem dX6_isSamePoint_55 : decode cX6_isSamePoint 55 = .ok (.iconst 1, 1) := by decide +kernel
theorem dX6_isSamePoint_56 : decode cX6_isSamePoint 56 = .ok (.iadd, 1) := by decide +kernel
theorem dX6_isSamePoint_57 : decode cX6_isSamePoint 57 = .ok (.iaload, 1) := by decide +kernel
theorem dX6_isSamePoint_58 : decode cX6_isSamePoint 58 = .ok (.if_icmp .ne 7, 3) := by decide +kernel
theorem dX6_isSamePoint_61 : decode cX6_isSamePoint 61 = .ok (.iconst 1, 1) := by decide +kernel
theorem dX6_isSamePoint_62 : decode cX6_isSamePoint 62 = .ok (.goto 4, 3) := by decide +kernel
theorem dX6_isSamePoint_65 : decode cX6_isSamePoint 65 = .ok (.iconst 0, 1) := by decide +kernel
theorem dX6_isSamePoint_66 : decode cX6_isSamePoint 66 = .ok (.ireturn, 1) := by decide +kernel
theorem dX6_isOfPen_0 : decode cX6_isOfPen 0 = .ok (.aload_n 0, 1) := by decide +kernel
theorem dX6_isOfPen_1 : decode cX6_isOfPen 1 = .ok (.iload_n 1, 1) := by decide +kernel
theorem dX6_isOfPen_2 : decode cX6_isOfPen 2 = .ok (.iconst 2, 1) := by decide +kernel
theorem dX6_isOfPen_3 : decode cX6_isOfPen 3 = .ok (.idiv, 1) := by decide +kernel
theorem dX6_isOfPen_4 : decode cX6_isOfPen 4 = .ok (.invokevirtual 56, 3) := by decide +kernel
theorem dX6_isOfPen_7 : decode cX6_isOfPen 7 = .ok (.iload_n 2, 1) := by decide +kernel
theorem dX6_isOfPen_8 : decode cX6_isOfPen 8 = .ok (.if_icmp .ne 7, 3) := by decide +kernel
theorem dX6_isOfPen_11 : decode cX6_isOfPen 11 = .ok (.iconst 1, 1) := by decide +kernel
theorem dX6_isOfPen_12 : decode cX6_isOfPen 12 = .ok (.goto 4, 3) := by decide +kernel
theorem dX6_isOfPen_15 : decode cX6_isOfPen 15 = .ok (.iconst 0, 1) := by decide +kernel
theorem dX6_isOfPen_16 : decode cX6_isOfPen 16 = .ok (.ireturn, 1) := by decide +kernel
theorem dX6_degree_0 : decode cX6_degree 0 = .ok (.iconst 0, 1) := by decide +kernel
theorem dX6_degree_1 : decode cX6_degree 1 = .ok (.istore_n 3, 1) := by decide +kernel
theorem dX6_degree_2 : decode cX6_degree 2 = .ok (.iconst 0, 1) := by decide +kernel
theorem dX6_degree_3 : decode cX6_degree 3 = .ok (.istore 4, 2) := by decide +kernel
theorem dX6_degree_5 : decode cX6_degree 5 = .ok (.iload 4, 2) := by decide +kernel
theorem dX6_degree_7 : decode cX6_degree 7 = .ok (.iconst 2, 1) := by decide +kernel
theorem dX6_degree_8 : decode cX6_degree 8 = .ok (.aload_n 0, 1) := by decide +kernel
theorem dX6_degree_9 : decode cX6_degree 9 = .ok (.getfield 7, 3) := by decide +kernel
theorem dX6_degree_12 : decode cX6_degree 12 = .ok (.bipush 48, 2) := by decide +kernel
theorem dX6_degree_14 : decode cX6_degree 14 = .ok (.iaload, 1) := by decide +kernel
theorem dX6_degree_15 : decode cX6_degree 15 = .ok (.imul, 1) := by decide +kernel
theorem dX6_degree_16 : decode cX6_degree 16 = .ok (.if_icmp .ge 62, 3) := by decide +kernel
theorem dX6_degree_19 : decode cX6_degree 19 = .ok (.aload_n 0, 1) := by decide +kernel
theorem dX6_degree_20 : decode cX6_degree 20 = .ok (.iload 4, 2) := by decide +kernel
theorem dX6_degree_22 : decode cX6_degree 22 = .ok (.iload_n 2, 1) := by decide +kernel
theorem dX6_degree_23 : decode cX6_degree 23 = .ok (.invokevirtual 70, 3) := by decide +kernel
theorem dX6_degree_26 : decode cX6_degree 26 = .ok (.ifCond .eq 17, 3) := by decide +kernel
theorem dX6_degree_29 : decode cX6_degree 29 = .ok (.aload_n 0, 1) := by decide +kernel
theorem dX6_degree_30 : decode cX6_degree 30 = .ok (.iload_n 1, 1) := by decide +kernel
theorem dX6_degree_31 : decode cX6_degree 31 = .ok (.iload 4, 2) := by decide +kernel
theorem dX6_degree_33 : decode cX6_degree 33 = .ok (.invokevirtual 73, 3) := by decide +kernel
theorem dX6_degree_36 : decode cX6_degree 36 = .ok (.ifCond .eq 7, 3) := by decide +kernel
theorem dX6_degree_39 : decode cX6_degree 39 = .ok (.iconst 1, 1) := by decide +kernel
theorem dX6_degree_40 : decode cX6_degree 40 = .ok (.goto 4, 3) := by decide +kernel
theorem dX6_degree_43 : decode cX6_degree 43 = .ok (.iconst 0, 1) := by decide +kernel
theorem dX6_degree_44 : decode cX6_degree 44 = .ok (.istore 5, 2) := by decide +kernel
theorem dX6_degree_46 : decode cX6_degree 46 = .ok (.iload 5, 2) := by decide +kernel
theorem dX6_degree_48 : decode cX6_degree 48 = .ok (.ifCond .eq 11, 3) := by decide +kernel
theorem dX6_degree_51 : decode cX6_degree 51 = .ok (.iload 4, 2) := by decide +kernel
theorem dX6_degree_53 : decode cX6_degree 53 = .ok (.iload_n 1, 1) := by decide +kernel
theorem dX6_degree_54 : decode cX6_degree 54 = .ok (.if_icmp .ge 5, 3) := by decide +kernel
theorem dX6_degree_57 : decode cX6_degree 57 = .ok (.iconst 0, 1) := by decide +kernel
theorem dX6_degree_58 : decode cX6_degree 58 = .ok (.ireturn, 1) := by decide +kernel
theorem dX6_degree_59 : decode cX6_degree 59 = .ok (.iload_n 3, 1) := by decide +kernel
theorem dX6_degree_60 : decode cX6_degree 60 = .ok (.iload 5, 2) := by decide +kernel
theorem dX6_degree_62 : decode cX6_degree 62 = .ok (.ifCond .eq 7, 3) := by decide +kernel
theorem dX6_degree_65 : decode cX6_degree 65 = .ok (.iconst 1, 1) := by decide +kernel
theorem dX6_degree_66 : decode cX6_degree 66 = .ok (.goto 4, 3) := by decide +kernel
theorem dX6_degree_69 : decode cX6_degree 69 = .ok (.iconst 0, 1) := by decide +kernel
theorem dX6_degree_70 : decode cX6_degree 70 = .ok (.iadd, 1) := by decide +kernel
theorem dX6_degree_71 : decode cX6_degree 71 = .ok (.istore_n 3, 1) := by decide +kernel
theorem dX6_degree_72 : decode cX6_degree 72 = .ok (.iinc 4 1, 3) := by decide +kernel
theorem dX6_degree_75 : decode cX6_degree 75 = .ok (.goto (-70), 3) := by decide +kernel
theorem dX6_degree_78 : decode cX6_degree 78 = .ok (.iload_n 3, 1) := by decide +kernel
theorem dX6_degree_79 : decode cX6_degree 79 = .ok (.ireturn, 1) := by decide +kernel
theorem dX6_joins_0 : decode cX6_joins 0 = .ok (.iconst 2, 1) := by decide +kernel
theorem dX6_joins_1 : decode cX6_joins 1 = .ok (.aload_n 0, 1) := by decide +kernel
theorem dX6_joins_2 : decode cX6_joins 2 = .ok (.getfield 7, 3) := by decide +kernel
theorem dX6_joins_5 : decode cX6_joins 5 = .ok (.bipush 48, 2) := by decide +kernel
theorem dX6_joins_7 : decode cX6_joins 7 = .ok (.iaload, 1) := by decide +kernel
theorem dX6_joins_8 : decode cX6_joins 8 = .ok (.imul, 1) := by decide +kernel
theorem dX6_joins_9 : decode cX6_joins 9 = .ok (.istore_n 2, 1) := by decide +kernel
theorem dX6_joins_10 : decode cX6_joins 10 = .ok (.iconst 0, 1) := by decide +kernel
theorem dX6_joins_11 : decode cX6_joins 11 = .ok (.istore_n 3, 1) := by decide +kernel
theorem dX6_joins_12 : decode cX6_joins 12 = .ok (.iload_n 3, 1) := by decide +kernel
theorem dX6_joins_13 : decode cX6_joins 13 = .ok (.iload_n 2, 1) := by decide +kernel
theorem dX6_joins_14 : decode cX6_joins 14 = .ok (.if_icmp .ge 16, 3) := by decide +kernel
theorem dX6_joins_17 : decode cX6_joins 17 = .ok (.aload_n 0, 1) := by decide +kernel
theorem dX6_joins_18 : decode cX6_joins 18 = .ok (.getfield 32, 3) := by decide +kernel
theorem dX6_joins_21 : decode cX6_joins 21 = .ok (.iload_n 3, 1) := by decide +kernel
theorem dX6_joins_22 : decode cX6_joins 22 = .ok (.iload_n 3, 1) := by decide +kernel
theorem dX6_joins_23 : decode cX6_joins 23 = .ok (.iastore, 1) := by decide +kernel
theorem dX6_joins_24 : decode cX6_joins 24 = .ok (.iinc 3 1, 3) := by decide +kernel
theorem dX6_joins_27 : decode cX6_joins 27 = .ok (.goto (-15), 3) := by decide +kernel
theorem dX6_joins_30 : decode cX6_joins 30 = .ok (.iconst 0, 1) := by decide +kernel
theorem dX6_joins_31 : decode cX6_joins 31 = .ok (.istore_n 3, 1) := by decide +kernel
theorem dX6_joins_32 : decode cX6_joins 32 = .ok (.iload_n 3, 1) := by decide +kernel
theorem dX6_joins_33 : decode cX6_joins 33 = .ok (.iload_n 2, 1) := by decide +kernel
theorem dX6_joins_34 : decode cX6_joins 34 = .ok (.if_icmp .ge 134, 3) := by decide +kernel
theorem dX6_joins_37 : decode cX6_joins 37 = .ok (.iconst 0, 1) := by decide +kernel
theorem dX6_joins_38 : decode cX6_joins 38 = .ok (.istore 4, 2) := by decide +kernel
theorem dX6_joins_40 : decode cX6_joins 40 = .ok (.iload 4, 2) := by decide +kernel
theorem dX6_joins_42 : decode cX6_joins 42 = .ok (.iload_n 2, 1) := by decide +kernel
theorem dX6_joins_43 : decode cX6_joins 43 = .ok (.if_icmp .ge 119, 3) := by decide +kernel
theorem dX6_joins_46 : decode cX6_joins 46 = .ok (.iconst 0, 1) := by decide +kernel
theorem dX6_joins_47 : decode cX6_joins 47 = .ok (.istore 5, 2) := by decide +kernel
theorem dX6_joins_49 : decode cX6_joins 49 = .ok (.iload 5, 2) := by decide +kernel
theorem dX6_joins_51 : decode cX6_joins 51 = .ok (.iload_n 2, 1) := by decide +kernel
theorem dX6_joins_52 : decode cX6_joins 52 = .ok (.if_icmp .ge 104, 3) := by decide +kernel
theorem dX6_joins_55 : decode cX6_joins 55 = .ok (.aload_n 0, 1) := by decide +kernel
theorem dX6_joins_56 : decode cX6_joins 56 = .ok (.iload 4, 2) := by decide +kernel
theorem dX6_joins_58 : decode cX6_joins 58 = .ok (.iload_n 1, 1) := by decide +kernel
theorem dX6_joins_59 : decode cX6_joins 59 = .ok (.invokevirtual 70, 3) := by decide +kernel
theorem dX6_joins_62 : decode cX6_joins 62 = .ok (.ifCond .eq 39, 3) := by decide +kernel
theorem dX6_joins_65 : decode cX6_joins 65 = .ok (.aload_n 0, 1) := by decide +kernel
theorem dX6_joins_66 : decode cX6_joins 66 = .ok (.iload 5, 2) := by decide +kernel
theorem dX6_joins_68 : decode cX6_joins 68 = .ok (.iload_n 1, 1) := by decide +kernel
theorem dX6_joins_69 : decode cX6_joins 69 = .ok (.invokevirtual 70, 3) := by decide +kernel
theorem dX6_joins_72 : decode cX6_joins 72 = .ok (.ifCond .eq 29, 3) := by decide +kernel
theorem dX6_joins_75 : decode cX6_joins 75 = .ok (.iload 4, 2) := by decide +kernel
theorem dX6_joins_77 : decode cX6_joins 77 = .ok (.iconst 2, 1) := by decide +kernel
theorem dX6_joins_78 : decode cX6_joins 78 = .ok (.idiv, 1) := by decide +kernel
theorem dX6_joins_79 : decode cX6_joins 79 = .ok (.iload 5, 2) := by decide +kernel
theorem dX6_joins_81 : decode cX6_joins 81 = .ok (.iconst 2, 1) := by decide +kernel
theorem dX6_joins_82 : decode cX6_joins 82 = .ok (.idiv, 1) := by decide +kernel
theorem dX6_joins_83 : decode cX6_joins 83 = .ok (.if_icmp .eq 14, 3) := by decide +kernel
theorem dX6_joins_86 : decode cX6_joins 86 = .ok (.aload_n 0, 1) := by decide +kernel
theorem dX6_joins_87 : decode cX6_joins 87 = .ok (.iload 4, 2) := by decide +kernel
theorem dX6_joins_89 : decode cX6_joins 89 = .ok (.iload 5, 2) := by decide +kernel
theorem dX6_joins_91 : decode cX6_joins 91 = .ok (.invokevirtual 73, 3) := by decide +kernel
theorem dX6_joins_94 : decode cX6_joins 94 = .ok (.ifCond .eq 7, 3) := by decide +kernel
theorem dX6_joins_97 : decode cX6_joins 97 = .ok (.iconst 1, 1) := by decide +kernel
theorem dX6_joins_98 : decode cX6_joins 98 = .ok (.goto 4, 3) := by decide +kernel
theorem dX6_joins_101 : decode cX6_joins 101 = .ok (.iconst 0, 1) := by decide +kernel
theorem dX6_joins_102 : decode cX6_joins 102 = .ok (.istore 6, 2) := by decide +kernel
theorem dX6_joins_104 : decode cX6_joins 104 = .ok (.aload_n 0, 1) := by decide +kernel
theorem dX6_joins_105 : decode cX6_joins 105 = .ok (.getfield 32, 3) := by decide +kernel
theorem dX6_joins_108 : decode cX6_joins 108 = .ok (.iload 4, 2) := by decide +kernel
theorem dX6_joins_110 : decode cX6_joins 110 = .ok (.iload 6, 2) := by decide +kernel
theorem dX6_joins_112 : decode cX6_joins 112 = .ok (.ifCond .eq 30, 3) := by decide +kernel
theorem dX6_joins_115 : decode cX6_joins 115 = .ok (.aload_n 0, 1) := by decide +kernel
theorem dX6_joins_116 : decode cX6_joins 116 = .ok (.getfield 32, 3) := by decide +kernel
theorem dX6_joins_119 : decode cX6_joins 119 = .ok (.iload 5, 2) := by decide +kernel
theorem dX6_joins_121 : decode cX6_joins 121 = .ok (.iaload, 1) := by decide +kernel
theorem dX6_joins_122 : decode cX6_joins 122 = .ok (.aload_n 0, 1) := by decide +kernel
theorem dX6_joins_123 : decode cX6_joins 123 = .ok (.getfield 32, 3) := by decide +kernel
theorem dX6_joins_126 : decode cX6_joins 126 = .ok (.iload 4, 2) := by decide +kernel
theorem dX6_joins_128 : decode cX6_joins 128 = .ok (.iaload, 1) := by decide +kernel
theorem dX6_joins_129 : decode cX6_joins 129 = .ok (.if_icmp .ge 13, 3) := by decide +kernel
theorem dX6_joins_132 : decode cX6_joins 132 = .ok (.aload_n 0, 1) := by decide +kernel
theorem dX6_joins_133 : decode cX6_joins 133 = .ok (.getfield 32, 3) := by decide +kernel
theorem dX6_joins_136 : decode cX6_joins 136 = .ok (.iload 5, 2) := by decide +kernel
theorem dX6_joins_138 : decode cX6_joins 138 = .ok (.iaload, 1) := by decide +kernel
theorem dX6_joins_139 : decode cX6_joins 139 = .ok (.goto 10, 3) := by decide +kernel
theorem dX6_joins_142 : decode cX6_joins 142 = .ok (.aload_n 0, 1) := by decide +kernel
theorem dX6_joins_143 : decode cX6_joins 143 = .ok (.getfield 32, 3) := by decide +kernel
theorem dX6_joins_146 : decode cX6_joins 146 = .ok (.iload 4, 2) := by decide +kernel
theorem dX6_joins_148 : decode cX6_joins 148 = .ok (.iaload, 1) := by decide +kernel
theorem dX6_joins_149 : decode cX6_joins 149 = .ok (.iastore, 1) := by decide +kernel
theorem dX6_joins_150 : decode cX6_joins 150 = .ok (.iinc 5 1, 3) := by decide +kernel
theorem dX6_joins_153 : decode cX6_joins 153 = .ok (.goto (-104), 3) := by decide +kernel
theorem dX6_joins_156 : decode cX6_joins 156 = .ok (.iinc 4 1, 3) := by decide +kernel
theorem dX6_joins_159 : decode cX6_joins 159 = .ok (.goto (-119), 3) := by decide +kernel
theorem dX6_joins_162 : decode cX6_joins 162 = .ok (.iinc 3 1, 3) := by decide +kernel
theorem dX6_joins_165 : decode cX6_joins 165 = .ok (.goto (-133), 3) := by decide +kernel
theorem dX6_joins_168 : decode cX6_joins 168 = .ok (.return_, 1) := by decide +kernel
theorem dX6_leastRuns_0 : decode cX6_leastRuns 0 = .ok (.iload_n 1, 1) := by decide +kernel
theorem dX6_leastRuns_1 : decode cX6_leastRuns 1 = .ok (.iconst 0, 1) := by decide +kernel
theorem dX6_leastRuns_2 : decode cX6_leastRuns 2 = .ok (.iconst 3, 1) := by decide +kernel
theorem dX6_leastRuns_3 : decode cX6_leastRuns 3 = .ok (.invokestatic 38, 3) := by decide +kernel
theorem dX6_leastRuns_6 : decode cX6_leastRuns 6 = .ok (.ifCond .ne 5, 3) := by decide +kernel
theorem dX6_leastRuns_9 : decode cX6_leastRuns 9 = .ok (.iconst (-1), 1) := by decide +kernel
theorem dX6_leastRuns_10 : decode cX6_leastRuns 10 = .ok (.ireturn, 1) := by decide +kernel
theorem dX6_leastRuns_11 : decode cX6_leastRuns 11 = .ok (.aload_n 0, 1) := by decide +kernel
theorem dX6_leastRuns_12 : decode cX6_leastRuns 12 = .ok (.iload_n 1, 1) := by decide +kernel
theorem dX6_leastRuns_13 : decode cX6_leastRuns 13 = .ok (.invokevirtual 76, 3) := by decide +kernel
theorem dX6_leastRuns_16 : decode cX6_leastRuns 16 = .ok (.iconst 0, 1) := by decide +kernel
theorem dX6_leastRuns_17 : decode cX6_leastRuns 17 = .ok (.istore_n 2, 1) := by decide +kernel
theorem dX6_leastRuns_18 : decode cX6_leastRuns 18 = .ok (.iconst 0, 1) := by decide +kernel
theorem dX6_leastRuns_19 : decode cX6_leastRuns 19 = .ok (.istore_n 3, 1) := by decide +kernel
theorem dX6_leastRuns_20 : decode cX6_leastRuns 20 = .ok (.iload_n 3, 1) := by decide +kernel
theorem dX6_leastRuns_21 : decode cX6_leastRuns 21 = .ok (.iconst 2, 1) := by decide +kernel
theorem dX6_leastRuns_22 : decode cX6_leastRuns 22 = .ok (.aload_n 0, 1) := by decide +kernel
theorem dX6_leastRuns_23 : decode cX6_leastRuns 23 = .ok (.getfield 7, 3) := by decide +kernel
theorem dX6_leastRuns_26 : decode cX6_leastRuns 26 = .ok (.bipush 48, 2) := by decide +kernel
theorem dX6_leastRuns_28 : decode cX6_leastRuns 28 = .ok (.iaload, 1) := by decide +kernel
theorem dX6_leastRuns_29 : decode cX6_leastRuns 29 = .ok (.imul, 1) := by decide +kernel
theorem dX6_leastRuns_30 : decode cX6_leastRuns 30 = .ok (.if_icmp .ge 109, 3) := by decide +kernel
theorem dX6_leastRuns_33 : decode cX6_leastRuns 33 = .ok (.aload_n 0, 1) := by decide +kernel
theorem dX6_leastRuns_34 : decode cX6_leastRuns 34 = .ok (.iload_n 3, 1) := by decide +kernel
theorem dX6_leastRuns_35 : decode cX6_leastRuns 35 = .ok (.iload_n 1, 1) := by decide +kernel
theorem dX6_leastRuns_36 : decode cX6_leastRuns 36 = .ok (.invokevirtual 70, 3) := by decide +kernel
theorem dX6_leastRuns_39 : decode cX6_leastRuns 39 = .ok (.ifCond .eq 94, 3) := by decide +kernel
theorem dX6_leastRuns_42 : decode cX6_leastRuns 42 = .ok (.aload_n 0, 1) := by decide +kernel
theorem dX6_leastRuns_43 : decode cX6_leastRuns 43 = .ok (.getfield 32, 3) := by decide +kernel
theorem dX6_leastRuns_46 : decode cX6_leastRuns 46 = .ok (.iload_n 3, 1) := by decide +kernel
theorem dX6_leastRuns_47 : decode cX6_leastRuns 47 = .ok (.iaload, 1) := by decide +kernel
theorem dX6_leastRuns_48 : decode cX6_leastRuns 48 = .ok (.iload_n 3, 1) := by decide +kernel
theorem dX6_leastRuns_49 : decode cX6_leastRuns 49 = .ok (.if_icmp .ne 84, 3) := by decide +kernel
theorem dX6_leastRuns_52 : decode cX6_leastRuns 52 = .ok (.iconst 0, 1) := by decide +kernel
theorem dX6_leastRuns_53 : decode cX6_leastRuns 53 = .ok (.istore 4, 2) := by decide +kernel
theorem dX6_leastRuns_55 : decode cX6_leastRuns 55 = .ok (.iconst 0, 1) := by decide +kernel
theorem dX6_leastRuns_56 : decode cX6_leastRuns 56 = .ok (.istore 5, 2) := by decide +kernel
theorem dX6_leastRuns_58 : decode cX6_leastRuns 58 = .ok (.iload 5, 2) := by decide +kernel
theorem dX6_leastRuns_60 : decode cX6_leastRuns 60 = .ok (.iconst 2, 1) := by decide +kernel
theorem dX6_leastRuns_61 : decode cX6_leastRuns 61 = .ok (.aload_n 0, 1) := by decide +kernel
theorem dX6_leastRuns_62 : decode cX6_leastRuns 62 = .ok (.getfield 7, 3) := by decide +kernel
theorem dX6_leastRuns_65 : decode cX6_leastRuns 65 = .ok (.bipush 48, 2) := by decide +kernel
theorem dX6_leastRuns_67 : decode cX6_leastRuns 67 = .ok (.iaload, 1) := by decide +kernel
theorem dX6_leastRuns_68 : decode cX6_leastRuns 68 = .ok (.imul, 1) := by decide +kernel
theorem dX6_leastRuns_69 : decode cX6_leastRuns 69 = .ok (.if_icmp .ge 48, 3) := by decide +kernel
theorem dX6_leastRuns_72 : decode cX6_leastRuns 72 = .ok (.iload 4, 2) := by decide +kernel
theorem dX6_leastRuns_74 : decode cX6_leastRuns 74 = .ok (.aload_n 0, 1) := by decide +kernel
theorem dX6_leastRuns_75 : decode cX6_leastRuns 75 = .ok (.iload 5, 2) := by decide +kernel
theorem dX6_leastRuns_77 : decode cX6_leastRuns 77 = .ok (.iload_n 1, 1) := by decide +kernel
theorem dX6_leastRuns_78 : decode cX6_leastRuns 78 = .ok (.invokevirtual 70, 3) := by decide +kernel
theorem dX6_leastRuns_81 : decode cX6_leastRuns 81 = .ok (.ifCond .eq 26, 3) := by decide +kernel
theorem dX6_leastRuns_84 : decode cX6_leastRuns 84 = .ok (.aload_n 0, 1) := by decide +kernel
theorem dX6_leastRuns_85 : decode cX6_leastRuns 85 = .ok (.getfield 32, 3) := by decide +kernel
theorem dX6_leastRuns_88 : decode cX6_leastRuns 88 = .ok (.iload 5, 2) := by decide +kernel
theorem dX6_leastRuns_90 : decode cX6_leastRuns 90 = .ok (.iaload, 1) := by decide +kernel
theorem dX6_leastRuns_91 : decode cX6_leastRuns 91 = .ok (.iload_n 3, 1) := by decide +kernel
theorem dX6_leastRuns_92 : decode cX6_leastRuns 92 = .ok (.if_icmp .ne 15, 3) := by decide +kernel
theorem dX6_leastRuns_95 : decode cX6_leastRuns 95 = .ok (.aload_n 0, 1) := by decide +kernel
theorem dX6_leastRuns_96 : decode cX6_leastRuns 96 = .ok (.iload 5, 2) := by decide +kernel
theorem dX6_leastRuns_98 : decode cX6_leastRuns 98 = .ok (.iload_n 1, 1) := by decide +kernel
theorem dX6_leastRuns_99 : decode cX6_leastRuns 99 = .ok (.invokevirtual 79, 3) := by decide +kernel
theorem dX6_leastRuns_102 : decode cX6_leastRuns 102 = .ok (.iconst 2, 1) := by decide +kernel
theorem dX6_leastRuns_103 : decode cX6_leastRuns 103 = .ok (.irem, 1) := by decide +kernel
theorem dX6_leastRuns_104 : decode cX6_leastRuns 104 = .ok (.goto 4, 3) := by decide +kernel
theorem dX6_leastRuns_107 : decode cX6_leastRuns 107 = .ok (.iconst 0, 1) := by decide +kernel
theorem dX6_leastRuns_108 : decode cX6_leastRuns 108 = .ok (.iadd, 1) := by decide +kernel
theorem dX6_leastRuns_109 : decode cX6_leastRuns 109 = .ok (.istore 4, 2) := by decide +kernel
theorem dX6_leastRuns_111 : decode cX6_leastRuns 111 = .ok (.iinc 5 1, 3) := by decide +kernel
theorem dX6_leastRuns_114 : decode cX6_leastRuns 114 = .ok (.goto (-56), 3) := by decide +kernel
theorem dX6_leastRuns_117 : decode cX6_leastRuns 117 = .ok (.iload_n 2, 1) := by decide +kernel
theorem dX6_leastRuns_118 : decode cX6_leastRuns 118 = .ok (.iload 4, 2) := by decide +kernel
theorem dX6_leastRuns_120 : decode cX6_leastRuns 120 = .ok (.ifCond .ne 7, 3) := by decide +kernel
theorem dX6_leastRuns_123 : decode cX6_leastRuns 123 = .ok (.iconst 1, 1) := by decide +kernel
theorem dX6_leastRuns_124 : decode cX6_leastRuns 124 = .ok (.goto 7, 3) := by decide +kernel
theorem dX6_leastRuns_127 : decode cX6_leastRuns 127 = .ok (.iload 4, 2) := by decide +kernel
theorem dX6_leastRuns_129 : decode cX6_leastRuns 129 = .ok (.iconst 2, 1) := by decide +kernel
theorem dX6_leastRuns_130 : decode cX6_leastRuns 130 = .ok (.idiv, 1) := by decide +kernel
theorem dX6_leastRuns_131 : decode cX6_leastRuns 131 = .ok (.iadd, 1) := by decide +kernel
theorem dX6_leastRuns_132 : decode cX6_leastRuns 132 = .ok (.istore_n 2, 1) := by decide +kernel
theorem dX6_leastRuns_133 : decode cX6_leastRuns 133 = .ok (.iinc 3 1, 3) := by decide +kernel
theorem dX6_leastRuns_136 : decode cX6_leastRuns 136 = .ok (.goto (-116), 3) := by decide +kernel
theorem dX6_leastRuns_139 : decode cX6_leastRuns 139 = .ok (.iload_n 2, 1) := by decide +kernel
theorem dX6_leastRuns_140 : decode cX6_leastRuns 140 = .ok (.ireturn, 1) := by decide +kernel
theorem dX6_isPosition_0 : decode cX6_isPosition 0 = .ok (.iload_n 1, 1) := by decide +kernel
theorem dX6_isPosition_1 : decode cX6_isPosition 1 = .ok (.iconst 0, 1) := by decide +kernel
theorem dX6_isPosition_2 : decode cX6_isPosition 2 = .ok (.aload_n 0, 1) := by decide +kernel
theorem dX6_isPosition_3 : decode cX6_isPosition 3 = .ok (.getfield 7, 3) := by decide +kernel
theorem dX6_isPosition_6 : decode cX6_isPosition 6 = .ok (.bipush 48, 2) := by decide +kernel
theorem dX6_isPosition_8 : decode cX6_isPosition 8 = .ok (.iaload, 1) := by decide +kernel
theorem dX6_isPosition_9 : decode cX6_isPosition 9 = .ok (.iconst 1, 1) := by decide +kernel
theorem dX6_isPosition_10 : decode cX6_isPosition 10 = .ok (.isub, 1) := by decide +kernel
theorem dX6_isPosition_11 : decode cX6_isPosition 11 = .ok (.invokestatic 38, 3) := by decide +kernel
theorem dX6_isPosition_14 : decode cX6_isPosition 14 = .ok (.ireturn, 1) := by decide +kernel
theorem dX6_at_0 : decode cX6_at 0 = .ok (.aload_n 0, 1) := by decide +kernel
theorem dX6_at_1 : decode cX6_at 1 = .ok (.getfield 7, 3) := by decide +kernel
theorem dX6_at_4 : decode cX6_at 4 = .ok (.bipush 40, 2) := by decide +kernel
theorem dX6_at_6 : decode cX6_at 6 = .ok (.iload_n 1, 1) := by decide +kernel
theorem dX6_at_7 : decode cX6_at 7 = .ok (.iadd, 1) := by decide +kernel
theorem dX6_at_8 : decode cX6_at 8 = .ok (.iaload, 1) := by decide +kernel
theorem dX6_at_9 : decode cX6_at 9 = .ok (.ireturn, 1) := by decide +kernel
theorem dX6_strokeAt_0 : decode cX6_strokeAt 0 = .ok (.iload_n 1, 1) := by decide +kernel
theorem dX6_strokeAt_1 : decode cX6_strokeAt 1 = .ok (.ifCond .ge 7, 3) := by decide +kernel
theorem dX6_strokeAt_4 : decode cX6_strokeAt 4 = .ok (.iconst (-1), 1) := by decide +kernel
theorem dX6_strokeAt_5 : decode cX6_strokeAt 5 = .ok (.goto 23, 3) := by decide +kernel
theorem dX6_strokeAt_8 : decode cX6_strokeAt 8 = .ok (.aload_n 0, 1) := by decide +kernel
theorem dX6_strokeAt_9 : decode cX6_strokeAt 9 = .ok (.iload_n 1, 1) := by decide +kernel
theorem dX6_strokeAt_10 : decode cX6_strokeAt 10 = .ok (.invokevirtual 83, 3) := by decide +kernel
theorem dX6_strokeAt_13 : decode cX6_strokeAt 13 = .ok (.ifCond .eq 13, 3) := by decide +kernel
theorem dX6_strokeAt_16 : decode cX6_strokeAt 16 = .ok (.aload_n 0, 1) := by decide +kernel
theorem dX6_strokeAt_17 : decode cX6_strokeAt 17 = .ok (.iload_n 1, 1) := by decide +kernel
theorem dX6_strokeAt_18 : decode cX6_strokeAt 18 = .ok (.invokevirtual 86, 3) := by decide +kernel
theorem dX6_strokeAt_21 : decode cX6_strokeAt 21 = .ok (.iconst 2, 1) := by decide +kernel
theorem dX6_strokeAt_22 : decode cX6_strokeAt 22 = .ok (.idiv, 1) := by decide +kernel
theorem dX6_strokeAt_23 : decode cX6_strokeAt 23 = .ok (.goto 5, 3) := by decide +kernel
theorem dX6_strokeAt_26 : decode cX6_strokeAt 26 = .ok (.bipush (-3), 2) := by decide +kernel
theorem dX6_strokeAt_28 : decode cX6_strokeAt 28 = .ok (.ireturn, 1) := by decide +kernel
theorem dX6_directionAt_0 : decode cX6_directionAt 0 = .ok (.iload_n 1, 1) := by decide +kernel
theorem dX6_directionAt_1 : decode cX6_directionAt 1 = .ok (.ifCond .ge 7, 3) := by decide +kernel
theorem dX6_directionAt_4 : decode cX6_directionAt 4 = .ok (.iconst (-1), 1) := by decide +kernel
theorem dX6_directionAt_5 : decode cX6_directionAt 5 = .ok (.goto 23, 3) := by decide +kernel
theorem dX6_directionAt_8 : decode cX6_directionAt 8 = .ok (.aload_n 0, 1) := by decide +kernel
theorem dX6_directionAt_9 : decode cX6_directionAt 9 = .ok (.iload_n 1, 1) := by decide +kernel
theorem dX6_directionAt_10 : decode cX6_directionAt 10 = .ok (.invokevirtual 83, 3) := by decide +kernel
theorem dX6_directionAt_13 : decode cX6_directionAt 13 = .ok (.ifCond .eq 13, 3) := by decide +kernel
theorem dX6_directionAt_16 : decode cX6_directionAt 16 = .ok (.aload_n 0, 1) := by decide +kernel
theorem dX6_directionAt_17 : decode cX6_directionAt 17 = .ok (.iload_n 1, 1) := by decide +kernel
theorem dX6_directionAt_18 : decode cX6_directionAt 18 = .ok (.invokevirtual 86, 3) := by decide +kernel
theorem dX6_directionAt_21 : decode cX6_directionAt 21 = .ok (.iconst 2, 1) := by decide +kernel
theorem dX6_directionAt_22 : decode cX6_directionAt 22 = .ok (.irem, 1) := by decide +kernel
theorem dX6_directionAt_23 : decode cX6_directionAt 23 = .ok (.goto 5, 3) := by decide +kernel
theorem dX6_directionAt_26 : decode cX6_directionAt 26 = .ok (.bipush (-3), 2) := by decide +kernel
theorem dX6_directionAt_28 : decode cX6_directionAt 28 = .ok (.ireturn, 1) := by decide +kernel
theorem dX6_movePosition_0 : decode cX6_movePosition 0 = .ok (.aload_n 0, 1) := by decide +kernel
theorem dX6_movePosition_1 : decode cX6_movePosition 1 = .ok (.iload_n 1, 1) := by decide +kernel
theorem dX6_movePosition_2 : decode cX6_movePosition 2 = .ok (.invokevirtual 83, 3) := by decide +kernel
theorem dX6_movePosition_5 : decode cX6_movePosition 5 = .ok (.ifCond .eq 11, 3) := by decide +kernel
theorem dX6_movePosition_8 : decode cX6_movePosition 8 = .ok (.aload_n 0, 1) := by decide +kernel
theorem dX6_movePosition_9 : decode cX6_movePosition 9 = .ok (.iload_n 2, 1) := by decide +kernel
theorem dX6_movePosition_10 : decode cX6_movePosition 10 = .ok (.invokevirtual 83, 3) := by decide +kernel
theorem dX6_movePosition_13 : decode cX6_movePosition 13 = .ok (.ifCond .ne 5, 3) := by decide +kernel
theorem dX6_movePosition_16 : decode cX6_movePosition 16 = .ok (.iconst (-1), 1) := by decide +kernel
theorem dX6_movePosition_17 : decode cX6_movePosition 17 = .ok (.ireturn, 1) := by decide +kernel
theorem dX6_movePosition_18 : decode cX6_movePosition 18 = .ok (.aload_n 0, 1) := by decide +kernel
theorem dX6_movePosition_19 : decode cX6_movePosition 19 = .ok (.invokevirtual 45, 3) := by decide +kernel
theorem dX6_movePosition_22 : decode cX6_movePosition 22 = .ok (.aload_n 0, 1) := by decide +kernel
theorem dX6_movePosition_23 : decode cX6_movePosition 23 = .ok (.iload_n 1, 1) := by decide +kernel
theorem dX6_movePosition_24 : decode cX6_movePosition 24 = .ok (.invokevirtual 86, 3) := by decide +kernel
theorem dX6_movePosition_27 : decode cX6_movePosition 27 = .ok (.istore_n 3, 1) := by decide +kernel
theorem dX6_movePosition_28 : decode cX6_movePosition 28 = .ok (.iload_n 1, 1) := by decide +kernel
theorem dX6_movePosition_29 : decode cX6_movePosition 29 = .ok (.iload_n 2, 1) := by decide +kernel
theorem dX6_movePosition_30 : decode cX6_movePosition 30 = .ok (.if_icmp .ge 7, 3) := by decide +kernel
theorem dX6_movePosition_33 : decode cX6_movePosition 33 = .ok (.iconst 1, 1) := by decide +kernel
theorem dX6_movePosition_34 : decode cX6_movePosition 34 = .ok (.goto 4, 3) := by decide +kernel
theorem dX6_movePosition_37 : decode cX6_movePosition 37 = .ok (.iconst (-1), 1) := by decide +kernel
theorem dX6_movePosition_38 : decode cX6_movePosition 38 = .ok (.istore 4, 2) := by decide +kernel
theorem dX6_movePosition_40 : decode cX6_movePosition 40 = .ok (.iload_n 1, 1) := by decide +kernel
theorem dX6_movePosition_41 : decode cX6_movePosition 41 = .ok (.istore 5, 2) := by decide +kernel
theorem dX6_movePosition_43 : decode cX6_movePosition 43 = .ok (.iload 5, 2) := by decide +kernel
theorem dX6_movePosition_45 : decode cX6_movePosition 45 = .ok (.iload_n 2, 1) := by decide +kernel
theorem dX6_movePosition_46 : decode cX6_movePosition 46 = .ok (.if_icmp .eq 36, 3) := by decide +kernel
theorem dX6_movePosition_49 : decode cX6_movePosition 49 = .ok (.aload_n 0, 1) := by decide +kernel
theorem dX6_movePosition_50 : decode cX6_movePosition 50 = .ok (.getfield 7, 3) := by decide +kernel
theorem dX6_movePosition_53 : decode cX6_movePosition 53 = .ok (.bipush 40, 2) := by decide +kernel
theorem dX6_movePosition_55 : decode cX6_movePosition 55 = .ok (.iload 5, 2) := by decide +kernel
theorem dX6_movePosition_57 : decode cX6_movePosition 57 = .ok (.iadd, 1) := by decide +kernel
theorem dX6_movePosition_58 : decode cX6_movePosition 58 = .ok (.aload_n 0, 1) := by decide +kernel
theorem dX6_movePosition_59 : decode cX6_movePosition 59 = .ok (.getfield 7, 3) := by decide +kernel
theorem dX6_movePosition_62 : decode cX6_movePosition 62 = .ok (.bipush 40, 2) := by decide +kernel
theorem dX6_movePosition_64 : decode cX6_movePosition 64 = .ok (.iload 5, 2) := by decide +kernel
theorem dX6_movePosition_66 : decode cX6_movePosition 66 = .ok (.iadd, 1) := by decide +kernel
theorem dX6_movePosition_67 : decode cX6_movePosition 67 = .ok (.iload 4, 2) := by decide +kernel
theorem dX6_movePosition_69 : decode cX6_movePosition 69 = .ok (.iadd, 1) := by decide +kernel
theorem dX6_movePosition_70 : decode cX6_movePosition 70 = .ok (.iaload, 1) := by decide +kernel
theorem dX6_movePosition_71 : decode cX6_movePosition 71 = .ok (.iastore, 1) := by decide +kernel
theorem dX6_movePosition_72 : decode cX6_movePosition 72 = .ok (.iload 5, 2) := by decide +kernel
theorem dX6_movePosition_74 : decode cX6_movePosition 74 = .ok (.iload 4, 2) := by decide +kernel
theorem dX6_movePosition_76 : decode cX6_movePosition 76 = .ok (.iadd, 1) := by decide +kernel
theorem dX6_movePosition_77 : decode cX6_movePosition 77 = .ok (.istore 5, 2) := by decide +kernel
theorem dX6_movePosition_79 : decode cX6_movePosition 79 = .ok (.goto (-36), 3) := by decide +kernel
theorem dX6_movePosition_82 : decode cX6_movePosition 82 = .ok (.aload_n 0, 1) := by decide +kernel
theorem dX6_movePosition_83 : decode cX6_movePosition 83 = .ok (.getfield 7, 3) := by decide +kernel
theorem dX6_movePosition_86 : decode cX6_movePosition 86 = .ok (.bipush 40, 2) := by decide +kernel
theorem dX6_movePosition_88 : decode cX6_movePosition 88 = .ok (.iload_n 2, 1) := by decide +kernel
theorem dX6_movePosition_89 : decode cX6_movePosition 89 = .ok (.iadd, 1) := by decide +kernel
theorem dX6_movePosition_90 : decode cX6_movePosition 90 = .ok (.iload_n 3, 1) := by decide +kernel
theorem dX6_movePosition_91 : decode cX6_movePosition 91 = .ok (.iastore, 1) := by decide +kernel
theorem dX6_movePosition_92 : decode cX6_movePosition 92 = .ok (.iload_n 3, 1) := by decide +kernel
theorem dX6_movePosition_93 : decode cX6_movePosition 93 = .ok (.iconst 2, 1) := by decide +kernel
theorem dX6_movePosition_94 : decode cX6_movePosition 94 = .ok (.idiv, 1) := by decide +kernel
theorem dX6_movePosition_95 : decode cX6_movePosition 95 = .ok (.ireturn, 1) := by decide +kernel
theorem dX6_turnPosition_0 : decode cX6_turnPosition 0 = .ok (.aload_n 0, 1) := by decide +kernel
theorem dX6_turnPosition_1 : decode cX6_turnPosition 1 = .ok (.iload_n 1, 1) := by decide +kernel
theorem dX6_turnPosition_2 : decode cX6_turnPosition 2 = .ok (.invokevirtual 83, 3) := by decide +kernel
theorem dX6_turnPosition_5 : decode cX6_turnPosition 5 = .ok (.ifCond .ne 5, 3) := by decide +kernel
theorem dX6_turnPosition_8 : decode cX6_turnPosition 8 = .ok (.iconst (-1), 1) := by decide +kernel
theorem dX6_turnPosition_9 : decode cX6_turnPosition 9 = .ok (.ireturn, 1) := by decide +kernel
theorem dX6_turnPosition_10 : decode cX6_turnPosition 10 = .ok (.aload_n 0, 1) := by decide +kernel
theorem dX6_turnPosition_11 : decode cX6_turnPosition 11 = .ok (.invokevirtual 45, 3) := by decide +kernel
theorem dX6_turnPosition_14 : decode cX6_turnPosition 14 = .ok (.aload_n 0, 1) := by decide +kernel
theorem dX6_turnPosition_15 : decode cX6_turnPosition 15 = .ok (.getfield 7, 3) := by decide +kernel
theorem dX6_turnPosition_18 : decode cX6_turnPosition 18 = .ok (.bipush 40, 2) := by decide +kernel
theorem dX6_turnPosition_20 : decode cX6_turnPosition 20 = .ok (.iload_n 1, 1) := by decide +kernel
theorem dX6_turnPosition_21 : decode cX6_turnPosition 21 = .ok (.iadd, 1) := by decide +kernel
theorem dX6_turnPosition_22 : decode cX6_turnPosition 22 = .ok (.dup2, 1) := by decide +kernel
theorem dX6_turnPosition_23 : decode cX6_turnPosition 23 = .ok (.iaload, 1) := by decide +kernel
theorem dX6_turnPosition_24 : decode cX6_turnPosition 24 = .ok (.iconst 1, 1) := by decide +kernel
theorem dX6_turnPosition_25 : decode cX6_turnPosition 25 = .ok (.ixor, 1) := by decide +kernel
theorem dX6_turnPosition_26 : decode cX6_turnPosition 26 = .ok (.iastore, 1) := by decide +kernel
theorem dX6_turnPosition_27 : decode cX6_turnPosition 27 = .ok (.aload_n 0, 1) := by decide +kernel
theorem dX6_turnPosition_28 : decode cX6_turnPosition 28 = .ok (.iload_n 1, 1) := by decide +kernel
theorem dX6_turnPosition_29 : decode cX6_turnPosition 29 = .ok (.invokevirtual 86, 3) := by decide +kernel
theorem dX6_turnPosition_32 : decode cX6_turnPosition 32 = .ok (.iconst 2, 1) := by decide +kernel
theorem dX6_turnPosition_33 : decode cX6_turnPosition 33 = .ok (.irem, 1) := by decide +kernel
theorem dX6_turnPosition_34 : decode cX6_turnPosition 34 = .ok (.ireturn, 1) := by decide +kernel
theorem dX6_begin_0 : decode cX6_begin 0 = .ok (.iconst 5, 1) := by decide +kernel
theorem dX6_begin_1 : decode cX6_begin 1 = .ok (.iload_n 0, 1) := by decide +kernel
theorem dX6_begin_2 : decode cX6_begin 2 = .ok (.iconst 2, 1) := by decide +kernel
theorem dX6_begin_3 : decode cX6_begin 3 = .ok (.idiv, 1) := by decide +kernel
theorem dX6_begin_4 : decode cX6_begin 4 = .ok (.imul, 1) := by decide +kernel
theorem dX6_begin_5 : decode cX6_begin 5 = .ok (.iconst 2, 1) := by decide +kernel
theorem dX6_begin_6 : decode cX6_begin 6 = .ok (.iload_n 0, 1) := by decide +kernel
theorem dX6_begin_7 : decode cX6_begin 7 = .ok (.iconst 2, 1) := by decide +kernel
theorem dX6_begin_8 : decode cX6_begin 8 = .ok (.irem, 1) := by decide +kernel
theorem dX6_begin_9 : decode cX6_begin 9 = .ok (.imul, 1) := by decide +kernel
theorem dX6_begin_10 : decode cX6_begin 10 = .ok (.iadd, 1) := by decide +kernel
theorem dX6_begin_11 : decode cX6_begin 11 = .ok (.ireturn, 1) := by decide +kernel
theorem dX6_end_0 : decode cX6_end 0 = .ok (.iconst 5, 1) := by decide +kernel
theorem dX6_end_1 : decode cX6_end 1 = .ok (.iload_n 0, 1) := by decide +kernel
theorem dX6_end_2 : decode cX6_end 2 = .ok (.iconst 2, 1) := by decide +kernel
theorem dX6_end_3 : decode cX6_end 3 = .ok (.idiv, 1) := by decide +kernel
theorem dX6_end_4 : decode cX6_end 4 = .ok (.imul, 1) := by decide +kernel
theorem dX6_end_5 : decode cX6_end 5 = .ok (.iconst 2, 1) := by decide +kernel
theorem dX6_end_6 : decode cX6_end 6 = .ok (.iadd, 1) := by decide +kernel
theorem dX6_end_7 : decode cX6_end 7 = .ok (.iconst 2, 1) := by decide +kernel
theorem dX6_end_8 : decode cX6_end 8 = .ok (.iload_n 0, 1) := by decide +kernel
theorem dX6_end_9 : decode cX6_end 9 = .ok (.iconst 2, 1) := by decide +kernel
theorem dX6_end_10 : decode cX6_end 10 = .ok (.irem, 1) := by decide +kernel
theorem dX6_end_11 : decode cX6_end 11 = .ok (.imul, 1) := by decide +kernel
theorem dX6_end_12 : decode cX6_end 12 = .ok (.isub, 1) := by decide +kernel
theorem dX6_end_13 : decode cX6_end 13 = .ok (.ireturn, 1) := by decide +kernel
theorem dX6_far_0 : decode cX6_far 0 = .ok (.iload_n 0, 1) := by decide +kernel
theorem dX6_far_1 : decode cX6_far 1 = .ok (.ifCond .ge 8, 3) := by decide +kernel
theorem dX6_far_4 : decode cX6_far 4 = .ok (.iload_n 0, 1) := by decide +kernel
theorem dX6_far_5 : decode cX6_far 5 = .ok (.ineg, 1) := by decide +kernel
theorem dX6_far_6 : decode cX6_far 6 = .ok (.goto 4, 3) := by decide +kernel
theorem dX6_far_9 : decode cX6_far 9 = .ok (.iload_n 0, 1) := by decide +kernel
theorem dX6_far_10 : decode cX6_far 10 = .ok (.istore_n 2, 1) := by decide +kernel
theorem dX6_far_11 : decode cX6_far 11 = .ok (.iload_n 1, 1) := by decide +kernel
theorem dX6_far_12 : decode cX6_far 12 = .ok (.ifCond .ge 8, 3) := by decide +kernel
theorem dX6_far_15 : decode cX6_far 15 = .ok (.iload_n 1, 1) := by decide +kernel
theorem dX6_far_16 : decode cX6_far 16 = .ok (.ineg, 1) := by decide +kernel
theorem dX6_far_17 : decode cX6_far 17 = .ok (.goto 4, 3) := by decide +kernel
theorem dX6_far_20 : decode cX6_far 20 = .ok (.iload_n 1, 1) := by decide +kernel
theorem dX6_far_21 : decode cX6_far 21 = .ok (.istore_n 3, 1) := by decide +kernel
theorem dX6_far_22 : decode cX6_far 22 = .ok (.iload_n 2, 1) := by decide +kernel
theorem dX6_far_23 : decode cX6_far 23 = .ok (.iload_n 3, 1) := by decide +kernel
theorem dX6_far_24 : decode cX6_far 24 = .ok (.if_icmp .le 7, 3) := by decide +kernel
theorem dX6_far_27 : decode cX6_far 27 = .ok (.iload_n 2, 1) := by decide +kernel
theorem dX6_far_28 : decode cX6_far 28 = .ok (.goto 4, 3) := by decide +kernel
theorem dX6_far_31 : decode cX6_far 31 = .ok (.iload_n 3, 1) := by decide +kernel
theorem dX6_far_32 : decode cX6_far 32 = .ok (.ireturn, 1) := by decide +kernel
theorem dX6_step_0 : decode cX6_step 0 = .ok (.aload_n 0, 1) := by decide +kernel
theorem dX6_step_1 : decode cX6_step 1 = .ok (.getfield 7, 3) := by decide +kernel
theorem dX6_step_4 : decode cX6_step 4 = .ok (.iload_n 2, 1) := by decide +kernel
theorem dX6_step_5 : decode cX6_step 5 = .ok (.invokestatic 89, 3) := by decide +kernel
theorem dX6_step_8 : decode cX6_step 8 = .ok (.iaload, 1) := by decide +kernel
theorem dX6_step_9 : decode cX6_step 9 = .ok (.iload_n 1, 1) := by decide +kernel
theorem dX6_step_10 : decode cX6_step 10 = .ok (.ifCond .ge 7, 3) := by decide +kernel
theorem dX6_step_13 : decode cX6_step 13 = .ok (.iconst 0, 1) := by decide +kernel
theorem dX6_step_14 : decode cX6_step 14 = .ok (.goto 12, 3) := by decide +kernel
theorem dX6_step_17 : decode cX6_step 17 = .ok (.aload_n 0, 1) := by decide +kernel
theorem dX6_step_18 : decode cX6_step 18 = .ok (.getfield 7, 3) := by decide +kernel
theorem dX6_step_21 : decode cX6_step 21 = .ok (.iload_n 1, 1) := by decide +kernel
theorem dX6_step_22 : decode cX6_step 22 = .ok (.invokestatic 92, 3) := by decide +kernel
theorem dX6_step_25 : decode cX6_step 25 = .ok (.iaload, 1) := by decide +kernel
theorem dX6_step_26 : decode cX6_step 26 = .ok (.isub, 1) := by decide +kernel
theorem dX6_step_27 : decode cX6_step 27 = .ok (.istore_n 3, 1) := by decide +kernel
theorem dX6_step_28 : decode cX6_step 28 = .ok (.aload_n 0, 1) := by decide +kernel
theorem dX6_step_29 : decode cX6_step 29 = .ok (.getfield 7, 3) := by decide +kernel
theorem dX6_step_32 : decode cX6_step 32 = .ok (.iload_n 2, 1) := by decide +kernel
theorem dX6_step_33 : decode cX6_step 33 = .ok (.invokestatic 89, 3) := by decide +kernel
theorem dX6_step_36 : decode cX6_step 36 = .ok (.iconst 1, 1) := by decide +kernel
theorem dX6_step_37 : decode cX6_step 37 = .ok (.iadd, 1) := by decide +kernel
theorem dX6_step_38 : decode cX6_step 38 = .ok (.iaload, 1) := by decide +kernel
theorem dX6_step_39 : decode cX6_step 39 = .ok (.iload_n 1, 1) := by decide +kernel
theorem dX6_step_40 : decode cX6_step 40 = .ok (.ifCond .ge 7, 3) := by decide +kernel
theorem dX6_step_43 : decode cX6_step 43 = .ok (.iconst 0, 1) := by decide +kernel
theorem dX6_step_44 : decode cX6_step 44 = .ok (.goto 14, 3) := by decide +kernel
theorem dX6_step_47 : decode cX6_step 47 = .ok (.aload_n 0, 1) := by decide +kernel
theorem dX6_step_48 : decode cX6_step 48 = .ok (.getfield 7, 3) := by decide +kernel
theorem dX6_step_51 : decode cX6_step 51 = .ok (.iload_n 1, 1) := by decide +kernel
theorem dX6_step_52 : decode cX6_step 52 = .ok (.invokestatic 92, 3) := by decide +kernel
theorem dX6_step_55 : decode cX6_step 55 = .ok (.iconst 1, 1) := by decide +kernel
theorem dX6_step_56 : decode cX6_step 56 = .ok (.iadd, 1) := by decide +kernel
theorem dX6_step_57 : decode cX6_step 57 = .ok (.iaload, 1) := by decide +kernel
theorem dX6_step_58 : decode cX6_step 58 = .ok (.isub, 1) := by decide +kernel
theorem dX6_step_59 : decode cX6_step 59 = .ok (.istore 4, 2) := by decide +kernel
theorem dX6_step_61 : decode cX6_step 61 = .ok (.iload_n 3, 1) := by decide +kernel
theorem dX6_step_62 : decode cX6_step 62 = .ok (.iload 4, 2) := by decide +kernel
theorem dX6_step_64 : decode cX6_step 64 = .ok (.invokestatic 95, 3) := by decide +kernel
theorem dX6_step_67 : decode cX6_step 67 = .ok (.iload_n 1, 1) := by decide +kernel
theorem dX6_step_68 : decode cX6_step 68 = .ok (.ifCond .lt 20, 3) := by decide +kernel
theorem dX6_step_71 : decode cX6_step 71 = .ok (.aload_n 0, 1) := by decide +kernel
theorem dX6_step_72 : decode cX6_step 72 = .ok (.iload_n 1, 1) := by decide +kernel
theorem dX6_step_73 : decode cX6_step 73 = .ok (.iconst 2, 1) := by decide +kernel
theorem dX6_step_74 : decode cX6_step 74 = .ok (.idiv, 1) := by decide +kernel
theorem dX6_step_75 : decode cX6_step 75 = .ok (.invokevirtual 56, 3) := by decide +kernel
theorem dX6_step_78 : decode cX6_step 78 = .ok (.aload_n 0, 1) := by decide +kernel
theorem dX6_step_79 : decode cX6_step 79 = .ok (.iload_n 2, 1) := by decide +kernel
theorem dX6_step_80 : decode cX6_step 80 = .ok (.iconst 2, 1) := by decide +kernel
theorem dX6_step_81 : decode cX6_step 81 = .ok (.idiv, 1) := by decide +kernel
theorem dX6_step_82 : decode cX6_step 82 = .ok (.invokevirtual 56, 3) := by decide +kernel
theorem dX6_step_85 : decode cX6_step 85 = .ok (.if_icmp .eq 10, 3) := by decide +kernel
theorem dX6_step_88 : decode cX6_step 88 = .ok (.aload_n 0, 1) := by decide +kernel
theorem dX6_step_89 : decode cX6_step 89 = .ok (.getfield 16, 3) := by decide +kernel
theorem dX6_step_92 : decode cX6_step 92 = .ok (.goto 4, 3) := by decide +kernel
theorem dX6_step_95 : decode cX6_step 95 = .ok (.iconst 0, 1) := by decide +kernel
theorem dX6_step_96 : decode cX6_step 96 = .ok (.iadd, 1) := by decide +kernel
theorem dX6_step_97 : decode cX6_step 97 = .ok (.ireturn, 1) := by decide +kernel
theorem dX6_cost_0 : decode cX6_cost 0 = .ok (.iconst 0, 1) := by decide +kernel
theorem dX6_cost_1 : decode cX6_cost 1 = .ok (.istore_n 1, 1) := by decide +kernel
theorem dX6_cost_2 : decode cX6_cost 2 = .ok (.iconst 0, 1) := by decide +kernel
theorem dX6_cost_3 : decode cX6_cost 3 = .ok (.istore_n 2, 1) := by decide +kernel
theorem dX6_cost_4 : decode cX6_cost 4 = .ok (.iload_n 2, 1) := by decide +kernel
theorem dX6_cost_5 : decode cX6_cost 5 = .ok (.aload_n 0, 1) := by decide +kernel
theorem dX6_cost_6 : decode cX6_cost 6 = .ok (.getfield 7, 3) := by decide +kernel
theorem dX6_cost_9 : decode cX6_cost 9 = .ok (.bipush 48, 2) := by decide +kernel
theorem dX6_cost_11 : decode cX6_cost 11 = .ok (.iaload, 1) := by decide +kernel
theorem dX6_cost_12 : decode cX6_cost 12 = .ok (.if_icmp .ge 36, 3) := by decide +kernel
theorem dX6_cost_15 : decode cX6_cost 15 = .ok (.iload_n 1, 1) := by decide +kernel
theorem dX6_cost_16 : decode cX6_cost 16 = .ok (.aload_n 0, 1) := by decide +kernel
theorem dX6_cost_17 : decode cX6_cost 17 = .ok (.iload_n 2, 1) := by decide +kernel
theorem dX6_cost_18 : decode cX6_cost 18 = .ok (.ifCond .ne 7, 3) := by decide +kernel
theorem dX6_cost_21 : decode cX6_cost 21 = .ok (.iconst (-1), 1) := by decide +kernel
theorem dX6_cost_22 : decode cX6_cost 22 = .ok (.goto 10, 3) := by decide +kernel
theorem dX6_cost_25 : decode cX6_cost 25 = .ok (.aload_n 0, 1) := by decide +kernel
theorem dX6_cost_26 : decode cX6_cost 26 = .ok (.iload_n 2, 1) := by decide +kernel
theorem dX6_cost_27 : decode cX6_cost 27 = .ok (.iconst 1, 1) := by decide +kernel
theorem dX6_cost_28 : decode cX6_cost 28 = .ok (.isub, 1) := by decide +kernel
theorem dX6_cost_29 : decode cX6_cost 29 = .ok (.invokevirtual 86, 3) := by decide +kernel
theorem dX6_cost_32 : decode cX6_cost 32 = .ok (.aload_n 0, 1) := by decide +kernel
theorem dX6_cost_33 : decode cX6_cost 33 = .ok (.iload_n 2, 1) := by decide +kernel
theorem dX6_cost_34 : decode cX6_cost 34 = .ok (.invokevirtual 86, 3) := by decide +kernel
theorem dX6_cost_37 : decode cX6_cost 37 = .ok (.invokevirtual 98, 3) := by decide +kernel
theorem dX6_cost_40 : decode cX6_cost 40 = .ok (.iadd, 1) := by decide +kernel
theorem dX6_cost_41 : decode cX6_cost 41 = .ok (.istore_n 1, 1) := by decide +kernel
theorem dX6_cost_42 : decode cX6_cost 42 = .ok (.iinc 2 1, 3) := by decide +kernel
theorem dX6_cost_45 : decode cX6_cost 45 = .ok (.goto (-41), 3) := by decide +kernel
theorem dX6_cost_48 : decode cX6_cost 48 = .ok (.iload_n 1, 1) := by decide +kernel
theorem dX6_cost_49 : decode cX6_cost 49 = .ok (.ireturn, 1) := by decide +kernel
theorem dX6_penChanges_0 : decode cX6_penChanges 0 = .ok (.iconst 0, 1) := by decide +kernel
theorem dX6_penChanges_1 : decode cX6_penChanges 1 = .ok (.istore_n 1, 1) := by decide +kernel
theorem dX6_penChanges_2 : decode cX6_penChanges 2 = .ok (.iconst 0, 1) := by decide +kernel
theorem dX6_penChanges_3 : decode cX6_penChanges 3 = .ok (.istore_n 2, 1) := by decide +kernel
theorem dX6_penChanges_4 : decode cX6_penChanges 4 = .ok (.iload_n 2, 1) := by decide +kernel
theorem dX6_penChanges_5 : decode cX6_penChanges 5 = .ok (.aload_n 0, 1) := by decide +kernel
theorem dX6_penChanges_6 : decode cX6_penChanges 6 = .ok (.getfield 7, 3) := by decide +kernel
theorem dX6_penChanges_9 : decode cX6_penChanges 9 = .ok (.bipush 48, 2) := by decide +kernel
theorem dX6_penChanges_11 : decode cX6_penChanges 11 = .ok (.iaload, 1) := by decide +kernel
theorem dX6_penChanges_12 : decode cX6_penChanges 12 = .ok (.if_icmp .ge 48, 3) := by decide +kernel
theorem dX6_penChanges_15 : decode cX6_penChanges 15 = .ok (.iload_n 1, 1) := by decide +kernel
theorem dX6_penChanges_16 : decode cX6_penChanges 16 = .ok (.iload_n 2, 1) := by decide +kernel
theorem dX6_penChanges_17 : decode cX6_penChanges 17 = .ok (.ifCond .eq 30, 3) := by decide +kernel
theorem dX6_penChanges_20 : decode cX6_penChanges 20 = .ok (.aload_n 0, 1) := by decide +kernel
theorem dX6_penChanges_21 : decode cX6_penChanges 21 = .ok (.aload_n 0, 1) := by decide +kernel
theorem dX6_penChanges_22 : decode cX6_penChanges 22 = .ok (.iload_n 2, 1) := by decide +kernel
theorem dX6_penChanges_23 : decode cX6_penChanges 23 = .ok (.iconst 1, 1) := by decide +kernel
theorem dX6_penChanges_24 : decode cX6_penChanges 24 = .ok (.isub, 1) := by decide +kernel
theorem dX6_penChanges_25 : decode cX6_penChanges 25 = .ok (.invokevirtual 86, 3) := by decide +kernel
theorem dX6_penChanges_28 : decode cX6_penChanges 28 = .ok (.iconst 2, 1) := by decide +kernel
theorem dX6_penChanges_29 : decode cX6_penChanges 29 = .ok (.idiv, 1) := by decide +kernel
theorem dX6_penChanges_30 : decode cX6_penChanges 30 = .ok (.invokevirtual 56, 3) := by decide +kernel
theorem dX6_penChanges_33 : decode cX6_penChanges 33 = .ok (.aload_n 0, 1) := by decide +kernel
theorem dX6_penChanges_34 : decode cX6_penChanges 34 = .ok (.aload_n 0, 1) := by decide +kernel
theorem dX6_penChanges_35 : decode cX6_penChanges 35 = .ok (.iload_n 2, 1) := by decide +kernel
theorem dX6_penChanges_36 : decode cX6_penChanges 36 = .ok (.invokevirtual 86, 3) := by decide +kernel
theorem dX6_penChanges_39 : decode cX6_penChanges 39 = .ok (.iconst 2, 1) := by decide +kernel
theorem dX6_penChanges_40 : decode cX6_penChanges 40 = .ok (.idiv, 1) := by decide +kernel
theorem dX6_penChanges_41 : decode cX6_penChanges 41 = .ok (.invokevirtual 56, 3) := by decide +kernel
theorem dX6_penChanges_44 : decode cX6_penChanges 44 = .ok (.if_icmp .eq 7, 3) := by decide +kernel
theorem dX6_penChanges_47 : decode cX6_penChanges 47 = .ok (.iconst 1, 1) := by decide +kernel
theorem dX6_penChanges_48 : decode cX6_penChanges 48 = .ok (.goto 4, 3) := by decide +kernel
theorem dX6_penChanges_51 : decode cX6_penChanges 51 = .ok (.iconst 0, 1) := by decide +kernel
theorem dX6_penChanges_52 : decode cX6_penChanges 52 = .ok (.iadd, 1) := by decide +kernel
theorem dX6_penChanges_53 : decode cX6_penChanges 53 = .ok (.istore_n 1, 1) := by decide +kernel
theorem dX6_penChanges_54 : decode cX6_penChanges 54 = .ok (.iinc 2 1, 3) := by decide +kernel
theorem dX6_penChanges_57 : decode cX6_penChanges 57 = .ok (.goto (-53), 3) := by decide +kernel
theorem dX6_penChanges_60 : decode cX6_penChanges 60 = .ok (.iload_n 1, 1) := by decide +kernel
theorem dX6_penChanges_61 : decode cX6_penChanges 61 = .ok (.ireturn, 1) := by decide +kernel
theorem dX6_isLinked_0 : decode cX6_isLinked 0 = .ok (.iload_n 1, 1) := by decide +kernel
theorem dX6_isLinked_1 : decode cX6_isLinked 1 = .ok (.ifCond .lt 16, 3) := by decide +kernel
theorem dX6_isLinked_4 : decode cX6_isLinked 4 = .ok (.iload_n 1, 1) := by decide +kernel
theorem dX6_isLinked_5 : decode cX6_isLinked 5 = .ok (.iconst 1, 1) := by decide +kernel
theorem dX6_isLinked_6 : decode cX6_isLinked 6 = .ok (.iadd, 1) := by decide +kernel
theorem dX6_isLinked_7 : decode cX6_isLinked 7 = .ok (.aload_n 0, 1) := by decide +kernel
theorem dX6_isLinked_8 : decode cX6_isLinked 8 = .ok (.getfield 7, 3) := by decide +kernel
theorem dX6_isLinked_11 : decode cX6_isLinked 11 = .ok (.bipush 48, 2) := by decide +kernel
theorem dX6_isLinked_13 : decode cX6_isLinked 13 = .ok (.iaload, 1) := by decide +kernel
theorem dX6_isLinked_14 : decode cX6_isLinked 14 = .ok (.if_icmp .lt 5, 3) := by decide +kernel
theorem dX6_isLinked_17 : decode cX6_isLinked 17 = .ok (.iconst 0, 1) := by decide +kernel
theorem dX6_isLinked_18 : decode cX6_isLinked 18 = .ok (.ireturn, 1) := by decide +kernel
theorem dX6_isLinked_19 : decode cX6_isLinked 19 = .ok (.aload_n 0, 1) := by decide +kernel
theorem dX6_isLinked_20 : decode cX6_isLinked 20 = .ok (.iload_n 1, 1) := by decide +kernel
theorem dX6_isLinked_21 : decode cX6_isLinked 21 = .ok (.invokevirtual 86, 3) := by decide +kernel
theorem dX6_isLinked_24 : decode cX6_isLinked 24 = .ok (.invokestatic 92, 3) := by decide +kernel
theorem dX6_isLinked_27 : decode cX6_isLinked 27 = .ok (.istore_n 2, 1) := by decide +kernel
theorem dX6_isLinked_28 : decode cX6_isLinked 28 = .ok (.aload_n 0, 1) := by decide +kernel
theorem dX6_isLinked_29 : decode cX6_isLinked 29 = .ok (.iload_n 1, 1) := by decide +kernel
theorem dX6_isLinked_30 : decode cX6_isLinked 30 = .ok (.iconst 1, 1) := by decide +kernel
theorem dX6_isLinked_31 : decode cX6_isLinked 31 = .ok (.iadd, 1) := by decide +kernel
theorem dX6_isLinked_32 : decode cX6_isLinked 32 = .ok (.invokevirtual 86, 3) := by decide +kernel
theorem dX6_isLinked_35 : decode cX6_isLinked 35 = .ok (.invokestatic 89, 3) := by decide +kernel
theorem dX6_isLinked_38 : decode cX6_isLinked 38 = .ok (.istore_n 3, 1) := by decide +kernel
theorem dX6_isLinked_39 : decode cX6_isLinked 39 = .ok (.aload_n 0, 1) := by decide +kernel
theorem dX6_isLinked_40 : decode cX6_isLinked 40 = .ok (.aload_n 0, 1) := by decide +kernel
theorem dX6_isLinked_41 : decode cX6_isLinked 41 = .ok (.iload_n 1, 1) := by decide +kernel
theorem dX6_isLinked_42 : decode cX6_isLinked 42 = .ok (.invokevirtual 86, 3) := by decide +kernel
theorem dX6_isLinked_45 : decode cX6_isLinked 45 = .ok (.iconst 2, 1) := by decide +kernel
theorem dX6_isLinked_46 : decode cX6_isLinked 46 = .ok (.idiv, 1) := by decide +kernel
theorem dX6_isLinked_47 : decode cX6_isLinked 47 = .ok (.invokevirtual 56, 3) := by decide +kernel
theorem dX6_isLinked_50 : decode cX6_isLinked 50 = .ok (.aload_n 0, 1) := by decide +kernel
theorem dX6_isLinked_51 : decode cX6_isLinked 51 = .ok (.aload_n 0, 1) := by decide +kernel
theorem dX6_isLinked_52 : decode cX6_isLinked 52 = .ok (.iload_n 1, 1) := by decide +kernel
theorem dX6_isLinked_53 : decode cX6_isLinked 53 = .ok (.iconst 1, 1) := by decide +kernel
theorem dX6_isLinked_54 : decode cX6_isLinked 54 = .ok (.iadd, 1) := by decide +kernel
theorem dX6_isLinked_55 : decode cX6_isLinked 55 = .ok (.invokevirtual 86, 3) := by decide +kernel
theorem dX6_isLinked_58 : decode cX6_isLinked 58 = .ok (.iconst 2, 1) := by decide +kernel
theorem dX6_isLinked_59 : decode cX6_isLinked 59 = .ok (.idiv, 1) := by decide +kernel
theorem dX6_isLinked_60 : decode cX6_isLinked 60 = .ok (.invokevirtual 56, 3) := by decide +kernel
theorem dX6_isLinked_63 : decode cX6_isLinked 63 = .ok (.if_icmp .ne 41, 3) := by decide +kernel
theorem dX6_isLinked_66 : decode cX6_isLinked 66 = .ok (.aload_n 0, 1) := by decide +kernel
theorem dX6_isLinked_67 : decode cX6_isLinked 67 = .ok (.getfield 7, 3) := by decide +kernel
theorem dX6_isLinked_70 : decode cX6_isLinked 70 = .ok (.iload_n 2, 1) := by decide +kernel
theorem dX6_isLinked_71 : decode cX6_isLinked 71 = .ok (.iaload, 1) := by decide +kernel
theorem dX6_isLinked_72 : decode cX6_isLinked 72 = .ok (.aload_n 0, 1) := by decide +kernel
theorem dX6_isLinked_73 : decode cX6_isLinked 73 = .ok (.getfield 7, 3) := by decide +kernel
theorem dX6_isLinked_76 : decode cX6_isLinked 76 = .ok (.iload_n 3, 1) := by decide +kernel
theorem dX6_isLinked_77 : decode cX6_isLinked 77 = .ok (.iaload, 1) := by decide +kernel
theorem dX6_isLinked_78 : decode cX6_isLinked 78 = .ok (.if_icmp .ne 26, 3) := by decide +kernel
theorem dX6_isLinked_81 : decode cX6_isLinked 81 = .ok (.aload_n 0, 1) := by decide +kernel
theorem dX6_isLinked_82 : decode cX6_isLinked 82 = .ok (.getfield 7, 3) := by decide +kernel
theorem dX6_isLinked_85 : decode cX6_isLinked 85 = .ok (.iload_n 2, 1) := by decide +kernel
theorem dX6_isLinked_86 : decode cX6_isLinked 86 = .ok (.iconst 1, 1) := by decide +kernel
theorem dX6_isLinked_87 : decode cX6_isLinked 87 = .ok (.iadd, 1) := by decide +kernel
theorem dX6_isLinked_88 : decode cX6_isLinked 88 = .ok (.iaload, 1) := by decide +kernel
theorem dX6_isLinked_89 : decode cX6_isLinked 89 = .ok (.aload_n 0, 1) := by decide +kernel
theorem dX6_isLinked_90 : decode cX6_isLinked 90 = .ok (.getfield 7, 3) := by decide +kernel
theorem dX6_isLinked_93 : decode cX6_isLinked 93 = .ok (.iload_n 3, 1) := by decide +kernel
theorem dX6_isLinked_94 : decode cX6_isLinked 94 = .ok (.iconst 1, 1) := by decide +kernel
theorem dX6_isLinked_95 : decode cX6_isLinked 95 = .ok (.iadd, 1) := by decide +kernel
theorem dX6_isLinked_96 : decode cX6_isLinked 96 = .ok (.iaload, 1) := by decide +kernel
theorem dX6_isLinked_97 : decode cX6_isLinked 97 = .ok (.if_icmp .ne 7, 3) := by decide +kernel
theorem dX6_isLinked_100 : decode cX6_isLinked 100 = .ok (.iconst 1, 1) := by decide +kernel
theorem dX6_isLinked_101 : decode cX6_isLinked 101 = .ok (.goto 4, 3) := by decide +kernel
theorem dX6_isLinked_104 : decode cX6_isLinked 104 = .ok (.iconst 0, 1) := by decide +kernel
theorem dX6_isLinked_105 : decode cX6_isLinked 105 = .ok (.ireturn, 1) := by decide +kernel
theorem dX6_runCount_0 : decode cX6_runCount 0 = .ok (.iconst 0, 1) := by decide +kernel
theorem dX6_runCount_1 : decode cX6_runCount 1 = .ok (.istore_n 1, 1) := by decide +kernel
theorem dX6_runCount_2 : decode cX6_runCount 2 = .ok (.iconst 0, 1) := by decide +kernel
theorem dX6_runCount_3 : decode cX6_runCount 3 = .ok (.istore_n 2, 1) := by decide +kernel
theorem dX6_runCount_4 : decode cX6_runCount 4 = .ok (.iload_n 2, 1) := by decide +kernel
theorem dX6_runCount_5 : decode cX6_runCount 5 = .ok (.aload_n 0, 1) := by decide +kernel
theorem dX6_runCount_6 : decode cX6_runCount 6 = .ok (.getfield 7, 3) := by decide +kernel
theorem dX6_runCount_9 : decode cX6_runCount 9 = .ok (.bipush 48, 2) := by decide +kernel
theorem dX6_runCount_11 : decode cX6_runCount 11 = .ok (.iaload, 1) := by decide +kernel
theorem dX6_runCount_12 : decode cX6_runCount 12 = .ok (.if_icmp .ge 27, 3) := by decide +kernel
theorem dX6_runCount_15 : decode cX6_runCount 15 = .ok (.iload_n 1, 1) := by decide +kernel
theorem dX6_runCount_16 : decode cX6_runCount 16 = .ok (.aload_n 0, 1) := by decide +kernel
theorem dX6_runCount_17 : decode cX6_runCount 17 = .ok (.iload_n 2, 1) := by decide +kernel
theorem dX6_runCount_18 : decode cX6_runCount 18 = .ok (.iconst 1, 1) := by decide +kernel
theorem dX6_runCount_19 : decode cX6_runCount 19 = .ok (.isub, 1) := by decide +kernel
theorem dX6_runCount_20 : decode cX6_runCount 20 = .ok (.invokevirtual 101, 3) := by decide +kernel
theorem dX6_runCount_23 : decode cX6_runCount 23 = .ok (.ifCond .eq 7, 3) := by decide +kernel
theorem dX6_runCount_26 : decode cX6_runCount 26 = .ok (.iconst 0, 1) := by decide +kernel
theorem dX6_runCount_27 : decode cX6_runCount 27 = .ok (.goto 4, 3) := by decide +kernel
theorem dX6_runCount_30 : decode cX6_runCount 30 = .ok (.iconst 1, 1) := by decide +kernel
theorem dX6_runCount_31 : decode cX6_runCount 31 = .ok (.iadd, 1) := by decide +kernel
theorem dX6_runCount_32 : decode cX6_runCount 32 = .ok (.istore_n 1, 1) := by decide +kernel
theorem dX6_runCount_33 : decode cX6_runCount 33 = .ok (.iinc 2 1, 3) := by decide +kernel
theorem dX6_runCount_36 : decode cX6_runCount 36 = .ok (.goto (-32), 3) := by decide +kernel
theorem dX6_runCount_39 : decode cX6_runCount 39 = .ok (.iload_n 1, 1) := by decide +kernel
theorem dX6_runCount_40 : decode cX6_runCount 40 = .ok (.ireturn, 1) := by decide +kernel
theorem dX6_runLength_0 : decode cX6_runLength 0 = .ok (.iload_n 1, 1) := by decide +kernel
theorem dX6_runLength_1 : decode cX6_runLength 1 = .ok (.ifCond .ge 5, 3) := by decide +kernel
theorem dX6_runLength_4 : decode cX6_runLength 4 = .ok (.iconst (-1), 1) := by decide +kernel
theorem dX6_runLength_5 : decode cX6_runLength 5 = .ok (.ireturn, 1) := by decide +kernel
theorem dX6_runLength_6 : decode cX6_runLength 6 = .ok (.iconst (-1), 1) := by decide +kernel
theorem dX6_runLength_7 : decode cX6_runLength 7 = .ok (.istore_n 2, 1) := by decide +kernel
theorem dX6_runLength_8 : decode cX6_runLength 8 = .ok (.iconst 0, 1) := by decide +kernel
theorem dX6_runLength_9 : decode cX6_runLength 9 = .ok (.istore_n 3, 1) := by decide +kernel
theorem dX6_runLength_10 : decode cX6_runLength 10 = .ok (.iconst 0, 1) := by decide +kernel
theorem dX6_runLength_11 : decode cX6_runLength 11 = .ok (.istore 4, 2) := by decide +kernel
theorem dX6_runLength_13 : decode cX6_runLength 13 = .ok (.iload 4, 2) := by decide +kernel
theorem dX6_runLength_15 : decode cX6_runLength 15 = .ok (.aload_n 0, 1) := by decide +kernel
theorem dX6_runLength_16 : decode cX6_runLength 16 = .ok (.getfield 7, 3) := by decide +kernel
theorem dX6_runLength_19 : decode cX6_runLength 19 = .ok (.bipush 48, 2) := by decide +kernel
theorem dX6_runLength_21 : decode cX6_runLength 21 = .ok (.iaload, 1) := by decide +kernel
theorem dX6_runLength_22 : decode cX6_runLength 22 = .ok (.if_icmp .ge 41, 3) := by decide +kernel
theorem dX6_runLength_25 : decode cX6_runLength 25 = .ok (.iload_n 2, 1) := by decide +kernel
theorem dX6_runLength_26 : decode cX6_runLength 26 = .ok (.aload_n 0, 1) := by decide +kernel
theorem dX6_runLength_27 : decode cX6_runLength 27 = .ok (.iload 4, 2) := by decide +kernel
theorem dX6_runLength_29 : decode cX6_runLength 29 = .ok (.iconst 1, 1) := by decide +kernel
theorem dX6_runLength_30 : decode cX6_runLength 30 = .ok (.isub, 1) := by decide +kernel
theorem dX6_runLength_31 : decode cX6_runLength 31 = .ok (.invokevirtual 101, 3) := by decide +kernel
theorem dX6_runLength_34 : decode cX6_runLength 34 = .ok (.ifCond .eq 7, 3) := by decide +kernel
theorem dX6_runLength_37 : decode cX6_runLength 37 = .ok (.iconst 0, 1) := by decide +kernel
theorem dX6_runLength_38 : decode cX6_runLength 38 = .ok (.goto 4, 3) := by decide +kernel
theorem dX6_runLength_41 : decode cX6_runLength 41 = .ok (.iconst 1, 1) := by decide +kernel
theorem dX6_runLength_42 : decode cX6_runLength 42 = .ok (.iadd, 1) := by decide +kernel
theorem dX6_runLength_43 : decode cX6_runLength 43 = .ok (.istore_n 2, 1) := by decide +kernel
theorem dX6_runLength_44 : decode cX6_runLength 44 = .ok (.iload_n 3, 1) := by decide +kernel
theorem dX6_runLength_45 : decode cX6_runLength 45 = .ok (.iload_n 2, 1) := by decide +kernel
theorem dX6_runLength_46 : decode cX6_runLength 46 = .ok (.iload_n 1, 1) := by decide +kernel
theorem dX6_runLength_47 : decode cX6_runLength 47 = .ok (.if_icmp .ne 7, 3) := by decide +kernel
theorem dX6_runLength_50 : decode cX6_runLength 50 = .ok (.iconst 1, 1) := by decide +kernel
theorem dX6_runLength_51 : decode cX6_runLength 51 = .ok (.goto 4, 3) := by decide +kernel
theorem dX6_runLength_54 : decode cX6_runLength 54 = .ok (.iconst 0, 1) := by decide +kernel
theorem dX6_runLength_55 : decode cX6_runLength 55 = .ok (.iadd, 1) := by decide +kernel
theorem dX6_runLength_56 : decode cX6_runLength 56 = .ok (.istore_n 3, 1) := by decide +kernel
theorem dX6_runLength_57 : decode cX6_runLength 57 = .ok (.iinc 4 1, 3) := by decide +kernel
theorem dX6_runLength_60 : decode cX6_runLength 60 = .ok (.goto (-47), 3) := by decide +kernel
theorem dX6_runLength_63 : decode cX6_runLength 63 = .ok (.iload_n 3, 1) := by decide +kernel
theorem dX6_runLength_64 : decode cX6_runLength 64 = .ok (.ifCond .ne 8, 3) := by decide +kernel
theorem dX6_runLength_67 : decode cX6_runLength 67 = .ok (.bipush (-3), 2) := by decide +kernel
theorem dX6_runLength_69 : decode cX6_runLength 69 = .ok (.goto 4, 3) := by decide +kernel
theorem dX6_runLength_72 : decode cX6_runLength 72 = .ok (.iload_n 3, 1) := by decide +kernel
theorem dX6_runLength_73 : decode cX6_runLength 73 = .ok (.ireturn, 1) := by decide +kernel
theorem dX6_setPenCost_0 : decode cX6_setPenCost 0 = .ok (.iload_n 1, 1) := by decide +kernel
theorem dX6_setPenCost_1 : decode cX6_setPenCost 1 = .ok (.iconst 0, 1) := by decide +kernel
theorem dX6_setPenCost_2 : decode cX6_setPenCost 2 = .ok (.sipush 500, 3) := by decide +kernel
theorem dX6_setPenCost_5 : decode cX6_setPenCost 5 = .ok (.invokestatic 38, 3) := by decide +kernel
theorem dX6_setPenCost_8 : decode cX6_setPenCost 8 = .ok (.ifCond .ne 5, 3) := by decide +kernel
theorem dX6_setPenCost_11 : decode cX6_setPenCost 11 = .ok (.iconst (-1), 1) := by decide +kernel
theorem dX6_setPenCost_12 : decode cX6_setPenCost 12 = .ok (.ireturn, 1) := by decide +kernel
theorem dX6_setPenCost_13 : decode cX6_setPenCost 13 = .ok (.aload_n 0, 1) := by decide +kernel
theorem dX6_setPenCost_14 : decode cX6_setPenCost 14 = .ok (.getfield 16, 3) := by decide +kernel
theorem dX6_setPenCost_17 : decode cX6_setPenCost 17 = .ok (.istore_n 2, 1) := by decide +kernel
theorem dX6_setPenCost_18 : decode cX6_setPenCost 18 = .ok (.aload_n 0, 1) := by decide +kernel
theorem dX6_setPenCost_19 : decode cX6_setPenCost 19 = .ok (.iload_n 1, 1) := by decide +kernel
theorem dX6_setPenCost_20 : decode cX6_setPenCost 20 = .ok (.putfield 16, 3) := by decide +kernel
theorem dX6_setPenCost_23 : decode cX6_setPenCost 23 = .ok (.iload_n 2, 1) := by decide +kernel
theorem dX6_setPenCost_24 : decode cX6_setPenCost 24 = .ok (.ireturn, 1) := by decide +kernel
theorem dX6_ahead_0 : decode cX6_ahead 0 = .ok (.iload_n 1, 1) := by decide +kernel
theorem dX6_ahead_1 : decode cX6_ahead 1 = .ok (.iconst 1, 1) := by decide +kernel
theorem dX6_ahead_2 : decode cX6_ahead 2 = .ok (.aload_n 0, 1) := by decide +kernel
theorem dX6_ahead_3 : decode cX6_ahead 3 = .ok (.getfield 7, 3) := by decide +kernel
theorem dX6_ahead_6 : decode cX6_ahead 6 = .ok (.bipush 48, 2) := by decide +kernel
theorem dX6_ahead_8 : decode cX6_ahead 8 = .ok (.iaload, 1) := by decide +kernel
theorem dX6_ahead_9 : decode cX6_ahead 9 = .ok (.ishl, 1) := by decide +kernel
theorem dX6_ahead_10 : decode cX6_ahead 10 = .ok (.iconst 1, 1) := by decide +kernel
theorem dX6_ahead_11 : decode cX6_ahead 11 = .ok (.isub, 1) := by decide +kernel
theorem dX6_ahead_12 : decode cX6_ahead 12 = .ok (.if_icmp .ne 7, 3) := by decide +kernel
theorem dX6_ahead_15 : decode cX6_ahead 15 = .ok (.iconst 0, 1) := by decide +kernel
theorem dX6_ahead_16 : decode cX6_ahead 16 = .ok (.goto 5, 3) := by decide +kernel
theorem dX6_ahead_19 : decode cX6_ahead 19 = .ok (.ldc 104, 2) := by decide +kernel
theorem dX6_ahead_21 : decode cX6_ahead 21 = .ok (.istore_n 3, 1) := by decide +kernel
theorem dX6_ahead_22 : decode cX6_ahead 22 = .ok (.iconst 0, 1) := by decide +kernel
theorem dX6_ahead_23 : decode cX6_ahead 23 = .ok (.istore 4, 2) := by decide +kernel
theorem dX6_ahead_25 : decode cX6_ahead 25 = .ok (.iload 4, 2) := by decide +kernel
theorem dX6_ahead_27 : decode cX6_ahead 27 = .ok (.iconst 2, 1) := by decide +kernel
theorem dX6_ahead_28 : decode cX6_ahead 28 = .ok (.aload_n 0, 1) := by decide +kernel
theorem dX6_ahead_29 : decode cX6_ahead 29 = .ok (.getfield 7, 3) := by decide +kernel
theorem dX6_ahead_32 : decode cX6_ahead 32 = .ok (.bipush 48, 2) := by decide +kernel
theorem dX6_ahead_34 : decode cX6_ahead 34 = .ok (.iaload, 1) := by decide +kernel
theorem dX6_ahead_35 : decode cX6_ahead 35 = .ok (.imul, 1) := by decide +kernel
theorem dX6_ahead_36 : decode cX6_ahead 36 = .ok (.if_icmp .ge 62, 3) := by decide +kernel
theorem dX6_ahead_39 : decode cX6_ahead 39 = .ok (.iload_n 1, 1) := by decide +kernel
theorem dX6_ahead_40 : decode cX6_ahead 40 = .ok (.iload 4, 2) := by decide +kernel
theorem dX6_ahead_42 : decode cX6_ahead 42 = .ok (.iconst 2, 1) := by decide +kernel
theorem dX6_ahead_43 : decode cX6_ahead 43 = .ok (.idiv, 1) := by decide +kernel
theorem dX6_ahead_44 : decode cX6_ahead 44 = .ok (.ishr, 1) := by decide +kernel
theorem dX6_ahead_45 : decode cX6_ahead 45 = .ok (.iconst 1, 1) := by decide +kernel
theorem dX6_ahead_46 : decode cX6_ahead 46 = .ok (.iand, 1) := by decide +kernel
theorem dX6_ahead_47 : decode cX6_ahead 47 = .ok (.ifCond .ne 45, 3) := by decide +kernel
theorem dX6_ahead_50 : decode cX6_ahead 50 = .ok (.aload_n 0, 1) := by decide +kernel
theorem dX6_ahead_51 : decode cX6_ahead 51 = .ok (.iload_n 2, 1) := by decide +kernel
theorem dX6_ahead_52 : decode cX6_ahead 52 = .ok (.iload 4, 2) := by decide +kernel
theorem dX6_ahead_54 : decode cX6_ahead 54 = .ok (.invokevirtual 98, 3) := by decide +kernel
theorem dX6_ahead_57 : decode cX6_ahead 57 = .ok (.aload_n 0, 1) := by decide +kernel
theorem dX6_ahead_58 : decode cX6_ahead 58 = .ok (.getfield 26, 3) := by decide +kernel
theorem dX6_ahead_61 : decode cX6_ahead 61 = .ok (.bipush 16, 2) := by decide +kernel
theorem dX6_ahead_63 : decode cX6_ahead 63 = .ok (.iload_n 1, 1) := by decide +kernel
theorem dX6_ahead_64 : decode cX6_ahead 64 = .ok (.iconst 1, 1) := by decide +kernel
theorem dX6_ahead_65 : decode cX6_ahead 65 = .ok (.iload 4, 2) := by decide +kernel
theorem dX6_ahead_67 : decode cX6_ahead 67 = .ok (.iconst 2, 1) := by decide +kernel
theorem dX6_ahead_68 : decode cX6_ahead 68 = .ok (.idiv, 1) := by decide +kernel
theorem dX6_ahead_69 : decode cX6_ahead 69 = .ok (.ishl, 1) := by decide +kernel
theorem dX6_ahead_70 : decode cX6_ahead 70 = .ok (.ior, 1) := by decide +kernel
theorem dX6_ahead_71 : decode cX6_ahead 71 = .ok (.imul, 1) := by decide +kernel
theorem dX6_ahead_72 : decode cX6_ahead 72 = .ok (.iload 4, 2) := by decide +kernel
theorem dX6_ahead_74 : decode cX6_ahead 74 = .ok (.iadd, 1) := by decide +kernel
theorem dX6_ahead_75 : decode cX6_ahead 75 = .ok (.iaload, 1) := by decide +kernel
theorem dX6_ahead_76 : decode cX6_ahead 76 = .ok (.iadd, 1) := by decide +kernel
theorem dX6_ahead_77 : decode cX6_ahead 77 = .ok (.istore 5, 2) := by decide +kernel
theorem dX6_ahead_79 : decode cX6_ahead 79 = .ok (.iload 5, 2) := by decide +kernel
theorem dX6_ahead_81 : decode cX6_ahead 81 = .ok (.iload_n 3, 1) := by decide +kernel
theorem dX6_ahead_82 : decode cX6_ahead 82 = .ok (.if_icmp .ge 8, 3) := by decide +kernel
theorem dX6_ahead_85 : decode cX6_ahead 85 = .ok (.iload 5, 2) := by decide +kernel
theorem dX6_ahead_87 : decode cX6_ahead 87 = .ok (.goto 4, 3) := by decide +kernel
theorem dX6_ahead_90 : decode cX6_ahead 90 = .ok (.iload_n 3, 1) := by decide +kernel
theorem dX6_ahead_91 : decode cX6_ahead 91 = .ok (.istore_n 3, 1) := by decide +kernel
theorem dX6_ahead_92 : decode cX6_ahead 92 = .ok (.iinc 4 1, 3) := by decide +kernel
theorem dX6_ahead_95 : decode cX6_ahead 95 = .ok (.goto (-70), 3) := by decide +kernel
theorem dX6_ahead_98 : decode cX6_ahead 98 = .ok (.iload_n 3, 1) := by decide +kernel
theorem dX6_ahead_99 : decode cX6_ahead 99 = .ok (.ireturn, 1) := by decide +kernel
theorem dX6_finds_0 : decode cX6_finds 0 = .ok (.iconst 1, 1) := by decide +kernel
theorem dX6_finds_1 : decode cX6_finds 1 = .ok (.aload_n 0, 1) := by decide +kernel
theorem dX6_finds_2 : decode cX6_finds 2 = .ok (.getfield 7, 3) := by decide +kernel
theorem dX6_finds_5 : decode cX6_finds 5 = .ok (.bipush 48, 2) := by decide +kernel
theorem dX6_finds_7 : decode cX6_finds 7 = .ok (.iaload, 1) := by decide +kernel
theorem dX6_finds_8 : decode cX6_finds 8 = .ok (.ishl, 1) := by decide +kernel
theorem dX6_finds_9 : decode cX6_finds 9 = .ok (.iconst 1, 1) := by decide +kernel
theorem dX6_finds_10 : decode cX6_finds 10 = .ok (.isub, 1) := by decide +kernel
theorem dX6_finds_11 : decode cX6_finds 11 = .ok (.istore_n 1, 1) := by decide +kernel
theorem dX6_finds_12 : decode cX6_finds 12 = .ok (.iload_n 1, 1) := by decide +kernel
theorem dX6_finds_13 : decode cX6_finds 13 = .ok (.ifCond .le 58, 3) := by decide +kernel
theorem dX6_finds_16 : decode cX6_finds 16 = .ok (.iconst 0, 1) := by decide +kernel
theorem dX6_finds_17 : decode cX6_finds 17 = .ok (.istore_n 2, 1) := by decide +kernel
theorem dX6_finds_18 : decode cX6_finds 18 = .ok (.iload_n 2, 1) := by decide +kernel
theorem dX6_finds_19 : decode cX6_finds 19 = .ok (.iconst 2, 1) := by decide +kernel
theorem dX6_finds_20 : decode cX6_finds 20 = .ok (.aload_n 0, 1) := by decide +kernel
theorem dX6_finds_21 : decode cX6_finds 21 = .ok (.getfield 7, 3) := by decide +kernel
theorem dX6_finds_24 : decode cX6_finds 24 = .ok (.bipush 48, 2) := by decide +kernel
theorem dX6_finds_26 : decode cX6_finds 26 = .ok (.iaload, 1) := by decide +kernel
theorem dX6_finds_27 : decode cX6_finds 27 = .ok (.imul, 1) := by decide +kernel
theorem dX6_finds_28 : decode cX6_finds 28 = .ok (.if_icmp .ge 37, 3) := by decide +kernel
theorem dX6_finds_31 : decode cX6_finds 31 = .ok (.iload_n 1, 1) := by decide +kernel
theorem dX6_finds_32 : decode cX6_finds 32 = .ok (.iload_n 2, 1) := by decide +kernel
theorem dX6_finds_33 : decode cX6_finds 33 = .ok (.iconst 2, 1) := by decide +kernel
theorem dX6_finds_34 : decode cX6_finds 34 = .ok (.idiv, 1) := by decide +kernel
theorem dX6_finds_35 : decode cX6_finds 35 = .ok (.ishr, 1) := by decide +kernel
theorem dX6_finds_36 : decode cX6_finds 36 = .ok (.iconst 1, 1) := by decide +kernel
theorem dX6_finds_37 : decode cX6_finds 37 = .ok (.iand, 1) := by decide +kernel
theorem dX6_finds_38 : decode cX6_finds 38 = .ok (.iconst 1, 1) := by decide +kernel
theorem dX6_finds_39 : decode cX6_finds 39 = .ok (.if_icmp .ne 20, 3) := by decide +kernel
theorem dX6_finds_42 : decode cX6_finds 42 = .ok (.aload_n 0, 1) := by decide +kernel
theorem dX6_finds_43 : decode cX6_finds 43 = .ok (.getfield 26, 3) := by decide +kernel
theorem dX6_finds_46 : decode cX6_finds 46 = .ok (.bipush 16, 2) := by decide +kernel
theorem dX6_finds_48 : decode cX6_finds 48 = .ok (.iload_n 1, 1) := by decide +kernel
theorem dX6_finds_49 : decode cX6_finds 49 = .ok (.imul, 1) := by decide +kernel
theorem dX6_finds_50 : decode cX6_finds 50 = .ok (.iload_n 2, 1) := by decide +kernel
theorem dX6_finds_51 : decode cX6_finds 51 = .ok (.iadd, 1) := by decide +kernel
theorem dX6_finds_52 : decode cX6_finds 52 = .ok (.aload_n 0, 1) := by decide +kernel
theorem dX6_finds_53 : decode cX6_finds 53 = .ok (.iload_n 1, 1) := by decide +kernel
theorem dX6_finds_54 : decode cX6_finds 54 = .ok (.iload_n 2, 1) := by decide +kernel
theorem dX6_finds_55 : decode cX6_finds 55 = .ok (.invokevirtual 105, 3) := by decide +kernel
theorem dX6_finds_58 : decode cX6_finds 58 = .ok (.iastore, 1) := by decide +kernel
theorem dX6_finds_59 : decode cX6_finds 59 = .ok (.iinc 2 1, 3) := by decide +kernel
theorem dX6_finds_62 : decode cX6_finds 62 = .ok (.goto (-44), 3) := by decide +kernel
theorem dX6_finds_65 : decode cX6_finds 65 = .ok (.iinc 1 (-1), 3) := by decide +kernel
theorem dX6_finds_68 : decode cX6_finds 68 = .ok (.goto (-56), 3) := by decide +kernel
theorem dX6_finds_71 : decode cX6_finds 71 = .ok (.aload_n 0, 1) := by decide +kernel
theorem dX6_finds_72 : decode cX6_finds 72 = .ok (.iconst 0, 1) := by decide +kernel
theorem dX6_finds_73 : decode cX6_finds 73 = .ok (.iconst (-1), 1) := by decide +kernel
theorem dX6_finds_74 : decode cX6_finds 74 = .ok (.invokevirtual 105, 3) := by decide +kernel
theorem dX6_finds_77 : decode cX6_finds 77 = .ok (.istore_n 1, 1) := by decide +kernel
theorem dX6_finds_78 : decode cX6_finds 78 = .ok (.iconst 0, 1) := by decide +kernel
theorem dX6_finds_79 : decode cX6_finds 79 = .ok (.istore_n 2, 1) := by decide +kernel
theorem dX6_finds_80 : decode cX6_finds 80 = .ok (.iconst (-1), 1) := by decide +kernel
theorem dX6_finds_81 : decode cX6_finds 81 = .ok (.istore_n 3, 1) := by decide +kernel
theorem dX6_finds_82 : decode cX6_finds 82 = .ok (.iconst 0, 1) := by decide +kernel
theorem dX6_finds_83 : decode cX6_finds 83 = .ok (.istore 4, 2) := by decide +kernel
theorem dX6_finds_85 : decode cX6_finds 85 = .ok (.iload 4, 2) := by decide +kernel
theorem dX6_finds_87 : decode cX6_finds 87 = .ok (.aload_n 0, 1) := by decide +kernel
theorem dX6_finds_88 : decode cX6_finds 88 = .ok (.getfield 7, 3) := by decide +kernel
theorem dX6_finds_91 : decode cX6_finds 91 = .ok (.bipush 48, 2) := by decide +kernel
theorem dX6_finds_93 : decode cX6_finds 93 = .ok (.iaload, 1) := by decide +kernel
theorem dX6_finds_94 : decode cX6_finds 94 = .ok (.if_icmp .ge 91, 3) := by decide +kernel
theorem dX6_finds_97 : decode cX6_finds 97 = .ok (.aload_n 0, 1) := by decide +kernel
theorem dX6_finds_98 : decode cX6_finds 98 = .ok (.iload_n 2, 1) := by decide +kernel
theorem dX6_finds_99 : decode cX6_finds 99 = .ok (.iload_n 3, 1) := by decide +kernel
theorem dX6_finds_100 : decode cX6_finds 100 = .ok (.invokevirtual 105, 3) := by decide +kernel
theorem dX6_finds_103 : decode cX6_finds 103 = .ok (.istore 5, 2) := by decide +kernel
theorem dX6_finds_105 : decode cX6_finds 105 = .ok (.iconst 0, 1) := by decide +kernel
theorem dX6_finds_106 : decode cX6_finds 106 = .ok (.istore 6, 2) := by decide +kernel
theorem dX6_finds_108 : decode cX6_finds 108 = .ok (.iload_n 2, 1) := by decide +kernel
theorem dX6_finds_109 : decode cX6_finds 109 = .ok (.iload 6, 2) := by decide +kernel
theorem dX6_finds_111 : decode cX6_finds 111 = .ok (.iconst 2, 1) := by decide +kernel
theorem dX6_finds_112 : decode cX6_finds 112 = .ok (.idiv, 1) := by decide +kernel
theorem dX6_finds_113 : decode cX6_finds 113 = .ok (.ishr, 1) := by decide +kernel
theorem dX6_finds_114 : decode cX6_finds 114 = .ok (.iconst 1, 1) := by decide +kernel
theorem dX6_finds_115 : decode cX6_finds 115 = .ok (.iand, 1) := by decide +kernel
theorem dX6_finds_116 : decode cX6_finds 116 = .ok (.iconst 1, 1) := by decide +kernel
theorem dX6_finds_117 : decode cX6_finds 117 = .ok (.if_icmp .eq 35, 3) := by decide +kernel
theorem dX6_finds_120 : decode cX6_finds 120 = .ok (.aload_n 0, 1) := by decide +kernel
theorem dX6_finds_121 : decode cX6_finds 121 = .ok (.iload_n 3, 1) := by decide +kernel
theorem dX6_finds_122 : decode cX6_finds 122 = .ok (.iload 6, 2) := by decide +kernel
theorem dX6_finds_124 : decode cX6_finds 124 = .ok (.invokevirtual 98, 3) := by decide +kernel
theorem dX6_finds_127 : decode cX6_finds 127 = .ok (.aload_n 0, 1) := by decide +kernel
theorem dX6_finds_128 : decode cX6_finds 128 = .ok (.getfield 26, 3) := by decide +kernel
theorem dX6_finds_131 : decode cX6_finds 131 = .ok (.bipush 16, 2) := by decide +kernel
theorem dX6_finds_133 : decode cX6_finds 133 = .ok (.iload_n 2, 1) := by decide +kernel
theorem dX6_finds_134 : decode cX6_finds 134 = .ok (.iconst 1, 1) := by decide +kernel
theorem dX6_finds_135 : decode cX6_finds 135 = .ok (.iload 6, 2) := by decide +kernel
theorem dX6_finds_137 : decode cX6_finds 137 = .ok (.iconst 2, 1) := by decide +kernel
theorem dX6_finds_138 : decode cX6_finds 138 = .ok (.idiv, 1) := by decide +kernel
theorem dX6_finds_139 : decode cX6_finds 139 = .ok (.ishl, 1) := by decide +kernel
theorem dX6_finds_140 : decode cX6_finds 140 = .ok (.ior, 1) := by decide +kernel
theorem dX6_finds_141 : decode cX6_finds 141 = .ok (.imul, 1) := by decide +kernel
theorem dX6_finds_142 : decode cX6_finds 142 = .ok (.iload 6, 2) := by decide +kernel
theorem dX6_finds_144 : decode cX6_finds 144 = .ok (.iadd, 1) := by decide +kernel
theorem dX6_finds_145 : decode cX6_finds 145 = .ok (.iaload, 1) := by decide +kernel
theorem dX6_finds_146 : decode cX6_finds 146 = .ok (.iadd, 1) := by decide +kernel
theorem dX6_finds_147 : decode cX6_finds 147 = .ok (.iload 5, 2) := by decide +kernel
theorem dX6_finds_149 : decode cX6_finds 149 = .ok (.if_icmp .eq 9, 3) := by decide +kernel
theorem dX6_finds_152 : decode cX6_finds 152 = .ok (.iinc 6 1, 3) := by decide +kernel
theorem dX6_finds_155 : decode cX6_finds 155 = .ok (.goto (-47), 3) := by decide +kernel
theorem dX6_finds_158 : decode cX6_finds 158 = .ok (.aload_n 0, 1) := by decide +kernel
theorem dX6_finds_159 : decode cX6_finds 159 = .ok (.getfield 29, 3) := by decide +kernel
theorem dX6_finds_162 : decode cX6_finds 162 = .ok (.iload 4, 2) := by decide +kernel
theorem dX6_finds_164 : decode cX6_finds 164 = .ok (.iload 6, 2) := by decide +kernel
theorem dX6_finds_166 : decode cX6_finds 166 = .ok (.iastore, 1) := by decide +kernel
theorem dX6_finds_167 : decode cX6_finds 167 = .ok (.iload_n 2, 1) := by decide +kernel
theorem dX6_finds_168 : decode cX6_finds 168 = .ok (.iconst 1, 1) := by decide +kernel
theorem dX6_finds_169 : decode cX6_finds 169 = .ok (.iload 6, 2) := by decide +kernel
theorem dX6_finds_171 : decode cX6_finds 171 = .ok (.iconst 2, 1) := by decide +kernel
theorem dX6_finds_172 : decode cX6_finds 172 = .ok (.idiv, 1) := by decide +kernel
theorem dX6_finds_173 : decode cX6_finds 173 = .ok (.ishl, 1) := by decide +kernel
theorem dX6_finds_174 : decode cX6_finds 174 = .ok (.ior, 1) := by decide +kernel
theorem dX6_finds_175 : decode cX6_finds 175 = .ok (.istore_n 2, 1) := by decide +kernel
theorem dX6_finds_176 : decode cX6_finds 176 = .ok (.iload 6, 2) := by decide +kernel
theorem dX6_finds_178 : decode cX6_finds 178 = .ok (.istore_n 3, 1) := by decide +kernel
theorem dX6_finds_179 : decode cX6_finds 179 = .ok (.iinc 4 1, 3) := by decide +kernel
theorem dX6_finds_182 : decode cX6_finds 182 = .ok (.goto (-97), 3) := by decide +kernel
theorem dX6_finds_185 : decode cX6_finds 185 = .ok (.iload_n 1, 1) := by decide +kernel
theorem dX6_finds_186 : decode cX6_finds 186 = .ok (.ireturn, 1) := by decide +kernel
theorem dX6_bestCost_0 : decode cX6_bestCost 0 = .ok (.aload_n 0, 1) := by decide +kernel
theorem dX6_bestCost_1 : decode cX6_bestCost 1 = .ok (.invokevirtual 108, 3) := by decide +kernel
theorem dX6_bestCost_4 : decode cX6_bestCost 4 = .ok (.ireturn, 1) := by decide +kernel
theorem dX6_bestAt_0 : decode cX6_bestAt 0 = .ok (.iload_n 1, 1) := by decide +kernel
theorem dX6_bestAt_1 : decode cX6_bestAt 1 = .ok (.ifCond .ge 5, 3) := by decide +kernel
theorem dX6_bestAt_4 : decode cX6_bestAt 4 = .ok (.iconst (-1), 1) := by decide +kernel
theorem dX6_bestAt_5 : decode cX6_bestAt 5 = .ok (.ireturn, 1) := by decide +kernel
theorem dX6_bestAt_6 : decode cX6_bestAt 6 = .ok (.aload_n 0, 1) := by decide +kernel
theorem dX6_bestAt_7 : decode cX6_bestAt 7 = .ok (.invokevirtual 108, 3) := by decide +kernel
theorem dX6_bestAt_10 : decode cX6_bestAt 10 = .ok (.pop, 1) := by decide +kernel
theorem dX6_bestAt_11 : decode cX6_bestAt 11 = .ok (.aload_n 0, 1) := by decide +kernel
theorem dX6_bestAt_12 : decode cX6_bestAt 12 = .ok (.iload_n 1, 1) := by decide +kernel
theorem dX6_bestAt_13 : decode cX6_bestAt 13 = .ok (.invokevirtual 83, 3) := by decide +kernel
theorem dX6_bestAt_16 : decode cX6_bestAt 16 = .ok (.ifCond .eq 12, 3) := by decide +kernel
theorem dX6_bestAt_19 : decode cX6_bestAt 19 = .ok (.aload_n 0, 1) := by decide +kernel
theorem dX6_bestAt_20 : decode cX6_bestAt 20 = .ok (.getfield 29, 3) := by decide +kernel
theorem dX6_bestAt_23 : decode cX6_bestAt 23 = .ok (.iload_n 1, 1) := by decide +kernel
theorem dX6_bestAt_24 : decode cX6_bestAt 24 = .ok (.iaload, 1) := by decide +kernel
theorem dX6_bestAt_25 : decode cX6_bestAt 25 = .ok (.goto 5, 3) := by decide +kernel
theorem dX6_bestAt_28 : decode cX6_bestAt 28 = .ok (.bipush (-3), 2) := by decide +kernel
theorem dX6_bestAt_30 : decode cX6_bestAt 30 = .ok (.ireturn, 1) := by decide +kernel
theorem dX6_adoptBest_0 : decode cX6_adoptBest 0 = .ok (.aload_n 0, 1) := by decide +kernel
theorem dX6_adoptBest_1 : decode cX6_adoptBest 1 = .ok (.invokevirtual 45, 3) := by decide +kernel
theorem dX6_adoptBest_4 : decode cX6_adoptBest 4 = .ok (.aload_n 0, 1) := by decide +kernel
theorem dX6_adoptBest_5 : decode cX6_adoptBest 5 = .ok (.invokevirtual 108, 3) := by decide +kernel
theorem dX6_adoptBest_8 : decode cX6_adoptBest 8 = .ok (.istore_n 1, 1) := by decide +kernel
theorem dX6_adoptBest_9 : decode cX6_adoptBest 9 = .ok (.iconst 0, 1) := by decide +kernel
theorem dX6_adoptBest_10 : decode cX6_adoptBest 10 = .ok (.istore_n 2, 1) := by decide +kernel
theorem dX6_adoptBest_11 : decode cX6_adoptBest 11 = .ok (.iload_n 2, 1) := by decide +kernel
theorem dX6_adoptBest_12 : decode cX6_adoptBest 12 = .ok (.aload_n 0, 1) := by decide +kernel
theorem dX6_adoptBest_13 : decode cX6_adoptBest 13 = .ok (.getfield 7, 3) := by decide +kernel
theorem dX6_adoptBest_16 : decode cX6_adoptBest 16 = .ok (.bipush 48, 2) := by decide +kernel
theorem dX6_adoptBest_18 : decode cX6_adoptBest 18 = .ok (.iaload, 1) := by decide +kernel
theorem dX6_adoptBest_19 : decode cX6_adoptBest 19 = .ok (.if_icmp .ge 24, 3) := by decide +kernel
theorem dX6_adoptBest_22 : decode cX6_adoptBest 22 = .ok (.aload_n 0, 1) := by decide +kernel
theorem dX6_adoptBest_23 : decode cX6_adoptBest 23 = .ok (.getfield 7, 3) := by decide +kernel
theorem dX6_adoptBest_26 : decode cX6_adoptBest 26 = .ok (.bipush 40, 2) := by decide +kernel
theorem dX6_adoptBest_28 : decode cX6_adoptBest 28 = .ok (.iload_n 2, 1) := by decide +kernel
theorem dX6_adoptBest_29 : decode cX6_adoptBest 29 = .ok (.iadd, 1) := by decide +kernel
theorem dX6_adoptBest_30 : decode cX6_adoptBest 30 = .ok (.aload_n 0, 1) := by decide +kernel
theorem dX6_adoptBest_31 : decode cX6_adoptBest 31 = .ok (.getfield 29, 3) := by decide +kernel
theorem dX6_adoptBest_34 : decode cX6_adoptBest 34 = .ok (.iload_n 2, 1) := by decide +kernel
theorem dX6_adoptBest_35 : decode cX6_adoptBest 35 = .ok (.iaload, 1) := by decide +kernel
theorem dX6_adoptBest_36 : decode cX6_adoptBest 36 = .ok (.iastore, 1) := by decide +kernel
theorem dX6_adoptBest_37 : decode cX6_adoptBest 37 = .ok (.iinc 2 1, 3) := by decide +kernel
theorem dX6_adoptBest_40 : decode cX6_adoptBest 40 = .ok (.goto (-29), 3) := by decide +kernel
theorem dX6_adoptBest_43 : decode cX6_adoptBest 43 = .ok (.iload_n 1, 1) := by decide +kernel
theorem dX6_adoptBest_44 : decode cX6_adoptBest 44 = .ok (.ireturn, 1) := by decide +kernel
theorem dX6_adoptNearest_0 : decode cX6_adoptNearest 0 = .ok (.aload_n 0, 1) := by decide +kernel
theorem dX6_adoptNearest_1 : decode cX6_adoptNearest 1 = .ok (.invokevirtual 45, 3) := by decide +kernel
theorem dX6_adoptNearest_4 : decode cX6_adoptNearest 4 = .ok (.iconst 0, 1) := by decide +kernel
theorem dX6_adoptNearest_5 : decode cX6_adoptNearest 5 = .ok (.istore_n 1, 1) := by decide +kernel
theorem dX6_adoptNearest_6 : decode cX6_adoptNearest 6 = .ok (.iconst (-1), 1) := by decide +kernel
theorem dX6_adoptNearest_7 : decode cX6_adoptNearest 7 = .ok (.istore_n 2, 1) := by decide +kernel
theorem dX6_adoptNearest_8 : decode cX6_adoptNearest 8 = .ok (.iconst 0, 1) := by decide +kernel
theorem dX6_adoptNearest_9 : decode cX6_adoptNearest 9 = .ok (.istore_n 3, 1) := by decide +kernel
theorem dX6_adoptNearest_10 : decode cX6_adoptNearest 10 = .ok (.iconst 0, 1) := by decide +kernel
theorem dX6_adoptNearest_11 : decode cX6_adoptNearest 11 = .ok (.istore 4, 2) := by decide +kernel
theorem dX6_adoptNearest_13 : decode cX6_adoptNearest 13 = .ok (.iload 4, 2) := by decide +kernel
theorem dX6_adoptNearest_15 : decode cX6_adoptNearest 15 = .ok (.aload_n 0, 1) := by decide +kernel
theorem dX6_adoptNearest_16 : decode cX6_adoptNearest 16 = .ok (.getfield 7, 3) := by decide +kernel
theorem dX6_adoptNearest_19 : decode cX6_adoptNearest 19 = .ok (.bipush 48, 2) := by decide +kernel
theorem dX6_adoptNearest_21 : decode cX6_adoptNearest 21 = .ok (.iaload, 1) := by decide +kernel
theorem dX6_adoptNearest_22 : decode cX6_adoptNearest 22 = .ok (.if_icmp .ge 104, 3) := by decide +kernel
theorem dX6_adoptNearest_25 : decode cX6_adoptNearest 25 = .ok (.iconst (-1), 1) := by decide +kernel
theorem dX6_adoptNearest_26 : decode cX6_adoptNearest 26 = .ok (.istore 5, 2) := by decide +kernel
theorem dX6_adoptNearest_28 : decode cX6_adoptNearest 28 = .ok (.ldc 104, 2) := by decide +kernel
theorem dX6_adoptNearest_30 : decode cX6_adoptNearest 30 = .ok (.istore 6, 2) := by decide +kernel
theorem dX6_adoptNearest_32 : decode cX6_adoptNearest 32 = .ok (.iconst 0, 1) := by decide +kernel
theorem dX6_adoptNearest_33 : decode cX6_adoptNearest 33 = .ok (.istore 7, 2) := by decide +kernel
theorem dX6_adoptNearest_35 : decode cX6_adoptNearest 35 = .ok (.iload 7, 2) := by decide +kernel
theorem dX6_adoptNearest_37 : decode cX6_adoptNearest 37 = .ok (.iconst 2, 1) := by decide +kernel
theorem dX6_adoptNearest_38 : decode cX6_adoptNearest 38 = .ok (.aload_n 0, 1) := by decide +kernel
theorem dX6_adoptNearest_39 : decode cX6_adoptNearest 39 = .ok (.getfield 7, 3) := by decide +kernel
theorem dX6_adoptNearest_42 : decode cX6_adoptNearest 42 = .ok (.bipush 48, 2) := by decide +kernel
theorem dX6_adoptNearest_44 : decode cX6_adoptNearest 44 = .ok (.iaload, 1) := by decide +kernel
theorem dX6_adoptNearest_45 : decode cX6_adoptNearest 45 = .ok (.imul, 1) := by decide +kernel
theorem dX6_adoptNearest_46 : decode cX6_adoptNearest 46 = .ok (.if_icmp .ge 45, 3) := by decide +kernel
theorem dX6_adoptNearest_49 : decode cX6_adoptNearest 49 = .ok (.iload_n 1, 1) := by decide +kernel
theorem dX6_adoptNearest_50 : decode cX6_adoptNearest 50 = .ok (.iload 7, 2) := by decide +kernel
theorem dX6_adoptNearest_52 : decode cX6_adoptNearest 52 = .ok (.iconst 2, 1) := by decide +kernel
theorem dX6_adoptNearest_53 : decode cX6_adoptNearest 53 = .ok (.idiv, 1) := by decide +kernel
theorem dX6_adoptNearest_54 : decode cX6_adoptNearest 54 = .ok (.ishr, 1) := by decide +kernel
theorem dX6_adoptNearest_55 : decode cX6_adoptNearest 55 = .ok (.iconst 1, 1) := by decide +kernel
theorem dX6_adoptNearest_56 : decode cX6_adoptNearest 56 = .ok (.iand, 1) := by decide +kernel
theorem dX6_adoptNearest_57 : decode cX6_adoptNearest 57 = .ok (.ifCond .ne 28, 3) := by decide +kernel
theorem dX6_adoptNearest_60 : decode cX6_adoptNearest 60 = .ok (.aload_n 0, 1) := by decide +kernel
theorem dX6_adoptNearest_61 : decode cX6_adoptNearest 61 = .ok (.iload_n 2, 1) := by decide +kernel
theorem dX6_adoptNearest_62 : decode cX6_adoptNearest 62 = .ok (.iload 7, 2) := by decide +kernel
theorem dX6_adoptNearest_64 : decode cX6_adoptNearest 64 = .ok (.invokevirtual 98, 3) := by decide +kernel
theorem dX6_adoptNearest_67 : decode cX6_adoptNearest 67 = .ok (.iload 6, 2) := by decide +kernel
theorem dX6_adoptNearest_69 : decode cX6_adoptNearest 69 = .ok (.if_icmp .ge 16, 3) := by decide +kernel
theorem dX6_adoptNearest_72 : decode cX6_adoptNearest 72 = .ok (.iload 7, 2) := by decide +kernel
theorem dX6_adoptNearest_74 : decode cX6_adoptNearest 74 = .ok (.istore 5, 2) := by decide +kernel
theorem dX6_adoptNearest_76 : decode cX6_adoptNearest 76 = .ok (.aload_n 0, 1) := by decide +kernel
theorem dX6_adoptNearest_77 : decode cX6_adoptNearest 77 = .ok (.iload_n 2, 1) := by decide +kernel
theorem dX6_adoptNearest_78 : decode cX6_adoptNearest 78 = .ok (.iload 7, 2) := by decide +kernel
theorem dX6_adoptNearest_80 : decode cX6_adoptNearest 80 = .ok (.invokevirtual 98, 3) := by decide +kernel
theorem dX6_adoptNearest_83 : decode cX6_adoptNearest 83 = .ok (.istore 6, 2) := by decide +kernel
theorem dX6_adoptNearest_85 : decode cX6_adoptNearest 85 = .ok (.iinc 7 1, 3) := by decide +kernel
theorem dX6_adoptNearest_88 : decode cX6_adoptNearest 88 = .ok (.goto (-53), 3) := by decide +kernel
theorem dX6_adoptNearest_91 : decode cX6_adoptNearest 91 = .ok (.aload_n 0, 1) := by decide +kernel
theorem dX6_adoptNearest_92 : decode cX6_adoptNearest 92 = .ok (.getfield 7, 3) := by decide +kernel
theorem dX6_adoptNearest_95 : decode cX6_adoptNearest 95 = .ok (.bipush 40, 2) := by decide +kernel
theorem dX6_adoptNearest_97 : decode cX6_adoptNearest 97 = .ok (.iload 4, 2) := by decide +kernel
theorem dX6_adoptNearest_99 : decode cX6_adoptNearest 99 = .ok (.iadd, 1) := by decide +kernel
theorem dX6_adoptNearest_100 : decode cX6_adoptNearest 100 = .ok (.iload 5, 2) := by decide +kernel
theorem dX6_adoptNearest_102 : decode cX6_adoptNearest 102 = .ok (.iastore, 1) := by decide +kernel
theorem dX6_adoptNearest_103 : decode cX6_adoptNearest 103 = .ok (.iload_n 1, 1) := by decide +kernel
theorem dX6_adoptNearest_104 : decode cX6_adoptNearest 104 = .ok (.iconst 1, 1) := by decide +kernel
theorem dX6_adoptNearest_105 : decode cX6_adoptNearest 105 = .ok (.iload 5, 2) := by decide +kernel
theorem dX6_adoptNearest_107 : decode cX6_adoptNearest 107 = .ok (.iconst 2, 1) := by decide +kernel
theorem dX6_adoptNearest_108 : decode cX6_adoptNearest 108 = .ok (.idiv, 1) := by decide +kernel
theorem dX6_adoptNearest_109 : decode cX6_adoptNearest 109 = .ok (.ishl, 1) := by decide +kernel
theorem dX6_adoptNearest_110 : decode cX6_adoptNearest 110 = .ok (.ior, 1) := by decide +kernel
theorem dX6_adoptNearest_111 : decode cX6_adoptNearest 111 = .ok (.istore_n 1, 1) := by decide +kernel
theorem dX6_adoptNearest_112 : decode cX6_adoptNearest 112 = .ok (.iload 5, 2) := by decide +kernel
theorem dX6_adoptNearest_114 : decode cX6_adoptNearest 114 = .ok (.istore_n 2, 1) := by decide +kernel
theorem dX6_adoptNearest_115 : decode cX6_adoptNearest 115 = .ok (.iload_n 3, 1) := by decide +kernel
theorem dX6_adoptNearest_116 : decode cX6_adoptNearest 116 = .ok (.iload 6, 2) := by decide +kernel
theorem dX6_adoptNearest_118 : decode cX6_adoptNearest 118 = .ok (.iadd, 1) := by decide +kernel
theorem dX6_adoptNearest_119 : decode cX6_adoptNearest 119 = .ok (.istore_n 3, 1) := by decide +kernel
theorem dX6_adoptNearest_120 : decode cX6_adoptNearest 120 = .ok (.iinc 4 1, 3) := by decide +kernel
theorem dX6_adoptNearest_123 : decode cX6_adoptNearest 123 = .ok (.goto (-110), 3) := by decide +kernel
theorem dX6_adoptNearest_126 : decode cX6_adoptNearest 126 = .ok (.iload_n 3, 1) := by decide +kernel
theorem dX6_adoptNearest_127 : decode cX6_adoptNearest 127 = .ok (.ireturn, 1) := by decide +kernel
theorem dX6_setSquareLimit_0 : decode cX6_setSquareLimit 0 = .ok (.iload_n 1, 1) := by decide +kernel
theorem dX6_setSquareLimit_1 : decode cX6_setSquareLimit 1 = .ok (.iconst 1, 1) := by decide +kernel
theorem dX6_setSquareLimit_2 : decode cX6_setSquareLimit 2 = .ok (.sipush 9999, 3) := by decide +kernel
theorem dX6_setSquareLimit_5 : decode cX6_setSquareLimit 5 = .ok (.invokestatic 38, 3) := by decide +kernel
theorem dX6_setSquareLimit_8 : decode cX6_setSquareLimit 8 = .ok (.ifCond .ne 5, 3) := by decide +kernel
theorem dX6_setSquareLimit_11 : decode cX6_setSquareLimit 11 = .ok (.iconst (-1), 1) := by decide +kernel
theorem dX6_setSquareLimit_12 : decode cX6_setSquareLimit 12 = .ok (.ireturn, 1) := by decide +kernel
theorem dX6_setSquareLimit_13 : decode cX6_setSquareLimit 13 = .ok (.aload_n 0, 1) := by decide +kernel
theorem dX6_setSquareLimit_14 : decode cX6_setSquareLimit 14 = .ok (.getfield 20, 3) := by decide +kernel
theorem dX6_setSquareLimit_17 : decode cX6_setSquareLimit 17 = .ok (.istore_n 2, 1) := by decide +kernel
theorem dX6_setSquareLimit_18 : decode cX6_setSquareLimit 18 = .ok (.aload_n 0, 1) := by decide +kernel
theorem dX6_setSquareLimit_19 : decode cX6_setSquareLimit 19 = .ok (.iload_n 1, 1) := by decide +kernel
theorem dX6_setSquareLimit_20 : decode cX6_setSquareLimit 20 = .ok (.putfield 20, 3) := by decide +kernel
theorem dX6_setSquareLimit_23 : decode cX6_setSquareLimit 23 = .ok (.iload_n 2, 1) := by decide +kernel
theorem dX6_setSquareLimit_24 : decode cX6_setSquareLimit 24 = .ok (.ireturn, 1) := by decide +kernel
theorem dX6_setAcceleration_0 : decode cX6_setAcceleration 0 = .ok (.iload_n 1, 1) := by decide +kernel
theorem dX6_setAcceleration_1 : decode cX6_setAcceleration 1 = .ok (.iconst 1, 1) := by decide +kernel
theorem dX6_setAcceleration_2 : decode cX6_setAcceleration 2 = .ok (.bipush 99, 2) := by decide +kernel
theorem dX6_setAcceleration_4 : decode cX6_setAcceleration 4 = .ok (.invokestatic 38, 3) := by decide +kernel
theorem dX6_setAcceleration_7 : decode cX6_setAcceleration 7 = .ok (.ifCond .ne 5, 3) := by decide +kernel
theorem dX6_setAcceleration_10 : decode cX6_setAcceleration 10 = .ok (.iconst (-1), 1) := by decide +kernel
theorem dX6_setAcceleration_11 : decode cX6_setAcceleration 11 = .ok (.ireturn, 1) := by decide +kernel
theorem dX6_setAcceleration_12 : decode cX6_setAcceleration 12 = .ok (.aload_n 0, 1) := by decide +kernel
theorem dX6_setAcceleration_13 : decode cX6_setAcceleration 13 = .ok (.getfield 23, 3) := by decide +kernel
theorem dX6_setAcceleration_16 : decode cX6_setAcceleration 16 = .ok (.istore_n 2, 1) := by decide +kernel
theorem dX6_setAcceleration_17 : decode cX6_setAcceleration 17 = .ok (.aload_n 0, 1) := by decide +kernel
theorem dX6_setAcceleration_18 : decode cX6_setAcceleration 18 = .ok (.iload_n 1, 1) := by decide +kernel
theorem dX6_setAcceleration_19 : decode cX6_setAcceleration 19 = .ok (.putfield 23, 3) := by decide +kernel
theorem dX6_setAcceleration_22 : decode cX6_setAcceleration 22 = .ok (.iload_n 2, 1) := by decide +kernel
theorem dX6_setAcceleration_23 : decode cX6_setAcceleration 23 = .ok (.ireturn, 1) := by decide +kernel
theorem dX6_dx_0 : decode cX6_dx 0 = .ok (.aload_n 0, 1) := by decide +kernel
theorem dX6_dx_1 : decode cX6_dx 1 = .ok (.getfield 7, 3) := by decide +kernel
theorem dX6_dx_4 : decode cX6_dx 4 = .ok (.aload_n 0, 1) := by decide +kernel
theorem dX6_dx_5 : decode cX6_dx 5 = .ok (.iload_n 1, 1) := by decide +kernel
theorem dX6_dx_6 : decode cX6_dx 6 = .ok (.invokevirtual 86, 3) := by decide +kernel
theorem dX6_dx_9 : decode cX6_dx 9 = .ok (.invokestatic 92, 3) := by decide +kernel
theorem dX6_dx_12 : decode cX6_dx 12 = .ok (.iaload, 1) := by decide +kernel
theorem dX6_dx_13 : decode cX6_dx 13 = .ok (.aload_n 0, 1) := by decide +kernel
theorem dX6_dx_14 : decode cX6_dx 14 = .ok (.getfield 7, 3) := by decide +kernel
theorem dX6_dx_17 : decode cX6_dx 17 = .ok (.aload_n 0, 1) := by decide +kernel
theorem dX6_dx_18 : decode cX6_dx 18 = .ok (.iload_n 1, 1) := by decide +kernel
theorem dX6_dx_19 : decode cX6_dx 19 = .ok (.invokevirtual 86, 3) := by decide +kernel
theorem dX6_dx_22 : decode cX6_dx 22 = .ok (.invokestatic 89, 3) := by decide +kernel
theorem dX6_dx_25 : decode cX6_dx 25 = .ok (.iaload, 1) := by decide +kernel
theorem dX6_dx_26 : decode cX6_dx 26 = .ok (.isub, 1) := by decide +kernel
theorem dX6_dx_27 : decode cX6_dx 27 = .ok (.ireturn, 1) := by decide +kernel
theorem dX6_dy_0 : decode cX6_dy 0 = .ok (.aload_n 0, 1) := by decide +kernel
theorem dX6_dy_1 : decode cX6_dy 1 = .ok (.getfield 7, 3) := by decide +kernel
theorem dX6_dy_4 : decode cX6_dy 4 = .ok (.aload_n 0, 1) := by decide +kernel
theorem dX6_dy_5 : decode cX6_dy 5 = .ok (.iload_n 1, 1) := by decide +kernel
theorem dX6_dy_6 : decode cX6_dy 6 = .ok (.invokevirtual 86, 3) := by decide +kernel
theorem dX6_dy_9 : decode cX6_dy 9 = .ok (.invokestatic 92, 3) := by decide +kernel
theorem dX6_dy_12 : decode cX6_dy 12 = .ok (.iconst 1, 1) := by decide +kernel
theorem dX6_dy_13 : decode cX6_dy 13 = .ok (.iadd, 1) := by decide +kernel
theorem dX6_dy_14 : decode cX6_dy 14 = .ok (.iaload, 1) := by decide +kernel
theorem dX6_dy_15 : decode cX6_dy 15 = .ok (.aload_n 0, 1) := by decide +kernel
theorem dX6_dy_16 : decode cX6_dy 16 = .ok (.getfield 7, 3) := by decide +kernel
theorem dX6_dy_19 : decode cX6_dy 19 = .ok (.aload_n 0, 1) := by decide +kernel
theorem dX6_dy_20 : decode cX6_dy 20 = .ok (.iload_n 1, 1) := by decide +kernel
theorem dX6_dy_21 : decode cX6_dy 21 = .ok (.invokevirtual 86, 3) := by decide +kernel
theorem dX6_dy_24 : decode cX6_dy 24 = .ok (.invokestatic 89, 3) := by decide +kernel
theorem dX6_dy_27 : decode cX6_dy 27 = .ok (.iconst 1, 1) := by decide +kernel
theorem dX6_dy_28 : decode cX6_dy 28 = .ok (.iadd, 1) := by decide +kernel
theorem dX6_dy_29 : decode cX6_dy 29 = .ok (.iaload, 1) := by decide +kernel
theorem dX6_dy_30 : decode cX6_dy 30 = .ok (.isub, 1) := by decide +kernel
theorem dX6_dy_31 : decode cX6_dy 31 = .ok (.ireturn, 1) := by decide +kernel
theorem dX6_corner_0 : decode cX6_corner 0 = .ok (.aload_n 0, 1) := by decide +kernel
theorem dX6_corner_1 : decode cX6_corner 1 = .ok (.iload_n 1, 1) := by decide +kernel
theorem dX6_corner_2 : decode cX6_corner 2 = .ok (.invokevirtual 112, 3) := by decide +kernel
theorem dX6_corner_5 : decode cX6_corner 5 = .ok (.aload_n 0, 1) := by decide +kernel
theorem dX6_corner_6 : decode cX6_corner 6 = .ok (.iload_n 1, 1) := by decide +kernel
theorem dX6_corner_7 : decode cX6_corner 7 = .ok (.iconst 1, 1) := by decide +kernel
theorem dX6_corner_8 : decode cX6_corner 8 = .ok (.iadd, 1) := by decide +kernel
theorem dX6_corner_9 : decode cX6_corner 9 = .ok (.invokevirtual 112, 3) := by decide +kernel
theorem dX6_corner_12 : decode cX6_corner 12 = .ok (.imul, 1) := by decide +kernel
theorem dX6_corner_13 : decode cX6_corner 13 = .ok (.aload_n 0, 1) := by decide +kernel
theorem dX6_corner_14 : decode cX6_corner 14 = .ok (.iload_n 1, 1) := by decide +kernel
theorem dX6_corner_15 : decode cX6_corner 15 = .ok (.invokevirtual 115, 3) := by decide +kernel
theorem dX6_corner_18 : decode cX6_corner 18 = .ok (.aload_n 0, 1) := by decide +kernel
theorem dX6_corner_19 : decode cX6_corner 19 = .ok (.iload_n 1, 1) := by decide +kernel
theorem dX6_corner_20 : decode cX6_corner 20 = .ok (.iconst 1, 1) := by decide +kernel
theorem dX6_corner_21 : decode cX6_corner 21 = .ok (.iadd, 1) := by decide +kernel
theorem dX6_corner_22 : decode cX6_corner 22 = .ok (.invokevirtual 115, 3) := by decide +kernel
theorem dX6_corner_25 : decode cX6_corner 25 = .ok (.imul, 1) := by decide +kernel
theorem dX6_corner_26 : decode cX6_corner 26 = .ok (.iadd, 1) := by decide +kernel
theorem dX6_corner_27 : decode cX6_corner 27 = .ok (.istore_n 2, 1) := by decide +kernel
theorem dX6_corner_28 : decode cX6_corner 28 = .ok (.aload_n 0, 1) := by decide +kernel
theorem dX6_corner_29 : decode cX6_corner 29 = .ok (.iload_n 1, 1) := by decide +kernel
theorem dX6_corner_30 : decode cX6_corner 30 = .ok (.invokevirtual 112, 3) := by decide +kernel
theorem dX6_corner_33 : decode cX6_corner 33 = .ok (.aload_n 0, 1) := by decide +kernel
theorem dX6_corner_34 : decode cX6_corner 34 = .ok (.iload_n 1, 1) := by decide +kernel
theorem dX6_corner_35 : decode cX6_corner 35 = .ok (.iconst 1, 1) := by decide +kernel
theorem dX6_corner_36 : decode cX6_corner 36 = .ok (.iadd, 1) := by decide +kernel
theorem dX6_corner_37 : decode cX6_corner 37 = .ok (.invokevirtual 115, 3) := by decide +kernel
theorem dX6_corner_40 : decode cX6_corner 40 = .ok (.imul, 1) := by decide +kernel
theorem dX6_corner_41 : decode cX6_corner 41 = .ok (.aload_n 0, 1) := by decide +kernel
theorem dX6_corner_42 : decode cX6_corner 42 = .ok (.iload_n 1, 1) := by decide +kernel
theorem dX6_corner_43 : decode cX6_corner 43 = .ok (.invokevirtual 115, 3) := by decide +kernel
theorem dX6_corner_46 : decode cX6_corner 46 = .ok (.aload_n 0, 1) := by decide +kernel
theorem dX6_corner_47 : decode cX6_corner 47 = .ok (.iload_n 1, 1) := by decide +kernel
theorem dX6_corner_48 : decode cX6_corner 48 = .ok (.iconst 1, 1) := by decide +kernel
theorem dX6_corner_49 : decode cX6_corner 49 = .ok (.iadd, 1) := by decide +kernel
theorem dX6_corner_50 : decode cX6_corner 50 = .ok (.invokevirtual 112, 3) := by decide +kernel
theorem dX6_corner_53 : decode cX6_corner 53 = .ok (.imul, 1) := by decide +kernel
theorem dX6_corner_54 : decode cX6_corner 54 = .ok (.isub, 1) := by decide +kernel
theorem dX6_corner_55 : decode cX6_corner 55 = .ok (.istore_n 3, 1) := by decide +kernel
theorem dX6_corner_56 : decode cX6_corner 56 = .ok (.iload_n 2, 1) := by decide +kernel
theorem dX6_corner_57 : decode cX6_corner 57 = .ok (.ifCond .gt 7, 3) := by decide +kernel
theorem dX6_corner_60 : decode cX6_corner 60 = .ok (.iconst 0, 1) := by decide +kernel
theorem dX6_corner_61 : decode cX6_corner 61 = .ok (.goto 20, 3) := by decide +kernel
theorem dX6_corner_64 : decode cX6_corner 64 = .ok (.iload_n 3, 1) := by decide +kernel
theorem dX6_corner_65 : decode cX6_corner 65 = .ok (.ifCond .ne 10, 3) := by decide +kernel
theorem dX6_corner_68 : decode cX6_corner 68 = .ok (.aload_n 0, 1) := by decide +kernel
theorem dX6_corner_69 : decode cX6_corner 69 = .ok (.getfield 20, 3) := by decide +kernel
theorem dX6_corner_72 : decode cX6_corner 72 = .ok (.goto 9, 3) := by decide +kernel
theorem dX6_corner_75 : decode cX6_corner 75 = .ok (.aload_n 0, 1) := by decide +kernel
theorem dX6_corner_76 : decode cX6_corner 76 = .ok (.getfield 20, 3) := by decide +kernel
theorem dX6_corner_79 : decode cX6_corner 79 = .ok (.iconst 4, 1) := by decide +kernel
theorem dX6_corner_80 : decode cX6_corner 80 = .ok (.idiv, 1) := by decide +kernel
theorem dX6_corner_81 : decode cX6_corner 81 = .ok (.ireturn, 1) := by decide +kernel
theorem dX6_cornerLimit_0 : decode cX6_cornerLimit 0 = .ok (.aload_n 0, 1) := by decide +kernel
theorem dX6_cornerLimit_1 : decode cX6_cornerLimit 1 = .ok (.iload_n 1, 1) := by decide +kernel
theorem dX6_cornerLimit_2 : decode cX6_cornerLimit 2 = .ok (.invokevirtual 83, 3) := by decide +kernel
theorem dX6_cornerLimit_5 : decode cX6_cornerLimit 5 = .ok (.ifCond .ne 5, 3) := by decide +kernel
theorem dX6_cornerLimit_8 : decode cX6_cornerLimit 8 = .ok (.iconst (-1), 1) := by decide +kernel
theorem dX6_cornerLimit_9 : decode cX6_cornerLimit 9 = .ok (.ireturn, 1) := by decide +kernel
theorem dX6_cornerLimit_10 : decode cX6_cornerLimit 10 = .ok (.aload_n 0, 1) := by decide +kernel
theorem dX6_cornerLimit_11 : decode cX6_cornerLimit 11 = .ok (.iload_n 1, 1) := by decide +kernel
theorem dX6_cornerLimit_12 : decode cX6_cornerLimit 12 = .ok (.invokevirtual 101, 3) := by decide +kernel
theorem dX6_cornerLimit_15 : decode cX6_cornerLimit 15 = .ok (.ifCond .eq 11, 3) := by decide +kernel
theorem dX6_cornerLimit_18 : decode cX6_cornerLimit 18 = .ok (.aload_n 0, 1) := by decide +kernel
theorem dX6_cornerLimit_19 : decode cX6_cornerLimit 19 = .ok (.iload_n 1, 1) := by decide +kernel
theorem dX6_cornerLimit_20 : decode cX6_cornerLimit 20 = .ok (.invokevirtual 118, 3) := by decide +kernel
theorem dX6_cornerLimit_23 : decode cX6_cornerLimit 23 = .ok (.goto 5, 3) := by decide +kernel
theorem dX6_cornerLimit_26 : decode cX6_cornerLimit 26 = .ok (.bipush (-3), 2) := by decide +kernel
theorem dX6_cornerLimit_28 : decode cX6_cornerLimit 28 = .ok (.ireturn, 1) := by decide +kernel
theorem dX6_gain_0 : decode cX6_gain 0 = .ok (.iconst 2, 1) := by decide +kernel
theorem dX6_gain_1 : decode cX6_gain 1 = .ok (.aload_n 0, 1) := by decide +kernel
theorem dX6_gain_2 : decode cX6_gain 2 = .ok (.getfield 23, 3) := by decide +kernel
theorem dX6_gain_5 : decode cX6_gain 5 = .ok (.imul, 1) := by decide +kernel
theorem dX6_gain_6 : decode cX6_gain 6 = .ok (.aload_n 0, 1) := by decide +kernel
theorem dX6_gain_7 : decode cX6_gain 7 = .ok (.iload_n 1, 1) := by decide +kernel
theorem dX6_gain_8 : decode cX6_gain 8 = .ok (.invokevirtual 112, 3) := by decide +kernel
theorem dX6_gain_11 : decode cX6_gain 11 = .ok (.aload_n 0, 1) := by decide +kernel
theorem dX6_gain_12 : decode cX6_gain 12 = .ok (.iload_n 1, 1) := by decide +kernel
theorem dX6_gain_13 : decode cX6_gain 13 = .ok (.invokevirtual 115, 3) := by decide +kernel
theorem dX6_gain_16 : decode cX6_gain 16 = .ok (.invokestatic 95, 3) := by decide +kernel
theorem dX6_gain_19 : decode cX6_gain 19 = .ok (.imul, 1) := by decide +kernel
theorem dX6_gain_20 : decode cX6_gain 20 = .ok (.ireturn, 1) := by decide +kernel
theorem dX6_before_0 : decode cX6_before 0 = .ok (.aload_n 0, 1) := by decide +kernel
theorem dX6_before_1 : decode cX6_before 1 = .ok (.iload_n 1, 1) := by decide +kernel
theorem dX6_before_2 : decode cX6_before 2 = .ok (.iconst 1, 1) := by decide +kernel
theorem dX6_before_3 : decode cX6_before 3 = .ok (.isub, 1) := by decide +kernel
theorem dX6_before_4 : decode cX6_before 4 = .ok (.invokevirtual 101, 3) := by decide +kernel
theorem dX6_before_7 : decode cX6_before 7 = .ok (.ifCond .eq 14, 3) := by decide +kernel
theorem dX6_before_10 : decode cX6_before 10 = .ok (.aload_n 0, 1) := by decide +kernel
theorem dX6_before_11 : decode cX6_before 11 = .ok (.getfield 35, 3) := by decide +kernel
theorem dX6_before_14 : decode cX6_before 14 = .ok (.iload_n 1, 1) := by decide +kernel
theorem dX6_before_15 : decode cX6_before 15 = .ok (.iconst 1, 1) := by decide +kernel
theorem dX6_before_16 : decode cX6_before 16 = .ok (.isub, 1) := by decide +kernel
theorem dX6_before_17 : decode cX6_before 17 = .ok (.iaload, 1) := by decide +kernel
theorem dX6_before_18 : decode cX6_before 18 = .ok (.goto 4, 3) := by decide +kernel
theorem dX6_before_21 : decode cX6_before 21 = .ok (.iconst 0, 1) := by decide +kernel
theorem dX6_before_22 : decode cX6_before 22 = .ok (.ireturn, 1) := by decide +kernel
theorem dX6_speeds_0 : decode cX6_speeds 0 = .ok (.iconst 0, 1) := by decide +kernel
theorem dX6_speeds_1 : decode cX6_speeds 1 = .ok (.istore_n 1, 1) := by decide +kernel
theorem dX6_speeds_2 : decode cX6_speeds 2 = .ok (.iload_n 1, 1) := by decide +kernel
theorem dX6_speeds_3 : decode cX6_speeds 3 = .ok (.aload_n 0, 1) := by decide +kernel
theorem dX6_speeds_4 : decode cX6_speeds 4 = .ok (.getfield 7, 3) := by decide +kernel
theorem dX6_speeds_7 : decode cX6_speeds 7 = .ok (.bipush 48, 2) := by decide +kernel
theorem dX6_speeds_9 : decode cX6_speeds 9 = .ok (.iaload, 1) := by decide +kernel
theorem dX6_speeds_10 : decode cX6_speeds 10 = .ok (.if_icmp .ge 55, 3) := by decide +kernel
theorem dX6_speeds_13 : decode cX6_speeds 13 = .ok (.aload_n 0, 1) := by decide +kernel
theorem dX6_speeds_14 : decode cX6_speeds 14 = .ok (.iload_n 1, 1) := by decide +kernel
theorem dX6_speeds_15 : decode cX6_speeds 15 = .ok (.invokevirtual 121, 3) := by decide +kernel
theorem dX6_speeds_18 : decode cX6_speeds 18 = .ok (.aload_n 0, 1) := by decide +kernel
theorem dX6_speeds_19 : decode cX6_speeds 19 = .ok (.iload_n 1, 1) := by decide +kernel
theorem dX6_speeds_20 : decode cX6_speeds 20 = .ok (.invokevirtual 124, 3) := by decide +kernel
theorem dX6_speeds_23 : decode cX6_speeds 23 = .ok (.iadd, 1) := by decide +kernel
theorem dX6_speeds_24 : decode cX6_speeds 24 = .ok (.istore_n 2, 1) := by decide +kernel
theorem dX6_speeds_25 : decode cX6_speeds 25 = .ok (.aload_n 0, 1) := by decide +kernel
theorem dX6_speeds_26 : decode cX6_speeds 26 = .ok (.iload_n 1, 1) := by decide +kernel
theorem dX6_speeds_27 : decode cX6_speeds 27 = .ok (.invokevirtual 101, 3) := by decide +kernel
theorem dX6_speeds_30 : decode cX6_speeds 30 = .ok (.ifCond .eq 11, 3) := by decide +kernel
theorem dX6_speeds_33 : decode cX6_speeds 33 = .ok (.aload_n 0, 1) := by decide +kernel
theorem dX6_speeds_34 : decode cX6_speeds 34 = .ok (.iload_n 1, 1) := by decide +kernel
theorem dX6_speeds_35 : decode cX6_speeds 35 = .ok (.invokevirtual 118, 3) := by decide +kernel
theorem dX6_speeds_38 : decode cX6_speeds 38 = .ok (.goto 4, 3) := by decide +kernel
theorem dX6_speeds_41 : decode cX6_speeds 41 = .ok (.iconst 0, 1) := by decide +kernel
theorem dX6_speeds_42 : decode cX6_speeds 42 = .ok (.istore_n 3, 1) := by decide +kernel
theorem dX6_speeds_43 : decode cX6_speeds 43 = .ok (.aload_n 0, 1) := by decide +kernel
theorem dX6_speeds_44 : decode cX6_speeds 44 = .ok (.getfield 35, 3) := by decide +kernel
theorem dX6_speeds_47 : decode cX6_speeds 47 = .ok (.iload_n 1, 1) := by decide +kernel
theorem dX6_speeds_48 : decode cX6_speeds 48 = .ok (.iload_n 2, 1) := by decide +kernel
theorem dX6_speeds_49 : decode cX6_speeds 49 = .ok (.iload_n 3, 1) := by decide +kernel
theorem dX6_speeds_50 : decode cX6_speeds 50 = .ok (.if_icmp .ge 7, 3) := by decide +kernel
theorem dX6_speeds_53 : decode cX6_speeds 53 = .ok (.iload_n 2, 1) := by decide +kernel
theorem dX6_speeds_54 : decode cX6_speeds 54 = .ok (.goto 4, 3) := by decide +kernel
theorem dX6_speeds_57 : decode cX6_speeds 57 = .ok (.iload_n 3, 1) := by decide +kernel
theorem dX6_speeds_58 : decode cX6_speeds 58 = .ok (.iastore, 1) := by decide +kernel
theorem dX6_speeds_59 : decode cX6_speeds 59 = .ok (.iinc 1 1, 3) := by decide +kernel
theorem dX6_speeds_62 : decode cX6_speeds 62 = .ok (.goto (-60), 3) := by decide +kernel
theorem dX6_speeds_65 : decode cX6_speeds 65 = .ok (.aload_n 0, 1) := by decide +kernel
theorem dX6_speeds_66 : decode cX6_speeds 66 = .ok (.getfield 7, 3) := by decide +kernel
theorem dX6_speeds_69 : decode cX6_speeds 69 = .ok (.bipush 48, 2) := by decide +kernel
theorem dX6_speeds_71 : decode cX6_speeds 71 = .ok (.iaload, 1) := by decide +kernel
theorem dX6_speeds_72 : decode cX6_speeds 72 = .ok (.iconst 1, 1) := by decide +kernel
theorem dX6_speeds_73 : decode cX6_speeds 73 = .ok (.isub, 1) := by decide +kernel
theorem dX6_speeds_74 : decode cX6_speeds 74 = .ok (.istore_n 1, 1) := by decide +kernel
theorem dX6_speeds_75 : decode cX6_speeds 75 = .ok (.iload_n 1, 1) := by decide +kernel
theorem dX6_speeds_76 : decode cX6_speeds 76 = .ok (.ifCond .le 53, 3) := by decide +kernel
theorem dX6_speeds_79 : decode cX6_speeds 79 = .ok (.aload_n 0, 1) := by decide +kernel
theorem dX6_speeds_80 : decode cX6_speeds 80 = .ok (.getfield 35, 3) := by decide +kernel
theorem dX6_speeds_83 : decode cX6_speeds 83 = .ok (.iload_n 1, 1) := by decide +kernel
theorem dX6_speeds_84 : decode cX6_speeds 84 = .ok (.iaload, 1) := by decide +kernel
theorem dX6_speeds_85 : decode cX6_speeds 85 = .ok (.aload_n 0, 1) := by decide +kernel
theorem dX6_speeds_86 : decode cX6_speeds 86 = .ok (.iload_n 1, 1) := by decide +kernel
theorem dX6_speeds_87 : decode cX6_speeds 87 = .ok (.invokevirtual 124, 3) := by decide +kernel
theorem dX6_speeds_90 : decode cX6_speeds 90 = .ok (.iadd, 1) := by decide +kernel
theorem dX6_speeds_91 : decode cX6_speeds 91 = .ok (.istore_n 2, 1) := by decide +kernel
theorem dX6_speeds_92 : decode cX6_speeds 92 = .ok (.aload_n 0, 1) := by decide +kernel
theorem dX6_speeds_93 : decode cX6_speeds 93 = .ok (.iload_n 1, 1) := by decide +kernel
theorem dX6_speeds_94 : decode cX6_speeds 94 = .ok (.iconst 1, 1) := by decide +kernel
theorem dX6_speeds_95 : decode cX6_speeds 95 = .ok (.isub, 1) := by decide +kernel
theorem dX6_speeds_96 : decode cX6_speeds 96 = .ok (.invokevirtual 101, 3) := by decide +kernel
theorem dX6_speeds_99 : decode cX6_speeds 99 = .ok (.ifCond .eq 24, 3) := by decide +kernel
theorem dX6_speeds_102 : decode cX6_speeds 102 = .ok (.aload_n 0, 1) := by decide +kernel
theorem dX6_speeds_103 : decode cX6_speeds 103 = .ok (.getfield 35, 3) := by decide +kernel
theorem dX6_speeds_106 : decode cX6_speeds 106 = .ok (.iload_n 1, 1) := by decide +kernel
theorem dX6_speeds_107 : decode cX6_speeds 107 = .ok (.iconst 1, 1) := by decide +kernel
theorem dX6_speeds_108 : decode cX6_speeds 108 = .ok (.isub, 1) := by decide +kernel
theorem dX6_speeds_109 : decode cX6_speeds 109 = .ok (.iaload, 1) := by decide +kernel
theorem dX6_speeds_110 : decode cX6_speeds 110 = .ok (.iload_n 2, 1) := by decide +kernel
theorem dX6_speeds_111 : decode cX6_speeds 111 = .ok (.if_icmp .le 12, 3) := by decide +kernel
theorem dX6_speeds_114 : decode cX6_speeds 114 = .ok (.aload_n 0, 1) := by decide +kernel
theorem dX6_speeds_115 : decode cX6_speeds 115 = .ok (.getfield 35, 3) := by decide +kernel
theorem dX6_speeds_118 : decode cX6_speeds 118 = .ok (.iload_n 1, 1) := by decide +kernel
theorem dX6_speeds_119 : decode cX6_speeds 119 = .ok (.iconst 1, 1) := by decide +kernel
theorem dX6_speeds_120 : decode cX6_speeds 120 = .ok (.isub, 1) := by decide +kernel
theorem dX6_speeds_121 : decode cX6_speeds 121 = .ok (.iload_n 2, 1) := by decide +kernel
theorem dX6_speeds_122 : decode cX6_speeds 122 = .ok (.iastore, 1) := by decide +kernel
theorem dX6_speeds_123 : decode cX6_speeds 123 = .ok (.iinc 1 (-1), 3) := by decide +kernel
theorem dX6_speeds_126 : decode cX6_speeds 126 = .ok (.goto (-51), 3) := by decide +kernel
theorem dX6_speeds_129 : decode cX6_speeds 129 = .ok (.return_, 1) := by decide +kernel
theorem dX6_endSquare_0 : decode cX6_endSquare 0 = .ok (.aload_n 0, 1) := by decide +kernel
theorem dX6_endSquare_1 : decode cX6_endSquare 1 = .ok (.iload_n 1, 1) := by decide +kernel
theorem dX6_endSquare_2 : decode cX6_endSquare 2 = .ok (.invokevirtual 83, 3) := by decide +kernel
theorem dX6_endSquare_5 : decode cX6_endSquare 5 = .ok (.ifCond .ne 5, 3) := by decide +kernel
theorem dX6_endSquare_8 : decode cX6_endSquare 8 = .ok (.iconst (-1), 1) := by decide +kernel
theorem dX6_endSquare_9 : decode cX6_endSquare 9 = .ok (.ireturn, 1) := by decide +kernel
theorem dX6_endSquare_10 : decode cX6_endSquare 10 = .ok (.aload_n 0, 1) := by decide +kernel
theorem dX6_endSquare_11 : decode cX6_endSquare 11 = .ok (.invokevirtual 127, 3) := by decide +kernel
theorem dX6_endSquare_14 : decode cX6_endSquare 14 = .ok (.aload_n 0, 1) := by decide +kernel
theorem dX6_endSquare_15 : decode cX6_endSquare 15 = .ok (.getfield 35, 3) := by decide +kernel
theorem dX6_endSquare_18 : decode cX6_endSquare 18 = .ok (.iload_n 1, 1) := by decide +kernel
theorem dX6_endSquare_19 : decode cX6_endSquare 19 = .ok (.iaload, 1) := by decide +kernel
theorem dX6_endSquare_20 : decode cX6_endSquare 20 = .ok (.ireturn, 1) := by decide +kernel
theorem dX6_peakSquare_0 : decode cX6_peakSquare 0 = .ok (.aload_n 0, 1) := by decide +kernel
theorem dX6_peakSquare_1 : decode cX6_peakSquare 1 = .ok (.iload_n 1, 1) := by decide +kernel
theorem dX6_peakSquare_2 : decode cX6_peakSquare 2 = .ok (.invokevirtual 83, 3) := by decide +kernel
theorem dX6_peakSquare_5 : decode cX6_peakSquare 5 = .ok (.ifCond .ne 5, 3) := by decide +kernel
theorem dX6_peakSquare_8 : decode cX6_peakSquare 8 = .ok (.iconst (-1), 1) := by decide +kernel
theorem dX6_peakSquare_9 : decode cX6_peakSquare 9 = .ok (.ireturn, 1) := by decide +kernel
theorem dX6_peakSquare_10 : decode cX6_peakSquare 10 = .ok (.aload_n 0, 1) := by decide +kernel
theorem dX6_peakSquare_11 : decode cX6_peakSquare 11 = .ok (.invokevirtual 127, 3) := by decide +kernel
theorem dX6_peakSquare_14 : decode cX6_peakSquare 14 = .ok (.aload_n 0, 1) := by decide +kernel
theorem dX6_peakSquare_15 : decode cX6_peakSquare 15 = .ok (.iload_n 1, 1) := by decide +kernel
theorem dX6_peakSquare_16 : decode cX6_peakSquare 16 = .ok (.invokevirtual 121, 3) := by decide +kernel
theorem dX6_peakSquare_19 : decode cX6_peakSquare 19 = .ok (.aload_n 0, 1) := by decide +kernel
theorem dX6_peakSquare_20 : decode cX6_peakSquare 20 = .ok (.getfield 35, 3) := by decide +kernel
theorem dX6_peakSquare_23 : decode cX6_peakSquare 23 = .ok (.iload_n 1, 1) := by decide +kernel
theorem dX6_peakSquare_24 : decode cX6_peakSquare 24 = .ok (.iaload, 1) := by decide +kernel
theorem dX6_peakSquare_25 : decode cX6_peakSquare 25 = .ok (.iadd, 1) := by decide +kernel
theorem dX6_peakSquare_26 : decode cX6_peakSquare 26 = .ok (.aload_n 0, 1) := by decide +kernel
theorem dX6_peakSquare_27 : decode cX6_peakSquare 27 = .ok (.iload_n 1, 1) := by decide +kernel
theorem dX6_peakSquare_28 : decode cX6_peakSquare 28 = .ok (.invokevirtual 124, 3) := by decide +kernel
theorem dX6_peakSquare_31 : decode cX6_peakSquare 31 = .ok (.iadd, 1) := by decide +kernel
theorem dX6_peakSquare_32 : decode cX6_peakSquare 32 = .ok (.iconst 2, 1) := by decide +kernel
theorem dX6_peakSquare_33 : decode cX6_peakSquare 33 = .ok (.idiv, 1) := by decide +kernel
theorem dX6_peakSquare_34 : decode cX6_peakSquare 34 = .ok (.istore_n 2, 1) := by decide +kernel
theorem dX6_peakSquare_35 : decode cX6_peakSquare 35 = .ok (.iload_n 2, 1) := by decide +kernel
theorem dX6_peakSquare_36 : decode cX6_peakSquare 36 = .ok (.aload_n 0, 1) := by decide +kernel
theorem dX6_peakSquare_37 : decode cX6_peakSquare 37 = .ok (.getfield 20, 3) := by decide +kernel
theorem dX6_peakSquare_40 : decode cX6_peakSquare 40 = .ok (.if_icmp .ge 7, 3) := by decide +kernel
theorem dX6_peakSquare_43 : decode cX6_peakSquare 43 = .ok (.iload_n 2, 1) := by decide +kernel
theorem dX6_peakSquare_44 : decode cX6_peakSquare 44 = .ok (.goto 7, 3) := by decide +kernel
theorem dX6_peakSquare_47 : decode cX6_peakSquare 47 = .ok (.aload_n 0, 1) := by decide +kernel
theorem dX6_peakSquare_48 : decode cX6_peakSquare 48 = .ok (.getfield 20, 3) := by decide +kernel
theorem dX6_peakSquare_51 : decode cX6_peakSquare 51 = .ok (.ireturn, 1) := by decide +kernel
