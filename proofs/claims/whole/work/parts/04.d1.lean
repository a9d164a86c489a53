theorem dX1_init_0 : decode cX1_init 0 = .ok (.aload_n 0, 1) := by decide +kernel
theorem dX1_init_1 : decode cX1_init 1 = .ok (.invokespecial 3, 3) := by decide +kernel
theorem dX1_init_4 : decode cX1_init 4 = .ok (.aload_n 0, 1) := by decide +kernel
theorem dX1_init_5 : decode cX1_init 5 = .ok (.bipush 8, 2) := by decide +kernel
theorem dX1_init_7 : decode cX1_init 7 = .ok (.newarray .int, 2) := by decide +kernel
theorem dX1_init_9 : decode cX1_init 9 = .ok (.putfield 9, 3) := by decide +kernel
theorem dX1_init_12 : decode cX1_init 12 = .ok (.aload_n 0, 1) := by decide +kernel
theorem dX1_init_13 : decode cX1_init 13 = .ok (.bipush 16, 2) := by decide +kernel
theorem dX1_init_15 : decode cX1_init 15 = .ok (.newarray .int, 2) := by decide +kernel
theorem dX1_init_17 : decode cX1_init 17 = .ok (.putfield 15, 3) := by decide +kernel
theorem dX1_init_20 : decode cX1_init 20 = .ok (.aload_n 0, 1) := by decide +kernel
theorem dX1_init_21 : decode cX1_init 21 = .ok (.bipush 16, 2) := by decide +kernel
theorem dX1_init_23 : decode cX1_init 23 = .ok (.newarray .int, 2) := by decide +kernel
theorem dX1_init_25 : decode cX1_init 25 = .ok (.putfield 18, 3) := by decide +kernel
theorem dX1_init_28 : decode cX1_init 28 = .ok (.aload_n 0, 1) := by decide +kernel
theorem dX1_init_29 : decode cX1_init 29 = .ok (.bipush 8, 2) := by decide +kernel
theorem dX1_init_31 : decode cX1_init 31 = .ok (.newarray .int, 2) := by decide +kernel
theorem dX1_init_33 : decode cX1_init 33 = .ok (.putfield 21, 3) := by decide +kernel
theorem dX1_init_36 : decode cX1_init 36 = .ok (.return_, 1) := by decide +kernel
theorem dX1_size_0 : decode cX1_size 0 = .ok (.aload_n 0, 1) := by decide +kernel
theorem dX1_size_1 : decode cX1_size 1 = .ok (.getfield 24, 3) := by decide +kernel
theorem dX1_size_4 : decode cX1_size 4 = .ok (.ireturn, 1) := by decide +kernel
theorem dX1_hasStroke_0 : decode cX1_hasStroke 0 = .ok (.iload_n 1, 1) := by decide +kernel
theorem dX1_hasStroke_1 : decode cX1_hasStroke 1 = .ok (.ifCond .lt 15, 3) := by decide +kernel
theorem dX1_hasStroke_4 : decode cX1_hasStroke 4 = .ok (.iload_n 1, 1) := by decide +kernel
theorem dX1_hasStroke_5 : decode cX1_hasStroke 5 = .ok (.aload_n 0, 1) := by decide +kernel
theorem dX1_hasStroke_6 : decode cX1_hasStroke 6 = .ok (.getfield 24, 3) := by decide +kernel
theorem dX1_hasStroke_9 : decode cX1_hasStroke 9 = .ok (.if_icmp .ge 7, 3) := by decide +kernel
theorem dX1_hasStroke_12 : decode cX1_hasStroke 12 = .ok (.iconst 1, 1) := by decide +kernel
theorem dX1_hasStroke_13 : decode cX1_hasStroke 13 = .ok (.goto 4, 3) := by decide +kernel
theorem dX1_hasStroke_16 : decode cX1_hasStroke 16 = .ok (.iconst 0, 1) := by decide +kernel
theorem dX1_hasStroke_17 : decode cX1_hasStroke 17 = .ok (.ireturn, 1) := by decide +kernel
theorem dX1_hasPosition_0 : decode cX1_hasPosition 0 = .ok (.iload_n 1, 1) := by decide +kernel
theorem dX1_hasPosition_1 : decode cX1_hasPosition 1 = .ok (.ifCond .lt 15, 3) := by decide +kernel
theorem dX1_hasPosition_4 : decode cX1_hasPosition 4 = .ok (.iload_n 1, 1) := by decide +kernel
theorem dX1_hasPosition_5 : decode cX1_hasPosition 5 = .ok (.aload_n 0, 1) := by decide +kernel
theorem dX1_hasPosition_6 : decode cX1_hasPosition 6 = .ok (.getfield 24, 3) := by decide +kernel
theorem dX1_hasPosition_9 : decode cX1_hasPosition 9 = .ok (.if_icmp .ge 7, 3) := by decide +kernel
theorem dX1_hasPosition_12 : decode cX1_hasPosition 12 = .ok (.iconst 1, 1) := by decide +kernel
theorem dX1_hasPosition_13 : decode cX1_hasPosition 13 = .ok (.goto 4, 3) := by decide +kernel
theorem dX1_hasPosition_16 : decode cX1_hasPosition 16 = .ok (.iconst 0, 1) := by decide +kernel
theorem dX1_hasPosition_17 : decode cX1_hasPosition 17 = .ok (.ireturn, 1) := by decide +kernel
theorem dX1_penOfStroke_0 : decode cX1_penOfStroke 0 = .ok (.aload_n 0, 1) := by decide +kernel
theorem dX1_penOfStroke_1 : decode cX1_penOfStroke 1 = .ok (.iload_n 1, 1) := by decide +kernel
theorem dX1_penOfStroke_2 : decode cX1_penOfStroke 2 = .ok (.invokevirtual 28, 3) := by decide +kernel
theorem dX1_penOfStroke_5 : decode cX1_penOfStroke 5 = .ok (.ifCond .eq 12, 3) := by decide +kernel
theorem dX1_penOfStroke_8 : decode cX1_penOfStroke 8 = .ok (.aload_n 0, 1) := by decide +kernel
theorem dX1_penOfStroke_9 : decode cX1_penOfStroke 9 = .ok (.getfield 9, 3) := by decide +kernel
theorem dX1_penOfStroke_12 : decode cX1_penOfStroke 12 = .ok (.iload_n 1, 1) := by decide +kernel
theorem dX1_penOfStroke_13 : decode cX1_penOfStroke 13 = .ok (.iaload, 1) := by decide +kernel
theorem dX1_penOfStroke_14 : decode cX1_penOfStroke 14 = .ok (.goto 4, 3) := by decide +kernel
theorem dX1_penOfStroke_17 : decode cX1_penOfStroke 17 = .ok (.iconst (-1), 1) := by decide +kernel
theorem dX1_penOfStroke_18 : decode cX1_penOfStroke 18 = .ok (.ireturn, 1) := by decide +kernel
theorem dX1_codeAt_0 : decode cX1_codeAt 0 = .ok (.aload_n 0, 1) := by decide +kernel
theorem dX1_codeAt_1 : decode cX1_codeAt 1 = .ok (.iload_n 1, 1) := by decide +kernel
theorem dX1_codeAt_2 : decode cX1_codeAt 2 = .ok (.invokevirtual 32, 3) := by decide +kernel
theorem dX1_codeAt_5 : decode cX1_codeAt 5 = .ok (.ifCond .eq 12, 3) := by decide +kernel
theorem dX1_codeAt_8 : decode cX1_codeAt 8 = .ok (.aload_n 0, 1) := by decide +kernel
theorem dX1_codeAt_9 : decode cX1_codeAt 9 = .ok (.getfield 21, 3) := by decide +kernel
theorem dX1_codeAt_12 : decode cX1_codeAt 12 = .ok (.iload_n 1, 1) := by decide +kernel
theorem dX1_codeAt_13 : decode cX1_codeAt 13 = .ok (.iaload, 1) := by decide +kernel
theorem dX1_codeAt_14 : decode cX1_codeAt 14 = .ok (.goto 4, 3) := by decide +kernel
theorem dX1_codeAt_17 : decode cX1_codeAt 17 = .ok (.iconst (-1), 1) := by decide +kernel
theorem dX1_codeAt_18 : decode cX1_codeAt 18 = .ok (.ireturn, 1) := by decide +kernel
theorem dX1_setCode_0 : decode cX1_setCode 0 = .ok (.aload_n 0, 1) := by decide +kernel
theorem dX1_setCode_1 : decode cX1_setCode 1 = .ok (.iload_n 1, 1) := by decide +kernel
theorem dX1_setCode_2 : decode cX1_setCode 2 = .ok (.invokevirtual 32, 3) := by decide +kernel
theorem dX1_setCode_5 : decode cX1_setCode 5 = .ok (.ifCond .eq 18, 3) := by decide +kernel
theorem dX1_setCode_8 : decode cX1_setCode 8 = .ok (.aload_n 0, 1) := by decide +kernel
theorem dX1_setCode_9 : decode cX1_setCode 9 = .ok (.iload_n 2, 1) := by decide +kernel
theorem dX1_setCode_10 : decode cX1_setCode 10 = .ok (.invokevirtual 35, 3) := by decide +kernel
theorem dX1_setCode_13 : decode cX1_setCode 13 = .ok (.ifCond .eq 10, 3) := by decide +kernel
theorem dX1_setCode_16 : decode cX1_setCode 16 = .ok (.aload_n 0, 1) := by decide +kernel
theorem dX1_setCode_17 : decode cX1_setCode 17 = .ok (.getfield 21, 3) := by decide +kernel
theorem dX1_setCode_20 : decode cX1_setCode 20 = .ok (.iload_n 1, 1) := by decide +kernel
theorem dX1_setCode_21 : decode cX1_setCode 21 = .ok (.iload_n 2, 1) := by decide +kernel
theorem dX1_setCode_22 : decode cX1_setCode 22 = .ok (.iastore, 1) := by decide +kernel
theorem dX1_setCode_23 : decode cX1_setCode 23 = .ok (.return_, 1) := by decide +kernel
theorem dX1_copyFrom_0 : decode cX1_copyFrom 0 = .ok (.aload_n 0, 1) := by decide +kernel
theorem dX1_copyFrom_1 : decode cX1_copyFrom 1 = .ok (.aload_n 1, 1) := by decide +kernel
theorem dX1_copyFrom_2 : decode cX1_copyFrom 2 = .ok (.getfield 24, 3) := by decide +kernel
theorem dX1_copyFrom_5 : decode cX1_copyFrom 5 = .ok (.putfield 24, 3) := by decide +kernel
theorem dX1_copyFrom_8 : decode cX1_copyFrom 8 = .ok (.aload_n 1, 1) := by decide +kernel
theorem dX1_copyFrom_9 : decode cX1_copyFrom 9 = .ok (.getfield 9, 3) := by decide +kernel
theorem dX1_copyFrom_12 : decode cX1_copyFrom 12 = .ok (.iconst 0, 1) := by decide +kernel
theorem dX1_copyFrom_13 : decode cX1_copyFrom 13 = .ok (.aload_n 0, 1) := by decide +kernel
theorem dX1_copyFrom_14 : decode cX1_copyFrom 14 = .ok (.getfield 9, 3) := by decide +kernel
theorem dX1_copyFrom_17 : decode cX1_copyFrom 17 = .ok (.iconst 0, 1) := by decide +kernel
theorem dX1_copyFrom_18 : decode cX1_copyFrom 18 = .ok (.bipush 8, 2) := by decide +kernel
theorem dX1_copyFrom_20 : decode cX1_copyFrom 20 = .ok (.invokestatic 38, 3) := by decide +kernel
theorem dX1_copyFrom_23 : decode cX1_copyFrom 23 = .ok (.aload_n 1, 1) := by decide +kernel
theorem dX1_copyFrom_24 : decode cX1_copyFrom 24 = .ok (.getfield 15, 3) := by decide +kernel
theorem dX1_copyFrom_27 : decode cX1_copyFrom 27 = .ok (.iconst 0, 1) := by decide +kernel
theorem dX1_copyFrom_28 : decode cX1_copyFrom 28 = .ok (.aload_n 0, 1) := by decide +kernel
theorem dX1_copyFrom_29 : decode cX1_copyFrom 29 = .ok (.getfield 15, 3) := by decide +kernel
theorem dX1_copyFrom_32 : decode cX1_copyFrom 32 = .ok (.iconst 0, 1) := by decide +kernel
theorem dX1_copyFrom_33 : decode cX1_copyFrom 33 = .ok (.bipush 16, 2) := by decide +kernel
theorem dX1_copyFrom_35 : decode cX1_copyFrom 35 = .ok (.invokestatic 38, 3) := by decide +kernel
theorem dX1_copyFrom_38 : decode cX1_copyFrom 38 = .ok (.aload_n 1, 1) := by decide +kernel
theorem dX1_copyFrom_39 : decode cX1_copyFrom 39 = .ok (.getfield 18, 3) := by decide +kernel
theorem dX1_copyFrom_42 : decode cX1_copyFrom 42 = .ok (.iconst 0, 1) := by decide +kernel
theorem dX1_copyFrom_43 : decode cX1_copyFrom 43 = .ok (.aload_n 0, 1) := by decide +kernel
theorem dX1_copyFrom_44 : decode cX1_copyFrom 44 = .ok (.getfield 18, 3) := by decide +kernel
theorem dX1_copyFrom_47 : decode cX1_copyFrom 47 = .ok (.iconst 0, 1) := by decide +kernel
theorem dX1_copyFrom_48 : decode cX1_copyFrom 48 = .ok (.bipush 16, 2) := by decide +kernel
theorem dX1_copyFrom_50 : decode cX1_copyFrom 50 = .ok (.invokestatic 38, 3) := by decide +kernel
theorem dX1_copyFrom_53 : decode cX1_copyFrom 53 = .ok (.aload_n 1, 1) := by decide +kernel
theorem dX1_copyFrom_54 : decode cX1_copyFrom 54 = .ok (.getfield 21, 3) := by decide +kernel
theorem dX1_copyFrom_57 : decode cX1_copyFrom 57 = .ok (.iconst 0, 1) := by decide +kernel
theorem dX1_copyFrom_58 : decode cX1_copyFrom 58 = .ok (.aload_n 0, 1) := by decide +kernel
theorem dX1_copyFrom_59 : decode cX1_copyFrom 59 = .ok (.getfield 21, 3) := by decide +kernel
theorem dX1_copyFrom_62 : decode cX1_copyFrom 62 = .ok (.iconst 0, 1) := by decide +kernel
theorem dX1_copyFrom_63 : decode cX1_copyFrom 63 = .ok (.bipush 8, 2) := by decide +kernel
theorem dX1_copyFrom_65 : decode cX1_copyFrom 65 = .ok (.invokestatic 38, 3) := by decide +kernel
theorem dX1_copyFrom_68 : decode cX1_copyFrom 68 = .ok (.return_, 1) := by decide +kernel
theorem dX1_append_0 : decode cX1_append 0 = .ok (.aload_n 0, 1) := by decide +kernel
theorem dX1_append_1 : decode cX1_append 1 = .ok (.getfield 24, 3) := by decide +kernel
theorem dX1_append_4 : decode cX1_append 4 = .ok (.ifCond .lt 12, 3) := by decide +kernel
theorem dX1_append_7 : decode cX1_append 7 = .ok (.aload_n 0, 1) := by decide +kernel
theorem dX1_append_8 : decode cX1_append 8 = .ok (.getfield 24, 3) := by decide +kernel
theorem dX1_append_11 : decode cX1_append 11 = .ok (.bipush 8, 2) := by decide +kernel
theorem dX1_append_13 : decode cX1_append 13 = .ok (.if_icmp .lt 6, 3) := by decide +kernel
theorem dX1_append_16 : decode cX1_append 16 = .ok (.bipush (-2), 2) := by decide +kernel
theorem dX1_append_18 : decode cX1_append 18 = .ok (.ireturn, 1) := by decide +kernel
theorem dX1_append_19 : decode cX1_append 19 = .ok (.aload_n 0, 1) := by decide +kernel
theorem dX1_append_20 : decode cX1_append 20 = .ok (.getfield 24, 3) := by decide +kernel
theorem dX1_append_23 : decode cX1_append 23 = .ok (.istore 6, 2) := by decide +kernel
theorem dX1_append_25 : decode cX1_append 25 = .ok (.aload_n 0, 1) := by decide +kernel
theorem dX1_append_26 : decode cX1_append 26 = .ok (.getfield 9, 3) := by decide +kernel
theorem dX1_append_29 : decode cX1_append 29 = .ok (.iload 6, 2) := by decide +kernel
theorem dX1_append_31 : decode cX1_append 31 = .ok (.iload 5, 2) := by decide +kernel
theorem dX1_append_33 : decode cX1_append 33 = .ok (.iastore, 1) := by decide +kernel
theorem dX1_append_34 : decode cX1_append 34 = .ok (.aload_n 0, 1) := by decide +kernel
theorem dX1_append_35 : decode cX1_append 35 = .ok (.getfield 15, 3) := by decide +kernel
theorem dX1_append_38 : decode cX1_append 38 = .ok (.iconst 2, 1) := by decide +kernel
theorem dX1_append_39 : decode cX1_append 39 = .ok (.iload 6, 2) := by decide +kernel
theorem dX1_append_41 : decode cX1_append 41 = .ok (.imul, 1) := by decide +kernel
theorem dX1_append_42 : decode cX1_append 42 = .ok (.iload_n 1, 1) := by decide +kernel
theorem dX1_append_43 : decode cX1_append 43 = .ok (.iastore, 1) := by decide +kernel
theorem dX1_append_44 : decode cX1_append 44 = .ok (.aload_n 0, 1) := by decide +kernel
theorem dX1_append_45 : decode cX1_append 45 = .ok (.getfield 18, 3) := by decide +kernel
theorem dX1_append_48 : decode cX1_append 48 = .ok (.iconst 2, 1) := by decide +kernel
theorem dX1_append_49 : decode cX1_append 49 = .ok (.iload 6, 2) := by decide +kernel
theorem dX1_append_51 : decode cX1_append 51 = .ok (.imul, 1) := by decide +kernel
theorem dX1_append_52 : decode cX1_append 52 = .ok (.iload_n 2, 1) := by decide +kernel
theorem dX1_append_53 : decode cX1_append 53 = .ok (.iastore, 1) := by decide +kernel
theorem dX1_append_54 : decode cX1_append 54 = .ok (.aload_n 0, 1) := by decide +kernel
theorem dX1_append_55 : decode cX1_append 55 = .ok (.getfield 15, 3) := by decide +kernel
theorem dX1_append_58 : decode cX1_append 58 = .ok (.iconst 2, 1) := by decide +kernel
theorem dX1_append_59 : decode cX1_append 59 = .ok (.iload 6, 2) := by decide +kernel
theorem dX1_append_61 : decode cX1_append 61 = .ok (.imul, 1) := by decide +kernel
theorem dX1_append_62 : decode cX1_append 62 = .ok (.iconst 1, 1) := by decide +kernel
theorem dX1_append_63 : decode cX1_append 63 = .ok (.iadd, 1) := by decide +kernel
theorem dX1_append_64 : decode cX1_append 64 = .ok (.iload_n 3, 1) := by decide +kernel
theorem dX1_append_65 : decode cX1_append 65 = .ok (.iastore, 1) := by decide +kernel
theorem dX1_append_66 : decode cX1_append 66 = .ok (.aload_n 0, 1) := by decide +kernel
theorem dX1_append_67 : decode cX1_append 67 = .ok (.getfield 18, 3) := by decide +kernel
theorem dX1_append_70 : decode cX1_append 70 = .ok (.iconst 2, 1) := by decide +kernel
theorem dX1_append_71 : decode cX1_append 71 = .ok (.iload 6, 2) := by decide +kernel
theorem dX1_append_73 : decode cX1_append 73 = .ok (.imul, 1) := by decide +kernel
theorem dX1_append_74 : decode cX1_append 74 = .ok (.iconst 1, 1) := by decide +kernel
theorem dX1_append_75 : decode cX1_append 75 = .ok (.iadd, 1) := by decide +kernel
theorem dX1_append_76 : decode cX1_append 76 = .ok (.iload 4, 2) := by decide +kernel
theorem dX1_append_78 : decode cX1_append 78 = .ok (.iastore, 1) := by decide +kernel
theorem dX1_append_79 : decode cX1_append 79 = .ok (.aload_n 0, 1) := by decide +kernel
theorem dX1_append_80 : decode cX1_append 80 = .ok (.getfield 21, 3) := by decide +kernel
theorem dX1_append_83 : decode cX1_append 83 = .ok (.iload 6, 2) := by decide +kernel
theorem dX1_append_85 : decode cX1_append 85 = .ok (.iconst 2, 1) := by decide +kernel
theorem dX1_append_86 : decode cX1_append 86 = .ok (.iload 6, 2) := by decide +kernel
theorem dX1_append_88 : decode cX1_append 88 = .ok (.imul, 1) := by decide +kernel
theorem dX1_append_89 : decode cX1_append 89 = .ok (.iastore, 1) := by decide +kernel
theorem dX1_append_90 : decode cX1_append 90 = .ok (.aload_n 0, 1) := by decide +kernel
theorem dX1_append_91 : decode cX1_append 91 = .ok (.dup, 1) := by decide +kernel
theorem dX1_append_92 : decode cX1_append 92 = .ok (.getfield 24, 3) := by decide +kernel
theorem dX1_append_95 : decode cX1_append 95 = .ok (.iconst 1, 1) := by decide +kernel
theorem dX1_append_96 : decode cX1_append 96 = .ok (.iadd, 1) := by decide +kernel
theorem dX1_append_97 : decode cX1_append 97 = .ok (.putfield 24, 3) := by decide +kernel
theorem dX1_append_100 : decode cX1_append 100 = .ok (.iload 6, 2) := by decide +kernel
theorem dX1_append_102 : decode cX1_append 102 = .ok (.ireturn, 1) := by decide +kernel
theorem dX1_drop_0 : decode cX1_drop 0 = .ok (.aload_n 0, 1) := by decide +kernel
theorem dX1_drop_1 : decode cX1_drop 1 = .ok (.iload_n 1, 1) := by decide +kernel
theorem dX1_drop_2 : decode cX1_drop 2 = .ok (.invokevirtual 28, 3) := by decide +kernel
theorem dX1_drop_5 : decode cX1_drop 5 = .ok (.ifCond .ne 4, 3) := by decide +kernel
theorem dX1_drop_8 : decode cX1_drop 8 = .ok (.return_, 1) := by decide +kernel
theorem dX1_drop_9 : decode cX1_drop 9 = .ok (.aload_n 0, 1) := by decide +kernel
theorem dX1_drop_10 : decode cX1_drop 10 = .ok (.iload_n 1, 1) := by decide +kernel
theorem dX1_drop_11 : decode cX1_drop 11 = .ok (.invokevirtual 44, 3) := by decide +kernel
theorem dX1_drop_14 : decode cX1_drop 14 = .ok (.iload_n 1, 1) := by decide +kernel
theorem dX1_drop_15 : decode cX1_drop 15 = .ok (.iconst 1, 1) := by decide +kernel
theorem dX1_drop_16 : decode cX1_drop 16 = .ok (.iadd, 1) := by decide +kernel
theorem dX1_drop_17 : decode cX1_drop 17 = .ok (.istore_n 2, 1) := by decide +kernel
theorem dX1_drop_18 : decode cX1_drop 18 = .ok (.iload_n 2, 1) := by decide +kernel
theorem dX1_drop_19 : decode cX1_drop 19 = .ok (.aload_n 0, 1) := by decide +kernel
theorem dX1_drop_20 : decode cX1_drop 20 = .ok (.getfield 24, 3) := by decide +kernel
theorem dX1_drop_23 : decode cX1_drop 23 = .ok (.if_icmp .ge 23, 3) := by decide +kernel
theorem dX1_drop_26 : decode cX1_drop 26 = .ok (.aload_n 0, 1) := by decide +kernel
theorem dX1_drop_27 : decode cX1_drop 27 = .ok (.getfield 9, 3) := by decide +kernel
theorem dX1_drop_30 : decode cX1_drop 30 = .ok (.iload_n 2, 1) := by decide +kernel
theorem dX1_drop_31 : decode cX1_drop 31 = .ok (.iconst 1, 1) := by decide +kernel
theorem dX1_drop_32 : decode cX1_drop 32 = .ok (.isub, 1) := by decide +kernel
theorem dX1_drop_33 : decode cX1_drop 33 = .ok (.aload_n 0, 1) := by decide +kernel
theorem dX1_drop_34 : decode cX1_drop 34 = .ok (.getfield 9, 3) := by decide +kernel
theorem dX1_drop_37 : decode cX1_drop 37 = .ok (.iload_n 2, 1) := by decide +kernel
theorem dX1_drop_38 : decode cX1_drop 38 = .ok (.iaload, 1) := by decide +kernel
theorem dX1_drop_39 : decode cX1_drop 39 = .ok (.iastore, 1) := by decide +kernel
theorem dX1_drop_40 : decode cX1_drop 40 = .ok (.iinc 2 1, 3) := by decide +kernel
theorem dX1_drop_43 : decode cX1_drop 43 = .ok (.goto (-25), 3) := by decide +kernel
theorem dX1_drop_46 : decode cX1_drop 46 = .ok (.iconst 2, 1) := by decide +kernel
theorem dX1_drop_47 : decode cX1_drop 47 = .ok (.iload_n 1, 1) := by decide +kernel
theorem dX1_drop_48 : decode cX1_drop 48 = .ok (.imul, 1) := by decide +kernel
theorem dX1_drop_49 : decode cX1_drop 49 = .ok (.iconst 2, 1) := by decide +kernel
theorem dX1_drop_50 : decode cX1_drop 50 = .ok (.iadd, 1) := by decide +kernel
theorem dX1_drop_51 : decode cX1_drop 51 = .ok (.istore_n 2, 1) := by decide +kernel
theorem dX1_drop_52 : decode cX1_drop 52 = .ok (.iload_n 2, 1) := by decide +kernel
theorem dX1_drop_53 : decode cX1_drop 53 = .ok (.iconst 2, 1) := by decide +kernel
theorem dX1_drop_54 : decode cX1_drop 54 = .ok (.aload_n 0, 1) := by decide +kernel
theorem dX1_drop_55 : decode cX1_drop 55 = .ok (.getfield 24, 3) := by decide +kernel
theorem dX1_drop_58 : decode cX1_drop 58 = .ok (.imul, 1) := by decide +kernel
theorem dX1_drop_59 : decode cX1_drop 59 = .ok (.if_icmp .ge 37, 3) := by decide +kernel
theorem dX1_drop_62 : decode cX1_drop 62 = .ok (.aload_n 0, 1) := by decide +kernel
theorem dX1_drop_63 : decode cX1_drop 63 = .ok (.getfield 15, 3) := by decide +kernel
theorem dX1_drop_66 : decode cX1_drop 66 = .ok (.iload_n 2, 1) := by decide +kernel
theorem dX1_drop_67 : decode cX1_drop 67 = .ok (.iconst 2, 1) := by decide +kernel
theorem dX1_drop_68 : decode cX1_drop 68 = .ok (.isub, 1) := by decide +kernel
theorem dX1_drop_69 : decode cX1_drop 69 = .ok (.aload_n 0, 1) := by decide +kernel
theorem dX1_drop_70 : decode cX1_drop 70 = .ok (.getfield 15, 3) := by decide +kernel
theorem dX1_drop_73 : decode cX1_drop 73 = .ok (.iload_n 2, 1) := by decide +kernel
theorem dX1_drop_74 : decode cX1_drop 74 = .ok (.iaload, 1) := by decide +kernel
theorem dX1_drop_75 : decode cX1_drop 75 = .ok (.iastore, 1) := by decide +kernel
theorem dX1_drop_76 : decode cX1_drop 76 = .ok (.aload_n 0, 1) := by decide +kernel
theorem dX1_drop_77 : decode cX1_drop 77 = .ok (.getfield 18, 3) := by decide +kernel
theorem dX1_drop_80 : decode cX1_drop 80 = .ok (.iload_n 2, 1) := by decide +kernel
theorem dX1_drop_81 : decode cX1_drop 81 = .ok (.iconst 2, 1) := by decide +kernel
theorem dX1_drop_82 : decode cX1_drop 82 = .ok (.isub, 1) := by decide +kernel
theorem dX1_drop_83 : decode cX1_drop 83 = .ok (.aload_n 0, 1) := by decide +kernel
theorem dX1_drop_84 : decode cX1_drop 84 = .ok (.getfield 18, 3) := by decide +kernel
theorem dX1_drop_87 : decode cX1_drop 87 = .ok (.iload_n 2, 1) := by decide +kernel
theorem dX1_drop_88 : decode cX1_drop 88 = .ok (.iaload, 1) := by decide +kernel
theorem dX1_drop_89 : decode cX1_drop 89 = .ok (.iastore, 1) := by decide +kernel
theorem dX1_drop_90 : decode cX1_drop 90 = .ok (.iinc 2 1, 3) := by decide +kernel
theorem dX1_drop_93 : decode cX1_drop 93 = .ok (.goto (-41), 3) := by decide +kernel
theorem dX1_drop_96 : decode cX1_drop 96 = .ok (.aload_n 0, 1) := by decide +kernel
theorem dX1_drop_97 : decode cX1_drop 97 = .ok (.dup, 1) := by decide +kernel
theorem dX1_drop_98 : decode cX1_drop 98 = .ok (.getfield 24, 3) := by decide +kernel
theorem dX1_drop_101 : decode cX1_drop 101 = .ok (.iconst 1, 1) := by decide +kernel
theorem dX1_drop_102 : decode cX1_drop 102 = .ok (.isub, 1) := by decide +kernel
theorem dX1_drop_103 : decode cX1_drop 103 = .ok (.putfield 24, 3) := by decide +kernel
theorem dX1_drop_106 : decode cX1_drop 106 = .ok (.return_, 1) := by decide +kernel
theorem dX1_dropFromPlan_0 : decode cX1_dropFromPlan 0 = .ok (.iconst 0, 1) := by decide +kernel
theorem dX1_dropFromPlan_1 : decode cX1_dropFromPlan 1 = .ok (.istore_n 2, 1) := by decide +kernel
theorem dX1_dropFromPlan_2 : decode cX1_dropFromPlan 2 = .ok (.iconst 0, 1) := by decide +kernel
theorem dX1_dropFromPlan_3 : decode cX1_dropFromPlan 3 = .ok (.istore_n 3, 1) := by decide +kernel
theorem dX1_dropFromPlan_4 : decode cX1_dropFromPlan 4 = .ok (.iload_n 3, 1) := by decide +kernel
theorem dX1_dropFromPlan_5 : decode cX1_dropFromPlan 5 = .ok (.aload_n 0, 1) := by decide +kernel
theorem dX1_dropFromPlan_6 : decode cX1_dropFromPlan 6 = .ok (.getfield 24, 3) := by decide +kernel
theorem dX1_dropFromPlan_9 : decode cX1_dropFromPlan 9 = .ok (.if_icmp .ge 51, 3) := by decide +kernel
theorem dX1_dropFromPlan_12 : decode cX1_dropFromPlan 12 = .ok (.aload_n 0, 1) := by decide +kernel
theorem dX1_dropFromPlan_13 : decode cX1_dropFromPlan 13 = .ok (.getfield 21, 3) := by decide +kernel
theorem dX1_dropFromPlan_16 : decode cX1_dropFromPlan 16 = .ok (.iload_n 3, 1) := by decide +kernel
theorem dX1_dropFromPlan_17 : decode cX1_dropFromPlan 17 = .ok (.iaload, 1) := by decide +kernel
theorem dX1_dropFromPlan_18 : decode cX1_dropFromPlan 18 = .ok (.istore 4, 2) := by decide +kernel
theorem dX1_dropFromPlan_20 : decode cX1_dropFromPlan 20 = .ok (.iload 4, 2) := by decide +kernel
theorem dX1_dropFromPlan_22 : decode cX1_dropFromPlan 22 = .ok (.iconst 2, 1) := by decide +kernel
theorem dX1_dropFromPlan_23 : decode cX1_dropFromPlan 23 = .ok (.idiv, 1) := by decide +kernel
theorem dX1_dropFromPlan_24 : decode cX1_dropFromPlan 24 = .ok (.iload_n 1, 1) := by decide +kernel
theorem dX1_dropFromPlan_25 : decode cX1_dropFromPlan 25 = .ok (.if_icmp .eq 29, 3) := by decide +kernel
theorem dX1_dropFromPlan_28 : decode cX1_dropFromPlan 28 = .ok (.aload_n 0, 1) := by decide +kernel
theorem dX1_dropFromPlan_29 : decode cX1_dropFromPlan 29 = .ok (.getfield 21, 3) := by decide +kernel
theorem dX1_dropFromPlan_32 : decode cX1_dropFromPlan 32 = .ok (.iload_n 2, 1) := by decide +kernel
theorem dX1_dropFromPlan_33 : decode cX1_dropFromPlan 33 = .ok (.iload 4, 2) := by decide +kernel
theorem dX1_dropFromPlan_35 : decode cX1_dropFromPlan 35 = .ok (.iconst 2, 1) := by decide +kernel
theorem dX1_dropFromPlan_36 : decode cX1_dropFromPlan 36 = .ok (.idiv, 1) := by decide +kernel
theorem dX1_dropFromPlan_37 : decode cX1_dropFromPlan 37 = .ok (.iload_n 1, 1) := by decide +kernel
theorem dX1_dropFromPlan_38 : decode cX1_dropFromPlan 38 = .ok (.if_icmp .le 10, 3) := by decide +kernel
theorem dX1_dropFromPlan_41 : decode cX1_dropFromPlan 41 = .ok (.iload 4, 2) := by decide +kernel
theorem dX1_dropFromPlan_43 : decode cX1_dropFromPlan 43 = .ok (.iconst 2, 1) := by decide +kernel
theorem dX1_dropFromPlan_44 : decode cX1_dropFromPlan 44 = .ok (.isub, 1) := by decide +kernel
theorem dX1_dropFromPlan_45 : decode cX1_dropFromPlan 45 = .ok (.goto 5, 3) := by decide +kernel
theorem dX1_dropFromPlan_48 : decode cX1_dropFromPlan 48 = .ok (.iload 4, 2) := by decide +kernel
theorem dX1_dropFromPlan_50 : decode cX1_dropFromPlan 50 = .ok (.iastore, 1) := by decide +kernel
theorem dX1_dropFromPlan_51 : decode cX1_dropFromPlan 51 = .ok (.iinc 2 1, 3) := by decide +kernel
theorem dX1_dropFromPlan_54 : decode cX1_dropFromPlan 54 = .ok (.iinc 3 1, 3) := by decide +kernel
theorem dX1_dropFromPlan_57 : decode cX1_dropFromPlan 57 = .ok (.goto (-53), 3) := by decide +kernel
theorem dX1_dropFromPlan_60 : decode cX1_dropFromPlan 60 = .ok (.return_, 1) := by decide +kernel
theorem dX1_dropDuplicates_0 : decode cX1_dropDuplicates 0 = .ok (.iconst 0, 1) := by decide +kernel
theorem dX1_dropDuplicates_1 : decode cX1_dropDuplicates 1 = .ok (.istore_n 1, 1) := by decide +kernel
theorem dX1_dropDuplicates_2 : decode cX1_dropDuplicates 2 = .ok (.aload_n 0, 1) := by decide +kernel
theorem dX1_dropDuplicates_3 : decode cX1_dropDuplicates 3 = .ok (.getfield 24, 3) := by decide +kernel
theorem dX1_dropDuplicates_6 : decode cX1_dropDuplicates 6 = .ok (.iconst 1, 1) := by decide +kernel
theorem dX1_dropDuplicates_7 : decode cX1_dropDuplicates 7 = .ok (.isub, 1) := by decide +kernel
theorem dX1_dropDuplicates_8 : decode cX1_dropDuplicates 8 = .ok (.istore_n 2, 1) := by decide +kernel
theorem dX1_dropDuplicates_9 : decode cX1_dropDuplicates 9 = .ok (.iload_n 2, 1) := by decide +kernel
theorem dX1_dropDuplicates_10 : decode cX1_dropDuplicates 10 = .ok (.ifCond .le 32, 3) := by decide +kernel
theorem dX1_dropDuplicates_13 : decode cX1_dropDuplicates 13 = .ok (.aload_n 0, 1) := by decide +kernel
theorem dX1_dropDuplicates_14 : decode cX1_dropDuplicates 14 = .ok (.iload_n 2, 1) := by decide +kernel
theorem dX1_dropDuplicates_15 : decode cX1_dropDuplicates 15 = .ok (.invokevirtual 48, 3) := by decide +kernel
theorem dX1_dropDuplicates_18 : decode cX1_dropDuplicates 18 = .ok (.istore_n 3, 1) := by decide +kernel
theorem dX1_dropDuplicates_19 : decode cX1_dropDuplicates 19 = .ok (.iload_n 3, 1) := by decide +kernel
theorem dX1_dropDuplicates_20 : decode cX1_dropDuplicates 20 = .ok (.ifCond .lt 16, 3) := by decide +kernel
theorem dX1_dropDuplicates_23 : decode cX1_dropDuplicates 23 = .ok (.iload_n 3, 1) := by decide +kernel
theorem dX1_dropDuplicates_24 : decode cX1_dropDuplicates 24 = .ok (.iload_n 2, 1) := by decide +kernel
theorem dX1_dropDuplicates_25 : decode cX1_dropDuplicates 25 = .ok (.if_icmp .ge 11, 3) := by decide +kernel
theorem dX1_dropDuplicates_28 : decode cX1_dropDuplicates 28 = .ok (.aload_n 0, 1) := by decide +kernel
theorem dX1_dropDuplicates_29 : decode cX1_dropDuplicates 29 = .ok (.iload_n 2, 1) := by decide +kernel
theorem dX1_dropDuplicates_30 : decode cX1_dropDuplicates 30 = .ok (.invokevirtual 52, 3) := by decide +kernel
theorem dX1_dropDuplicates_33 : decode cX1_dropDuplicates 33 = .ok (.iinc 1 1, 3) := by decide +kernel
theorem dX1_dropDuplicates_36 : decode cX1_dropDuplicates 36 = .ok (.iinc 2 (-1), 3) := by decide +kernel
theorem dX1_dropDuplicates_39 : decode cX1_dropDuplicates 39 = .ok (.goto (-30), 3) := by decide +kernel
theorem dX1_dropDuplicates_42 : decode cX1_dropDuplicates 42 = .ok (.iload_n 1, 1) := by decide +kernel
theorem dX1_dropDuplicates_43 : decode cX1_dropDuplicates 43 = .ok (.ireturn, 1) := by decide +kernel
theorem dX1_move_0 : decode cX1_move 0 = .ok (.aload_n 0, 1) := by decide +kernel
theorem dX1_move_1 : decode cX1_move 1 = .ok (.iload_n 1, 1) := by decide +kernel
theorem dX1_move_2 : decode cX1_move 2 = .ok (.invokevirtual 32, 3) := by decide +kernel
theorem dX1_move_5 : decode cX1_move 5 = .ok (.ifCond .eq 11, 3) := by decide +kernel
theorem dX1_move_8 : decode cX1_move 8 = .ok (.aload_n 0, 1) := by decide +kernel
theorem dX1_move_9 : decode cX1_move 9 = .ok (.iload_n 2, 1) := by decide +kernel
theorem dX1_move_10 : decode cX1_move 10 = .ok (.invokevirtual 32, 3) := by decide +kernel
theorem dX1_move_13 : decode cX1_move 13 = .ok (.ifCond .ne 4, 3) := by decide +kernel
theorem dX1_move_16 : decode cX1_move 16 = .ok (.return_, 1) := by decide +kernel
theorem dX1_move_17 : decode cX1_move 17 = .ok (.aload_n 0, 1) := by decide +kernel
theorem dX1_move_18 : decode cX1_move 18 = .ok (.getfield 21, 3) := by decide +kernel
theorem dX1_move_21 : decode cX1_move 21 = .ok (.iload_n 1, 1) := by decide +kernel
theorem dX1_move_22 : decode cX1_move 22 = .ok (.iaload, 1) := by decide +kernel
theorem dX1_move_23 : decode cX1_move 23 = .ok (.istore_n 3, 1) := by decide +kernel
theorem dX1_move_24 : decode cX1_move 24 = .ok (.iload_n 1, 1) := by decide +kernel
theorem dX1_move_25 : decode cX1_move 25 = .ok (.istore 4, 2) := by decide +kernel
theorem dX1_move_27 : decode cX1_move 27 = .ok (.iload 4, 2) := by decide +kernel
theorem dX1_move_29 : decode cX1_move 29 = .ok (.iload_n 2, 1) := by decide +kernel
theorem dX1_move_30 : decode cX1_move 30 = .ok (.if_icmp .ge 25, 3) := by decide +kernel
theorem dX1_move_33 : decode cX1_move 33 = .ok (.aload_n 0, 1) := by decide +kernel
theorem dX1_move_34 : decode cX1_move 34 = .ok (.getfield 21, 3) := by decide +kernel
theorem dX1_move_37 : decode cX1_move 37 = .ok (.iload 4, 2) := by decide +kernel
theorem dX1_move_39 : decode cX1_move 39 = .ok (.aload_n 0, 1) := by decide +kernel
theorem dX1_move_40 : decode cX1_move 40 = .ok (.getfield 21, 3) := by decide +kernel
theorem dX1_move_43 : decode cX1_move 43 = .ok (.iload 4, 2) := by decide +kernel
theorem dX1_move_45 : decode cX1_move 45 = .ok (.iconst 1, 1) := by decide +kernel
theorem dX1_move_46 : decode cX1_move 46 = .ok (.iadd, 1) := by decide +kernel
theorem dX1_move_47 : decode cX1_move 47 = .ok (.iaload, 1) := by decide +kernel
theorem dX1_move_48 : decode cX1_move 48 = .ok (.iastore, 1) := by decide +kernel
theorem dX1_move_49 : decode cX1_move 49 = .ok (.iinc 4 1, 3) := by decide +kernel
theorem dX1_move_52 : decode cX1_move 52 = .ok (.goto (-25), 3) := by decide +kernel
theorem dX1_move_55 : decode cX1_move 55 = .ok (.iload_n 1, 1) := by decide +kernel
theorem dX1_move_56 : decode cX1_move 56 = .ok (.istore 4, 2) := by decide +kernel
theorem dX1_move_58 : decode cX1_move 58 = .ok (.iload 4, 2) := by decide +kernel
theorem dX1_move_60 : decode cX1_move 60 = .ok (.iload_n 2, 1) := by decide +kernel
theorem dX1_move_61 : decode cX1_move 61 = .ok (.if_icmp .le 25, 3) := by decide +kernel
theorem dX1_move_64 : decode cX1_move 64 = .ok (.aload_n 0, 1) := by decide +kernel
theorem dX1_move_65 : decode cX1_move 65 = .ok (.getfield 21, 3) := by decide +kernel
theorem dX1_move_68 : decode cX1_move 68 = .ok (.iload 4, 2) := by decide +kernel
theorem dX1_move_70 : decode cX1_move 70 = .ok (.aload_n 0, 1) := by decide +kernel
theorem dX1_move_71 : decode cX1_move 71 = .ok (.getfield 21, 3) := by decide +kernel
theorem dX1_move_74 : decode cX1_move 74 = .ok (.iload 4, 2) := by decide +kernel
theorem dX1_move_76 : decode cX1_move 76 = .ok (.iconst 1, 1) := by decide +kernel
theorem dX1_move_77 : decode cX1_move 77 = .ok (.isub, 1) := by decide +kernel
theorem dX1_move_78 : decode cX1_move 78 = .ok (.iaload, 1) := by decide +kernel
theorem dX1_move_79 : decode cX1_move 79 = .ok (.iastore, 1) := by decide +kernel
theorem dX1_move_80 : decode cX1_move 80 = .ok (.iinc 4 (-1), 3) := by decide +kernel
theorem dX1_move_83 : decode cX1_move 83 = .ok (.goto (-25), 3) := by decide +kernel
theorem dX1_move_86 : decode cX1_move 86 = .ok (.aload_n 0, 1) := by decide +kernel
theorem dX1_move_87 : decode cX1_move 87 = .ok (.getfield 21, 3) := by decide +kernel
theorem dX1_move_90 : decode cX1_move 90 = .ok (.iload_n 2, 1) := by decide +kernel
theorem dX1_move_91 : decode cX1_move 91 = .ok (.iload_n 3, 1) := by decide +kernel
theorem dX1_move_92 : decode cX1_move 92 = .ok (.iastore, 1) := by decide +kernel
theorem dX1_move_93 : decode cX1_move 93 = .ok (.return_, 1) := by decide +kernel
theorem dX1_turn_0 : decode cX1_turn 0 = .ok (.aload_n 0, 1) := by decide +kernel
theorem dX1_turn_1 : decode cX1_turn 1 = .ok (.iload_n 1, 1) := by decide +kernel
theorem dX1_turn_2 : decode cX1_turn 2 = .ok (.invokevirtual 32, 3) := by decide +kernel
theorem dX1_turn_5 : decode cX1_turn 5 = .ok (.ifCond .eq 17, 3) := by decide +kernel
theorem dX1_turn_8 : decode cX1_turn 8 = .ok (.aload_n 0, 1) := by decide +kernel
theorem dX1_turn_9 : decode cX1_turn 9 = .ok (.getfield 21, 3) := by decide +kernel
theorem dX1_turn_12 : decode cX1_turn 12 = .ok (.iload_n 1, 1) := by decide +kernel
theorem dX1_turn_13 : decode cX1_turn 13 = .ok (.aload_n 0, 1) := by decide +kernel
theorem dX1_turn_14 : decode cX1_turn 14 = .ok (.getfield 21, 3) := by decide +kernel
theorem dX1_turn_17 : decode cX1_turn 17 = .ok (.iload_n 1, 1) := by decide +kernel
theorem dX1_turn_18 : decode cX1_turn 18 = .ok (.iaload, 1) := by decide +kernel
theorem dX1_turn_19 : decode cX1_turn 19 = .ok (.iconst 1, 1) := by decide +kernel
theorem dX1_turn_20 : decode cX1_turn 20 = .ok (.ixor, 1) := by decide +kernel
theorem dX1_turn_21 : decode cX1_turn 21 = .ok (.iastore, 1) := by decide +kernel
theorem dX1_turn_22 : decode cX1_turn 22 = .ok (.return_, 1) := by decide +kernel
theorem dX1_orderByNearest_0 : decode cX1_orderByNearest 0 = .ok (.iconst 1, 1) := by decide +kernel
theorem dX1_orderByNearest_1 : decode cX1_orderByNearest 1 = .ok (.aload_n 0, 1) := by decide +kernel
theorem dX1_orderByNearest_2 : decode cX1_orderByNearest 2 = .ok (.getfield 24, 3) := by decide +kernel
theorem dX1_orderByNearest_5 : decode cX1_orderByNearest 5 = .ok (.ishl, 1) := by decide +kernel
theorem dX1_orderByNearest_6 : decode cX1_orderByNearest 6 = .ok (.iconst 1, 1) := by decide +kernel
theorem dX1_orderByNearest_7 : decode cX1_orderByNearest 7 = .ok (.isub, 1) := by decide +kernel
theorem dX1_orderByNearest_8 : decode cX1_orderByNearest 8 = .ok (.istore_n 2, 1) := by decide +kernel
theorem dX1_orderByNearest_9 : decode cX1_orderByNearest 9 = .ok (.iconst (-1), 1) := by decide +kernel
theorem dX1_orderByNearest_10 : decode cX1_orderByNearest 10 = .ok (.istore_n 3, 1) := by decide +kernel
theorem dX1_orderByNearest_11 : decode cX1_orderByNearest 11 = .ok (.iconst 0, 1) := by decide +kernel
theorem dX1_orderByNearest_12 : decode cX1_orderByNearest 12 = .ok (.istore 4, 2) := by decide +kernel
theorem dX1_orderByNearest_14 : decode cX1_orderByNearest 14 = .ok (.iload 4, 2) := by decide +kernel
theorem dX1_orderByNearest_16 : decode cX1_orderByNearest 16 = .ok (.aload_n 0, 1) := by decide +kernel
theorem dX1_orderByNearest_17 : decode cX1_orderByNearest 17 = .ok (.getfield 24, 3) := by decide +kernel
theorem dX1_orderByNearest_20 : decode cX1_orderByNearest 20 = .ok (.if_icmp .ge 34, 3) := by decide +kernel
theorem dX1_orderByNearest_23 : decode cX1_orderByNearest 23 = .ok (.aload_n 0, 1) := by decide +kernel
theorem dX1_orderByNearest_24 : decode cX1_orderByNearest 24 = .ok (.iload_n 2, 1) := by decide +kernel
theorem dX1_orderByNearest_25 : decode cX1_orderByNearest 25 = .ok (.iload_n 3, 1) := by decide +kernel
theorem dX1_orderByNearest_26 : decode cX1_orderByNearest 26 = .ok (.iload_n 1, 1) := by decide +kernel
theorem dX1_orderByNearest_27 : decode cX1_orderByNearest 27 = .ok (.invokevirtual 55, 3) := by decide +kernel
theorem dX1_orderByNearest_30 : decode cX1_orderByNearest 30 = .ok (.istore_n 3, 1) := by decide +kernel
theorem dX1_orderByNearest_31 : decode cX1_orderByNearest 31 = .ok (.aload_n 0, 1) := by decide +kernel
theorem dX1_orderByNearest_32 : decode cX1_orderByNearest 32 = .ok (.iload 4, 2) := by decide +kernel
theorem dX1_orderByNearest_34 : decode cX1_orderByNearest 34 = .ok (.iload_n 3, 1) := by decide +kernel
theorem dX1_orderByNearest_35 : decode cX1_orderByNearest 35 = .ok (.invokevirtual 59, 3) := by decide +kernel
theorem dX1_orderByNearest_38 : decode cX1_orderByNearest 38 = .ok (.iload_n 2, 1) := by decide +kernel
theorem dX1_orderByNearest_39 : decode cX1_orderByNearest 39 = .ok (.iconst 1, 1) := by decide +kernel
theorem dX1_orderByNearest_40 : decode cX1_orderByNearest 40 = .ok (.iload_n 3, 1) := by decide +kernel
theorem dX1_orderByNearest_41 : decode cX1_orderByNearest 41 = .ok (.iconst 2, 1) := by decide +kernel
theorem dX1_orderByNearest_42 : decode cX1_orderByNearest 42 = .ok (.idiv, 1) := by decide +kernel
theorem dX1_orderByNearest_43 : decode cX1_orderByNearest 43 = .ok (.ishl, 1) := by decide +kernel
theorem dX1_orderByNearest_44 : decode cX1_orderByNearest 44 = .ok (.iconst (-1), 1) := by decide +kernel
theorem dX1_orderByNearest_45 : decode cX1_orderByNearest 45 = .ok (.ixor, 1) := by decide +kernel
theorem dX1_orderByNearest_46 : decode cX1_orderByNearest 46 = .ok (.iand, 1) := by decide +kernel
theorem dX1_orderByNearest_47 : decode cX1_orderByNearest 47 = .ok (.istore_n 2, 1) := by decide +kernel
theorem dX1_orderByNearest_48 : decode cX1_orderByNearest 48 = .ok (.iinc 4 1, 3) := by decide +kernel
theorem dX1_orderByNearest_51 : decode cX1_orderByNearest 51 = .ok (.goto (-37), 3) := by decide +kernel
theorem dX1_orderByNearest_54 : decode cX1_orderByNearest 54 = .ok (.return_, 1) := by decide +kernel
theorem dX1_nearestCode_0 : decode cX1_nearestCode 0 = .ok (.iconst (-1), 1) := by decide +kernel
theorem dX1_nearestCode_1 : decode cX1_nearestCode 1 = .ok (.istore 4, 2) := by decide +kernel
theorem dX1_nearestCode_3 : decode cX1_nearestCode 3 = .ok (.iconst 0, 1) := by decide +kernel
theorem dX1_nearestCode_4 : decode cX1_nearestCode 4 = .ok (.istore 5, 2) := by decide +kernel
theorem dX1_nearestCode_6 : decode cX1_nearestCode 6 = .ok (.iconst 0, 1) := by decide +kernel
theorem dX1_nearestCode_7 : decode cX1_nearestCode 7 = .ok (.istore 6, 2) := by decide +kernel
theorem dX1_nearestCode_9 : decode cX1_nearestCode 9 = .ok (.iload 6, 2) := by decide +kernel
theorem dX1_nearestCode_11 : decode cX1_nearestCode 11 = .ok (.iconst 2, 1) := by decide +kernel
theorem dX1_nearestCode_12 : decode cX1_nearestCode 12 = .ok (.aload_n 0, 1) := by decide +kernel
theorem dX1_nearestCode_13 : decode cX1_nearestCode 13 = .ok (.getfield 24, 3) := by decide +kernel
theorem dX1_nearestCode_16 : decode cX1_nearestCode 16 = .ok (.imul, 1) := by decide +kernel
theorem dX1_nearestCode_17 : decode cX1_nearestCode 17 = .ok (.if_icmp .ge 52, 3) := by decide +kernel
theorem dX1_nearestCode_20 : decode cX1_nearestCode 20 = .ok (.iload_n 1, 1) := by decide +kernel
theorem dX1_nearestCode_21 : decode cX1_nearestCode 21 = .ok (.iload 6, 2) := by decide +kernel
theorem dX1_nearestCode_23 : decode cX1_nearestCode 23 = .ok (.iconst 2, 1) := by decide +kernel
theorem dX1_nearestCode_24 : decode cX1_nearestCode 24 = .ok (.idiv, 1) := by decide +kernel
theorem dX1_nearestCode_25 : decode cX1_nearestCode 25 = .ok (.ishr, 1) := by decide +kernel
theorem dX1_nearestCode_26 : decode cX1_nearestCode 26 = .ok (.iconst 1, 1) := by decide +kernel
theorem dX1_nearestCode_27 : decode cX1_nearestCode 27 = .ok (.iand, 1) := by decide +kernel
theorem dX1_nearestCode_28 : decode cX1_nearestCode 28 = .ok (.iconst 1, 1) := by decide +kernel
theorem dX1_nearestCode_29 : decode cX1_nearestCode 29 = .ok (.if_icmp .ne 34, 3) := by decide +kernel
theorem dX1_nearestCode_32 : decode cX1_nearestCode 32 = .ok (.aload_n 0, 1) := by decide +kernel
theorem dX1_nearestCode_33 : decode cX1_nearestCode 33 = .ok (.iload_n 2, 1) := by decide +kernel
theorem dX1_nearestCode_34 : decode cX1_nearestCode 34 = .ok (.iload 6, 2) := by decide +kernel
theorem dX1_nearestCode_36 : decode cX1_nearestCode 36 = .ok (.iload_n 3, 1) := by decide +kernel
theorem dX1_nearestCode_37 : decode cX1_nearestCode 37 = .ok (.invokevirtual 63, 3) := by decide +kernel
theorem dX1_nearestCode_40 : decode cX1_nearestCode 40 = .ok (.istore 7, 2) := by decide +kernel
theorem dX1_nearestCode_42 : decode cX1_nearestCode 42 = .ok (.iload 4, 2) := by decide +kernel
theorem dX1_nearestCode_44 : decode cX1_nearestCode 44 = .ok (.iconst (-1), 1) := by decide +kernel
theorem dX1_nearestCode_45 : decode cX1_nearestCode 45 = .ok (.if_icmp .eq 10, 3) := by decide +kernel
theorem dX1_nearestCode_48 : decode cX1_nearestCode 48 = .ok (.iload 7, 2) := by decide +kernel
theorem dX1_nearestCode_50 : decode cX1_nearestCode 50 = .ok (.iload 5, 2) := by decide +kernel
theorem dX1_nearestCode_52 : decode cX1_nearestCode 52 = .ok (.if_icmp .ge 11, 3) := by decide +kernel
theorem dX1_nearestCode_55 : decode cX1_nearestCode 55 = .ok (.iload 6, 2) := by decide +kernel
theorem dX1_nearestCode_57 : decode cX1_nearestCode 57 = .ok (.istore 4, 2) := by decide +kernel
theorem dX1_nearestCode_59 : decode cX1_nearestCode 59 = .ok (.iload 7, 2) := by decide +kernel
theorem dX1_nearestCode_61 : decode cX1_nearestCode 61 = .ok (.istore 5, 2) := by decide +kernel
theorem dX1_nearestCode_63 : decode cX1_nearestCode 63 = .ok (.iinc 6 1, 3) := by decide +kernel
theorem dX1_nearestCode_66 : decode cX1_nearestCode 66 = .ok (.goto (-57), 3) := by decide +kernel
theorem dX1_nearestCode_69 : decode cX1_nearestCode 69 = .ok (.iload 4, 2) := by decide +kernel
theorem dX1_nearestCode_71 : decode cX1_nearestCode 71 = .ok (.ireturn, 1) := by decide +kernel
theorem dX1_stepCost_0 : decode cX1_stepCost 0 = .ok (.aload_n 0, 1) := by decide +kernel
theorem dX1_stepCost_1 : decode cX1_stepCost 1 = .ok (.iload_n 1, 1) := by decide +kernel
theorem dX1_stepCost_2 : decode cX1_stepCost 2 = .ok (.invokevirtual 66, 3) := by decide +kernel
theorem dX1_stepCost_5 : decode cX1_stepCost 5 = .ok (.aload_n 0, 1) := by decide +kernel
theorem dX1_stepCost_6 : decode cX1_stepCost 6 = .ok (.iload_n 1, 1) := by decide +kernel
theorem dX1_stepCost_7 : decode cX1_stepCost 7 = .ok (.invokevirtual 69, 3) := by decide +kernel
theorem dX1_stepCost_10 : decode cX1_stepCost 10 = .ok (.aload_n 0, 1) := by decide +kernel
theorem dX1_stepCost_11 : decode cX1_stepCost 11 = .ok (.iload_n 2, 1) := by decide +kernel
theorem dX1_stepCost_12 : decode cX1_stepCost 12 = .ok (.invokevirtual 72, 3) := by decide +kernel
theorem dX1_stepCost_15 : decode cX1_stepCost 15 = .ok (.aload_n 0, 1) := by decide +kernel
theorem dX1_stepCost_16 : decode cX1_stepCost 16 = .ok (.iload_n 2, 1) := by decide +kernel
theorem dX1_stepCost_17 : decode cX1_stepCost 17 = .ok (.invokevirtual 75, 3) := by decide +kernel
theorem dX1_stepCost_20 : decode cX1_stepCost 20 = .ok (.invokestatic 78, 3) := by decide +kernel
theorem dX1_stepCost_23 : decode cX1_stepCost 23 = .ok (.istore 4, 2) := by decide +kernel
theorem dX1_stepCost_25 : decode cX1_stepCost 25 = .ok (.iload 4, 2) := by decide +kernel
theorem dX1_stepCost_27 : decode cX1_stepCost 27 = .ok (.aload_n 0, 1) := by decide +kernel
theorem dX1_stepCost_28 : decode cX1_stepCost 28 = .ok (.iload_n 1, 1) := by decide +kernel
theorem dX1_stepCost_29 : decode cX1_stepCost 29 = .ok (.iload_n 2, 1) := by decide +kernel
theorem dX1_stepCost_30 : decode cX1_stepCost 30 = .ok (.invokevirtual 82, 3) := by decide +kernel
theorem dX1_stepCost_33 : decode cX1_stepCost 33 = .ok (.ifCond .eq 7, 3) := by decide +kernel
theorem dX1_stepCost_36 : decode cX1_stepCost 36 = .ok (.iload_n 3, 1) := by decide +kernel
theorem dX1_stepCost_37 : decode cX1_stepCost 37 = .ok (.goto 4, 3) := by decide +kernel
theorem dX1_stepCost_40 : decode cX1_stepCost 40 = .ok (.iconst 0, 1) := by decide +kernel
theorem dX1_stepCost_41 : decode cX1_stepCost 41 = .ok (.iadd, 1) := by decide +kernel
theorem dX1_stepCost_42 : decode cX1_stepCost 42 = .ok (.ireturn, 1) := by decide +kernel
theorem dX1_planCost_0 : decode cX1_planCost 0 = .ok (.iconst 0, 1) := by decide +kernel
theorem dX1_planCost_1 : decode cX1_planCost 1 = .ok (.istore_n 2, 1) := by decide +kernel
theorem dX1_planCost_2 : decode cX1_planCost 2 = .ok (.iconst (-1), 1) := by decide +kernel
theorem dX1_planCost_3 : decode cX1_planCost 3 = .ok (.istore_n 3, 1) := by decide +kernel
theorem dX1_planCost_4 : decode cX1_planCost 4 = .ok (.iconst 0, 1) := by decide +kernel
theorem dX1_planCost_5 : decode cX1_planCost 5 = .ok (.istore 4, 2) := by decide +kernel
theorem dX1_planCost_7 : decode cX1_planCost 7 = .ok (.iload 4, 2) := by decide +kernel
theorem dX1_planCost_9 : decode cX1_planCost 9 = .ok (.aload_n 0, 1) := by decide +kernel
theorem dX1_planCost_10 : decode cX1_planCost 10 = .ok (.getfield 24, 3) := by decide +kernel
theorem dX1_planCost_13 : decode cX1_planCost 13 = .ok (.if_icmp .ge 33, 3) := by decide +kernel
theorem dX1_planCost_16 : decode cX1_planCost 16 = .ok (.iload_n 2, 1) := by decide +kernel
theorem dX1_planCost_17 : decode cX1_planCost 17 = .ok (.aload_n 0, 1) := by decide +kernel
theorem dX1_planCost_18 : decode cX1_planCost 18 = .ok (.iload_n 3, 1) := by decide +kernel
theorem dX1_planCost_19 : decode cX1_planCost 19 = .ok (.aload_n 0, 1) := by decide +kernel
theorem dX1_planCost_20 : decode cX1_planCost 20 = .ok (.getfield 21, 3) := by decide +kernel
theorem dX1_planCost_23 : decode cX1_planCost 23 = .ok (.iload 4, 2) := by decide +kernel
theorem dX1_planCost_25 : decode cX1_planCost 25 = .ok (.iaload, 1) := by decide +kernel
theorem dX1_planCost_26 : decode cX1_planCost 26 = .ok (.iload_n 1, 1) := by decide +kernel
theorem dX1_planCost_27 : decode cX1_planCost 27 = .ok (.invokevirtual 63, 3) := by decide +kernel
theorem dX1_planCost_30 : decode cX1_planCost 30 = .ok (.iadd, 1) := by decide +kernel
theorem dX1_planCost_31 : decode cX1_planCost 31 = .ok (.istore_n 2, 1) := by decide +kernel
theorem dX1_planCost_32 : decode cX1_planCost 32 = .ok (.aload_n 0, 1) := by decide +kernel
theorem dX1_planCost_33 : decode cX1_planCost 33 = .ok (.getfield 21, 3) := by decide +kernel
theorem dX1_planCost_36 : decode cX1_planCost 36 = .ok (.iload 4, 2) := by decide +kernel
theorem dX1_planCost_38 : decode cX1_planCost 38 = .ok (.iaload, 1) := by decide +kernel
theorem dX1_planCost_39 : decode cX1_planCost 39 = .ok (.istore_n 3, 1) := by decide +kernel
theorem dX1_planCost_40 : decode cX1_planCost 40 = .ok (.iinc 4 1, 3) := by decide +kernel
theorem dX1_planCost_43 : decode cX1_planCost 43 = .ok (.goto (-36), 3) := by decide +kernel
theorem dX1_planCost_46 : decode cX1_planCost 46 = .ok (.iload_n 2, 1) := by decide +kernel
theorem dX1_planCost_47 : decode cX1_planCost 47 = .ok (.ireturn, 1) := by decide +kernel
theorem dX1_countPenChanges_0 : decode cX1_countPenChanges 0 = .ok (.iconst 0, 1) := by decide +kernel
theorem dX1_countPenChanges_1 : decode cX1_countPenChanges 1 = .ok (.istore_n 1, 1) := by decide +kernel
theorem dX1_countPenChanges_2 : decode cX1_countPenChanges 2 = .ok (.iconst (-1), 1) := by decide +kernel
theorem dX1_countPenChanges_3 : decode cX1_countPenChanges 3 = .ok (.istore_n 2, 1) := by decide +kernel
theorem dX1_countPenChanges_4 : decode cX1_countPenChanges 4 = .ok (.iconst 0, 1) := by decide +kernel
theorem dX1_countPenChanges_5 : decode cX1_countPenChanges 5 = .ok (.istore_n 3, 1) := by decide +kernel
theorem dX1_countPenChanges_6 : decode cX1_countPenChanges 6 = .ok (.iload_n 3, 1) := by decide +kernel
theorem dX1_countPenChanges_7 : decode cX1_countPenChanges 7 = .ok (.aload_n 0, 1) := by decide +kernel
theorem dX1_countPenChanges_8 : decode cX1_countPenChanges 8 = .ok (.getfield 24, 3) := by decide +kernel
theorem dX1_countPenChanges_11 : decode cX1_countPenChanges 11 = .ok (.if_icmp .ge 33, 3) := by decide +kernel
theorem dX1_countPenChanges_14 : decode cX1_countPenChanges 14 = .ok (.aload_n 0, 1) := by decide +kernel
theorem dX1_countPenChanges_15 : decode cX1_countPenChanges 15 = .ok (.iload_n 2, 1) := by decide +kernel
theorem dX1_countPenChanges_16 : decode cX1_countPenChanges 16 = .ok (.aload_n 0, 1) := by decide +kernel
theorem dX1_countPenChanges_17 : decode cX1_countPenChanges 17 = .ok (.getfield 21, 3) := by decide +kernel
theorem dX1_countPenChanges_20 : decode cX1_countPenChanges 20 = .ok (.iload_n 3, 1) := by decide +kernel
theorem dX1_countPenChanges_21 : decode cX1_countPenChanges 21 = .ok (.iaload, 1) := by decide +kernel
theorem dX1_countPenChanges_22 : decode cX1_countPenChanges 22 = .ok (.invokevirtual 82, 3) := by decide +kernel
theorem dX1_countPenChanges_25 : decode cX1_countPenChanges 25 = .ok (.ifCond .eq 6, 3) := by decide +kernel
theorem dX1_countPenChanges_28 : decode cX1_countPenChanges 28 = .ok (.iinc 1 1, 3) := by decide +kernel
theorem dX1_countPenChanges_31 : decode cX1_countPenChanges 31 = .ok (.aload_n 0, 1) := by decide +kernel
theorem dX1_countPenChanges_32 : decode cX1_countPenChanges 32 = .ok (.getfield 21, 3) := by decide +kernel
theorem dX1_countPenChanges_35 : decode cX1_countPenChanges 35 = .ok (.iload_n 3, 1) := by decide +kernel
theorem dX1_countPenChanges_36 : decode cX1_countPenChanges 36 = .ok (.iaload, 1) := by decide +kernel
theorem dX1_countPenChanges_37 : decode cX1_countPenChanges 37 = .ok (.istore_n 2, 1) := by decide +kernel
theorem dX1_countPenChanges_38 : decode cX1_countPenChanges 38 = .ok (.iinc 3 1, 3) := by decide +kernel
theorem dX1_countPenChanges_41 : decode cX1_countPenChanges 41 = .ok (.goto (-35), 3) := by decide +kernel
theorem dX1_countPenChanges_44 : decode cX1_countPenChanges 44 = .ok (.iload_n 1, 1) := by decide +kernel
theorem dX1_countPenChanges_45 : decode cX1_countPenChanges 45 = .ok (.ireturn, 1) := by decide +kernel
theorem dX1_changesPen_0 : decode cX1_changesPen 0 = .ok (.aload_n 0, 1) := by decide +kernel
theorem dX1_changesPen_1 : decode cX1_changesPen 1 = .ok (.iload_n 1, 1) := by decide +kernel
theorem dX1_changesPen_2 : decode cX1_changesPen 2 = .ok (.invokevirtual 86, 3) := by decide +kernel
theorem dX1_changesPen_5 : decode cX1_changesPen 5 = .ok (.aload_n 0, 1) := by decide +kernel
theorem dX1_changesPen_6 : decode cX1_changesPen 6 = .ok (.iload_n 2, 1) := by decide +kernel
theorem dX1_changesPen_7 : decode cX1_changesPen 7 = .ok (.invokevirtual 86, 3) := by decide +kernel
theorem dX1_changesPen_10 : decode cX1_changesPen 10 = .ok (.if_icmp .eq 7, 3) := by decide +kernel
theorem dX1_changesPen_13 : decode cX1_changesPen 13 = .ok (.iconst 1, 1) := by decide +kernel
theorem dX1_changesPen_14 : decode cX1_changesPen 14 = .ok (.goto 4, 3) := by decide +kernel
theorem dX1_changesPen_17 : decode cX1_changesPen 17 = .ok (.iconst 0, 1) := by decide +kernel
theorem dX1_changesPen_18 : decode cX1_changesPen 18 = .ok (.ireturn, 1) := by decide +kernel
theorem dX1_isLinkedToNext_0 : decode cX1_isLinkedToNext 0 = .ok (.aload_n 0, 1) := by decide +kernel
theorem dX1_isLinkedToNext_1 : decode cX1_isLinkedToNext 1 = .ok (.iload_n 1, 1) := by decide +kernel
theorem dX1_isLinkedToNext_2 : decode cX1_isLinkedToNext 2 = .ok (.invokevirtual 32, 3) := by decide +kernel
theorem dX1_isLinkedToNext_5 : decode cX1_isLinkedToNext 5 = .ok (.ifCond .eq 13, 3) := by decide +kernel
theorem dX1_isLinkedToNext_8 : decode cX1_isLinkedToNext 8 = .ok (.aload_n 0, 1) := by decide +kernel
theorem dX1_isLinkedToNext_9 : decode cX1_isLinkedToNext 9 = .ok (.iload_n 1, 1) := by decide +kernel
theorem dX1_isLinkedToNext_10 : decode cX1_isLinkedToNext 10 = .ok (.iconst 1, 1) := by decide +kernel
theorem dX1_isLinkedToNext_11 : decode cX1_isLinkedToNext 11 = .ok (.iadd, 1) := by decide +kernel
theorem dX1_isLinkedToNext_12 : decode cX1_isLinkedToNext 12 = .ok (.invokevirtual 32, 3) := by decide +kernel
theorem dX1_isLinkedToNext_15 : decode cX1_isLinkedToNext 15 = .ok (.ifCond .ne 5, 3) := by decide +kernel
theorem dX1_isLinkedToNext_18 : decode cX1_isLinkedToNext 18 = .ok (.iconst 0, 1) := by decide +kernel
theorem dX1_isLinkedToNext_19 : decode cX1_isLinkedToNext 19 = .ok (.ireturn, 1) := by decide +kernel
theorem dX1_isLinkedToNext_20 : decode cX1_isLinkedToNext 20 = .ok (.aload_n 0, 1) := by decide +kernel
theorem dX1_isLinkedToNext_21 : decode cX1_isLinkedToNext 21 = .ok (.getfield 21, 3) := by decide +kernel
theorem dX1_isLinkedToNext_24 : decode cX1_isLinkedToNext 24 = .ok (.iload_n 1, 1) := by decide +kernel
theorem dX1_isLinkedToNext_25 : decode cX1_isLinkedToNext 25 = .ok (.iaload, 1) := by decide +kernel
theorem dX1_isLinkedToNext_26 : decode cX1_isLinkedToNext 26 = .ok (.istore_n 2, 1) := by decide +kernel
theorem dX1_isLinkedToNext_27 : decode cX1_isLinkedToNext 27 = .ok (.aload_n 0, 1) := by decide +kernel
theorem dX1_isLinkedToNext_28 : decode cX1_isLinkedToNext 28 = .ok (.getfield 21, 3) := by decide +kernel
theorem dX1_isLinkedToNext_31 : decode cX1_isLinkedToNext 31 = .ok (.iload_n 1, 1) := by decide +kernel
theorem dX1_isLinkedToNext_32 : decode cX1_isLinkedToNext 32 = .ok (.iconst 1, 1) := by decide +kernel
theorem dX1_isLinkedToNext_33 : decode cX1_isLinkedToNext 33 = .ok (.iadd, 1) := by decide +kernel
theorem dX1_isLinkedToNext_34 : decode cX1_isLinkedToNext 34 = .ok (.iaload, 1) := by decide +kernel
theorem dX1_isLinkedToNext_35 : decode cX1_isLinkedToNext 35 = .ok (.istore_n 3, 1) := by decide +kernel
theorem dX1_isLinkedToNext_36 : decode cX1_isLinkedToNext 36 = .ok (.aload_n 0, 1) := by decide +kernel
theorem dX1_isLinkedToNext_37 : decode cX1_isLinkedToNext 37 = .ok (.iload_n 2, 1) := by decide +kernel
theorem dX1_isLinkedToNext_38 : decode cX1_isLinkedToNext 38 = .ok (.iload_n 3, 1) := by decide +kernel
theorem dX1_isLinkedToNext_39 : decode cX1_isLinkedToNext 39 = .ok (.invokevirtual 82, 3) := by decide +kernel
theorem dX1_isLinkedToNext_42 : decode cX1_isLinkedToNext 42 = .ok (.ifCond .ne 33, 3) := by decide +kernel
theorem dX1_isLinkedToNext_45 : decode cX1_isLinkedToNext 45 = .ok (.aload_n 0, 1) := by decide +kernel
theorem dX1_isLinkedToNext_46 : decode cX1_isLinkedToNext 46 = .ok (.iload_n 2, 1) := by decide +kernel
theorem dX1_isLinkedToNext_47 : decode cX1_isLinkedToNext 47 = .ok (.invokevirtual 66, 3) := by decide +kernel
theorem dX1_isLinkedToNext_50 : decode cX1_isLinkedToNext 50 = .ok (.aload_n 0, 1) := by decide +kernel
theorem dX1_isLinkedToNext_51 : decode cX1_isLinkedToNext 51 = .ok (.iload_n 3, 1) := by decide +kernel
theorem dX1_isLinkedToNext_52 : decode cX1_isLinkedToNext 52 = .ok (.invokevirtual 72, 3) := by decide +kernel
theorem dX1_isLinkedToNext_55 : decode cX1_isLinkedToNext 55 = .ok (.if_icmp .ne 20, 3) := by decide +kernel
theorem dX1_isLinkedToNext_58 : decode cX1_isLinkedToNext 58 = .ok (.aload_n 0, 1) := by decide +kernel
theorem dX1_isLinkedToNext_59 : decode cX1_isLinkedToNext 59 = .ok (.iload_n 2, 1) := by decide +kernel
theorem dX1_isLinkedToNext_60 : decode cX1_isLinkedToNext 60 = .ok (.invokevirtual 69, 3) := by decide +kernel
theorem dX1_isLinkedToNext_63 : decode cX1_isLinkedToNext 63 = .ok (.aload_n 0, 1) := by decide +kernel
theorem dX1_isLinkedToNext_64 : decode cX1_isLinkedToNext 64 = .ok (.iload_n 3, 1) := by decide +kernel
theorem dX1_isLinkedToNext_65 : decode cX1_isLinkedToNext 65 = .ok (.invokevirtual 75, 3) := by decide +kernel
theorem dX1_isLinkedToNext_68 : decode cX1_isLinkedToNext 68 = .ok (.if_icmp .ne 7, 3) := by decide +kernel
theorem dX1_isLinkedToNext_71 : decode cX1_isLinkedToNext 71 = .ok (.iconst 1, 1) := by decide +kernel
theorem dX1_isLinkedToNext_72 : decode cX1_isLinkedToNext 72 = .ok (.goto 4, 3) := by decide +kernel
theorem dX1_isLinkedToNext_75 : decode cX1_isLinkedToNext 75 = .ok (.iconst 0, 1) := by decide +kernel
theorem dX1_isLinkedToNext_76 : decode cX1_isLinkedToNext 76 = .ok (.ireturn, 1) := by decide +kernel
theorem dX1_countRuns_0 : decode cX1_countRuns 0 = .ok (.iconst 0, 1) := by decide +kernel
theorem dX1_countRuns_1 : decode cX1_countRuns 1 = .ok (.istore_n 1, 1) := by decide +kernel
theorem dX1_countRuns_2 : decode cX1_countRuns 2 = .ok (.iconst 0, 1) := by decide +kernel
theorem dX1_countRuns_3 : decode cX1_countRuns 3 = .ok (.istore_n 2, 1) := by decide +kernel
theorem dX1_countRuns_4 : decode cX1_countRuns 4 = .ok (.iload_n 2, 1) := by decide +kernel
theorem dX1_countRuns_5 : decode cX1_countRuns 5 = .ok (.aload_n 0, 1) := by decide +kernel
theorem dX1_countRuns_6 : decode cX1_countRuns 6 = .ok (.getfield 24, 3) := by decide +kernel
theorem dX1_countRuns_9 : decode cX1_countRuns 9 = .ok (.if_icmp .ge 20, 3) := by decide +kernel
theorem dX1_countRuns_12 : decode cX1_countRuns 12 = .ok (.aload_n 0, 1) := by decide +kernel
theorem dX1_countRuns_13 : decode cX1_countRuns 13 = .ok (.iload_n 2, 1) := by decide +kernel
theorem dX1_countRuns_14 : decode cX1_countRuns 14 = .ok (.invokevirtual 89, 3) := by decide +kernel
theorem dX1_countRuns_17 : decode cX1_countRuns 17 = .ok (.ifCond .ne 6, 3) := by decide +kernel
theorem dX1_countRuns_20 : decode cX1_countRuns 20 = .ok (.iinc 1 1, 3) := by decide +kernel
theorem dX1_countRuns_23 : decode cX1_countRuns 23 = .ok (.iinc 2 1, 3) := by decide +kernel
theorem dX1_countRuns_26 : decode cX1_countRuns 26 = .ok (.goto (-22), 3) := by decide +kernel
theorem dX1_countRuns_29 : decode cX1_countRuns 29 = .ok (.iload_n 1, 1) := by decide +kernel
theorem dX1_countRuns_30 : decode cX1_countRuns 30 = .ok (.ireturn, 1) := by decide +kernel
theorem dX1_lengthOfRun_0 : decode cX1_lengthOfRun 0 = .ok (.iconst 0, 1) := by decide +kernel
theorem dX1_lengthOfRun_1 : decode cX1_lengthOfRun 1 = .ok (.istore_n 2, 1) := by decide +kernel
theorem dX1_lengthOfRun_2 : decode cX1_lengthOfRun 2 = .ok (.iconst 0, 1) := by decide +kernel
theorem dX1_lengthOfRun_3 : decode cX1_lengthOfRun 3 = .ok (.istore_n 3, 1) := by decide +kernel
theorem dX1_lengthOfRun_4 : decode cX1_lengthOfRun 4 = .ok (.iconst 0, 1) := by decide +kernel
theorem dX1_lengthOfRun_5 : decode cX1_lengthOfRun 5 = .ok (.istore 4, 2) := by decide +kernel
theorem dX1_lengthOfRun_7 : decode cX1_lengthOfRun 7 = .ok (.iload 4, 2) := by decide +kernel
theorem dX1_lengthOfRun_9 : decode cX1_lengthOfRun 9 = .ok (.aload_n 0, 1) := by decide +kernel
theorem dX1_lengthOfRun_10 : decode cX1_lengthOfRun 10 = .ok (.getfield 24, 3) := by decide +kernel
theorem dX1_lengthOfRun_13 : decode cX1_lengthOfRun 13 = .ok (.if_icmp .ge 29, 3) := by decide +kernel
theorem dX1_lengthOfRun_16 : decode cX1_lengthOfRun 16 = .ok (.iload_n 2, 1) := by decide +kernel
theorem dX1_lengthOfRun_17 : decode cX1_lengthOfRun 17 = .ok (.iload_n 1, 1) := by decide +kernel
theorem dX1_lengthOfRun_18 : decode cX1_lengthOfRun 18 = .ok (.if_icmp .ne 6, 3) := by decide +kernel
theorem dX1_lengthOfRun_21 : decode cX1_lengthOfRun 21 = .ok (.iinc 3 1, 3) := by decide +kernel
theorem dX1_lengthOfRun_24 : decode cX1_lengthOfRun 24 = .ok (.aload_n 0, 1) := by decide +kernel
theorem dX1_lengthOfRun_25 : decode cX1_lengthOfRun 25 = .ok (.iload 4, 2) := by decide +kernel
theorem dX1_lengthOfRun_27 : decode cX1_lengthOfRun 27 = .ok (.invokevirtual 89, 3) := by decide +kernel
theorem dX1_lengthOfRun_30 : decode cX1_lengthOfRun 30 = .ok (.ifCond .ne 6, 3) := by decide +kernel
theorem dX1_lengthOfRun_33 : decode cX1_lengthOfRun 33 = .ok (.iinc 2 1, 3) := by decide +kernel
theorem dX1_lengthOfRun_36 : decode cX1_lengthOfRun 36 = .ok (.iinc 4 1, 3) := by decide +kernel
theorem dX1_lengthOfRun_39 : decode cX1_lengthOfRun 39 = .ok (.goto (-32), 3) := by decide +kernel
theorem dX1_lengthOfRun_42 : decode cX1_lengthOfRun 42 = .ok (.iload_n 3, 1) := by decide +kernel
theorem dX1_lengthOfRun_43 : decode cX1_lengthOfRun 43 = .ok (.ireturn, 1) := by decide +kernel
theorem dX1_lowestAlike_0 : decode cX1_lowestAlike 0 = .ok (.iconst 0, 1) := by decide +kernel
theorem dX1_lowestAlike_1 : decode cX1_lowestAlike 1 = .ok (.istore_n 2, 1) := by decide +kernel
theorem dX1_lowestAlike_2 : decode cX1_lowestAlike 2 = .ok (.iload_n 2, 1) := by decide +kernel
theorem dX1_lowestAlike_3 : decode cX1_lowestAlike 3 = .ok (.aload_n 0, 1) := by decide +kernel
theorem dX1_lowestAlike_4 : decode cX1_lowestAlike 4 = .ok (.getfield 24, 3) := by decide +kernel
theorem dX1_lowestAlike_7 : decode cX1_lowestAlike 7 = .ok (.if_icmp .ge 25, 3) := by decide +kernel
theorem dX1_lowestAlike_10 : decode cX1_lowestAlike 10 = .ok (.iload_n 2, 1) := by decide +kernel
theorem dX1_lowestAlike_11 : decode cX1_lowestAlike 11 = .ok (.iload_n 1, 1) := by decide +kernel
theorem dX1_lowestAlike_12 : decode cX1_lowestAlike 12 = .ok (.if_icmp .eq 14, 3) := by decide +kernel
theorem dX1_lowestAlike_15 : decode cX1_lowestAlike 15 = .ok (.aload_n 0, 1) := by decide +kernel
theorem dX1_lowestAlike_16 : decode cX1_lowestAlike 16 = .ok (.iload_n 1, 1) := by decide +kernel
theorem dX1_lowestAlike_17 : decode cX1_lowestAlike 17 = .ok (.iload_n 2, 1) := by decide +kernel
theorem dX1_lowestAlike_18 : decode cX1_lowestAlike 18 = .ok (.invokevirtual 92, 3) := by decide +kernel
theorem dX1_lowestAlike_21 : decode cX1_lowestAlike 21 = .ok (.ifCond .eq 5, 3) := by decide +kernel
theorem dX1_lowestAlike_24 : decode cX1_lowestAlike 24 = .ok (.iload_n 2, 1) := by decide +kernel
theorem dX1_lowestAlike_25 : decode cX1_lowestAlike 25 = .ok (.ireturn, 1) := by decide +kernel
theorem dX1_lowestAlike_26 : decode cX1_lowestAlike 26 = .ok (.iinc 2 1, 3) := by decide +kernel
theorem dX1_lowestAlike_29 : decode cX1_lowestAlike 29 = .ok (.goto (-27), 3) := by decide +kernel
theorem dX1_lowestAlike_32 : decode cX1_lowestAlike 32 = .ok (.bipush (-3), 2) := by decide +kernel
theorem dX1_lowestAlike_34 : decode cX1_lowestAlike 34 = .ok (.ireturn, 1) := by decide +kernel
theorem dX1_lowestCover_0 : decode cX1_lowestCover 0 = .ok (.iconst 0, 1) := by decide +kernel
theorem dX1_lowestCover_1 : decode cX1_lowestCover 1 = .ok (.istore_n 2, 1) := by decide +kernel
theorem dX1_lowestCover_2 : decode cX1_lowestCover 2 = .ok (.iload_n 2, 1) := by decide +kernel
theorem dX1_lowestCover_3 : decode cX1_lowestCover 3 = .ok (.aload_n 0, 1) := by decide +kernel
theorem dX1_lowestCover_4 : decode cX1_lowestCover 4 = .ok (.getfield 24, 3) := by decide +kernel
theorem dX1_lowestCover_7 : decode cX1_lowestCover 7 = .ok (.if_icmp .ge 20, 3) := by decide +kernel
theorem dX1_lowestCover_10 : decode cX1_lowestCover 10 = .ok (.aload_n 0, 1) := by decide +kernel
theorem dX1_lowestCover_11 : decode cX1_lowestCover 11 = .ok (.iload_n 2, 1) := by decide +kernel
theorem dX1_lowestCover_12 : decode cX1_lowestCover 12 = .ok (.iload_n 1, 1) := by decide +kernel
theorem dX1_lowestCover_13 : decode cX1_lowestCover 13 = .ok (.invokevirtual 95, 3) := by decide +kernel
theorem dX1_lowestCover_16 : decode cX1_lowestCover 16 = .ok (.ifCond .eq 5, 3) := by decide +kernel
theorem dX1_lowestCover_19 : decode cX1_lowestCover 19 = .ok (.iload_n 2, 1) := by decide +kernel
theorem dX1_lowestCover_20 : decode cX1_lowestCover 20 = .ok (.ireturn, 1) := by decide +kernel
theorem dX1_lowestCover_21 : decode cX1_lowestCover 21 = .ok (.iinc 2 1, 3) := by decide +kernel
theorem dX1_lowestCover_24 : decode cX1_lowestCover 24 = .ok (.goto (-22), 3) := by decide +kernel
theorem dX1_lowestCover_27 : decode cX1_lowestCover 27 = .ok (.bipush (-3), 2) := by decide +kernel
theorem dX1_lowestCover_29 : decode cX1_lowestCover 29 = .ok (.ireturn, 1) := by decide +kernel
theorem dX1_areAlike_0 : decode cX1_areAlike 0 = .ok (.aload_n 0, 1) := by decide +kernel
theorem dX1_areAlike_1 : decode cX1_areAlike 1 = .ok (.iload_n 1, 1) := by decide +kernel
theorem dX1_areAlike_2 : decode cX1_areAlike 2 = .ok (.invokevirtual 98, 3) := by decide +kernel
theorem dX1_areAlike_5 : decode cX1_areAlike 5 = .ok (.aload_n 0, 1) := by decide +kernel
theorem dX1_areAlike_6 : decode cX1_areAlike 6 = .ok (.iload_n 2, 1) := by decide +kernel
theorem dX1_areAlike_7 : decode cX1_areAlike 7 = .ok (.invokevirtual 98, 3) := by decide +kernel
theorem dX1_areAlike_10 : decode cX1_areAlike 10 = .ok (.if_icmp .eq 5, 3) := by decide +kernel
theorem dX1_areAlike_13 : decode cX1_areAlike 13 = .ok (.iconst 0, 1) := by decide +kernel
theorem dX1_areAlike_14 : decode cX1_areAlike 14 = .ok (.ireturn, 1) := by decide +kernel
theorem dX1_areAlike_15 : decode cX1_areAlike 15 = .ok (.iconst 2, 1) := by decide +kernel
theorem dX1_areAlike_16 : decode cX1_areAlike 16 = .ok (.iload_n 1, 1) := by decide +kernel
theorem dX1_areAlike_17 : decode cX1_areAlike 17 = .ok (.imul, 1) := by decide +kernel
theorem dX1_areAlike_18 : decode cX1_areAlike 18 = .ok (.istore_n 3, 1) := by decide +kernel
theorem dX1_areAlike_19 : decode cX1_areAlike 19 = .ok (.iload_n 3, 1) := by decide +kernel
theorem dX1_areAlike_20 : decode cX1_areAlike 20 = .ok (.iconst 1, 1) := by decide +kernel
theorem dX1_areAlike_21 : decode cX1_areAlike 21 = .ok (.iadd, 1) := by decide +kernel
theorem dX1_areAlike_22 : decode cX1_areAlike 22 = .ok (.istore 4, 2) := by decide +kernel
theorem dX1_areAlike_24 : decode cX1_areAlike 24 = .ok (.aload_n 0, 1) := by decide +kernel
theorem dX1_areAlike_25 : decode cX1_areAlike 25 = .ok (.iload_n 3, 1) := by decide +kernel
theorem dX1_areAlike_26 : decode cX1_areAlike 26 = .ok (.iconst 2, 1) := by decide +kernel
theorem dX1_areAlike_27 : decode cX1_areAlike 27 = .ok (.iload_n 2, 1) := by decide +kernel
theorem dX1_areAlike_28 : decode cX1_areAlike 28 = .ok (.imul, 1) := by decide +kernel
theorem dX1_areAlike_29 : decode cX1_areAlike 29 = .ok (.invokevirtual 101, 3) := by decide +kernel
theorem dX1_areAlike_32 : decode cX1_areAlike 32 = .ok (.ifCond .eq 17, 3) := by decide +kernel
theorem dX1_areAlike_35 : decode cX1_areAlike 35 = .ok (.aload_n 0, 1) := by decide +kernel
theorem dX1_areAlike_36 : decode cX1_areAlike 36 = .ok (.iload 4, 2) := by decide +kernel
theorem dX1_areAlike_38 : decode cX1_areAlike 38 = .ok (.iconst 2, 1) := by decide +kernel
theorem dX1_areAlike_39 : decode cX1_areAlike 39 = .ok (.iload_n 2, 1) := by decide +kernel
theorem dX1_areAlike_40 : decode cX1_areAlike 40 = .ok (.imul, 1) := by decide +kernel
theorem dX1_areAlike_41 : decode cX1_areAlike 41 = .ok (.iconst 1, 1) := by decide +kernel
theorem dX1_areAlike_42 : decode cX1_areAlike 42 = .ok (.iadd, 1) := by decide +kernel
theorem dX1_areAlike_43 : decode cX1_areAlike 43 = .ok (.invokevirtual 101, 3) := by decide +kernel
theorem dX1_areAlike_46 : decode cX1_areAlike 46 = .ok (.ifCond .ne 28, 3) := by decide +kernel
theorem dX1_areAlike_49 : decode cX1_areAlike 49 = .ok (.aload_n 0, 1) := by decide +kernel
theorem dX1_areAlike_50 : decode cX1_areAlike 50 = .ok (.iload_n 3, 1) := by decide +kernel
theorem dX1_areAlike_51 : decode cX1_areAlike 51 = .ok (.iconst 2, 1) := by decide +kernel
theorem dX1_areAlike_52 : decode cX1_areAlike 52 = .ok (.iload_n 2, 1) := by decide +kernel
theorem dX1_areAlike_53 : decode cX1_areAlike 53 = .ok (.imul, 1) := by decide +kernel
theorem dX1_areAlike_54 : decode cX1_areAlike 54 = .ok (.iconst 1, 1) := by decide +kernel
theorem dX1_areAlike_55 : decode cX1_areAlike 55 = .ok (.iadd, 1) := by decide +kernel
theorem dX1_areAlike_56 : decode cX1_areAlike 56 = .ok (.invokevirtual 101, 3) := by decide +kernel
theorem dX1_areAlike_59 : decode cX1_areAlike 59 = .ok (.ifCond .eq 19, 3) := by decide +kernel
theorem dX1_areAlike_62 : decode cX1_areAlike 62 = .ok (.aload_n 0, 1) := by decide +kernel
theorem dX1_areAlike_63 : decode cX1_areAlike 63 = .ok (.iload 4, 2) := by decide +kernel
theorem dX1_areAlike_65 : decode cX1_areAlike 65 = .ok (.iconst 2, 1) := by decide +kernel
theorem dX1_areAlike_66 : decode cX1_areAlike 66 = .ok (.iload_n 2, 1) := by decide +kernel
theorem dX1_areAlike_67 : decode cX1_areAlike 67 = .ok (.imul, 1) := by decide +kernel
theorem dX1_areAlike_68 : decode cX1_areAlike 68 = .ok (.invokevirtual 101, 3) := by decide +kernel
theorem dX1_areAlike_71 : decode cX1_areAlike 71 = .ok (.ifCond .eq 7, 3) := by decide +kernel
theorem dX1_areAlike_74 : decode cX1_areAlike 74 = .ok (.iconst 1, 1) := by decide +kernel
theorem dX1_areAlike_75 : decode cX1_areAlike 75 = .ok (.goto 4, 3) := by decide +kernel
theorem dX1_areAlike_78 : decode cX1_areAlike 78 = .ok (.iconst 0, 1) := by decide +kernel
theorem dX1_areAlike_79 : decode cX1_areAlike 79 = .ok (.ireturn, 1) := by decide +kernel
theorem dX1_covers_0 : decode cX1_covers 0 = .ok (.aload_n 0, 1) := by decide +kernel
theorem dX1_covers_1 : decode cX1_covers 1 = .ok (.iload_n 1, 1) := by decide +kernel
theorem dX1_covers_2 : decode cX1_covers 2 = .ok (.invokevirtual 98, 3) := by decide +kernel
theorem dX1_covers_5 : decode cX1_covers 5 = .ok (.aload_n 0, 1) := by decide +kernel
theorem dX1_covers_6 : decode cX1_covers 6 = .ok (.iload_n 2, 1) := by decide +kernel
theorem dX1_covers_7 : decode cX1_covers 7 = .ok (.invokevirtual 98, 3) := by decide +kernel
theorem dX1_covers_10 : decode cX1_covers 10 = .ok (.if_icmp .ne 40, 3) := by decide +kernel
theorem dX1_covers_13 : decode cX1_covers 13 = .ok (.aload_n 0, 1) := by decide +kernel
theorem dX1_covers_14 : decode cX1_covers 14 = .ok (.iload_n 1, 1) := by decide +kernel
theorem dX1_covers_15 : decode cX1_covers 15 = .ok (.iload_n 2, 1) := by decide +kernel
theorem dX1_covers_16 : decode cX1_covers 16 = .ok (.invokevirtual 92, 3) := by decide +kernel
theorem dX1_covers_19 : decode cX1_covers 19 = .ok (.ifCond .ne 31, 3) := by decide +kernel
theorem dX1_covers_22 : decode cX1_covers 22 = .ok (.aload_n 0, 1) := by decide +kernel
theorem dX1_covers_23 : decode cX1_covers 23 = .ok (.iconst 2, 1) := by decide +kernel
theorem dX1_covers_24 : decode cX1_covers 24 = .ok (.iload_n 2, 1) := by decide +kernel
theorem dX1_covers_25 : decode cX1_covers 25 = .ok (.imul, 1) := by decide +kernel
theorem dX1_covers_26 : decode cX1_covers 26 = .ok (.iload_n 1, 1) := by decide +kernel
theorem dX1_covers_27 : decode cX1_covers 27 = .ok (.invokevirtual 104, 3) := by decide +kernel
theorem dX1_covers_30 : decode cX1_covers 30 = .ok (.ifCond .eq 20, 3) := by decide +kernel
theorem dX1_covers_33 : decode cX1_covers 33 = .ok (.aload_n 0, 1) := by decide +kernel
theorem dX1_covers_34 : decode cX1_covers 34 = .ok (.iconst 2, 1) := by decide +kernel
theorem dX1_covers_35 : decode cX1_covers 35 = .ok (.iload_n 2, 1) := by decide +kernel
theorem dX1_covers_36 : decode cX1_covers 36 = .ok (.imul, 1) := by decide +kernel
theorem dX1_covers_37 : decode cX1_covers 37 = .ok (.iconst 1, 1) := by decide +kernel
theorem dX1_covers_38 : decode cX1_covers 38 = .ok (.iadd, 1) := by decide +kernel
theorem dX1_covers_39 : decode cX1_covers 39 = .ok (.iload_n 1, 1) := by decide +kernel
theorem dX1_covers_40 : decode cX1_covers 40 = .ok (.invokevirtual 104, 3) := by decide +kernel
theorem dX1_covers_43 : decode cX1_covers 43 = .ok (.ifCond .eq 7, 3) := by decide +kernel
theorem dX1_covers_46 : decode cX1_covers 46 = .ok (.iconst 1, 1) := by decide +kernel
theorem dX1_covers_47 : decode cX1_covers 47 = .ok (.goto 4, 3) := by decide +kernel
theorem dX1_covers_50 : decode cX1_covers 50 = .ok (.iconst 0, 1) := by decide +kernel
theorem dX1_covers_51 : decode cX1_covers 51 = .ok (.ireturn, 1) := by decide +kernel
theorem dX1_liesOn_0 : decode cX1_liesOn 0 = .ok (.aload_n 0, 1) := by decide +kernel
theorem dX1_liesOn_1 : decode cX1_liesOn 1 = .ok (.iload_n 1, 1) := by decide +kernel
theorem dX1_liesOn_2 : decode cX1_liesOn 2 = .ok (.invokevirtual 72, 3) := by decide +kernel
theorem dX1_liesOn_5 : decode cX1_liesOn 5 = .ok (.istore_n 3, 1) := by decide +kernel
theorem dX1_liesOn_6 : decode cX1_liesOn 6 = .ok (.aload_n 0, 1) := by decide +kernel
theorem dX1_liesOn_7 : decode cX1_liesOn 7 = .ok (.iload_n 1, 1) := by decide +kernel
theorem dX1_liesOn_8 : decode cX1_liesOn 8 = .ok (.invokevirtual 75, 3) := by decide +kernel
theorem dX1_liesOn_11 : decode cX1_liesOn 11 = .ok (.istore 4, 2) := by decide +kernel
theorem dX1_liesOn_13 : decode cX1_liesOn 13 = .ok (.aload_n 0, 1) := by decide +kernel
theorem dX1_liesOn_14 : decode cX1_liesOn 14 = .ok (.iconst 2, 1) := by decide +kernel
theorem dX1_liesOn_15 : decode cX1_liesOn 15 = .ok (.iload_n 2, 1) := by decide +kernel
theorem dX1_liesOn_16 : decode cX1_liesOn 16 = .ok (.imul, 1) := by decide +kernel
theorem dX1_liesOn_17 : decode cX1_liesOn 17 = .ok (.invokevirtual 72, 3) := by decide +kernel
theorem dX1_liesOn_20 : decode cX1_liesOn 20 = .ok (.istore 5, 2) := by decide +kernel
theorem dX1_liesOn_22 : decode cX1_liesOn 22 = .ok (.aload_n 0, 1) := by decide +kernel
theorem dX1_liesOn_23 : decode cX1_liesOn 23 = .ok (.iconst 2, 1) := by decide +kernel
theorem dX1_liesOn_24 : decode cX1_liesOn 24 = .ok (.iload_n 2, 1) := by decide +kernel
theorem dX1_liesOn_25 : decode cX1_liesOn 25 = .ok (.imul, 1) := by decide +kernel
theorem dX1_liesOn_26 : decode cX1_liesOn 26 = .ok (.invokevirtual 75, 3) := by decide +kernel
theorem dX1_liesOn_29 : decode cX1_liesOn 29 = .ok (.istore 6, 2) := by decide +kernel
theorem dX1_liesOn_31 : decode cX1_liesOn 31 = .ok (.aload_n 0, 1) := by decide +kernel
theorem dX1_liesOn_32 : decode cX1_liesOn 32 = .ok (.iconst 2, 1) := by decide +kernel
theorem dX1_liesOn_33 : decode cX1_liesOn 33 = .ok (.iload_n 2, 1) := by decide +kernel
theorem dX1_liesOn_34 : decode cX1_liesOn 34 = .ok (.imul, 1) := by decide +kernel
theorem dX1_liesOn_35 : decode cX1_liesOn 35 = .ok (.invokevirtual 66, 3) := by decide +kernel
theorem dX1_liesOn_38 : decode cX1_liesOn 38 = .ok (.istore 7, 2) := by decide +kernel
theorem dX1_liesOn_40 : decode cX1_liesOn 40 = .ok (.aload_n 0, 1) := by decide +kernel
theorem dX1_liesOn_41 : decode cX1_liesOn 41 = .ok (.iconst 2, 1) := by decide +kernel
theorem dX1_liesOn_42 : decode cX1_liesOn 42 = .ok (.iload_n 2, 1) := by decide +kernel
theorem dX1_liesOn_43 : decode cX1_liesOn 43 = .ok (.imul, 1) := by decide +kernel
theorem dX1_liesOn_44 : decode cX1_liesOn 44 = .ok (.invokevirtual 69, 3) := by decide +kernel
theorem dX1_liesOn_47 : decode cX1_liesOn 47 = .ok (.istore 8, 2) := by decide +kernel
theorem dX1_liesOn_49 : decode cX1_liesOn 49 = .ok (.iload 7, 2) := by decide +kernel
theorem dX1_liesOn_51 : decode cX1_liesOn 51 = .ok (.iload 5, 2) := by decide +kernel
theorem dX1_liesOn_53 : decode cX1_liesOn 53 = .ok (.isub, 1) := by decide +kernel
theorem dX1_liesOn_54 : decode cX1_liesOn 54 = .ok (.iload 4, 2) := by decide +kernel
theorem dX1_liesOn_56 : decode cX1_liesOn 56 = .ok (.iload 6, 2) := by decide +kernel
theorem dX1_liesOn_58 : decode cX1_liesOn 58 = .ok (.isub, 1) := by decide +kernel
theorem dX1_liesOn_59 : decode cX1_liesOn 59 = .ok (.imul, 1) := by decide +kernel
theorem dX1_liesOn_60 : decode cX1_liesOn 60 = .ok (.iload 8, 2) := by decide +kernel
theorem dX1_liesOn_62 : decode cX1_liesOn 62 = .ok (.iload 6, 2) := by decide +kernel
theorem dX1_liesOn_64 : decode cX1_liesOn 64 = .ok (.isub, 1) := by decide +kernel
theorem dX1_liesOn_65 : decode cX1_liesOn 65 = .ok (.iload_n 3, 1) := by decide +kernel
theorem dX1_liesOn_66 : decode cX1_liesOn 66 = .ok (.iload 5, 2) := by decide +kernel
theorem dX1_liesOn_68 : decode cX1_liesOn 68 = .ok (.isub, 1) := by decide +kernel
theorem dX1_liesOn_69 : decode cX1_liesOn 69 = .ok (.imul, 1) := by decide +kernel
theorem dX1_liesOn_70 : decode cX1_liesOn 70 = .ok (.if_icmp .ne 50, 3) := by decide +kernel
theorem dX1_liesOn_73 : decode cX1_liesOn 73 = .ok (.iload_n 3, 1) := by decide +kernel
theorem dX1_liesOn_74 : decode cX1_liesOn 74 = .ok (.iload 5, 2) := by decide +kernel
theorem dX1_liesOn_76 : decode cX1_liesOn 76 = .ok (.iload 7, 2) := by decide +kernel
theorem dX1_liesOn_78 : decode cX1_liesOn 78 = .ok (.invokestatic 107, 3) := by decide +kernel
theorem dX1_liesOn_81 : decode cX1_liesOn 81 = .ok (.iload 5, 2) := by decide +kernel
theorem dX1_liesOn_83 : decode cX1_liesOn 83 = .ok (.iload 7, 2) := by decide +kernel
theorem dX1_liesOn_85 : decode cX1_liesOn 85 = .ok (.invokestatic 113, 3) := by decide +kernel
theorem dX1_liesOn_88 : decode cX1_liesOn 88 = .ok (.invokestatic 116, 3) := by decide +kernel
theorem dX1_liesOn_91 : decode cX1_liesOn 91 = .ok (.ifCond .eq 29, 3) := by decide +kernel
theorem dX1_liesOn_94 : decode cX1_liesOn 94 = .ok (.iload 4, 2) := by decide +kernel
theorem dX1_liesOn_96 : decode cX1_liesOn 96 = .ok (.iload 6, 2) := by decide +kernel
theorem dX1_liesOn_98 : decode cX1_liesOn 98 = .ok (.iload 8, 2) := by decide +kernel
theorem dX1_liesOn_100 : decode cX1_liesOn 100 = .ok (.invokestatic 107, 3) := by decide +kernel
theorem dX1_liesOn_103 : decode cX1_liesOn 103 = .ok (.iload 6, 2) := by decide +kernel
theorem dX1_liesOn_105 : decode cX1_liesOn 105 = .ok (.iload 8, 2) := by decide +kernel
theorem dX1_liesOn_107 : decode cX1_liesOn 107 = .ok (.invokestatic 113, 3) := by decide +kernel
theorem dX1_liesOn_110 : decode cX1_liesOn 110 = .ok (.invokestatic 116, 3) := by decide +kernel
theorem dX1_liesOn_113 : decode cX1_liesOn 113 = .ok (.ifCond .eq 7, 3) := by decide +kernel
theorem dX1_liesOn_116 : decode cX1_liesOn 116 = .ok (.iconst 1, 1) := by decide +kernel
theorem dX1_liesOn_117 : decode cX1_liesOn 117 = .ok (.goto 4, 3) := by decide +kernel
theorem dX1_liesOn_120 : decode cX1_liesOn 120 = .ok (.iconst 0, 1) := by decide +kernel
theorem dX1_liesOn_121 : decode cX1_liesOn 121 = .ok (.ireturn, 1) := by decide +kernel
theorem dX1_samePoint_0 : decode cX1_samePoint 0 = .ok (.aload_n 0, 1) := by decide +kernel
theorem dX1_samePoint_1 : decode cX1_samePoint 1 = .ok (.iload_n 1, 1) := by decide +kernel
theorem dX1_samePoint_2 : decode cX1_samePoint 2 = .ok (.invokevirtual 72, 3) := by decide +kernel
theorem dX1_samePoint_5 : decode cX1_samePoint 5 = .ok (.aload_n 0, 1) := by decide +kernel
theorem dX1_samePoint_6 : decode cX1_samePoint 6 = .ok (.iload_n 2, 1) := by decide +kernel
theorem dX1_samePoint_7 : decode cX1_samePoint 7 = .ok (.invokevirtual 72, 3) := by decide +kernel
theorem dX1_samePoint_10 : decode cX1_samePoint 10 = .ok (.if_icmp .ne 20, 3) := by decide +kernel
theorem dX1_samePoint_13 : decode cX1_samePoint 13 = .ok (.aload_n 0, 1) := by decide +kernel
theorem dX1_samePoint_14 : decode cX1_samePoint 14 = .ok (.iload_n 1, 1) := by decide +kernel
theorem dX1_samePoint_15 : decode cX1_samePoint 15 = .ok (.invokevirtual 75, 3) := by decide +kernel
theorem dX1_samePoint_18 : decode cX1_samePoint 18 = .ok (.aload_n 0, 1) := by decide +kernel
theorem dX1_samePoint_19 : decode cX1_samePoint 19 = .ok (.iload_n 2, 1) := by decide +kernel
theorem dX1_samePoint_20 : decode cX1_samePoint 20 = .ok (.invokevirtual 75, 3) := by decide +kernel
theorem dX1_samePoint_23 : decode cX1_samePoint 23 = .ok (.if_icmp .ne 7, 3) := by decide +kernel
theorem dX1_samePoint_26 : decode cX1_samePoint 26 = .ok (.iconst 1, 1) := by decide +kernel
theorem dX1_samePoint_27 : decode cX1_samePoint 27 = .ok (.goto 4, 3) := by decide +kernel
theorem dX1_samePoint_30 : decode cX1_samePoint 30 = .ok (.iconst 0, 1) := by decide +kernel
theorem dX1_samePoint_31 : decode cX1_samePoint 31 = .ok (.ireturn, 1) := by decide +kernel
theorem dX1_lengthAt_0 : decode cX1_lengthAt 0 = .ok (.aload_n 0, 1) := by decide +kernel
theorem dX1_lengthAt_1 : decode cX1_lengthAt 1 = .ok (.iload_n 1, 1) := by decide +kernel
theorem dX1_lengthAt_2 : decode cX1_lengthAt 2 = .ok (.invokevirtual 120, 3) := by decide +kernel
theorem dX1_lengthAt_5 : decode cX1_lengthAt 5 = .ok (.istore_n 2, 1) := by decide +kernel
theorem dX1_lengthAt_6 : decode cX1_lengthAt 6 = .ok (.aload_n 0, 1) := by decide +kernel
theorem dX1_lengthAt_7 : decode cX1_lengthAt 7 = .ok (.iload_n 2, 1) := by decide +kernel
theorem dX1_lengthAt_8 : decode cX1_lengthAt 8 = .ok (.invokevirtual 72, 3) := by decide +kernel
theorem dX1_lengthAt_11 : decode cX1_lengthAt 11 = .ok (.aload_n 0, 1) := by decide +kernel
theorem dX1_lengthAt_12 : decode cX1_lengthAt 12 = .ok (.iload_n 2, 1) := by decide +kernel
theorem dX1_lengthAt_13 : decode cX1_lengthAt 13 = .ok (.invokevirtual 75, 3) := by decide +kernel
theorem dX1_lengthAt_16 : decode cX1_lengthAt 16 = .ok (.aload_n 0, 1) := by decide +kernel
theorem dX1_lengthAt_17 : decode cX1_lengthAt 17 = .ok (.iload_n 2, 1) := by decide +kernel
theorem dX1_lengthAt_18 : decode cX1_lengthAt 18 = .ok (.invokevirtual 66, 3) := by decide +kernel
theorem dX1_lengthAt_21 : decode cX1_lengthAt 21 = .ok (.aload_n 0, 1) := by decide +kernel
theorem dX1_lengthAt_22 : decode cX1_lengthAt 22 = .ok (.iload_n 2, 1) := by decide +kernel
theorem dX1_lengthAt_23 : decode cX1_lengthAt 23 = .ok (.invokevirtual 69, 3) := by decide +kernel
theorem dX1_lengthAt_26 : decode cX1_lengthAt 26 = .ok (.invokestatic 78, 3) := by decide +kernel
theorem dX1_lengthAt_29 : decode cX1_lengthAt 29 = .ok (.ireturn, 1) := by decide +kernel
theorem dX1_cornerSquare_0 : decode cX1_cornerSquare 0 = .ok (.aload_n 0, 1) := by decide +kernel
theorem dX1_cornerSquare_1 : decode cX1_cornerSquare 1 = .ok (.iload_n 1, 1) := by decide +kernel
theorem dX1_cornerSquare_2 : decode cX1_cornerSquare 2 = .ok (.invokevirtual 120, 3) := by decide +kernel
theorem dX1_cornerSquare_5 : decode cX1_cornerSquare 5 = .ok (.istore_n 3, 1) := by decide +kernel
theorem dX1_cornerSquare_6 : decode cX1_cornerSquare 6 = .ok (.aload_n 0, 1) := by decide +kernel
theorem dX1_cornerSquare_7 : decode cX1_cornerSquare 7 = .ok (.iload_n 1, 1) := by decide +kernel
theorem dX1_cornerSquare_8 : decode cX1_cornerSquare 8 = .ok (.iconst 1, 1) := by decide +kernel
theorem dX1_cornerSquare_9 : decode cX1_cornerSquare 9 = .ok (.iadd, 1) := by decide +kernel
theorem dX1_cornerSquare_10 : decode cX1_cornerSquare 10 = .ok (.invokevirtual 120, 3) := by decide +kernel
theorem dX1_cornerSquare_13 : decode cX1_cornerSquare 13 = .ok (.istore 4, 2) := by decide +kernel
theorem dX1_cornerSquare_15 : decode cX1_cornerSquare 15 = .ok (.aload_n 0, 1) := by decide +kernel
theorem dX1_cornerSquare_16 : decode cX1_cornerSquare 16 = .ok (.iload_n 3, 1) := by decide +kernel
theorem dX1_cornerSquare_17 : decode cX1_cornerSquare 17 = .ok (.invokevirtual 66, 3) := by decide +kernel
theorem dX1_cornerSquare_20 : decode cX1_cornerSquare 20 = .ok (.aload_n 0, 1) := by decide +kernel
theorem dX1_cornerSquare_21 : decode cX1_cornerSquare 21 = .ok (.iload_n 3, 1) := by decide +kernel
theorem dX1_cornerSquare_22 : decode cX1_cornerSquare 22 = .ok (.invokevirtual 72, 3) := by decide +kernel
theorem dX1_cornerSquare_25 : decode cX1_cornerSquare 25 = .ok (.isub, 1) := by decide +kernel
theorem dX1_cornerSquare_26 : decode cX1_cornerSquare 26 = .ok (.istore 5, 2) := by decide +kernel
theorem dX1_cornerSquare_28 : decode cX1_cornerSquare 28 = .ok (.aload_n 0, 1) := by decide +kernel
theorem dX1_cornerSquare_29 : decode cX1_cornerSquare 29 = .ok (.iload_n 3, 1) := by decide +kernel
theorem dX1_cornerSquare_30 : decode cX1_cornerSquare 30 = .ok (.invokevirtual 69, 3) := by decide +kernel
theorem dX1_cornerSquare_33 : decode cX1_cornerSquare 33 = .ok (.aload_n 0, 1) := by decide +kernel
theorem dX1_cornerSquare_34 : decode cX1_cornerSquare 34 = .ok (.iload_n 3, 1) := by decide +kernel
theorem dX1_cornerSquare_35 : decode cX1_cornerSquare 35 = .ok (.invokevirtual 75, 3) := by decide +kernel
theorem dX1_cornerSquare_38 : decode cX1_cornerSquare 38 = .ok (.isub, 1) := by decide +kernel
theorem dX1_cornerSquare_39 : decode cX1_cornerSquare 39 = .ok (.istore 6, 2) := by decide +kernel
theorem dX1_cornerSquare_41 : decode cX1_cornerSquare 41 = .ok (.aload_n 0, 1) := by decide +kernel
theorem dX1_cornerSquare_42 : decode cX1_cornerSquare 42 = .ok (.iload 4, 2) := by decide +kernel
theorem dX1_cornerSquare_44 : decode cX1_cornerSquare 44 = .ok (.invokevirtual 66, 3) := by decide +kernel
theorem dX1_cornerSquare_47 : decode cX1_cornerSquare 47 = .ok (.aload_n 0, 1) := by decide +kernel
theorem dX1_cornerSquare_48 : decode cX1_cornerSquare 48 = .ok (.iload 4, 2) := by decide +kernel
theorem dX1_cornerSquare_50 : decode cX1_cornerSquare 50 = .ok (.invokevirtual 72, 3) := by decide +kernel
theorem dX1_cornerSquare_53 : decode cX1_cornerSquare 53 = .ok (.isub, 1) := by decide +kernel
theorem dX1_cornerSquare_54 : decode cX1_cornerSquare 54 = .ok (.istore 7, 2) := by decide +kernel
theorem dX1_cornerSquare_56 : decode cX1_cornerSquare 56 = .ok (.aload_n 0, 1) := by decide +kernel
theorem dX1_cornerSquare_57 : decode cX1_cornerSquare 57 = .ok (.iload 4, 2) := by decide +kernel
theorem dX1_cornerSquare_59 : decode cX1_cornerSquare 59 = .ok (.invokevirtual 69, 3) := by decide +kernel
theorem dX1_cornerSquare_62 : decode cX1_cornerSquare 62 = .ok (.aload_n 0, 1) := by decide +kernel
theorem dX1_cornerSquare_63 : decode cX1_cornerSquare 63 = .ok (.iload 4, 2) := by decide +kernel
theorem dX1_cornerSquare_65 : decode cX1_cornerSquare 65 = .ok (.invokevirtual 75, 3) := by decide +kernel
theorem dX1_cornerSquare_68 : decode cX1_cornerSquare 68 = .ok (.isub, 1) := by decide +kernel
theorem dX1_cornerSquare_69 : decode cX1_cornerSquare 69 = .ok (.istore 8, 2) := by decide +kernel
theorem dX1_cornerSquare_71 : decode cX1_cornerSquare 71 = .ok (.iload 5, 2) := by decide +kernel
theorem dX1_cornerSquare_73 : decode cX1_cornerSquare 73 = .ok (.iload 7, 2) := by decide +kernel
theorem dX1_cornerSquare_75 : decode cX1_cornerSquare 75 = .ok (.imul, 1) := by decide +kernel
theorem dX1_cornerSquare_76 : decode cX1_cornerSquare 76 = .ok (.iload 6, 2) := by decide +kernel
theorem dX1_cornerSquare_78 : decode cX1_cornerSquare 78 = .ok (.iload 8, 2) := by decide +kernel
theorem dX1_cornerSquare_80 : decode cX1_cornerSquare 80 = .ok (.imul, 1) := by decide +kernel
theorem dX1_cornerSquare_81 : decode cX1_cornerSquare 81 = .ok (.iadd, 1) := by decide +kernel
theorem dX1_cornerSquare_82 : decode cX1_cornerSquare 82 = .ok (.ifCond .gt 5, 3) := by decide +kernel
theorem dX1_cornerSquare_85 : decode cX1_cornerSquare 85 = .ok (.iconst 0, 1) := by decide +kernel
theorem dX1_cornerSquare_86 : decode cX1_cornerSquare 86 = .ok (.ireturn, 1) := by decide +kernel
theorem dX1_cornerSquare_87 : decode cX1_cornerSquare 87 = .ok (.iload 5, 2) := by decide +kernel
theorem dX1_cornerSquare_89 : decode cX1_cornerSquare 89 = .ok (.iload 8, 2) := by decide +kernel
theorem dX1_cornerSquare_91 : decode cX1_cornerSquare 91 = .ok (.imul, 1) := by decide +kernel
theorem dX1_cornerSquare_92 : decode cX1_cornerSquare 92 = .ok (.iload 6, 2) := by decide +kernel
theorem dX1_cornerSquare_94 : decode cX1_cornerSquare 94 = .ok (.iload 7, 2) := by decide +kernel
theorem dX1_cornerSquare_96 : decode cX1_cornerSquare 96 = .ok (.imul, 1) := by decide +kernel
theorem dX1_cornerSquare_97 : decode cX1_cornerSquare 97 = .ok (.if_icmp .ne 7, 3) := by decide +kernel
theorem dX1_cornerSquare_100 : decode cX1_cornerSquare 100 = .ok (.iload_n 2, 1) := by decide +kernel
theorem dX1_cornerSquare_101 : decode cX1_cornerSquare 101 = .ok (.goto 6, 3) := by decide +kernel
theorem dX1_cornerSquare_104 : decode cX1_cornerSquare 104 = .ok (.iload_n 2, 1) := by decide +kernel
theorem dX1_cornerSquare_105 : decode cX1_cornerSquare 105 = .ok (.iconst 4, 1) := by decide +kernel
theorem dX1_cornerSquare_106 : decode cX1_cornerSquare 106 = .ok (.idiv, 1) := by decide +kernel
theorem dX1_cornerSquare_107 : decode cX1_cornerSquare 107 = .ok (.ireturn, 1) := by decide +kernel
theorem dX1_wayLength_0 : decode cX1_wayLength 0 = .ok (.iload_n 0, 1) := by decide +kernel
theorem dX1_wayLength_1 : decode cX1_wayLength 1 = .ok (.iload_n 2, 1) := by decide +kernel
theorem dX1_wayLength_2 : decode cX1_wayLength 2 = .ok (.isub, 1) := by decide +kernel
theorem dX1_wayLength_3 : decode cX1_wayLength 3 = .ok (.invokestatic 123, 3) := by decide +kernel
theorem dX1_wayLength_6 : decode cX1_wayLength 6 = .ok (.iload_n 1, 1) := by decide +kernel
theorem dX1_wayLength_7 : decode cX1_wayLength 7 = .ok (.iload_n 3, 1) := by decide +kernel
theorem dX1_wayLength_8 : decode cX1_wayLength 8 = .ok (.isub, 1) := by decide +kernel
theorem dX1_wayLength_9 : decode cX1_wayLength 9 = .ok (.invokestatic 123, 3) := by decide +kernel
theorem dX1_wayLength_12 : decode cX1_wayLength 12 = .ok (.invokestatic 113, 3) := by decide +kernel
theorem dX1_wayLength_15 : decode cX1_wayLength 15 = .ok (.ireturn, 1) := by decide +kernel
theorem dX1_hasCode_0 : decode cX1_hasCode 0 = .ok (.iload_n 1, 1) := by decide +kernel
theorem dX1_hasCode_1 : decode cX1_hasCode 1 = .ok (.ifCond .lt 17, 3) := by decide +kernel
theorem dX1_hasCode_4 : decode cX1_hasCode 4 = .ok (.iload_n 1, 1) := by decide +kernel
theorem dX1_hasCode_5 : decode cX1_hasCode 5 = .ok (.iconst 2, 1) := by decide +kernel
theorem dX1_hasCode_6 : decode cX1_hasCode 6 = .ok (.aload_n 0, 1) := by decide +kernel
theorem dX1_hasCode_7 : decode cX1_hasCode 7 = .ok (.getfield 24, 3) := by decide +kernel
theorem dX1_hasCode_10 : decode cX1_hasCode 10 = .ok (.imul, 1) := by decide +kernel
theorem dX1_hasCode_11 : decode cX1_hasCode 11 = .ok (.if_icmp .ge 7, 3) := by decide +kernel
theorem dX1_hasCode_14 : decode cX1_hasCode 14 = .ok (.iconst 1, 1) := by decide +kernel
theorem dX1_hasCode_15 : decode cX1_hasCode 15 = .ok (.goto 4, 3) := by decide +kernel
theorem dX1_hasCode_18 : decode cX1_hasCode 18 = .ok (.iconst 0, 1) := by decide +kernel
theorem dX1_hasCode_19 : decode cX1_hasCode 19 = .ok (.ireturn, 1) := by decide +kernel
theorem dX1_penOfCode_0 : decode cX1_penOfCode 0 = .ok (.aload_n 0, 1) := by decide +kernel
theorem dX1_penOfCode_1 : decode cX1_penOfCode 1 = .ok (.iload_n 1, 1) := by decide +kernel
theorem dX1_penOfCode_2 : decode cX1_penOfCode 2 = .ok (.invokevirtual 35, 3) := by decide +kernel
theorem dX1_penOfCode_5 : decode cX1_penOfCode 5 = .ok (.ifCond .eq 14, 3) := by decide +kernel
theorem dX1_penOfCode_8 : decode cX1_penOfCode 8 = .ok (.aload_n 0, 1) := by decide +kernel
theorem dX1_penOfCode_9 : decode cX1_penOfCode 9 = .ok (.getfield 9, 3) := by decide +kernel
theorem dX1_penOfCode_12 : decode cX1_penOfCode 12 = .ok (.iload_n 1, 1) := by decide +kernel
theorem dX1_penOfCode_13 : decode cX1_penOfCode 13 = .ok (.iconst 2, 1) := by decide +kernel
theorem dX1_penOfCode_14 : decode cX1_penOfCode 14 = .ok (.idiv, 1) := by decide +kernel
theorem dX1_penOfCode_15 : decode cX1_penOfCode 15 = .ok (.iaload, 1) := by decide +kernel
theorem dX1_penOfCode_16 : decode cX1_penOfCode 16 = .ok (.goto 4, 3) := by decide +kernel
theorem dX1_penOfCode_19 : decode cX1_penOfCode 19 = .ok (.iconst (-1), 1) := by decide +kernel
theorem dX1_penOfCode_20 : decode cX1_penOfCode 20 = .ok (.ireturn, 1) := by decide +kernel
theorem dX1_beginXOf_0 : decode cX1_beginXOf 0 = .ok (.aload_n 0, 1) := by decide +kernel
theorem dX1_beginXOf_1 : decode cX1_beginXOf 1 = .ok (.iload_n 1, 1) := by decide +kernel
theorem dX1_beginXOf_2 : decode cX1_beginXOf 2 = .ok (.invokevirtual 35, 3) := by decide +kernel
theorem dX1_beginXOf_5 : decode cX1_beginXOf 5 = .ok (.ifCond .eq 12, 3) := by decide +kernel
theorem dX1_beginXOf_8 : decode cX1_beginXOf 8 = .ok (.aload_n 0, 1) := by decide +kernel
theorem dX1_beginXOf_9 : decode cX1_beginXOf 9 = .ok (.getfield 15, 3) := by decide +kernel
theorem dX1_beginXOf_12 : decode cX1_beginXOf 12 = .ok (.iload_n 1, 1) := by decide +kernel
theorem dX1_beginXOf_13 : decode cX1_beginXOf 13 = .ok (.iaload, 1) := by decide +kernel
theorem dX1_beginXOf_14 : decode cX1_beginXOf 14 = .ok (.goto 4, 3) := by decide +kernel
theorem dX1_beginXOf_17 : decode cX1_beginXOf 17 = .ok (.iconst 0, 1) := by decide +kernel
theorem dX1_beginXOf_18 : decode cX1_beginXOf 18 = .ok (.ireturn, 1) := by decide +kernel
theorem dX1_beginYOf_0 : decode cX1_beginYOf 0 = .ok (.aload_n 0, 1) := by decide +kernel
theorem dX1_beginYOf_1 : decode cX1_beginYOf 1 = .ok (.iload_n 1, 1) := by decide +kernel
theorem dX1_beginYOf_2 : decode cX1_beginYOf 2 = .ok (.invokevirtual 35, 3) := by decide +kernel
theorem dX1_beginYOf_5 : decode cX1_beginYOf 5 = .ok (.ifCond .eq 12, 3) := by decide +kernel
theorem dX1_beginYOf_8 : decode cX1_beginYOf 8 = .ok (.aload_n 0, 1) := by decide +kernel
theorem dX1_beginYOf_9 : decode cX1_beginYOf 9 = .ok (.getfield 18, 3) := by decide +kernel
theorem dX1_beginYOf_12 : decode cX1_beginYOf 12 = .ok (.iload_n 1, 1) := by decide +kernel
theorem dX1_beginYOf_13 : decode cX1_beginYOf 13 = .ok (.iaload, 1) := by decide +kernel
theorem dX1_beginYOf_14 : decode cX1_beginYOf 14 = .ok (.goto 4, 3) := by decide +kernel
theorem dX1_beginYOf_17 : decode cX1_beginYOf 17 = .ok (.iconst 0, 1) := by decide +kernel
theorem dX1_beginYOf_18 : decode cX1_beginYOf 18 = .ok (.ireturn, 1) := by decide +kernel
theorem dX1_endXOf_0 : decode cX1_endXOf 0 = .ok (.aload_n 0, 1) := by decide +kernel
theorem dX1_endXOf_1 : decode cX1_endXOf 1 = .ok (.iload_n 1, 1) := by decide +kernel
theorem dX1_endXOf_2 : decode cX1_endXOf 2 = .ok (.invokevirtual 35, 3) := by decide +kernel
theorem dX1_endXOf_5 : decode cX1_endXOf 5 = .ok (.ifCond .eq 14, 3) := by decide +kernel
theorem dX1_endXOf_8 : decode cX1_endXOf 8 = .ok (.aload_n 0, 1) := by decide +kernel
theorem dX1_endXOf_9 : decode cX1_endXOf 9 = .ok (.getfield 15, 3) := by decide +kernel
theorem dX1_endXOf_12 : decode cX1_endXOf 12 = .ok (.iload_n 1, 1) := by decide +kernel
theorem dX1_endXOf_13 : decode cX1_endXOf 13 = .ok (.iconst 1, 1) := by decide +kernel
theorem dX1_endXOf_14 : decode cX1_endXOf 14 = .ok (.ixor, 1) := by decide +kernel
theorem dX1_endXOf_15 : decode cX1_endXOf 15 = .ok (.iaload, 1) := by decide +kernel
theorem dX1_endXOf_16 : decode cX1_endXOf 16 = .ok (.goto 4, 3) := by decide +kernel
theorem dX1_endXOf_19 : decode cX1_endXOf 19 = .ok (.iconst 0, 1) := by decide +kernel
theorem dX1_endXOf_20 : decode cX1_endXOf 20 = .ok (.ireturn, 1) := by decide +kernel
theorem dX1_endYOf_0 : decode cX1_endYOf 0 = .ok (.aload_n 0, 1) := by decide +kernel
theorem dX1_endYOf_1 : decode cX1_endYOf 1 = .ok (.iload_n 1, 1) := by decide +kernel
theorem dX1_endYOf_2 : decode cX1_endYOf 2 = .ok (.invokevirtual 35, 3) := by decide +kernel
theorem dX1_endYOf_5 : decode cX1_endYOf 5 = .ok (.ifCond .eq 14, 3) := by decide +kernel
theorem dX1_endYOf_8 : decode cX1_endYOf 8 = .ok (.aload_n 0, 1) := by decide +kernel
theorem dX1_endYOf_9 : decode cX1_endYOf 9 = .ok (.getfield 18, 3) := by decide +kernel
theorem dX1_endYOf_12 : decode cX1_endYOf 12 = .ok (.iload_n 1, 1) := by decide +kernel
theorem dX1_endYOf_13 : decode cX1_endYOf 13 = .ok (.iconst 1, 1) := by decide +kernel
theorem dX1_endYOf_14 : decode cX1_endYOf 14 = .ok (.ixor, 1) := by decide +kernel
theorem dX1_endYOf_15 : decode cX1_endYOf 15 = .ok (.iaload, 1) := by decide +kernel
theorem dX1_endYOf_16 : decode cX1_endYOf 16 = .ok (.goto 4, 3) := by decide +kernel
theorem dX1_endYOf_19 : decode cX1_endYOf 19 = .ok (.iconst 0, 1) := by decide +kernel
theorem dX1_endYOf_20 : decode cX1_endYOf 20 = .ok (.ireturn, 1) := by decide +kernel
