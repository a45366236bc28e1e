/-! what the bytes say, row by row -/
theorem dX1_init_0 : decode cX1_init 0 = .ok (.aload_n 0, 1) := by decide +kernel
theorem dX1_init_1 : decode cX1_init 1 = .ok (.invokespecial 3, 3) := by decide +kernel
theorem dX1_init_4 : decode cX1_init 4 = .ok (.aload_n 0, 1) := by decide +kernel
theorem dX1_init_5 : decode cX1_init 5 = .ok (.bipush 12, 2) := by decide +kernel
theorem dX1_init_7 : decode cX1_init 7 = .ok (.newarray .char, 2) := by decide +kernel
theorem dX1_init_9 : decode cX1_init 9 = .ok (.putfield 9, 3) := by decide +kernel
theorem dX1_init_12 : decode cX1_init 12 = .ok (.aload_n 0, 1) := by decide +kernel
theorem dX1_init_13 : decode cX1_init 13 = .ok (.bipush 12, 2) := by decide +kernel
theorem dX1_init_15 : decode cX1_init 15 = .ok (.newarray .int, 2) := by decide +kernel
theorem dX1_init_17 : decode cX1_init 17 = .ok (.putfield 15, 3) := by decide +kernel
theorem dX1_init_20 : decode cX1_init 20 = .ok (.aload_n 0, 1) := by decide +kernel
theorem dX1_init_21 : decode cX1_init 21 = .ok (.bipush 12, 2) := by decide +kernel
theorem dX1_init_23 : decode cX1_init 23 = .ok (.newarray .long, 2) := by decide +kernel
theorem dX1_init_25 : decode cX1_init 25 = .ok (.putfield 19, 3) := by decide +kernel
theorem dX1_init_28 : decode cX1_init 28 = .ok (.aload_n 0, 1) := by decide +kernel
theorem dX1_init_29 : decode cX1_init 29 = .ok (.bipush 12, 2) := by decide +kernel
theorem dX1_init_31 : decode cX1_init 31 = .ok (.newarray .long, 2) := by decide +kernel
theorem dX1_init_33 : decode cX1_init 33 = .ok (.putfield 23, 3) := by decide +kernel
theorem dX1_init_36 : decode cX1_init 36 = .ok (.aload_n 0, 1) := by decide +kernel
theorem dX1_init_37 : decode cX1_init 37 = .ok (.ldc 26, 2) := by decide +kernel
theorem dX1_init_39 : decode cX1_init 39 = .ok (.invokevirtual 28, 3) := by decide +kernel
theorem dX1_init_42 : decode cX1_init 42 = .ok (.putfield 34, 3) := by decide +kernel
theorem dX1_init_45 : decode cX1_init 45 = .ok (.iconst 0, 1) := by decide +kernel
theorem dX1_init_46 : decode cX1_init 46 = .ok (.istore_n 1, 1) := by decide +kernel
theorem dX1_init_47 : decode cX1_init 47 = .ok (.iload_n 1, 1) := by decide +kernel
theorem dX1_init_48 : decode cX1_init 48 = .ok (.aload_n 0, 1) := by decide +kernel
theorem dX1_init_49 : decode cX1_init 49 = .ok (.getfield 34, 3) := by decide +kernel
theorem dX1_init_52 : decode cX1_init 52 = .ok (.if_icmp .ge 28, 3) := by decide +kernel
theorem dX1_init_55 : decode cX1_init 55 = .ok (.aload_n 0, 1) := by decide +kernel
theorem dX1_init_56 : decode cX1_init 56 = .ok (.getfield 9, 3) := by decide +kernel
theorem dX1_init_59 : decode cX1_init 59 = .ok (.iload_n 1, 1) := by decide +kernel
theorem dX1_init_60 : decode cX1_init 60 = .ok (.ldc 26, 2) := by decide +kernel
theorem dX1_init_62 : decode cX1_init 62 = .ok (.iload_n 1, 1) := by decide +kernel
theorem dX1_init_63 : decode cX1_init 63 = .ok (.invokevirtual 38, 3) := by decide +kernel
theorem dX1_init_66 : decode cX1_init 66 = .ok (.castore, 1) := by decide +kernel
theorem dX1_init_67 : decode cX1_init 67 = .ok (.aload_n 0, 1) := by decide +kernel
theorem dX1_init_68 : decode cX1_init 68 = .ok (.getfield 15, 3) := by decide +kernel
theorem dX1_init_71 : decode cX1_init 71 = .ok (.iload_n 1, 1) := by decide +kernel
theorem dX1_init_72 : decode cX1_init 72 = .ok (.iconst (-1), 1) := by decide +kernel
theorem dX1_init_73 : decode cX1_init 73 = .ok (.iastore, 1) := by decide +kernel
theorem dX1_init_74 : decode cX1_init 74 = .ok (.iinc 1 1, 3) := by decide +kernel
theorem dX1_init_77 : decode cX1_init 77 = .ok (.goto (-30), 3) := by decide +kernel
theorem dX1_init_80 : decode cX1_init 80 = .ok (.aload_n 0, 1) := by decide +kernel
theorem dX1_init_81 : decode cX1_init 81 = .ok (.getfield 19, 3) := by decide +kernel
theorem dX1_init_84 : decode cX1_init 84 = .ok (.iconst 0, 1) := by decide +kernel
theorem dX1_init_85 : decode cX1_init 85 = .ok (.ldc2_w 42, 3) := by decide +kernel
theorem dX1_init_88 : decode cX1_init 88 = .ok (.lastore, 1) := by decide +kernel
theorem dX1_init_89 : decode cX1_init 89 = .ok (.aload_n 0, 1) := by decide +kernel
theorem dX1_init_90 : decode cX1_init 90 = .ok (.getfield 23, 3) := by decide +kernel
theorem dX1_init_93 : decode cX1_init 93 = .ok (.iconst 3, 1) := by decide +kernel
theorem dX1_init_94 : decode cX1_init 94 = .ok (.ldc2_w 42, 3) := by decide +kernel
theorem dX1_init_97 : decode cX1_init 97 = .ok (.lastore, 1) := by decide +kernel
theorem dX1_init_98 : decode cX1_init 98 = .ok (.return_, 1) := by decide +kernel
theorem dX1_copyFrom_0 : decode cX1_copyFrom 0 = .ok (.aload_n 1, 1) := by decide +kernel
theorem dX1_copyFrom_1 : decode cX1_copyFrom 1 = .ok (.getfield 9, 3) := by decide +kernel
theorem dX1_copyFrom_4 : decode cX1_copyFrom 4 = .ok (.iconst 0, 1) := by decide +kernel
theorem dX1_copyFrom_5 : decode cX1_copyFrom 5 = .ok (.aload_n 0, 1) := by decide +kernel
theorem dX1_copyFrom_6 : decode cX1_copyFrom 6 = .ok (.getfield 9, 3) := by decide +kernel
theorem dX1_copyFrom_9 : decode cX1_copyFrom 9 = .ok (.iconst 0, 1) := by decide +kernel
theorem dX1_copyFrom_10 : decode cX1_copyFrom 10 = .ok (.bipush 12, 2) := by decide +kernel
theorem dX1_copyFrom_12 : decode cX1_copyFrom 12 = .ok (.invokestatic 44, 3) := by decide +kernel
theorem dX1_copyFrom_15 : decode cX1_copyFrom 15 = .ok (.aload_n 1, 1) := by decide +kernel
theorem dX1_copyFrom_16 : decode cX1_copyFrom 16 = .ok (.getfield 15, 3) := by decide +kernel
theorem dX1_copyFrom_19 : decode cX1_copyFrom 19 = .ok (.iconst 0, 1) := by decide +kernel
theorem dX1_copyFrom_20 : decode cX1_copyFrom 20 = .ok (.aload_n 0, 1) := by decide +kernel
theorem dX1_copyFrom_21 : decode cX1_copyFrom 21 = .ok (.getfield 15, 3) := by decide +kernel
theorem dX1_copyFrom_24 : decode cX1_copyFrom 24 = .ok (.iconst 0, 1) := by decide +kernel
theorem dX1_copyFrom_25 : decode cX1_copyFrom 25 = .ok (.bipush 12, 2) := by decide +kernel
theorem dX1_copyFrom_27 : decode cX1_copyFrom 27 = .ok (.invokestatic 44, 3) := by decide +kernel
theorem dX1_copyFrom_30 : decode cX1_copyFrom 30 = .ok (.aload_n 1, 1) := by decide +kernel
theorem dX1_copyFrom_31 : decode cX1_copyFrom 31 = .ok (.getfield 19, 3) := by decide +kernel
theorem dX1_copyFrom_34 : decode cX1_copyFrom 34 = .ok (.iconst 0, 1) := by decide +kernel
theorem dX1_copyFrom_35 : decode cX1_copyFrom 35 = .ok (.aload_n 0, 1) := by decide +kernel
theorem dX1_copyFrom_36 : decode cX1_copyFrom 36 = .ok (.getfield 19, 3) := by decide +kernel
theorem dX1_copyFrom_39 : decode cX1_copyFrom 39 = .ok (.iconst 0, 1) := by decide +kernel
theorem dX1_copyFrom_40 : decode cX1_copyFrom 40 = .ok (.bipush 12, 2) := by decide +kernel
theorem dX1_copyFrom_42 : decode cX1_copyFrom 42 = .ok (.invokestatic 44, 3) := by decide +kernel
theorem dX1_copyFrom_45 : decode cX1_copyFrom 45 = .ok (.aload_n 1, 1) := by decide +kernel
theorem dX1_copyFrom_46 : decode cX1_copyFrom 46 = .ok (.getfield 23, 3) := by decide +kernel
theorem dX1_copyFrom_49 : decode cX1_copyFrom 49 = .ok (.iconst 0, 1) := by decide +kernel
theorem dX1_copyFrom_50 : decode cX1_copyFrom 50 = .ok (.aload_n 0, 1) := by decide +kernel
theorem dX1_copyFrom_51 : decode cX1_copyFrom 51 = .ok (.getfield 23, 3) := by decide +kernel
theorem dX1_copyFrom_54 : decode cX1_copyFrom 54 = .ok (.iconst 0, 1) := by decide +kernel
theorem dX1_copyFrom_55 : decode cX1_copyFrom 55 = .ok (.bipush 12, 2) := by decide +kernel
theorem dX1_copyFrom_57 : decode cX1_copyFrom 57 = .ok (.invokestatic 44, 3) := by decide +kernel
theorem dX1_copyFrom_60 : decode cX1_copyFrom 60 = .ok (.aload_n 0, 1) := by decide +kernel
theorem dX1_copyFrom_61 : decode cX1_copyFrom 61 = .ok (.aload_n 1, 1) := by decide +kernel
theorem dX1_copyFrom_62 : decode cX1_copyFrom 62 = .ok (.getfield 34, 3) := by decide +kernel
theorem dX1_copyFrom_65 : decode cX1_copyFrom 65 = .ok (.putfield 34, 3) := by decide +kernel
theorem dX1_copyFrom_68 : decode cX1_copyFrom 68 = .ok (.return_, 1) := by decide +kernel
theorem dX1_has_0 : decode cX1_has 0 = .ok (.iload_n 1, 1) := by decide +kernel
theorem dX1_has_1 : decode cX1_has 1 = .ok (.iconst 0, 1) := by decide +kernel
theorem dX1_has_2 : decode cX1_has 2 = .ok (.aload_n 0, 1) := by decide +kernel
theorem dX1_has_3 : decode cX1_has 3 = .ok (.getfield 34, 3) := by decide +kernel
theorem dX1_has_6 : decode cX1_has 6 = .ok (.iconst 1, 1) := by decide +kernel
theorem dX1_has_7 : decode cX1_has 7 = .ok (.isub, 1) := by decide +kernel
theorem dX1_has_8 : decode cX1_has 8 = .ok (.invokestatic 50, 3) := by decide +kernel
theorem dX1_has_11 : decode cX1_has 11 = .ok (.ireturn, 1) := by decide +kernel
theorem dX1_faultOfNew_0 : decode cX1_faultOfNew 0 = .ok (.iload_n 1, 1) := by decide +kernel
theorem dX1_faultOfNew_1 : decode cX1_faultOfNew 1 = .ok (.invokestatic 54, 3) := by decide +kernel
theorem dX1_faultOfNew_4 : decode cX1_faultOfNew 4 = .ok (.ifCond .ne 7, 3) := by decide +kernel
theorem dX1_faultOfNew_7 : decode cX1_faultOfNew 7 = .ok (.getstatic 58, 3) := by decide +kernel
theorem dX1_faultOfNew_10 : decode cX1_faultOfNew 10 = .ok (.areturn, 1) := by decide +kernel
theorem dX1_faultOfNew_11 : decode cX1_faultOfNew 11 = .ok (.aload_n 0, 1) := by decide +kernel
theorem dX1_faultOfNew_12 : decode cX1_faultOfNew 12 = .ok (.getfield 34, 3) := by decide +kernel
theorem dX1_faultOfNew_15 : decode cX1_faultOfNew 15 = .ok (.bipush 12, 2) := by decide +kernel
theorem dX1_faultOfNew_17 : decode cX1_faultOfNew 17 = .ok (.if_icmp .ge 9, 3) := by decide +kernel
theorem dX1_faultOfNew_20 : decode cX1_faultOfNew 20 = .ok (.getstatic 64, 3) := by decide +kernel
theorem dX1_faultOfNew_23 : decode cX1_faultOfNew 23 = .ok (.goto 6, 3) := by decide +kernel
theorem dX1_faultOfNew_26 : decode cX1_faultOfNew 26 = .ok (.getstatic 67, 3) := by decide +kernel
theorem dX1_faultOfNew_29 : decode cX1_faultOfNew 29 = .ok (.areturn, 1) := by decide +kernel
theorem dX1_faultOfNewBelow_0 : decode cX1_faultOfNewBelow 0 = .ok (.aload_n 0, 1) := by decide +kernel
theorem dX1_faultOfNewBelow_1 : decode cX1_faultOfNewBelow 1 = .ok (.iload_n 1, 1) := by decide +kernel
theorem dX1_faultOfNewBelow_2 : decode cX1_faultOfNewBelow 2 = .ok (.invokevirtual 70, 3) := by decide +kernel
theorem dX1_faultOfNewBelow_5 : decode cX1_faultOfNewBelow 5 = .ok (.ifCond .ne 7, 3) := by decide +kernel
theorem dX1_faultOfNewBelow_8 : decode cX1_faultOfNewBelow 8 = .ok (.getstatic 74, 3) := by decide +kernel
theorem dX1_faultOfNewBelow_11 : decode cX1_faultOfNewBelow 11 = .ok (.areturn, 1) := by decide +kernel
theorem dX1_faultOfNewBelow_12 : decode cX1_faultOfNewBelow 12 = .ok (.aload_n 0, 1) := by decide +kernel
theorem dX1_faultOfNewBelow_13 : decode cX1_faultOfNewBelow 13 = .ok (.getfield 34, 3) := by decide +kernel
theorem dX1_faultOfNewBelow_16 : decode cX1_faultOfNewBelow 16 = .ok (.bipush 12, 2) := by decide +kernel
theorem dX1_faultOfNewBelow_18 : decode cX1_faultOfNewBelow 18 = .ok (.if_icmp .ge 9, 3) := by decide +kernel
theorem dX1_faultOfNewBelow_21 : decode cX1_faultOfNewBelow 21 = .ok (.getstatic 64, 3) := by decide +kernel
theorem dX1_faultOfNewBelow_24 : decode cX1_faultOfNewBelow 24 = .ok (.goto 6, 3) := by decide +kernel
theorem dX1_faultOfNewBelow_27 : decode cX1_faultOfNewBelow 27 = .ok (.getstatic 67, 3) := by decide +kernel
theorem dX1_faultOfNewBelow_30 : decode cX1_faultOfNewBelow 30 = .ok (.areturn, 1) := by decide +kernel
theorem dX1_faultOfEntry_0 : decode cX1_faultOfEntry 0 = .ok (.aload_n 0, 1) := by decide +kernel
theorem dX1_faultOfEntry_1 : decode cX1_faultOfEntry 1 = .ok (.iload_n 1, 1) := by decide +kernel
theorem dX1_faultOfEntry_2 : decode cX1_faultOfEntry 2 = .ok (.invokevirtual 70, 3) := by decide +kernel
theorem dX1_faultOfEntry_5 : decode cX1_faultOfEntry 5 = .ok (.ifCond .eq 11, 3) := by decide +kernel
theorem dX1_faultOfEntry_8 : decode cX1_faultOfEntry 8 = .ok (.aload_n 0, 1) := by decide +kernel
theorem dX1_faultOfEntry_9 : decode cX1_faultOfEntry 9 = .ok (.iload_n 2, 1) := by decide +kernel
theorem dX1_faultOfEntry_10 : decode cX1_faultOfEntry 10 = .ok (.invokevirtual 70, 3) := by decide +kernel
theorem dX1_faultOfEntry_13 : decode cX1_faultOfEntry 13 = .ok (.ifCond .ne 7, 3) := by decide +kernel
theorem dX1_faultOfEntry_16 : decode cX1_faultOfEntry 16 = .ok (.getstatic 74, 3) := by decide +kernel
theorem dX1_faultOfEntry_19 : decode cX1_faultOfEntry 19 = .ok (.areturn, 1) := by decide +kernel
theorem dX1_faultOfEntry_20 : decode cX1_faultOfEntry 20 = .ok (.iload_n 1, 1) := by decide +kernel
theorem dX1_faultOfEntry_21 : decode cX1_faultOfEntry 21 = .ok (.iload_n 2, 1) := by decide +kernel
theorem dX1_faultOfEntry_22 : decode cX1_faultOfEntry 22 = .ok (.if_icmp .eq 20, 3) := by decide +kernel
theorem dX1_faultOfEntry_25 : decode cX1_faultOfEntry 25 = .ok (.iload_n 3, 1) := by decide +kernel
theorem dX1_faultOfEntry_26 : decode cX1_faultOfEntry 26 = .ok (.iconst 1, 1) := by decide +kernel
theorem dX1_faultOfEntry_27 : decode cX1_faultOfEntry 27 = .ok (.sipush 999, 3) := by decide +kernel
theorem dX1_faultOfEntry_30 : decode cX1_faultOfEntry 30 = .ok (.invokestatic 50, 3) := by decide +kernel
theorem dX1_faultOfEntry_33 : decode cX1_faultOfEntry 33 = .ok (.ifCond .eq 9, 3) := by decide +kernel
theorem dX1_faultOfEntry_36 : decode cX1_faultOfEntry 36 = .ok (.getstatic 64, 3) := by decide +kernel
theorem dX1_faultOfEntry_39 : decode cX1_faultOfEntry 39 = .ok (.goto 6, 3) := by decide +kernel
theorem dX1_faultOfEntry_42 : decode cX1_faultOfEntry 42 = .ok (.getstatic 58, 3) := by decide +kernel
theorem dX1_faultOfEntry_45 : decode cX1_faultOfEntry 45 = .ok (.areturn, 1) := by decide +kernel
theorem dX1_add_0 : decode cX1_add 0 = .ok (.aload_n 0, 1) := by decide +kernel
theorem dX1_add_1 : decode cX1_add 1 = .ok (.getfield 34, 3) := by decide +kernel
theorem dX1_add_4 : decode cX1_add 4 = .ok (.istore_n 3, 1) := by decide +kernel
theorem dX1_add_5 : decode cX1_add 5 = .ok (.iload_n 3, 1) := by decide +kernel
theorem dX1_add_6 : decode cX1_add 6 = .ok (.bipush 12, 2) := by decide +kernel
theorem dX1_add_8 : decode cX1_add 8 = .ok (.if_icmp .ge 41, 3) := by decide +kernel
theorem dX1_add_11 : decode cX1_add 11 = .ok (.aload_n 0, 1) := by decide +kernel
theorem dX1_add_12 : decode cX1_add 12 = .ok (.getfield 9, 3) := by decide +kernel
theorem dX1_add_15 : decode cX1_add 15 = .ok (.iload_n 3, 1) := by decide +kernel
theorem dX1_add_16 : decode cX1_add 16 = .ok (.iload_n 1, 1) := by decide +kernel
theorem dX1_add_17 : decode cX1_add 17 = .ok (.castore, 1) := by decide +kernel
theorem dX1_add_18 : decode cX1_add 18 = .ok (.aload_n 0, 1) := by decide +kernel
theorem dX1_add_19 : decode cX1_add 19 = .ok (.getfield 15, 3) := by decide +kernel
theorem dX1_add_22 : decode cX1_add 22 = .ok (.iload_n 3, 1) := by decide +kernel
theorem dX1_add_23 : decode cX1_add 23 = .ok (.iload_n 2, 1) := by decide +kernel
theorem dX1_add_24 : decode cX1_add 24 = .ok (.iastore, 1) := by decide +kernel
theorem dX1_add_25 : decode cX1_add 25 = .ok (.aload_n 0, 1) := by decide +kernel
theorem dX1_add_26 : decode cX1_add 26 = .ok (.getfield 19, 3) := by decide +kernel
theorem dX1_add_29 : decode cX1_add 29 = .ok (.iload_n 3, 1) := by decide +kernel
theorem dX1_add_30 : decode cX1_add 30 = .ok (.lconst 0, 1) := by decide +kernel
theorem dX1_add_31 : decode cX1_add 31 = .ok (.lastore, 1) := by decide +kernel
theorem dX1_add_32 : decode cX1_add 32 = .ok (.aload_n 0, 1) := by decide +kernel
theorem dX1_add_33 : decode cX1_add 33 = .ok (.getfield 23, 3) := by decide +kernel
theorem dX1_add_36 : decode cX1_add 36 = .ok (.iload_n 3, 1) := by decide +kernel
theorem dX1_add_37 : decode cX1_add 37 = .ok (.lconst 0, 1) := by decide +kernel
theorem dX1_add_38 : decode cX1_add 38 = .ok (.lastore, 1) := by decide +kernel
theorem dX1_add_39 : decode cX1_add 39 = .ok (.aload_n 0, 1) := by decide +kernel
theorem dX1_add_40 : decode cX1_add 40 = .ok (.dup, 1) := by decide +kernel
theorem dX1_add_41 : decode cX1_add 41 = .ok (.getfield 34, 3) := by decide +kernel
theorem dX1_add_44 : decode cX1_add 44 = .ok (.iconst 1, 1) := by decide +kernel
theorem dX1_add_45 : decode cX1_add 45 = .ok (.iadd, 1) := by decide +kernel
theorem dX1_add_46 : decode cX1_add 46 = .ok (.putfield 34, 3) := by decide +kernel
theorem dX1_add_49 : decode cX1_add 49 = .ok (.iload_n 3, 1) := by decide +kernel
theorem dX1_add_50 : decode cX1_add 50 = .ok (.ireturn, 1) := by decide +kernel
theorem dX1_move_0 : decode cX1_move 0 = .ok (.aload_n 0, 1) := by decide +kernel
theorem dX1_move_1 : decode cX1_move 1 = .ok (.getfield 19, 3) := by decide +kernel
theorem dX1_move_4 : decode cX1_move 4 = .ok (.iload_n 1, 1) := by decide +kernel
theorem dX1_move_5 : decode cX1_move 5 = .ok (.dup2, 1) := by decide +kernel
theorem dX1_move_6 : decode cX1_move 6 = .ok (.laload, 1) := by decide +kernel
theorem dX1_move_7 : decode cX1_move 7 = .ok (.lload_n 3, 1) := by decide +kernel
theorem dX1_move_8 : decode cX1_move 8 = .ok (.ladd, 1) := by decide +kernel
theorem dX1_move_9 : decode cX1_move 9 = .ok (.lastore, 1) := by decide +kernel
theorem dX1_move_10 : decode cX1_move 10 = .ok (.aload_n 0, 1) := by decide +kernel
theorem dX1_move_11 : decode cX1_move 11 = .ok (.getfield 23, 3) := by decide +kernel
theorem dX1_move_14 : decode cX1_move 14 = .ok (.iload_n 2, 1) := by decide +kernel
theorem dX1_move_15 : decode cX1_move 15 = .ok (.dup2, 1) := by decide +kernel
theorem dX1_move_16 : decode cX1_move 16 = .ok (.laload, 1) := by decide +kernel
theorem dX1_move_17 : decode cX1_move 17 = .ok (.lload_n 3, 1) := by decide +kernel
theorem dX1_move_18 : decode cX1_move 18 = .ok (.ladd, 1) := by decide +kernel
theorem dX1_move_19 : decode cX1_move 19 = .ok (.lastore, 1) := by decide +kernel
theorem dX1_move_20 : decode cX1_move 20 = .ok (.return_, 1) := by decide +kernel
theorem dX1_kindAt_0 : decode cX1_kindAt 0 = .ok (.aload_n 0, 1) := by decide +kernel
theorem dX1_kindAt_1 : decode cX1_kindAt 1 = .ok (.getfield 9, 3) := by decide +kernel
theorem dX1_kindAt_4 : decode cX1_kindAt 4 = .ok (.iload_n 1, 1) := by decide +kernel
theorem dX1_kindAt_5 : decode cX1_kindAt 5 = .ok (.caload, 1) := by decide +kernel
theorem dX1_kindAt_6 : decode cX1_kindAt 6 = .ok (.ireturn, 1) := by decide +kernel
theorem dX1_parentAt_0 : decode cX1_parentAt 0 = .ok (.aload_n 0, 1) := by decide +kernel
theorem dX1_parentAt_1 : decode cX1_parentAt 1 = .ok (.getfield 15, 3) := by decide +kernel
theorem dX1_parentAt_4 : decode cX1_parentAt 4 = .ok (.iload_n 1, 1) := by decide +kernel
theorem dX1_parentAt_5 : decode cX1_parentAt 5 = .ok (.iaload, 1) := by decide +kernel
theorem dX1_parentAt_6 : decode cX1_parentAt 6 = .ok (.ireturn, 1) := by decide +kernel
theorem dX1_debitsAt_0 : decode cX1_debitsAt 0 = .ok (.aload_n 0, 1) := by decide +kernel
theorem dX1_debitsAt_1 : decode cX1_debitsAt 1 = .ok (.getfield 19, 3) := by decide +kernel
theorem dX1_debitsAt_4 : decode cX1_debitsAt 4 = .ok (.iload_n 1, 1) := by decide +kernel
theorem dX1_debitsAt_5 : decode cX1_debitsAt 5 = .ok (.laload, 1) := by decide +kernel
theorem dX1_debitsAt_6 : decode cX1_debitsAt 6 = .ok (.lreturn, 1) := by decide +kernel
theorem dX1_creditsAt_0 : decode cX1_creditsAt 0 = .ok (.aload_n 0, 1) := by decide +kernel
theorem dX1_creditsAt_1 : decode cX1_creditsAt 1 = .ok (.getfield 23, 3) := by decide +kernel
theorem dX1_creditsAt_4 : decode cX1_creditsAt 4 = .ok (.iload_n 1, 1) := by decide +kernel
theorem dX1_creditsAt_5 : decode cX1_creditsAt 5 = .ok (.laload, 1) := by decide +kernel
theorem dX1_creditsAt_6 : decode cX1_creditsAt 6 = .ok (.lreturn, 1) := by decide +kernel
theorem dX1_balanceAt_0 : decode cX1_balanceAt 0 = .ok (.aload_n 0, 1) := by decide +kernel
theorem dX1_balanceAt_1 : decode cX1_balanceAt 1 = .ok (.getfield 19, 3) := by decide +kernel
theorem dX1_balanceAt_4 : decode cX1_balanceAt 4 = .ok (.iload_n 1, 1) := by decide +kernel
theorem dX1_balanceAt_5 : decode cX1_balanceAt 5 = .ok (.laload, 1) := by decide +kernel
theorem dX1_balanceAt_6 : decode cX1_balanceAt 6 = .ok (.aload_n 0, 1) := by decide +kernel
theorem dX1_balanceAt_7 : decode cX1_balanceAt 7 = .ok (.getfield 23, 3) := by decide +kernel
theorem dX1_balanceAt_10 : decode cX1_balanceAt 10 = .ok (.iload_n 1, 1) := by decide +kernel
theorem dX1_balanceAt_11 : decode cX1_balanceAt 11 = .ok (.laload, 1) := by decide +kernel
theorem dX1_balanceAt_12 : decode cX1_balanceAt 12 = .ok (.lsub, 1) := by decide +kernel
theorem dX1_balanceAt_13 : decode cX1_balanceAt 13 = .ok (.lstore_n 2, 1) := by decide +kernel
theorem dX1_balanceAt_14 : decode cX1_balanceAt 14 = .ok (.aload_n 0, 1) := by decide +kernel
theorem dX1_balanceAt_15 : decode cX1_balanceAt 15 = .ok (.getfield 9, 3) := by decide +kernel
theorem dX1_balanceAt_18 : decode cX1_balanceAt 18 = .ok (.iload_n 1, 1) := by decide +kernel
theorem dX1_balanceAt_19 : decode cX1_balanceAt 19 = .ok (.caload, 1) := by decide +kernel
theorem dX1_balanceAt_20 : decode cX1_balanceAt 20 = .ok (.bipush 97, 2) := by decide +kernel
theorem dX1_balanceAt_22 : decode cX1_balanceAt 22 = .ok (.if_icmp .eq 14, 3) := by decide +kernel
theorem dX1_balanceAt_25 : decode cX1_balanceAt 25 = .ok (.aload_n 0, 1) := by decide +kernel
theorem dX1_balanceAt_26 : decode cX1_balanceAt 26 = .ok (.getfield 9, 3) := by decide +kernel
theorem dX1_balanceAt_29 : decode cX1_balanceAt 29 = .ok (.iload_n 1, 1) := by decide +kernel
theorem dX1_balanceAt_30 : decode cX1_balanceAt 30 = .ok (.caload, 1) := by decide +kernel
theorem dX1_balanceAt_31 : decode cX1_balanceAt 31 = .ok (.bipush 101, 2) := by decide +kernel
theorem dX1_balanceAt_33 : decode cX1_balanceAt 33 = .ok (.if_icmp .ne 7, 3) := by decide +kernel
theorem dX1_balanceAt_36 : decode cX1_balanceAt 36 = .ok (.lload_n 2, 1) := by decide +kernel
theorem dX1_balanceAt_37 : decode cX1_balanceAt 37 = .ok (.goto 5, 3) := by decide +kernel
theorem dX1_balanceAt_40 : decode cX1_balanceAt 40 = .ok (.lload_n 2, 1) := by decide +kernel
theorem dX1_balanceAt_41 : decode cX1_balanceAt 41 = .ok (.lneg, 1) := by decide +kernel
theorem dX1_balanceAt_42 : decode cX1_balanceAt 42 = .ok (.lreturn, 1) := by decide +kernel
theorem dX1_isOfProfit_0 : decode cX1_isOfProfit 0 = .ok (.aload_n 0, 1) := by decide +kernel
theorem dX1_isOfProfit_1 : decode cX1_isOfProfit 1 = .ok (.getfield 9, 3) := by decide +kernel
theorem dX1_isOfProfit_4 : decode cX1_isOfProfit 4 = .ok (.iload_n 1, 1) := by decide +kernel
theorem dX1_isOfProfit_5 : decode cX1_isOfProfit 5 = .ok (.caload, 1) := by decide +kernel
theorem dX1_isOfProfit_6 : decode cX1_isOfProfit 6 = .ok (.bipush 105, 2) := by decide +kernel
theorem dX1_isOfProfit_8 : decode cX1_isOfProfit 8 = .ok (.if_icmp .eq 14, 3) := by decide +kernel
theorem dX1_isOfProfit_11 : decode cX1_isOfProfit 11 = .ok (.aload_n 0, 1) := by decide +kernel
theorem dX1_isOfProfit_12 : decode cX1_isOfProfit 12 = .ok (.getfield 9, 3) := by decide +kernel
theorem dX1_isOfProfit_15 : decode cX1_isOfProfit 15 = .ok (.iload_n 1, 1) := by decide +kernel
theorem dX1_isOfProfit_16 : decode cX1_isOfProfit 16 = .ok (.caload, 1) := by decide +kernel
theorem dX1_isOfProfit_17 : decode cX1_isOfProfit 17 = .ok (.bipush 101, 2) := by decide +kernel
theorem dX1_isOfProfit_19 : decode cX1_isOfProfit 19 = .ok (.if_icmp .ne 7, 3) := by decide +kernel
theorem dX1_isOfProfit_22 : decode cX1_isOfProfit 22 = .ok (.iconst 1, 1) := by decide +kernel
theorem dX1_isOfProfit_23 : decode cX1_isOfProfit 23 = .ok (.goto 4, 3) := by decide +kernel
theorem dX1_isOfProfit_26 : decode cX1_isOfProfit 26 = .ok (.iconst 0, 1) := by decide +kernel
theorem dX1_isOfProfit_27 : decode cX1_isOfProfit 27 = .ok (.ireturn, 1) := by decide +kernel
theorem dX1_allDebits_0 : decode cX1_allDebits 0 = .ok (.lconst 0, 1) := by decide +kernel
theorem dX1_allDebits_1 : decode cX1_allDebits 1 = .ok (.lstore_n 1, 1) := by decide +kernel
theorem dX1_allDebits_2 : decode cX1_allDebits 2 = .ok (.iconst 0, 1) := by decide +kernel
theorem dX1_allDebits_3 : decode cX1_allDebits 3 = .ok (.istore_n 3, 1) := by decide +kernel
theorem dX1_allDebits_4 : decode cX1_allDebits 4 = .ok (.iload_n 3, 1) := by decide +kernel
theorem dX1_allDebits_5 : decode cX1_allDebits 5 = .ok (.aload_n 0, 1) := by decide +kernel
theorem dX1_allDebits_6 : decode cX1_allDebits 6 = .ok (.getfield 34, 3) := by decide +kernel
theorem dX1_allDebits_9 : decode cX1_allDebits 9 = .ok (.if_icmp .ge 18, 3) := by decide +kernel
theorem dX1_allDebits_12 : decode cX1_allDebits 12 = .ok (.lload_n 1, 1) := by decide +kernel
theorem dX1_allDebits_13 : decode cX1_allDebits 13 = .ok (.aload_n 0, 1) := by decide +kernel
theorem dX1_allDebits_14 : decode cX1_allDebits 14 = .ok (.getfield 19, 3) := by decide +kernel
theorem dX1_allDebits_17 : decode cX1_allDebits 17 = .ok (.iload_n 3, 1) := by decide +kernel
theorem dX1_allDebits_18 : decode cX1_allDebits 18 = .ok (.laload, 1) := by decide +kernel
theorem dX1_allDebits_19 : decode cX1_allDebits 19 = .ok (.ladd, 1) := by decide +kernel
theorem dX1_allDebits_20 : decode cX1_allDebits 20 = .ok (.lstore_n 1, 1) := by decide +kernel
theorem dX1_allDebits_21 : decode cX1_allDebits 21 = .ok (.iinc 3 1, 3) := by decide +kernel
theorem dX1_allDebits_24 : decode cX1_allDebits 24 = .ok (.goto (-20), 3) := by decide +kernel
theorem dX1_allDebits_27 : decode cX1_allDebits 27 = .ok (.lload_n 1, 1) := by decide +kernel
theorem dX1_allDebits_28 : decode cX1_allDebits 28 = .ok (.lreturn, 1) := by decide +kernel
theorem dX1_allCredits_0 : decode cX1_allCredits 0 = .ok (.lconst 0, 1) := by decide +kernel
theorem dX1_allCredits_1 : decode cX1_allCredits 1 = .ok (.lstore_n 1, 1) := by decide +kernel
theorem dX1_allCredits_2 : decode cX1_allCredits 2 = .ok (.iconst 0, 1) := by decide +kernel
theorem dX1_allCredits_3 : decode cX1_allCredits 3 = .ok (.istore_n 3, 1) := by decide +kernel
theorem dX1_allCredits_4 : decode cX1_allCredits 4 = .ok (.iload_n 3, 1) := by decide +kernel
theorem dX1_allCredits_5 : decode cX1_allCredits 5 = .ok (.aload_n 0, 1) := by decide +kernel
theorem dX1_allCredits_6 : decode cX1_allCredits 6 = .ok (.getfield 34, 3) := by decide +kernel
theorem dX1_allCredits_9 : decode cX1_allCredits 9 = .ok (.if_icmp .ge 18, 3) := by decide +kernel
theorem dX1_allCredits_12 : decode cX1_allCredits 12 = .ok (.lload_n 1, 1) := by decide +kernel
theorem dX1_allCredits_13 : decode cX1_allCredits 13 = .ok (.aload_n 0, 1) := by decide +kernel
theorem dX1_allCredits_14 : decode cX1_allCredits 14 = .ok (.getfield 23, 3) := by decide +kernel
theorem dX1_allCredits_17 : decode cX1_allCredits 17 = .ok (.iload_n 3, 1) := by decide +kernel
theorem dX1_allCredits_18 : decode cX1_allCredits 18 = .ok (.laload, 1) := by decide +kernel
theorem dX1_allCredits_19 : decode cX1_allCredits 19 = .ok (.ladd, 1) := by decide +kernel
theorem dX1_allCredits_20 : decode cX1_allCredits 20 = .ok (.lstore_n 1, 1) := by decide +kernel
theorem dX1_allCredits_21 : decode cX1_allCredits 21 = .ok (.iinc 3 1, 3) := by decide +kernel
theorem dX1_allCredits_24 : decode cX1_allCredits 24 = .ok (.goto (-20), 3) := by decide +kernel
theorem dX1_allCredits_27 : decode cX1_allCredits 27 = .ok (.lload_n 1, 1) := by decide +kernel
theorem dX1_allCredits_28 : decode cX1_allCredits 28 = .ok (.lreturn, 1) := by decide +kernel
theorem dX1_gain_0 : decode cX1_gain 0 = .ok (.lconst 0, 1) := by decide +kernel
theorem dX1_gain_1 : decode cX1_gain 1 = .ok (.lstore_n 1, 1) := by decide +kernel
theorem dX1_gain_2 : decode cX1_gain 2 = .ok (.iconst 0, 1) := by decide +kernel
theorem dX1_gain_3 : decode cX1_gain 3 = .ok (.istore_n 3, 1) := by decide +kernel
theorem dX1_gain_4 : decode cX1_gain 4 = .ok (.iload_n 3, 1) := by decide +kernel
theorem dX1_gain_5 : decode cX1_gain 5 = .ok (.aload_n 0, 1) := by decide +kernel
theorem dX1_gain_6 : decode cX1_gain 6 = .ok (.getfield 34, 3) := by decide +kernel
theorem dX1_gain_9 : decode cX1_gain 9 = .ok (.if_icmp .ge 33, 3) := by decide +kernel
theorem dX1_gain_12 : decode cX1_gain 12 = .ok (.aload_n 0, 1) := by decide +kernel
theorem dX1_gain_13 : decode cX1_gain 13 = .ok (.iload_n 3, 1) := by decide +kernel
theorem dX1_gain_14 : decode cX1_gain 14 = .ok (.invokevirtual 77, 3) := by decide +kernel
theorem dX1_gain_17 : decode cX1_gain 17 = .ok (.ifCond .eq 19, 3) := by decide +kernel
theorem dX1_gain_20 : decode cX1_gain 20 = .ok (.lload_n 1, 1) := by decide +kernel
theorem dX1_gain_21 : decode cX1_gain 21 = .ok (.aload_n 0, 1) := by decide +kernel
theorem dX1_gain_22 : decode cX1_gain 22 = .ok (.getfield 23, 3) := by decide +kernel
theorem dX1_gain_25 : decode cX1_gain 25 = .ok (.iload_n 3, 1) := by decide +kernel
theorem dX1_gain_26 : decode cX1_gain 26 = .ok (.laload, 1) := by decide +kernel
theorem dX1_gain_27 : decode cX1_gain 27 = .ok (.aload_n 0, 1) := by decide +kernel
theorem dX1_gain_28 : decode cX1_gain 28 = .ok (.getfield 19, 3) := by decide +kernel
theorem dX1_gain_31 : decode cX1_gain 31 = .ok (.iload_n 3, 1) := by decide +kernel
theorem dX1_gain_32 : decode cX1_gain 32 = .ok (.laload, 1) := by decide +kernel
theorem dX1_gain_33 : decode cX1_gain 33 = .ok (.lsub, 1) := by decide +kernel
theorem dX1_gain_34 : decode cX1_gain 34 = .ok (.ladd, 1) := by decide +kernel
theorem dX1_gain_35 : decode cX1_gain 35 = .ok (.lstore_n 1, 1) := by decide +kernel
theorem dX1_gain_36 : decode cX1_gain 36 = .ok (.iinc 3 1, 3) := by decide +kernel
theorem dX1_gain_39 : decode cX1_gain 39 = .ok (.goto (-35), 3) := by decide +kernel
theorem dX1_gain_42 : decode cX1_gain 42 = .ok (.lload_n 1, 1) := by decide +kernel
theorem dX1_gain_43 : decode cX1_gain 43 = .ok (.lreturn, 1) := by decide +kernel
theorem dX1_treeOf_0 : decode cX1_treeOf 0 = .ok (.iconst 1, 1) := by decide +kernel
theorem dX1_treeOf_1 : decode cX1_treeOf 1 = .ok (.iload_n 1, 1) := by decide +kernel
theorem dX1_treeOf_2 : decode cX1_treeOf 2 = .ok (.ishl, 1) := by decide +kernel
theorem dX1_treeOf_3 : decode cX1_treeOf 3 = .ok (.istore_n 2, 1) := by decide +kernel
theorem dX1_treeOf_4 : decode cX1_treeOf 4 = .ok (.iload_n 1, 1) := by decide +kernel
theorem dX1_treeOf_5 : decode cX1_treeOf 5 = .ok (.iconst 1, 1) := by decide +kernel
theorem dX1_treeOf_6 : decode cX1_treeOf 6 = .ok (.iadd, 1) := by decide +kernel
theorem dX1_treeOf_7 : decode cX1_treeOf 7 = .ok (.istore_n 3, 1) := by decide +kernel
theorem dX1_treeOf_8 : decode cX1_treeOf 8 = .ok (.iload_n 3, 1) := by decide +kernel
theorem dX1_treeOf_9 : decode cX1_treeOf 9 = .ok (.aload_n 0, 1) := by decide +kernel
theorem dX1_treeOf_10 : decode cX1_treeOf 10 = .ok (.getfield 34, 3) := by decide +kernel
theorem dX1_treeOf_13 : decode cX1_treeOf 13 = .ok (.if_icmp .ge 38, 3) := by decide +kernel
theorem dX1_treeOf_16 : decode cX1_treeOf 16 = .ok (.aload_n 0, 1) := by decide +kernel
theorem dX1_treeOf_17 : decode cX1_treeOf 17 = .ok (.getfield 15, 3) := by decide +kernel
theorem dX1_treeOf_20 : decode cX1_treeOf 20 = .ok (.iload_n 3, 1) := by decide +kernel
theorem dX1_treeOf_21 : decode cX1_treeOf 21 = .ok (.iaload, 1) := by decide +kernel
theorem dX1_treeOf_22 : decode cX1_treeOf 22 = .ok (.iconst (-1), 1) := by decide +kernel
theorem dX1_treeOf_23 : decode cX1_treeOf 23 = .ok (.if_icmp .eq 22, 3) := by decide +kernel
theorem dX1_treeOf_26 : decode cX1_treeOf 26 = .ok (.aload_n 0, 1) := by decide +kernel
theorem dX1_treeOf_27 : decode cX1_treeOf 27 = .ok (.getfield 15, 3) := by decide +kernel
theorem dX1_treeOf_30 : decode cX1_treeOf 30 = .ok (.iload_n 3, 1) := by decide +kernel
theorem dX1_treeOf_31 : decode cX1_treeOf 31 = .ok (.iaload, 1) := by decide +kernel
theorem dX1_treeOf_32 : decode cX1_treeOf 32 = .ok (.iload_n 2, 1) := by decide +kernel
theorem dX1_treeOf_33 : decode cX1_treeOf 33 = .ok (.invokestatic 80, 3) := by decide +kernel
theorem dX1_treeOf_36 : decode cX1_treeOf 36 = .ok (.ifCond .eq 9, 3) := by decide +kernel
theorem dX1_treeOf_39 : decode cX1_treeOf 39 = .ok (.iload_n 2, 1) := by decide +kernel
theorem dX1_treeOf_40 : decode cX1_treeOf 40 = .ok (.iconst 1, 1) := by decide +kernel
theorem dX1_treeOf_41 : decode cX1_treeOf 41 = .ok (.iload_n 3, 1) := by decide +kernel
theorem dX1_treeOf_42 : decode cX1_treeOf 42 = .ok (.ishl, 1) := by decide +kernel
theorem dX1_treeOf_43 : decode cX1_treeOf 43 = .ok (.ior, 1) := by decide +kernel
theorem dX1_treeOf_44 : decode cX1_treeOf 44 = .ok (.istore_n 2, 1) := by decide +kernel
theorem dX1_treeOf_45 : decode cX1_treeOf 45 = .ok (.iinc 3 1, 3) := by decide +kernel
theorem dX1_treeOf_48 : decode cX1_treeOf 48 = .ok (.goto (-40), 3) := by decide +kernel
theorem dX1_treeOf_51 : decode cX1_treeOf 51 = .ok (.iload_n 2, 1) := by decide +kernel
theorem dX1_treeOf_52 : decode cX1_treeOf 52 = .ok (.ireturn, 1) := by decide +kernel
theorem dX1_sizeOfTree_0 : decode cX1_sizeOfTree 0 = .ok (.aload_n 0, 1) := by decide +kernel
theorem dX1_sizeOfTree_1 : decode cX1_sizeOfTree 1 = .ok (.iload_n 1, 1) := by decide +kernel
theorem dX1_sizeOfTree_2 : decode cX1_sizeOfTree 2 = .ok (.invokevirtual 84, 3) := by decide +kernel
theorem dX1_sizeOfTree_5 : decode cX1_sizeOfTree 5 = .ok (.invokestatic 88, 3) := by decide +kernel
theorem dX1_sizeOfTree_8 : decode cX1_sizeOfTree 8 = .ok (.ireturn, 1) := by decide +kernel
theorem dX1_sumOfTree_0 : decode cX1_sumOfTree 0 = .ok (.aload_n 0, 1) := by decide +kernel
theorem dX1_sumOfTree_1 : decode cX1_sumOfTree 1 = .ok (.iload_n 1, 1) := by decide +kernel
theorem dX1_sumOfTree_2 : decode cX1_sumOfTree 2 = .ok (.invokevirtual 84, 3) := by decide +kernel
theorem dX1_sumOfTree_5 : decode cX1_sumOfTree 5 = .ok (.istore_n 2, 1) := by decide +kernel
theorem dX1_sumOfTree_6 : decode cX1_sumOfTree 6 = .ok (.lconst 0, 1) := by decide +kernel
theorem dX1_sumOfTree_7 : decode cX1_sumOfTree 7 = .ok (.lstore_n 3, 1) := by decide +kernel
theorem dX1_sumOfTree_8 : decode cX1_sumOfTree 8 = .ok (.iload_n 1, 1) := by decide +kernel
theorem dX1_sumOfTree_9 : decode cX1_sumOfTree 9 = .ok (.istore 5, 2) := by decide +kernel
theorem dX1_sumOfTree_11 : decode cX1_sumOfTree 11 = .ok (.iload 5, 2) := by decide +kernel
theorem dX1_sumOfTree_13 : decode cX1_sumOfTree 13 = .ok (.aload_n 0, 1) := by decide +kernel
theorem dX1_sumOfTree_14 : decode cX1_sumOfTree 14 = .ok (.getfield 34, 3) := by decide +kernel
theorem dX1_sumOfTree_17 : decode cX1_sumOfTree 17 = .ok (.if_icmp .ge 27, 3) := by decide +kernel
theorem dX1_sumOfTree_20 : decode cX1_sumOfTree 20 = .ok (.iload 5, 2) := by decide +kernel
theorem dX1_sumOfTree_22 : decode cX1_sumOfTree 22 = .ok (.iload_n 2, 1) := by decide +kernel
theorem dX1_sumOfTree_23 : decode cX1_sumOfTree 23 = .ok (.invokestatic 80, 3) := by decide +kernel
theorem dX1_sumOfTree_26 : decode cX1_sumOfTree 26 = .ok (.ifCond .eq 12, 3) := by decide +kernel
theorem dX1_sumOfTree_29 : decode cX1_sumOfTree 29 = .ok (.lload_n 3, 1) := by decide +kernel
theorem dX1_sumOfTree_30 : decode cX1_sumOfTree 30 = .ok (.aload_n 0, 1) := by decide +kernel
theorem dX1_sumOfTree_31 : decode cX1_sumOfTree 31 = .ok (.iload 5, 2) := by decide +kernel
theorem dX1_sumOfTree_33 : decode cX1_sumOfTree 33 = .ok (.invokevirtual 93, 3) := by decide +kernel
theorem dX1_sumOfTree_36 : decode cX1_sumOfTree 36 = .ok (.ladd, 1) := by decide +kernel
theorem dX1_sumOfTree_37 : decode cX1_sumOfTree 37 = .ok (.lstore_n 3, 1) := by decide +kernel
theorem dX1_sumOfTree_38 : decode cX1_sumOfTree 38 = .ok (.iinc 5 1, 3) := by decide +kernel
theorem dX1_sumOfTree_41 : decode cX1_sumOfTree 41 = .ok (.goto (-30), 3) := by decide +kernel
theorem dX1_sumOfTree_44 : decode cX1_sumOfTree 44 = .ok (.lload_n 3, 1) := by decide +kernel
theorem dX1_sumOfTree_45 : decode cX1_sumOfTree 45 = .ok (.lreturn, 1) := by decide +kernel
theorem dX1_sumOfThoseBelow_0 : decode cX1_sumOfThoseBelow 0 = .ok (.lconst 0, 1) := by decide +kernel
theorem dX1_sumOfThoseBelow_1 : decode cX1_sumOfThoseBelow 1 = .ok (.lstore_n 2, 1) := by decide +kernel
theorem dX1_sumOfThoseBelow_2 : decode cX1_sumOfThoseBelow 2 = .ok (.iconst 0, 1) := by decide +kernel
theorem dX1_sumOfThoseBelow_3 : decode cX1_sumOfThoseBelow 3 = .ok (.istore 4, 2) := by decide +kernel
theorem dX1_sumOfThoseBelow_5 : decode cX1_sumOfThoseBelow 5 = .ok (.iload 4, 2) := by decide +kernel
theorem dX1_sumOfThoseBelow_7 : decode cX1_sumOfThoseBelow 7 = .ok (.aload_n 0, 1) := by decide +kernel
theorem dX1_sumOfThoseBelow_8 : decode cX1_sumOfThoseBelow 8 = .ok (.getfield 34, 3) := by decide +kernel
theorem dX1_sumOfThoseBelow_11 : decode cX1_sumOfThoseBelow 11 = .ok (.if_icmp .ge 28, 3) := by decide +kernel
theorem dX1_sumOfThoseBelow_14 : decode cX1_sumOfThoseBelow 14 = .ok (.aload_n 0, 1) := by decide +kernel
theorem dX1_sumOfThoseBelow_15 : decode cX1_sumOfThoseBelow 15 = .ok (.iload 4, 2) := by decide +kernel
theorem dX1_sumOfThoseBelow_17 : decode cX1_sumOfThoseBelow 17 = .ok (.iload_n 1, 1) := by decide +kernel
theorem dX1_sumOfThoseBelow_18 : decode cX1_sumOfThoseBelow 18 = .ok (.invokevirtual 97, 3) := by decide +kernel
theorem dX1_sumOfThoseBelow_21 : decode cX1_sumOfThoseBelow 21 = .ok (.ifCond .eq 12, 3) := by decide +kernel
theorem dX1_sumOfThoseBelow_24 : decode cX1_sumOfThoseBelow 24 = .ok (.lload_n 2, 1) := by decide +kernel
theorem dX1_sumOfThoseBelow_25 : decode cX1_sumOfThoseBelow 25 = .ok (.aload_n 0, 1) := by decide +kernel
theorem dX1_sumOfThoseBelow_26 : decode cX1_sumOfThoseBelow 26 = .ok (.iload 4, 2) := by decide +kernel
theorem dX1_sumOfThoseBelow_28 : decode cX1_sumOfThoseBelow 28 = .ok (.invokevirtual 93, 3) := by decide +kernel
theorem dX1_sumOfThoseBelow_31 : decode cX1_sumOfThoseBelow 31 = .ok (.ladd, 1) := by decide +kernel
theorem dX1_sumOfThoseBelow_32 : decode cX1_sumOfThoseBelow 32 = .ok (.lstore_n 2, 1) := by decide +kernel
theorem dX1_sumOfThoseBelow_33 : decode cX1_sumOfThoseBelow 33 = .ok (.iinc 4 1, 3) := by decide +kernel
theorem dX1_sumOfThoseBelow_36 : decode cX1_sumOfThoseBelow 36 = .ok (.goto (-31), 3) := by decide +kernel
theorem dX1_sumOfThoseBelow_39 : decode cX1_sumOfThoseBelow 39 = .ok (.lload_n 2, 1) := by decide +kernel
theorem dX1_sumOfThoseBelow_40 : decode cX1_sumOfThoseBelow 40 = .ok (.lreturn, 1) := by decide +kernel
theorem dX1_leadsUpTo_0 : decode cX1_leadsUpTo 0 = .ok (.iload_n 1, 1) := by decide +kernel
theorem dX1_leadsUpTo_1 : decode cX1_leadsUpTo 1 = .ok (.istore_n 3, 1) := by decide +kernel
theorem dX1_leadsUpTo_2 : decode cX1_leadsUpTo 2 = .ok (.iconst 0, 1) := by decide +kernel
theorem dX1_leadsUpTo_3 : decode cX1_leadsUpTo 3 = .ok (.istore 4, 2) := by decide +kernel
theorem dX1_leadsUpTo_5 : decode cX1_leadsUpTo 5 = .ok (.iload 4, 2) := by decide +kernel
theorem dX1_leadsUpTo_7 : decode cX1_leadsUpTo 7 = .ok (.bipush 12, 2) := by decide +kernel
theorem dX1_leadsUpTo_9 : decode cX1_leadsUpTo 9 = .ok (.if_icmp .ge 21, 3) := by decide +kernel
theorem dX1_leadsUpTo_12 : decode cX1_leadsUpTo 12 = .ok (.iload_n 3, 1) := by decide +kernel
theorem dX1_leadsUpTo_13 : decode cX1_leadsUpTo 13 = .ok (.iload_n 2, 1) := by decide +kernel
theorem dX1_leadsUpTo_14 : decode cX1_leadsUpTo 14 = .ok (.if_icmp .le 16, 3) := by decide +kernel
theorem dX1_leadsUpTo_17 : decode cX1_leadsUpTo 17 = .ok (.aload_n 0, 1) := by decide +kernel
theorem dX1_leadsUpTo_18 : decode cX1_leadsUpTo 18 = .ok (.getfield 15, 3) := by decide +kernel
theorem dX1_leadsUpTo_21 : decode cX1_leadsUpTo 21 = .ok (.iload_n 3, 1) := by decide +kernel
theorem dX1_leadsUpTo_22 : decode cX1_leadsUpTo 22 = .ok (.iaload, 1) := by decide +kernel
theorem dX1_leadsUpTo_23 : decode cX1_leadsUpTo 23 = .ok (.istore_n 3, 1) := by decide +kernel
theorem dX1_leadsUpTo_24 : decode cX1_leadsUpTo 24 = .ok (.iinc 4 1, 3) := by decide +kernel
theorem dX1_leadsUpTo_27 : decode cX1_leadsUpTo 27 = .ok (.goto (-22), 3) := by decide +kernel
theorem dX1_leadsUpTo_30 : decode cX1_leadsUpTo 30 = .ok (.iload_n 3, 1) := by decide +kernel
theorem dX1_leadsUpTo_31 : decode cX1_leadsUpTo 31 = .ok (.iload_n 2, 1) := by decide +kernel
theorem dX1_leadsUpTo_32 : decode cX1_leadsUpTo 32 = .ok (.if_icmp .ne 7, 3) := by decide +kernel
theorem dX1_leadsUpTo_35 : decode cX1_leadsUpTo 35 = .ok (.iconst 1, 1) := by decide +kernel
theorem dX1_leadsUpTo_36 : decode cX1_leadsUpTo 36 = .ok (.goto 4, 3) := by decide +kernel
theorem dX1_leadsUpTo_39 : decode cX1_leadsUpTo 39 = .ok (.iconst 0, 1) := by decide +kernel
theorem dX1_leadsUpTo_40 : decode cX1_leadsUpTo 40 = .ok (.ireturn, 1) := by decide +kernel
theorem dX1_treesAgree_0 : decode cX1_treesAgree 0 = .ok (.iconst 0, 1) := by decide +kernel
theorem dX1_treesAgree_1 : decode cX1_treesAgree 1 = .ok (.istore_n 1, 1) := by decide +kernel
theorem dX1_treesAgree_2 : decode cX1_treesAgree 2 = .ok (.iload_n 1, 1) := by decide +kernel
theorem dX1_treesAgree_3 : decode cX1_treesAgree 3 = .ok (.aload_n 0, 1) := by decide +kernel
theorem dX1_treesAgree_4 : decode cX1_treesAgree 4 = .ok (.getfield 34, 3) := by decide +kernel
theorem dX1_treesAgree_7 : decode cX1_treesAgree 7 = .ok (.if_icmp .ge 25, 3) := by decide +kernel
theorem dX1_treesAgree_10 : decode cX1_treesAgree 10 = .ok (.aload_n 0, 1) := by decide +kernel
theorem dX1_treesAgree_11 : decode cX1_treesAgree 11 = .ok (.iload_n 1, 1) := by decide +kernel
theorem dX1_treesAgree_12 : decode cX1_treesAgree 12 = .ok (.invokevirtual 100, 3) := by decide +kernel
theorem dX1_treesAgree_15 : decode cX1_treesAgree 15 = .ok (.aload_n 0, 1) := by decide +kernel
theorem dX1_treesAgree_16 : decode cX1_treesAgree 16 = .ok (.iload_n 1, 1) := by decide +kernel
theorem dX1_treesAgree_17 : decode cX1_treesAgree 17 = .ok (.invokevirtual 103, 3) := by decide +kernel
theorem dX1_treesAgree_20 : decode cX1_treesAgree 20 = .ok (.lcmp, 1) := by decide +kernel
theorem dX1_treesAgree_21 : decode cX1_treesAgree 21 = .ok (.ifCond .eq 5, 3) := by decide +kernel
theorem dX1_treesAgree_24 : decode cX1_treesAgree 24 = .ok (.iconst 0, 1) := by decide +kernel
theorem dX1_treesAgree_25 : decode cX1_treesAgree 25 = .ok (.ireturn, 1) := by decide +kernel
theorem dX1_treesAgree_26 : decode cX1_treesAgree 26 = .ok (.iinc 1 1, 3) := by decide +kernel
theorem dX1_treesAgree_29 : decode cX1_treesAgree 29 = .ok (.goto (-27), 3) := by decide +kernel
theorem dX1_treesAgree_32 : decode cX1_treesAgree 32 = .ok (.iconst 1, 1) := by decide +kernel
theorem dX1_treesAgree_33 : decode cX1_treesAgree 33 = .ok (.ireturn, 1) := by decide +kernel
theorem dX1_accountAtRank_0 : decode cX1_accountAtRank 0 = .ok (.iconst 0, 1) := by decide +kernel
theorem dX1_accountAtRank_1 : decode cX1_accountAtRank 1 = .ok (.istore_n 2, 1) := by decide +kernel
theorem dX1_accountAtRank_2 : decode cX1_accountAtRank 2 = .ok (.iload_n 2, 1) := by decide +kernel
theorem dX1_accountAtRank_3 : decode cX1_accountAtRank 3 = .ok (.aload_n 0, 1) := by decide +kernel
theorem dX1_accountAtRank_4 : decode cX1_accountAtRank 4 = .ok (.getfield 34, 3) := by decide +kernel
theorem dX1_accountAtRank_7 : decode cX1_accountAtRank 7 = .ok (.if_icmp .ge 20, 3) := by decide +kernel
theorem dX1_accountAtRank_10 : decode cX1_accountAtRank 10 = .ok (.aload_n 0, 1) := by decide +kernel
theorem dX1_accountAtRank_11 : decode cX1_accountAtRank 11 = .ok (.iload_n 2, 1) := by decide +kernel
theorem dX1_accountAtRank_12 : decode cX1_accountAtRank 12 = .ok (.invokevirtual 106, 3) := by decide +kernel
theorem dX1_accountAtRank_15 : decode cX1_accountAtRank 15 = .ok (.iload_n 1, 1) := by decide +kernel
theorem dX1_accountAtRank_16 : decode cX1_accountAtRank 16 = .ok (.if_icmp .ne 5, 3) := by decide +kernel
theorem dX1_accountAtRank_19 : decode cX1_accountAtRank 19 = .ok (.iload_n 2, 1) := by decide +kernel
theorem dX1_accountAtRank_20 : decode cX1_accountAtRank 20 = .ok (.ireturn, 1) := by decide +kernel
theorem dX1_accountAtRank_21 : decode cX1_accountAtRank 21 = .ok (.iinc 2 1, 3) := by decide +kernel
theorem dX1_accountAtRank_24 : decode cX1_accountAtRank 24 = .ok (.goto (-22), 3) := by decide +kernel
theorem dX1_accountAtRank_27 : decode cX1_accountAtRank 27 = .ok (.iconst (-1), 1) := by decide +kernel
theorem dX1_accountAtRank_28 : decode cX1_accountAtRank 28 = .ok (.ireturn, 1) := by decide +kernel
theorem dX1_rankOf_0 : decode cX1_rankOf 0 = .ok (.aload_n 0, 1) := by decide +kernel
theorem dX1_rankOf_1 : decode cX1_rankOf 1 = .ok (.iload_n 1, 1) := by decide +kernel
theorem dX1_rankOf_2 : decode cX1_rankOf 2 = .ok (.invokevirtual 93, 3) := by decide +kernel
theorem dX1_rankOf_5 : decode cX1_rankOf 5 = .ok (.lstore_n 2, 1) := by decide +kernel
theorem dX1_rankOf_6 : decode cX1_rankOf 6 = .ok (.iconst 0, 1) := by decide +kernel
theorem dX1_rankOf_7 : decode cX1_rankOf 7 = .ok (.istore 4, 2) := by decide +kernel
theorem dX1_rankOf_9 : decode cX1_rankOf 9 = .ok (.iconst 0, 1) := by decide +kernel
theorem dX1_rankOf_10 : decode cX1_rankOf 10 = .ok (.istore 5, 2) := by decide +kernel
theorem dX1_rankOf_12 : decode cX1_rankOf 12 = .ok (.iload 5, 2) := by decide +kernel
theorem dX1_rankOf_14 : decode cX1_rankOf 14 = .ok (.aload_n 0, 1) := by decide +kernel
theorem dX1_rankOf_15 : decode cX1_rankOf 15 = .ok (.getfield 34, 3) := by decide +kernel
theorem dX1_rankOf_18 : decode cX1_rankOf 18 = .ok (.if_icmp .ge 40, 3) := by decide +kernel
theorem dX1_rankOf_21 : decode cX1_rankOf 21 = .ok (.aload_n 0, 1) := by decide +kernel
theorem dX1_rankOf_22 : decode cX1_rankOf 22 = .ok (.iload 5, 2) := by decide +kernel
theorem dX1_rankOf_24 : decode cX1_rankOf 24 = .ok (.invokevirtual 93, 3) := by decide +kernel
theorem dX1_rankOf_27 : decode cX1_rankOf 27 = .ok (.lstore 6, 2) := by decide +kernel
theorem dX1_rankOf_29 : decode cX1_rankOf 29 = .ok (.lload 6, 2) := by decide +kernel
theorem dX1_rankOf_31 : decode cX1_rankOf 31 = .ok (.lload_n 2, 1) := by decide +kernel
theorem dX1_rankOf_32 : decode cX1_rankOf 32 = .ok (.lcmp, 1) := by decide +kernel
theorem dX1_rankOf_33 : decode cX1_rankOf 33 = .ok (.ifCond .gt 16, 3) := by decide +kernel
theorem dX1_rankOf_36 : decode cX1_rankOf 36 = .ok (.lload 6, 2) := by decide +kernel
theorem dX1_rankOf_38 : decode cX1_rankOf 38 = .ok (.lload_n 2, 1) := by decide +kernel
theorem dX1_rankOf_39 : decode cX1_rankOf 39 = .ok (.lcmp, 1) := by decide +kernel
theorem dX1_rankOf_40 : decode cX1_rankOf 40 = .ok (.ifCond .ne 12, 3) := by decide +kernel
theorem dX1_rankOf_43 : decode cX1_rankOf 43 = .ok (.iload 5, 2) := by decide +kernel
theorem dX1_rankOf_45 : decode cX1_rankOf 45 = .ok (.iload_n 1, 1) := by decide +kernel
theorem dX1_rankOf_46 : decode cX1_rankOf 46 = .ok (.if_icmp .ge 6, 3) := by decide +kernel
theorem dX1_rankOf_49 : decode cX1_rankOf 49 = .ok (.iinc 4 1, 3) := by decide +kernel
theorem dX1_rankOf_52 : decode cX1_rankOf 52 = .ok (.iinc 5 1, 3) := by decide +kernel
theorem dX1_rankOf_55 : decode cX1_rankOf 55 = .ok (.goto (-43), 3) := by decide +kernel
theorem dX1_rankOf_58 : decode cX1_rankOf 58 = .ok (.iload 4, 2) := by decide +kernel
theorem dX1_rankOf_60 : decode cX1_rankOf 60 = .ok (.ireturn, 1) := by decide +kernel
theorem dX2_init_0 : decode cX2_init 0 = .ok (.aload_n 0, 1) := by decide +kernel
theorem dX2_init_1 : decode cX2_init 1 = .ok (.invokespecial 3, 3) := by decide +kernel
theorem dX2_init_4 : decode cX2_init 4 = .ok (.aload_n 0, 1) := by decide +kernel
theorem dX2_init_5 : decode cX2_init 5 = .ok (.bipush 10, 2) := by decide +kernel
theorem dX2_init_7 : decode cX2_init 7 = .ok (.newarray .int, 2) := by decide +kernel
theorem dX2_init_9 : decode cX2_init 9 = .ok (.putfield 9, 3) := by decide +kernel
theorem dX2_init_12 : decode cX2_init 12 = .ok (.aload_n 0, 1) := by decide +kernel
theorem dX2_init_13 : decode cX2_init 13 = .ok (.bipush 10, 2) := by decide +kernel
theorem dX2_init_15 : decode cX2_init 15 = .ok (.newarray .int, 2) := by decide +kernel
theorem dX2_init_17 : decode cX2_init 17 = .ok (.putfield 15, 3) := by decide +kernel
theorem dX2_init_20 : decode cX2_init 20 = .ok (.return_, 1) := by decide +kernel
theorem dX2_copyFrom_0 : decode cX2_copyFrom 0 = .ok (.aload_n 1, 1) := by decide +kernel
theorem dX2_copyFrom_1 : decode cX2_copyFrom 1 = .ok (.getfield 9, 3) := by decide +kernel
theorem dX2_copyFrom_4 : decode cX2_copyFrom 4 = .ok (.iconst 0, 1) := by decide +kernel
theorem dX2_copyFrom_5 : decode cX2_copyFrom 5 = .ok (.aload_n 0, 1) := by decide +kernel
theorem dX2_copyFrom_6 : decode cX2_copyFrom 6 = .ok (.getfield 9, 3) := by decide +kernel
theorem dX2_copyFrom_9 : decode cX2_copyFrom 9 = .ok (.iconst 0, 1) := by decide +kernel
theorem dX2_copyFrom_10 : decode cX2_copyFrom 10 = .ok (.bipush 10, 2) := by decide +kernel
theorem dX2_copyFrom_12 : decode cX2_copyFrom 12 = .ok (.invokestatic 18, 3) := by decide +kernel
theorem dX2_copyFrom_15 : decode cX2_copyFrom 15 = .ok (.aload_n 1, 1) := by decide +kernel
theorem dX2_copyFrom_16 : decode cX2_copyFrom 16 = .ok (.getfield 15, 3) := by decide +kernel
theorem dX2_copyFrom_19 : decode cX2_copyFrom 19 = .ok (.iconst 0, 1) := by decide +kernel
theorem dX2_copyFrom_20 : decode cX2_copyFrom 20 = .ok (.aload_n 0, 1) := by decide +kernel
theorem dX2_copyFrom_21 : decode cX2_copyFrom 21 = .ok (.getfield 15, 3) := by decide +kernel
theorem dX2_copyFrom_24 : decode cX2_copyFrom 24 = .ok (.iconst 0, 1) := by decide +kernel
theorem dX2_copyFrom_25 : decode cX2_copyFrom 25 = .ok (.bipush 10, 2) := by decide +kernel
theorem dX2_copyFrom_27 : decode cX2_copyFrom 27 = .ok (.invokestatic 18, 3) := by decide +kernel
theorem dX2_copyFrom_30 : decode cX2_copyFrom 30 = .ok (.aload_n 0, 1) := by decide +kernel
theorem dX2_copyFrom_31 : decode cX2_copyFrom 31 = .ok (.aload_n 1, 1) := by decide +kernel
theorem dX2_copyFrom_32 : decode cX2_copyFrom 32 = .ok (.getfield 24, 3) := by decide +kernel
theorem dX2_copyFrom_35 : decode cX2_copyFrom 35 = .ok (.putfield 24, 3) := by decide +kernel
theorem dX2_copyFrom_38 : decode cX2_copyFrom 38 = .ok (.aload_n 0, 1) := by decide +kernel
theorem dX2_copyFrom_39 : decode cX2_copyFrom 39 = .ok (.aload_n 1, 1) := by decide +kernel
theorem dX2_copyFrom_40 : decode cX2_copyFrom 40 = .ok (.getfield 28, 3) := by decide +kernel
theorem dX2_copyFrom_43 : decode cX2_copyFrom 43 = .ok (.putfield 28, 3) := by decide +kernel
theorem dX2_copyFrom_46 : decode cX2_copyFrom 46 = .ok (.return_, 1) := by decide +kernel
theorem dX2_placeOf_0 : decode cX2_placeOf 0 = .ok (.iconst 0, 1) := by decide +kernel
theorem dX2_placeOf_1 : decode cX2_placeOf 1 = .ok (.istore_n 2, 1) := by decide +kernel
theorem dX2_placeOf_2 : decode cX2_placeOf 2 = .ok (.iload_n 2, 1) := by decide +kernel
theorem dX2_placeOf_3 : decode cX2_placeOf 3 = .ok (.aload_n 0, 1) := by decide +kernel
theorem dX2_placeOf_4 : decode cX2_placeOf 4 = .ok (.getfield 24, 3) := by decide +kernel
theorem dX2_placeOf_7 : decode cX2_placeOf 7 = .ok (.if_icmp .ge 21, 3) := by decide +kernel
theorem dX2_placeOf_10 : decode cX2_placeOf 10 = .ok (.aload_n 0, 1) := by decide +kernel
theorem dX2_placeOf_11 : decode cX2_placeOf 11 = .ok (.getfield 9, 3) := by decide +kernel
theorem dX2_placeOf_14 : decode cX2_placeOf 14 = .ok (.iload_n 2, 1) := by decide +kernel
theorem dX2_placeOf_15 : decode cX2_placeOf 15 = .ok (.iaload, 1) := by decide +kernel
theorem dX2_placeOf_16 : decode cX2_placeOf 16 = .ok (.iload_n 1, 1) := by decide +kernel
theorem dX2_placeOf_17 : decode cX2_placeOf 17 = .ok (.if_icmp .ne 5, 3) := by decide +kernel
theorem dX2_placeOf_20 : decode cX2_placeOf 20 = .ok (.iload_n 2, 1) := by decide +kernel
theorem dX2_placeOf_21 : decode cX2_placeOf 21 = .ok (.ireturn, 1) := by decide +kernel
theorem dX2_placeOf_22 : decode cX2_placeOf 22 = .ok (.iinc 2 1, 3) := by decide +kernel
theorem dX2_placeOf_25 : decode cX2_placeOf 25 = .ok (.goto (-23), 3) := by decide +kernel
theorem dX2_placeOf_28 : decode cX2_placeOf 28 = .ok (.iconst (-1), 1) := by decide +kernel
theorem dX2_placeOf_29 : decode cX2_placeOf 29 = .ok (.ireturn, 1) := by decide +kernel
theorem dX2_idAt_0 : decode cX2_idAt 0 = .ok (.aload_n 0, 1) := by decide +kernel
theorem dX2_idAt_1 : decode cX2_idAt 1 = .ok (.getfield 9, 3) := by decide +kernel
theorem dX2_idAt_4 : decode cX2_idAt 4 = .ok (.iload_n 1, 1) := by decide +kernel
theorem dX2_idAt_5 : decode cX2_idAt 5 = .ok (.iaload, 1) := by decide +kernel
theorem dX2_idAt_6 : decode cX2_idAt 6 = .ok (.ireturn, 1) := by decide +kernel
theorem dX2_amountAt_0 : decode cX2_amountAt 0 = .ok (.aload_n 0, 1) := by decide +kernel
theorem dX2_amountAt_1 : decode cX2_amountAt 1 = .ok (.getfield 15, 3) := by decide +kernel
theorem dX2_amountAt_4 : decode cX2_amountAt 4 = .ok (.iload_n 1, 1) := by decide +kernel
theorem dX2_amountAt_5 : decode cX2_amountAt 5 = .ok (.iaload, 1) := by decide +kernel
theorem dX2_amountAt_6 : decode cX2_amountAt 6 = .ok (.ireturn, 1) := by decide +kernel
theorem dX2_total_0 : decode cX2_total 0 = .ok (.iconst 0, 1) := by decide +kernel
theorem dX2_total_1 : decode cX2_total 1 = .ok (.istore_n 1, 1) := by decide +kernel
theorem dX2_total_2 : decode cX2_total 2 = .ok (.iconst 0, 1) := by decide +kernel
theorem dX2_total_3 : decode cX2_total 3 = .ok (.istore_n 2, 1) := by decide +kernel
theorem dX2_total_4 : decode cX2_total 4 = .ok (.iload_n 2, 1) := by decide +kernel
theorem dX2_total_5 : decode cX2_total 5 = .ok (.aload_n 0, 1) := by decide +kernel
theorem dX2_total_6 : decode cX2_total 6 = .ok (.getfield 24, 3) := by decide +kernel
theorem dX2_total_9 : decode cX2_total 9 = .ok (.if_icmp .ge 18, 3) := by decide +kernel
theorem dX2_total_12 : decode cX2_total 12 = .ok (.iload_n 1, 1) := by decide +kernel
theorem dX2_total_13 : decode cX2_total 13 = .ok (.aload_n 0, 1) := by decide +kernel
theorem dX2_total_14 : decode cX2_total 14 = .ok (.getfield 15, 3) := by decide +kernel
theorem dX2_total_17 : decode cX2_total 17 = .ok (.iload_n 2, 1) := by decide +kernel
theorem dX2_total_18 : decode cX2_total 18 = .ok (.iaload, 1) := by decide +kernel
theorem dX2_total_19 : decode cX2_total 19 = .ok (.iadd, 1) := by decide +kernel
theorem dX2_total_20 : decode cX2_total 20 = .ok (.istore_n 1, 1) := by decide +kernel
theorem dX2_total_21 : decode cX2_total 21 = .ok (.iinc 2 1, 3) := by decide +kernel
theorem dX2_total_24 : decode cX2_total 24 = .ok (.goto (-20), 3) := by decide +kernel
theorem dX2_total_27 : decode cX2_total 27 = .ok (.iload_n 1, 1) := by decide +kernel
theorem dX2_total_28 : decode cX2_total 28 = .ok (.ireturn, 1) := by decide +kernel
theorem dX2_faultOfNew_0 : decode cX2_faultOfNew 0 = .ok (.iload_n 1, 1) := by decide +kernel
theorem dX2_faultOfNew_1 : decode cX2_faultOfNew 1 = .ok (.iconst 1, 1) := by decide +kernel
theorem dX2_faultOfNew_2 : decode cX2_faultOfNew 2 = .ok (.sipush 999, 3) := by decide +kernel
theorem dX2_faultOfNew_5 : decode cX2_faultOfNew 5 = .ok (.invokestatic 31, 3) := by decide +kernel
theorem dX2_faultOfNew_8 : decode cX2_faultOfNew 8 = .ok (.ifCond .ne 7, 3) := by decide +kernel
theorem dX2_faultOfNew_11 : decode cX2_faultOfNew 11 = .ok (.getstatic 35, 3) := by decide +kernel
theorem dX2_faultOfNew_14 : decode cX2_faultOfNew 14 = .ok (.areturn, 1) := by decide +kernel
theorem dX2_faultOfNew_15 : decode cX2_faultOfNew 15 = .ok (.aload_n 0, 1) := by decide +kernel
theorem dX2_faultOfNew_16 : decode cX2_faultOfNew 16 = .ok (.getfield 24, 3) := by decide +kernel
theorem dX2_faultOfNew_19 : decode cX2_faultOfNew 19 = .ok (.bipush 10, 2) := by decide +kernel
theorem dX2_faultOfNew_21 : decode cX2_faultOfNew 21 = .ok (.if_icmp .ge 9, 3) := by decide +kernel
theorem dX2_faultOfNew_24 : decode cX2_faultOfNew 24 = .ok (.getstatic 41, 3) := by decide +kernel
theorem dX2_faultOfNew_27 : decode cX2_faultOfNew 27 = .ok (.goto 6, 3) := by decide +kernel
theorem dX2_faultOfNew_30 : decode cX2_faultOfNew 30 = .ok (.getstatic 44, 3) := by decide +kernel
theorem dX2_faultOfNew_33 : decode cX2_faultOfNew 33 = .ok (.areturn, 1) := by decide +kernel
theorem dX2_faultOfPayment_0 : decode cX2_faultOfPayment 0 = .ok (.iload_n 1, 1) := by decide +kernel
theorem dX2_faultOfPayment_1 : decode cX2_faultOfPayment 1 = .ok (.iconst 1, 1) := by decide +kernel
theorem dX2_faultOfPayment_2 : decode cX2_faultOfPayment 2 = .ok (.sipush 999, 3) := by decide +kernel
theorem dX2_faultOfPayment_5 : decode cX2_faultOfPayment 5 = .ok (.invokestatic 31, 3) := by decide +kernel
theorem dX2_faultOfPayment_8 : decode cX2_faultOfPayment 8 = .ok (.ifCond .ne 7, 3) := by decide +kernel
theorem dX2_faultOfPayment_11 : decode cX2_faultOfPayment 11 = .ok (.getstatic 35, 3) := by decide +kernel
theorem dX2_faultOfPayment_14 : decode cX2_faultOfPayment 14 = .ok (.areturn, 1) := by decide +kernel
theorem dX2_faultOfPayment_15 : decode cX2_faultOfPayment 15 = .ok (.iload_n 1, 1) := by decide +kernel
theorem dX2_faultOfPayment_16 : decode cX2_faultOfPayment 16 = .ok (.aload_n 0, 1) := by decide +kernel
theorem dX2_faultOfPayment_17 : decode cX2_faultOfPayment 17 = .ok (.invokevirtual 47, 3) := by decide +kernel
theorem dX2_faultOfPayment_20 : decode cX2_faultOfPayment 20 = .ok (.if_icmp .gt 9, 3) := by decide +kernel
theorem dX2_faultOfPayment_23 : decode cX2_faultOfPayment 23 = .ok (.getstatic 41, 3) := by decide +kernel
theorem dX2_faultOfPayment_26 : decode cX2_faultOfPayment 26 = .ok (.goto 6, 3) := by decide +kernel
theorem dX2_faultOfPayment_29 : decode cX2_faultOfPayment 29 = .ok (.getstatic 44, 3) := by decide +kernel
theorem dX2_faultOfPayment_32 : decode cX2_faultOfPayment 32 = .ok (.areturn, 1) := by decide +kernel
theorem dX2_add_0 : decode cX2_add 0 = .ok (.aload_n 0, 1) := by decide +kernel
theorem dX2_add_1 : decode cX2_add 1 = .ok (.getfield 28, 3) := by decide +kernel
theorem dX2_add_4 : decode cX2_add 4 = .ok (.istore_n 2, 1) := by decide +kernel
theorem dX2_add_5 : decode cX2_add 5 = .ok (.aload_n 0, 1) := by decide +kernel
theorem dX2_add_6 : decode cX2_add 6 = .ok (.getfield 24, 3) := by decide +kernel
theorem dX2_add_9 : decode cX2_add 9 = .ok (.bipush 10, 2) := by decide +kernel
theorem dX2_add_11 : decode cX2_add 11 = .ok (.if_icmp .ge 43, 3) := by decide +kernel
theorem dX2_add_14 : decode cX2_add 14 = .ok (.aload_n 0, 1) := by decide +kernel
theorem dX2_add_15 : decode cX2_add 15 = .ok (.getfield 9, 3) := by decide +kernel
theorem dX2_add_18 : decode cX2_add 18 = .ok (.aload_n 0, 1) := by decide +kernel
theorem dX2_add_19 : decode cX2_add 19 = .ok (.getfield 24, 3) := by decide +kernel
theorem dX2_add_22 : decode cX2_add 22 = .ok (.iload_n 2, 1) := by decide +kernel
theorem dX2_add_23 : decode cX2_add 23 = .ok (.iastore, 1) := by decide +kernel
theorem dX2_add_24 : decode cX2_add 24 = .ok (.aload_n 0, 1) := by decide +kernel
theorem dX2_add_25 : decode cX2_add 25 = .ok (.getfield 15, 3) := by decide +kernel
theorem dX2_add_28 : decode cX2_add 28 = .ok (.aload_n 0, 1) := by decide +kernel
theorem dX2_add_29 : decode cX2_add 29 = .ok (.getfield 24, 3) := by decide +kernel
theorem dX2_add_32 : decode cX2_add 32 = .ok (.iload_n 1, 1) := by decide +kernel
theorem dX2_add_33 : decode cX2_add 33 = .ok (.iastore, 1) := by decide +kernel
theorem dX2_add_34 : decode cX2_add 34 = .ok (.aload_n 0, 1) := by decide +kernel
theorem dX2_add_35 : decode cX2_add 35 = .ok (.dup, 1) := by decide +kernel
theorem dX2_add_36 : decode cX2_add 36 = .ok (.getfield 24, 3) := by decide +kernel
theorem dX2_add_39 : decode cX2_add 39 = .ok (.iconst 1, 1) := by decide +kernel
theorem dX2_add_40 : decode cX2_add 40 = .ok (.iadd, 1) := by decide +kernel
theorem dX2_add_41 : decode cX2_add 41 = .ok (.putfield 24, 3) := by decide +kernel
theorem dX2_add_44 : decode cX2_add 44 = .ok (.aload_n 0, 1) := by decide +kernel
theorem dX2_add_45 : decode cX2_add 45 = .ok (.dup, 1) := by decide +kernel
theorem dX2_add_46 : decode cX2_add 46 = .ok (.getfield 28, 3) := by decide +kernel
theorem dX2_add_49 : decode cX2_add 49 = .ok (.iconst 1, 1) := by decide +kernel
theorem dX2_add_50 : decode cX2_add 50 = .ok (.iadd, 1) := by decide +kernel
theorem dX2_add_51 : decode cX2_add 51 = .ok (.putfield 28, 3) := by decide +kernel
theorem dX2_add_54 : decode cX2_add 54 = .ok (.iload_n 2, 1) := by decide +kernel
theorem dX2_add_55 : decode cX2_add 55 = .ok (.ireturn, 1) := by decide +kernel
theorem dX2_paySet_0 : decode cX2_paySet 0 = .ok (.iconst 0, 1) := by decide +kernel
theorem dX2_paySet_1 : decode cX2_paySet 1 = .ok (.istore_n 2, 1) := by decide +kernel
theorem dX2_paySet_2 : decode cX2_paySet 2 = .ok (.iload_n 2, 1) := by decide +kernel
theorem dX2_paySet_3 : decode cX2_paySet 3 = .ok (.aload_n 0, 1) := by decide +kernel
theorem dX2_paySet_4 : decode cX2_paySet 4 = .ok (.getfield 24, 3) := by decide +kernel
theorem dX2_paySet_7 : decode cX2_paySet 7 = .ok (.if_icmp .ge 24, 3) := by decide +kernel
theorem dX2_paySet_10 : decode cX2_paySet 10 = .ok (.iload_n 2, 1) := by decide +kernel
theorem dX2_paySet_11 : decode cX2_paySet 11 = .ok (.iload_n 1, 1) := by decide +kernel
theorem dX2_paySet_12 : decode cX2_paySet 12 = .ok (.invokestatic 51, 3) := by decide +kernel
theorem dX2_paySet_15 : decode cX2_paySet 15 = .ok (.ifCond .eq 10, 3) := by decide +kernel
theorem dX2_paySet_18 : decode cX2_paySet 18 = .ok (.aload_n 0, 1) := by decide +kernel
theorem dX2_paySet_19 : decode cX2_paySet 19 = .ok (.getfield 15, 3) := by decide +kernel
theorem dX2_paySet_22 : decode cX2_paySet 22 = .ok (.iload_n 2, 1) := by decide +kernel
theorem dX2_paySet_23 : decode cX2_paySet 23 = .ok (.iconst 0, 1) := by decide +kernel
theorem dX2_paySet_24 : decode cX2_paySet 24 = .ok (.iastore, 1) := by decide +kernel
theorem dX2_paySet_25 : decode cX2_paySet 25 = .ok (.iinc 2 1, 3) := by decide +kernel
theorem dX2_paySet_28 : decode cX2_paySet 28 = .ok (.goto (-26), 3) := by decide +kernel
theorem dX2_paySet_31 : decode cX2_paySet 31 = .ok (.aload_n 0, 1) := by decide +kernel
theorem dX2_paySet_32 : decode cX2_paySet 32 = .ok (.invokevirtual 55, 3) := by decide +kernel
theorem dX2_paySet_35 : decode cX2_paySet 35 = .ok (.ireturn, 1) := by decide +kernel
theorem dX2_payInOrder_0 : decode cX2_payInOrder 0 = .ok (.iload_n 1, 1) := by decide +kernel
theorem dX2_payInOrder_1 : decode cX2_payInOrder 1 = .ok (.istore_n 2, 1) := by decide +kernel
theorem dX2_payInOrder_2 : decode cX2_payInOrder 2 = .ok (.iconst 0, 1) := by decide +kernel
theorem dX2_payInOrder_3 : decode cX2_payInOrder 3 = .ok (.istore_n 3, 1) := by decide +kernel
theorem dX2_payInOrder_4 : decode cX2_payInOrder 4 = .ok (.iload_n 3, 1) := by decide +kernel
theorem dX2_payInOrder_5 : decode cX2_payInOrder 5 = .ok (.aload_n 0, 1) := by decide +kernel
theorem dX2_payInOrder_6 : decode cX2_payInOrder 6 = .ok (.getfield 24, 3) := by decide +kernel
theorem dX2_payInOrder_9 : decode cX2_payInOrder 9 = .ok (.if_icmp .ge 37, 3) := by decide +kernel
theorem dX2_payInOrder_12 : decode cX2_payInOrder 12 = .ok (.iload_n 2, 1) := by decide +kernel
theorem dX2_payInOrder_13 : decode cX2_payInOrder 13 = .ok (.aload_n 0, 1) := by decide +kernel
theorem dX2_payInOrder_14 : decode cX2_payInOrder 14 = .ok (.getfield 15, 3) := by decide +kernel
theorem dX2_payInOrder_17 : decode cX2_payInOrder 17 = .ok (.iload_n 3, 1) := by decide +kernel
theorem dX2_payInOrder_18 : decode cX2_payInOrder 18 = .ok (.iaload, 1) := by decide +kernel
theorem dX2_payInOrder_19 : decode cX2_payInOrder 19 = .ok (.invokestatic 58, 3) := by decide +kernel
theorem dX2_payInOrder_22 : decode cX2_payInOrder 22 = .ok (.istore 4, 2) := by decide +kernel
theorem dX2_payInOrder_24 : decode cX2_payInOrder 24 = .ok (.aload_n 0, 1) := by decide +kernel
theorem dX2_payInOrder_25 : decode cX2_payInOrder 25 = .ok (.getfield 15, 3) := by decide +kernel
theorem dX2_payInOrder_28 : decode cX2_payInOrder 28 = .ok (.iload_n 3, 1) := by decide +kernel
theorem dX2_payInOrder_29 : decode cX2_payInOrder 29 = .ok (.dup2, 1) := by decide +kernel
theorem dX2_payInOrder_30 : decode cX2_payInOrder 30 = .ok (.iaload, 1) := by decide +kernel
theorem dX2_payInOrder_31 : decode cX2_payInOrder 31 = .ok (.iload 4, 2) := by decide +kernel
theorem dX2_payInOrder_33 : decode cX2_payInOrder 33 = .ok (.isub, 1) := by decide +kernel
theorem dX2_payInOrder_34 : decode cX2_payInOrder 34 = .ok (.iastore, 1) := by decide +kernel
theorem dX2_payInOrder_35 : decode cX2_payInOrder 35 = .ok (.iload_n 2, 1) := by decide +kernel
theorem dX2_payInOrder_36 : decode cX2_payInOrder 36 = .ok (.iload 4, 2) := by decide +kernel
theorem dX2_payInOrder_38 : decode cX2_payInOrder 38 = .ok (.isub, 1) := by decide +kernel
theorem dX2_payInOrder_39 : decode cX2_payInOrder 39 = .ok (.istore_n 2, 1) := by decide +kernel
theorem dX2_payInOrder_40 : decode cX2_payInOrder 40 = .ok (.iinc 3 1, 3) := by decide +kernel
theorem dX2_payInOrder_43 : decode cX2_payInOrder 43 = .ok (.goto (-39), 3) := by decide +kernel
theorem dX2_payInOrder_46 : decode cX2_payInOrder 46 = .ok (.aload_n 0, 1) := by decide +kernel
theorem dX2_payInOrder_47 : decode cX2_payInOrder 47 = .ok (.invokevirtual 55, 3) := by decide +kernel
theorem dX2_payInOrder_50 : decode cX2_payInOrder 50 = .ok (.ireturn, 1) := by decide +kernel
theorem dX2_dropPaid_0 : decode cX2_dropPaid 0 = .ok (.aload_n 0, 1) := by decide +kernel
theorem dX2_dropPaid_1 : decode cX2_dropPaid 1 = .ok (.getfield 24, 3) := by decide +kernel
theorem dX2_dropPaid_4 : decode cX2_dropPaid 4 = .ok (.istore_n 1, 1) := by decide +kernel
theorem dX2_dropPaid_5 : decode cX2_dropPaid 5 = .ok (.iconst 0, 1) := by decide +kernel
theorem dX2_dropPaid_6 : decode cX2_dropPaid 6 = .ok (.istore_n 2, 1) := by decide +kernel
theorem dX2_dropPaid_7 : decode cX2_dropPaid 7 = .ok (.iconst 0, 1) := by decide +kernel
theorem dX2_dropPaid_8 : decode cX2_dropPaid 8 = .ok (.istore_n 3, 1) := by decide +kernel
theorem dX2_dropPaid_9 : decode cX2_dropPaid 9 = .ok (.iload_n 3, 1) := by decide +kernel
theorem dX2_dropPaid_10 : decode cX2_dropPaid 10 = .ok (.iload_n 1, 1) := by decide +kernel
theorem dX2_dropPaid_11 : decode cX2_dropPaid 11 = .ok (.if_icmp .ge 45, 3) := by decide +kernel
theorem dX2_dropPaid_14 : decode cX2_dropPaid 14 = .ok (.aload_n 0, 1) := by decide +kernel
theorem dX2_dropPaid_15 : decode cX2_dropPaid 15 = .ok (.getfield 15, 3) := by decide +kernel
theorem dX2_dropPaid_18 : decode cX2_dropPaid 18 = .ok (.iload_n 3, 1) := by decide +kernel
theorem dX2_dropPaid_19 : decode cX2_dropPaid 19 = .ok (.iaload, 1) := by decide +kernel
theorem dX2_dropPaid_20 : decode cX2_dropPaid 20 = .ok (.ifCond .le 30, 3) := by decide +kernel
theorem dX2_dropPaid_23 : decode cX2_dropPaid 23 = .ok (.aload_n 0, 1) := by decide +kernel
theorem dX2_dropPaid_24 : decode cX2_dropPaid 24 = .ok (.getfield 9, 3) := by decide +kernel
theorem dX2_dropPaid_27 : decode cX2_dropPaid 27 = .ok (.iload_n 2, 1) := by decide +kernel
theorem dX2_dropPaid_28 : decode cX2_dropPaid 28 = .ok (.aload_n 0, 1) := by decide +kernel
theorem dX2_dropPaid_29 : decode cX2_dropPaid 29 = .ok (.getfield 9, 3) := by decide +kernel
theorem dX2_dropPaid_32 : decode cX2_dropPaid 32 = .ok (.iload_n 3, 1) := by decide +kernel
theorem dX2_dropPaid_33 : decode cX2_dropPaid 33 = .ok (.iaload, 1) := by decide +kernel
theorem dX2_dropPaid_34 : decode cX2_dropPaid 34 = .ok (.iastore, 1) := by decide +kernel
theorem dX2_dropPaid_35 : decode cX2_dropPaid 35 = .ok (.aload_n 0, 1) := by decide +kernel
theorem dX2_dropPaid_36 : decode cX2_dropPaid 36 = .ok (.getfield 15, 3) := by decide +kernel
theorem dX2_dropPaid_39 : decode cX2_dropPaid 39 = .ok (.iload_n 2, 1) := by decide +kernel
theorem dX2_dropPaid_40 : decode cX2_dropPaid 40 = .ok (.aload_n 0, 1) := by decide +kernel
theorem dX2_dropPaid_41 : decode cX2_dropPaid 41 = .ok (.getfield 15, 3) := by decide +kernel
theorem dX2_dropPaid_44 : decode cX2_dropPaid 44 = .ok (.iload_n 3, 1) := by decide +kernel
theorem dX2_dropPaid_45 : decode cX2_dropPaid 45 = .ok (.iaload, 1) := by decide +kernel
theorem dX2_dropPaid_46 : decode cX2_dropPaid 46 = .ok (.iastore, 1) := by decide +kernel
theorem dX2_dropPaid_47 : decode cX2_dropPaid 47 = .ok (.iinc 2 1, 3) := by decide +kernel
theorem dX2_dropPaid_50 : decode cX2_dropPaid 50 = .ok (.iinc 3 1, 3) := by decide +kernel
theorem dX2_dropPaid_53 : decode cX2_dropPaid 53 = .ok (.goto (-44), 3) := by decide +kernel
theorem dX2_dropPaid_56 : decode cX2_dropPaid 56 = .ok (.aload_n 0, 1) := by decide +kernel
theorem dX2_dropPaid_57 : decode cX2_dropPaid 57 = .ok (.iload_n 2, 1) := by decide +kernel
theorem dX2_dropPaid_58 : decode cX2_dropPaid 58 = .ok (.putfield 24, 3) := by decide +kernel
theorem dX2_dropPaid_61 : decode cX2_dropPaid 61 = .ok (.iload_n 1, 1) := by decide +kernel
theorem dX2_dropPaid_62 : decode cX2_dropPaid 62 = .ok (.iload_n 2, 1) := by decide +kernel
theorem dX2_dropPaid_63 : decode cX2_dropPaid 63 = .ok (.isub, 1) := by decide +kernel
theorem dX2_dropPaid_64 : decode cX2_dropPaid 64 = .ok (.ireturn, 1) := by decide +kernel
theorem dX3_init_0 : decode cX3_init 0 = .ok (.aload_n 0, 1) := by decide +kernel
theorem dX3_init_1 : decode cX3_init 1 = .ok (.invokespecial 3, 3) := by decide +kernel
theorem dX3_init_4 : decode cX3_init 4 = .ok (.aload_n 0, 1) := by decide +kernel
theorem dX3_init_5 : decode cX3_init 5 = .ok (.new 9, 3) := by decide +kernel
theorem dX3_init_8 : decode cX3_init 8 = .ok (.dup, 1) := by decide +kernel
theorem dX3_init_9 : decode cX3_init 9 = .ok (.invokespecial 11, 3) := by decide +kernel
theorem dX3_init_12 : decode cX3_init 12 = .ok (.putfield 12, 3) := by decide +kernel
theorem dX3_init_15 : decode cX3_init 15 = .ok (.aload_n 0, 1) := by decide +kernel
theorem dX3_init_16 : decode cX3_init 16 = .ok (.new 18, 3) := by decide +kernel
theorem dX3_init_19 : decode cX3_init 19 = .ok (.dup, 1) := by decide +kernel
theorem dX3_init_20 : decode cX3_init 20 = .ok (.invokespecial 20, 3) := by decide +kernel
theorem dX3_init_23 : decode cX3_init 23 = .ok (.putfield 21, 3) := by decide +kernel
theorem dX3_init_26 : decode cX3_init 26 = .ok (.aload_n 0, 1) := by decide +kernel
theorem dX3_init_27 : decode cX3_init 27 = .ok (.new 25, 3) := by decide +kernel
theorem dX3_init_30 : decode cX3_init 30 = .ok (.dup, 1) := by decide +kernel
theorem dX3_init_31 : decode cX3_init 31 = .ok (.invokespecial 27, 3) := by decide +kernel
theorem dX3_init_34 : decode cX3_init 34 = .ok (.putfield 28, 3) := by decide +kernel
theorem dX3_init_37 : decode cX3_init 37 = .ok (.aload_n 0, 1) := by decide +kernel
theorem dX3_init_38 : decode cX3_init 38 = .ok (.new 32, 3) := by decide +kernel
theorem dX3_init_41 : decode cX3_init 41 = .ok (.dup, 1) := by decide +kernel
theorem dX3_init_42 : decode cX3_init 42 = .ok (.invokespecial 34, 3) := by decide +kernel
theorem dX3_init_45 : decode cX3_init 45 = .ok (.putfield 35, 3) := by decide +kernel
theorem dX3_init_48 : decode cX3_init 48 = .ok (.aload_n 0, 1) := by decide +kernel
theorem dX3_init_49 : decode cX3_init 49 = .ok (.new 39, 3) := by decide +kernel
theorem dX3_init_52 : decode cX3_init 52 = .ok (.dup, 1) := by decide +kernel
theorem dX3_init_53 : decode cX3_init 53 = .ok (.invokespecial 41, 3) := by decide +kernel
theorem dX3_init_56 : decode cX3_init 56 = .ok (.putfield 42, 3) := by decide +kernel
theorem dX3_init_59 : decode cX3_init 59 = .ok (.return_, 1) := by decide +kernel
theorem dX3_copyFrom_0 : decode cX3_copyFrom 0 = .ok (.aload_n 0, 1) := by decide +kernel
theorem dX3_copyFrom_1 : decode cX3_copyFrom 1 = .ok (.getfield 12, 3) := by decide +kernel
theorem dX3_copyFrom_4 : decode cX3_copyFrom 4 = .ok (.aload_n 1, 1) := by decide +kernel
theorem dX3_copyFrom_5 : decode cX3_copyFrom 5 = .ok (.getfield 12, 3) := by decide +kernel
theorem dX3_copyFrom_8 : decode cX3_copyFrom 8 = .ok (.invokevirtual 46, 3) := by decide +kernel
theorem dX3_copyFrom_11 : decode cX3_copyFrom 11 = .ok (.aload_n 0, 1) := by decide +kernel
theorem dX3_copyFrom_12 : decode cX3_copyFrom 12 = .ok (.getfield 21, 3) := by decide +kernel
theorem dX3_copyFrom_15 : decode cX3_copyFrom 15 = .ok (.aload_n 1, 1) := by decide +kernel
theorem dX3_copyFrom_16 : decode cX3_copyFrom 16 = .ok (.getfield 21, 3) := by decide +kernel
theorem dX3_copyFrom_19 : decode cX3_copyFrom 19 = .ok (.invokevirtual 50, 3) := by decide +kernel
theorem dX3_copyFrom_22 : decode cX3_copyFrom 22 = .ok (.aload_n 0, 1) := by decide +kernel
theorem dX3_copyFrom_23 : decode cX3_copyFrom 23 = .ok (.getfield 28, 3) := by decide +kernel
theorem dX3_copyFrom_26 : decode cX3_copyFrom 26 = .ok (.aload_n 1, 1) := by decide +kernel
theorem dX3_copyFrom_27 : decode cX3_copyFrom 27 = .ok (.getfield 28, 3) := by decide +kernel
theorem dX3_copyFrom_30 : decode cX3_copyFrom 30 = .ok (.invokevirtual 53, 3) := by decide +kernel
theorem dX3_copyFrom_33 : decode cX3_copyFrom 33 = .ok (.aload_n 0, 1) := by decide +kernel
theorem dX3_copyFrom_34 : decode cX3_copyFrom 34 = .ok (.getfield 35, 3) := by decide +kernel
theorem dX3_copyFrom_37 : decode cX3_copyFrom 37 = .ok (.aload_n 1, 1) := by decide +kernel
theorem dX3_copyFrom_38 : decode cX3_copyFrom 38 = .ok (.getfield 35, 3) := by decide +kernel
theorem dX3_copyFrom_41 : decode cX3_copyFrom 41 = .ok (.invokevirtual 56, 3) := by decide +kernel
theorem dX3_copyFrom_44 : decode cX3_copyFrom 44 = .ok (.aload_n 0, 1) := by decide +kernel
theorem dX3_copyFrom_45 : decode cX3_copyFrom 45 = .ok (.getfield 42, 3) := by decide +kernel
theorem dX3_copyFrom_48 : decode cX3_copyFrom 48 = .ok (.aload_n 1, 1) := by decide +kernel
theorem dX3_copyFrom_49 : decode cX3_copyFrom 49 = .ok (.getfield 42, 3) := by decide +kernel
theorem dX3_copyFrom_52 : decode cX3_copyFrom 52 = .ok (.invokevirtual 59, 3) := by decide +kernel
theorem dX3_copyFrom_55 : decode cX3_copyFrom 55 = .ok (.aload_n 0, 1) := by decide +kernel
theorem dX3_copyFrom_56 : decode cX3_copyFrom 56 = .ok (.aload_n 1, 1) := by decide +kernel
theorem dX3_copyFrom_57 : decode cX3_copyFrom 57 = .ok (.getfield 62, 3) := by decide +kernel
theorem dX3_copyFrom_60 : decode cX3_copyFrom 60 = .ok (.putfield 62, 3) := by decide +kernel
theorem dX3_copyFrom_63 : decode cX3_copyFrom 63 = .ok (.aload_n 0, 1) := by decide +kernel
theorem dX3_copyFrom_64 : decode cX3_copyFrom 64 = .ok (.aload_n 1, 1) := by decide +kernel
theorem dX3_copyFrom_65 : decode cX3_copyFrom 65 = .ok (.getfield 66, 3) := by decide +kernel
theorem dX3_copyFrom_68 : decode cX3_copyFrom 68 = .ok (.putfield 66, 3) := by decide +kernel
theorem dX3_copyFrom_71 : decode cX3_copyFrom 71 = .ok (.return_, 1) := by decide +kernel
theorem dX3_makeEntry_0 : decode cX3_makeEntry 0 = .ok (.aload_n 0, 1) := by decide +kernel
theorem dX3_makeEntry_1 : decode cX3_makeEntry 1 = .ok (.getfield 12, 3) := by decide +kernel
theorem dX3_makeEntry_4 : decode cX3_makeEntry 4 = .ok (.iload_n 1, 1) := by decide +kernel
theorem dX3_makeEntry_5 : decode cX3_makeEntry 5 = .ok (.iload_n 2, 1) := by decide +kernel
theorem dX3_makeEntry_6 : decode cX3_makeEntry 6 = .ok (.lload_n 3, 1) := by decide +kernel
theorem dX3_makeEntry_7 : decode cX3_makeEntry 7 = .ok (.invokevirtual 69, 3) := by decide +kernel
theorem dX3_makeEntry_10 : decode cX3_makeEntry 10 = .ok (.aload_n 0, 1) := by decide +kernel
theorem dX3_makeEntry_11 : decode cX3_makeEntry 11 = .ok (.getfield 21, 3) := by decide +kernel
theorem dX3_makeEntry_14 : decode cX3_makeEntry 14 = .ok (.iload_n 1, 1) := by decide +kernel
theorem dX3_makeEntry_15 : decode cX3_makeEntry 15 = .ok (.iload_n 2, 1) := by decide +kernel
theorem dX3_makeEntry_16 : decode cX3_makeEntry 16 = .ok (.lload_n 3, 1) := by decide +kernel
theorem dX3_makeEntry_17 : decode cX3_makeEntry 17 = .ok (.aload_n 0, 1) := by decide +kernel
theorem dX3_makeEntry_18 : decode cX3_makeEntry 18 = .ok (.getfield 62, 3) := by decide +kernel
theorem dX3_makeEntry_21 : decode cX3_makeEntry 21 = .ok (.invokevirtual 73, 3) := by decide +kernel
theorem dX3_makeEntry_24 : decode cX3_makeEntry 24 = .ok (.ireturn, 1) := by decide +kernel
theorem dX3_makeReversal_0 : decode cX3_makeReversal 0 = .ok (.aload_n 0, 1) := by decide +kernel
theorem dX3_makeReversal_1 : decode cX3_makeReversal 1 = .ok (.getfield 21, 3) := by decide +kernel
theorem dX3_makeReversal_4 : decode cX3_makeReversal 4 = .ok (.iload_n 1, 1) := by decide +kernel
theorem dX3_makeReversal_5 : decode cX3_makeReversal 5 = .ok (.invokevirtual 77, 3) := by decide +kernel
theorem dX3_makeReversal_8 : decode cX3_makeReversal 8 = .ok (.aload_n 0, 1) := by decide +kernel
theorem dX3_makeReversal_9 : decode cX3_makeReversal 9 = .ok (.aload_n 0, 1) := by decide +kernel
theorem dX3_makeReversal_10 : decode cX3_makeReversal 10 = .ok (.getfield 21, 3) := by decide +kernel
theorem dX3_makeReversal_13 : decode cX3_makeReversal 13 = .ok (.iload_n 1, 1) := by decide +kernel
theorem dX3_makeReversal_14 : decode cX3_makeReversal 14 = .ok (.invokevirtual 81, 3) := by decide +kernel
theorem dX3_makeReversal_17 : decode cX3_makeReversal 17 = .ok (.aload_n 0, 1) := by decide +kernel
theorem dX3_makeReversal_18 : decode cX3_makeReversal 18 = .ok (.getfield 21, 3) := by decide +kernel
theorem dX3_makeReversal_21 : decode cX3_makeReversal 21 = .ok (.iload_n 1, 1) := by decide +kernel
theorem dX3_makeReversal_22 : decode cX3_makeReversal 22 = .ok (.invokevirtual 85, 3) := by decide +kernel
theorem dX3_makeReversal_25 : decode cX3_makeReversal 25 = .ok (.aload_n 0, 1) := by decide +kernel
theorem dX3_makeReversal_26 : decode cX3_makeReversal 26 = .ok (.getfield 21, 3) := by decide +kernel
theorem dX3_makeReversal_29 : decode cX3_makeReversal 29 = .ok (.iload_n 1, 1) := by decide +kernel
theorem dX3_makeReversal_30 : decode cX3_makeReversal 30 = .ok (.invokevirtual 88, 3) := by decide +kernel
theorem dX3_makeReversal_33 : decode cX3_makeReversal 33 = .ok (.invokevirtual 92, 3) := by decide +kernel
theorem dX3_makeReversal_36 : decode cX3_makeReversal 36 = .ok (.istore_n 2, 1) := by decide +kernel
theorem dX3_makeReversal_37 : decode cX3_makeReversal 37 = .ok (.aload_n 0, 1) := by decide +kernel
theorem dX3_makeReversal_38 : decode cX3_makeReversal 38 = .ok (.getfield 21, 3) := by decide +kernel
theorem dX3_makeReversal_41 : decode cX3_makeReversal 41 = .ok (.iload_n 2, 1) := by decide +kernel
theorem dX3_makeReversal_42 : decode cX3_makeReversal 42 = .ok (.invokevirtual 96, 3) := by decide +kernel
theorem dX3_makeReversal_45 : decode cX3_makeReversal 45 = .ok (.iload_n 2, 1) := by decide +kernel
theorem dX3_makeReversal_46 : decode cX3_makeReversal 46 = .ok (.ireturn, 1) := by decide +kernel
theorem dX3_letPass_0 : decode cX3_letPass 0 = .ok (.iconst 0, 1) := by decide +kernel
theorem dX3_letPass_1 : decode cX3_letPass 1 = .ok (.istore_n 2, 1) := by decide +kernel
theorem dX3_letPass_2 : decode cX3_letPass 2 = .ok (.iconst 0, 1) := by decide +kernel
theorem dX3_letPass_3 : decode cX3_letPass 3 = .ok (.istore_n 3, 1) := by decide +kernel
theorem dX3_letPass_4 : decode cX3_letPass 4 = .ok (.iload_n 3, 1) := by decide +kernel
theorem dX3_letPass_5 : decode cX3_letPass 5 = .ok (.iload_n 1, 1) := by decide +kernel
theorem dX3_letPass_6 : decode cX3_letPass 6 = .ok (.if_icmp .ge 95, 3) := by decide +kernel
theorem dX3_letPass_9 : decode cX3_letPass 9 = .ok (.aload_n 0, 1) := by decide +kernel
theorem dX3_letPass_10 : decode cX3_letPass 10 = .ok (.dup, 1) := by decide +kernel
theorem dX3_letPass_11 : decode cX3_letPass 11 = .ok (.getfield 62, 3) := by decide +kernel
theorem dX3_letPass_14 : decode cX3_letPass 14 = .ok (.iconst 1, 1) := by decide +kernel
theorem dX3_letPass_15 : decode cX3_letPass 15 = .ok (.iadd, 1) := by decide +kernel
theorem dX3_letPass_16 : decode cX3_letPass 16 = .ok (.putfield 62, 3) := by decide +kernel
theorem dX3_letPass_19 : decode cX3_letPass 19 = .ok (.iconst 0, 1) := by decide +kernel
theorem dX3_letPass_20 : decode cX3_letPass 20 = .ok (.istore 4, 2) := by decide +kernel
theorem dX3_letPass_22 : decode cX3_letPass 22 = .ok (.iload 4, 2) := by decide +kernel
theorem dX3_letPass_24 : decode cX3_letPass 24 = .ok (.aload_n 0, 1) := by decide +kernel
theorem dX3_letPass_25 : decode cX3_letPass 25 = .ok (.getfield 28, 3) := by decide +kernel
theorem dX3_letPass_28 : decode cX3_letPass 28 = .ok (.getfield 99, 3) := by decide +kernel
theorem dX3_letPass_31 : decode cX3_letPass 31 = .ok (.if_icmp .ge 57, 3) := by decide +kernel
theorem dX3_letPass_34 : decode cX3_letPass 34 = .ok (.aload_n 0, 1) := by decide +kernel
theorem dX3_letPass_35 : decode cX3_letPass 35 = .ok (.getfield 28, 3) := by decide +kernel
theorem dX3_letPass_38 : decode cX3_letPass 38 = .ok (.iload 4, 2) := by decide +kernel
theorem dX3_letPass_40 : decode cX3_letPass 40 = .ok (.invokevirtual 102, 3) := by decide +kernel
theorem dX3_letPass_43 : decode cX3_letPass 43 = .ok (.ifCond .eq 39, 3) := by decide +kernel
theorem dX3_letPass_46 : decode cX3_letPass 46 = .ok (.aload_n 0, 1) := by decide +kernel
theorem dX3_letPass_47 : decode cX3_letPass 47 = .ok (.aload_n 0, 1) := by decide +kernel
theorem dX3_letPass_48 : decode cX3_letPass 48 = .ok (.getfield 28, 3) := by decide +kernel
theorem dX3_letPass_51 : decode cX3_letPass 51 = .ok (.iload 4, 2) := by decide +kernel
theorem dX3_letPass_53 : decode cX3_letPass 53 = .ok (.invokevirtual 106, 3) := by decide +kernel
theorem dX3_letPass_56 : decode cX3_letPass 56 = .ok (.aload_n 0, 1) := by decide +kernel
theorem dX3_letPass_57 : decode cX3_letPass 57 = .ok (.getfield 28, 3) := by decide +kernel
theorem dX3_letPass_60 : decode cX3_letPass 60 = .ok (.iload 4, 2) := by decide +kernel
theorem dX3_letPass_62 : decode cX3_letPass 62 = .ok (.invokevirtual 107, 3) := by decide +kernel
theorem dX3_letPass_65 : decode cX3_letPass 65 = .ok (.aload_n 0, 1) := by decide +kernel
theorem dX3_letPass_66 : decode cX3_letPass 66 = .ok (.getfield 28, 3) := by decide +kernel
theorem dX3_letPass_69 : decode cX3_letPass 69 = .ok (.iload 4, 2) := by decide +kernel
theorem dX3_letPass_71 : decode cX3_letPass 71 = .ok (.invokevirtual 108, 3) := by decide +kernel
theorem dX3_letPass_74 : decode cX3_letPass 74 = .ok (.i2l, 1) := by decide +kernel
theorem dX3_letPass_75 : decode cX3_letPass 75 = .ok (.invokevirtual 92, 3) := by decide +kernel
theorem dX3_letPass_78 : decode cX3_letPass 78 = .ok (.pop, 1) := by decide +kernel
theorem dX3_letPass_79 : decode cX3_letPass 79 = .ok (.iinc 2 1, 3) := by decide +kernel
theorem dX3_letPass_82 : decode cX3_letPass 82 = .ok (.iinc 4 1, 3) := by decide +kernel
theorem dX3_letPass_85 : decode cX3_letPass 85 = .ok (.goto (-63), 3) := by decide +kernel
theorem dX3_letPass_88 : decode cX3_letPass 88 = .ok (.aload_n 0, 1) := by decide +kernel
theorem dX3_letPass_89 : decode cX3_letPass 89 = .ok (.getfield 28, 3) := by decide +kernel
theorem dX3_letPass_92 : decode cX3_letPass 92 = .ok (.invokevirtual 110, 3) := by decide +kernel
theorem dX3_letPass_95 : decode cX3_letPass 95 = .ok (.iinc 3 1, 3) := by decide +kernel
theorem dX3_letPass_98 : decode cX3_letPass 98 = .ok (.goto (-94), 3) := by decide +kernel
theorem dX3_letPass_101 : decode cX3_letPass 101 = .ok (.iload_n 2, 1) := by decide +kernel
theorem dX3_letPass_102 : decode cX3_letPass 102 = .ok (.ireturn, 1) := by decide +kernel
theorem dX3_faultOfBuying_0 : decode cX3_faultOfBuying 0 = .ok (.iload_n 1, 1) := by decide +kernel
theorem dX3_faultOfBuying_1 : decode cX3_faultOfBuying 1 = .ok (.iload_n 2, 1) := by decide +kernel
theorem dX3_faultOfBuying_2 : decode cX3_faultOfBuying 2 = .ok (.invokestatic 113, 3) := by decide +kernel
theorem dX3_faultOfBuying_5 : decode cX3_faultOfBuying 5 = .ok (.ifCond .ne 7, 3) := by decide +kernel
theorem dX3_faultOfBuying_8 : decode cX3_faultOfBuying 8 = .ok (.getstatic 117, 3) := by decide +kernel
theorem dX3_faultOfBuying_11 : decode cX3_faultOfBuying 11 = .ok (.areturn, 1) := by decide +kernel
theorem dX3_faultOfBuying_12 : decode cX3_faultOfBuying 12 = .ok (.aload_n 0, 1) := by decide +kernel
theorem dX3_faultOfBuying_13 : decode cX3_faultOfBuying 13 = .ok (.getfield 35, 3) := by decide +kernel
theorem dX3_faultOfBuying_16 : decode cX3_faultOfBuying 16 = .ok (.getfield 123, 3) := by decide +kernel
theorem dX3_faultOfBuying_19 : decode cX3_faultOfBuying 19 = .ok (.bipush 8, 2) := by decide +kernel
theorem dX3_faultOfBuying_21 : decode cX3_faultOfBuying 21 = .ok (.if_icmp .lt 7, 3) := by decide +kernel
theorem dX3_faultOfBuying_24 : decode cX3_faultOfBuying 24 = .ok (.getstatic 124, 3) := by decide +kernel
theorem dX3_faultOfBuying_27 : decode cX3_faultOfBuying 27 = .ok (.areturn, 1) := by decide +kernel
theorem dX3_faultOfBuying_28 : decode cX3_faultOfBuying 28 = .ok (.aload_n 0, 1) := by decide +kernel
theorem dX3_faultOfBuying_29 : decode cX3_faultOfBuying 29 = .ok (.getfield 12, 3) := by decide +kernel
theorem dX3_faultOfBuying_32 : decode cX3_faultOfBuying 32 = .ok (.iconst 0, 1) := by decide +kernel
theorem dX3_faultOfBuying_33 : decode cX3_faultOfBuying 33 = .ok (.invokevirtual 127, 3) := by decide +kernel
theorem dX3_faultOfBuying_36 : decode cX3_faultOfBuying 36 = .ok (.iload_n 1, 1) := by decide +kernel
theorem dX3_faultOfBuying_37 : decode cX3_faultOfBuying 37 = .ok (.iload_n 2, 1) := by decide +kernel
theorem dX3_faultOfBuying_38 : decode cX3_faultOfBuying 38 = .ok (.imul, 1) := by decide +kernel
theorem dX3_faultOfBuying_39 : decode cX3_faultOfBuying 39 = .ok (.i2l, 1) := by decide +kernel
theorem dX3_faultOfBuying_40 : decode cX3_faultOfBuying 40 = .ok (.lcmp, 1) := by decide +kernel
theorem dX3_faultOfBuying_41 : decode cX3_faultOfBuying 41 = .ok (.ifCond .ge 9, 3) := by decide +kernel
theorem dX3_faultOfBuying_44 : decode cX3_faultOfBuying 44 = .ok (.getstatic 130, 3) := by decide +kernel
theorem dX3_faultOfBuying_47 : decode cX3_faultOfBuying 47 = .ok (.goto 6, 3) := by decide +kernel
theorem dX3_faultOfBuying_50 : decode cX3_faultOfBuying 50 = .ok (.getstatic 133, 3) := by decide +kernel
theorem dX3_faultOfBuying_53 : decode cX3_faultOfBuying 53 = .ok (.areturn, 1) := by decide +kernel
theorem dX3_buyLot_0 : decode cX3_buyLot 0 = .ok (.iload_n 1, 1) := by decide +kernel
theorem dX3_buyLot_1 : decode cX3_buyLot 1 = .ok (.iload_n 2, 1) := by decide +kernel
theorem dX3_buyLot_2 : decode cX3_buyLot 2 = .ok (.imul, 1) := by decide +kernel
theorem dX3_buyLot_3 : decode cX3_buyLot 3 = .ok (.istore_n 3, 1) := by decide +kernel
theorem dX3_buyLot_4 : decode cX3_buyLot 4 = .ok (.aload_n 0, 1) := by decide +kernel
theorem dX3_buyLot_5 : decode cX3_buyLot 5 = .ok (.iconst 1, 1) := by decide +kernel
theorem dX3_buyLot_6 : decode cX3_buyLot 6 = .ok (.iconst 0, 1) := by decide +kernel
theorem dX3_buyLot_7 : decode cX3_buyLot 7 = .ok (.iload_n 3, 1) := by decide +kernel
theorem dX3_buyLot_8 : decode cX3_buyLot 8 = .ok (.i2l, 1) := by decide +kernel
theorem dX3_buyLot_9 : decode cX3_buyLot 9 = .ok (.invokevirtual 92, 3) := by decide +kernel
theorem dX3_buyLot_12 : decode cX3_buyLot 12 = .ok (.pop, 1) := by decide +kernel
theorem dX3_buyLot_13 : decode cX3_buyLot 13 = .ok (.aload_n 0, 1) := by decide +kernel
theorem dX3_buyLot_14 : decode cX3_buyLot 14 = .ok (.getfield 35, 3) := by decide +kernel
theorem dX3_buyLot_17 : decode cX3_buyLot 17 = .ok (.iload_n 1, 1) := by decide +kernel
theorem dX3_buyLot_18 : decode cX3_buyLot 18 = .ok (.iload_n 2, 1) := by decide +kernel
theorem dX3_buyLot_19 : decode cX3_buyLot 19 = .ok (.invokevirtual 136, 3) := by decide +kernel
theorem dX3_buyLot_22 : decode cX3_buyLot 22 = .ok (.iload_n 3, 1) := by decide +kernel
theorem dX3_buyLot_23 : decode cX3_buyLot 23 = .ok (.ireturn, 1) := by decide +kernel
theorem dX3_sellCostumes_0 : decode cX3_sellCostumes 0 = .ok (.aload_n 0, 1) := by decide +kernel
theorem dX3_sellCostumes_1 : decode cX3_sellCostumes 1 = .ok (.getfield 35, 3) := by decide +kernel
theorem dX3_sellCostumes_4 : decode cX3_sellCostumes 4 = .ok (.iload_n 1, 1) := by decide +kernel
theorem dX3_sellCostumes_5 : decode cX3_sellCostumes 5 = .ok (.invokevirtual 139, 3) := by decide +kernel
theorem dX3_sellCostumes_8 : decode cX3_sellCostumes 8 = .ok (.istore_n 3, 1) := by decide +kernel
theorem dX3_sellCostumes_9 : decode cX3_sellCostumes 9 = .ok (.aload_n 0, 1) := by decide +kernel
theorem dX3_sellCostumes_10 : decode cX3_sellCostumes 10 = .ok (.iconst 0, 1) := by decide +kernel
theorem dX3_sellCostumes_11 : decode cX3_sellCostumes 11 = .ok (.iconst 4, 1) := by decide +kernel
theorem dX3_sellCostumes_12 : decode cX3_sellCostumes 12 = .ok (.iload_n 1, 1) := by decide +kernel
theorem dX3_sellCostumes_13 : decode cX3_sellCostumes 13 = .ok (.iload_n 2, 1) := by decide +kernel
theorem dX3_sellCostumes_14 : decode cX3_sellCostumes 14 = .ok (.imul, 1) := by decide +kernel
theorem dX3_sellCostumes_15 : decode cX3_sellCostumes 15 = .ok (.i2l, 1) := by decide +kernel
theorem dX3_sellCostumes_16 : decode cX3_sellCostumes 16 = .ok (.invokevirtual 92, 3) := by decide +kernel
theorem dX3_sellCostumes_19 : decode cX3_sellCostumes 19 = .ok (.pop, 1) := by decide +kernel
theorem dX3_sellCostumes_20 : decode cX3_sellCostumes 20 = .ok (.aload_n 0, 1) := by decide +kernel
theorem dX3_sellCostumes_21 : decode cX3_sellCostumes 21 = .ok (.iconst 5, 1) := by decide +kernel
theorem dX3_sellCostumes_22 : decode cX3_sellCostumes 22 = .ok (.iconst 1, 1) := by decide +kernel
theorem dX3_sellCostumes_23 : decode cX3_sellCostumes 23 = .ok (.iload_n 3, 1) := by decide +kernel
theorem dX3_sellCostumes_24 : decode cX3_sellCostumes 24 = .ok (.i2l, 1) := by decide +kernel
theorem dX3_sellCostumes_25 : decode cX3_sellCostumes 25 = .ok (.invokevirtual 92, 3) := by decide +kernel
theorem dX3_sellCostumes_28 : decode cX3_sellCostumes 28 = .ok (.pop, 1) := by decide +kernel
theorem dX3_sellCostumes_29 : decode cX3_sellCostumes 29 = .ok (.aload_n 0, 1) := by decide +kernel
theorem dX3_sellCostumes_30 : decode cX3_sellCostumes 30 = .ok (.getfield 35, 3) := by decide +kernel
theorem dX3_sellCostumes_33 : decode cX3_sellCostumes 33 = .ok (.iload_n 1, 1) := by decide +kernel
theorem dX3_sellCostumes_34 : decode cX3_sellCostumes 34 = .ok (.invokevirtual 142, 3) := by decide +kernel
theorem dX3_sellCostumes_37 : decode cX3_sellCostumes 37 = .ok (.iload_n 3, 1) := by decide +kernel
theorem dX3_sellCostumes_38 : decode cX3_sellCostumes 38 = .ok (.ireturn, 1) := by decide +kernel
theorem dX3_writeBill_0 : decode cX3_writeBill 0 = .ok (.aload_n 0, 1) := by decide +kernel
theorem dX3_writeBill_1 : decode cX3_writeBill 1 = .ok (.iconst 2, 1) := by decide +kernel
theorem dX3_writeBill_2 : decode cX3_writeBill 2 = .ok (.iconst 4, 1) := by decide +kernel
theorem dX3_writeBill_3 : decode cX3_writeBill 3 = .ok (.iload_n 1, 1) := by decide +kernel
theorem dX3_writeBill_4 : decode cX3_writeBill 4 = .ok (.i2l, 1) := by decide +kernel
theorem dX3_writeBill_5 : decode cX3_writeBill 5 = .ok (.invokevirtual 92, 3) := by decide +kernel
theorem dX3_writeBill_8 : decode cX3_writeBill 8 = .ok (.pop, 1) := by decide +kernel
theorem dX3_writeBill_9 : decode cX3_writeBill 9 = .ok (.aload_n 0, 1) := by decide +kernel
theorem dX3_writeBill_10 : decode cX3_writeBill 10 = .ok (.getfield 42, 3) := by decide +kernel
theorem dX3_writeBill_13 : decode cX3_writeBill 13 = .ok (.iload_n 1, 1) := by decide +kernel
theorem dX3_writeBill_14 : decode cX3_writeBill 14 = .ok (.invokevirtual 145, 3) := by decide +kernel
theorem dX3_writeBill_17 : decode cX3_writeBill 17 = .ok (.ireturn, 1) := by decide +kernel
theorem dX3_takePayment_0 : decode cX3_takePayment 0 = .ok (.aload_n 0, 1) := by decide +kernel
theorem dX3_takePayment_1 : decode cX3_takePayment 1 = .ok (.iconst 0, 1) := by decide +kernel
theorem dX3_takePayment_2 : decode cX3_takePayment 2 = .ok (.iconst 2, 1) := by decide +kernel
theorem dX3_takePayment_3 : decode cX3_takePayment 3 = .ok (.iload_n 1, 1) := by decide +kernel
theorem dX3_takePayment_4 : decode cX3_takePayment 4 = .ok (.i2l, 1) := by decide +kernel
theorem dX3_takePayment_5 : decode cX3_takePayment 5 = .ok (.invokevirtual 92, 3) := by decide +kernel
theorem dX3_takePayment_8 : decode cX3_takePayment 8 = .ok (.pop, 1) := by decide +kernel
theorem dX3_takePayment_9 : decode cX3_takePayment 9 = .ok (.iload_n 2, 1) := by decide +kernel
theorem dX3_takePayment_10 : decode cX3_takePayment 10 = .ok (.ifCond .ne 14, 3) := by decide +kernel
theorem dX3_takePayment_13 : decode cX3_takePayment 13 = .ok (.aload_n 0, 1) := by decide +kernel
theorem dX3_takePayment_14 : decode cX3_takePayment 14 = .ok (.getfield 42, 3) := by decide +kernel
theorem dX3_takePayment_17 : decode cX3_takePayment 17 = .ok (.iload_n 1, 1) := by decide +kernel
theorem dX3_takePayment_18 : decode cX3_takePayment 18 = .ok (.invokevirtual 147, 3) := by decide +kernel
theorem dX3_takePayment_21 : decode cX3_takePayment 21 = .ok (.goto 11, 3) := by decide +kernel
theorem dX3_takePayment_24 : decode cX3_takePayment 24 = .ok (.aload_n 0, 1) := by decide +kernel
theorem dX3_takePayment_25 : decode cX3_takePayment 25 = .ok (.getfield 42, 3) := by decide +kernel
theorem dX3_takePayment_28 : decode cX3_takePayment 28 = .ok (.iload_n 2, 1) := by decide +kernel
theorem dX3_takePayment_29 : decode cX3_takePayment 29 = .ok (.invokevirtual 150, 3) := by decide +kernel
theorem dX3_takePayment_32 : decode cX3_takePayment 32 = .ok (.ireturn, 1) := by decide +kernel
theorem dX3_dropCurtain_0 : decode cX3_dropCurtain 0 = .ok (.aload_n 0, 1) := by decide +kernel
theorem dX3_dropCurtain_1 : decode cX3_dropCurtain 1 = .ok (.getfield 12, 3) := by decide +kernel
theorem dX3_dropCurtain_4 : decode cX3_dropCurtain 4 = .ok (.invokevirtual 153, 3) := by decide +kernel
theorem dX3_dropCurtain_7 : decode cX3_dropCurtain 7 = .ok (.lstore_n 1, 1) := by decide +kernel
theorem dX3_dropCurtain_8 : decode cX3_dropCurtain 8 = .ok (.iconst 0, 1) := by decide +kernel
theorem dX3_dropCurtain_9 : decode cX3_dropCurtain 9 = .ok (.istore_n 3, 1) := by decide +kernel
theorem dX3_dropCurtain_10 : decode cX3_dropCurtain 10 = .ok (.iload_n 3, 1) := by decide +kernel
theorem dX3_dropCurtain_11 : decode cX3_dropCurtain 11 = .ok (.aload_n 0, 1) := by decide +kernel
theorem dX3_dropCurtain_12 : decode cX3_dropCurtain 12 = .ok (.getfield 12, 3) := by decide +kernel
theorem dX3_dropCurtain_15 : decode cX3_dropCurtain 15 = .ok (.getfield 157, 3) := by decide +kernel
theorem dX3_dropCurtain_18 : decode cX3_dropCurtain 18 = .ok (.if_icmp .ge 25, 3) := by decide +kernel
theorem dX3_dropCurtain_21 : decode cX3_dropCurtain 21 = .ok (.aload_n 0, 1) := by decide +kernel
theorem dX3_dropCurtain_22 : decode cX3_dropCurtain 22 = .ok (.getfield 12, 3) := by decide +kernel
theorem dX3_dropCurtain_25 : decode cX3_dropCurtain 25 = .ok (.iload_n 3, 1) := by decide +kernel
theorem dX3_dropCurtain_26 : decode cX3_dropCurtain 26 = .ok (.invokevirtual 158, 3) := by decide +kernel
theorem dX3_dropCurtain_29 : decode cX3_dropCurtain 29 = .ok (.ifCond .eq 8, 3) := by decide +kernel
theorem dX3_dropCurtain_32 : decode cX3_dropCurtain 32 = .ok (.aload_n 0, 1) := by decide +kernel
theorem dX3_dropCurtain_33 : decode cX3_dropCurtain 33 = .ok (.iload_n 3, 1) := by decide +kernel
theorem dX3_dropCurtain_34 : decode cX3_dropCurtain 34 = .ok (.invokevirtual 161, 3) := by decide +kernel
theorem dX3_dropCurtain_37 : decode cX3_dropCurtain 37 = .ok (.iinc 3 1, 3) := by decide +kernel
theorem dX3_dropCurtain_40 : decode cX3_dropCurtain 40 = .ok (.goto (-30), 3) := by decide +kernel
theorem dX3_dropCurtain_43 : decode cX3_dropCurtain 43 = .ok (.aload_n 0, 1) := by decide +kernel
theorem dX3_dropCurtain_44 : decode cX3_dropCurtain 44 = .ok (.dup, 1) := by decide +kernel
theorem dX3_dropCurtain_45 : decode cX3_dropCurtain 45 = .ok (.getfield 66, 3) := by decide +kernel
theorem dX3_dropCurtain_48 : decode cX3_dropCurtain 48 = .ok (.iconst 1, 1) := by decide +kernel
theorem dX3_dropCurtain_49 : decode cX3_dropCurtain 49 = .ok (.iadd, 1) := by decide +kernel
theorem dX3_dropCurtain_50 : decode cX3_dropCurtain 50 = .ok (.putfield 66, 3) := by decide +kernel
theorem dX3_dropCurtain_53 : decode cX3_dropCurtain 53 = .ok (.lload_n 1, 1) := by decide +kernel
theorem dX3_dropCurtain_54 : decode cX3_dropCurtain 54 = .ok (.lreturn, 1) := by decide +kernel
theorem dX3_level_0 : decode cX3_level 0 = .ok (.aload_n 0, 1) := by decide +kernel
theorem dX3_level_1 : decode cX3_level 1 = .ok (.getfield 12, 3) := by decide +kernel
theorem dX3_level_4 : decode cX3_level 4 = .ok (.iload_n 1, 1) := by decide +kernel
theorem dX3_level_5 : decode cX3_level 5 = .ok (.invokevirtual 164, 3) := by decide +kernel
theorem dX3_level_8 : decode cX3_level 8 = .ok (.aload_n 0, 1) := by decide +kernel
theorem dX3_level_9 : decode cX3_level 9 = .ok (.getfield 12, 3) := by decide +kernel
theorem dX3_level_12 : decode cX3_level 12 = .ok (.iload_n 1, 1) := by decide +kernel
theorem dX3_level_13 : decode cX3_level 13 = .ok (.invokevirtual 167, 3) := by decide +kernel
theorem dX3_level_16 : decode cX3_level 16 = .ok (.lsub, 1) := by decide +kernel
theorem dX3_level_17 : decode cX3_level 17 = .ok (.lstore_n 2, 1) := by decide +kernel
theorem dX3_level_18 : decode cX3_level 18 = .ok (.lload_n 2, 1) := by decide +kernel
theorem dX3_level_19 : decode cX3_level 19 = .ok (.lconst 0, 1) := by decide +kernel
theorem dX3_level_20 : decode cX3_level 20 = .ok (.lcmp, 1) := by decide +kernel
theorem dX3_level_21 : decode cX3_level 21 = .ok (.ifCond .le 14, 3) := by decide +kernel
theorem dX3_level_24 : decode cX3_level 24 = .ok (.aload_n 0, 1) := by decide +kernel
theorem dX3_level_25 : decode cX3_level 25 = .ok (.iconst 3, 1) := by decide +kernel
theorem dX3_level_26 : decode cX3_level 26 = .ok (.iload_n 1, 1) := by decide +kernel
theorem dX3_level_27 : decode cX3_level 27 = .ok (.lload_n 2, 1) := by decide +kernel
theorem dX3_level_28 : decode cX3_level 28 = .ok (.invokevirtual 92, 3) := by decide +kernel
theorem dX3_level_31 : decode cX3_level 31 = .ok (.pop, 1) := by decide +kernel
theorem dX3_level_32 : decode cX3_level 32 = .ok (.goto 18, 3) := by decide +kernel
theorem dX3_level_35 : decode cX3_level 35 = .ok (.lload_n 2, 1) := by decide +kernel
theorem dX3_level_36 : decode cX3_level 36 = .ok (.lconst 0, 1) := by decide +kernel
theorem dX3_level_37 : decode cX3_level 37 = .ok (.lcmp, 1) := by decide +kernel
theorem dX3_level_38 : decode cX3_level 38 = .ok (.ifCond .ge 12, 3) := by decide +kernel
theorem dX3_level_41 : decode cX3_level 41 = .ok (.aload_n 0, 1) := by decide +kernel
theorem dX3_level_42 : decode cX3_level 42 = .ok (.iload_n 1, 1) := by decide +kernel
theorem dX3_level_43 : decode cX3_level 43 = .ok (.iconst 3, 1) := by decide +kernel
theorem dX3_level_44 : decode cX3_level 44 = .ok (.lload_n 2, 1) := by decide +kernel
theorem dX3_level_45 : decode cX3_level 45 = .ok (.lneg, 1) := by decide +kernel
theorem dX3_level_46 : decode cX3_level 46 = .ok (.invokevirtual 92, 3) := by decide +kernel
theorem dX3_level_49 : decode cX3_level 49 = .ok (.pop, 1) := by decide +kernel
theorem dX3_level_50 : decode cX3_level 50 = .ok (.return_, 1) := by decide +kernel
theorem dX5_init_0 : decode cX5_init 0 = .ok (.aload_n 0, 1) := by decide +kernel
theorem dX5_init_1 : decode cX5_init 1 = .ok (.invokespecial 3, 3) := by decide +kernel
theorem dX5_init_4 : decode cX5_init 4 = .ok (.aload_n 0, 1) := by decide +kernel
theorem dX5_init_5 : decode cX5_init 5 = .ok (.bipush 9, 2) := by decide +kernel
theorem dX5_init_7 : decode cX5_init 7 = .ok (.anewarray 11, 3) := by decide +kernel
theorem dX5_init_10 : decode cX5_init 10 = .ok (.putfield 13, 3) := by decide +kernel
theorem dX5_init_13 : decode cX5_init 13 = .ok (.iconst 0, 1) := by decide +kernel
theorem dX5_init_14 : decode cX5_init 14 = .ok (.istore_n 1, 1) := by decide +kernel
theorem dX5_init_15 : decode cX5_init 15 = .ok (.iload_n 1, 1) := by decide +kernel
theorem dX5_init_16 : decode cX5_init 16 = .ok (.bipush 9, 2) := by decide +kernel
theorem dX5_init_18 : decode cX5_init 18 = .ok (.if_icmp .ge 22, 3) := by decide +kernel
theorem dX5_init_21 : decode cX5_init 21 = .ok (.aload_n 0, 1) := by decide +kernel
theorem dX5_init_22 : decode cX5_init 22 = .ok (.getfield 13, 3) := by decide +kernel
theorem dX5_init_25 : decode cX5_init 25 = .ok (.iload_n 1, 1) := by decide +kernel
theorem dX5_init_26 : decode cX5_init 26 = .ok (.new 11, 3) := by decide +kernel
theorem dX5_init_29 : decode cX5_init 29 = .ok (.dup, 1) := by decide +kernel
theorem dX5_init_30 : decode cX5_init 30 = .ok (.invokespecial 17, 3) := by decide +kernel
theorem dX5_init_33 : decode cX5_init 33 = .ok (.aastore, 1) := by decide +kernel
theorem dX5_init_34 : decode cX5_init 34 = .ok (.iinc 1 1, 3) := by decide +kernel
theorem dX5_init_37 : decode cX5_init 37 = .ok (.goto (-22), 3) := by decide +kernel
theorem dX5_init_40 : decode cX5_init 40 = .ok (.return_, 1) := by decide +kernel
theorem dX5_free_0 : decode cX5_free 0 = .ok (.aload_n 0, 1) := by decide +kernel
theorem dX5_free_1 : decode cX5_free 1 = .ok (.getfield 13, 3) := by decide +kernel
theorem dX5_free_4 : decode cX5_free 4 = .ok (.aload_n 0, 1) := by decide +kernel
theorem dX5_free_5 : decode cX5_free 5 = .ok (.getfield 18, 3) := by decide +kernel
theorem dX5_free_8 : decode cX5_free 8 = .ok (.aload_n 0, 1) := by decide +kernel
theorem dX5_free_9 : decode cX5_free 9 = .ok (.getfield 22, 3) := by decide +kernel
theorem dX5_free_12 : decode cX5_free 12 = .ok (.iadd, 1) := by decide +kernel
theorem dX5_free_13 : decode cX5_free 13 = .ok (.bipush 9, 2) := by decide +kernel
theorem dX5_free_15 : decode cX5_free 15 = .ok (.invokestatic 25, 3) := by decide +kernel
theorem dX5_free_18 : decode cX5_free 18 = .ok (.aaload, 1) := by decide +kernel
theorem dX5_free_19 : decode cX5_free 19 = .ok (.areturn, 1) := by decide +kernel
theorem dX5_setAside_0 : decode cX5_setAside 0 = .ok (.aload_n 0, 1) := by decide +kernel
theorem dX5_setAside_1 : decode cX5_setAside 1 = .ok (.invokevirtual 31, 3) := by decide +kernel
theorem dX5_setAside_4 : decode cX5_setAside 4 = .ok (.aload_n 1, 1) := by decide +kernel
theorem dX5_setAside_5 : decode cX5_setAside 5 = .ok (.invokevirtual 35, 3) := by decide +kernel
theorem dX5_setAside_8 : decode cX5_setAside 8 = .ok (.return_, 1) := by decide +kernel
theorem dX5_putBack_0 : decode cX5_putBack 0 = .ok (.aload_n 1, 1) := by decide +kernel
theorem dX5_putBack_1 : decode cX5_putBack 1 = .ok (.aload_n 0, 1) := by decide +kernel
theorem dX5_putBack_2 : decode cX5_putBack 2 = .ok (.invokevirtual 31, 3) := by decide +kernel
theorem dX5_putBack_5 : decode cX5_putBack 5 = .ok (.invokevirtual 35, 3) := by decide +kernel
theorem dX5_putBack_8 : decode cX5_putBack 8 = .ok (.return_, 1) := by decide +kernel
theorem dX5_keepAside_0 : decode cX5_keepAside 0 = .ok (.aload_n 0, 1) := by decide +kernel
theorem dX5_keepAside_1 : decode cX5_keepAside 1 = .ok (.getfield 22, 3) := by decide +kernel
theorem dX5_keepAside_4 : decode cX5_keepAside 4 = .ok (.bipush 8, 2) := by decide +kernel
theorem dX5_keepAside_6 : decode cX5_keepAside 6 = .ok (.if_icmp .ge 16, 3) := by decide +kernel
theorem dX5_keepAside_9 : decode cX5_keepAside 9 = .ok (.aload_n 0, 1) := by decide +kernel
theorem dX5_keepAside_10 : decode cX5_keepAside 10 = .ok (.dup, 1) := by decide +kernel
theorem dX5_keepAside_11 : decode cX5_keepAside 11 = .ok (.getfield 22, 3) := by decide +kernel
theorem dX5_keepAside_14 : decode cX5_keepAside 14 = .ok (.iconst 1, 1) := by decide +kernel
theorem dX5_keepAside_15 : decode cX5_keepAside 15 = .ok (.iadd, 1) := by decide +kernel
theorem dX5_keepAside_16 : decode cX5_keepAside 16 = .ok (.putfield 22, 3) := by decide +kernel
theorem dX5_keepAside_19 : decode cX5_keepAside 19 = .ok (.goto 18, 3) := by decide +kernel
theorem dX5_keepAside_22 : decode cX5_keepAside 22 = .ok (.aload_n 0, 1) := by decide +kernel
theorem dX5_keepAside_23 : decode cX5_keepAside 23 = .ok (.aload_n 0, 1) := by decide +kernel
theorem dX5_keepAside_24 : decode cX5_keepAside 24 = .ok (.getfield 18, 3) := by decide +kernel
theorem dX5_keepAside_27 : decode cX5_keepAside 27 = .ok (.iconst 1, 1) := by decide +kernel
theorem dX5_keepAside_28 : decode cX5_keepAside 28 = .ok (.iadd, 1) := by decide +kernel
theorem dX5_keepAside_29 : decode cX5_keepAside 29 = .ok (.bipush 9, 2) := by decide +kernel
theorem dX5_keepAside_31 : decode cX5_keepAside 31 = .ok (.invokestatic 25, 3) := by decide +kernel
theorem dX5_keepAside_34 : decode cX5_keepAside 34 = .ok (.putfield 18, 3) := by decide +kernel
theorem dX5_keepAside_37 : decode cX5_keepAside 37 = .ok (.return_, 1) := by decide +kernel
theorem dX5_stepBack_0 : decode cX5_stepBack 0 = .ok (.aload_n 0, 1) := by decide +kernel
theorem dX5_stepBack_1 : decode cX5_stepBack 1 = .ok (.dup, 1) := by decide +kernel
theorem dX5_stepBack_2 : decode cX5_stepBack 2 = .ok (.getfield 22, 3) := by decide +kernel
theorem dX5_stepBack_5 : decode cX5_stepBack 5 = .ok (.iconst 1, 1) := by decide +kernel
theorem dX5_stepBack_6 : decode cX5_stepBack 6 = .ok (.isub, 1) := by decide +kernel
theorem dX5_stepBack_7 : decode cX5_stepBack 7 = .ok (.putfield 22, 3) := by decide +kernel
theorem dX5_stepBack_10 : decode cX5_stepBack 10 = .ok (.aload_n 0, 1) := by decide +kernel
theorem dX5_stepBack_11 : decode cX5_stepBack 11 = .ok (.aload_n 1, 1) := by decide +kernel
theorem dX5_stepBack_12 : decode cX5_stepBack 12 = .ok (.invokevirtual 39, 3) := by decide +kernel
theorem dX5_stepBack_15 : decode cX5_stepBack 15 = .ok (.return_, 1) := by decide +kernel
theorem dX5_clear_0 : decode cX5_clear 0 = .ok (.aload_n 0, 1) := by decide +kernel
theorem dX5_clear_1 : decode cX5_clear 1 = .ok (.iconst 0, 1) := by decide +kernel
theorem dX5_clear_2 : decode cX5_clear 2 = .ok (.putfield 22, 3) := by decide +kernel
theorem dX5_clear_5 : decode cX5_clear 5 = .ok (.return_, 1) := by decide +kernel
theorem dX6_init_0 : decode cX6_init 0 = .ok (.aload_n 0, 1) := by decide +kernel
theorem dX6_init_1 : decode cX6_init 1 = .ok (.invokespecial 3, 3) := by decide +kernel
theorem dX6_init_4 : decode cX6_init 4 = .ok (.aload_n 0, 1) := by decide +kernel
theorem dX6_init_5 : decode cX6_init 5 = .ok (.bipush 20, 2) := by decide +kernel
theorem dX6_init_7 : decode cX6_init 7 = .ok (.newarray .int, 2) := by decide +kernel
theorem dX6_init_9 : decode cX6_init 9 = .ok (.putfield 9, 3) := by decide +kernel
theorem dX6_init_12 : decode cX6_init 12 = .ok (.aload_n 0, 1) := by decide +kernel
theorem dX6_init_13 : decode cX6_init 13 = .ok (.bipush 20, 2) := by decide +kernel
theorem dX6_init_15 : decode cX6_init 15 = .ok (.newarray .int, 2) := by decide +kernel
theorem dX6_init_17 : decode cX6_init 17 = .ok (.putfield 15, 3) := by decide +kernel
theorem dX6_init_20 : decode cX6_init 20 = .ok (.aload_n 0, 1) := by decide +kernel
theorem dX6_init_21 : decode cX6_init 21 = .ok (.bipush 20, 2) := by decide +kernel
theorem dX6_init_23 : decode cX6_init 23 = .ok (.newarray .long, 2) := by decide +kernel
theorem dX6_init_25 : decode cX6_init 25 = .ok (.putfield 18, 3) := by decide +kernel
theorem dX6_init_28 : decode cX6_init 28 = .ok (.aload_n 0, 1) := by decide +kernel
theorem dX6_init_29 : decode cX6_init 29 = .ok (.bipush 20, 2) := by decide +kernel
theorem dX6_init_31 : decode cX6_init 31 = .ok (.newarray .int, 2) := by decide +kernel
theorem dX6_init_33 : decode cX6_init 33 = .ok (.putfield 22, 3) := by decide +kernel
theorem dX6_init_36 : decode cX6_init 36 = .ok (.aload_n 0, 1) := by decide +kernel
theorem dX6_init_37 : decode cX6_init 37 = .ok (.bipush 20, 2) := by decide +kernel
theorem dX6_init_39 : decode cX6_init 39 = .ok (.newarray .int, 2) := by decide +kernel
theorem dX6_init_41 : decode cX6_init 41 = .ok (.putfield 25, 3) := by decide +kernel
theorem dX6_init_44 : decode cX6_init 44 = .ok (.return_, 1) := by decide +kernel
theorem dX6_copyFrom_0 : decode cX6_copyFrom 0 = .ok (.aload_n 1, 1) := by decide +kernel
theorem dX6_copyFrom_1 : decode cX6_copyFrom 1 = .ok (.getfield 9, 3) := by decide +kernel
theorem dX6_copyFrom_4 : decode cX6_copyFrom 4 = .ok (.iconst 0, 1) := by decide +kernel
theorem dX6_copyFrom_5 : decode cX6_copyFrom 5 = .ok (.aload_n 0, 1) := by decide +kernel
theorem dX6_copyFrom_6 : decode cX6_copyFrom 6 = .ok (.getfield 9, 3) := by decide +kernel
theorem dX6_copyFrom_9 : decode cX6_copyFrom 9 = .ok (.iconst 0, 1) := by decide +kernel
theorem dX6_copyFrom_10 : decode cX6_copyFrom 10 = .ok (.bipush 20, 2) := by decide +kernel
theorem dX6_copyFrom_12 : decode cX6_copyFrom 12 = .ok (.invokestatic 28, 3) := by decide +kernel
theorem dX6_copyFrom_15 : decode cX6_copyFrom 15 = .ok (.aload_n 1, 1) := by decide +kernel
theorem dX6_copyFrom_16 : decode cX6_copyFrom 16 = .ok (.getfield 15, 3) := by decide +kernel
theorem dX6_copyFrom_19 : decode cX6_copyFrom 19 = .ok (.iconst 0, 1) := by decide +kernel
theorem dX6_copyFrom_20 : decode cX6_copyFrom 20 = .ok (.aload_n 0, 1) := by decide +kernel
theorem dX6_copyFrom_21 : decode cX6_copyFrom 21 = .ok (.getfield 15, 3) := by decide +kernel
theorem dX6_copyFrom_24 : decode cX6_copyFrom 24 = .ok (.iconst 0, 1) := by decide +kernel
theorem dX6_copyFrom_25 : decode cX6_copyFrom 25 = .ok (.bipush 20, 2) := by decide +kernel
theorem dX6_copyFrom_27 : decode cX6_copyFrom 27 = .ok (.invokestatic 28, 3) := by decide +kernel
theorem dX6_copyFrom_30 : decode cX6_copyFrom 30 = .ok (.aload_n 1, 1) := by decide +kernel
theorem dX6_copyFrom_31 : decode cX6_copyFrom 31 = .ok (.getfield 18, 3) := by decide +kernel
theorem dX6_copyFrom_34 : decode cX6_copyFrom 34 = .ok (.iconst 0, 1) := by decide +kernel
theorem dX6_copyFrom_35 : decode cX6_copyFrom 35 = .ok (.aload_n 0, 1) := by decide +kernel
theorem dX6_copyFrom_36 : decode cX6_copyFrom 36 = .ok (.getfield 18, 3) := by decide +kernel
theorem dX6_copyFrom_39 : decode cX6_copyFrom 39 = .ok (.iconst 0, 1) := by decide +kernel
theorem dX6_copyFrom_40 : decode cX6_copyFrom 40 = .ok (.bipush 20, 2) := by decide +kernel
theorem dX6_copyFrom_42 : decode cX6_copyFrom 42 = .ok (.invokestatic 28, 3) := by decide +kernel
theorem dX6_copyFrom_45 : decode cX6_copyFrom 45 = .ok (.aload_n 1, 1) := by decide +kernel
theorem dX6_copyFrom_46 : decode cX6_copyFrom 46 = .ok (.getfield 22, 3) := by decide +kernel
theorem dX6_copyFrom_49 : decode cX6_copyFrom 49 = .ok (.iconst 0, 1) := by decide +kernel
theorem dX6_copyFrom_50 : decode cX6_copyFrom 50 = .ok (.aload_n 0, 1) := by decide +kernel
theorem dX6_copyFrom_51 : decode cX6_copyFrom 51 = .ok (.getfield 22, 3) := by decide +kernel
theorem dX6_copyFrom_54 : decode cX6_copyFrom 54 = .ok (.iconst 0, 1) := by decide +kernel
theorem dX6_copyFrom_55 : decode cX6_copyFrom 55 = .ok (.bipush 20, 2) := by decide +kernel
theorem dX6_copyFrom_57 : decode cX6_copyFrom 57 = .ok (.invokestatic 28, 3) := by decide +kernel
theorem dX6_copyFrom_60 : decode cX6_copyFrom 60 = .ok (.aload_n 1, 1) := by decide +kernel
theorem dX6_copyFrom_61 : decode cX6_copyFrom 61 = .ok (.getfield 25, 3) := by decide +kernel
theorem dX6_copyFrom_64 : decode cX6_copyFrom 64 = .ok (.iconst 0, 1) := by decide +kernel
theorem dX6_copyFrom_65 : decode cX6_copyFrom 65 = .ok (.aload_n 0, 1) := by decide +kernel
theorem dX6_copyFrom_66 : decode cX6_copyFrom 66 = .ok (.getfield 25, 3) := by decide +kernel
theorem dX6_copyFrom_69 : decode cX6_copyFrom 69 = .ok (.iconst 0, 1) := by decide +kernel
theorem dX6_copyFrom_70 : decode cX6_copyFrom 70 = .ok (.bipush 20, 2) := by decide +kernel
theorem dX6_copyFrom_72 : decode cX6_copyFrom 72 = .ok (.invokestatic 28, 3) := by decide +kernel
theorem dX6_copyFrom_75 : decode cX6_copyFrom 75 = .ok (.aload_n 0, 1) := by decide +kernel
theorem dX6_copyFrom_76 : decode cX6_copyFrom 76 = .ok (.aload_n 1, 1) := by decide +kernel
theorem dX6_copyFrom_77 : decode cX6_copyFrom 77 = .ok (.getfield 34, 3) := by decide +kernel
theorem dX6_copyFrom_80 : decode cX6_copyFrom 80 = .ok (.putfield 34, 3) := by decide +kernel
theorem dX6_copyFrom_83 : decode cX6_copyFrom 83 = .ok (.return_, 1) := by decide +kernel
theorem dX6_keptCount_0 : decode cX6_keptCount 0 = .ok (.aload_n 0, 1) := by decide +kernel
theorem dX6_keptCount_1 : decode cX6_keptCount 1 = .ok (.getfield 34, 3) := by decide +kernel
theorem dX6_keptCount_4 : decode cX6_keptCount 4 = .ok (.bipush 20, 2) := by decide +kernel
theorem dX6_keptCount_6 : decode cX6_keptCount 6 = .ok (.invokestatic 38, 3) := by decide +kernel
theorem dX6_keptCount_9 : decode cX6_keptCount 9 = .ok (.ireturn, 1) := by decide +kernel
theorem dX6_idAt_0 : decode cX6_idAt 0 = .ok (.aload_n 0, 1) := by decide +kernel
theorem dX6_idAt_1 : decode cX6_idAt 1 = .ok (.getfield 34, 3) := by decide +kernel
theorem dX6_idAt_4 : decode cX6_idAt 4 = .ok (.aload_n 0, 1) := by decide +kernel
theorem dX6_idAt_5 : decode cX6_idAt 5 = .ok (.invokevirtual 44, 3) := by decide +kernel
theorem dX6_idAt_8 : decode cX6_idAt 8 = .ok (.isub, 1) := by decide +kernel
theorem dX6_idAt_9 : decode cX6_idAt 9 = .ok (.iload_n 1, 1) := by decide +kernel
theorem dX6_idAt_10 : decode cX6_idAt 10 = .ok (.iadd, 1) := by decide +kernel
theorem dX6_idAt_11 : decode cX6_idAt 11 = .ok (.ireturn, 1) := by decide +kernel
theorem dX6_has_0 : decode cX6_has 0 = .ok (.iload_n 1, 1) := by decide +kernel
theorem dX6_has_1 : decode cX6_has 1 = .ok (.aload_n 0, 1) := by decide +kernel
theorem dX6_has_2 : decode cX6_has 2 = .ok (.getfield 34, 3) := by decide +kernel
theorem dX6_has_5 : decode cX6_has 5 = .ok (.aload_n 0, 1) := by decide +kernel
theorem dX6_has_6 : decode cX6_has 6 = .ok (.invokevirtual 44, 3) := by decide +kernel
theorem dX6_has_9 : decode cX6_has 9 = .ok (.isub, 1) := by decide +kernel
theorem dX6_has_10 : decode cX6_has 10 = .ok (.aload_n 0, 1) := by decide +kernel
theorem dX6_has_11 : decode cX6_has 11 = .ok (.getfield 34, 3) := by decide +kernel
theorem dX6_has_14 : decode cX6_has 14 = .ok (.iconst 1, 1) := by decide +kernel
theorem dX6_has_15 : decode cX6_has 15 = .ok (.isub, 1) := by decide +kernel
theorem dX6_has_16 : decode cX6_has 16 = .ok (.invokestatic 48, 3) := by decide +kernel
theorem dX6_has_19 : decode cX6_has 19 = .ok (.ireturn, 1) := by decide +kernel
theorem dX6_rowOf_0 : decode cX6_rowOf 0 = .ok (.iload_n 0, 1) := by decide +kernel
theorem dX6_rowOf_1 : decode cX6_rowOf 1 = .ok (.bipush 20, 2) := by decide +kernel
theorem dX6_rowOf_3 : decode cX6_rowOf 3 = .ok (.irem, 1) := by decide +kernel
theorem dX6_rowOf_4 : decode cX6_rowOf 4 = .ok (.istore_n 1, 1) := by decide +kernel
theorem dX6_rowOf_5 : decode cX6_rowOf 5 = .ok (.iload_n 1, 1) := by decide +kernel
theorem dX6_rowOf_6 : decode cX6_rowOf 6 = .ok (.ifCond .ge 10, 3) := by decide +kernel
theorem dX6_rowOf_9 : decode cX6_rowOf 9 = .ok (.iload_n 1, 1) := by decide +kernel
theorem dX6_rowOf_10 : decode cX6_rowOf 10 = .ok (.bipush 20, 2) := by decide +kernel
theorem dX6_rowOf_12 : decode cX6_rowOf 12 = .ok (.iadd, 1) := by decide +kernel
theorem dX6_rowOf_13 : decode cX6_rowOf 13 = .ok (.goto 4, 3) := by decide +kernel
theorem dX6_rowOf_16 : decode cX6_rowOf 16 = .ok (.iload_n 1, 1) := by decide +kernel
theorem dX6_rowOf_17 : decode cX6_rowOf 17 = .ok (.ireturn, 1) := by decide +kernel
theorem dX6_faultOfReversal_0 : decode cX6_faultOfReversal 0 = .ok (.aload_n 0, 1) := by decide +kernel
theorem dX6_faultOfReversal_1 : decode cX6_faultOfReversal 1 = .ok (.iload_n 1, 1) := by decide +kernel
theorem dX6_faultOfReversal_2 : decode cX6_faultOfReversal 2 = .ok (.invokevirtual 52, 3) := by decide +kernel
theorem dX6_faultOfReversal_5 : decode cX6_faultOfReversal 5 = .ok (.ifCond .ne 7, 3) := by decide +kernel
theorem dX6_faultOfReversal_8 : decode cX6_faultOfReversal 8 = .ok (.getstatic 56, 3) := by decide +kernel
theorem dX6_faultOfReversal_11 : decode cX6_faultOfReversal 11 = .ok (.areturn, 1) := by decide +kernel
theorem dX6_faultOfReversal_12 : decode cX6_faultOfReversal 12 = .ok (.aload_n 0, 1) := by decide +kernel
theorem dX6_faultOfReversal_13 : decode cX6_faultOfReversal 13 = .ok (.getfield 25, 3) := by decide +kernel
theorem dX6_faultOfReversal_16 : decode cX6_faultOfReversal 16 = .ok (.iload_n 1, 1) := by decide +kernel
theorem dX6_faultOfReversal_17 : decode cX6_faultOfReversal 17 = .ok (.invokestatic 62, 3) := by decide +kernel
theorem dX6_faultOfReversal_20 : decode cX6_faultOfReversal 20 = .ok (.iaload, 1) := by decide +kernel
theorem dX6_faultOfReversal_21 : decode cX6_faultOfReversal 21 = .ok (.ifCond .ne 9, 3) := by decide +kernel
theorem dX6_faultOfReversal_24 : decode cX6_faultOfReversal 24 = .ok (.getstatic 66, 3) := by decide +kernel
theorem dX6_faultOfReversal_27 : decode cX6_faultOfReversal 27 = .ok (.goto 6, 3) := by decide +kernel
theorem dX6_faultOfReversal_30 : decode cX6_faultOfReversal 30 = .ok (.getstatic 69, 3) := by decide +kernel
theorem dX6_faultOfReversal_33 : decode cX6_faultOfReversal 33 = .ok (.areturn, 1) := by decide +kernel
theorem dX6_add_0 : decode cX6_add 0 = .ok (.aload_n 0, 1) := by decide +kernel
theorem dX6_add_1 : decode cX6_add 1 = .ok (.getfield 34, 3) := by decide +kernel
theorem dX6_add_4 : decode cX6_add 4 = .ok (.invokestatic 62, 3) := by decide +kernel
theorem dX6_add_7 : decode cX6_add 7 = .ok (.istore 6, 2) := by decide +kernel
theorem dX6_add_9 : decode cX6_add 9 = .ok (.aload_n 0, 1) := by decide +kernel
theorem dX6_add_10 : decode cX6_add 10 = .ok (.getfield 9, 3) := by decide +kernel
theorem dX6_add_13 : decode cX6_add 13 = .ok (.iload 6, 2) := by decide +kernel
theorem dX6_add_15 : decode cX6_add 15 = .ok (.iload_n 1, 1) := by decide +kernel
theorem dX6_add_16 : decode cX6_add 16 = .ok (.iastore, 1) := by decide +kernel
theorem dX6_add_17 : decode cX6_add 17 = .ok (.aload_n 0, 1) := by decide +kernel
theorem dX6_add_18 : decode cX6_add 18 = .ok (.getfield 15, 3) := by decide +kernel
theorem dX6_add_21 : decode cX6_add 21 = .ok (.iload 6, 2) := by decide +kernel
theorem dX6_add_23 : decode cX6_add 23 = .ok (.iload_n 2, 1) := by decide +kernel
theorem dX6_add_24 : decode cX6_add 24 = .ok (.iastore, 1) := by decide +kernel
theorem dX6_add_25 : decode cX6_add 25 = .ok (.aload_n 0, 1) := by decide +kernel
theorem dX6_add_26 : decode cX6_add 26 = .ok (.getfield 18, 3) := by decide +kernel
theorem dX6_add_29 : decode cX6_add 29 = .ok (.iload 6, 2) := by decide +kernel
theorem dX6_add_31 : decode cX6_add 31 = .ok (.lload_n 3, 1) := by decide +kernel
theorem dX6_add_32 : decode cX6_add 32 = .ok (.lastore, 1) := by decide +kernel
theorem dX6_add_33 : decode cX6_add 33 = .ok (.aload_n 0, 1) := by decide +kernel
theorem dX6_add_34 : decode cX6_add 34 = .ok (.getfield 22, 3) := by decide +kernel
theorem dX6_add_37 : decode cX6_add 37 = .ok (.iload 6, 2) := by decide +kernel
theorem dX6_add_39 : decode cX6_add 39 = .ok (.iload 5, 2) := by decide +kernel
theorem dX6_add_41 : decode cX6_add 41 = .ok (.iastore, 1) := by decide +kernel
theorem dX6_add_42 : decode cX6_add 42 = .ok (.aload_n 0, 1) := by decide +kernel
theorem dX6_add_43 : decode cX6_add 43 = .ok (.getfield 25, 3) := by decide +kernel
theorem dX6_add_46 : decode cX6_add 46 = .ok (.iload 6, 2) := by decide +kernel
theorem dX6_add_48 : decode cX6_add 48 = .ok (.iconst 0, 1) := by decide +kernel
theorem dX6_add_49 : decode cX6_add 49 = .ok (.iastore, 1) := by decide +kernel
theorem dX6_add_50 : decode cX6_add 50 = .ok (.aload_n 0, 1) := by decide +kernel
theorem dX6_add_51 : decode cX6_add 51 = .ok (.dup, 1) := by decide +kernel
theorem dX6_add_52 : decode cX6_add 52 = .ok (.getfield 34, 3) := by decide +kernel
theorem dX6_add_55 : decode cX6_add 55 = .ok (.iconst 1, 1) := by decide +kernel
theorem dX6_add_56 : decode cX6_add 56 = .ok (.iadd, 1) := by decide +kernel
theorem dX6_add_57 : decode cX6_add 57 = .ok (.putfield 34, 3) := by decide +kernel
theorem dX6_add_60 : decode cX6_add 60 = .ok (.aload_n 0, 1) := by decide +kernel
theorem dX6_add_61 : decode cX6_add 61 = .ok (.getfield 34, 3) := by decide +kernel
theorem dX6_add_64 : decode cX6_add 64 = .ok (.iconst 1, 1) := by decide +kernel
theorem dX6_add_65 : decode cX6_add 65 = .ok (.isub, 1) := by decide +kernel
theorem dX6_add_66 : decode cX6_add 66 = .ok (.ireturn, 1) := by decide +kernel
theorem dX6_markReversed_0 : decode cX6_markReversed 0 = .ok (.aload_n 0, 1) := by decide +kernel
theorem dX6_markReversed_1 : decode cX6_markReversed 1 = .ok (.getfield 25, 3) := by decide +kernel
theorem dX6_markReversed_4 : decode cX6_markReversed 4 = .ok (.iload_n 1, 1) := by decide +kernel
theorem dX6_markReversed_5 : decode cX6_markReversed 5 = .ok (.invokestatic 62, 3) := by decide +kernel
theorem dX6_markReversed_8 : decode cX6_markReversed 8 = .ok (.iconst 1, 1) := by decide +kernel
theorem dX6_markReversed_9 : decode cX6_markReversed 9 = .ok (.iastore, 1) := by decide +kernel
theorem dX6_markReversed_10 : decode cX6_markReversed 10 = .ok (.return_, 1) := by decide +kernel
theorem dX6_markReversal_0 : decode cX6_markReversal 0 = .ok (.aload_n 0, 1) := by decide +kernel
theorem dX6_markReversal_1 : decode cX6_markReversal 1 = .ok (.getfield 25, 3) := by decide +kernel
theorem dX6_markReversal_4 : decode cX6_markReversal 4 = .ok (.iload_n 1, 1) := by decide +kernel
theorem dX6_markReversal_5 : decode cX6_markReversal 5 = .ok (.invokestatic 62, 3) := by decide +kernel
theorem dX6_markReversal_8 : decode cX6_markReversal 8 = .ok (.iconst 2, 1) := by decide +kernel
theorem dX6_markReversal_9 : decode cX6_markReversal 9 = .ok (.iastore, 1) := by decide +kernel
theorem dX6_markReversal_10 : decode cX6_markReversal 10 = .ok (.return_, 1) := by decide +kernel
theorem dX6_debitedBy_0 : decode cX6_debitedBy 0 = .ok (.aload_n 0, 1) := by decide +kernel
theorem dX6_debitedBy_1 : decode cX6_debitedBy 1 = .ok (.getfield 9, 3) := by decide +kernel
theorem dX6_debitedBy_4 : decode cX6_debitedBy 4 = .ok (.iload_n 1, 1) := by decide +kernel
theorem dX6_debitedBy_5 : decode cX6_debitedBy 5 = .ok (.invokestatic 62, 3) := by decide +kernel
theorem dX6_debitedBy_8 : decode cX6_debitedBy 8 = .ok (.iaload, 1) := by decide +kernel
theorem dX6_debitedBy_9 : decode cX6_debitedBy 9 = .ok (.ireturn, 1) := by decide +kernel
theorem dX6_creditedBy_0 : decode cX6_creditedBy 0 = .ok (.aload_n 0, 1) := by decide +kernel
theorem dX6_creditedBy_1 : decode cX6_creditedBy 1 = .ok (.getfield 15, 3) := by decide +kernel
theorem dX6_creditedBy_4 : decode cX6_creditedBy 4 = .ok (.iload_n 1, 1) := by decide +kernel
theorem dX6_creditedBy_5 : decode cX6_creditedBy 5 = .ok (.invokestatic 62, 3) := by decide +kernel
theorem dX6_creditedBy_8 : decode cX6_creditedBy 8 = .ok (.iaload, 1) := by decide +kernel
theorem dX6_creditedBy_9 : decode cX6_creditedBy 9 = .ok (.ireturn, 1) := by decide +kernel
theorem dX6_amountIn_0 : decode cX6_amountIn 0 = .ok (.aload_n 0, 1) := by decide +kernel
theorem dX6_amountIn_1 : decode cX6_amountIn 1 = .ok (.getfield 18, 3) := by decide +kernel
theorem dX6_amountIn_4 : decode cX6_amountIn 4 = .ok (.iload_n 1, 1) := by decide +kernel
theorem dX6_amountIn_5 : decode cX6_amountIn 5 = .ok (.invokestatic 62, 3) := by decide +kernel
theorem dX6_amountIn_8 : decode cX6_amountIn 8 = .ok (.laload, 1) := by decide +kernel
theorem dX6_amountIn_9 : decode cX6_amountIn 9 = .ok (.lreturn, 1) := by decide +kernel
theorem dX6_hourAt_0 : decode cX6_hourAt 0 = .ok (.aload_n 0, 1) := by decide +kernel
theorem dX6_hourAt_1 : decode cX6_hourAt 1 = .ok (.getfield 22, 3) := by decide +kernel
theorem dX6_hourAt_4 : decode cX6_hourAt 4 = .ok (.iload_n 1, 1) := by decide +kernel
theorem dX6_hourAt_5 : decode cX6_hourAt 5 = .ok (.invokestatic 62, 3) := by decide +kernel
theorem dX6_hourAt_8 : decode cX6_hourAt 8 = .ok (.iaload, 1) := by decide +kernel
theorem dX6_hourAt_9 : decode cX6_hourAt 9 = .ok (.ireturn, 1) := by decide +kernel
theorem dX6_wasReversed_0 : decode cX6_wasReversed 0 = .ok (.aload_n 0, 1) := by decide +kernel
theorem dX6_wasReversed_1 : decode cX6_wasReversed 1 = .ok (.getfield 25, 3) := by decide +kernel
theorem dX6_wasReversed_4 : decode cX6_wasReversed 4 = .ok (.iload_n 1, 1) := by decide +kernel
theorem dX6_wasReversed_5 : decode cX6_wasReversed 5 = .ok (.invokestatic 62, 3) := by decide +kernel
theorem dX6_wasReversed_8 : decode cX6_wasReversed 8 = .ok (.iaload, 1) := by decide +kernel
theorem dX6_wasReversed_9 : decode cX6_wasReversed 9 = .ok (.iconst 1, 1) := by decide +kernel
theorem dX6_wasReversed_10 : decode cX6_wasReversed 10 = .ok (.if_icmp .ne 7, 3) := by decide +kernel
theorem dX6_wasReversed_13 : decode cX6_wasReversed 13 = .ok (.iconst 1, 1) := by decide +kernel
theorem dX6_wasReversed_14 : decode cX6_wasReversed 14 = .ok (.goto 4, 3) := by decide +kernel
theorem dX6_wasReversed_17 : decode cX6_wasReversed 17 = .ok (.iconst 0, 1) := by decide +kernel
theorem dX6_wasReversed_18 : decode cX6_wasReversed 18 = .ok (.ireturn, 1) := by decide +kernel
theorem dX7_init_0 : decode cX7_init 0 = .ok (.aload_n 0, 1) := by decide +kernel
theorem dX7_init_1 : decode cX7_init 1 = .ok (.invokespecial 3, 3) := by decide +kernel
theorem dX7_init_4 : decode cX7_init 4 = .ok (.aload_n 0, 1) := by decide +kernel
theorem dX7_init_5 : decode cX7_init 5 = .ok (.sipush 1000, 3) := by decide +kernel
theorem dX7_init_8 : decode cX7_init 8 = .ok (.newarray .boolean, 2) := by decide +kernel
theorem dX7_init_10 : decode cX7_init 10 = .ok (.putfield 9, 3) := by decide +kernel
theorem dX7_init_13 : decode cX7_init 13 = .ok (.aload_n 0, 1) := by decide +kernel
theorem dX7_init_14 : decode cX7_init 14 = .ok (.sipush 1024, 3) := by decide +kernel
theorem dX7_init_17 : decode cX7_init 17 = .ok (.newarray .int, 2) := by decide +kernel
theorem dX7_init_19 : decode cX7_init 19 = .ok (.putfield 15, 3) := by decide +kernel
theorem dX7_init_22 : decode cX7_init 22 = .ok (.return_, 1) := by decide +kernel
theorem dX7_canReach_0 : decode cX7_canReach 0 = .ok (.iload_n 2, 1) := by decide +kernel
theorem dX7_canReach_1 : decode cX7_canReach 1 = .ok (.iconst 1, 1) := by decide +kernel
theorem dX7_canReach_2 : decode cX7_canReach 2 = .ok (.sipush 999, 3) := by decide +kernel
theorem dX7_canReach_5 : decode cX7_canReach 5 = .ok (.invokestatic 19, 3) := by decide +kernel
theorem dX7_canReach_8 : decode cX7_canReach 8 = .ok (.ifCond .ne 5, 3) := by decide +kernel
theorem dX7_canReach_11 : decode cX7_canReach 11 = .ok (.iconst 0, 1) := by decide +kernel
theorem dX7_canReach_12 : decode cX7_canReach 12 = .ok (.ireturn, 1) := by decide +kernel
theorem dX7_canReach_13 : decode cX7_canReach 13 = .ok (.aload_n 0, 1) := by decide +kernel
theorem dX7_canReach_14 : decode cX7_canReach 14 = .ok (.getfield 9, 3) := by decide +kernel
theorem dX7_canReach_17 : decode cX7_canReach 17 = .ok (.iconst 0, 1) := by decide +kernel
theorem dX7_canReach_18 : decode cX7_canReach 18 = .ok (.iconst 1, 1) := by decide +kernel
theorem dX7_canReach_19 : decode cX7_canReach 19 = .ok (.bastore, 1) := by decide +kernel
theorem dX7_canReach_20 : decode cX7_canReach 20 = .ok (.iconst 1, 1) := by decide +kernel
theorem dX7_canReach_21 : decode cX7_canReach 21 = .ok (.istore_n 3, 1) := by decide +kernel
theorem dX7_canReach_22 : decode cX7_canReach 22 = .ok (.iload_n 3, 1) := by decide +kernel
theorem dX7_canReach_23 : decode cX7_canReach 23 = .ok (.iload_n 2, 1) := by decide +kernel
theorem dX7_canReach_24 : decode cX7_canReach 24 = .ok (.if_icmp .gt 16, 3) := by decide +kernel
theorem dX7_canReach_27 : decode cX7_canReach 27 = .ok (.aload_n 0, 1) := by decide +kernel
theorem dX7_canReach_28 : decode cX7_canReach 28 = .ok (.getfield 9, 3) := by decide +kernel
theorem dX7_canReach_31 : decode cX7_canReach 31 = .ok (.iload_n 3, 1) := by decide +kernel
theorem dX7_canReach_32 : decode cX7_canReach 32 = .ok (.iconst 0, 1) := by decide +kernel
theorem dX7_canReach_33 : decode cX7_canReach 33 = .ok (.bastore, 1) := by decide +kernel
theorem dX7_canReach_34 : decode cX7_canReach 34 = .ok (.iinc 3 1, 3) := by decide +kernel
theorem dX7_canReach_37 : decode cX7_canReach 37 = .ok (.goto (-15), 3) := by decide +kernel
theorem dX7_canReach_40 : decode cX7_canReach 40 = .ok (.iconst 0, 1) := by decide +kernel
theorem dX7_canReach_41 : decode cX7_canReach 41 = .ok (.istore_n 3, 1) := by decide +kernel
theorem dX7_canReach_42 : decode cX7_canReach 42 = .ok (.iload_n 3, 1) := by decide +kernel
theorem dX7_canReach_43 : decode cX7_canReach 43 = .ok (.aload_n 1, 1) := by decide +kernel
theorem dX7_canReach_44 : decode cX7_canReach 44 = .ok (.getfield 23, 3) := by decide +kernel
theorem dX7_canReach_47 : decode cX7_canReach 47 = .ok (.if_icmp .ge 19, 3) := by decide +kernel
theorem dX7_canReach_50 : decode cX7_canReach 50 = .ok (.aload_n 0, 1) := by decide +kernel
theorem dX7_canReach_51 : decode cX7_canReach 51 = .ok (.aload_n 1, 1) := by decide +kernel
theorem dX7_canReach_52 : decode cX7_canReach 52 = .ok (.iload_n 3, 1) := by decide +kernel
theorem dX7_canReach_53 : decode cX7_canReach 53 = .ok (.invokevirtual 29, 3) := by decide +kernel
theorem dX7_canReach_56 : decode cX7_canReach 56 = .ok (.iload_n 2, 1) := by decide +kernel
theorem dX7_canReach_57 : decode cX7_canReach 57 = .ok (.invokevirtual 33, 3) := by decide +kernel
theorem dX7_canReach_60 : decode cX7_canReach 60 = .ok (.iinc 3 1, 3) := by decide +kernel
theorem dX7_canReach_63 : decode cX7_canReach 63 = .ok (.goto (-21), 3) := by decide +kernel
theorem dX7_canReach_66 : decode cX7_canReach 66 = .ok (.aload_n 0, 1) := by decide +kernel
theorem dX7_canReach_67 : decode cX7_canReach 67 = .ok (.getfield 9, 3) := by decide +kernel
theorem dX7_canReach_70 : decode cX7_canReach 70 = .ok (.iload_n 2, 1) := by decide +kernel
theorem dX7_canReach_71 : decode cX7_canReach 71 = .ok (.baload, 1) := by decide +kernel
theorem dX7_canReach_72 : decode cX7_canReach 72 = .ok (.ireturn, 1) := by decide +kernel
theorem dX7_reachWith_0 : decode cX7_reachWith 0 = .ok (.iload_n 2, 1) := by decide +kernel
theorem dX7_reachWith_1 : decode cX7_reachWith 1 = .ok (.istore_n 3, 1) := by decide +kernel
theorem dX7_reachWith_2 : decode cX7_reachWith 2 = .ok (.iload_n 3, 1) := by decide +kernel
theorem dX7_reachWith_3 : decode cX7_reachWith 3 = .ok (.iload_n 1, 1) := by decide +kernel
theorem dX7_reachWith_4 : decode cX7_reachWith 4 = .ok (.if_icmp .lt 27, 3) := by decide +kernel
theorem dX7_reachWith_7 : decode cX7_reachWith 7 = .ok (.aload_n 0, 1) := by decide +kernel
theorem dX7_reachWith_8 : decode cX7_reachWith 8 = .ok (.getfield 9, 3) := by decide +kernel
theorem dX7_reachWith_11 : decode cX7_reachWith 11 = .ok (.iload_n 3, 1) := by decide +kernel
theorem dX7_reachWith_12 : decode cX7_reachWith 12 = .ok (.iload_n 1, 1) := by decide +kernel
theorem dX7_reachWith_13 : decode cX7_reachWith 13 = .ok (.isub, 1) := by decide +kernel
theorem dX7_reachWith_14 : decode cX7_reachWith 14 = .ok (.baload, 1) := by decide +kernel
theorem dX7_reachWith_15 : decode cX7_reachWith 15 = .ok (.ifCond .eq 10, 3) := by decide +kernel
theorem dX7_reachWith_18 : decode cX7_reachWith 18 = .ok (.aload_n 0, 1) := by decide +kernel
theorem dX7_reachWith_19 : decode cX7_reachWith 19 = .ok (.getfield 9, 3) := by decide +kernel
theorem dX7_reachWith_22 : decode cX7_reachWith 22 = .ok (.iload_n 3, 1) := by decide +kernel
theorem dX7_reachWith_23 : decode cX7_reachWith 23 = .ok (.iconst 1, 1) := by decide +kernel
theorem dX7_reachWith_24 : decode cX7_reachWith 24 = .ok (.bastore, 1) := by decide +kernel
theorem dX7_reachWith_25 : decode cX7_reachWith 25 = .ok (.iinc 3 (-1), 3) := by decide +kernel
theorem dX7_reachWith_28 : decode cX7_reachWith 28 = .ok (.goto (-26), 3) := by decide +kernel
theorem dX7_reachWith_31 : decode cX7_reachWith 31 = .ok (.return_, 1) := by decide +kernel
theorem dX7_hasSet_0 : decode cX7_hasSet 0 = .ok (.aload_n 0, 1) := by decide +kernel
theorem dX7_hasSet_1 : decode cX7_hasSet 1 = .ok (.aload_n 1, 1) := by decide +kernel
theorem dX7_hasSet_2 : decode cX7_hasSet 2 = .ok (.invokevirtual 37, 3) := by decide +kernel
theorem dX7_hasSet_5 : decode cX7_hasSet 5 = .ok (.istore_n 3, 1) := by decide +kernel
theorem dX7_hasSet_6 : decode cX7_hasSet 6 = .ok (.iconst 1, 1) := by decide +kernel
theorem dX7_hasSet_7 : decode cX7_hasSet 7 = .ok (.istore 4, 2) := by decide +kernel
theorem dX7_hasSet_9 : decode cX7_hasSet 9 = .ok (.iload 4, 2) := by decide +kernel
theorem dX7_hasSet_11 : decode cX7_hasSet 11 = .ok (.iload_n 3, 1) := by decide +kernel
theorem dX7_hasSet_12 : decode cX7_hasSet 12 = .ok (.if_icmp .ge 22, 3) := by decide +kernel
theorem dX7_hasSet_15 : decode cX7_hasSet 15 = .ok (.aload_n 0, 1) := by decide +kernel
theorem dX7_hasSet_16 : decode cX7_hasSet 16 = .ok (.getfield 15, 3) := by decide +kernel
theorem dX7_hasSet_19 : decode cX7_hasSet 19 = .ok (.iload 4, 2) := by decide +kernel
theorem dX7_hasSet_21 : decode cX7_hasSet 21 = .ok (.iaload, 1) := by decide +kernel
theorem dX7_hasSet_22 : decode cX7_hasSet 22 = .ok (.iload_n 2, 1) := by decide +kernel
theorem dX7_hasSet_23 : decode cX7_hasSet 23 = .ok (.if_icmp .ne 5, 3) := by decide +kernel
theorem dX7_hasSet_26 : decode cX7_hasSet 26 = .ok (.iconst 1, 1) := by decide +kernel
theorem dX7_hasSet_27 : decode cX7_hasSet 27 = .ok (.ireturn, 1) := by decide +kernel
theorem dX7_hasSet_28 : decode cX7_hasSet 28 = .ok (.iinc 4 1, 3) := by decide +kernel
theorem dX7_hasSet_31 : decode cX7_hasSet 31 = .ok (.goto (-22), 3) := by decide +kernel
theorem dX7_hasSet_34 : decode cX7_hasSet 34 = .ok (.iconst 0, 1) := by decide +kernel
theorem dX7_hasSet_35 : decode cX7_hasSet 35 = .ok (.ireturn, 1) := by decide +kernel
theorem dX7_chosenSet_0 : decode cX7_chosenSet 0 = .ok (.aload_n 0, 1) := by decide +kernel
theorem dX7_chosenSet_1 : decode cX7_chosenSet 1 = .ok (.aload_n 1, 1) := by decide +kernel
theorem dX7_chosenSet_2 : decode cX7_chosenSet 2 = .ok (.invokevirtual 37, 3) := by decide +kernel
theorem dX7_chosenSet_5 : decode cX7_chosenSet 5 = .ok (.istore_n 3, 1) := by decide +kernel
theorem dX7_chosenSet_6 : decode cX7_chosenSet 6 = .ok (.iconst 0, 1) := by decide +kernel
theorem dX7_chosenSet_7 : decode cX7_chosenSet 7 = .ok (.istore 4, 2) := by decide +kernel
theorem dX7_chosenSet_9 : decode cX7_chosenSet 9 = .ok (.iconst 1, 1) := by decide +kernel
theorem dX7_chosenSet_10 : decode cX7_chosenSet 10 = .ok (.istore 5, 2) := by decide +kernel
theorem dX7_chosenSet_12 : decode cX7_chosenSet 12 = .ok (.iload 5, 2) := by decide +kernel
theorem dX7_chosenSet_14 : decode cX7_chosenSet 14 = .ok (.iload_n 3, 1) := by decide +kernel
theorem dX7_chosenSet_15 : decode cX7_chosenSet 15 = .ok (.if_icmp .ge 39, 3) := by decide +kernel
theorem dX7_chosenSet_18 : decode cX7_chosenSet 18 = .ok (.aload_n 0, 1) := by decide +kernel
theorem dX7_chosenSet_19 : decode cX7_chosenSet 19 = .ok (.getfield 15, 3) := by decide +kernel
theorem dX7_chosenSet_22 : decode cX7_chosenSet 22 = .ok (.iload 5, 2) := by decide +kernel
theorem dX7_chosenSet_24 : decode cX7_chosenSet 24 = .ok (.iaload, 1) := by decide +kernel
theorem dX7_chosenSet_25 : decode cX7_chosenSet 25 = .ok (.iload_n 2, 1) := by decide +kernel
theorem dX7_chosenSet_26 : decode cX7_chosenSet 26 = .ok (.if_icmp .ne 22, 3) := by decide +kernel
theorem dX7_chosenSet_29 : decode cX7_chosenSet 29 = .ok (.iload 4, 2) := by decide +kernel
theorem dX7_chosenSet_31 : decode cX7_chosenSet 31 = .ok (.ifCond .eq 13, 3) := by decide +kernel
theorem dX7_chosenSet_34 : decode cX7_chosenSet 34 = .ok (.iload 5, 2) := by decide +kernel
theorem dX7_chosenSet_36 : decode cX7_chosenSet 36 = .ok (.iload 4, 2) := by decide +kernel
theorem dX7_chosenSet_38 : decode cX7_chosenSet 38 = .ok (.invokestatic 41, 3) := by decide +kernel
theorem dX7_chosenSet_41 : decode cX7_chosenSet 41 = .ok (.ifCond .eq 7, 3) := by decide +kernel
theorem dX7_chosenSet_44 : decode cX7_chosenSet 44 = .ok (.iload 5, 2) := by decide +kernel
theorem dX7_chosenSet_46 : decode cX7_chosenSet 46 = .ok (.istore 4, 2) := by decide +kernel
theorem dX7_chosenSet_48 : decode cX7_chosenSet 48 = .ok (.iinc 5 1, 3) := by decide +kernel
theorem dX7_chosenSet_51 : decode cX7_chosenSet 51 = .ok (.goto (-39), 3) := by decide +kernel
theorem dX7_chosenSet_54 : decode cX7_chosenSet 54 = .ok (.iload 4, 2) := by decide +kernel
theorem dX7_chosenSet_56 : decode cX7_chosenSet 56 = .ok (.ireturn, 1) := by decide +kernel
theorem dX7_sumSets_0 : decode cX7_sumSets 0 = .ok (.iconst 1, 1) := by decide +kernel
theorem dX7_sumSets_1 : decode cX7_sumSets 1 = .ok (.istore_n 2, 1) := by decide +kernel
theorem dX7_sumSets_2 : decode cX7_sumSets 2 = .ok (.aload_n 0, 1) := by decide +kernel
theorem dX7_sumSets_3 : decode cX7_sumSets 3 = .ok (.getfield 15, 3) := by decide +kernel
theorem dX7_sumSets_6 : decode cX7_sumSets 6 = .ok (.iconst 0, 1) := by decide +kernel
theorem dX7_sumSets_7 : decode cX7_sumSets 7 = .ok (.iconst 0, 1) := by decide +kernel
theorem dX7_sumSets_8 : decode cX7_sumSets 8 = .ok (.iastore, 1) := by decide +kernel
theorem dX7_sumSets_9 : decode cX7_sumSets 9 = .ok (.iconst 0, 1) := by decide +kernel
theorem dX7_sumSets_10 : decode cX7_sumSets 10 = .ok (.istore_n 3, 1) := by decide +kernel
theorem dX7_sumSets_11 : decode cX7_sumSets 11 = .ok (.iload_n 3, 1) := by decide +kernel
theorem dX7_sumSets_12 : decode cX7_sumSets 12 = .ok (.aload_n 1, 1) := by decide +kernel
theorem dX7_sumSets_13 : decode cX7_sumSets 13 = .ok (.getfield 23, 3) := by decide +kernel
theorem dX7_sumSets_16 : decode cX7_sumSets 16 = .ok (.if_icmp .ge 50, 3) := by decide +kernel
theorem dX7_sumSets_19 : decode cX7_sumSets 19 = .ok (.iconst 0, 1) := by decide +kernel
theorem dX7_sumSets_20 : decode cX7_sumSets 20 = .ok (.istore 4, 2) := by decide +kernel
theorem dX7_sumSets_22 : decode cX7_sumSets 22 = .ok (.iload 4, 2) := by decide +kernel
theorem dX7_sumSets_24 : decode cX7_sumSets 24 = .ok (.iload_n 2, 1) := by decide +kernel
theorem dX7_sumSets_25 : decode cX7_sumSets 25 = .ok (.if_icmp .ge 31, 3) := by decide +kernel
theorem dX7_sumSets_28 : decode cX7_sumSets 28 = .ok (.aload_n 0, 1) := by decide +kernel
theorem dX7_sumSets_29 : decode cX7_sumSets 29 = .ok (.getfield 15, 3) := by decide +kernel
theorem dX7_sumSets_32 : decode cX7_sumSets 32 = .ok (.iload_n 2, 1) := by decide +kernel
theorem dX7_sumSets_33 : decode cX7_sumSets 33 = .ok (.iload 4, 2) := by decide +kernel
theorem dX7_sumSets_35 : decode cX7_sumSets 35 = .ok (.iadd, 1) := by decide +kernel
theorem dX7_sumSets_36 : decode cX7_sumSets 36 = .ok (.aload_n 0, 1) := by decide +kernel
theorem dX7_sumSets_37 : decode cX7_sumSets 37 = .ok (.getfield 15, 3) := by decide +kernel
theorem dX7_sumSets_40 : decode cX7_sumSets 40 = .ok (.iload 4, 2) := by decide +kernel
theorem dX7_sumSets_42 : decode cX7_sumSets 42 = .ok (.iaload, 1) := by decide +kernel
theorem dX7_sumSets_43 : decode cX7_sumSets 43 = .ok (.aload_n 1, 1) := by decide +kernel
theorem dX7_sumSets_44 : decode cX7_sumSets 44 = .ok (.iload_n 3, 1) := by decide +kernel
theorem dX7_sumSets_45 : decode cX7_sumSets 45 = .ok (.invokevirtual 29, 3) := by decide +kernel
theorem dX7_sumSets_48 : decode cX7_sumSets 48 = .ok (.iadd, 1) := by decide +kernel
theorem dX7_sumSets_49 : decode cX7_sumSets 49 = .ok (.iastore, 1) := by decide +kernel
theorem dX7_sumSets_50 : decode cX7_sumSets 50 = .ok (.iinc 4 1, 3) := by decide +kernel
theorem dX7_sumSets_53 : decode cX7_sumSets 53 = .ok (.goto (-31), 3) := by decide +kernel
theorem dX7_sumSets_56 : decode cX7_sumSets 56 = .ok (.iload_n 2, 1) := by decide +kernel
theorem dX7_sumSets_57 : decode cX7_sumSets 57 = .ok (.iconst 2, 1) := by decide +kernel
theorem dX7_sumSets_58 : decode cX7_sumSets 58 = .ok (.imul, 1) := by decide +kernel
theorem dX7_sumSets_59 : decode cX7_sumSets 59 = .ok (.istore_n 2, 1) := by decide +kernel
theorem dX7_sumSets_60 : decode cX7_sumSets 60 = .ok (.iinc 3 1, 3) := by decide +kernel
theorem dX7_sumSets_63 : decode cX7_sumSets 63 = .ok (.goto (-52), 3) := by decide +kernel
theorem dX7_sumSets_66 : decode cX7_sumSets 66 = .ok (.iload_n 2, 1) := by decide +kernel
theorem dX7_sumSets_67 : decode cX7_sumSets 67 = .ok (.ireturn, 1) := by decide +kernel
theorem dX7_isPreferred_0 : decode cX7_isPreferred 0 = .ok (.iload_n 0, 1) := by decide +kernel
theorem dX7_isPreferred_1 : decode cX7_isPreferred 1 = .ok (.invokestatic 45, 3) := by decide +kernel
theorem dX7_isPreferred_4 : decode cX7_isPreferred 4 = .ok (.istore_n 2, 1) := by decide +kernel
theorem dX7_isPreferred_5 : decode cX7_isPreferred 5 = .ok (.iload_n 1, 1) := by decide +kernel
theorem dX7_isPreferred_6 : decode cX7_isPreferred 6 = .ok (.invokestatic 45, 3) := by decide +kernel
theorem dX7_isPreferred_9 : decode cX7_isPreferred 9 = .ok (.istore_n 3, 1) := by decide +kernel
theorem dX7_isPreferred_10 : decode cX7_isPreferred 10 = .ok (.iload_n 2, 1) := by decide +kernel
theorem dX7_isPreferred_11 : decode cX7_isPreferred 11 = .ok (.iload_n 3, 1) := by decide +kernel
theorem dX7_isPreferred_12 : decode cX7_isPreferred 12 = .ok (.if_icmp .eq 14, 3) := by decide +kernel
theorem dX7_isPreferred_15 : decode cX7_isPreferred 15 = .ok (.iload_n 2, 1) := by decide +kernel
theorem dX7_isPreferred_16 : decode cX7_isPreferred 16 = .ok (.iload_n 3, 1) := by decide +kernel
theorem dX7_isPreferred_17 : decode cX7_isPreferred 17 = .ok (.if_icmp .ge 7, 3) := by decide +kernel
theorem dX7_isPreferred_20 : decode cX7_isPreferred 20 = .ok (.iconst 1, 1) := by decide +kernel
theorem dX7_isPreferred_21 : decode cX7_isPreferred 21 = .ok (.goto 4, 3) := by decide +kernel
theorem dX7_isPreferred_24 : decode cX7_isPreferred 24 = .ok (.iconst 0, 1) := by decide +kernel
theorem dX7_isPreferred_25 : decode cX7_isPreferred 25 = .ok (.ireturn, 1) := by decide +kernel
theorem dX7_isPreferred_26 : decode cX7_isPreferred 26 = .ok (.iload_n 0, 1) := by decide +kernel
theorem dX7_isPreferred_27 : decode cX7_isPreferred 27 = .ok (.iload_n 1, 1) := by decide +kernel
theorem dX7_isPreferred_28 : decode cX7_isPreferred 28 = .ok (.ixor, 1) := by decide +kernel
theorem dX7_isPreferred_29 : decode cX7_isPreferred 29 = .ok (.istore 4, 2) := by decide +kernel
theorem dX7_isPreferred_31 : decode cX7_isPreferred 31 = .ok (.iload 4, 2) := by decide +kernel
theorem dX7_isPreferred_33 : decode cX7_isPreferred 33 = .ok (.iload 4, 2) := by decide +kernel
theorem dX7_isPreferred_35 : decode cX7_isPreferred 35 = .ok (.ineg, 1) := by decide +kernel
theorem dX7_isPreferred_36 : decode cX7_isPreferred 36 = .ok (.iand, 1) := by decide +kernel
theorem dX7_isPreferred_37 : decode cX7_isPreferred 37 = .ok (.istore 5, 2) := by decide +kernel
theorem dX7_isPreferred_39 : decode cX7_isPreferred 39 = .ok (.iload_n 0, 1) := by decide +kernel
theorem dX7_isPreferred_40 : decode cX7_isPreferred 40 = .ok (.iload 5, 2) := by decide +kernel
theorem dX7_isPreferred_42 : decode cX7_isPreferred 42 = .ok (.iand, 1) := by decide +kernel
theorem dX7_isPreferred_43 : decode cX7_isPreferred 43 = .ok (.ifCond .eq 7, 3) := by decide +kernel
theorem dX7_isPreferred_46 : decode cX7_isPreferred 46 = .ok (.iconst 1, 1) := by decide +kernel
theorem dX7_isPreferred_47 : decode cX7_isPreferred 47 = .ok (.goto 4, 3) := by decide +kernel
theorem dX7_isPreferred_50 : decode cX7_isPreferred 50 = .ok (.iconst 0, 1) := by decide +kernel
theorem dX7_isPreferred_51 : decode cX7_isPreferred 51 = .ok (.ireturn, 1) := by decide +kernel
theorem dX7_waysAgree_0 : decode cX7_waysAgree 0 = .ok (.aload_n 0, 1) := by decide +kernel
theorem dX7_waysAgree_1 : decode cX7_waysAgree 1 = .ok (.aload_n 1, 1) := by decide +kernel
theorem dX7_waysAgree_2 : decode cX7_waysAgree 2 = .ok (.iload_n 2, 1) := by decide +kernel
theorem dX7_waysAgree_3 : decode cX7_waysAgree 3 = .ok (.invokevirtual 50, 3) := by decide +kernel
theorem dX7_waysAgree_6 : decode cX7_waysAgree 6 = .ok (.aload_n 0, 1) := by decide +kernel
theorem dX7_waysAgree_7 : decode cX7_waysAgree 7 = .ok (.aload_n 1, 1) := by decide +kernel
theorem dX7_waysAgree_8 : decode cX7_waysAgree 8 = .ok (.iload_n 2, 1) := by decide +kernel
theorem dX7_waysAgree_9 : decode cX7_waysAgree 9 = .ok (.invokevirtual 54, 3) := by decide +kernel
theorem dX7_waysAgree_12 : decode cX7_waysAgree 12 = .ok (.if_icmp .ne 7, 3) := by decide +kernel
theorem dX7_waysAgree_15 : decode cX7_waysAgree 15 = .ok (.iconst 1, 1) := by decide +kernel
theorem dX7_waysAgree_16 : decode cX7_waysAgree 16 = .ok (.goto 4, 3) := by decide +kernel
theorem dX7_waysAgree_19 : decode cX7_waysAgree 19 = .ok (.iconst 0, 1) := by decide +kernel
theorem dX7_waysAgree_20 : decode cX7_waysAgree 20 = .ok (.ireturn, 1) := by decide +kernel
theorem dX8_init_0 : decode cX8_init 0 = .ok (.aload_n 0, 1) := by decide +kernel
theorem dX8_init_1 : decode cX8_init 1 = .ok (.invokespecial 3, 3) := by decide +kernel
theorem dX8_init_4 : decode cX8_init 4 = .ok (.aload_n 0, 1) := by decide +kernel
theorem dX8_init_5 : decode cX8_init 5 = .ok (.bipush 6, 2) := by decide +kernel
theorem dX8_init_7 : decode cX8_init 7 = .ok (.newarray .int, 2) := by decide +kernel
theorem dX8_init_9 : decode cX8_init 9 = .ok (.putfield 9, 3) := by decide +kernel
theorem dX8_init_12 : decode cX8_init 12 = .ok (.aload_n 0, 1) := by decide +kernel
theorem dX8_init_13 : decode cX8_init 13 = .ok (.bipush 6, 2) := by decide +kernel
theorem dX8_init_15 : decode cX8_init 15 = .ok (.newarray .int, 2) := by decide +kernel
theorem dX8_init_17 : decode cX8_init 17 = .ok (.putfield 15, 3) := by decide +kernel
theorem dX8_init_20 : decode cX8_init 20 = .ok (.aload_n 0, 1) := by decide +kernel
theorem dX8_init_21 : decode cX8_init 21 = .ok (.bipush 6, 2) := by decide +kernel
theorem dX8_init_23 : decode cX8_init 23 = .ok (.newarray .int, 2) := by decide +kernel
theorem dX8_init_25 : decode cX8_init 25 = .ok (.putfield 18, 3) := by decide +kernel
theorem dX8_init_28 : decode cX8_init 28 = .ok (.aload_n 0, 1) := by decide +kernel
theorem dX8_init_29 : decode cX8_init 29 = .ok (.bipush 6, 2) := by decide +kernel
theorem dX8_init_31 : decode cX8_init 31 = .ok (.newarray .int, 2) := by decide +kernel
theorem dX8_init_33 : decode cX8_init 33 = .ok (.putfield 21, 3) := by decide +kernel
theorem dX8_init_36 : decode cX8_init 36 = .ok (.aload_n 0, 1) := by decide +kernel
theorem dX8_init_37 : decode cX8_init 37 = .ok (.bipush 6, 2) := by decide +kernel
theorem dX8_init_39 : decode cX8_init 39 = .ok (.newarray .int, 2) := by decide +kernel
theorem dX8_init_41 : decode cX8_init 41 = .ok (.putfield 24, 3) := by decide +kernel
theorem dX8_init_44 : decode cX8_init 44 = .ok (.aload_n 0, 1) := by decide +kernel
theorem dX8_init_45 : decode cX8_init 45 = .ok (.bipush 6, 2) := by decide +kernel
theorem dX8_init_47 : decode cX8_init 47 = .ok (.newarray .int, 2) := by decide +kernel
theorem dX8_init_49 : decode cX8_init 49 = .ok (.putfield 27, 3) := by decide +kernel
theorem dX8_init_52 : decode cX8_init 52 = .ok (.return_, 1) := by decide +kernel
theorem dX8_copyFrom_0 : decode cX8_copyFrom 0 = .ok (.aload_n 1, 1) := by decide +kernel
theorem dX8_copyFrom_1 : decode cX8_copyFrom 1 = .ok (.getfield 9, 3) := by decide +kernel
theorem dX8_copyFrom_4 : decode cX8_copyFrom 4 = .ok (.iconst 0, 1) := by decide +kernel
theorem dX8_copyFrom_5 : decode cX8_copyFrom 5 = .ok (.aload_n 0, 1) := by decide +kernel
theorem dX8_copyFrom_6 : decode cX8_copyFrom 6 = .ok (.getfield 9, 3) := by decide +kernel
theorem dX8_copyFrom_9 : decode cX8_copyFrom 9 = .ok (.iconst 0, 1) := by decide +kernel
theorem dX8_copyFrom_10 : decode cX8_copyFrom 10 = .ok (.bipush 6, 2) := by decide +kernel
theorem dX8_copyFrom_12 : decode cX8_copyFrom 12 = .ok (.invokestatic 30, 3) := by decide +kernel
theorem dX8_copyFrom_15 : decode cX8_copyFrom 15 = .ok (.aload_n 1, 1) := by decide +kernel
theorem dX8_copyFrom_16 : decode cX8_copyFrom 16 = .ok (.getfield 15, 3) := by decide +kernel
theorem dX8_copyFrom_19 : decode cX8_copyFrom 19 = .ok (.iconst 0, 1) := by decide +kernel
theorem dX8_copyFrom_20 : decode cX8_copyFrom 20 = .ok (.aload_n 0, 1) := by decide +kernel
theorem dX8_copyFrom_21 : decode cX8_copyFrom 21 = .ok (.getfield 15, 3) := by decide +kernel
theorem dX8_copyFrom_24 : decode cX8_copyFrom 24 = .ok (.iconst 0, 1) := by decide +kernel
theorem dX8_copyFrom_25 : decode cX8_copyFrom 25 = .ok (.bipush 6, 2) := by decide +kernel
theorem dX8_copyFrom_27 : decode cX8_copyFrom 27 = .ok (.invokestatic 30, 3) := by decide +kernel
theorem dX8_copyFrom_30 : decode cX8_copyFrom 30 = .ok (.aload_n 1, 1) := by decide +kernel
theorem dX8_copyFrom_31 : decode cX8_copyFrom 31 = .ok (.getfield 18, 3) := by decide +kernel
theorem dX8_copyFrom_34 : decode cX8_copyFrom 34 = .ok (.iconst 0, 1) := by decide +kernel
theorem dX8_copyFrom_35 : decode cX8_copyFrom 35 = .ok (.aload_n 0, 1) := by decide +kernel
theorem dX8_copyFrom_36 : decode cX8_copyFrom 36 = .ok (.getfield 18, 3) := by decide +kernel
theorem dX8_copyFrom_39 : decode cX8_copyFrom 39 = .ok (.iconst 0, 1) := by decide +kernel
theorem dX8_copyFrom_40 : decode cX8_copyFrom 40 = .ok (.bipush 6, 2) := by decide +kernel
theorem dX8_copyFrom_42 : decode cX8_copyFrom 42 = .ok (.invokestatic 30, 3) := by decide +kernel
theorem dX8_copyFrom_45 : decode cX8_copyFrom 45 = .ok (.aload_n 1, 1) := by decide +kernel
theorem dX8_copyFrom_46 : decode cX8_copyFrom 46 = .ok (.getfield 21, 3) := by decide +kernel
theorem dX8_copyFrom_49 : decode cX8_copyFrom 49 = .ok (.iconst 0, 1) := by decide +kernel
theorem dX8_copyFrom_50 : decode cX8_copyFrom 50 = .ok (.aload_n 0, 1) := by decide +kernel
theorem dX8_copyFrom_51 : decode cX8_copyFrom 51 = .ok (.getfield 21, 3) := by decide +kernel
theorem dX8_copyFrom_54 : decode cX8_copyFrom 54 = .ok (.iconst 0, 1) := by decide +kernel
theorem dX8_copyFrom_55 : decode cX8_copyFrom 55 = .ok (.bipush 6, 2) := by decide +kernel
theorem dX8_copyFrom_57 : decode cX8_copyFrom 57 = .ok (.invokestatic 30, 3) := by decide +kernel
theorem dX8_copyFrom_60 : decode cX8_copyFrom 60 = .ok (.aload_n 1, 1) := by decide +kernel
theorem dX8_copyFrom_61 : decode cX8_copyFrom 61 = .ok (.getfield 24, 3) := by decide +kernel
theorem dX8_copyFrom_64 : decode cX8_copyFrom 64 = .ok (.iconst 0, 1) := by decide +kernel
theorem dX8_copyFrom_65 : decode cX8_copyFrom 65 = .ok (.aload_n 0, 1) := by decide +kernel
theorem dX8_copyFrom_66 : decode cX8_copyFrom 66 = .ok (.getfield 24, 3) := by decide +kernel
theorem dX8_copyFrom_69 : decode cX8_copyFrom 69 = .ok (.iconst 0, 1) := by decide +kernel
theorem dX8_copyFrom_70 : decode cX8_copyFrom 70 = .ok (.bipush 6, 2) := by decide +kernel
theorem dX8_copyFrom_72 : decode cX8_copyFrom 72 = .ok (.invokestatic 30, 3) := by decide +kernel
theorem dX8_copyFrom_75 : decode cX8_copyFrom 75 = .ok (.aload_n 1, 1) := by decide +kernel
theorem dX8_copyFrom_76 : decode cX8_copyFrom 76 = .ok (.getfield 27, 3) := by decide +kernel
theorem dX8_copyFrom_79 : decode cX8_copyFrom 79 = .ok (.iconst 0, 1) := by decide +kernel
theorem dX8_copyFrom_80 : decode cX8_copyFrom 80 = .ok (.aload_n 0, 1) := by decide +kernel
theorem dX8_copyFrom_81 : decode cX8_copyFrom 81 = .ok (.getfield 27, 3) := by decide +kernel
theorem dX8_copyFrom_84 : decode cX8_copyFrom 84 = .ok (.iconst 0, 1) := by decide +kernel
theorem dX8_copyFrom_85 : decode cX8_copyFrom 85 = .ok (.bipush 6, 2) := by decide +kernel
theorem dX8_copyFrom_87 : decode cX8_copyFrom 87 = .ok (.invokestatic 30, 3) := by decide +kernel
theorem dX8_copyFrom_90 : decode cX8_copyFrom 90 = .ok (.aload_n 0, 1) := by decide +kernel
theorem dX8_copyFrom_91 : decode cX8_copyFrom 91 = .ok (.aload_n 1, 1) := by decide +kernel
theorem dX8_copyFrom_92 : decode cX8_copyFrom 92 = .ok (.getfield 36, 3) := by decide +kernel
theorem dX8_copyFrom_95 : decode cX8_copyFrom 95 = .ok (.putfield 36, 3) := by decide +kernel
theorem dX8_copyFrom_98 : decode cX8_copyFrom 98 = .ok (.return_, 1) := by decide +kernel
theorem dX8_has_0 : decode cX8_has 0 = .ok (.iload_n 1, 1) := by decide +kernel
theorem dX8_has_1 : decode cX8_has 1 = .ok (.iconst 0, 1) := by decide +kernel
theorem dX8_has_2 : decode cX8_has 2 = .ok (.aload_n 0, 1) := by decide +kernel
theorem dX8_has_3 : decode cX8_has 3 = .ok (.getfield 36, 3) := by decide +kernel
theorem dX8_has_6 : decode cX8_has 6 = .ok (.iconst 1, 1) := by decide +kernel
theorem dX8_has_7 : decode cX8_has 7 = .ok (.isub, 1) := by decide +kernel
theorem dX8_has_8 : decode cX8_has 8 = .ok (.invokestatic 40, 3) := by decide +kernel
theorem dX8_has_11 : decode cX8_has 11 = .ok (.ireturn, 1) := by decide +kernel
theorem dX8_faultOfNew_0 : decode cX8_faultOfNew 0 = .ok (.iload_n 1, 1) := by decide +kernel
theorem dX8_faultOfNew_1 : decode cX8_faultOfNew 1 = .ok (.iconst 1, 1) := by decide +kernel
theorem dX8_faultOfNew_2 : decode cX8_faultOfNew 2 = .ok (.bipush 12, 2) := by decide +kernel
theorem dX8_faultOfNew_4 : decode cX8_faultOfNew 4 = .ok (.invokestatic 40, 3) := by decide +kernel
theorem dX8_faultOfNew_7 : decode cX8_faultOfNew 7 = .ok (.ifCond .eq 13, 3) := by decide +kernel
theorem dX8_faultOfNew_10 : decode cX8_faultOfNew 10 = .ok (.iload_n 2, 1) := by decide +kernel
theorem dX8_faultOfNew_11 : decode cX8_faultOfNew 11 = .ok (.iconst 1, 1) := by decide +kernel
theorem dX8_faultOfNew_12 : decode cX8_faultOfNew 12 = .ok (.bipush 9, 2) := by decide +kernel
theorem dX8_faultOfNew_14 : decode cX8_faultOfNew 14 = .ok (.invokestatic 40, 3) := by decide +kernel
theorem dX8_faultOfNew_17 : decode cX8_faultOfNew 17 = .ok (.ifCond .ne 7, 3) := by decide +kernel
theorem dX8_faultOfNew_20 : decode cX8_faultOfNew 20 = .ok (.getstatic 44, 3) := by decide +kernel
theorem dX8_faultOfNew_23 : decode cX8_faultOfNew 23 = .ok (.areturn, 1) := by decide +kernel
theorem dX8_faultOfNew_24 : decode cX8_faultOfNew 24 = .ok (.aload_n 0, 1) := by decide +kernel
theorem dX8_faultOfNew_25 : decode cX8_faultOfNew 25 = .ok (.getfield 36, 3) := by decide +kernel
theorem dX8_faultOfNew_28 : decode cX8_faultOfNew 28 = .ok (.bipush 6, 2) := by decide +kernel
theorem dX8_faultOfNew_30 : decode cX8_faultOfNew 30 = .ok (.if_icmp .ge 9, 3) := by decide +kernel
theorem dX8_faultOfNew_33 : decode cX8_faultOfNew 33 = .ok (.getstatic 50, 3) := by decide +kernel
theorem dX8_faultOfNew_36 : decode cX8_faultOfNew 36 = .ok (.goto 6, 3) := by decide +kernel
theorem dX8_faultOfNew_39 : decode cX8_faultOfNew 39 = .ok (.getstatic 53, 3) := by decide +kernel
theorem dX8_faultOfNew_42 : decode cX8_faultOfNew 42 = .ok (.areturn, 1) := by decide +kernel
theorem dX8_add_0 : decode cX8_add 0 = .ok (.aload_n 0, 1) := by decide +kernel
theorem dX8_add_1 : decode cX8_add 1 = .ok (.getfield 36, 3) := by decide +kernel
theorem dX8_add_4 : decode cX8_add 4 = .ok (.istore 6, 2) := by decide +kernel
theorem dX8_add_6 : decode cX8_add 6 = .ok (.iload 6, 2) := by decide +kernel
theorem dX8_add_8 : decode cX8_add 8 = .ok (.bipush 6, 2) := by decide +kernel
theorem dX8_add_10 : decode cX8_add 10 = .ok (.if_icmp .ge 64, 3) := by decide +kernel
theorem dX8_add_13 : decode cX8_add 13 = .ok (.aload_n 0, 1) := by decide +kernel
theorem dX8_add_14 : decode cX8_add 14 = .ok (.getfield 9, 3) := by decide +kernel
theorem dX8_add_17 : decode cX8_add 17 = .ok (.iload 6, 2) := by decide +kernel
theorem dX8_add_19 : decode cX8_add 19 = .ok (.iload_n 1, 1) := by decide +kernel
theorem dX8_add_20 : decode cX8_add 20 = .ok (.iastore, 1) := by decide +kernel
theorem dX8_add_21 : decode cX8_add 21 = .ok (.aload_n 0, 1) := by decide +kernel
theorem dX8_add_22 : decode cX8_add 22 = .ok (.getfield 15, 3) := by decide +kernel
theorem dX8_add_25 : decode cX8_add 25 = .ok (.iload 6, 2) := by decide +kernel
theorem dX8_add_27 : decode cX8_add 27 = .ok (.iload_n 2, 1) := by decide +kernel
theorem dX8_add_28 : decode cX8_add 28 = .ok (.iastore, 1) := by decide +kernel
theorem dX8_add_29 : decode cX8_add 29 = .ok (.aload_n 0, 1) := by decide +kernel
theorem dX8_add_30 : decode cX8_add 30 = .ok (.getfield 18, 3) := by decide +kernel
theorem dX8_add_33 : decode cX8_add 33 = .ok (.iload 6, 2) := by decide +kernel
theorem dX8_add_35 : decode cX8_add 35 = .ok (.iload_n 3, 1) := by decide +kernel
theorem dX8_add_36 : decode cX8_add 36 = .ok (.iastore, 1) := by decide +kernel
theorem dX8_add_37 : decode cX8_add 37 = .ok (.aload_n 0, 1) := by decide +kernel
theorem dX8_add_38 : decode cX8_add 38 = .ok (.getfield 21, 3) := by decide +kernel
theorem dX8_add_41 : decode cX8_add 41 = .ok (.iload 6, 2) := by decide +kernel
theorem dX8_add_43 : decode cX8_add 43 = .ok (.iload 4, 2) := by decide +kernel
theorem dX8_add_45 : decode cX8_add 45 = .ok (.iastore, 1) := by decide +kernel
theorem dX8_add_46 : decode cX8_add 46 = .ok (.aload_n 0, 1) := by decide +kernel
theorem dX8_add_47 : decode cX8_add 47 = .ok (.getfield 24, 3) := by decide +kernel
theorem dX8_add_50 : decode cX8_add 50 = .ok (.iload 6, 2) := by decide +kernel
theorem dX8_add_52 : decode cX8_add 52 = .ok (.iload 4, 2) := by decide +kernel
theorem dX8_add_54 : decode cX8_add 54 = .ok (.iastore, 1) := by decide +kernel
theorem dX8_add_55 : decode cX8_add 55 = .ok (.aload_n 0, 1) := by decide +kernel
theorem dX8_add_56 : decode cX8_add 56 = .ok (.getfield 27, 3) := by decide +kernel
theorem dX8_add_59 : decode cX8_add 59 = .ok (.iload 6, 2) := by decide +kernel
theorem dX8_add_61 : decode cX8_add 61 = .ok (.iload 5, 2) := by decide +kernel
theorem dX8_add_63 : decode cX8_add 63 = .ok (.iastore, 1) := by decide +kernel
theorem dX8_add_64 : decode cX8_add 64 = .ok (.aload_n 0, 1) := by decide +kernel
theorem dX8_add_65 : decode cX8_add 65 = .ok (.dup, 1) := by decide +kernel
theorem dX8_add_66 : decode cX8_add 66 = .ok (.getfield 36, 3) := by decide +kernel
theorem dX8_add_69 : decode cX8_add 69 = .ok (.iconst 1, 1) := by decide +kernel
theorem dX8_add_70 : decode cX8_add 70 = .ok (.iadd, 1) := by decide +kernel
theorem dX8_add_71 : decode cX8_add 71 = .ok (.putfield 36, 3) := by decide +kernel
theorem dX8_add_74 : decode cX8_add 74 = .ok (.iload 6, 2) := by decide +kernel
theorem dX8_add_76 : decode cX8_add 76 = .ok (.ireturn, 1) := by decide +kernel
theorem dX8_end_0 : decode cX8_end 0 = .ok (.aload_n 0, 1) := by decide +kernel
theorem dX8_end_1 : decode cX8_end 1 = .ok (.getfield 27, 3) := by decide +kernel
theorem dX8_end_4 : decode cX8_end 4 = .ok (.iload_n 1, 1) := by decide +kernel
theorem dX8_end_5 : decode cX8_end 5 = .ok (.iaload, 1) := by decide +kernel
theorem dX8_end_6 : decode cX8_end 6 = .ok (.istore_n 2, 1) := by decide +kernel
theorem dX8_end_7 : decode cX8_end 7 = .ok (.aload_n 0, 1) := by decide +kernel
theorem dX8_end_8 : decode cX8_end 8 = .ok (.getfield 27, 3) := by decide +kernel
theorem dX8_end_11 : decode cX8_end 11 = .ok (.iload_n 1, 1) := by decide +kernel
theorem dX8_end_12 : decode cX8_end 12 = .ok (.iconst 0, 1) := by decide +kernel
theorem dX8_end_13 : decode cX8_end 13 = .ok (.iastore, 1) := by decide +kernel
theorem dX8_end_14 : decode cX8_end 14 = .ok (.aload_n 0, 1) := by decide +kernel
theorem dX8_end_15 : decode cX8_end 15 = .ok (.invokevirtual 56, 3) := by decide +kernel
theorem dX8_end_18 : decode cX8_end 18 = .ok (.iload_n 2, 1) := by decide +kernel
theorem dX8_end_19 : decode cX8_end 19 = .ok (.ireturn, 1) := by decide +kernel
theorem dX8_dropEnded_0 : decode cX8_dropEnded 0 = .ok (.iconst 0, 1) := by decide +kernel
theorem dX8_dropEnded_1 : decode cX8_dropEnded 1 = .ok (.istore_n 1, 1) := by decide +kernel
theorem dX8_dropEnded_2 : decode cX8_dropEnded 2 = .ok (.iconst 0, 1) := by decide +kernel
theorem dX8_dropEnded_3 : decode cX8_dropEnded 3 = .ok (.istore_n 2, 1) := by decide +kernel
theorem dX8_dropEnded_4 : decode cX8_dropEnded 4 = .ok (.iload_n 2, 1) := by decide +kernel
theorem dX8_dropEnded_5 : decode cX8_dropEnded 5 = .ok (.aload_n 0, 1) := by decide +kernel
theorem dX8_dropEnded_6 : decode cX8_dropEnded 6 = .ok (.getfield 36, 3) := by decide +kernel
theorem dX8_dropEnded_9 : decode cX8_dropEnded 9 = .ok (.if_icmp .ge 27, 3) := by decide +kernel
theorem dX8_dropEnded_12 : decode cX8_dropEnded 12 = .ok (.aload_n 0, 1) := by decide +kernel
theorem dX8_dropEnded_13 : decode cX8_dropEnded 13 = .ok (.getfield 27, 3) := by decide +kernel
theorem dX8_dropEnded_16 : decode cX8_dropEnded 16 = .ok (.iload_n 2, 1) := by decide +kernel
theorem dX8_dropEnded_17 : decode cX8_dropEnded 17 = .ok (.iaload, 1) := by decide +kernel
theorem dX8_dropEnded_18 : decode cX8_dropEnded 18 = .ok (.ifCond .le 12, 3) := by decide +kernel
theorem dX8_dropEnded_21 : decode cX8_dropEnded 21 = .ok (.aload_n 0, 1) := by decide +kernel
theorem dX8_dropEnded_22 : decode cX8_dropEnded 22 = .ok (.iload_n 2, 1) := by decide +kernel
theorem dX8_dropEnded_23 : decode cX8_dropEnded 23 = .ok (.iload_n 1, 1) := by decide +kernel
theorem dX8_dropEnded_24 : decode cX8_dropEnded 24 = .ok (.invokevirtual 59, 3) := by decide +kernel
theorem dX8_dropEnded_27 : decode cX8_dropEnded 27 = .ok (.iinc 1 1, 3) := by decide +kernel
theorem dX8_dropEnded_30 : decode cX8_dropEnded 30 = .ok (.iinc 2 1, 3) := by decide +kernel
theorem dX8_dropEnded_33 : decode cX8_dropEnded 33 = .ok (.goto (-29), 3) := by decide +kernel
theorem dX8_dropEnded_36 : decode cX8_dropEnded 36 = .ok (.aload_n 0, 1) := by decide +kernel
theorem dX8_dropEnded_37 : decode cX8_dropEnded 37 = .ok (.iload_n 1, 1) := by decide +kernel
theorem dX8_dropEnded_38 : decode cX8_dropEnded 38 = .ok (.putfield 36, 3) := by decide +kernel
theorem dX8_dropEnded_41 : decode cX8_dropEnded 41 = .ok (.return_, 1) := by decide +kernel
theorem dX8_shift_0 : decode cX8_shift 0 = .ok (.aload_n 0, 1) := by decide +kernel
theorem dX8_shift_1 : decode cX8_shift 1 = .ok (.getfield 9, 3) := by decide +kernel
theorem dX8_shift_4 : decode cX8_shift 4 = .ok (.iload_n 2, 1) := by decide +kernel
theorem dX8_shift_5 : decode cX8_shift 5 = .ok (.aload_n 0, 1) := by decide +kernel
theorem dX8_shift_6 : decode cX8_shift 6 = .ok (.getfield 9, 3) := by decide +kernel
theorem dX8_shift_9 : decode cX8_shift 9 = .ok (.iload_n 1, 1) := by decide +kernel
theorem dX8_shift_10 : decode cX8_shift 10 = .ok (.iaload, 1) := by decide +kernel
theorem dX8_shift_11 : decode cX8_shift 11 = .ok (.iastore, 1) := by decide +kernel
theorem dX8_shift_12 : decode cX8_shift 12 = .ok (.aload_n 0, 1) := by decide +kernel
theorem dX8_shift_13 : decode cX8_shift 13 = .ok (.getfield 15, 3) := by decide +kernel
theorem dX8_shift_16 : decode cX8_shift 16 = .ok (.iload_n 2, 1) := by decide +kernel
theorem dX8_shift_17 : decode cX8_shift 17 = .ok (.aload_n 0, 1) := by decide +kernel
theorem dX8_shift_18 : decode cX8_shift 18 = .ok (.getfield 15, 3) := by decide +kernel
theorem dX8_shift_21 : decode cX8_shift 21 = .ok (.iload_n 1, 1) := by decide +kernel
theorem dX8_shift_22 : decode cX8_shift 22 = .ok (.iaload, 1) := by decide +kernel
theorem dX8_shift_23 : decode cX8_shift 23 = .ok (.iastore, 1) := by decide +kernel
theorem dX8_shift_24 : decode cX8_shift 24 = .ok (.aload_n 0, 1) := by decide +kernel
theorem dX8_shift_25 : decode cX8_shift 25 = .ok (.getfield 18, 3) := by decide +kernel
theorem dX8_shift_28 : decode cX8_shift 28 = .ok (.iload_n 2, 1) := by decide +kernel
theorem dX8_shift_29 : decode cX8_shift 29 = .ok (.aload_n 0, 1) := by decide +kernel
theorem dX8_shift_30 : decode cX8_shift 30 = .ok (.getfield 18, 3) := by decide +kernel
theorem dX8_shift_33 : decode cX8_shift 33 = .ok (.iload_n 1, 1) := by decide +kernel
theorem dX8_shift_34 : decode cX8_shift 34 = .ok (.iaload, 1) := by decide +kernel
theorem dX8_shift_35 : decode cX8_shift 35 = .ok (.iastore, 1) := by decide +kernel
theorem dX8_shift_36 : decode cX8_shift 36 = .ok (.aload_n 0, 1) := by decide +kernel
theorem dX8_shift_37 : decode cX8_shift 37 = .ok (.getfield 21, 3) := by decide +kernel
theorem dX8_shift_40 : decode cX8_shift 40 = .ok (.iload_n 2, 1) := by decide +kernel
theorem dX8_shift_41 : decode cX8_shift 41 = .ok (.aload_n 0, 1) := by decide +kernel
theorem dX8_shift_42 : decode cX8_shift 42 = .ok (.getfield 21, 3) := by decide +kernel
theorem dX8_shift_45 : decode cX8_shift 45 = .ok (.iload_n 1, 1) := by decide +kernel
theorem dX8_shift_46 : decode cX8_shift 46 = .ok (.iaload, 1) := by decide +kernel
theorem dX8_shift_47 : decode cX8_shift 47 = .ok (.iastore, 1) := by decide +kernel
theorem dX8_shift_48 : decode cX8_shift 48 = .ok (.aload_n 0, 1) := by decide +kernel
theorem dX8_shift_49 : decode cX8_shift 49 = .ok (.getfield 24, 3) := by decide +kernel
theorem dX8_shift_52 : decode cX8_shift 52 = .ok (.iload_n 2, 1) := by decide +kernel
theorem dX8_shift_53 : decode cX8_shift 53 = .ok (.aload_n 0, 1) := by decide +kernel
theorem dX8_shift_54 : decode cX8_shift 54 = .ok (.getfield 24, 3) := by decide +kernel
theorem dX8_shift_57 : decode cX8_shift 57 = .ok (.iload_n 1, 1) := by decide +kernel
theorem dX8_shift_58 : decode cX8_shift 58 = .ok (.iaload, 1) := by decide +kernel
theorem dX8_shift_59 : decode cX8_shift 59 = .ok (.iastore, 1) := by decide +kernel
theorem dX8_shift_60 : decode cX8_shift 60 = .ok (.aload_n 0, 1) := by decide +kernel
theorem dX8_shift_61 : decode cX8_shift 61 = .ok (.getfield 27, 3) := by decide +kernel
theorem dX8_shift_64 : decode cX8_shift 64 = .ok (.iload_n 2, 1) := by decide +kernel
theorem dX8_shift_65 : decode cX8_shift 65 = .ok (.aload_n 0, 1) := by decide +kernel
theorem dX8_shift_66 : decode cX8_shift 66 = .ok (.getfield 27, 3) := by decide +kernel
theorem dX8_shift_69 : decode cX8_shift 69 = .ok (.iload_n 1, 1) := by decide +kernel
theorem dX8_shift_70 : decode cX8_shift 70 = .ok (.iaload, 1) := by decide +kernel
theorem dX8_shift_71 : decode cX8_shift 71 = .ok (.iastore, 1) := by decide +kernel
theorem dX8_shift_72 : decode cX8_shift 72 = .ok (.return_, 1) := by decide +kernel
theorem dX8_comesDue_0 : decode cX8_comesDue 0 = .ok (.aload_n 0, 1) := by decide +kernel
theorem dX8_comesDue_1 : decode cX8_comesDue 1 = .ok (.getfield 24, 3) := by decide +kernel
theorem dX8_comesDue_4 : decode cX8_comesDue 4 = .ok (.iload_n 1, 1) := by decide +kernel
theorem dX8_comesDue_5 : decode cX8_comesDue 5 = .ok (.dup2, 1) := by decide +kernel
theorem dX8_comesDue_6 : decode cX8_comesDue 6 = .ok (.iaload, 1) := by decide +kernel
theorem dX8_comesDue_7 : decode cX8_comesDue 7 = .ok (.iconst 1, 1) := by decide +kernel
theorem dX8_comesDue_8 : decode cX8_comesDue 8 = .ok (.isub, 1) := by decide +kernel
theorem dX8_comesDue_9 : decode cX8_comesDue 9 = .ok (.iastore, 1) := by decide +kernel
theorem dX8_comesDue_10 : decode cX8_comesDue 10 = .ok (.aload_n 0, 1) := by decide +kernel
theorem dX8_comesDue_11 : decode cX8_comesDue 11 = .ok (.getfield 24, 3) := by decide +kernel
theorem dX8_comesDue_14 : decode cX8_comesDue 14 = .ok (.iload_n 1, 1) := by decide +kernel
theorem dX8_comesDue_15 : decode cX8_comesDue 15 = .ok (.iaload, 1) := by decide +kernel
theorem dX8_comesDue_16 : decode cX8_comesDue 16 = .ok (.ifCond .le 5, 3) := by decide +kernel
theorem dX8_comesDue_19 : decode cX8_comesDue 19 = .ok (.iconst 0, 1) := by decide +kernel
theorem dX8_comesDue_20 : decode cX8_comesDue 20 = .ok (.ireturn, 1) := by decide +kernel
theorem dX8_comesDue_21 : decode cX8_comesDue 21 = .ok (.aload_n 0, 1) := by decide +kernel
theorem dX8_comesDue_22 : decode cX8_comesDue 22 = .ok (.getfield 24, 3) := by decide +kernel
theorem dX8_comesDue_25 : decode cX8_comesDue 25 = .ok (.iload_n 1, 1) := by decide +kernel
theorem dX8_comesDue_26 : decode cX8_comesDue 26 = .ok (.aload_n 0, 1) := by decide +kernel
theorem dX8_comesDue_27 : decode cX8_comesDue 27 = .ok (.getfield 21, 3) := by decide +kernel
theorem dX8_comesDue_30 : decode cX8_comesDue 30 = .ok (.iload_n 1, 1) := by decide +kernel
theorem dX8_comesDue_31 : decode cX8_comesDue 31 = .ok (.iaload, 1) := by decide +kernel
theorem dX8_comesDue_32 : decode cX8_comesDue 32 = .ok (.iastore, 1) := by decide +kernel
theorem dX8_comesDue_33 : decode cX8_comesDue 33 = .ok (.aload_n 0, 1) := by decide +kernel
theorem dX8_comesDue_34 : decode cX8_comesDue 34 = .ok (.getfield 27, 3) := by decide +kernel
theorem dX8_comesDue_37 : decode cX8_comesDue 37 = .ok (.iload_n 1, 1) := by decide +kernel
theorem dX8_comesDue_38 : decode cX8_comesDue 38 = .ok (.dup2, 1) := by decide +kernel
theorem dX8_comesDue_39 : decode cX8_comesDue 39 = .ok (.iaload, 1) := by decide +kernel
theorem dX8_comesDue_40 : decode cX8_comesDue 40 = .ok (.iconst 1, 1) := by decide +kernel
theorem dX8_comesDue_41 : decode cX8_comesDue 41 = .ok (.isub, 1) := by decide +kernel
theorem dX8_comesDue_42 : decode cX8_comesDue 42 = .ok (.iastore, 1) := by decide +kernel
theorem dX8_comesDue_43 : decode cX8_comesDue 43 = .ok (.iconst 1, 1) := by decide +kernel
theorem dX8_comesDue_44 : decode cX8_comesDue 44 = .ok (.ireturn, 1) := by decide +kernel
theorem dX8_debitedBy_0 : decode cX8_debitedBy 0 = .ok (.aload_n 0, 1) := by decide +kernel
theorem dX8_debitedBy_1 : decode cX8_debitedBy 1 = .ok (.getfield 9, 3) := by decide +kernel
theorem dX8_debitedBy_4 : decode cX8_debitedBy 4 = .ok (.iload_n 1, 1) := by decide +kernel
theorem dX8_debitedBy_5 : decode cX8_debitedBy 5 = .ok (.iaload, 1) := by decide +kernel
theorem dX8_debitedBy_6 : decode cX8_debitedBy 6 = .ok (.ireturn, 1) := by decide +kernel
theorem dX8_creditedBy_0 : decode cX8_creditedBy 0 = .ok (.aload_n 0, 1) := by decide +kernel
theorem dX8_creditedBy_1 : decode cX8_creditedBy 1 = .ok (.getfield 15, 3) := by decide +kernel
theorem dX8_creditedBy_4 : decode cX8_creditedBy 4 = .ok (.iload_n 1, 1) := by decide +kernel
theorem dX8_creditedBy_5 : decode cX8_creditedBy 5 = .ok (.iaload, 1) := by decide +kernel
theorem dX8_creditedBy_6 : decode cX8_creditedBy 6 = .ok (.ireturn, 1) := by decide +kernel
theorem dX8_amountIn_0 : decode cX8_amountIn 0 = .ok (.aload_n 0, 1) := by decide +kernel
theorem dX8_amountIn_1 : decode cX8_amountIn 1 = .ok (.getfield 18, 3) := by decide +kernel
theorem dX8_amountIn_4 : decode cX8_amountIn 4 = .ok (.iload_n 1, 1) := by decide +kernel
theorem dX8_amountIn_5 : decode cX8_amountIn 5 = .ok (.iaload, 1) := by decide +kernel
theorem dX8_amountIn_6 : decode cX8_amountIn 6 = .ok (.ireturn, 1) := by decide +kernel
theorem dX8_hoursLeftOf_0 : decode cX8_hoursLeftOf 0 = .ok (.aload_n 0, 1) := by decide +kernel
theorem dX8_hoursLeftOf_1 : decode cX8_hoursLeftOf 1 = .ok (.getfield 24, 3) := by decide +kernel
theorem dX8_hoursLeftOf_4 : decode cX8_hoursLeftOf 4 = .ok (.iload_n 1, 1) := by decide +kernel
theorem dX8_hoursLeftOf_5 : decode cX8_hoursLeftOf 5 = .ok (.iaload, 1) := by decide +kernel
theorem dX8_hoursLeftOf_6 : decode cX8_hoursLeftOf 6 = .ok (.ireturn, 1) := by decide +kernel
theorem dX8_timesLeftOf_0 : decode cX8_timesLeftOf 0 = .ok (.aload_n 0, 1) := by decide +kernel
theorem dX8_timesLeftOf_1 : decode cX8_timesLeftOf 1 = .ok (.getfield 27, 3) := by decide +kernel
theorem dX8_timesLeftOf_4 : decode cX8_timesLeftOf 4 = .ok (.iload_n 1, 1) := by decide +kernel
theorem dX8_timesLeftOf_5 : decode cX8_timesLeftOf 5 = .ok (.iaload, 1) := by decide +kernel
theorem dX8_timesLeftOf_6 : decode cX8_timesLeftOf 6 = .ok (.ireturn, 1) := by decide +kernel
theorem dX8_netDebits_0 : decode cX8_netDebits 0 = .ok (.lconst 0, 1) := by decide +kernel
theorem dX8_netDebits_1 : decode cX8_netDebits 1 = .ok (.lstore_n 3, 1) := by decide +kernel
theorem dX8_netDebits_2 : decode cX8_netDebits 2 = .ok (.iconst 0, 1) := by decide +kernel
theorem dX8_netDebits_3 : decode cX8_netDebits 3 = .ok (.istore 5, 2) := by decide +kernel
theorem dX8_netDebits_5 : decode cX8_netDebits 5 = .ok (.iload 5, 2) := by decide +kernel
theorem dX8_netDebits_7 : decode cX8_netDebits 7 = .ok (.aload_n 0, 1) := by decide +kernel
theorem dX8_netDebits_8 : decode cX8_netDebits 8 = .ok (.getfield 36, 3) := by decide +kernel
theorem dX8_netDebits_11 : decode cX8_netDebits 11 = .ok (.if_icmp .ge 60, 3) := by decide +kernel
theorem dX8_netDebits_14 : decode cX8_netDebits 14 = .ok (.aload_n 0, 1) := by decide +kernel
theorem dX8_netDebits_15 : decode cX8_netDebits 15 = .ok (.getfield 18, 3) := by decide +kernel
theorem dX8_netDebits_18 : decode cX8_netDebits 18 = .ok (.iload 5, 2) := by decide +kernel
theorem dX8_netDebits_20 : decode cX8_netDebits 20 = .ok (.iaload, 1) := by decide +kernel
theorem dX8_netDebits_21 : decode cX8_netDebits 21 = .ok (.i2l, 1) := by decide +kernel
theorem dX8_netDebits_22 : decode cX8_netDebits 22 = .ok (.aload_n 0, 1) := by decide +kernel
theorem dX8_netDebits_23 : decode cX8_netDebits 23 = .ok (.iload 5, 2) := by decide +kernel
theorem dX8_netDebits_25 : decode cX8_netDebits 25 = .ok (.iload_n 2, 1) := by decide +kernel
theorem dX8_netDebits_26 : decode cX8_netDebits 26 = .ok (.invokevirtual 63, 3) := by decide +kernel
theorem dX8_netDebits_29 : decode cX8_netDebits 29 = .ok (.i2l, 1) := by decide +kernel
theorem dX8_netDebits_30 : decode cX8_netDebits 30 = .ok (.lmul, 1) := by decide +kernel
theorem dX8_netDebits_31 : decode cX8_netDebits 31 = .ok (.lstore 6, 2) := by decide +kernel
theorem dX8_netDebits_33 : decode cX8_netDebits 33 = .ok (.aload_n 0, 1) := by decide +kernel
theorem dX8_netDebits_34 : decode cX8_netDebits 34 = .ok (.getfield 9, 3) := by decide +kernel
theorem dX8_netDebits_37 : decode cX8_netDebits 37 = .ok (.iload 5, 2) := by decide +kernel
theorem dX8_netDebits_39 : decode cX8_netDebits 39 = .ok (.iaload, 1) := by decide +kernel
theorem dX8_netDebits_40 : decode cX8_netDebits 40 = .ok (.iload_n 1, 1) := by decide +kernel
theorem dX8_netDebits_41 : decode cX8_netDebits 41 = .ok (.if_icmp .ne 8, 3) := by decide +kernel
theorem dX8_netDebits_44 : decode cX8_netDebits 44 = .ok (.lload_n 3, 1) := by decide +kernel
theorem dX8_netDebits_45 : decode cX8_netDebits 45 = .ok (.lload 6, 2) := by decide +kernel
theorem dX8_netDebits_47 : decode cX8_netDebits 47 = .ok (.ladd, 1) := by decide +kernel
theorem dX8_netDebits_48 : decode cX8_netDebits 48 = .ok (.lstore_n 3, 1) := by decide +kernel
theorem dX8_netDebits_49 : decode cX8_netDebits 49 = .ok (.aload_n 0, 1) := by decide +kernel
theorem dX8_netDebits_50 : decode cX8_netDebits 50 = .ok (.getfield 15, 3) := by decide +kernel
theorem dX8_netDebits_53 : decode cX8_netDebits 53 = .ok (.iload 5, 2) := by decide +kernel
theorem dX8_netDebits_55 : decode cX8_netDebits 55 = .ok (.iaload, 1) := by decide +kernel
theorem dX8_netDebits_56 : decode cX8_netDebits 56 = .ok (.iload_n 1, 1) := by decide +kernel
theorem dX8_netDebits_57 : decode cX8_netDebits 57 = .ok (.if_icmp .ne 8, 3) := by decide +kernel
theorem dX8_netDebits_60 : decode cX8_netDebits 60 = .ok (.lload_n 3, 1) := by decide +kernel
theorem dX8_netDebits_61 : decode cX8_netDebits 61 = .ok (.lload 6, 2) := by decide +kernel
theorem dX8_netDebits_63 : decode cX8_netDebits 63 = .ok (.lsub, 1) := by decide +kernel
theorem dX8_netDebits_64 : decode cX8_netDebits 64 = .ok (.lstore_n 3, 1) := by decide +kernel
theorem dX8_netDebits_65 : decode cX8_netDebits 65 = .ok (.iinc 5 1, 3) := by decide +kernel
theorem dX8_netDebits_68 : decode cX8_netDebits 68 = .ok (.goto (-63), 3) := by decide +kernel
theorem dX8_netDebits_71 : decode cX8_netDebits 71 = .ok (.lload_n 3, 1) := by decide +kernel
theorem dX8_netDebits_72 : decode cX8_netDebits 72 = .ok (.lreturn, 1) := by decide +kernel
theorem dX8_timesWithin_0 : decode cX8_timesWithin 0 = .ok (.iconst 0, 1) := by decide +kernel
theorem dX8_timesWithin_1 : decode cX8_timesWithin 1 = .ok (.istore_n 3, 1) := by decide +kernel
theorem dX8_timesWithin_2 : decode cX8_timesWithin 2 = .ok (.aload_n 0, 1) := by decide +kernel
theorem dX8_timesWithin_3 : decode cX8_timesWithin 3 = .ok (.getfield 24, 3) := by decide +kernel
theorem dX8_timesWithin_6 : decode cX8_timesWithin 6 = .ok (.iload_n 1, 1) := by decide +kernel
theorem dX8_timesWithin_7 : decode cX8_timesWithin 7 = .ok (.iaload, 1) := by decide +kernel
theorem dX8_timesWithin_8 : decode cX8_timesWithin 8 = .ok (.istore 4, 2) := by decide +kernel
theorem dX8_timesWithin_10 : decode cX8_timesWithin 10 = .ok (.iload_n 3, 1) := by decide +kernel
theorem dX8_timesWithin_11 : decode cX8_timesWithin 11 = .ok (.aload_n 0, 1) := by decide +kernel
theorem dX8_timesWithin_12 : decode cX8_timesWithin 12 = .ok (.getfield 27, 3) := by decide +kernel
theorem dX8_timesWithin_15 : decode cX8_timesWithin 15 = .ok (.iload_n 1, 1) := by decide +kernel
theorem dX8_timesWithin_16 : decode cX8_timesWithin 16 = .ok (.iaload, 1) := by decide +kernel
theorem dX8_timesWithin_17 : decode cX8_timesWithin 17 = .ok (.if_icmp .ge 26, 3) := by decide +kernel
theorem dX8_timesWithin_20 : decode cX8_timesWithin 20 = .ok (.iload 4, 2) := by decide +kernel
theorem dX8_timesWithin_22 : decode cX8_timesWithin 22 = .ok (.iload_n 2, 1) := by decide +kernel
theorem dX8_timesWithin_23 : decode cX8_timesWithin 23 = .ok (.if_icmp .gt 20, 3) := by decide +kernel
theorem dX8_timesWithin_26 : decode cX8_timesWithin 26 = .ok (.iinc 3 1, 3) := by decide +kernel
theorem dX8_timesWithin_29 : decode cX8_timesWithin 29 = .ok (.iload 4, 2) := by decide +kernel
theorem dX8_timesWithin_31 : decode cX8_timesWithin 31 = .ok (.aload_n 0, 1) := by decide +kernel
theorem dX8_timesWithin_32 : decode cX8_timesWithin 32 = .ok (.getfield 21, 3) := by decide +kernel
theorem dX8_timesWithin_35 : decode cX8_timesWithin 35 = .ok (.iload_n 1, 1) := by decide +kernel
theorem dX8_timesWithin_36 : decode cX8_timesWithin 36 = .ok (.iaload, 1) := by decide +kernel
theorem dX8_timesWithin_37 : decode cX8_timesWithin 37 = .ok (.iadd, 1) := by decide +kernel
theorem dX8_timesWithin_38 : decode cX8_timesWithin 38 = .ok (.istore 4, 2) := by decide +kernel
theorem dX8_timesWithin_40 : decode cX8_timesWithin 40 = .ok (.goto (-30), 3) := by decide +kernel
theorem dX8_timesWithin_43 : decode cX8_timesWithin 43 = .ok (.iload_n 3, 1) := by decide +kernel
theorem dX8_timesWithin_44 : decode cX8_timesWithin 44 = .ok (.ireturn, 1) := by decide +kernel
theorem dX9_init_0 : decode cX9_init 0 = .ok (.aload_n 0, 1) := by decide +kernel
theorem dX9_init_1 : decode cX9_init 1 = .ok (.invokespecial 3, 3) := by decide +kernel
theorem dX9_init_4 : decode cX9_init 4 = .ok (.aload_n 0, 1) := by decide +kernel
theorem dX9_init_5 : decode cX9_init 5 = .ok (.bipush 60, 2) := by decide +kernel
theorem dX9_init_7 : decode cX9_init 7 = .ok (.newarray .char, 2) := by decide +kernel
theorem dX9_init_9 : decode cX9_init 9 = .ok (.putfield 9, 3) := by decide +kernel
theorem dX9_init_12 : decode cX9_init 12 = .ok (.aload_n 0, 1) := by decide +kernel
theorem dX9_init_13 : decode cX9_init 13 = .ok (.bipush 12, 2) := by decide +kernel
theorem dX9_init_15 : decode cX9_init 15 = .ok (.anewarray 15, 3) := by decide +kernel
theorem dX9_init_18 : decode cX9_init 18 = .ok (.putfield 17, 3) := by decide +kernel
theorem dX9_init_21 : decode cX9_init 21 = .ok (.aload_n 0, 1) := by decide +kernel
theorem dX9_init_22 : decode cX9_init 22 = .ok (.bipush 36, 2) := by decide +kernel
theorem dX9_init_24 : decode cX9_init 24 = .ok (.newarray .int, 2) := by decide +kernel
theorem dX9_init_26 : decode cX9_init 26 = .ok (.putfield 21, 3) := by decide +kernel
theorem dX9_init_29 : decode cX9_init 29 = .ok (.return_, 1) := by decide +kernel
theorem dX9_append_0 : decode cX9_append 0 = .ok (.aload_n 0, 1) := by decide +kernel
theorem dX9_append_1 : decode cX9_append 1 = .ok (.getfield 25, 3) := by decide +kernel
theorem dX9_append_4 : decode cX9_append 4 = .ok (.bipush 60, 2) := by decide +kernel
theorem dX9_append_6 : decode cX9_append 6 = .ok (.if_icmp .ge 23, 3) := by decide +kernel
theorem dX9_append_9 : decode cX9_append 9 = .ok (.aload_n 0, 1) := by decide +kernel
theorem dX9_append_10 : decode cX9_append 10 = .ok (.getfield 9, 3) := by decide +kernel
theorem dX9_append_13 : decode cX9_append 13 = .ok (.aload_n 0, 1) := by decide +kernel
theorem dX9_append_14 : decode cX9_append 14 = .ok (.getfield 25, 3) := by decide +kernel
theorem dX9_append_17 : decode cX9_append 17 = .ok (.iload_n 1, 1) := by decide +kernel
theorem dX9_append_18 : decode cX9_append 18 = .ok (.castore, 1) := by decide +kernel
theorem dX9_append_19 : decode cX9_append 19 = .ok (.aload_n 0, 1) := by decide +kernel
theorem dX9_append_20 : decode cX9_append 20 = .ok (.dup, 1) := by decide +kernel
theorem dX9_append_21 : decode cX9_append 21 = .ok (.getfield 25, 3) := by decide +kernel
theorem dX9_append_24 : decode cX9_append 24 = .ok (.iconst 1, 1) := by decide +kernel
theorem dX9_append_25 : decode cX9_append 25 = .ok (.iadd, 1) := by decide +kernel
theorem dX9_append_26 : decode cX9_append 26 = .ok (.putfield 25, 3) := by decide +kernel
theorem dX9_append_29 : decode cX9_append 29 = .ok (.aload_n 0, 1) := by decide +kernel
theorem dX9_append_30 : decode cX9_append 30 = .ok (.getfield 25, 3) := by decide +kernel
theorem dX9_append_33 : decode cX9_append 33 = .ok (.ireturn, 1) := by decide +kernel
theorem dX9_verbAt_0 : decode cX9_verbAt 0 = .ok (.aload_n 0, 1) := by decide +kernel
theorem dX9_verbAt_1 : decode cX9_verbAt 1 = .ok (.getfield 17, 3) := by decide +kernel
theorem dX9_verbAt_4 : decode cX9_verbAt 4 = .ok (.iload_n 1, 1) := by decide +kernel
theorem dX9_verbAt_5 : decode cX9_verbAt 5 = .ok (.aaload, 1) := by decide +kernel
theorem dX9_verbAt_6 : decode cX9_verbAt 6 = .ok (.areturn, 1) := by decide +kernel
theorem dX9_valueAt_0 : decode cX9_valueAt 0 = .ok (.aload_n 0, 1) := by decide +kernel
theorem dX9_valueAt_1 : decode cX9_valueAt 1 = .ok (.getfield 21, 3) := by decide +kernel
theorem dX9_valueAt_4 : decode cX9_valueAt 4 = .ok (.iload_n 1, 1) := by decide +kernel
theorem dX9_valueAt_5 : decode cX9_valueAt 5 = .ok (.iconst 3, 1) := by decide +kernel
theorem dX9_valueAt_6 : decode cX9_valueAt 6 = .ok (.imul, 1) := by decide +kernel
theorem dX9_valueAt_7 : decode cX9_valueAt 7 = .ok (.iload_n 2, 1) := by decide +kernel
theorem dX9_valueAt_8 : decode cX9_valueAt 8 = .ok (.iadd, 1) := by decide +kernel
theorem dX9_valueAt_9 : decode cX9_valueAt 9 = .ok (.iaload, 1) := by decide +kernel
theorem dX9_valueAt_10 : decode cX9_valueAt 10 = .ok (.ireturn, 1) := by decide +kernel
theorem dX9_read_0 : decode cX9_read 0 = .ok (.aload_n 0, 1) := by decide +kernel
theorem dX9_read_1 : decode cX9_read 1 = .ok (.iconst 0, 1) := by decide +kernel
theorem dX9_read_2 : decode cX9_read 2 = .ok (.putfield 29, 3) := by decide +kernel
theorem dX9_read_5 : decode cX9_read 5 = .ok (.aload_n 0, 1) := by decide +kernel
theorem dX9_read_6 : decode cX9_read 6 = .ok (.iconst 0, 1) := by decide +kernel
theorem dX9_read_7 : decode cX9_read 7 = .ok (.putfield 32, 3) := by decide +kernel
theorem dX9_read_10 : decode cX9_read 10 = .ok (.aload_n 0, 1) := by decide +kernel
theorem dX9_read_11 : decode cX9_read 11 = .ok (.invokevirtual 35, 3) := by decide +kernel
theorem dX9_read_14 : decode cX9_read 14 = .ok (.istore_n 1, 1) := by decide +kernel
theorem dX9_read_15 : decode cX9_read 15 = .ok (.iconst 1, 1) := by decide +kernel
theorem dX9_read_16 : decode cX9_read 16 = .ok (.istore_n 2, 1) := by decide +kernel
theorem dX9_read_17 : decode cX9_read 17 = .ok (.iload_n 2, 1) := by decide +kernel
theorem dX9_read_18 : decode cX9_read 18 = .ok (.bipush 12, 2) := by decide +kernel
theorem dX9_read_20 : decode cX9_read 20 = .ok (.if_icmp .gt 37, 3) := by decide +kernel
theorem dX9_read_23 : decode cX9_read 23 = .ok (.iload_n 1, 1) := by decide +kernel
theorem dX9_read_24 : decode cX9_read 24 = .ok (.ifCond .eq 33, 3) := by decide +kernel
theorem dX9_read_27 : decode cX9_read 27 = .ok (.aload_n 0, 1) := by decide +kernel
theorem dX9_read_28 : decode cX9_read 28 = .ok (.bipush 59, 2) := by decide +kernel
theorem dX9_read_30 : decode cX9_read 30 = .ok (.invokevirtual 39, 3) := by decide +kernel
theorem dX9_read_33 : decode cX9_read 33 = .ok (.ifCond .eq 24, 3) := by decide +kernel
theorem dX9_read_36 : decode cX9_read 36 = .ok (.aload_n 0, 1) := by decide +kernel
theorem dX9_read_37 : decode cX9_read 37 = .ok (.dup, 1) := by decide +kernel
theorem dX9_read_38 : decode cX9_read 38 = .ok (.getfield 29, 3) := by decide +kernel
theorem dX9_read_41 : decode cX9_read 41 = .ok (.iconst 1, 1) := by decide +kernel
theorem dX9_read_42 : decode cX9_read 42 = .ok (.iadd, 1) := by decide +kernel
theorem dX9_read_43 : decode cX9_read 43 = .ok (.putfield 29, 3) := by decide +kernel
theorem dX9_read_46 : decode cX9_read 46 = .ok (.aload_n 0, 1) := by decide +kernel
theorem dX9_read_47 : decode cX9_read 47 = .ok (.invokevirtual 35, 3) := by decide +kernel
theorem dX9_read_50 : decode cX9_read 50 = .ok (.istore_n 1, 1) := by decide +kernel
theorem dX9_read_51 : decode cX9_read 51 = .ok (.iinc 2 1, 3) := by decide +kernel
theorem dX9_read_54 : decode cX9_read 54 = .ok (.goto (-37), 3) := by decide +kernel
theorem dX9_read_57 : decode cX9_read 57 = .ok (.iload_n 1, 1) := by decide +kernel
theorem dX9_read_58 : decode cX9_read 58 = .ok (.ifCond .eq 18, 3) := by decide +kernel
theorem dX9_read_61 : decode cX9_read 61 = .ok (.aload_n 0, 1) := by decide +kernel
theorem dX9_read_62 : decode cX9_read 62 = .ok (.getfield 29, 3) := by decide +kernel
theorem dX9_read_65 : decode cX9_read 65 = .ok (.aload_n 0, 1) := by decide +kernel
theorem dX9_read_66 : decode cX9_read 66 = .ok (.getfield 25, 3) := by decide +kernel
theorem dX9_read_69 : decode cX9_read 69 = .ok (.if_icmp .ne 7, 3) := by decide +kernel
theorem dX9_read_72 : decode cX9_read 72 = .ok (.iconst 1, 1) := by decide +kernel
theorem dX9_read_73 : decode cX9_read 73 = .ok (.goto 4, 3) := by decide +kernel
theorem dX9_read_76 : decode cX9_read 76 = .ok (.iconst 0, 1) := by decide +kernel
theorem dX9_read_77 : decode cX9_read 77 = .ok (.ireturn, 1) := by decide +kernel
theorem dX9_isNext_0 : decode cX9_isNext 0 = .ok (.aload_n 0, 1) := by decide +kernel
theorem dX9_isNext_1 : decode cX9_isNext 1 = .ok (.getfield 29, 3) := by decide +kernel
theorem dX9_isNext_4 : decode cX9_isNext 4 = .ok (.aload_n 0, 1) := by decide +kernel
theorem dX9_isNext_5 : decode cX9_isNext 5 = .ok (.getfield 25, 3) := by decide +kernel
theorem dX9_isNext_8 : decode cX9_isNext 8 = .ok (.if_icmp .ge 20, 3) := by decide +kernel
theorem dX9_isNext_11 : decode cX9_isNext 11 = .ok (.aload_n 0, 1) := by decide +kernel
theorem dX9_isNext_12 : decode cX9_isNext 12 = .ok (.getfield 9, 3) := by decide +kernel
theorem dX9_isNext_15 : decode cX9_isNext 15 = .ok (.aload_n 0, 1) := by decide +kernel
theorem dX9_isNext_16 : decode cX9_isNext 16 = .ok (.getfield 29, 3) := by decide +kernel
theorem dX9_isNext_19 : decode cX9_isNext 19 = .ok (.caload, 1) := by decide +kernel
theorem dX9_isNext_20 : decode cX9_isNext 20 = .ok (.iload_n 1, 1) := by decide +kernel
theorem dX9_isNext_21 : decode cX9_isNext 21 = .ok (.if_icmp .ne 7, 3) := by decide +kernel
theorem dX9_isNext_24 : decode cX9_isNext 24 = .ok (.iconst 1, 1) := by decide +kernel
theorem dX9_isNext_25 : decode cX9_isNext 25 = .ok (.goto 4, 3) := by decide +kernel
theorem dX9_isNext_28 : decode cX9_isNext 28 = .ok (.iconst 0, 1) := by decide +kernel
theorem dX9_isNext_29 : decode cX9_isNext 29 = .ok (.ireturn, 1) := by decide +kernel
theorem dX9_readCommand_0 : decode cX9_readCommand 0 = .ok (.aload_n 0, 1) := by decide +kernel
theorem dX9_readCommand_1 : decode cX9_readCommand 1 = .ok (.invokevirtual 43, 3) := by decide +kernel
theorem dX9_readCommand_4 : decode cX9_readCommand 4 = .ok (.astore_n 1, 1) := by decide +kernel
theorem dX9_readCommand_5 : decode cX9_readCommand 5 = .ok (.aload_n 1, 1) := by decide +kernel
theorem dX9_readCommand_6 : decode cX9_readCommand 6 = .ok (.ifnull 12, 3) := by decide +kernel
theorem dX9_readCommand_9 : decode cX9_readCommand 9 = .ok (.aload_n 0, 1) := by decide +kernel
theorem dX9_readCommand_10 : decode cX9_readCommand 10 = .ok (.getfield 32, 3) := by decide +kernel
theorem dX9_readCommand_13 : decode cX9_readCommand 13 = .ok (.bipush 12, 2) := by decide +kernel
theorem dX9_readCommand_15 : decode cX9_readCommand 15 = .ok (.if_icmp .lt 5, 3) := by decide +kernel
theorem dX9_readCommand_18 : decode cX9_readCommand 18 = .ok (.iconst 0, 1) := by decide +kernel
theorem dX9_readCommand_19 : decode cX9_readCommand 19 = .ok (.ireturn, 1) := by decide +kernel
theorem dX9_readCommand_20 : decode cX9_readCommand 20 = .ok (.aload_n 0, 1) := by decide +kernel
theorem dX9_readCommand_21 : decode cX9_readCommand 21 = .ok (.getfield 17, 3) := by decide +kernel
theorem dX9_readCommand_24 : decode cX9_readCommand 24 = .ok (.aload_n 0, 1) := by decide +kernel
theorem dX9_readCommand_25 : decode cX9_readCommand 25 = .ok (.getfield 32, 3) := by decide +kernel
theorem dX9_readCommand_28 : decode cX9_readCommand 28 = .ok (.aload_n 1, 1) := by decide +kernel
theorem dX9_readCommand_29 : decode cX9_readCommand 29 = .ok (.aastore, 1) := by decide +kernel
theorem dX9_readCommand_30 : decode cX9_readCommand 30 = .ok (.iconst 0, 1) := by decide +kernel
theorem dX9_readCommand_31 : decode cX9_readCommand 31 = .ok (.istore_n 2, 1) := by decide +kernel
theorem dX9_readCommand_32 : decode cX9_readCommand 32 = .ok (.iload_n 2, 1) := by decide +kernel
theorem dX9_readCommand_33 : decode cX9_readCommand 33 = .ok (.iconst 3, 1) := by decide +kernel
theorem dX9_readCommand_34 : decode cX9_readCommand 34 = .ok (.if_icmp .ge 23, 3) := by decide +kernel
theorem dX9_readCommand_37 : decode cX9_readCommand 37 = .ok (.aload_n 0, 1) := by decide +kernel
theorem dX9_readCommand_38 : decode cX9_readCommand 38 = .ok (.getfield 21, 3) := by decide +kernel
theorem dX9_readCommand_41 : decode cX9_readCommand 41 = .ok (.aload_n 0, 1) := by decide +kernel
theorem dX9_readCommand_42 : decode cX9_readCommand 42 = .ok (.getfield 32, 3) := by decide +kernel
theorem dX9_readCommand_45 : decode cX9_readCommand 45 = .ok (.iconst 3, 1) := by decide +kernel
theorem dX9_readCommand_46 : decode cX9_readCommand 46 = .ok (.imul, 1) := by decide +kernel
theorem dX9_readCommand_47 : decode cX9_readCommand 47 = .ok (.iload_n 2, 1) := by decide +kernel
theorem dX9_readCommand_48 : decode cX9_readCommand 48 = .ok (.iadd, 1) := by decide +kernel
theorem dX9_readCommand_49 : decode cX9_readCommand 49 = .ok (.iconst (-1), 1) := by decide +kernel
theorem dX9_readCommand_50 : decode cX9_readCommand 50 = .ok (.iastore, 1) := by decide +kernel
theorem dX9_readCommand_51 : decode cX9_readCommand 51 = .ok (.iinc 2 1, 3) := by decide +kernel
theorem dX9_readCommand_54 : decode cX9_readCommand 54 = .ok (.goto (-22), 3) := by decide +kernel
theorem dX9_readCommand_57 : decode cX9_readCommand 57 = .ok (.aload_n 0, 1) := by decide +kernel
theorem dX9_readCommand_58 : decode cX9_readCommand 58 = .ok (.aload_n 1, 1) := by decide +kernel
theorem dX9_readCommand_59 : decode cX9_readCommand 59 = .ok (.getfield 47, 3) := by decide +kernel
theorem dX9_readCommand_62 : decode cX9_readCommand 62 = .ok (.invokevirtual 51, 3) := by decide +kernel
theorem dX9_readCommand_65 : decode cX9_readCommand 65 = .ok (.istore_n 2, 1) := by decide +kernel
theorem dX9_readCommand_66 : decode cX9_readCommand 66 = .ok (.aload_n 0, 1) := by decide +kernel
theorem dX9_readCommand_67 : decode cX9_readCommand 67 = .ok (.dup, 1) := by decide +kernel
theorem dX9_readCommand_68 : decode cX9_readCommand 68 = .ok (.getfield 32, 3) := by decide +kernel
theorem dX9_readCommand_71 : decode cX9_readCommand 71 = .ok (.iconst 1, 1) := by decide +kernel
theorem dX9_readCommand_72 : decode cX9_readCommand 72 = .ok (.iadd, 1) := by decide +kernel
theorem dX9_readCommand_73 : decode cX9_readCommand 73 = .ok (.putfield 32, 3) := by decide +kernel
theorem dX9_readCommand_76 : decode cX9_readCommand 76 = .ok (.iload_n 2, 1) := by decide +kernel
theorem dX9_readCommand_77 : decode cX9_readCommand 77 = .ok (.ireturn, 1) := by decide +kernel
theorem dX9_readWord_0 : decode cX9_readWord 0 = .ok (.iconst 0, 1) := by decide +kernel
theorem dX9_readWord_1 : decode cX9_readWord 1 = .ok (.istore_n 1, 1) := by decide +kernel
theorem dX9_readWord_2 : decode cX9_readWord 2 = .ok (.iconst 0, 1) := by decide +kernel
theorem dX9_readWord_3 : decode cX9_readWord 3 = .ok (.istore_n 2, 1) := by decide +kernel
theorem dX9_readWord_4 : decode cX9_readWord 4 = .ok (.iload_n 2, 1) := by decide +kernel
theorem dX9_readWord_5 : decode cX9_readWord 5 = .ok (.getstatic 55, 3) := by decide +kernel
theorem dX9_readWord_8 : decode cX9_readWord 8 = .ok (.arraylength, 1) := by decide +kernel
theorem dX9_readWord_9 : decode cX9_readWord 9 = .ok (.if_icmp .ge 57, 3) := by decide +kernel
theorem dX9_readWord_12 : decode cX9_readWord 12 = .ok (.getstatic 55, 3) := by decide +kernel
theorem dX9_readWord_15 : decode cX9_readWord 15 = .ok (.iload_n 2, 1) := by decide +kernel
theorem dX9_readWord_16 : decode cX9_readWord 16 = .ok (.aaload, 1) := by decide +kernel
theorem dX9_readWord_17 : decode cX9_readWord 17 = .ok (.astore_n 3, 1) := by decide +kernel
theorem dX9_readWord_18 : decode cX9_readWord 18 = .ok (.aload_n 0, 1) := by decide +kernel
theorem dX9_readWord_19 : decode cX9_readWord 19 = .ok (.aload_n 3, 1) := by decide +kernel
theorem dX9_readWord_20 : decode cX9_readWord 20 = .ok (.getfield 58, 3) := by decide +kernel
theorem dX9_readWord_23 : decode cX9_readWord 23 = .ok (.invokevirtual 61, 3) := by decide +kernel
theorem dX9_readWord_26 : decode cX9_readWord 26 = .ok (.istore 4, 2) := by decide +kernel
theorem dX9_readWord_28 : decode cX9_readWord 28 = .ok (.iload 4, 2) := by decide +kernel
theorem dX9_readWord_30 : decode cX9_readWord 30 = .ok (.aload_n 3, 1) := by decide +kernel
theorem dX9_readWord_31 : decode cX9_readWord 31 = .ok (.getfield 58, 3) := by decide +kernel
theorem dX9_readWord_34 : decode cX9_readWord 34 = .ok (.invokevirtual 65, 3) := by decide +kernel
theorem dX9_readWord_37 : decode cX9_readWord 37 = .ok (.if_icmp .ne 16, 3) := by decide +kernel
theorem dX9_readWord_40 : decode cX9_readWord 40 = .ok (.aload_n 0, 1) := by decide +kernel
theorem dX9_readWord_41 : decode cX9_readWord 41 = .ok (.dup, 1) := by decide +kernel
theorem dX9_readWord_42 : decode cX9_readWord 42 = .ok (.getfield 29, 3) := by decide +kernel
theorem dX9_readWord_45 : decode cX9_readWord 45 = .ok (.iload 4, 2) := by decide +kernel
theorem dX9_readWord_47 : decode cX9_readWord 47 = .ok (.iadd, 1) := by decide +kernel
theorem dX9_readWord_48 : decode cX9_readWord 48 = .ok (.putfield 29, 3) := by decide +kernel
theorem dX9_readWord_51 : decode cX9_readWord 51 = .ok (.aload_n 3, 1) := by decide +kernel
theorem dX9_readWord_52 : decode cX9_readWord 52 = .ok (.areturn, 1) := by decide +kernel
theorem dX9_readWord_53 : decode cX9_readWord 53 = .ok (.iload_n 1, 1) := by decide +kernel
theorem dX9_readWord_54 : decode cX9_readWord 54 = .ok (.iload 4, 2) := by decide +kernel
theorem dX9_readWord_56 : decode cX9_readWord 56 = .ok (.invokestatic 70, 3) := by decide +kernel
theorem dX9_readWord_59 : decode cX9_readWord 59 = .ok (.istore_n 1, 1) := by decide +kernel
theorem dX9_readWord_60 : decode cX9_readWord 60 = .ok (.iinc 2 1, 3) := by decide +kernel
theorem dX9_readWord_63 : decode cX9_readWord 63 = .ok (.goto (-59), 3) := by decide +kernel
theorem dX9_readWord_66 : decode cX9_readWord 66 = .ok (.aload_n 0, 1) := by decide +kernel
theorem dX9_readWord_67 : decode cX9_readWord 67 = .ok (.dup, 1) := by decide +kernel
theorem dX9_readWord_68 : decode cX9_readWord 68 = .ok (.getfield 29, 3) := by decide +kernel
theorem dX9_readWord_71 : decode cX9_readWord 71 = .ok (.iload_n 1, 1) := by decide +kernel
theorem dX9_readWord_72 : decode cX9_readWord 72 = .ok (.iadd, 1) := by decide +kernel
theorem dX9_readWord_73 : decode cX9_readWord 73 = .ok (.putfield 29, 3) := by decide +kernel
theorem dX9_readWord_76 : decode cX9_readWord 76 = .ok (.aconst_null, 1) := by decide +kernel
theorem dX9_readWord_77 : decode cX9_readWord 77 = .ok (.areturn, 1) := by decide +kernel
theorem dX9_sharedLetters_0 : decode cX9_sharedLetters 0 = .ok (.iconst 0, 1) := by decide +kernel
theorem dX9_sharedLetters_1 : decode cX9_sharedLetters 1 = .ok (.istore_n 2, 1) := by decide +kernel
theorem dX9_sharedLetters_2 : decode cX9_sharedLetters 2 = .ok (.iload_n 2, 1) := by decide +kernel
theorem dX9_sharedLetters_3 : decode cX9_sharedLetters 3 = .ok (.aload_n 1, 1) := by decide +kernel
theorem dX9_sharedLetters_4 : decode cX9_sharedLetters 4 = .ok (.invokevirtual 65, 3) := by decide +kernel
theorem dX9_sharedLetters_7 : decode cX9_sharedLetters 7 = .ok (.if_icmp .ge 41, 3) := by decide +kernel
theorem dX9_sharedLetters_10 : decode cX9_sharedLetters 10 = .ok (.aload_n 0, 1) := by decide +kernel
theorem dX9_sharedLetters_11 : decode cX9_sharedLetters 11 = .ok (.getfield 29, 3) := by decide +kernel
theorem dX9_sharedLetters_14 : decode cX9_sharedLetters 14 = .ok (.iload_n 2, 1) := by decide +kernel
theorem dX9_sharedLetters_15 : decode cX9_sharedLetters 15 = .ok (.iadd, 1) := by decide +kernel
theorem dX9_sharedLetters_16 : decode cX9_sharedLetters 16 = .ok (.aload_n 0, 1) := by decide +kernel
theorem dX9_sharedLetters_17 : decode cX9_sharedLetters 17 = .ok (.getfield 25, 3) := by decide +kernel
theorem dX9_sharedLetters_20 : decode cX9_sharedLetters 20 = .ok (.if_icmp .ge 28, 3) := by decide +kernel
theorem dX9_sharedLetters_23 : decode cX9_sharedLetters 23 = .ok (.aload_n 0, 1) := by decide +kernel
theorem dX9_sharedLetters_24 : decode cX9_sharedLetters 24 = .ok (.getfield 9, 3) := by decide +kernel
theorem dX9_sharedLetters_27 : decode cX9_sharedLetters 27 = .ok (.aload_n 0, 1) := by decide +kernel
theorem dX9_sharedLetters_28 : decode cX9_sharedLetters 28 = .ok (.getfield 29, 3) := by decide +kernel
theorem dX9_sharedLetters_31 : decode cX9_sharedLetters 31 = .ok (.iload_n 2, 1) := by decide +kernel
theorem dX9_sharedLetters_32 : decode cX9_sharedLetters 32 = .ok (.iadd, 1) := by decide +kernel
theorem dX9_sharedLetters_33 : decode cX9_sharedLetters 33 = .ok (.caload, 1) := by decide +kernel
theorem dX9_sharedLetters_34 : decode cX9_sharedLetters 34 = .ok (.aload_n 1, 1) := by decide +kernel
theorem dX9_sharedLetters_35 : decode cX9_sharedLetters 35 = .ok (.iload_n 2, 1) := by decide +kernel
theorem dX9_sharedLetters_36 : decode cX9_sharedLetters 36 = .ok (.invokevirtual 76, 3) := by decide +kernel
theorem dX9_sharedLetters_39 : decode cX9_sharedLetters 39 = .ok (.if_icmp .ne 9, 3) := by decide +kernel
theorem dX9_sharedLetters_42 : decode cX9_sharedLetters 42 = .ok (.iinc 2 1, 3) := by decide +kernel
theorem dX9_sharedLetters_45 : decode cX9_sharedLetters 45 = .ok (.goto (-43), 3) := by decide +kernel
theorem dX9_sharedLetters_48 : decode cX9_sharedLetters 48 = .ok (.iload_n 2, 1) := by decide +kernel
theorem dX9_sharedLetters_49 : decode cX9_sharedLetters 49 = .ok (.ireturn, 1) := by decide +kernel
theorem dX9_readParts_0 : decode cX9_readParts 0 = .ok (.iconst 0, 1) := by decide +kernel
theorem dX9_readParts_1 : decode cX9_readParts 1 = .ok (.istore_n 2, 1) := by decide +kernel
theorem dX9_readParts_2 : decode cX9_readParts 2 = .ok (.iload_n 2, 1) := by decide +kernel
theorem dX9_readParts_3 : decode cX9_readParts 3 = .ok (.aload_n 1, 1) := by decide +kernel
theorem dX9_readParts_4 : decode cX9_readParts 4 = .ok (.invokevirtual 65, 3) := by decide +kernel
theorem dX9_readParts_7 : decode cX9_readParts 7 = .ok (.if_icmp .ge 104, 3) := by decide +kernel
theorem dX9_readParts_10 : decode cX9_readParts 10 = .ok (.iload_n 2, 1) := by decide +kernel
theorem dX9_readParts_11 : decode cX9_readParts 11 = .ok (.iconst 3, 1) := by decide +kernel
theorem dX9_readParts_12 : decode cX9_readParts 12 = .ok (.if_icmp .ge 99, 3) := by decide +kernel
theorem dX9_readParts_15 : decode cX9_readParts 15 = .ok (.aload_n 1, 1) := by decide +kernel
theorem dX9_readParts_16 : decode cX9_readParts 16 = .ok (.iload_n 2, 1) := by decide +kernel
theorem dX9_readParts_17 : decode cX9_readParts 17 = .ok (.invokevirtual 76, 3) := by decide +kernel
theorem dX9_readParts_20 : decode cX9_readParts 20 = .ok (.istore_n 3, 1) := by decide +kernel
theorem dX9_readParts_21 : decode cX9_readParts 21 = .ok (.aload_n 0, 1) := by decide +kernel
theorem dX9_readParts_22 : decode cX9_readParts 22 = .ok (.bipush 32, 2) := by decide +kernel
theorem dX9_readParts_24 : decode cX9_readParts 24 = .ok (.invokevirtual 39, 3) := by decide +kernel
theorem dX9_readParts_27 : decode cX9_readParts 27 = .ok (.ifCond .ne 15, 3) := by decide +kernel
theorem dX9_readParts_30 : decode cX9_readParts 30 = .ok (.iload_n 3, 1) := by decide +kernel
theorem dX9_readParts_31 : decode cX9_readParts 31 = .ok (.bipush 68, 2) := by decide +kernel
theorem dX9_readParts_33 : decode cX9_readParts 33 = .ok (.if_icmp .ne 7, 3) := by decide +kernel
theorem dX9_readParts_36 : decode cX9_readParts 36 = .ok (.iconst 1, 1) := by decide +kernel
theorem dX9_readParts_37 : decode cX9_readParts 37 = .ok (.goto 4, 3) := by decide +kernel
theorem dX9_readParts_40 : decode cX9_readParts 40 = .ok (.iconst 0, 1) := by decide +kernel
theorem dX9_readParts_41 : decode cX9_readParts 41 = .ok (.ireturn, 1) := by decide +kernel
theorem dX9_readParts_42 : decode cX9_readParts 42 = .ok (.aload_n 0, 1) := by decide +kernel
theorem dX9_readParts_43 : decode cX9_readParts 43 = .ok (.dup, 1) := by decide +kernel
theorem dX9_readParts_44 : decode cX9_readParts 44 = .ok (.getfield 29, 3) := by decide +kernel
theorem dX9_readParts_47 : decode cX9_readParts 47 = .ok (.iconst 1, 1) := by decide +kernel
theorem dX9_readParts_48 : decode cX9_readParts 48 = .ok (.iadd, 1) := by decide +kernel
theorem dX9_readParts_49 : decode cX9_readParts 49 = .ok (.putfield 29, 3) := by decide +kernel
theorem dX9_readParts_52 : decode cX9_readParts 52 = .ok (.iload_n 3, 1) := by decide +kernel
theorem dX9_readParts_53 : decode cX9_readParts 53 = .ok (.bipush 107, 2) := by decide +kernel
theorem dX9_readParts_55 : decode cX9_readParts 55 = .ok (.if_icmp .ne 10, 3) := by decide +kernel
theorem dX9_readParts_58 : decode cX9_readParts 58 = .ok (.aload_n 0, 1) := by decide +kernel
theorem dX9_readParts_59 : decode cX9_readParts 59 = .ok (.invokevirtual 80, 3) := by decide +kernel
theorem dX9_readParts_62 : decode cX9_readParts 62 = .ok (.goto 18, 3) := by decide +kernel
theorem dX9_readParts_65 : decode cX9_readParts 65 = .ok (.aload_n 0, 1) := by decide +kernel
theorem dX9_readParts_66 : decode cX9_readParts 66 = .ok (.iload_n 3, 1) := by decide +kernel
theorem dX9_readParts_67 : decode cX9_readParts 67 = .ok (.bipush 116, 2) := by decide +kernel
theorem dX9_readParts_69 : decode cX9_readParts 69 = .ok (.if_icmp .ne 7, 3) := by decide +kernel
theorem dX9_readParts_72 : decode cX9_readParts 72 = .ok (.iconst 3, 1) := by decide +kernel
theorem dX9_readParts_73 : decode cX9_readParts 73 = .ok (.goto 4, 3) := by decide +kernel
theorem dX9_readParts_76 : decode cX9_readParts 76 = .ok (.iconst 2, 1) := by decide +kernel
theorem dX9_readParts_77 : decode cX9_readParts 77 = .ok (.invokevirtual 83, 3) := by decide +kernel
theorem dX9_readParts_80 : decode cX9_readParts 80 = .ok (.istore 4, 2) := by decide +kernel
theorem dX9_readParts_82 : decode cX9_readParts 82 = .ok (.iload 4, 2) := by decide +kernel
theorem dX9_readParts_84 : decode cX9_readParts 84 = .ok (.iconst (-1), 1) := by decide +kernel
theorem dX9_readParts_85 : decode cX9_readParts 85 = .ok (.if_icmp .ne 5, 3) := by decide +kernel
theorem dX9_readParts_88 : decode cX9_readParts 88 = .ok (.iconst 0, 1) := by decide +kernel
theorem dX9_readParts_89 : decode cX9_readParts 89 = .ok (.ireturn, 1) := by decide +kernel
theorem dX9_readParts_90 : decode cX9_readParts 90 = .ok (.aload_n 0, 1) := by decide +kernel
theorem dX9_readParts_91 : decode cX9_readParts 91 = .ok (.getfield 21, 3) := by decide +kernel
theorem dX9_readParts_94 : decode cX9_readParts 94 = .ok (.aload_n 0, 1) := by decide +kernel
theorem dX9_readParts_95 : decode cX9_readParts 95 = .ok (.getfield 32, 3) := by decide +kernel
theorem dX9_readParts_98 : decode cX9_readParts 98 = .ok (.iconst 3, 1) := by decide +kernel
theorem dX9_readParts_99 : decode cX9_readParts 99 = .ok (.imul, 1) := by decide +kernel
theorem dX9_readParts_100 : decode cX9_readParts 100 = .ok (.iload_n 2, 1) := by decide +kernel
theorem dX9_readParts_101 : decode cX9_readParts 101 = .ok (.iadd, 1) := by decide +kernel
theorem dX9_readParts_102 : decode cX9_readParts 102 = .ok (.iload 4, 2) := by decide +kernel
theorem dX9_readParts_104 : decode cX9_readParts 104 = .ok (.iastore, 1) := by decide +kernel
theorem dX9_readParts_105 : decode cX9_readParts 105 = .ok (.iinc 2 1, 3) := by decide +kernel
theorem dX9_readParts_108 : decode cX9_readParts 108 = .ok (.goto (-106), 3) := by decide +kernel
theorem dX9_readParts_111 : decode cX9_readParts 111 = .ok (.iconst 1, 1) := by decide +kernel
theorem dX9_readParts_112 : decode cX9_readParts 112 = .ok (.ireturn, 1) := by decide +kernel
theorem dX9_readKind_0 : decode cX9_readKind 0 = .ok (.aload_n 0, 1) := by decide +kernel
theorem dX9_readKind_1 : decode cX9_readKind 1 = .ok (.getfield 29, 3) := by decide +kernel
theorem dX9_readKind_4 : decode cX9_readKind 4 = .ok (.aload_n 0, 1) := by decide +kernel
theorem dX9_readKind_5 : decode cX9_readKind 5 = .ok (.getfield 25, 3) := by decide +kernel
theorem dX9_readKind_8 : decode cX9_readKind 8 = .ok (.if_icmp .ge 18, 3) := by decide +kernel
theorem dX9_readKind_11 : decode cX9_readKind 11 = .ok (.aload_n 0, 1) := by decide +kernel
theorem dX9_readKind_12 : decode cX9_readKind 12 = .ok (.getfield 9, 3) := by decide +kernel
theorem dX9_readKind_15 : decode cX9_readKind 15 = .ok (.aload_n 0, 1) := by decide +kernel
theorem dX9_readKind_16 : decode cX9_readKind 16 = .ok (.getfield 29, 3) := by decide +kernel
theorem dX9_readKind_19 : decode cX9_readKind 19 = .ok (.caload, 1) := by decide +kernel
theorem dX9_readKind_20 : decode cX9_readKind 20 = .ok (.invokestatic 87, 3) := by decide +kernel
theorem dX9_readKind_23 : decode cX9_readKind 23 = .ok (.ifCond .ne 5, 3) := by decide +kernel
theorem dX9_readKind_26 : decode cX9_readKind 26 = .ok (.iconst (-1), 1) := by decide +kernel
theorem dX9_readKind_27 : decode cX9_readKind 27 = .ok (.ireturn, 1) := by decide +kernel
theorem dX9_readKind_28 : decode cX9_readKind 28 = .ok (.aload_n 0, 1) := by decide +kernel
theorem dX9_readKind_29 : decode cX9_readKind 29 = .ok (.dup, 1) := by decide +kernel
theorem dX9_readKind_30 : decode cX9_readKind 30 = .ok (.getfield 29, 3) := by decide +kernel
theorem dX9_readKind_33 : decode cX9_readKind 33 = .ok (.iconst 1, 1) := by decide +kernel
theorem dX9_readKind_34 : decode cX9_readKind 34 = .ok (.iadd, 1) := by decide +kernel
theorem dX9_readKind_35 : decode cX9_readKind 35 = .ok (.putfield 29, 3) := by decide +kernel
theorem dX9_readKind_38 : decode cX9_readKind 38 = .ok (.aload_n 0, 1) := by decide +kernel
theorem dX9_readKind_39 : decode cX9_readKind 39 = .ok (.getfield 9, 3) := by decide +kernel
theorem dX9_readKind_42 : decode cX9_readKind 42 = .ok (.aload_n 0, 1) := by decide +kernel
theorem dX9_readKind_43 : decode cX9_readKind 43 = .ok (.getfield 29, 3) := by decide +kernel
theorem dX9_readKind_46 : decode cX9_readKind 46 = .ok (.iconst 1, 1) := by decide +kernel
theorem dX9_readKind_47 : decode cX9_readKind 47 = .ok (.isub, 1) := by decide +kernel
theorem dX9_readKind_48 : decode cX9_readKind 48 = .ok (.caload, 1) := by decide +kernel
theorem dX9_readKind_49 : decode cX9_readKind 49 = .ok (.ireturn, 1) := by decide +kernel
theorem dX9_readNumber_0 : decode cX9_readNumber 0 = .ok (.iconst (-1), 1) := by decide +kernel
theorem dX9_readNumber_1 : decode cX9_readNumber 1 = .ok (.istore_n 2, 1) := by decide +kernel
theorem dX9_readNumber_2 : decode cX9_readNumber 2 = .ok (.iconst 0, 1) := by decide +kernel
theorem dX9_readNumber_3 : decode cX9_readNumber 3 = .ok (.istore_n 3, 1) := by decide +kernel
theorem dX9_readNumber_4 : decode cX9_readNumber 4 = .ok (.iload_n 3, 1) := by decide +kernel
theorem dX9_readNumber_5 : decode cX9_readNumber 5 = .ok (.iload_n 1, 1) := by decide +kernel
theorem dX9_readNumber_6 : decode cX9_readNumber 6 = .ok (.if_icmp .ge 48, 3) := by decide +kernel
theorem dX9_readNumber_9 : decode cX9_readNumber 9 = .ok (.aload_n 0, 1) := by decide +kernel
theorem dX9_readNumber_10 : decode cX9_readNumber 10 = .ok (.invokevirtual 90, 3) := by decide +kernel
theorem dX9_readNumber_13 : decode cX9_readNumber 13 = .ok (.ifCond .eq 41, 3) := by decide +kernel
theorem dX9_readNumber_16 : decode cX9_readNumber 16 = .ok (.iload_n 2, 1) := by decide +kernel
theorem dX9_readNumber_17 : decode cX9_readNumber 17 = .ok (.iconst 0, 1) := by decide +kernel
theorem dX9_readNumber_18 : decode cX9_readNumber 18 = .ok (.invokestatic 70, 3) := by decide +kernel
theorem dX9_readNumber_21 : decode cX9_readNumber 21 = .ok (.bipush 10, 2) := by decide +kernel
theorem dX9_readNumber_23 : decode cX9_readNumber 23 = .ok (.imul, 1) := by decide +kernel
theorem dX9_readNumber_24 : decode cX9_readNumber 24 = .ok (.aload_n 0, 1) := by decide +kernel
theorem dX9_readNumber_25 : decode cX9_readNumber 25 = .ok (.getfield 9, 3) := by decide +kernel
theorem dX9_readNumber_28 : decode cX9_readNumber 28 = .ok (.aload_n 0, 1) := by decide +kernel
theorem dX9_readNumber_29 : decode cX9_readNumber 29 = .ok (.getfield 29, 3) := by decide +kernel
theorem dX9_readNumber_32 : decode cX9_readNumber 32 = .ok (.caload, 1) := by decide +kernel
theorem dX9_readNumber_33 : decode cX9_readNumber 33 = .ok (.iadd, 1) := by decide +kernel
theorem dX9_readNumber_34 : decode cX9_readNumber 34 = .ok (.bipush 48, 2) := by decide +kernel
theorem dX9_readNumber_36 : decode cX9_readNumber 36 = .ok (.isub, 1) := by decide +kernel
theorem dX9_readNumber_37 : decode cX9_readNumber 37 = .ok (.istore_n 2, 1) := by decide +kernel
theorem dX9_readNumber_38 : decode cX9_readNumber 38 = .ok (.aload_n 0, 1) := by decide +kernel
theorem dX9_readNumber_39 : decode cX9_readNumber 39 = .ok (.dup, 1) := by decide +kernel
theorem dX9_readNumber_40 : decode cX9_readNumber 40 = .ok (.getfield 29, 3) := by decide +kernel
theorem dX9_readNumber_43 : decode cX9_readNumber 43 = .ok (.iconst 1, 1) := by decide +kernel
theorem dX9_readNumber_44 : decode cX9_readNumber 44 = .ok (.iadd, 1) := by decide +kernel
theorem dX9_readNumber_45 : decode cX9_readNumber 45 = .ok (.putfield 29, 3) := by decide +kernel
theorem dX9_readNumber_48 : decode cX9_readNumber 48 = .ok (.iinc 3 1, 3) := by decide +kernel
theorem dX9_readNumber_51 : decode cX9_readNumber 51 = .ok (.goto (-47), 3) := by decide +kernel
theorem dX9_readNumber_54 : decode cX9_readNumber 54 = .ok (.iload_n 2, 1) := by decide +kernel
theorem dX9_readNumber_55 : decode cX9_readNumber 55 = .ok (.ireturn, 1) := by decide +kernel
theorem dX9_isDigitNext_0 : decode cX9_isDigitNext 0 = .ok (.aload_n 0, 1) := by decide +kernel
theorem dX9_isDigitNext_1 : decode cX9_isDigitNext 1 = .ok (.getfield 29, 3) := by decide +kernel
theorem dX9_isDigitNext_4 : decode cX9_isDigitNext 4 = .ok (.aload_n 0, 1) := by decide +kernel
theorem dX9_isDigitNext_5 : decode cX9_isDigitNext 5 = .ok (.getfield 25, 3) := by decide +kernel
theorem dX9_isDigitNext_8 : decode cX9_isDigitNext 8 = .ok (.if_icmp .ge 35, 3) := by decide +kernel
theorem dX9_isDigitNext_11 : decode cX9_isDigitNext 11 = .ok (.aload_n 0, 1) := by decide +kernel
theorem dX9_isDigitNext_12 : decode cX9_isDigitNext 12 = .ok (.getfield 9, 3) := by decide +kernel
theorem dX9_isDigitNext_15 : decode cX9_isDigitNext 15 = .ok (.aload_n 0, 1) := by decide +kernel
theorem dX9_isDigitNext_16 : decode cX9_isDigitNext 16 = .ok (.getfield 29, 3) := by decide +kernel
theorem dX9_isDigitNext_19 : decode cX9_isDigitNext 19 = .ok (.caload, 1) := by decide +kernel
theorem dX9_isDigitNext_20 : decode cX9_isDigitNext 20 = .ok (.bipush 48, 2) := by decide +kernel
theorem dX9_isDigitNext_22 : decode cX9_isDigitNext 22 = .ok (.if_icmp .lt 21, 3) := by decide +kernel
theorem dX9_isDigitNext_25 : decode cX9_isDigitNext 25 = .ok (.aload_n 0, 1) := by decide +kernel
theorem dX9_isDigitNext_26 : decode cX9_isDigitNext 26 = .ok (.getfield 9, 3) := by decide +kernel
theorem dX9_isDigitNext_29 : decode cX9_isDigitNext 29 = .ok (.aload_n 0, 1) := by decide +kernel
theorem dX9_isDigitNext_30 : decode cX9_isDigitNext 30 = .ok (.getfield 29, 3) := by decide +kernel
theorem dX9_isDigitNext_33 : decode cX9_isDigitNext 33 = .ok (.caload, 1) := by decide +kernel
theorem dX9_isDigitNext_34 : decode cX9_isDigitNext 34 = .ok (.bipush 57, 2) := by decide +kernel
theorem dX9_isDigitNext_36 : decode cX9_isDigitNext 36 = .ok (.if_icmp .gt 7, 3) := by decide +kernel
theorem dX9_isDigitNext_39 : decode cX9_isDigitNext 39 = .ok (.iconst 1, 1) := by decide +kernel
theorem dX9_isDigitNext_40 : decode cX9_isDigitNext 40 = .ok (.goto 4, 3) := by decide +kernel
theorem dX9_isDigitNext_43 : decode cX9_isDigitNext 43 = .ok (.iconst 0, 1) := by decide +kernel
theorem dX9_isDigitNext_44 : decode cX9_isDigitNext 44 = .ok (.ireturn, 1) := by decide +kernel
theorem dX11_init_0 : decode cX11_init 0 = .ok (.aload_n 0, 1) := by decide +kernel
theorem dX11_init_1 : decode cX11_init 1 = .ok (.invokespecial 3, 3) := by decide +kernel
theorem dX11_init_4 : decode cX11_init 4 = .ok (.aload_n 0, 1) := by decide +kernel
theorem dX11_init_5 : decode cX11_init 5 = .ok (.bipush 8, 2) := by decide +kernel
theorem dX11_init_7 : decode cX11_init 7 = .ok (.newarray .int, 2) := by decide +kernel
theorem dX11_init_9 : decode cX11_init 9 = .ok (.putfield 9, 3) := by decide +kernel
theorem dX11_init_12 : decode cX11_init 12 = .ok (.aload_n 0, 1) := by decide +kernel
theorem dX11_init_13 : decode cX11_init 13 = .ok (.bipush 8, 2) := by decide +kernel
theorem dX11_init_15 : decode cX11_init 15 = .ok (.newarray .int, 2) := by decide +kernel
theorem dX11_init_17 : decode cX11_init 17 = .ok (.putfield 15, 3) := by decide +kernel
theorem dX11_init_20 : decode cX11_init 20 = .ok (.return_, 1) := by decide +kernel
theorem dX11_copyFrom_0 : decode cX11_copyFrom 0 = .ok (.aload_n 1, 1) := by decide +kernel
theorem dX11_copyFrom_1 : decode cX11_copyFrom 1 = .ok (.getfield 9, 3) := by decide +kernel
theorem dX11_copyFrom_4 : decode cX11_copyFrom 4 = .ok (.iconst 0, 1) := by decide +kernel
theorem dX11_copyFrom_5 : decode cX11_copyFrom 5 = .ok (.aload_n 0, 1) := by decide +kernel
theorem dX11_copyFrom_6 : decode cX11_copyFrom 6 = .ok (.getfield 9, 3) := by decide +kernel
theorem dX11_copyFrom_9 : decode cX11_copyFrom 9 = .ok (.iconst 0, 1) := by decide +kernel
theorem dX11_copyFrom_10 : decode cX11_copyFrom 10 = .ok (.bipush 8, 2) := by decide +kernel
theorem dX11_copyFrom_12 : decode cX11_copyFrom 12 = .ok (.invokestatic 18, 3) := by decide +kernel
theorem dX11_copyFrom_15 : decode cX11_copyFrom 15 = .ok (.aload_n 1, 1) := by decide +kernel
theorem dX11_copyFrom_16 : decode cX11_copyFrom 16 = .ok (.getfield 15, 3) := by decide +kernel
theorem dX11_copyFrom_19 : decode cX11_copyFrom 19 = .ok (.iconst 0, 1) := by decide +kernel
theorem dX11_copyFrom_20 : decode cX11_copyFrom 20 = .ok (.aload_n 0, 1) := by decide +kernel
theorem dX11_copyFrom_21 : decode cX11_copyFrom 21 = .ok (.getfield 15, 3) := by decide +kernel
theorem dX11_copyFrom_24 : decode cX11_copyFrom 24 = .ok (.iconst 0, 1) := by decide +kernel
theorem dX11_copyFrom_25 : decode cX11_copyFrom 25 = .ok (.bipush 8, 2) := by decide +kernel
theorem dX11_copyFrom_27 : decode cX11_copyFrom 27 = .ok (.invokestatic 18, 3) := by decide +kernel
theorem dX11_copyFrom_30 : decode cX11_copyFrom 30 = .ok (.aload_n 0, 1) := by decide +kernel
theorem dX11_copyFrom_31 : decode cX11_copyFrom 31 = .ok (.aload_n 1, 1) := by decide +kernel
theorem dX11_copyFrom_32 : decode cX11_copyFrom 32 = .ok (.getfield 24, 3) := by decide +kernel
theorem dX11_copyFrom_35 : decode cX11_copyFrom 35 = .ok (.putfield 24, 3) := by decide +kernel
theorem dX11_copyFrom_38 : decode cX11_copyFrom 38 = .ok (.return_, 1) := by decide +kernel
theorem dX11_costumes_0 : decode cX11_costumes 0 = .ok (.iconst 0, 1) := by decide +kernel
theorem dX11_costumes_1 : decode cX11_costumes 1 = .ok (.istore_n 1, 1) := by decide +kernel
theorem dX11_costumes_2 : decode cX11_costumes 2 = .ok (.iconst 0, 1) := by decide +kernel
theorem dX11_costumes_3 : decode cX11_costumes 3 = .ok (.istore_n 2, 1) := by decide +kernel
theorem dX11_costumes_4 : decode cX11_costumes 4 = .ok (.iload_n 2, 1) := by decide +kernel
theorem dX11_costumes_5 : decode cX11_costumes 5 = .ok (.aload_n 0, 1) := by decide +kernel
theorem dX11_costumes_6 : decode cX11_costumes 6 = .ok (.getfield 24, 3) := by decide +kernel
theorem dX11_costumes_9 : decode cX11_costumes 9 = .ok (.if_icmp .ge 18, 3) := by decide +kernel
theorem dX11_costumes_12 : decode cX11_costumes 12 = .ok (.iload_n 1, 1) := by decide +kernel
theorem dX11_costumes_13 : decode cX11_costumes 13 = .ok (.aload_n 0, 1) := by decide +kernel
theorem dX11_costumes_14 : decode cX11_costumes 14 = .ok (.getfield 9, 3) := by decide +kernel
theorem dX11_costumes_17 : decode cX11_costumes 17 = .ok (.iload_n 2, 1) := by decide +kernel
theorem dX11_costumes_18 : decode cX11_costumes 18 = .ok (.iaload, 1) := by decide +kernel
theorem dX11_costumes_19 : decode cX11_costumes 19 = .ok (.iadd, 1) := by decide +kernel
theorem dX11_costumes_20 : decode cX11_costumes 20 = .ok (.istore_n 1, 1) := by decide +kernel
theorem dX11_costumes_21 : decode cX11_costumes 21 = .ok (.iinc 2 1, 3) := by decide +kernel
theorem dX11_costumes_24 : decode cX11_costumes 24 = .ok (.goto (-20), 3) := by decide +kernel
theorem dX11_costumes_27 : decode cX11_costumes 27 = .ok (.iload_n 1, 1) := by decide +kernel
theorem dX11_costumes_28 : decode cX11_costumes 28 = .ok (.ireturn, 1) := by decide +kernel
theorem dX11_isTrade_0 : decode cX11_isTrade 0 = .ok (.iload_n 0, 1) := by decide +kernel
theorem dX11_isTrade_1 : decode cX11_isTrade 1 = .ok (.iconst 1, 1) := by decide +kernel
theorem dX11_isTrade_2 : decode cX11_isTrade 2 = .ok (.bipush 20, 2) := by decide +kernel
theorem dX11_isTrade_4 : decode cX11_isTrade 4 = .ok (.invokestatic 28, 3) := by decide +kernel
theorem dX11_isTrade_7 : decode cX11_isTrade 7 = .ok (.ifCond .eq 17, 3) := by decide +kernel
theorem dX11_isTrade_10 : decode cX11_isTrade 10 = .ok (.iload_n 1, 1) := by decide +kernel
theorem dX11_isTrade_11 : decode cX11_isTrade 11 = .ok (.iconst 1, 1) := by decide +kernel
theorem dX11_isTrade_12 : decode cX11_isTrade 12 = .ok (.bipush 40, 2) := by decide +kernel
theorem dX11_isTrade_14 : decode cX11_isTrade 14 = .ok (.invokestatic 28, 3) := by decide +kernel
theorem dX11_isTrade_17 : decode cX11_isTrade 17 = .ok (.ifCond .eq 7, 3) := by decide +kernel
theorem dX11_isTrade_20 : decode cX11_isTrade 20 = .ok (.iconst 1, 1) := by decide +kernel
theorem dX11_isTrade_21 : decode cX11_isTrade 21 = .ok (.goto 4, 3) := by decide +kernel
theorem dX11_isTrade_24 : decode cX11_isTrade 24 = .ok (.iconst 0, 1) := by decide +kernel
theorem dX11_isTrade_25 : decode cX11_isTrade 25 = .ok (.ireturn, 1) := by decide +kernel
theorem dX11_faultOfCount_0 : decode cX11_faultOfCount 0 = .ok (.iload_n 1, 1) := by decide +kernel
theorem dX11_faultOfCount_1 : decode cX11_faultOfCount 1 = .ok (.iconst 1, 1) := by decide +kernel
theorem dX11_faultOfCount_2 : decode cX11_faultOfCount 2 = .ok (.bipush 20, 2) := by decide +kernel
theorem dX11_faultOfCount_4 : decode cX11_faultOfCount 4 = .ok (.invokestatic 28, 3) := by decide +kernel
theorem dX11_faultOfCount_7 : decode cX11_faultOfCount 7 = .ok (.ifCond .ne 7, 3) := by decide +kernel
theorem dX11_faultOfCount_10 : decode cX11_faultOfCount 10 = .ok (.getstatic 32, 3) := by decide +kernel
theorem dX11_faultOfCount_13 : decode cX11_faultOfCount 13 = .ok (.areturn, 1) := by decide +kernel
theorem dX11_faultOfCount_14 : decode cX11_faultOfCount 14 = .ok (.iload_n 1, 1) := by decide +kernel
theorem dX11_faultOfCount_15 : decode cX11_faultOfCount 15 = .ok (.aload_n 0, 1) := by decide +kernel
theorem dX11_faultOfCount_16 : decode cX11_faultOfCount 16 = .ok (.invokevirtual 38, 3) := by decide +kernel
theorem dX11_faultOfCount_19 : decode cX11_faultOfCount 19 = .ok (.if_icmp .gt 9, 3) := by decide +kernel
theorem dX11_faultOfCount_22 : decode cX11_faultOfCount 22 = .ok (.getstatic 42, 3) := by decide +kernel
theorem dX11_faultOfCount_25 : decode cX11_faultOfCount 25 = .ok (.goto 6, 3) := by decide +kernel
theorem dX11_faultOfCount_28 : decode cX11_faultOfCount 28 = .ok (.getstatic 45, 3) := by decide +kernel
theorem dX11_faultOfCount_31 : decode cX11_faultOfCount 31 = .ok (.areturn, 1) := by decide +kernel
theorem dX11_faultOfSelling_0 : decode cX11_faultOfSelling 0 = .ok (.iload_n 1, 1) := by decide +kernel
theorem dX11_faultOfSelling_1 : decode cX11_faultOfSelling 1 = .ok (.iload_n 2, 1) := by decide +kernel
theorem dX11_faultOfSelling_2 : decode cX11_faultOfSelling 2 = .ok (.invokestatic 48, 3) := by decide +kernel
theorem dX11_faultOfSelling_5 : decode cX11_faultOfSelling 5 = .ok (.ifCond .eq 11, 3) := by decide +kernel
theorem dX11_faultOfSelling_8 : decode cX11_faultOfSelling 8 = .ok (.aload_n 0, 1) := by decide +kernel
theorem dX11_faultOfSelling_9 : decode cX11_faultOfSelling 9 = .ok (.iload_n 1, 1) := by decide +kernel
theorem dX11_faultOfSelling_10 : decode cX11_faultOfSelling 10 = .ok (.invokevirtual 52, 3) := by decide +kernel
theorem dX11_faultOfSelling_13 : decode cX11_faultOfSelling 13 = .ok (.goto 6, 3) := by decide +kernel
theorem dX11_faultOfSelling_16 : decode cX11_faultOfSelling 16 = .ok (.getstatic 32, 3) := by decide +kernel
theorem dX11_faultOfSelling_19 : decode cX11_faultOfSelling 19 = .ok (.areturn, 1) := by decide +kernel
theorem dX11_add_0 : decode cX11_add 0 = .ok (.aload_n 0, 1) := by decide +kernel
theorem dX11_add_1 : decode cX11_add 1 = .ok (.getfield 24, 3) := by decide +kernel
theorem dX11_add_4 : decode cX11_add 4 = .ok (.bipush 8, 2) := by decide +kernel
theorem dX11_add_6 : decode cX11_add 6 = .ok (.if_icmp .ge 33, 3) := by decide +kernel
theorem dX11_add_9 : decode cX11_add 9 = .ok (.aload_n 0, 1) := by decide +kernel
theorem dX11_add_10 : decode cX11_add 10 = .ok (.getfield 9, 3) := by decide +kernel
theorem dX11_add_13 : decode cX11_add 13 = .ok (.aload_n 0, 1) := by decide +kernel
theorem dX11_add_14 : decode cX11_add 14 = .ok (.getfield 24, 3) := by decide +kernel
theorem dX11_add_17 : decode cX11_add 17 = .ok (.iload_n 1, 1) := by decide +kernel
theorem dX11_add_18 : decode cX11_add 18 = .ok (.iastore, 1) := by decide +kernel
theorem dX11_add_19 : decode cX11_add 19 = .ok (.aload_n 0, 1) := by decide +kernel
theorem dX11_add_20 : decode cX11_add 20 = .ok (.getfield 15, 3) := by decide +kernel
theorem dX11_add_23 : decode cX11_add 23 = .ok (.aload_n 0, 1) := by decide +kernel
theorem dX11_add_24 : decode cX11_add 24 = .ok (.getfield 24, 3) := by decide +kernel
theorem dX11_add_27 : decode cX11_add 27 = .ok (.iload_n 2, 1) := by decide +kernel
theorem dX11_add_28 : decode cX11_add 28 = .ok (.iastore, 1) := by decide +kernel
theorem dX11_add_29 : decode cX11_add 29 = .ok (.aload_n 0, 1) := by decide +kernel
theorem dX11_add_30 : decode cX11_add 30 = .ok (.dup, 1) := by decide +kernel
theorem dX11_add_31 : decode cX11_add 31 = .ok (.getfield 24, 3) := by decide +kernel
theorem dX11_add_34 : decode cX11_add 34 = .ok (.iconst 1, 1) := by decide +kernel
theorem dX11_add_35 : decode cX11_add 35 = .ok (.iadd, 1) := by decide +kernel
theorem dX11_add_36 : decode cX11_add 36 = .ok (.putfield 24, 3) := by decide +kernel
theorem dX11_add_39 : decode cX11_add 39 = .ok (.return_, 1) := by decide +kernel
theorem dX11_take_0 : decode cX11_take 0 = .ok (.iload_n 1, 1) := by decide +kernel
theorem dX11_take_1 : decode cX11_take 1 = .ok (.istore_n 2, 1) := by decide +kernel
theorem dX11_take_2 : decode cX11_take 2 = .ok (.iconst 0, 1) := by decide +kernel
theorem dX11_take_3 : decode cX11_take 3 = .ok (.istore_n 3, 1) := by decide +kernel
theorem dX11_take_4 : decode cX11_take 4 = .ok (.iconst 0, 1) := by decide +kernel
theorem dX11_take_5 : decode cX11_take 5 = .ok (.istore 4, 2) := by decide +kernel
theorem dX11_take_7 : decode cX11_take 7 = .ok (.iload 4, 2) := by decide +kernel
theorem dX11_take_9 : decode cX11_take 9 = .ok (.aload_n 0, 1) := by decide +kernel
theorem dX11_take_10 : decode cX11_take 10 = .ok (.getfield 24, 3) := by decide +kernel
theorem dX11_take_13 : decode cX11_take 13 = .ok (.if_icmp .ge 71, 3) := by decide +kernel
theorem dX11_take_16 : decode cX11_take 16 = .ok (.iload_n 2, 1) := by decide +kernel
theorem dX11_take_17 : decode cX11_take 17 = .ok (.aload_n 0, 1) := by decide +kernel
theorem dX11_take_18 : decode cX11_take 18 = .ok (.getfield 9, 3) := by decide +kernel
theorem dX11_take_21 : decode cX11_take 21 = .ok (.iload 4, 2) := by decide +kernel
theorem dX11_take_23 : decode cX11_take 23 = .ok (.iaload, 1) := by decide +kernel
theorem dX11_take_24 : decode cX11_take 24 = .ok (.invokestatic 56, 3) := by decide +kernel
theorem dX11_take_27 : decode cX11_take 27 = .ok (.istore 5, 2) := by decide +kernel
theorem dX11_take_29 : decode cX11_take 29 = .ok (.iload_n 2, 1) := by decide +kernel
theorem dX11_take_30 : decode cX11_take 30 = .ok (.iload 5, 2) := by decide +kernel
theorem dX11_take_32 : decode cX11_take 32 = .ok (.isub, 1) := by decide +kernel
theorem dX11_take_33 : decode cX11_take 33 = .ok (.istore_n 2, 1) := by decide +kernel
theorem dX11_take_34 : decode cX11_take 34 = .ok (.aload_n 0, 1) := by decide +kernel
theorem dX11_take_35 : decode cX11_take 35 = .ok (.getfield 9, 3) := by decide +kernel
theorem dX11_take_38 : decode cX11_take 38 = .ok (.iload 4, 2) := by decide +kernel
theorem dX11_take_40 : decode cX11_take 40 = .ok (.iaload, 1) := by decide +kernel
theorem dX11_take_41 : decode cX11_take 41 = .ok (.iload 5, 2) := by decide +kernel
theorem dX11_take_43 : decode cX11_take 43 = .ok (.if_icmp .le 35, 3) := by decide +kernel
theorem dX11_take_46 : decode cX11_take 46 = .ok (.aload_n 0, 1) := by decide +kernel
theorem dX11_take_47 : decode cX11_take 47 = .ok (.getfield 9, 3) := by decide +kernel
theorem dX11_take_50 : decode cX11_take 50 = .ok (.iload_n 3, 1) := by decide +kernel
theorem dX11_take_51 : decode cX11_take 51 = .ok (.aload_n 0, 1) := by decide +kernel
theorem dX11_take_52 : decode cX11_take 52 = .ok (.getfield 9, 3) := by decide +kernel
theorem dX11_take_55 : decode cX11_take 55 = .ok (.iload 4, 2) := by decide +kernel
theorem dX11_take_57 : decode cX11_take 57 = .ok (.iaload, 1) := by decide +kernel
theorem dX11_take_58 : decode cX11_take 58 = .ok (.iload 5, 2) := by decide +kernel
theorem dX11_take_60 : decode cX11_take 60 = .ok (.isub, 1) := by decide +kernel
theorem dX11_take_61 : decode cX11_take 61 = .ok (.iastore, 1) := by decide +kernel
theorem dX11_take_62 : decode cX11_take 62 = .ok (.aload_n 0, 1) := by decide +kernel
theorem dX11_take_63 : decode cX11_take 63 = .ok (.getfield 15, 3) := by decide +kernel
theorem dX11_take_66 : decode cX11_take 66 = .ok (.iload_n 3, 1) := by decide +kernel
theorem dX11_take_67 : decode cX11_take 67 = .ok (.aload_n 0, 1) := by decide +kernel
theorem dX11_take_68 : decode cX11_take 68 = .ok (.getfield 15, 3) := by decide +kernel
theorem dX11_take_71 : decode cX11_take 71 = .ok (.iload 4, 2) := by decide +kernel
theorem dX11_take_73 : decode cX11_take 73 = .ok (.iaload, 1) := by decide +kernel
theorem dX11_take_74 : decode cX11_take 74 = .ok (.iastore, 1) := by decide +kernel
theorem dX11_take_75 : decode cX11_take 75 = .ok (.iinc 3 1, 3) := by decide +kernel
theorem dX11_take_78 : decode cX11_take 78 = .ok (.iinc 4 1, 3) := by decide +kernel
theorem dX11_take_81 : decode cX11_take 81 = .ok (.goto (-74), 3) := by decide +kernel
theorem dX11_take_84 : decode cX11_take 84 = .ok (.aload_n 0, 1) := by decide +kernel
theorem dX11_take_85 : decode cX11_take 85 = .ok (.iload_n 3, 1) := by decide +kernel
theorem dX11_take_86 : decode cX11_take 86 = .ok (.putfield 24, 3) := by decide +kernel
theorem dX11_take_89 : decode cX11_take 89 = .ok (.return_, 1) := by decide +kernel
theorem dX11_costByLots_0 : decode cX11_costByLots 0 = .ok (.iload_n 1, 1) := by decide +kernel
theorem dX11_costByLots_1 : decode cX11_costByLots 1 = .ok (.istore_n 2, 1) := by decide +kernel
theorem dX11_costByLots_2 : decode cX11_costByLots 2 = .ok (.iconst 0, 1) := by decide +kernel
theorem dX11_costByLots_3 : decode cX11_costByLots 3 = .ok (.istore_n 3, 1) := by decide +kernel
theorem dX11_costByLots_4 : decode cX11_costByLots 4 = .ok (.iconst 0, 1) := by decide +kernel
theorem dX11_costByLots_5 : decode cX11_costByLots 5 = .ok (.istore 4, 2) := by decide +kernel
theorem dX11_costByLots_7 : decode cX11_costByLots 7 = .ok (.iload 4, 2) := by decide +kernel
theorem dX11_costByLots_9 : decode cX11_costByLots 9 = .ok (.aload_n 0, 1) := by decide +kernel
theorem dX11_costByLots_10 : decode cX11_costByLots 10 = .ok (.getfield 24, 3) := by decide +kernel
theorem dX11_costByLots_13 : decode cX11_costByLots 13 = .ok (.if_icmp .ge 40, 3) := by decide +kernel
theorem dX11_costByLots_16 : decode cX11_costByLots 16 = .ok (.iload_n 2, 1) := by decide +kernel
theorem dX11_costByLots_17 : decode cX11_costByLots 17 = .ok (.aload_n 0, 1) := by decide +kernel
theorem dX11_costByLots_18 : decode cX11_costByLots 18 = .ok (.getfield 9, 3) := by decide +kernel
theorem dX11_costByLots_21 : decode cX11_costByLots 21 = .ok (.iload 4, 2) := by decide +kernel
theorem dX11_costByLots_23 : decode cX11_costByLots 23 = .ok (.iaload, 1) := by decide +kernel
theorem dX11_costByLots_24 : decode cX11_costByLots 24 = .ok (.invokestatic 56, 3) := by decide +kernel
theorem dX11_costByLots_27 : decode cX11_costByLots 27 = .ok (.istore 5, 2) := by decide +kernel
theorem dX11_costByLots_29 : decode cX11_costByLots 29 = .ok (.iload_n 2, 1) := by decide +kernel
theorem dX11_costByLots_30 : decode cX11_costByLots 30 = .ok (.iload 5, 2) := by decide +kernel
theorem dX11_costByLots_32 : decode cX11_costByLots 32 = .ok (.isub, 1) := by decide +kernel
theorem dX11_costByLots_33 : decode cX11_costByLots 33 = .ok (.istore_n 2, 1) := by decide +kernel
theorem dX11_costByLots_34 : decode cX11_costByLots 34 = .ok (.iload_n 3, 1) := by decide +kernel
theorem dX11_costByLots_35 : decode cX11_costByLots 35 = .ok (.iload 5, 2) := by decide +kernel
theorem dX11_costByLots_37 : decode cX11_costByLots 37 = .ok (.aload_n 0, 1) := by decide +kernel
theorem dX11_costByLots_38 : decode cX11_costByLots 38 = .ok (.getfield 15, 3) := by decide +kernel
theorem dX11_costByLots_41 : decode cX11_costByLots 41 = .ok (.iload 4, 2) := by decide +kernel
theorem dX11_costByLots_43 : decode cX11_costByLots 43 = .ok (.iaload, 1) := by decide +kernel
theorem dX11_costByLots_44 : decode cX11_costByLots 44 = .ok (.imul, 1) := by decide +kernel
theorem dX11_costByLots_45 : decode cX11_costByLots 45 = .ok (.iadd, 1) := by decide +kernel
theorem dX11_costByLots_46 : decode cX11_costByLots 46 = .ok (.istore_n 3, 1) := by decide +kernel
theorem dX11_costByLots_47 : decode cX11_costByLots 47 = .ok (.iinc 4 1, 3) := by decide +kernel
theorem dX11_costByLots_50 : decode cX11_costByLots 50 = .ok (.goto (-43), 3) := by decide +kernel
theorem dX11_costByLots_53 : decode cX11_costByLots 53 = .ok (.iload_n 3, 1) := by decide +kernel
theorem dX11_costByLots_54 : decode cX11_costByLots 54 = .ok (.ireturn, 1) := by decide +kernel
theorem dX11_costOneByOne_0 : decode cX11_costOneByOne 0 = .ok (.iconst 0, 1) := by decide +kernel
theorem dX11_costOneByOne_1 : decode cX11_costOneByOne 1 = .ok (.istore_n 2, 1) := by decide +kernel
theorem dX11_costOneByOne_2 : decode cX11_costOneByOne 2 = .ok (.iconst 0, 1) := by decide +kernel
theorem dX11_costOneByOne_3 : decode cX11_costOneByOne 3 = .ok (.istore_n 3, 1) := by decide +kernel
theorem dX11_costOneByOne_4 : decode cX11_costOneByOne 4 = .ok (.iload_n 3, 1) := by decide +kernel
theorem dX11_costOneByOne_5 : decode cX11_costOneByOne 5 = .ok (.iload_n 1, 1) := by decide +kernel
theorem dX11_costOneByOne_6 : decode cX11_costOneByOne 6 = .ok (.if_icmp .ge 17, 3) := by decide +kernel
theorem dX11_costOneByOne_9 : decode cX11_costOneByOne 9 = .ok (.iload_n 2, 1) := by decide +kernel
theorem dX11_costOneByOne_10 : decode cX11_costOneByOne 10 = .ok (.aload_n 0, 1) := by decide +kernel
theorem dX11_costOneByOne_11 : decode cX11_costOneByOne 11 = .ok (.iload_n 3, 1) := by decide +kernel
theorem dX11_costOneByOne_12 : decode cX11_costOneByOne 12 = .ok (.invokevirtual 62, 3) := by decide +kernel
theorem dX11_costOneByOne_15 : decode cX11_costOneByOne 15 = .ok (.iadd, 1) := by decide +kernel
theorem dX11_costOneByOne_16 : decode cX11_costOneByOne 16 = .ok (.istore_n 2, 1) := by decide +kernel
theorem dX11_costOneByOne_17 : decode cX11_costOneByOne 17 = .ok (.iinc 3 1, 3) := by decide +kernel
theorem dX11_costOneByOne_20 : decode cX11_costOneByOne 20 = .ok (.goto (-16), 3) := by decide +kernel
theorem dX11_costOneByOne_23 : decode cX11_costOneByOne 23 = .ok (.iload_n 2, 1) := by decide +kernel
theorem dX11_costOneByOne_24 : decode cX11_costOneByOne 24 = .ok (.ireturn, 1) := by decide +kernel
theorem dX11_priceOfCostume_0 : decode cX11_priceOfCostume 0 = .ok (.iload_n 1, 1) := by decide +kernel
theorem dX11_priceOfCostume_1 : decode cX11_priceOfCostume 1 = .ok (.istore_n 2, 1) := by decide +kernel
theorem dX11_priceOfCostume_2 : decode cX11_priceOfCostume 2 = .ok (.iconst 0, 1) := by decide +kernel
theorem dX11_priceOfCostume_3 : decode cX11_priceOfCostume 3 = .ok (.istore_n 3, 1) := by decide +kernel
theorem dX11_priceOfCostume_4 : decode cX11_priceOfCostume 4 = .ok (.iload_n 3, 1) := by decide +kernel
theorem dX11_priceOfCostume_5 : decode cX11_priceOfCostume 5 = .ok (.aload_n 0, 1) := by decide +kernel
theorem dX11_priceOfCostume_6 : decode cX11_priceOfCostume 6 = .ok (.getfield 24, 3) := by decide +kernel
theorem dX11_priceOfCostume_9 : decode cX11_priceOfCostume 9 = .ok (.if_icmp .ge 35, 3) := by decide +kernel
theorem dX11_priceOfCostume_12 : decode cX11_priceOfCostume 12 = .ok (.iload_n 2, 1) := by decide +kernel
theorem dX11_priceOfCostume_13 : decode cX11_priceOfCostume 13 = .ok (.aload_n 0, 1) := by decide +kernel
theorem dX11_priceOfCostume_14 : decode cX11_priceOfCostume 14 = .ok (.getfield 9, 3) := by decide +kernel
theorem dX11_priceOfCostume_17 : decode cX11_priceOfCostume 17 = .ok (.iload_n 3, 1) := by decide +kernel
theorem dX11_priceOfCostume_18 : decode cX11_priceOfCostume 18 = .ok (.iaload, 1) := by decide +kernel
theorem dX11_priceOfCostume_19 : decode cX11_priceOfCostume 19 = .ok (.if_icmp .ge 10, 3) := by decide +kernel
theorem dX11_priceOfCostume_22 : decode cX11_priceOfCostume 22 = .ok (.aload_n 0, 1) := by decide +kernel
theorem dX11_priceOfCostume_23 : decode cX11_priceOfCostume 23 = .ok (.getfield 15, 3) := by decide +kernel
theorem dX11_priceOfCostume_26 : decode cX11_priceOfCostume 26 = .ok (.iload_n 3, 1) := by decide +kernel
theorem dX11_priceOfCostume_27 : decode cX11_priceOfCostume 27 = .ok (.iaload, 1) := by decide +kernel
theorem dX11_priceOfCostume_28 : decode cX11_priceOfCostume 28 = .ok (.ireturn, 1) := by decide +kernel
theorem dX11_priceOfCostume_29 : decode cX11_priceOfCostume 29 = .ok (.iload_n 2, 1) := by decide +kernel
theorem dX11_priceOfCostume_30 : decode cX11_priceOfCostume 30 = .ok (.aload_n 0, 1) := by decide +kernel
theorem dX11_priceOfCostume_31 : decode cX11_priceOfCostume 31 = .ok (.getfield 9, 3) := by decide +kernel
theorem dX11_priceOfCostume_34 : decode cX11_priceOfCostume 34 = .ok (.iload_n 3, 1) := by decide +kernel
theorem dX11_priceOfCostume_35 : decode cX11_priceOfCostume 35 = .ok (.iaload, 1) := by decide +kernel
theorem dX11_priceOfCostume_36 : decode cX11_priceOfCostume 36 = .ok (.isub, 1) := by decide +kernel
theorem dX11_priceOfCostume_37 : decode cX11_priceOfCostume 37 = .ok (.istore_n 2, 1) := by decide +kernel
theorem dX11_priceOfCostume_38 : decode cX11_priceOfCostume 38 = .ok (.iinc 3 1, 3) := by decide +kernel
theorem dX11_priceOfCostume_41 : decode cX11_priceOfCostume 41 = .ok (.goto (-37), 3) := by decide +kernel
theorem dX11_priceOfCostume_44 : decode cX11_priceOfCostume 44 = .ok (.iconst 0, 1) := by decide +kernel
theorem dX11_priceOfCostume_45 : decode cX11_priceOfCostume 45 = .ok (.ireturn, 1) := by decide +kernel
theorem dX11_costsAgree_0 : decode cX11_costsAgree 0 = .ok (.aload_n 0, 1) := by decide +kernel
theorem dX11_costsAgree_1 : decode cX11_costsAgree 1 = .ok (.invokevirtual 38, 3) := by decide +kernel
theorem dX11_costsAgree_4 : decode cX11_costsAgree 4 = .ok (.bipush 20, 2) := by decide +kernel
theorem dX11_costsAgree_6 : decode cX11_costsAgree 6 = .ok (.invokestatic 56, 3) := by decide +kernel
theorem dX11_costsAgree_9 : decode cX11_costsAgree 9 = .ok (.istore_n 1, 1) := by decide +kernel
theorem dX11_costsAgree_10 : decode cX11_costsAgree 10 = .ok (.aload_n 0, 1) := by decide +kernel
theorem dX11_costsAgree_11 : decode cX11_costsAgree 11 = .ok (.iload_n 1, 1) := by decide +kernel
theorem dX11_costsAgree_12 : decode cX11_costsAgree 12 = .ok (.invokevirtual 66, 3) := by decide +kernel
theorem dX11_costsAgree_15 : decode cX11_costsAgree 15 = .ok (.aload_n 0, 1) := by decide +kernel
theorem dX11_costsAgree_16 : decode cX11_costsAgree 16 = .ok (.iload_n 1, 1) := by decide +kernel
theorem dX11_costsAgree_17 : decode cX11_costsAgree 17 = .ok (.invokevirtual 69, 3) := by decide +kernel
theorem dX11_costsAgree_20 : decode cX11_costsAgree 20 = .ok (.if_icmp .ne 7, 3) := by decide +kernel
theorem dX11_costsAgree_23 : decode cX11_costsAgree 23 = .ok (.iconst 1, 1) := by decide +kernel
theorem dX11_costsAgree_24 : decode cX11_costsAgree 24 = .ok (.goto 4, 3) := by decide +kernel
theorem dX11_costsAgree_27 : decode cX11_costsAgree 27 = .ok (.iconst 0, 1) := by decide +kernel
theorem dX11_costsAgree_28 : decode cX11_costsAgree 28 = .ok (.ireturn, 1) := by decide +kernel
theorem dX12_init_0 : decode cX12_init 0 = .ok (.aload_n 0, 1) := by decide +kernel
theorem dX12_init_1 : decode cX12_init 1 = .ok (.invokespecial 1, 3) := by decide +kernel
theorem dX12_init_4 : decode cX12_init 4 = .ok (.aload_n 0, 1) := by decide +kernel
theorem dX12_init_5 : decode cX12_init 5 = .ok (.new 7, 3) := by decide +kernel
theorem dX12_init_8 : decode cX12_init 8 = .ok (.dup, 1) := by decide +kernel
theorem dX12_init_9 : decode cX12_init 9 = .ok (.invokespecial 9, 3) := by decide +kernel
theorem dX12_init_12 : decode cX12_init 12 = .ok (.putfield 10, 3) := by decide +kernel
theorem dX12_init_15 : decode cX12_init 15 = .ok (.aload_n 0, 1) := by decide +kernel
theorem dX12_init_16 : decode cX12_init 16 = .ok (.new 7, 3) := by decide +kernel
theorem dX12_init_19 : decode cX12_init 19 = .ok (.dup, 1) := by decide +kernel
theorem dX12_init_20 : decode cX12_init 20 = .ok (.invokespecial 9, 3) := by decide +kernel
theorem dX12_init_23 : decode cX12_init 23 = .ok (.putfield 16, 3) := by decide +kernel
theorem dX12_init_26 : decode cX12_init 26 = .ok (.aload_n 0, 1) := by decide +kernel
theorem dX12_init_27 : decode cX12_init 27 = .ok (.new 19, 3) := by decide +kernel
theorem dX12_init_30 : decode cX12_init 30 = .ok (.dup, 1) := by decide +kernel
theorem dX12_init_31 : decode cX12_init 31 = .ok (.invokespecial 21, 3) := by decide +kernel
theorem dX12_init_34 : decode cX12_init 34 = .ok (.putfield 22, 3) := by decide +kernel
theorem dX12_init_37 : decode cX12_init 37 = .ok (.aload_n 0, 1) := by decide +kernel
theorem dX12_init_38 : decode cX12_init 38 = .ok (.new 26, 3) := by decide +kernel
theorem dX12_init_41 : decode cX12_init 41 = .ok (.dup, 1) := by decide +kernel
theorem dX12_init_42 : decode cX12_init 42 = .ok (.invokespecial 28, 3) := by decide +kernel
theorem dX12_init_45 : decode cX12_init 45 = .ok (.putfield 29, 3) := by decide +kernel
theorem dX12_init_48 : decode cX12_init 48 = .ok (.aload_n 0, 1) := by decide +kernel
theorem dX12_init_49 : decode cX12_init 49 = .ok (.new 33, 3) := by decide +kernel
theorem dX12_init_52 : decode cX12_init 52 = .ok (.dup, 1) := by decide +kernel
theorem dX12_init_53 : decode cX12_init 53 = .ok (.invokespecial 35, 3) := by decide +kernel
theorem dX12_init_56 : decode cX12_init 56 = .ok (.putfield 36, 3) := by decide +kernel
theorem dX12_init_59 : decode cX12_init 59 = .ok (.aload_n 0, 1) := by decide +kernel
theorem dX12_init_60 : decode cX12_init 60 = .ok (.bipush 37, 2) := by decide +kernel
theorem dX12_init_62 : decode cX12_init 62 = .ok (.newarray .char, 2) := by decide +kernel
theorem dX12_init_64 : decode cX12_init 64 = .ok (.putfield 40, 3) := by decide +kernel
theorem dX12_init_67 : decode cX12_init 67 = .ok (.aload_n 0, 1) := by decide +kernel
theorem dX12_init_68 : decode cX12_init 68 = .ok (.iconst (-1), 1) := by decide +kernel
theorem dX12_init_69 : decode cX12_init 69 = .ok (.putfield 44, 3) := by decide +kernel
theorem dX12_init_72 : decode cX12_init 72 = .ok (.aload_n 0, 1) := by decide +kernel
theorem dX12_init_73 : decode cX12_init 73 = .ok (.iconst (-1), 1) := by decide +kernel
theorem dX12_init_74 : decode cX12_init 74 = .ok (.putfield 48, 3) := by decide +kernel
theorem dX12_init_77 : decode cX12_init 77 = .ok (.return_, 1) := by decide +kernel
theorem dX12_open_0 : decode cX12_open 0 = .ok (.aload_n 0, 1) := by decide +kernel
theorem dX12_open_1 : decode cX12_open 1 = .ok (.getfield 10, 3) := by decide +kernel
theorem dX12_open_4 : decode cX12_open 4 = .ok (.getfield 51, 3) := by decide +kernel
theorem dX12_open_7 : decode cX12_open 7 = .ok (.iload_n 1, 1) := by decide +kernel
theorem dX12_open_8 : decode cX12_open 8 = .ok (.invokevirtual 55, 3) := by decide +kernel
theorem dX12_open_11 : decode cX12_open 11 = .ok (.invokestatic 61, 3) := by decide +kernel
theorem dX12_open_14 : decode cX12_open 14 = .ok (.aload_n 0, 1) := by decide +kernel
theorem dX12_open_15 : decode cX12_open 15 = .ok (.invokevirtual 65, 3) := by decide +kernel
theorem dX12_open_18 : decode cX12_open 18 = .ok (.aload_n 0, 1) := by decide +kernel
theorem dX12_open_19 : decode cX12_open 19 = .ok (.getfield 10, 3) := by decide +kernel
theorem dX12_open_22 : decode cX12_open 22 = .ok (.getfield 51, 3) := by decide +kernel
theorem dX12_open_25 : decode cX12_open 25 = .ok (.iload_n 1, 1) := by decide +kernel
theorem dX12_open_26 : decode cX12_open 26 = .ok (.iconst (-1), 1) := by decide +kernel
theorem dX12_open_27 : decode cX12_open 27 = .ok (.invokevirtual 68, 3) := by decide +kernel
theorem dX12_open_30 : decode cX12_open 30 = .ok (.ireturn, 1) := by decide +kernel
theorem dX12_openBelow_0 : decode cX12_openBelow 0 = .ok (.aload_n 0, 1) := by decide +kernel
theorem dX12_openBelow_1 : decode cX12_openBelow 1 = .ok (.getfield 10, 3) := by decide +kernel
theorem dX12_openBelow_4 : decode cX12_openBelow 4 = .ok (.getfield 51, 3) := by decide +kernel
theorem dX12_openBelow_7 : decode cX12_openBelow 7 = .ok (.iload_n 1, 1) := by decide +kernel
theorem dX12_openBelow_8 : decode cX12_openBelow 8 = .ok (.invokevirtual 72, 3) := by decide +kernel
theorem dX12_openBelow_11 : decode cX12_openBelow 11 = .ok (.invokestatic 61, 3) := by decide +kernel
theorem dX12_openBelow_14 : decode cX12_openBelow 14 = .ok (.aload_n 0, 1) := by decide +kernel
theorem dX12_openBelow_15 : decode cX12_openBelow 15 = .ok (.invokevirtual 65, 3) := by decide +kernel
theorem dX12_openBelow_18 : decode cX12_openBelow 18 = .ok (.aload_n 0, 1) := by decide +kernel
theorem dX12_openBelow_19 : decode cX12_openBelow 19 = .ok (.getfield 10, 3) := by decide +kernel
theorem dX12_openBelow_22 : decode cX12_openBelow 22 = .ok (.getfield 51, 3) := by decide +kernel
theorem dX12_openBelow_25 : decode cX12_openBelow 25 = .ok (.aload_n 0, 1) := by decide +kernel
theorem dX12_openBelow_26 : decode cX12_openBelow 26 = .ok (.getfield 10, 3) := by decide +kernel
theorem dX12_openBelow_29 : decode cX12_openBelow 29 = .ok (.getfield 51, 3) := by decide +kernel
theorem dX12_openBelow_32 : decode cX12_openBelow 32 = .ok (.iload_n 1, 1) := by decide +kernel
theorem dX12_openBelow_33 : decode cX12_openBelow 33 = .ok (.invokevirtual 76, 3) := by decide +kernel
theorem dX12_openBelow_36 : decode cX12_openBelow 36 = .ok (.iload_n 1, 1) := by decide +kernel
theorem dX12_openBelow_37 : decode cX12_openBelow 37 = .ok (.invokevirtual 68, 3) := by decide +kernel
theorem dX12_openBelow_40 : decode cX12_openBelow 40 = .ok (.ireturn, 1) := by decide +kernel
theorem dX12_post_0 : decode cX12_post 0 = .ok (.aload_n 0, 1) := by decide +kernel
theorem dX12_post_1 : decode cX12_post 1 = .ok (.getfield 10, 3) := by decide +kernel
theorem dX12_post_4 : decode cX12_post 4 = .ok (.getfield 51, 3) := by decide +kernel
theorem dX12_post_7 : decode cX12_post 7 = .ok (.iload_n 1, 1) := by decide +kernel
theorem dX12_post_8 : decode cX12_post 8 = .ok (.iload_n 2, 1) := by decide +kernel
theorem dX12_post_9 : decode cX12_post 9 = .ok (.iload_n 3, 1) := by decide +kernel
theorem dX12_post_10 : decode cX12_post 10 = .ok (.invokevirtual 80, 3) := by decide +kernel
theorem dX12_post_13 : decode cX12_post 13 = .ok (.invokestatic 61, 3) := by decide +kernel
theorem dX12_post_16 : decode cX12_post 16 = .ok (.aload_n 0, 1) := by decide +kernel
theorem dX12_post_17 : decode cX12_post 17 = .ok (.invokevirtual 65, 3) := by decide +kernel
theorem dX12_post_20 : decode cX12_post 20 = .ok (.aload_n 0, 1) := by decide +kernel
theorem dX12_post_21 : decode cX12_post 21 = .ok (.getfield 10, 3) := by decide +kernel
theorem dX12_post_24 : decode cX12_post 24 = .ok (.iload_n 1, 1) := by decide +kernel
theorem dX12_post_25 : decode cX12_post 25 = .ok (.iload_n 2, 1) := by decide +kernel
theorem dX12_post_26 : decode cX12_post 26 = .ok (.iload_n 3, 1) := by decide +kernel
theorem dX12_post_27 : decode cX12_post 27 = .ok (.i2l, 1) := by decide +kernel
theorem dX12_post_28 : decode cX12_post 28 = .ok (.invokevirtual 84, 3) := by decide +kernel
theorem dX12_post_31 : decode cX12_post 31 = .ok (.ireturn, 1) := by decide +kernel
theorem dX12_reverse_0 : decode cX12_reverse 0 = .ok (.aload_n 0, 1) := by decide +kernel
theorem dX12_reverse_1 : decode cX12_reverse 1 = .ok (.getfield 10, 3) := by decide +kernel
theorem dX12_reverse_4 : decode cX12_reverse 4 = .ok (.getfield 88, 3) := by decide +kernel
theorem dX12_reverse_7 : decode cX12_reverse 7 = .ok (.iload_n 1, 1) := by decide +kernel
theorem dX12_reverse_8 : decode cX12_reverse 8 = .ok (.invokevirtual 92, 3) := by decide +kernel
theorem dX12_reverse_11 : decode cX12_reverse 11 = .ok (.invokestatic 61, 3) := by decide +kernel
theorem dX12_reverse_14 : decode cX12_reverse 14 = .ok (.aload_n 0, 1) := by decide +kernel
theorem dX12_reverse_15 : decode cX12_reverse 15 = .ok (.invokevirtual 65, 3) := by decide +kernel
theorem dX12_reverse_18 : decode cX12_reverse 18 = .ok (.aload_n 0, 1) := by decide +kernel
theorem dX12_reverse_19 : decode cX12_reverse 19 = .ok (.getfield 10, 3) := by decide +kernel
theorem dX12_reverse_22 : decode cX12_reverse 22 = .ok (.iload_n 1, 1) := by decide +kernel
theorem dX12_reverse_23 : decode cX12_reverse 23 = .ok (.invokevirtual 97, 3) := by decide +kernel
theorem dX12_reverse_26 : decode cX12_reverse 26 = .ok (.ireturn, 1) := by decide +kernel
theorem dX12_prompt_0 : decode cX12_prompt 0 = .ok (.aload_n 0, 1) := by decide +kernel
theorem dX12_prompt_1 : decode cX12_prompt 1 = .ok (.getfield 10, 3) := by decide +kernel
theorem dX12_prompt_4 : decode cX12_prompt 4 = .ok (.getfield 51, 3) := by decide +kernel
theorem dX12_prompt_7 : decode cX12_prompt 7 = .ok (.iload_n 1, 1) := by decide +kernel
theorem dX12_prompt_8 : decode cX12_prompt 8 = .ok (.iload_n 2, 1) := by decide +kernel
theorem dX12_prompt_9 : decode cX12_prompt 9 = .ok (.iload_n 3, 1) := by decide +kernel
theorem dX12_prompt_10 : decode cX12_prompt 10 = .ok (.invokevirtual 80, 3) := by decide +kernel
theorem dX12_prompt_13 : decode cX12_prompt 13 = .ok (.invokestatic 61, 3) := by decide +kernel
theorem dX12_prompt_16 : decode cX12_prompt 16 = .ok (.aload_n 0, 1) := by decide +kernel
theorem dX12_prompt_17 : decode cX12_prompt 17 = .ok (.getfield 10, 3) := by decide +kernel
theorem dX12_prompt_20 : decode cX12_prompt 20 = .ok (.getfield 101, 3) := by decide +kernel
theorem dX12_prompt_23 : decode cX12_prompt 23 = .ok (.iload 4, 2) := by decide +kernel
theorem dX12_prompt_25 : decode cX12_prompt 25 = .ok (.iload 5, 2) := by decide +kernel
theorem dX12_prompt_27 : decode cX12_prompt 27 = .ok (.invokevirtual 105, 3) := by decide +kernel
theorem dX12_prompt_30 : decode cX12_prompt 30 = .ok (.invokestatic 61, 3) := by decide +kernel
theorem dX12_prompt_33 : decode cX12_prompt 33 = .ok (.aload_n 0, 1) := by decide +kernel
theorem dX12_prompt_34 : decode cX12_prompt 34 = .ok (.invokevirtual 65, 3) := by decide +kernel
theorem dX12_prompt_37 : decode cX12_prompt 37 = .ok (.aload_n 0, 1) := by decide +kernel
theorem dX12_prompt_38 : decode cX12_prompt 38 = .ok (.getfield 10, 3) := by decide +kernel
theorem dX12_prompt_41 : decode cX12_prompt 41 = .ok (.getfield 101, 3) := by decide +kernel
theorem dX12_prompt_44 : decode cX12_prompt 44 = .ok (.iload_n 1, 1) := by decide +kernel
theorem dX12_prompt_45 : decode cX12_prompt 45 = .ok (.iload_n 2, 1) := by decide +kernel
theorem dX12_prompt_46 : decode cX12_prompt 46 = .ok (.iload_n 3, 1) := by decide +kernel
theorem dX12_prompt_47 : decode cX12_prompt 47 = .ok (.iload 4, 2) := by decide +kernel
theorem dX12_prompt_49 : decode cX12_prompt 49 = .ok (.iload 5, 2) := by decide +kernel
theorem dX12_prompt_51 : decode cX12_prompt 51 = .ok (.invokevirtual 110, 3) := by decide +kernel
theorem dX12_prompt_54 : decode cX12_prompt 54 = .ok (.ireturn, 1) := by decide +kernel
theorem dX12_cancelPrompt_0 : decode cX12_cancelPrompt 0 = .ok (.aload_n 0, 1) := by decide +kernel
theorem dX12_cancelPrompt_1 : decode cX12_cancelPrompt 1 = .ok (.iload_n 1, 1) := by decide +kernel
theorem dX12_cancelPrompt_2 : decode cX12_cancelPrompt 2 = .ok (.invokevirtual 113, 3) := by decide +kernel
theorem dX12_cancelPrompt_5 : decode cX12_cancelPrompt 5 = .ok (.aload_n 0, 1) := by decide +kernel
theorem dX12_cancelPrompt_6 : decode cX12_cancelPrompt 6 = .ok (.invokevirtual 65, 3) := by decide +kernel
theorem dX12_cancelPrompt_9 : decode cX12_cancelPrompt 9 = .ok (.aload_n 0, 1) := by decide +kernel
theorem dX12_cancelPrompt_10 : decode cX12_cancelPrompt 10 = .ok (.getfield 10, 3) := by decide +kernel
theorem dX12_cancelPrompt_13 : decode cX12_cancelPrompt 13 = .ok (.getfield 101, 3) := by decide +kernel
theorem dX12_cancelPrompt_16 : decode cX12_cancelPrompt 16 = .ok (.iload_n 1, 1) := by decide +kernel
theorem dX12_cancelPrompt_17 : decode cX12_cancelPrompt 17 = .ok (.invokevirtual 117, 3) := by decide +kernel
theorem dX12_cancelPrompt_20 : decode cX12_cancelPrompt 20 = .ok (.ireturn, 1) := by decide +kernel
theorem dX12_passHours_0 : decode cX12_passHours 0 = .ok (.iload_n 1, 1) := by decide +kernel
theorem dX12_passHours_1 : decode cX12_passHours 1 = .ok (.invokestatic 120, 3) := by decide +kernel
theorem dX12_passHours_4 : decode cX12_passHours 4 = .ok (.invokestatic 61, 3) := by decide +kernel
theorem dX12_passHours_7 : decode cX12_passHours 7 = .ok (.aload_n 0, 1) := by decide +kernel
theorem dX12_passHours_8 : decode cX12_passHours 8 = .ok (.invokevirtual 65, 3) := by decide +kernel
theorem dX12_passHours_11 : decode cX12_passHours 11 = .ok (.aload_n 0, 1) := by decide +kernel
theorem dX12_passHours_12 : decode cX12_passHours 12 = .ok (.getfield 10, 3) := by decide +kernel
theorem dX12_passHours_15 : decode cX12_passHours 15 = .ok (.iload_n 1, 1) := by decide +kernel
theorem dX12_passHours_16 : decode cX12_passHours 16 = .ok (.invokevirtual 123, 3) := by decide +kernel
theorem dX12_passHours_19 : decode cX12_passHours 19 = .ok (.ireturn, 1) := by decide +kernel
theorem dX12_buy_0 : decode cX12_buy 0 = .ok (.aload_n 0, 1) := by decide +kernel
theorem dX12_buy_1 : decode cX12_buy 1 = .ok (.getfield 10, 3) := by decide +kernel
theorem dX12_buy_4 : decode cX12_buy 4 = .ok (.iload_n 1, 1) := by decide +kernel
theorem dX12_buy_5 : decode cX12_buy 5 = .ok (.iload_n 2, 1) := by decide +kernel
theorem dX12_buy_6 : decode cX12_buy 6 = .ok (.invokevirtual 126, 3) := by decide +kernel
theorem dX12_buy_9 : decode cX12_buy 9 = .ok (.invokestatic 61, 3) := by decide +kernel
theorem dX12_buy_12 : decode cX12_buy 12 = .ok (.aload_n 0, 1) := by decide +kernel
theorem dX12_buy_13 : decode cX12_buy 13 = .ok (.invokevirtual 65, 3) := by decide +kernel
theorem dX12_buy_16 : decode cX12_buy 16 = .ok (.aload_n 0, 1) := by decide +kernel
theorem dX12_buy_17 : decode cX12_buy 17 = .ok (.getfield 10, 3) := by decide +kernel
theorem dX12_buy_20 : decode cX12_buy 20 = .ok (.iload_n 1, 1) := by decide +kernel
theorem dX12_buy_21 : decode cX12_buy 21 = .ok (.iload_n 2, 1) := by decide +kernel
theorem dX12_buy_22 : decode cX12_buy 22 = .ok (.invokevirtual 129, 3) := by decide +kernel
theorem dX12_buy_25 : decode cX12_buy 25 = .ok (.ireturn, 1) := by decide +kernel
theorem dX12_sell_0 : decode cX12_sell 0 = .ok (.aload_n 0, 1) := by decide +kernel
theorem dX12_sell_1 : decode cX12_sell 1 = .ok (.getfield 10, 3) := by decide +kernel
theorem dX12_sell_4 : decode cX12_sell 4 = .ok (.getfield 133, 3) := by decide +kernel
theorem dX12_sell_7 : decode cX12_sell 7 = .ok (.iload_n 1, 1) := by decide +kernel
theorem dX12_sell_8 : decode cX12_sell 8 = .ok (.iload_n 2, 1) := by decide +kernel
theorem dX12_sell_9 : decode cX12_sell 9 = .ok (.invokevirtual 137, 3) := by decide +kernel
theorem dX12_sell_12 : decode cX12_sell 12 = .ok (.invokestatic 61, 3) := by decide +kernel
theorem dX12_sell_15 : decode cX12_sell 15 = .ok (.aload_n 0, 1) := by decide +kernel
theorem dX12_sell_16 : decode cX12_sell 16 = .ok (.invokevirtual 65, 3) := by decide +kernel
theorem dX12_sell_19 : decode cX12_sell 19 = .ok (.aload_n 0, 1) := by decide +kernel
theorem dX12_sell_20 : decode cX12_sell 20 = .ok (.getfield 10, 3) := by decide +kernel
theorem dX12_sell_23 : decode cX12_sell 23 = .ok (.iload_n 1, 1) := by decide +kernel
theorem dX12_sell_24 : decode cX12_sell 24 = .ok (.iload_n 2, 1) := by decide +kernel
theorem dX12_sell_25 : decode cX12_sell 25 = .ok (.invokevirtual 142, 3) := by decide +kernel
theorem dX12_sell_28 : decode cX12_sell 28 = .ok (.ireturn, 1) := by decide +kernel
theorem dX12_bill_0 : decode cX12_bill 0 = .ok (.aload_n 0, 1) := by decide +kernel
theorem dX12_bill_1 : decode cX12_bill 1 = .ok (.getfield 10, 3) := by decide +kernel
theorem dX12_bill_4 : decode cX12_bill 4 = .ok (.getfield 145, 3) := by decide +kernel
theorem dX12_bill_7 : decode cX12_bill 7 = .ok (.iload_n 1, 1) := by decide +kernel
theorem dX12_bill_8 : decode cX12_bill 8 = .ok (.invokevirtual 149, 3) := by decide +kernel
theorem dX12_bill_11 : decode cX12_bill 11 = .ok (.invokestatic 61, 3) := by decide +kernel
theorem dX12_bill_14 : decode cX12_bill 14 = .ok (.aload_n 0, 1) := by decide +kernel
theorem dX12_bill_15 : decode cX12_bill 15 = .ok (.invokevirtual 65, 3) := by decide +kernel
theorem dX12_bill_18 : decode cX12_bill 18 = .ok (.aload_n 0, 1) := by decide +kernel
theorem dX12_bill_19 : decode cX12_bill 19 = .ok (.getfield 10, 3) := by decide +kernel
theorem dX12_bill_22 : decode cX12_bill 22 = .ok (.iload_n 1, 1) := by decide +kernel
theorem dX12_bill_23 : decode cX12_bill 23 = .ok (.invokevirtual 153, 3) := by decide +kernel
theorem dX12_bill_26 : decode cX12_bill 26 = .ok (.ireturn, 1) := by decide +kernel
theorem dX12_pay_0 : decode cX12_pay 0 = .ok (.aload_n 0, 1) := by decide +kernel
theorem dX12_pay_1 : decode cX12_pay 1 = .ok (.getfield 10, 3) := by decide +kernel
theorem dX12_pay_4 : decode cX12_pay 4 = .ok (.getfield 145, 3) := by decide +kernel
theorem dX12_pay_7 : decode cX12_pay 7 = .ok (.iload_n 1, 1) := by decide +kernel
theorem dX12_pay_8 : decode cX12_pay 8 = .ok (.invokevirtual 156, 3) := by decide +kernel
theorem dX12_pay_11 : decode cX12_pay 11 = .ok (.invokestatic 61, 3) := by decide +kernel
theorem dX12_pay_14 : decode cX12_pay 14 = .ok (.aload_n 0, 1) := by decide +kernel
theorem dX12_pay_15 : decode cX12_pay 15 = .ok (.invokevirtual 65, 3) := by decide +kernel
theorem dX12_pay_18 : decode cX12_pay 18 = .ok (.aload_n 0, 1) := by decide +kernel
theorem dX12_pay_19 : decode cX12_pay 19 = .ok (.getfield 10, 3) := by decide +kernel
theorem dX12_pay_22 : decode cX12_pay 22 = .ok (.iload_n 1, 1) := by decide +kernel
theorem dX12_pay_23 : decode cX12_pay 23 = .ok (.aload_n 0, 1) := by decide +kernel
theorem dX12_pay_24 : decode cX12_pay 24 = .ok (.getfield 29, 3) := by decide +kernel
theorem dX12_pay_27 : decode cX12_pay 27 = .ok (.aload_n 0, 1) := by decide +kernel
theorem dX12_pay_28 : decode cX12_pay 28 = .ok (.getfield 10, 3) := by decide +kernel
theorem dX12_pay_31 : decode cX12_pay 31 = .ok (.getfield 145, 3) := by decide +kernel
theorem dX12_pay_34 : decode cX12_pay 34 = .ok (.iload_n 1, 1) := by decide +kernel
theorem dX12_pay_35 : decode cX12_pay 35 = .ok (.invokevirtual 159, 3) := by decide +kernel
theorem dX12_pay_38 : decode cX12_pay 38 = .ok (.invokevirtual 163, 3) := by decide +kernel
theorem dX12_pay_41 : decode cX12_pay 41 = .ok (.ireturn, 1) := by decide +kernel
theorem dX12_curtain_0 : decode cX12_curtain 0 = .ok (.aload_n 0, 1) := by decide +kernel
theorem dX12_curtain_1 : decode cX12_curtain 1 = .ok (.invokevirtual 65, 3) := by decide +kernel
theorem dX12_curtain_4 : decode cX12_curtain 4 = .ok (.aload_n 0, 1) := by decide +kernel
theorem dX12_curtain_5 : decode cX12_curtain 5 = .ok (.getfield 10, 3) := by decide +kernel
theorem dX12_curtain_8 : decode cX12_curtain 8 = .ok (.invokevirtual 166, 3) := by decide +kernel
theorem dX12_curtain_11 : decode cX12_curtain 11 = .ok (.l2i, 1) := by decide +kernel
theorem dX12_curtain_12 : decode cX12_curtain 12 = .ok (.ireturn, 1) := by decide +kernel
theorem dX12_hour_0 : decode cX12_hour 0 = .ok (.aload_n 0, 1) := by decide +kernel
theorem dX12_hour_1 : decode cX12_hour 1 = .ok (.getfield 10, 3) := by decide +kernel
theorem dX12_hour_4 : decode cX12_hour 4 = .ok (.getfield 170, 3) := by decide +kernel
theorem dX12_hour_7 : decode cX12_hour 7 = .ok (.ireturn, 1) := by decide +kernel
theorem dX12_accountCount_0 : decode cX12_accountCount 0 = .ok (.aload_n 0, 1) := by decide +kernel
theorem dX12_accountCount_1 : decode cX12_accountCount 1 = .ok (.getfield 10, 3) := by decide +kernel
theorem dX12_accountCount_4 : decode cX12_accountCount 4 = .ok (.getfield 51, 3) := by decide +kernel
theorem dX12_accountCount_7 : decode cX12_accountCount 7 = .ok (.getfield 173, 3) := by decide +kernel
theorem dX12_accountCount_10 : decode cX12_accountCount 10 = .ok (.ireturn, 1) := by decide +kernel
theorem dX12_kind_0 : decode cX12_kind 0 = .ok (.aload_n 0, 1) := by decide +kernel
theorem dX12_kind_1 : decode cX12_kind 1 = .ok (.iload_n 1, 1) := by decide +kernel
theorem dX12_kind_2 : decode cX12_kind 2 = .ok (.invokevirtual 176, 3) := by decide +kernel
theorem dX12_kind_5 : decode cX12_kind 5 = .ok (.aload_n 0, 1) := by decide +kernel
theorem dX12_kind_6 : decode cX12_kind 6 = .ok (.getfield 10, 3) := by decide +kernel
theorem dX12_kind_9 : decode cX12_kind 9 = .ok (.getfield 51, 3) := by decide +kernel
theorem dX12_kind_12 : decode cX12_kind 12 = .ok (.iload_n 1, 1) := by decide +kernel
theorem dX12_kind_13 : decode cX12_kind 13 = .ok (.invokevirtual 76, 3) := by decide +kernel
theorem dX12_kind_16 : decode cX12_kind 16 = .ok (.ireturn, 1) := by decide +kernel
theorem dX12_parent_0 : decode cX12_parent 0 = .ok (.aload_n 0, 1) := by decide +kernel
theorem dX12_parent_1 : decode cX12_parent 1 = .ok (.iload_n 1, 1) := by decide +kernel
theorem dX12_parent_2 : decode cX12_parent 2 = .ok (.invokevirtual 176, 3) := by decide +kernel
theorem dX12_parent_5 : decode cX12_parent 5 = .ok (.aload_n 0, 1) := by decide +kernel
theorem dX12_parent_6 : decode cX12_parent 6 = .ok (.getfield 10, 3) := by decide +kernel
theorem dX12_parent_9 : decode cX12_parent 9 = .ok (.getfield 51, 3) := by decide +kernel
theorem dX12_parent_12 : decode cX12_parent 12 = .ok (.iload_n 1, 1) := by decide +kernel
theorem dX12_parent_13 : decode cX12_parent 13 = .ok (.invokevirtual 179, 3) := by decide +kernel
theorem dX12_parent_16 : decode cX12_parent 16 = .ok (.istore_n 2, 1) := by decide +kernel
theorem dX12_parent_17 : decode cX12_parent 17 = .ok (.iload_n 2, 1) := by decide +kernel
theorem dX12_parent_18 : decode cX12_parent 18 = .ok (.iconst (-1), 1) := by decide +kernel
theorem dX12_parent_19 : decode cX12_parent 19 = .ok (.if_icmp .ne 13, 3) := by decide +kernel
theorem dX12_parent_22 : decode cX12_parent 22 = .ok (.new 182, 3) := by decide +kernel
theorem dX12_parent_25 : decode cX12_parent 25 = .ok (.dup, 1) := by decide +kernel
theorem dX12_parent_26 : decode cX12_parent 26 = .ok (.ldc 184, 2) := by decide +kernel
theorem dX12_parent_28 : decode cX12_parent 28 = .ok (.invokespecial 186, 3) := by decide +kernel
theorem dX12_parent_31 : decode cX12_parent 31 = .ok (.athrow, 1) := by decide +kernel
theorem dX12_parent_32 : decode cX12_parent 32 = .ok (.iload_n 2, 1) := by decide +kernel
theorem dX12_parent_33 : decode cX12_parent 33 = .ok (.ireturn, 1) := by decide +kernel
theorem dX12_debits_0 : decode cX12_debits 0 = .ok (.aload_n 0, 1) := by decide +kernel
theorem dX12_debits_1 : decode cX12_debits 1 = .ok (.iload_n 1, 1) := by decide +kernel
theorem dX12_debits_2 : decode cX12_debits 2 = .ok (.invokevirtual 176, 3) := by decide +kernel
theorem dX12_debits_5 : decode cX12_debits 5 = .ok (.aload_n 0, 1) := by decide +kernel
theorem dX12_debits_6 : decode cX12_debits 6 = .ok (.getfield 10, 3) := by decide +kernel
theorem dX12_debits_9 : decode cX12_debits 9 = .ok (.getfield 51, 3) := by decide +kernel
theorem dX12_debits_12 : decode cX12_debits 12 = .ok (.iload_n 1, 1) := by decide +kernel
theorem dX12_debits_13 : decode cX12_debits 13 = .ok (.invokevirtual 189, 3) := by decide +kernel
theorem dX12_debits_16 : decode cX12_debits 16 = .ok (.lreturn, 1) := by decide +kernel
theorem dX12_credits_0 : decode cX12_credits 0 = .ok (.aload_n 0, 1) := by decide +kernel
theorem dX12_credits_1 : decode cX12_credits 1 = .ok (.iload_n 1, 1) := by decide +kernel
theorem dX12_credits_2 : decode cX12_credits 2 = .ok (.invokevirtual 176, 3) := by decide +kernel
theorem dX12_credits_5 : decode cX12_credits 5 = .ok (.aload_n 0, 1) := by decide +kernel
theorem dX12_credits_6 : decode cX12_credits 6 = .ok (.getfield 10, 3) := by decide +kernel
theorem dX12_credits_9 : decode cX12_credits 9 = .ok (.getfield 51, 3) := by decide +kernel
theorem dX12_credits_12 : decode cX12_credits 12 = .ok (.iload_n 1, 1) := by decide +kernel
theorem dX12_credits_13 : decode cX12_credits 13 = .ok (.invokevirtual 193, 3) := by decide +kernel
theorem dX12_credits_16 : decode cX12_credits 16 = .ok (.lreturn, 1) := by decide +kernel
theorem dX12_balance_0 : decode cX12_balance 0 = .ok (.aload_n 0, 1) := by decide +kernel
theorem dX12_balance_1 : decode cX12_balance 1 = .ok (.iload_n 1, 1) := by decide +kernel
theorem dX12_balance_2 : decode cX12_balance 2 = .ok (.invokevirtual 176, 3) := by decide +kernel
theorem dX12_balance_5 : decode cX12_balance 5 = .ok (.aload_n 0, 1) := by decide +kernel
theorem dX12_balance_6 : decode cX12_balance 6 = .ok (.getfield 10, 3) := by decide +kernel
theorem dX12_balance_9 : decode cX12_balance 9 = .ok (.getfield 51, 3) := by decide +kernel
theorem dX12_balance_12 : decode cX12_balance 12 = .ok (.iload_n 1, 1) := by decide +kernel
theorem dX12_balance_13 : decode cX12_balance 13 = .ok (.invokevirtual 196, 3) := by decide +kernel
theorem dX12_balance_16 : decode cX12_balance 16 = .ok (.lreturn, 1) := by decide +kernel
theorem dX12_treeBalance_0 : decode cX12_treeBalance 0 = .ok (.aload_n 0, 1) := by decide +kernel
theorem dX12_treeBalance_1 : decode cX12_treeBalance 1 = .ok (.iload_n 1, 1) := by decide +kernel
theorem dX12_treeBalance_2 : decode cX12_treeBalance 2 = .ok (.invokevirtual 176, 3) := by decide +kernel
theorem dX12_treeBalance_5 : decode cX12_treeBalance 5 = .ok (.aload_n 0, 1) := by decide +kernel
theorem dX12_treeBalance_6 : decode cX12_treeBalance 6 = .ok (.getfield 10, 3) := by decide +kernel
theorem dX12_treeBalance_9 : decode cX12_treeBalance 9 = .ok (.getfield 51, 3) := by decide +kernel
theorem dX12_treeBalance_12 : decode cX12_treeBalance 12 = .ok (.iload_n 1, 1) := by decide +kernel
theorem dX12_treeBalance_13 : decode cX12_treeBalance 13 = .ok (.invokevirtual 199, 3) := by decide +kernel
theorem dX12_treeBalance_16 : decode cX12_treeBalance 16 = .ok (.lreturn, 1) := by decide +kernel
theorem dX12_treeBalanceByParents_0 : decode cX12_treeBalanceByParents 0 = .ok (.aload_n 0, 1) := by decide +kernel
theorem dX12_treeBalanceByParents_1 : decode cX12_treeBalanceByParents 1 = .ok (.iload_n 1, 1) := by decide +kernel
theorem dX12_treeBalanceByParents_2 : decode cX12_treeBalanceByParents 2 = .ok (.invokevirtual 176, 3) := by decide +kernel
theorem dX12_treeBalanceByParents_5 : decode cX12_treeBalanceByParents 5 = .ok (.aload_n 0, 1) := by decide +kernel
theorem dX12_treeBalanceByParents_6 : decode cX12_treeBalanceByParents 6 = .ok (.getfield 10, 3) := by decide +kernel
theorem dX12_treeBalanceByParents_9 : decode cX12_treeBalanceByParents 9 = .ok (.getfield 51, 3) := by decide +kernel
theorem dX12_treeBalanceByParents_12 : decode cX12_treeBalanceByParents 12 = .ok (.iload_n 1, 1) := by decide +kernel
theorem dX12_treeBalanceByParents_13 : decode cX12_treeBalanceByParents 13 = .ok (.invokevirtual 202, 3) := by decide +kernel
theorem dX12_treeBalanceByParents_16 : decode cX12_treeBalanceByParents 16 = .ok (.lreturn, 1) := by decide +kernel
theorem dX12_treeSize_0 : decode cX12_treeSize 0 = .ok (.aload_n 0, 1) := by decide +kernel
theorem dX12_treeSize_1 : decode cX12_treeSize 1 = .ok (.iload_n 1, 1) := by decide +kernel
theorem dX12_treeSize_2 : decode cX12_treeSize 2 = .ok (.invokevirtual 176, 3) := by decide +kernel
theorem dX12_treeSize_5 : decode cX12_treeSize 5 = .ok (.aload_n 0, 1) := by decide +kernel
theorem dX12_treeSize_6 : decode cX12_treeSize 6 = .ok (.getfield 10, 3) := by decide +kernel
theorem dX12_treeSize_9 : decode cX12_treeSize 9 = .ok (.getfield 51, 3) := by decide +kernel
theorem dX12_treeSize_12 : decode cX12_treeSize 12 = .ok (.iload_n 1, 1) := by decide +kernel
theorem dX12_treeSize_13 : decode cX12_treeSize 13 = .ok (.invokevirtual 205, 3) := by decide +kernel
theorem dX12_treeSize_16 : decode cX12_treeSize 16 = .ok (.ireturn, 1) := by decide +kernel
theorem dX12_sumOfDebits_0 : decode cX12_sumOfDebits 0 = .ok (.aload_n 0, 1) := by decide +kernel
theorem dX12_sumOfDebits_1 : decode cX12_sumOfDebits 1 = .ok (.getfield 10, 3) := by decide +kernel
theorem dX12_sumOfDebits_4 : decode cX12_sumOfDebits 4 = .ok (.getfield 51, 3) := by decide +kernel
theorem dX12_sumOfDebits_7 : decode cX12_sumOfDebits 7 = .ok (.invokevirtual 208, 3) := by decide +kernel
theorem dX12_sumOfDebits_10 : decode cX12_sumOfDebits 10 = .ok (.lreturn, 1) := by decide +kernel
theorem dX12_sumOfCredits_0 : decode cX12_sumOfCredits 0 = .ok (.aload_n 0, 1) := by decide +kernel
theorem dX12_sumOfCredits_1 : decode cX12_sumOfCredits 1 = .ok (.getfield 10, 3) := by decide +kernel
theorem dX12_sumOfCredits_4 : decode cX12_sumOfCredits 4 = .ok (.getfield 51, 3) := by decide +kernel
theorem dX12_sumOfCredits_7 : decode cX12_sumOfCredits 7 = .ok (.invokevirtual 211, 3) := by decide +kernel
theorem dX12_sumOfCredits_10 : decode cX12_sumOfCredits 10 = .ok (.lreturn, 1) := by decide +kernel
theorem dX12_profit_0 : decode cX12_profit 0 = .ok (.aload_n 0, 1) := by decide +kernel
theorem dX12_profit_1 : decode cX12_profit 1 = .ok (.getfield 10, 3) := by decide +kernel
theorem dX12_profit_4 : decode cX12_profit 4 = .ok (.getfield 51, 3) := by decide +kernel
theorem dX12_profit_7 : decode cX12_profit 7 = .ok (.invokevirtual 214, 3) := by decide +kernel
theorem dX12_profit_10 : decode cX12_profit 10 = .ok (.lreturn, 1) := by decide +kernel
theorem dX12_accountByBalance_0 : decode cX12_accountByBalance 0 = .ok (.iload_n 1, 1) := by decide +kernel
theorem dX12_accountByBalance_1 : decode cX12_accountByBalance 1 = .ok (.iconst 0, 1) := by decide +kernel
theorem dX12_accountByBalance_2 : decode cX12_accountByBalance 2 = .ok (.aload_n 0, 1) := by decide +kernel
theorem dX12_accountByBalance_3 : decode cX12_accountByBalance 3 = .ok (.getfield 10, 3) := by decide +kernel
theorem dX12_accountByBalance_6 : decode cX12_accountByBalance 6 = .ok (.getfield 51, 3) := by decide +kernel
theorem dX12_accountByBalance_9 : decode cX12_accountByBalance 9 = .ok (.getfield 173, 3) := by decide +kernel
theorem dX12_accountByBalance_12 : decode cX12_accountByBalance 12 = .ok (.iconst 1, 1) := by decide +kernel
theorem dX12_accountByBalance_13 : decode cX12_accountByBalance 13 = .ok (.isub, 1) := by decide +kernel
theorem dX12_accountByBalance_14 : decode cX12_accountByBalance 14 = .ok (.invokestatic 217, 3) := by decide +kernel
theorem dX12_accountByBalance_17 : decode cX12_accountByBalance 17 = .ok (.ifCond .ne 13, 3) := by decide +kernel
theorem dX12_accountByBalance_20 : decode cX12_accountByBalance 20 = .ok (.new 182, 3) := by decide +kernel
theorem dX12_accountByBalance_23 : decode cX12_accountByBalance 23 = .ok (.dup, 1) := by decide +kernel
theorem dX12_accountByBalance_24 : decode cX12_accountByBalance 24 = .ok (.ldc 221, 2) := by decide +kernel
theorem dX12_accountByBalance_26 : decode cX12_accountByBalance 26 = .ok (.invokespecial 186, 3) := by decide +kernel
theorem dX12_accountByBalance_29 : decode cX12_accountByBalance 29 = .ok (.athrow, 1) := by decide +kernel
theorem dX12_accountByBalance_30 : decode cX12_accountByBalance 30 = .ok (.aload_n 0, 1) := by decide +kernel
theorem dX12_accountByBalance_31 : decode cX12_accountByBalance 31 = .ok (.getfield 10, 3) := by decide +kernel
theorem dX12_accountByBalance_34 : decode cX12_accountByBalance 34 = .ok (.getfield 51, 3) := by decide +kernel
theorem dX12_accountByBalance_37 : decode cX12_accountByBalance 37 = .ok (.iload_n 1, 1) := by decide +kernel
theorem dX12_accountByBalance_38 : decode cX12_accountByBalance 38 = .ok (.invokevirtual 223, 3) := by decide +kernel
theorem dX12_accountByBalance_41 : decode cX12_accountByBalance 41 = .ok (.ireturn, 1) := by decide +kernel
theorem dX12_curtainCount_0 : decode cX12_curtainCount 0 = .ok (.aload_n 0, 1) := by decide +kernel
theorem dX12_curtainCount_1 : decode cX12_curtainCount 1 = .ok (.getfield 10, 3) := by decide +kernel
theorem dX12_curtainCount_4 : decode cX12_curtainCount 4 = .ok (.getfield 226, 3) := by decide +kernel
theorem dX12_curtainCount_7 : decode cX12_curtainCount 7 = .ok (.ireturn, 1) := by decide +kernel
theorem dX12_claimShare_0 : decode cX12_claimShare 0 = .ok (.aload_n 0, 1) := by decide +kernel
theorem dX12_claimShare_1 : decode cX12_claimShare 1 = .ok (.getfield 10, 3) := by decide +kernel
theorem dX12_claimShare_4 : decode cX12_claimShare 4 = .ok (.getfield 51, 3) := by decide +kernel
theorem dX12_claimShare_7 : decode cX12_claimShare 7 = .ok (.iconst 2, 1) := by decide +kernel
theorem dX12_claimShare_8 : decode cX12_claimShare 8 = .ok (.invokevirtual 196, 3) := by decide +kernel
theorem dX12_claimShare_11 : decode cX12_claimShare 11 = .ok (.lstore_n 1, 1) := by decide +kernel
theorem dX12_claimShare_12 : decode cX12_claimShare 12 = .ok (.aload_n 0, 1) := by decide +kernel
theorem dX12_claimShare_13 : decode cX12_claimShare 13 = .ok (.getfield 10, 3) := by decide +kernel
theorem dX12_claimShare_16 : decode cX12_claimShare 16 = .ok (.getfield 51, 3) := by decide +kernel
theorem dX12_claimShare_19 : decode cX12_claimShare 19 = .ok (.iconst 0, 1) := by decide +kernel
theorem dX12_claimShare_20 : decode cX12_claimShare 20 = .ok (.invokevirtual 196, 3) := by decide +kernel
theorem dX12_claimShare_23 : decode cX12_claimShare 23 = .ok (.aload_n 0, 1) := by decide +kernel
theorem dX12_claimShare_24 : decode cX12_claimShare 24 = .ok (.getfield 10, 3) := by decide +kernel
theorem dX12_claimShare_27 : decode cX12_claimShare 27 = .ok (.getfield 51, 3) := by decide +kernel
theorem dX12_claimShare_30 : decode cX12_claimShare 30 = .ok (.iconst 1, 1) := by decide +kernel
theorem dX12_claimShare_31 : decode cX12_claimShare 31 = .ok (.invokevirtual 196, 3) := by decide +kernel
theorem dX12_claimShare_34 : decode cX12_claimShare 34 = .ok (.ladd, 1) := by decide +kernel
theorem dX12_claimShare_35 : decode cX12_claimShare 35 = .ok (.lload_n 1, 1) := by decide +kernel
theorem dX12_claimShare_36 : decode cX12_claimShare 36 = .ok (.ladd, 1) := by decide +kernel
theorem dX12_claimShare_37 : decode cX12_claimShare 37 = .ok (.lstore_n 3, 1) := by decide +kernel
theorem dX12_claimShare_38 : decode cX12_claimShare 38 = .ok (.lload_n 3, 1) := by decide +kernel
theorem dX12_claimShare_39 : decode cX12_claimShare 39 = .ok (.lconst 0, 1) := by decide +kernel
theorem dX12_claimShare_40 : decode cX12_claimShare 40 = .ok (.lcmp, 1) := by decide +kernel
theorem dX12_claimShare_41 : decode cX12_claimShare 41 = .ok (.ifCond .ne 13, 3) := by decide +kernel
theorem dX12_claimShare_44 : decode cX12_claimShare 44 = .ok (.new 229, 3) := by decide +kernel
theorem dX12_claimShare_47 : decode cX12_claimShare 47 = .ok (.dup, 1) := by decide +kernel
theorem dX12_claimShare_48 : decode cX12_claimShare 48 = .ok (.ldc 231, 2) := by decide +kernel
theorem dX12_claimShare_50 : decode cX12_claimShare 50 = .ok (.invokespecial 233, 3) := by decide +kernel
theorem dX12_claimShare_53 : decode cX12_claimShare 53 = .ok (.athrow, 1) := by decide +kernel
theorem dX12_claimShare_54 : decode cX12_claimShare 54 = .ok (.lload_n 1, 1) := by decide +kernel
theorem dX12_claimShare_55 : decode cX12_claimShare 55 = .ok (.l2f, 1) := by decide +kernel
theorem dX12_claimShare_56 : decode cX12_claimShare 56 = .ok (.lload_n 3, 1) := by decide +kernel
theorem dX12_claimShare_57 : decode cX12_claimShare 57 = .ok (.l2f, 1) := by decide +kernel
theorem dX12_claimShare_58 : decode cX12_claimShare 58 = .ok (.fdiv, 1) := by decide +kernel
theorem dX12_claimShare_59 : decode cX12_claimShare 59 = .ok (.freturn, 1) := by decide +kernel
theorem dX12_entryCount_0 : decode cX12_entryCount 0 = .ok (.aload_n 0, 1) := by decide +kernel
theorem dX12_entryCount_1 : decode cX12_entryCount 1 = .ok (.getfield 10, 3) := by decide +kernel
theorem dX12_entryCount_4 : decode cX12_entryCount 4 = .ok (.getfield 88, 3) := by decide +kernel
theorem dX12_entryCount_7 : decode cX12_entryCount 7 = .ok (.invokevirtual 234, 3) := by decide +kernel
theorem dX12_entryCount_10 : decode cX12_entryCount 10 = .ok (.ireturn, 1) := by decide +kernel
theorem dX12_entryAt_0 : decode cX12_entryAt 0 = .ok (.iload_n 1, 1) := by decide +kernel
theorem dX12_entryAt_1 : decode cX12_entryAt 1 = .ok (.iconst 0, 1) := by decide +kernel
theorem dX12_entryAt_2 : decode cX12_entryAt 2 = .ok (.aload_n 0, 1) := by decide +kernel
theorem dX12_entryAt_3 : decode cX12_entryAt 3 = .ok (.getfield 10, 3) := by decide +kernel
theorem dX12_entryAt_6 : decode cX12_entryAt 6 = .ok (.getfield 88, 3) := by decide +kernel
theorem dX12_entryAt_9 : decode cX12_entryAt 9 = .ok (.invokevirtual 234, 3) := by decide +kernel
theorem dX12_entryAt_12 : decode cX12_entryAt 12 = .ok (.iconst 1, 1) := by decide +kernel
theorem dX12_entryAt_13 : decode cX12_entryAt 13 = .ok (.isub, 1) := by decide +kernel
theorem dX12_entryAt_14 : decode cX12_entryAt 14 = .ok (.invokestatic 217, 3) := by decide +kernel
theorem dX12_entryAt_17 : decode cX12_entryAt 17 = .ok (.ifCond .ne 13, 3) := by decide +kernel
theorem dX12_entryAt_20 : decode cX12_entryAt 20 = .ok (.new 182, 3) := by decide +kernel
theorem dX12_entryAt_23 : decode cX12_entryAt 23 = .ok (.dup, 1) := by decide +kernel
theorem dX12_entryAt_24 : decode cX12_entryAt 24 = .ok (.ldc 238, 2) := by decide +kernel
theorem dX12_entryAt_26 : decode cX12_entryAt 26 = .ok (.invokespecial 186, 3) := by decide +kernel
theorem dX12_entryAt_29 : decode cX12_entryAt 29 = .ok (.athrow, 1) := by decide +kernel
theorem dX12_entryAt_30 : decode cX12_entryAt 30 = .ok (.aload_n 0, 1) := by decide +kernel
theorem dX12_entryAt_31 : decode cX12_entryAt 31 = .ok (.getfield 10, 3) := by decide +kernel
theorem dX12_entryAt_34 : decode cX12_entryAt 34 = .ok (.getfield 88, 3) := by decide +kernel
theorem dX12_entryAt_37 : decode cX12_entryAt 37 = .ok (.iload_n 1, 1) := by decide +kernel
theorem dX12_entryAt_38 : decode cX12_entryAt 38 = .ok (.invokevirtual 240, 3) := by decide +kernel
theorem dX12_entryAt_41 : decode cX12_entryAt 41 = .ok (.ireturn, 1) := by decide +kernel
theorem dX12_debitOf_0 : decode cX12_debitOf 0 = .ok (.aload_n 0, 1) := by decide +kernel
theorem dX12_debitOf_1 : decode cX12_debitOf 1 = .ok (.iload_n 1, 1) := by decide +kernel
theorem dX12_debitOf_2 : decode cX12_debitOf 2 = .ok (.invokevirtual 243, 3) := by decide +kernel
theorem dX12_debitOf_5 : decode cX12_debitOf 5 = .ok (.aload_n 0, 1) := by decide +kernel
theorem dX12_debitOf_6 : decode cX12_debitOf 6 = .ok (.getfield 10, 3) := by decide +kernel
theorem dX12_debitOf_9 : decode cX12_debitOf 9 = .ok (.getfield 88, 3) := by decide +kernel
theorem dX12_debitOf_12 : decode cX12_debitOf 12 = .ok (.iload_n 1, 1) := by decide +kernel
theorem dX12_debitOf_13 : decode cX12_debitOf 13 = .ok (.invokevirtual 246, 3) := by decide +kernel
theorem dX12_debitOf_16 : decode cX12_debitOf 16 = .ok (.ireturn, 1) := by decide +kernel
theorem dX12_creditOf_0 : decode cX12_creditOf 0 = .ok (.aload_n 0, 1) := by decide +kernel
theorem dX12_creditOf_1 : decode cX12_creditOf 1 = .ok (.iload_n 1, 1) := by decide +kernel
theorem dX12_creditOf_2 : decode cX12_creditOf 2 = .ok (.invokevirtual 243, 3) := by decide +kernel
theorem dX12_creditOf_5 : decode cX12_creditOf 5 = .ok (.aload_n 0, 1) := by decide +kernel
theorem dX12_creditOf_6 : decode cX12_creditOf 6 = .ok (.getfield 10, 3) := by decide +kernel
theorem dX12_creditOf_9 : decode cX12_creditOf 9 = .ok (.getfield 88, 3) := by decide +kernel
theorem dX12_creditOf_12 : decode cX12_creditOf 12 = .ok (.iload_n 1, 1) := by decide +kernel
theorem dX12_creditOf_13 : decode cX12_creditOf 13 = .ok (.invokevirtual 249, 3) := by decide +kernel
theorem dX12_creditOf_16 : decode cX12_creditOf 16 = .ok (.ireturn, 1) := by decide +kernel
theorem dX12_amountOf_0 : decode cX12_amountOf 0 = .ok (.aload_n 0, 1) := by decide +kernel
theorem dX12_amountOf_1 : decode cX12_amountOf 1 = .ok (.iload_n 1, 1) := by decide +kernel
theorem dX12_amountOf_2 : decode cX12_amountOf 2 = .ok (.invokevirtual 243, 3) := by decide +kernel
theorem dX12_amountOf_5 : decode cX12_amountOf 5 = .ok (.aload_n 0, 1) := by decide +kernel
theorem dX12_amountOf_6 : decode cX12_amountOf 6 = .ok (.getfield 10, 3) := by decide +kernel
theorem dX12_amountOf_9 : decode cX12_amountOf 9 = .ok (.getfield 88, 3) := by decide +kernel
theorem dX12_amountOf_12 : decode cX12_amountOf 12 = .ok (.iload_n 1, 1) := by decide +kernel
theorem dX12_amountOf_13 : decode cX12_amountOf 13 = .ok (.invokevirtual 252, 3) := by decide +kernel
theorem dX12_amountOf_16 : decode cX12_amountOf 16 = .ok (.lreturn, 1) := by decide +kernel
theorem dX12_hourOf_0 : decode cX12_hourOf 0 = .ok (.aload_n 0, 1) := by decide +kernel
theorem dX12_hourOf_1 : decode cX12_hourOf 1 = .ok (.iload_n 1, 1) := by decide +kernel
theorem dX12_hourOf_2 : decode cX12_hourOf 2 = .ok (.invokevirtual 243, 3) := by decide +kernel
theorem dX12_hourOf_5 : decode cX12_hourOf 5 = .ok (.aload_n 0, 1) := by decide +kernel
theorem dX12_hourOf_6 : decode cX12_hourOf 6 = .ok (.getfield 10, 3) := by decide +kernel
theorem dX12_hourOf_9 : decode cX12_hourOf 9 = .ok (.getfield 88, 3) := by decide +kernel
theorem dX12_hourOf_12 : decode cX12_hourOf 12 = .ok (.iload_n 1, 1) := by decide +kernel
theorem dX12_hourOf_13 : decode cX12_hourOf 13 = .ok (.invokevirtual 255, 3) := by decide +kernel
theorem dX12_hourOf_16 : decode cX12_hourOf 16 = .ok (.ireturn, 1) := by decide +kernel
theorem dX12_isReversed_0 : decode cX12_isReversed 0 = .ok (.aload_n 0, 1) := by decide +kernel
theorem dX12_isReversed_1 : decode cX12_isReversed 1 = .ok (.iload_n 1, 1) := by decide +kernel
theorem dX12_isReversed_2 : decode cX12_isReversed 2 = .ok (.invokevirtual 243, 3) := by decide +kernel
theorem dX12_isReversed_5 : decode cX12_isReversed 5 = .ok (.aload_n 0, 1) := by decide +kernel
theorem dX12_isReversed_6 : decode cX12_isReversed 6 = .ok (.getfield 10, 3) := by decide +kernel
theorem dX12_isReversed_9 : decode cX12_isReversed 9 = .ok (.getfield 88, 3) := by decide +kernel
theorem dX12_isReversed_12 : decode cX12_isReversed 12 = .ok (.iload_n 1, 1) := by decide +kernel
theorem dX12_isReversed_13 : decode cX12_isReversed 13 = .ok (.invokevirtual 258, 3) := by decide +kernel
theorem dX12_isReversed_16 : decode cX12_isReversed 16 = .ok (.ireturn, 1) := by decide +kernel
theorem dX12_promptCount_0 : decode cX12_promptCount 0 = .ok (.aload_n 0, 1) := by decide +kernel
theorem dX12_promptCount_1 : decode cX12_promptCount 1 = .ok (.getfield 10, 3) := by decide +kernel
theorem dX12_promptCount_4 : decode cX12_promptCount 4 = .ok (.getfield 101, 3) := by decide +kernel
theorem dX12_promptCount_7 : decode cX12_promptCount 7 = .ok (.getfield 262, 3) := by decide +kernel
theorem dX12_promptCount_10 : decode cX12_promptCount 10 = .ok (.ireturn, 1) := by decide +kernel
theorem dX12_hoursUntilPrompt_0 : decode cX12_hoursUntilPrompt 0 = .ok (.aload_n 0, 1) := by decide +kernel
theorem dX12_hoursUntilPrompt_1 : decode cX12_hoursUntilPrompt 1 = .ok (.iload_n 1, 1) := by decide +kernel
theorem dX12_hoursUntilPrompt_2 : decode cX12_hoursUntilPrompt 2 = .ok (.invokevirtual 113, 3) := by decide +kernel
theorem dX12_hoursUntilPrompt_5 : decode cX12_hoursUntilPrompt 5 = .ok (.aload_n 0, 1) := by decide +kernel
theorem dX12_hoursUntilPrompt_6 : decode cX12_hoursUntilPrompt 6 = .ok (.getfield 10, 3) := by decide +kernel
theorem dX12_hoursUntilPrompt_9 : decode cX12_hoursUntilPrompt 9 = .ok (.getfield 101, 3) := by decide +kernel
theorem dX12_hoursUntilPrompt_12 : decode cX12_hoursUntilPrompt 12 = .ok (.iload_n 1, 1) := by decide +kernel
theorem dX12_hoursUntilPrompt_13 : decode cX12_hoursUntilPrompt 13 = .ok (.invokevirtual 263, 3) := by decide +kernel
theorem dX12_hoursUntilPrompt_16 : decode cX12_hoursUntilPrompt 16 = .ok (.ireturn, 1) := by decide +kernel
theorem dX12_timesLeft_0 : decode cX12_timesLeft 0 = .ok (.aload_n 0, 1) := by decide +kernel
theorem dX12_timesLeft_1 : decode cX12_timesLeft 1 = .ok (.iload_n 1, 1) := by decide +kernel
theorem dX12_timesLeft_2 : decode cX12_timesLeft 2 = .ok (.invokevirtual 113, 3) := by decide +kernel
theorem dX12_timesLeft_5 : decode cX12_timesLeft 5 = .ok (.aload_n 0, 1) := by decide +kernel
theorem dX12_timesLeft_6 : decode cX12_timesLeft 6 = .ok (.getfield 10, 3) := by decide +kernel
theorem dX12_timesLeft_9 : decode cX12_timesLeft 9 = .ok (.getfield 101, 3) := by decide +kernel
theorem dX12_timesLeft_12 : decode cX12_timesLeft 12 = .ok (.iload_n 1, 1) := by decide +kernel
theorem dX12_timesLeft_13 : decode cX12_timesLeft 13 = .ok (.invokevirtual 266, 3) := by decide +kernel
theorem dX12_timesLeft_16 : decode cX12_timesLeft 16 = .ok (.ireturn, 1) := by decide +kernel
theorem dX12_cashIn_0 : decode cX12_cashIn 0 = .ok (.iload_n 1, 1) := by decide +kernel
theorem dX12_cashIn_1 : decode cX12_cashIn 1 = .ok (.iconst 0, 1) := by decide +kernel
theorem dX12_cashIn_2 : decode cX12_cashIn 2 = .ok (.bipush 24, 2) := by decide +kernel
theorem dX12_cashIn_4 : decode cX12_cashIn 4 = .ok (.invokestatic 217, 3) := by decide +kernel
theorem dX12_cashIn_7 : decode cX12_cashIn 7 = .ok (.ifCond .ne 14, 3) := by decide +kernel
theorem dX12_cashIn_10 : decode cX12_cashIn 10 = .ok (.new 269, 3) := by decide +kernel
theorem dX12_cashIn_13 : decode cX12_cashIn 13 = .ok (.dup, 1) := by decide +kernel
theorem dX12_cashIn_14 : decode cX12_cashIn 14 = .ok (.ldc_w 271, 3) := by decide +kernel
theorem dX12_cashIn_17 : decode cX12_cashIn 17 = .ok (.invokespecial 273, 3) := by decide +kernel
theorem dX12_cashIn_20 : decode cX12_cashIn 20 = .ok (.athrow, 1) := by decide +kernel
theorem dX12_cashIn_21 : decode cX12_cashIn 21 = .ok (.aload_n 0, 1) := by decide +kernel
theorem dX12_cashIn_22 : decode cX12_cashIn 22 = .ok (.getfield 10, 3) := by decide +kernel
theorem dX12_cashIn_25 : decode cX12_cashIn 25 = .ok (.getfield 51, 3) := by decide +kernel
theorem dX12_cashIn_28 : decode cX12_cashIn 28 = .ok (.iconst 0, 1) := by decide +kernel
theorem dX12_cashIn_29 : decode cX12_cashIn 29 = .ok (.invokevirtual 196, 3) := by decide +kernel
theorem dX12_cashIn_32 : decode cX12_cashIn 32 = .ok (.aload_n 0, 1) := by decide +kernel
theorem dX12_cashIn_33 : decode cX12_cashIn 33 = .ok (.getfield 10, 3) := by decide +kernel
theorem dX12_cashIn_36 : decode cX12_cashIn 36 = .ok (.getfield 101, 3) := by decide +kernel
theorem dX12_cashIn_39 : decode cX12_cashIn 39 = .ok (.iconst 0, 1) := by decide +kernel
theorem dX12_cashIn_40 : decode cX12_cashIn 40 = .ok (.iload_n 1, 1) := by decide +kernel
theorem dX12_cashIn_41 : decode cX12_cashIn 41 = .ok (.invokevirtual 274, 3) := by decide +kernel
theorem dX12_cashIn_44 : decode cX12_cashIn 44 = .ok (.ladd, 1) := by decide +kernel
theorem dX12_cashIn_45 : decode cX12_cashIn 45 = .ok (.lreturn, 1) := by decide +kernel
theorem dX12_costumeCount_0 : decode cX12_costumeCount 0 = .ok (.aload_n 0, 1) := by decide +kernel
theorem dX12_costumeCount_1 : decode cX12_costumeCount 1 = .ok (.getfield 10, 3) := by decide +kernel
theorem dX12_costumeCount_4 : decode cX12_costumeCount 4 = .ok (.getfield 133, 3) := by decide +kernel
theorem dX12_costumeCount_7 : decode cX12_costumeCount 7 = .ok (.invokevirtual 278, 3) := by decide +kernel
theorem dX12_costumeCount_10 : decode cX12_costumeCount 10 = .ok (.ireturn, 1) := by decide +kernel
theorem dX12_lotCount_0 : decode cX12_lotCount 0 = .ok (.aload_n 0, 1) := by decide +kernel
theorem dX12_lotCount_1 : decode cX12_lotCount 1 = .ok (.getfield 10, 3) := by decide +kernel
theorem dX12_lotCount_4 : decode cX12_lotCount 4 = .ok (.getfield 133, 3) := by decide +kernel
theorem dX12_lotCount_7 : decode cX12_lotCount 7 = .ok (.getfield 281, 3) := by decide +kernel
theorem dX12_lotCount_10 : decode cX12_lotCount 10 = .ok (.ireturn, 1) := by decide +kernel
theorem dX12_costOf_0 : decode cX12_costOf 0 = .ok (.aload_n 0, 1) := by decide +kernel
theorem dX12_costOf_1 : decode cX12_costOf 1 = .ok (.getfield 10, 3) := by decide +kernel
theorem dX12_costOf_4 : decode cX12_costOf 4 = .ok (.getfield 133, 3) := by decide +kernel
theorem dX12_costOf_7 : decode cX12_costOf 7 = .ok (.iload_n 1, 1) := by decide +kernel
theorem dX12_costOf_8 : decode cX12_costOf 8 = .ok (.invokevirtual 282, 3) := by decide +kernel
theorem dX12_costOf_11 : decode cX12_costOf 11 = .ok (.invokestatic 61, 3) := by decide +kernel
theorem dX12_costOf_14 : decode cX12_costOf 14 = .ok (.aload_n 0, 1) := by decide +kernel
theorem dX12_costOf_15 : decode cX12_costOf 15 = .ok (.getfield 10, 3) := by decide +kernel
theorem dX12_costOf_18 : decode cX12_costOf 18 = .ok (.getfield 133, 3) := by decide +kernel
theorem dX12_costOf_21 : decode cX12_costOf 21 = .ok (.iload_n 1, 1) := by decide +kernel
theorem dX12_costOf_22 : decode cX12_costOf 22 = .ok (.invokevirtual 285, 3) := by decide +kernel
theorem dX12_costOf_25 : decode cX12_costOf 25 = .ok (.ireturn, 1) := by decide +kernel
theorem dX12_costByCostumes_0 : decode cX12_costByCostumes 0 = .ok (.aload_n 0, 1) := by decide +kernel
theorem dX12_costByCostumes_1 : decode cX12_costByCostumes 1 = .ok (.getfield 10, 3) := by decide +kernel
theorem dX12_costByCostumes_4 : decode cX12_costByCostumes 4 = .ok (.getfield 133, 3) := by decide +kernel
theorem dX12_costByCostumes_7 : decode cX12_costByCostumes 7 = .ok (.iload_n 1, 1) := by decide +kernel
theorem dX12_costByCostumes_8 : decode cX12_costByCostumes 8 = .ok (.invokevirtual 282, 3) := by decide +kernel
theorem dX12_costByCostumes_11 : decode cX12_costByCostumes 11 = .ok (.invokestatic 61, 3) := by decide +kernel
theorem dX12_costByCostumes_14 : decode cX12_costByCostumes 14 = .ok (.aload_n 0, 1) := by decide +kernel
theorem dX12_costByCostumes_15 : decode cX12_costByCostumes 15 = .ok (.getfield 10, 3) := by decide +kernel
theorem dX12_costByCostumes_18 : decode cX12_costByCostumes 18 = .ok (.getfield 133, 3) := by decide +kernel
theorem dX12_costByCostumes_21 : decode cX12_costByCostumes 21 = .ok (.iload_n 1, 1) := by decide +kernel
theorem dX12_costByCostumes_22 : decode cX12_costByCostumes 22 = .ok (.invokevirtual 288, 3) := by decide +kernel
theorem dX12_costByCostumes_25 : decode cX12_costByCostumes 25 = .ok (.ireturn, 1) := by decide +kernel
theorem dX12_meanPrice_0 : decode cX12_meanPrice 0 = .ok (.aload_n 0, 1) := by decide +kernel
theorem dX12_meanPrice_1 : decode cX12_meanPrice 1 = .ok (.getfield 10, 3) := by decide +kernel
theorem dX12_meanPrice_4 : decode cX12_meanPrice 4 = .ok (.getfield 133, 3) := by decide +kernel
theorem dX12_meanPrice_7 : decode cX12_meanPrice 7 = .ok (.invokevirtual 278, 3) := by decide +kernel
theorem dX12_meanPrice_10 : decode cX12_meanPrice 10 = .ok (.istore_n 1, 1) := by decide +kernel
theorem dX12_meanPrice_11 : decode cX12_meanPrice 11 = .ok (.iload_n 1, 1) := by decide +kernel
theorem dX12_meanPrice_12 : decode cX12_meanPrice 12 = .ok (.ifCond .ne 14, 3) := by decide +kernel
theorem dX12_meanPrice_15 : decode cX12_meanPrice 15 = .ok (.new 229, 3) := by decide +kernel
theorem dX12_meanPrice_18 : decode cX12_meanPrice 18 = .ok (.dup, 1) := by decide +kernel
theorem dX12_meanPrice_19 : decode cX12_meanPrice 19 = .ok (.ldc_w 291, 3) := by decide +kernel
theorem dX12_meanPrice_22 : decode cX12_meanPrice 22 = .ok (.invokespecial 233, 3) := by decide +kernel
theorem dX12_meanPrice_25 : decode cX12_meanPrice 25 = .ok (.athrow, 1) := by decide +kernel
theorem dX12_meanPrice_26 : decode cX12_meanPrice 26 = .ok (.aload_n 0, 1) := by decide +kernel
theorem dX12_meanPrice_27 : decode cX12_meanPrice 27 = .ok (.getfield 10, 3) := by decide +kernel
theorem dX12_meanPrice_30 : decode cX12_meanPrice 30 = .ok (.getfield 133, 3) := by decide +kernel
theorem dX12_meanPrice_33 : decode cX12_meanPrice 33 = .ok (.iload_n 1, 1) := by decide +kernel
theorem dX12_meanPrice_34 : decode cX12_meanPrice 34 = .ok (.invokevirtual 285, 3) := by decide +kernel
theorem dX12_meanPrice_37 : decode cX12_meanPrice 37 = .ok (.i2d, 1) := by decide +kernel
theorem dX12_meanPrice_38 : decode cX12_meanPrice 38 = .ok (.iload_n 1, 1) := by decide +kernel
theorem dX12_meanPrice_39 : decode cX12_meanPrice 39 = .ok (.i2d, 1) := by decide +kernel
theorem dX12_meanPrice_40 : decode cX12_meanPrice 40 = .ok (.ddiv, 1) := by decide +kernel
theorem dX12_meanPrice_41 : decode cX12_meanPrice 41 = .ok (.dreturn, 1) := by decide +kernel
theorem dX12_billCount_0 : decode cX12_billCount 0 = .ok (.aload_n 0, 1) := by decide +kernel
theorem dX12_billCount_1 : decode cX12_billCount 1 = .ok (.getfield 10, 3) := by decide +kernel
theorem dX12_billCount_4 : decode cX12_billCount 4 = .ok (.getfield 145, 3) := by decide +kernel
theorem dX12_billCount_7 : decode cX12_billCount 7 = .ok (.getfield 293, 3) := by decide +kernel
theorem dX12_billCount_10 : decode cX12_billCount 10 = .ok (.ireturn, 1) := by decide +kernel
theorem dX12_billAt_0 : decode cX12_billAt 0 = .ok (.iload_n 1, 1) := by decide +kernel
theorem dX12_billAt_1 : decode cX12_billAt 1 = .ok (.iconst 0, 1) := by decide +kernel
theorem dX12_billAt_2 : decode cX12_billAt 2 = .ok (.aload_n 0, 1) := by decide +kernel
theorem dX12_billAt_3 : decode cX12_billAt 3 = .ok (.getfield 10, 3) := by decide +kernel
theorem dX12_billAt_6 : decode cX12_billAt 6 = .ok (.getfield 145, 3) := by decide +kernel
theorem dX12_billAt_9 : decode cX12_billAt 9 = .ok (.getfield 293, 3) := by decide +kernel
theorem dX12_billAt_12 : decode cX12_billAt 12 = .ok (.iconst 1, 1) := by decide +kernel
theorem dX12_billAt_13 : decode cX12_billAt 13 = .ok (.isub, 1) := by decide +kernel
theorem dX12_billAt_14 : decode cX12_billAt 14 = .ok (.invokestatic 217, 3) := by decide +kernel
theorem dX12_billAt_17 : decode cX12_billAt 17 = .ok (.ifCond .ne 13, 3) := by decide +kernel
theorem dX12_billAt_20 : decode cX12_billAt 20 = .ok (.new 182, 3) := by decide +kernel
theorem dX12_billAt_23 : decode cX12_billAt 23 = .ok (.dup, 1) := by decide +kernel
theorem dX12_billAt_24 : decode cX12_billAt 24 = .ok (.ldc 238, 2) := by decide +kernel
theorem dX12_billAt_26 : decode cX12_billAt 26 = .ok (.invokespecial 186, 3) := by decide +kernel
theorem dX12_billAt_29 : decode cX12_billAt 29 = .ok (.athrow, 1) := by decide +kernel
theorem dX12_billAt_30 : decode cX12_billAt 30 = .ok (.aload_n 0, 1) := by decide +kernel
theorem dX12_billAt_31 : decode cX12_billAt 31 = .ok (.getfield 10, 3) := by decide +kernel
theorem dX12_billAt_34 : decode cX12_billAt 34 = .ok (.getfield 145, 3) := by decide +kernel
theorem dX12_billAt_37 : decode cX12_billAt 37 = .ok (.iload_n 1, 1) := by decide +kernel
theorem dX12_billAt_38 : decode cX12_billAt 38 = .ok (.invokevirtual 294, 3) := by decide +kernel
theorem dX12_billAt_41 : decode cX12_billAt 41 = .ok (.ireturn, 1) := by decide +kernel
theorem dX12_openAmount_0 : decode cX12_openAmount 0 = .ok (.aload_n 0, 1) := by decide +kernel
theorem dX12_openAmount_1 : decode cX12_openAmount 1 = .ok (.iload_n 1, 1) := by decide +kernel
theorem dX12_openAmount_2 : decode cX12_openAmount 2 = .ok (.invokevirtual 295, 3) := by decide +kernel
theorem dX12_openAmount_5 : decode cX12_openAmount 5 = .ok (.istore_n 2, 1) := by decide +kernel
theorem dX12_openAmount_6 : decode cX12_openAmount 6 = .ok (.aload_n 0, 1) := by decide +kernel
theorem dX12_openAmount_7 : decode cX12_openAmount 7 = .ok (.getfield 10, 3) := by decide +kernel
theorem dX12_openAmount_10 : decode cX12_openAmount 10 = .ok (.getfield 145, 3) := by decide +kernel
theorem dX12_openAmount_13 : decode cX12_openAmount 13 = .ok (.iload_n 2, 1) := by decide +kernel
theorem dX12_openAmount_14 : decode cX12_openAmount 14 = .ok (.invokevirtual 298, 3) := by decide +kernel
theorem dX12_openAmount_17 : decode cX12_openAmount 17 = .ok (.ireturn, 1) := by decide +kernel
theorem dX12_openTotal_0 : decode cX12_openTotal 0 = .ok (.aload_n 0, 1) := by decide +kernel
theorem dX12_openTotal_1 : decode cX12_openTotal 1 = .ok (.getfield 10, 3) := by decide +kernel
theorem dX12_openTotal_4 : decode cX12_openTotal 4 = .ok (.getfield 145, 3) := by decide +kernel
theorem dX12_openTotal_7 : decode cX12_openTotal 7 = .ok (.invokevirtual 301, 3) := by decide +kernel
theorem dX12_openTotal_10 : decode cX12_openTotal 10 = .ok (.ireturn, 1) := by decide +kernel
theorem dX12_isMatched_0 : decode cX12_isMatched 0 = .ok (.iload_n 1, 1) := by decide +kernel
theorem dX12_isMatched_1 : decode cX12_isMatched 1 = .ok (.invokestatic 304, 3) := by decide +kernel
theorem dX12_isMatched_4 : decode cX12_isMatched 4 = .ok (.aload_n 0, 1) := by decide +kernel
theorem dX12_isMatched_5 : decode cX12_isMatched 5 = .ok (.getfield 29, 3) := by decide +kernel
theorem dX12_isMatched_8 : decode cX12_isMatched 8 = .ok (.aload_n 0, 1) := by decide +kernel
theorem dX12_isMatched_9 : decode cX12_isMatched 9 = .ok (.getfield 10, 3) := by decide +kernel
theorem dX12_isMatched_12 : decode cX12_isMatched 12 = .ok (.getfield 145, 3) := by decide +kernel
theorem dX12_isMatched_15 : decode cX12_isMatched 15 = .ok (.iload_n 1, 1) := by decide +kernel
theorem dX12_isMatched_16 : decode cX12_isMatched 16 = .ok (.invokevirtual 307, 3) := by decide +kernel
theorem dX12_isMatched_19 : decode cX12_isMatched 19 = .ok (.ireturn, 1) := by decide +kernel
theorem dX12_isMatchedBySets_0 : decode cX12_isMatchedBySets 0 = .ok (.iload_n 1, 1) := by decide +kernel
theorem dX12_isMatchedBySets_1 : decode cX12_isMatchedBySets 1 = .ok (.invokestatic 304, 3) := by decide +kernel
theorem dX12_isMatchedBySets_4 : decode cX12_isMatchedBySets 4 = .ok (.aload_n 0, 1) := by decide +kernel
theorem dX12_isMatchedBySets_5 : decode cX12_isMatchedBySets 5 = .ok (.getfield 29, 3) := by decide +kernel
theorem dX12_isMatchedBySets_8 : decode cX12_isMatchedBySets 8 = .ok (.aload_n 0, 1) := by decide +kernel
theorem dX12_isMatchedBySets_9 : decode cX12_isMatchedBySets 9 = .ok (.getfield 10, 3) := by decide +kernel
theorem dX12_isMatchedBySets_12 : decode cX12_isMatchedBySets 12 = .ok (.getfield 145, 3) := by decide +kernel
theorem dX12_isMatchedBySets_15 : decode cX12_isMatchedBySets 15 = .ok (.iload_n 1, 1) := by decide +kernel
theorem dX12_isMatchedBySets_16 : decode cX12_isMatchedBySets 16 = .ok (.invokevirtual 311, 3) := by decide +kernel
theorem dX12_isMatchedBySets_19 : decode cX12_isMatchedBySets 19 = .ok (.ireturn, 1) := by decide +kernel
theorem dX12_matchSize_0 : decode cX12_matchSize 0 = .ok (.iload_n 1, 1) := by decide +kernel
theorem dX12_matchSize_1 : decode cX12_matchSize 1 = .ok (.invokestatic 304, 3) := by decide +kernel
theorem dX12_matchSize_4 : decode cX12_matchSize 4 = .ok (.aload_n 0, 1) := by decide +kernel
theorem dX12_matchSize_5 : decode cX12_matchSize 5 = .ok (.getfield 29, 3) := by decide +kernel
theorem dX12_matchSize_8 : decode cX12_matchSize 8 = .ok (.aload_n 0, 1) := by decide +kernel
theorem dX12_matchSize_9 : decode cX12_matchSize 9 = .ok (.getfield 10, 3) := by decide +kernel
theorem dX12_matchSize_12 : decode cX12_matchSize 12 = .ok (.getfield 145, 3) := by decide +kernel
theorem dX12_matchSize_15 : decode cX12_matchSize 15 = .ok (.iload_n 1, 1) := by decide +kernel
theorem dX12_matchSize_16 : decode cX12_matchSize 16 = .ok (.invokevirtual 159, 3) := by decide +kernel
theorem dX12_matchSize_19 : decode cX12_matchSize 19 = .ok (.istore_n 2, 1) := by decide +kernel
theorem dX12_matchSize_20 : decode cX12_matchSize 20 = .ok (.iload_n 2, 1) := by decide +kernel
theorem dX12_matchSize_21 : decode cX12_matchSize 21 = .ok (.ifCond .ne 14, 3) := by decide +kernel
theorem dX12_matchSize_24 : decode cX12_matchSize 24 = .ok (.new 182, 3) := by decide +kernel
theorem dX12_matchSize_27 : decode cX12_matchSize 27 = .ok (.dup, 1) := by decide +kernel
theorem dX12_matchSize_28 : decode cX12_matchSize 28 = .ok (.ldc_w 314, 3) := by decide +kernel
theorem dX12_matchSize_31 : decode cX12_matchSize 31 = .ok (.invokespecial 186, 3) := by decide +kernel
theorem dX12_matchSize_34 : decode cX12_matchSize 34 = .ok (.athrow, 1) := by decide +kernel
theorem dX12_matchSize_35 : decode cX12_matchSize 35 = .ok (.iload_n 2, 1) := by decide +kernel
theorem dX12_matchSize_36 : decode cX12_matchSize 36 = .ok (.invokestatic 316, 3) := by decide +kernel
theorem dX12_matchSize_39 : decode cX12_matchSize 39 = .ok (.ireturn, 1) := by decide +kernel
theorem dX12_isInMatch_0 : decode cX12_isInMatch 0 = .ok (.aload_n 0, 1) := by decide +kernel
theorem dX12_isInMatch_1 : decode cX12_isInMatch 1 = .ok (.iload_n 1, 1) := by decide +kernel
theorem dX12_isInMatch_2 : decode cX12_isInMatch 2 = .ok (.invokevirtual 295, 3) := by decide +kernel
theorem dX12_isInMatch_5 : decode cX12_isInMatch 5 = .ok (.istore_n 3, 1) := by decide +kernel
theorem dX12_isInMatch_6 : decode cX12_isInMatch 6 = .ok (.iload_n 2, 1) := by decide +kernel
theorem dX12_isInMatch_7 : decode cX12_isInMatch 7 = .ok (.invokestatic 304, 3) := by decide +kernel
theorem dX12_isInMatch_10 : decode cX12_isInMatch 10 = .ok (.aload_n 0, 1) := by decide +kernel
theorem dX12_isInMatch_11 : decode cX12_isInMatch 11 = .ok (.getfield 29, 3) := by decide +kernel
theorem dX12_isInMatch_14 : decode cX12_isInMatch 14 = .ok (.aload_n 0, 1) := by decide +kernel
theorem dX12_isInMatch_15 : decode cX12_isInMatch 15 = .ok (.getfield 10, 3) := by decide +kernel
theorem dX12_isInMatch_18 : decode cX12_isInMatch 18 = .ok (.getfield 145, 3) := by decide +kernel
theorem dX12_isInMatch_21 : decode cX12_isInMatch 21 = .ok (.iload_n 2, 1) := by decide +kernel
theorem dX12_isInMatch_22 : decode cX12_isInMatch 22 = .ok (.invokevirtual 159, 3) := by decide +kernel
theorem dX12_isInMatch_25 : decode cX12_isInMatch 25 = .ok (.istore 4, 2) := by decide +kernel
theorem dX12_isInMatch_27 : decode cX12_isInMatch 27 = .ok (.iload 4, 2) := by decide +kernel
theorem dX12_isInMatch_29 : decode cX12_isInMatch 29 = .ok (.ifCond .ne 14, 3) := by decide +kernel
theorem dX12_isInMatch_32 : decode cX12_isInMatch 32 = .ok (.new 321, 3) := by decide +kernel
theorem dX12_isInMatch_35 : decode cX12_isInMatch 35 = .ok (.dup, 1) := by decide +kernel
theorem dX12_isInMatch_36 : decode cX12_isInMatch 36 = .ok (.ldc_w 314, 3) := by decide +kernel
theorem dX12_isInMatch_39 : decode cX12_isInMatch 39 = .ok (.invokespecial 323, 3) := by decide +kernel
theorem dX12_isInMatch_42 : decode cX12_isInMatch 42 = .ok (.athrow, 1) := by decide +kernel
theorem dX12_isInMatch_43 : decode cX12_isInMatch 43 = .ok (.iload_n 3, 1) := by decide +kernel
theorem dX12_isInMatch_44 : decode cX12_isInMatch 44 = .ok (.iload 4, 2) := by decide +kernel
theorem dX12_isInMatch_46 : decode cX12_isInMatch 46 = .ok (.invokestatic 324, 3) := by decide +kernel
theorem dX12_isInMatch_49 : decode cX12_isInMatch 49 = .ok (.ireturn, 1) := by decide +kernel
theorem dX12_isConsistent_0 : decode cX12_isConsistent 0 = .ok (.aload_n 0, 1) := by decide +kernel
theorem dX12_isConsistent_1 : decode cX12_isConsistent 1 = .ok (.getfield 10, 3) := by decide +kernel
theorem dX12_isConsistent_4 : decode cX12_isConsistent 4 = .ok (.getfield 51, 3) := by decide +kernel
theorem dX12_isConsistent_7 : decode cX12_isConsistent 7 = .ok (.invokevirtual 208, 3) := by decide +kernel
theorem dX12_isConsistent_10 : decode cX12_isConsistent 10 = .ok (.aload_n 0, 1) := by decide +kernel
theorem dX12_isConsistent_11 : decode cX12_isConsistent 11 = .ok (.getfield 10, 3) := by decide +kernel
theorem dX12_isConsistent_14 : decode cX12_isConsistent 14 = .ok (.getfield 51, 3) := by decide +kernel
theorem dX12_isConsistent_17 : decode cX12_isConsistent 17 = .ok (.invokevirtual 211, 3) := by decide +kernel
theorem dX12_isConsistent_20 : decode cX12_isConsistent 20 = .ok (.lcmp, 1) := by decide +kernel
theorem dX12_isConsistent_21 : decode cX12_isConsistent 21 = .ok (.ifCond .ne 71, 3) := by decide +kernel
theorem dX12_isConsistent_24 : decode cX12_isConsistent 24 = .ok (.aload_n 0, 1) := by decide +kernel
theorem dX12_isConsistent_25 : decode cX12_isConsistent 25 = .ok (.getfield 10, 3) := by decide +kernel
theorem dX12_isConsistent_28 : decode cX12_isConsistent 28 = .ok (.getfield 51, 3) := by decide +kernel
theorem dX12_isConsistent_31 : decode cX12_isConsistent 31 = .ok (.invokevirtual 328, 3) := by decide +kernel
theorem dX12_isConsistent_34 : decode cX12_isConsistent 34 = .ok (.ifCond .eq 58, 3) := by decide +kernel
theorem dX12_isConsistent_37 : decode cX12_isConsistent 37 = .ok (.aload_n 0, 1) := by decide +kernel
theorem dX12_isConsistent_38 : decode cX12_isConsistent 38 = .ok (.getfield 10, 3) := by decide +kernel
theorem dX12_isConsistent_41 : decode cX12_isConsistent 41 = .ok (.getfield 133, 3) := by decide +kernel
theorem dX12_isConsistent_44 : decode cX12_isConsistent 44 = .ok (.invokevirtual 332, 3) := by decide +kernel
theorem dX12_isConsistent_47 : decode cX12_isConsistent 47 = .ok (.ifCond .eq 45, 3) := by decide +kernel
theorem dX12_isConsistent_50 : decode cX12_isConsistent 50 = .ok (.aload_n 0, 1) := by decide +kernel
theorem dX12_isConsistent_51 : decode cX12_isConsistent 51 = .ok (.getfield 29, 3) := by decide +kernel
theorem dX12_isConsistent_54 : decode cX12_isConsistent 54 = .ok (.aload_n 0, 1) := by decide +kernel
theorem dX12_isConsistent_55 : decode cX12_isConsistent 55 = .ok (.getfield 10, 3) := by decide +kernel
theorem dX12_isConsistent_58 : decode cX12_isConsistent 58 = .ok (.getfield 145, 3) := by decide +kernel
theorem dX12_isConsistent_61 : decode cX12_isConsistent 61 = .ok (.bipush 50, 2) := by decide +kernel
theorem dX12_isConsistent_63 : decode cX12_isConsistent 63 = .ok (.invokevirtual 335, 3) := by decide +kernel
theorem dX12_isConsistent_66 : decode cX12_isConsistent 66 = .ok (.ifCond .eq 26, 3) := by decide +kernel
theorem dX12_isConsistent_69 : decode cX12_isConsistent 69 = .ok (.aload_n 0, 1) := by decide +kernel
theorem dX12_isConsistent_70 : decode cX12_isConsistent 70 = .ok (.getfield 29, 3) := by decide +kernel
theorem dX12_isConsistent_73 : decode cX12_isConsistent 73 = .ok (.aload_n 0, 1) := by decide +kernel
theorem dX12_isConsistent_74 : decode cX12_isConsistent 74 = .ok (.getfield 10, 3) := by decide +kernel
theorem dX12_isConsistent_77 : decode cX12_isConsistent 77 = .ok (.getfield 145, 3) := by decide +kernel
theorem dX12_isConsistent_80 : decode cX12_isConsistent 80 = .ok (.bipush 100, 2) := by decide +kernel
theorem dX12_isConsistent_82 : decode cX12_isConsistent 82 = .ok (.invokevirtual 335, 3) := by decide +kernel
theorem dX12_isConsistent_85 : decode cX12_isConsistent 85 = .ok (.ifCond .eq 7, 3) := by decide +kernel
theorem dX12_isConsistent_88 : decode cX12_isConsistent 88 = .ok (.iconst 1, 1) := by decide +kernel
theorem dX12_isConsistent_89 : decode cX12_isConsistent 89 = .ok (.goto 4, 3) := by decide +kernel
theorem dX12_isConsistent_92 : decode cX12_isConsistent 92 = .ok (.iconst 0, 1) := by decide +kernel
theorem dX12_isConsistent_93 : decode cX12_isConsistent 93 = .ok (.ireturn, 1) := by decide +kernel
theorem dX12_feed_0 : decode cX12_feed 0 = .ok (.aload_n 0, 1) := by decide +kernel
theorem dX12_feed_1 : decode cX12_feed 1 = .ok (.getfield 36, 3) := by decide +kernel
theorem dX12_feed_4 : decode cX12_feed 4 = .ok (.getfield 338, 3) := by decide +kernel
theorem dX12_feed_7 : decode cX12_feed 7 = .ok (.bipush 60, 2) := by decide +kernel
theorem dX12_feed_9 : decode cX12_feed 9 = .ok (.if_icmp .lt 14, 3) := by decide +kernel
theorem dX12_feed_12 : decode cX12_feed 12 = .ok (.new 321, 3) := by decide +kernel
theorem dX12_feed_15 : decode cX12_feed 15 = .ok (.dup, 1) := by decide +kernel
theorem dX12_feed_16 : decode cX12_feed 16 = .ok (.ldc_w 341, 3) := by decide +kernel
theorem dX12_feed_19 : decode cX12_feed 19 = .ok (.invokespecial 323, 3) := by decide +kernel
theorem dX12_feed_22 : decode cX12_feed 22 = .ok (.athrow, 1) := by decide +kernel
theorem dX12_feed_23 : decode cX12_feed 23 = .ok (.aload_n 0, 1) := by decide +kernel
theorem dX12_feed_24 : decode cX12_feed 24 = .ok (.getfield 36, 3) := by decide +kernel
theorem dX12_feed_27 : decode cX12_feed 27 = .ok (.iload_n 1, 1) := by decide +kernel
theorem dX12_feed_28 : decode cX12_feed 28 = .ok (.invokevirtual 343, 3) := by decide +kernel
theorem dX12_feed_31 : decode cX12_feed 31 = .ok (.ireturn, 1) := by decide +kernel
theorem dX12_runCommands_0 : decode cX12_runCommands 0 = .ok (.aload_n 0, 1) := by decide +kernel
theorem dX12_runCommands_1 : decode cX12_runCommands 1 = .ok (.getfield 36, 3) := by decide +kernel
theorem dX12_runCommands_4 : decode cX12_runCommands 4 = .ok (.invokevirtual 347, 3) := by decide +kernel
theorem dX12_runCommands_7 : decode cX12_runCommands 7 = .ok (.istore_n 1, 1) := by decide +kernel
theorem dX12_runCommands_8 : decode cX12_runCommands 8 = .ok (.aload_n 0, 1) := by decide +kernel
theorem dX12_runCommands_9 : decode cX12_runCommands 9 = .ok (.getfield 36, 3) := by decide +kernel
theorem dX12_runCommands_12 : decode cX12_runCommands 12 = .ok (.iconst 0, 1) := by decide +kernel
theorem dX12_runCommands_13 : decode cX12_runCommands 13 = .ok (.putfield 338, 3) := by decide +kernel
theorem dX12_runCommands_16 : decode cX12_runCommands 16 = .ok (.iload_n 1, 1) := by decide +kernel
theorem dX12_runCommands_17 : decode cX12_runCommands 17 = .ok (.ifCond .ne 25, 3) := by decide +kernel
theorem dX12_runCommands_20 : decode cX12_runCommands 20 = .ok (.aload_n 0, 1) := by decide +kernel
theorem dX12_runCommands_21 : decode cX12_runCommands 21 = .ok (.aload_n 0, 1) := by decide +kernel
theorem dX12_runCommands_22 : decode cX12_runCommands 22 = .ok (.getfield 36, 3) := by decide +kernel
theorem dX12_runCommands_25 : decode cX12_runCommands 25 = .ok (.getfield 350, 3) := by decide +kernel
theorem dX12_runCommands_28 : decode cX12_runCommands 28 = .ok (.putfield 44, 3) := by decide +kernel
theorem dX12_runCommands_31 : decode cX12_runCommands 31 = .ok (.new 269, 3) := by decide +kernel
theorem dX12_runCommands_34 : decode cX12_runCommands 34 = .ok (.dup, 1) := by decide +kernel
theorem dX12_runCommands_35 : decode cX12_runCommands 35 = .ok (.ldc_w 353, 3) := by decide +kernel
theorem dX12_runCommands_38 : decode cX12_runCommands 38 = .ok (.invokespecial 273, 3) := by decide +kernel
theorem dX12_runCommands_41 : decode cX12_runCommands 41 = .ok (.athrow, 1) := by decide +kernel
theorem dX12_runCommands_42 : decode cX12_runCommands 42 = .ok (.aload_n 0, 1) := by decide +kernel
theorem dX12_runCommands_43 : decode cX12_runCommands 43 = .ok (.getfield 22, 3) := by decide +kernel
theorem dX12_runCommands_46 : decode cX12_runCommands 46 = .ok (.aload_n 0, 1) := by decide +kernel
theorem dX12_runCommands_47 : decode cX12_runCommands 47 = .ok (.getfield 10, 3) := by decide +kernel
theorem dX12_runCommands_50 : decode cX12_runCommands 50 = .ok (.invokevirtual 355, 3) := by decide +kernel
theorem dX12_runCommands_53 : decode cX12_runCommands 53 = .ok (.iconst 0, 1) := by decide +kernel
theorem dX12_runCommands_54 : decode cX12_runCommands 54 = .ok (.istore_n 2, 1) := by decide +kernel
theorem dX12_runCommands_55 : decode cX12_runCommands 55 = .ok (.iload_n 2, 1) := by decide +kernel
theorem dX12_runCommands_56 : decode cX12_runCommands 56 = .ok (.aload_n 0, 1) := by decide +kernel
theorem dX12_runCommands_57 : decode cX12_runCommands 57 = .ok (.getfield 36, 3) := by decide +kernel
theorem dX12_runCommands_60 : decode cX12_runCommands 60 = .ok (.getfield 359, 3) := by decide +kernel
theorem dX12_runCommands_63 : decode cX12_runCommands 63 = .ok (.if_icmp .ge 20, 3) := by decide +kernel
theorem dX12_runCommands_66 : decode cX12_runCommands 66 = .ok (.aload_n 0, 1) := by decide +kernel
theorem dX12_runCommands_67 : decode cX12_runCommands 67 = .ok (.iload_n 2, 1) := by decide +kernel
theorem dX12_runCommands_68 : decode cX12_runCommands 68 = .ok (.invokevirtual 360, 3) := by decide +kernel
theorem dX12_runCommands_71 : decode cX12_runCommands 71 = .ok (.getstatic 363, 3) := by decide +kernel
theorem dX12_runCommands_74 : decode cX12_runCommands 74 = .ok (.if_acmp .ne 9, 3) := by decide +kernel
theorem dX12_runCommands_77 : decode cX12_runCommands 77 = .ok (.iinc 2 1, 3) := by decide +kernel
theorem dX12_runCommands_80 : decode cX12_runCommands 80 = .ok (.goto (-25), 3) := by decide +kernel
theorem dX12_runCommands_83 : decode cX12_runCommands 83 = .ok (.iload_n 2, 1) := by decide +kernel
theorem dX12_runCommands_84 : decode cX12_runCommands 84 = .ok (.aload_n 0, 1) := by decide +kernel
theorem dX12_runCommands_85 : decode cX12_runCommands 85 = .ok (.getfield 36, 3) := by decide +kernel
theorem dX12_runCommands_88 : decode cX12_runCommands 88 = .ok (.getfield 359, 3) := by decide +kernel
theorem dX12_runCommands_91 : decode cX12_runCommands 91 = .ok (.if_icmp .ge 30, 3) := by decide +kernel
theorem dX12_runCommands_94 : decode cX12_runCommands 94 = .ok (.aload_n 0, 1) := by decide +kernel
theorem dX12_runCommands_95 : decode cX12_runCommands 95 = .ok (.getfield 22, 3) := by decide +kernel
theorem dX12_runCommands_98 : decode cX12_runCommands 98 = .ok (.aload_n 0, 1) := by decide +kernel
theorem dX12_runCommands_99 : decode cX12_runCommands 99 = .ok (.getfield 10, 3) := by decide +kernel
theorem dX12_runCommands_102 : decode cX12_runCommands 102 = .ok (.invokevirtual 369, 3) := by decide +kernel
theorem dX12_runCommands_105 : decode cX12_runCommands 105 = .ok (.aload_n 0, 1) := by decide +kernel
theorem dX12_runCommands_106 : decode cX12_runCommands 106 = .ok (.iload_n 2, 1) := by decide +kernel
theorem dX12_runCommands_107 : decode cX12_runCommands 107 = .ok (.putfield 48, 3) := by decide +kernel
theorem dX12_runCommands_110 : decode cX12_runCommands 110 = .ok (.new 372, 3) := by decide +kernel
theorem dX12_runCommands_113 : decode cX12_runCommands 113 = .ok (.dup, 1) := by decide +kernel
theorem dX12_runCommands_114 : decode cX12_runCommands 114 = .ok (.ldc_w 374, 3) := by decide +kernel
theorem dX12_runCommands_117 : decode cX12_runCommands 117 = .ok (.invokespecial 376, 3) := by decide +kernel
theorem dX12_runCommands_120 : decode cX12_runCommands 120 = .ok (.athrow, 1) := by decide +kernel
theorem dX12_runCommands_121 : decode cX12_runCommands 121 = .ok (.aload_n 0, 1) := by decide +kernel
theorem dX12_runCommands_122 : decode cX12_runCommands 122 = .ok (.getfield 22, 3) := by decide +kernel
theorem dX12_runCommands_125 : decode cX12_runCommands 125 = .ok (.invokevirtual 377, 3) := by decide +kernel
theorem dX12_runCommands_128 : decode cX12_runCommands 128 = .ok (.aload_n 0, 1) := by decide +kernel
theorem dX12_runCommands_129 : decode cX12_runCommands 129 = .ok (.getfield 36, 3) := by decide +kernel
theorem dX12_runCommands_132 : decode cX12_runCommands 132 = .ok (.getfield 359, 3) := by decide +kernel
theorem dX12_runCommands_135 : decode cX12_runCommands 135 = .ok (.ireturn, 1) := by decide +kernel
theorem dX12_errorPosition_0 : decode cX12_errorPosition 0 = .ok (.aload_n 0, 1) := by decide +kernel
theorem dX12_errorPosition_1 : decode cX12_errorPosition 1 = .ok (.getfield 44, 3) := by decide +kernel
theorem dX12_errorPosition_4 : decode cX12_errorPosition 4 = .ok (.iconst (-1), 1) := by decide +kernel
theorem dX12_errorPosition_5 : decode cX12_errorPosition 5 = .ok (.if_icmp .ne 14, 3) := by decide +kernel
theorem dX12_errorPosition_8 : decode cX12_errorPosition 8 = .ok (.new 182, 3) := by decide +kernel
theorem dX12_errorPosition_11 : decode cX12_errorPosition 11 = .ok (.dup, 1) := by decide +kernel
theorem dX12_errorPosition_12 : decode cX12_errorPosition 12 = .ok (.ldc_w 380, 3) := by decide +kernel
theorem dX12_errorPosition_15 : decode cX12_errorPosition 15 = .ok (.invokespecial 186, 3) := by decide +kernel
theorem dX12_errorPosition_18 : decode cX12_errorPosition 18 = .ok (.athrow, 1) := by decide +kernel
theorem dX12_errorPosition_19 : decode cX12_errorPosition 19 = .ok (.aload_n 0, 1) := by decide +kernel
theorem dX12_errorPosition_20 : decode cX12_errorPosition 20 = .ok (.getfield 44, 3) := by decide +kernel
theorem dX12_errorPosition_23 : decode cX12_errorPosition 23 = .ok (.ireturn, 1) := by decide +kernel
theorem dX12_failedCommand_0 : decode cX12_failedCommand 0 = .ok (.aload_n 0, 1) := by decide +kernel
theorem dX12_failedCommand_1 : decode cX12_failedCommand 1 = .ok (.getfield 48, 3) := by decide +kernel
theorem dX12_failedCommand_4 : decode cX12_failedCommand 4 = .ok (.iconst (-1), 1) := by decide +kernel
theorem dX12_failedCommand_5 : decode cX12_failedCommand 5 = .ok (.if_icmp .ne 14, 3) := by decide +kernel
theorem dX12_failedCommand_8 : decode cX12_failedCommand 8 = .ok (.new 182, 3) := by decide +kernel
theorem dX12_failedCommand_11 : decode cX12_failedCommand 11 = .ok (.dup, 1) := by decide +kernel
theorem dX12_failedCommand_12 : decode cX12_failedCommand 12 = .ok (.ldc_w 382, 3) := by decide +kernel
theorem dX12_failedCommand_15 : decode cX12_failedCommand 15 = .ok (.invokespecial 186, 3) := by decide +kernel
theorem dX12_failedCommand_18 : decode cX12_failedCommand 18 = .ok (.athrow, 1) := by decide +kernel
theorem dX12_failedCommand_19 : decode cX12_failedCommand 19 = .ok (.aload_n 0, 1) := by decide +kernel
theorem dX12_failedCommand_20 : decode cX12_failedCommand 20 = .ok (.getfield 48, 3) := by decide +kernel
theorem dX12_failedCommand_23 : decode cX12_failedCommand 23 = .ok (.ireturn, 1) := by decide +kernel
theorem dX12_writeEntry_0 : decode cX12_writeEntry 0 = .ok (.aload_n 0, 1) := by decide +kernel
theorem dX12_writeEntry_1 : decode cX12_writeEntry 1 = .ok (.iload_n 1, 1) := by decide +kernel
theorem dX12_writeEntry_2 : decode cX12_writeEntry 2 = .ok (.invokevirtual 243, 3) := by decide +kernel
theorem dX12_writeEntry_5 : decode cX12_writeEntry 5 = .ok (.aload_n 0, 1) := by decide +kernel
theorem dX12_writeEntry_6 : decode cX12_writeEntry 6 = .ok (.iconst 0, 1) := by decide +kernel
theorem dX12_writeEntry_7 : decode cX12_writeEntry 7 = .ok (.putfield 384, 3) := by decide +kernel
theorem dX12_writeEntry_10 : decode cX12_writeEntry 10 = .ok (.aload_n 0, 1) := by decide +kernel
theorem dX12_writeEntry_11 : decode cX12_writeEntry 11 = .ok (.iload_n 1, 1) := by decide +kernel
theorem dX12_writeEntry_12 : decode cX12_writeEntry 12 = .ok (.i2l, 1) := by decide +kernel
theorem dX12_writeEntry_13 : decode cX12_writeEntry 13 = .ok (.invokevirtual 387, 3) := by decide +kernel
theorem dX12_writeEntry_16 : decode cX12_writeEntry 16 = .ok (.aload_n 0, 1) := by decide +kernel
theorem dX12_writeEntry_17 : decode cX12_writeEntry 17 = .ok (.bipush 58, 2) := by decide +kernel
theorem dX12_writeEntry_19 : decode cX12_writeEntry 19 = .ok (.invokevirtual 391, 3) := by decide +kernel
theorem dX12_writeEntry_22 : decode cX12_writeEntry 22 = .ok (.aload_n 0, 1) := by decide +kernel
theorem dX12_writeEntry_23 : decode cX12_writeEntry 23 = .ok (.aload_n 0, 1) := by decide +kernel
theorem dX12_writeEntry_24 : decode cX12_writeEntry 24 = .ok (.getfield 10, 3) := by decide +kernel
theorem dX12_writeEntry_27 : decode cX12_writeEntry 27 = .ok (.getfield 88, 3) := by decide +kernel
theorem dX12_writeEntry_30 : decode cX12_writeEntry 30 = .ok (.iload_n 1, 1) := by decide +kernel
theorem dX12_writeEntry_31 : decode cX12_writeEntry 31 = .ok (.invokevirtual 246, 3) := by decide +kernel
theorem dX12_writeEntry_34 : decode cX12_writeEntry 34 = .ok (.i2l, 1) := by decide +kernel
theorem dX12_writeEntry_35 : decode cX12_writeEntry 35 = .ok (.invokevirtual 387, 3) := by decide +kernel
theorem dX12_writeEntry_38 : decode cX12_writeEntry 38 = .ok (.aload_n 0, 1) := by decide +kernel
theorem dX12_writeEntry_39 : decode cX12_writeEntry 39 = .ok (.bipush 60, 2) := by decide +kernel
theorem dX12_writeEntry_41 : decode cX12_writeEntry 41 = .ok (.invokevirtual 391, 3) := by decide +kernel
theorem dX12_writeEntry_44 : decode cX12_writeEntry 44 = .ok (.aload_n 0, 1) := by decide +kernel
theorem dX12_writeEntry_45 : decode cX12_writeEntry 45 = .ok (.aload_n 0, 1) := by decide +kernel
theorem dX12_writeEntry_46 : decode cX12_writeEntry 46 = .ok (.getfield 10, 3) := by decide +kernel
theorem dX12_writeEntry_49 : decode cX12_writeEntry 49 = .ok (.getfield 88, 3) := by decide +kernel
theorem dX12_writeEntry_52 : decode cX12_writeEntry 52 = .ok (.iload_n 1, 1) := by decide +kernel
theorem dX12_writeEntry_53 : decode cX12_writeEntry 53 = .ok (.invokevirtual 249, 3) := by decide +kernel
theorem dX12_writeEntry_56 : decode cX12_writeEntry 56 = .ok (.i2l, 1) := by decide +kernel
theorem dX12_writeEntry_57 : decode cX12_writeEntry 57 = .ok (.invokevirtual 387, 3) := by decide +kernel
theorem dX12_writeEntry_60 : decode cX12_writeEntry 60 = .ok (.aload_n 0, 1) := by decide +kernel
theorem dX12_writeEntry_61 : decode cX12_writeEntry 61 = .ok (.bipush 61, 2) := by decide +kernel
theorem dX12_writeEntry_63 : decode cX12_writeEntry 63 = .ok (.invokevirtual 391, 3) := by decide +kernel
theorem dX12_writeEntry_66 : decode cX12_writeEntry 66 = .ok (.aload_n 0, 1) := by decide +kernel
theorem dX12_writeEntry_67 : decode cX12_writeEntry 67 = .ok (.aload_n 0, 1) := by decide +kernel
theorem dX12_writeEntry_68 : decode cX12_writeEntry 68 = .ok (.getfield 10, 3) := by decide +kernel
theorem dX12_writeEntry_71 : decode cX12_writeEntry 71 = .ok (.getfield 88, 3) := by decide +kernel
theorem dX12_writeEntry_74 : decode cX12_writeEntry 74 = .ok (.iload_n 1, 1) := by decide +kernel
theorem dX12_writeEntry_75 : decode cX12_writeEntry 75 = .ok (.invokevirtual 252, 3) := by decide +kernel
theorem dX12_writeEntry_78 : decode cX12_writeEntry 78 = .ok (.invokevirtual 387, 3) := by decide +kernel
theorem dX12_writeEntry_81 : decode cX12_writeEntry 81 = .ok (.aload_n 0, 1) := by decide +kernel
theorem dX12_writeEntry_82 : decode cX12_writeEntry 82 = .ok (.getfield 10, 3) := by decide +kernel
theorem dX12_writeEntry_85 : decode cX12_writeEntry 85 = .ok (.getfield 88, 3) := by decide +kernel
theorem dX12_writeEntry_88 : decode cX12_writeEntry 88 = .ok (.iload_n 1, 1) := by decide +kernel
theorem dX12_writeEntry_89 : decode cX12_writeEntry 89 = .ok (.invokevirtual 258, 3) := by decide +kernel
theorem dX12_writeEntry_92 : decode cX12_writeEntry 92 = .ok (.ifCond .eq 9, 3) := by decide +kernel
theorem dX12_writeEntry_95 : decode cX12_writeEntry 95 = .ok (.aload_n 0, 1) := by decide +kernel
theorem dX12_writeEntry_96 : decode cX12_writeEntry 96 = .ok (.bipush 33, 2) := by decide +kernel
theorem dX12_writeEntry_98 : decode cX12_writeEntry 98 = .ok (.invokevirtual 391, 3) := by decide +kernel
theorem dX12_writeEntry_101 : decode cX12_writeEntry 101 = .ok (.aload_n 0, 1) := by decide +kernel
theorem dX12_writeEntry_102 : decode cX12_writeEntry 102 = .ok (.getfield 384, 3) := by decide +kernel
theorem dX12_writeEntry_105 : decode cX12_writeEntry 105 = .ok (.ireturn, 1) := by decide +kernel
theorem dX12_outputChar_0 : decode cX12_outputChar 0 = .ok (.iload_n 1, 1) := by decide +kernel
theorem dX12_outputChar_1 : decode cX12_outputChar 1 = .ok (.iconst 0, 1) := by decide +kernel
theorem dX12_outputChar_2 : decode cX12_outputChar 2 = .ok (.aload_n 0, 1) := by decide +kernel
theorem dX12_outputChar_3 : decode cX12_outputChar 3 = .ok (.getfield 384, 3) := by decide +kernel
theorem dX12_outputChar_6 : decode cX12_outputChar 6 = .ok (.iconst 1, 1) := by decide +kernel
theorem dX12_outputChar_7 : decode cX12_outputChar 7 = .ok (.isub, 1) := by decide +kernel
theorem dX12_outputChar_8 : decode cX12_outputChar 8 = .ok (.invokestatic 217, 3) := by decide +kernel
theorem dX12_outputChar_11 : decode cX12_outputChar 11 = .ok (.ifCond .ne 14, 3) := by decide +kernel
theorem dX12_outputChar_14 : decode cX12_outputChar 14 = .ok (.new 395, 3) := by decide +kernel
theorem dX12_outputChar_17 : decode cX12_outputChar 17 = .ok (.dup, 1) := by decide +kernel
theorem dX12_outputChar_18 : decode cX12_outputChar 18 = .ok (.ldc_w 397, 3) := by decide +kernel
theorem dX12_outputChar_21 : decode cX12_outputChar 21 = .ok (.invokespecial 399, 3) := by decide +kernel
theorem dX12_outputChar_24 : decode cX12_outputChar 24 = .ok (.athrow, 1) := by decide +kernel
theorem dX12_outputChar_25 : decode cX12_outputChar 25 = .ok (.aload_n 0, 1) := by decide +kernel
theorem dX12_outputChar_26 : decode cX12_outputChar 26 = .ok (.getfield 40, 3) := by decide +kernel
theorem dX12_outputChar_29 : decode cX12_outputChar 29 = .ok (.iload_n 1, 1) := by decide +kernel
theorem dX12_outputChar_30 : decode cX12_outputChar 30 = .ok (.caload, 1) := by decide +kernel
theorem dX12_outputChar_31 : decode cX12_outputChar 31 = .ok (.ireturn, 1) := by decide +kernel
theorem dX12_undo_0 : decode cX12_undo 0 = .ok (.aload_n 0, 1) := by decide +kernel
theorem dX12_undo_1 : decode cX12_undo 1 = .ok (.getfield 22, 3) := by decide +kernel
theorem dX12_undo_4 : decode cX12_undo 4 = .ok (.getfield 400, 3) := by decide +kernel
theorem dX12_undo_7 : decode cX12_undo 7 = .ok (.ifCond .ne 14, 3) := by decide +kernel
theorem dX12_undo_10 : decode cX12_undo 10 = .ok (.new 321, 3) := by decide +kernel
theorem dX12_undo_13 : decode cX12_undo 13 = .ok (.dup, 1) := by decide +kernel
theorem dX12_undo_14 : decode cX12_undo 14 = .ok (.ldc_w 401, 3) := by decide +kernel
theorem dX12_undo_17 : decode cX12_undo 17 = .ok (.invokespecial 323, 3) := by decide +kernel
theorem dX12_undo_20 : decode cX12_undo 20 = .ok (.athrow, 1) := by decide +kernel
theorem dX12_undo_21 : decode cX12_undo 21 = .ok (.aload_n 0, 1) := by decide +kernel
theorem dX12_undo_22 : decode cX12_undo 22 = .ok (.getfield 22, 3) := by decide +kernel
theorem dX12_undo_25 : decode cX12_undo 25 = .ok (.aload_n 0, 1) := by decide +kernel
theorem dX12_undo_26 : decode cX12_undo 26 = .ok (.getfield 10, 3) := by decide +kernel
theorem dX12_undo_29 : decode cX12_undo 29 = .ok (.invokevirtual 403, 3) := by decide +kernel
theorem dX12_undo_32 : decode cX12_undo 32 = .ok (.aload_n 0, 1) := by decide +kernel
theorem dX12_undo_33 : decode cX12_undo 33 = .ok (.getfield 22, 3) := by decide +kernel
theorem dX12_undo_36 : decode cX12_undo 36 = .ok (.getfield 400, 3) := by decide +kernel
theorem dX12_undo_39 : decode cX12_undo 39 = .ok (.ireturn, 1) := by decide +kernel
theorem dX12_save_0 : decode cX12_save 0 = .ok (.aload_n 0, 1) := by decide +kernel
theorem dX12_save_1 : decode cX12_save 1 = .ok (.getfield 16, 3) := by decide +kernel
theorem dX12_save_4 : decode cX12_save 4 = .ok (.aload_n 0, 1) := by decide +kernel
theorem dX12_save_5 : decode cX12_save 5 = .ok (.getfield 10, 3) := by decide +kernel
theorem dX12_save_8 : decode cX12_save 8 = .ok (.invokevirtual 406, 3) := by decide +kernel
theorem dX12_save_11 : decode cX12_save 11 = .ok (.aload_n 0, 1) := by decide +kernel
theorem dX12_save_12 : decode cX12_save 12 = .ok (.iconst 1, 1) := by decide +kernel
theorem dX12_save_13 : decode cX12_save 13 = .ok (.putfield 409, 3) := by decide +kernel
theorem dX12_save_16 : decode cX12_save 16 = .ok (.aload_n 0, 1) := by decide +kernel
theorem dX12_save_17 : decode cX12_save 17 = .ok (.getfield 10, 3) := by decide +kernel
theorem dX12_save_20 : decode cX12_save 20 = .ok (.getfield 51, 3) := by decide +kernel
theorem dX12_save_23 : decode cX12_save 23 = .ok (.getfield 173, 3) := by decide +kernel
theorem dX12_save_26 : decode cX12_save 26 = .ok (.ireturn, 1) := by decide +kernel
theorem dX12_restore_0 : decode cX12_restore 0 = .ok (.aload_n 0, 1) := by decide +kernel
theorem dX12_restore_1 : decode cX12_restore 1 = .ok (.getfield 409, 3) := by decide +kernel
theorem dX12_restore_4 : decode cX12_restore 4 = .ok (.ifCond .ne 14, 3) := by decide +kernel
theorem dX12_restore_7 : decode cX12_restore 7 = .ok (.new 321, 3) := by decide +kernel
theorem dX12_restore_10 : decode cX12_restore 10 = .ok (.dup, 1) := by decide +kernel
theorem dX12_restore_11 : decode cX12_restore 11 = .ok (.ldc_w 413, 3) := by decide +kernel
theorem dX12_restore_14 : decode cX12_restore 14 = .ok (.invokespecial 323, 3) := by decide +kernel
theorem dX12_restore_17 : decode cX12_restore 17 = .ok (.athrow, 1) := by decide +kernel
theorem dX12_restore_18 : decode cX12_restore 18 = .ok (.aload_n 0, 1) := by decide +kernel
theorem dX12_restore_19 : decode cX12_restore 19 = .ok (.getfield 10, 3) := by decide +kernel
theorem dX12_restore_22 : decode cX12_restore 22 = .ok (.aload_n 0, 1) := by decide +kernel
theorem dX12_restore_23 : decode cX12_restore 23 = .ok (.getfield 16, 3) := by decide +kernel
theorem dX12_restore_26 : decode cX12_restore 26 = .ok (.invokevirtual 406, 3) := by decide +kernel
theorem dX12_restore_29 : decode cX12_restore 29 = .ok (.aload_n 0, 1) := by decide +kernel
theorem dX12_restore_30 : decode cX12_restore 30 = .ok (.getfield 22, 3) := by decide +kernel
theorem dX12_restore_33 : decode cX12_restore 33 = .ok (.invokevirtual 415, 3) := by decide +kernel
theorem dX12_restore_36 : decode cX12_restore 36 = .ok (.aload_n 0, 1) := by decide +kernel
theorem dX12_restore_37 : decode cX12_restore 37 = .ok (.getfield 10, 3) := by decide +kernel
theorem dX12_restore_40 : decode cX12_restore 40 = .ok (.getfield 51, 3) := by decide +kernel
theorem dX12_restore_43 : decode cX12_restore 43 = .ok (.getfield 173, 3) := by decide +kernel
theorem dX12_restore_46 : decode cX12_restore 46 = .ok (.ireturn, 1) := by decide +kernel
theorem dX12_record_0 : decode cX12_record 0 = .ok (.aload_n 0, 1) := by decide +kernel
theorem dX12_record_1 : decode cX12_record 1 = .ok (.getfield 22, 3) := by decide +kernel
theorem dX12_record_4 : decode cX12_record 4 = .ok (.aload_n 0, 1) := by decide +kernel
theorem dX12_record_5 : decode cX12_record 5 = .ok (.getfield 10, 3) := by decide +kernel
theorem dX12_record_8 : decode cX12_record 8 = .ok (.invokevirtual 355, 3) := by decide +kernel
theorem dX12_record_11 : decode cX12_record 11 = .ok (.aload_n 0, 1) := by decide +kernel
theorem dX12_record_12 : decode cX12_record 12 = .ok (.getfield 22, 3) := by decide +kernel
theorem dX12_record_15 : decode cX12_record 15 = .ok (.invokevirtual 377, 3) := by decide +kernel
theorem dX12_record_18 : decode cX12_record 18 = .ok (.return_, 1) := by decide +kernel
theorem dX12_refuse_0 : decode cX12_refuse 0 = .ok (.aload_n 0, 1) := by decide +kernel
theorem dX12_refuse_1 : decode cX12_refuse 1 = .ok (.getstatic 418, 3) := by decide +kernel
theorem dX12_refuse_4 : decode cX12_refuse 4 = .ok (.if_acmp .ne 14, 3) := by decide +kernel
theorem dX12_refuse_7 : decode cX12_refuse 7 = .ok (.new 395, 3) := by decide +kernel
theorem dX12_refuse_10 : decode cX12_refuse 10 = .ok (.dup, 1) := by decide +kernel
theorem dX12_refuse_11 : decode cX12_refuse 11 = .ok (.ldc_w 421, 3) := by decide +kernel
theorem dX12_refuse_14 : decode cX12_refuse 14 = .ok (.invokespecial 399, 3) := by decide +kernel
theorem dX12_refuse_17 : decode cX12_refuse 17 = .ok (.athrow, 1) := by decide +kernel
theorem dX12_refuse_18 : decode cX12_refuse 18 = .ok (.aload_n 0, 1) := by decide +kernel
theorem dX12_refuse_19 : decode cX12_refuse 19 = .ok (.getstatic 423, 3) := by decide +kernel
theorem dX12_refuse_22 : decode cX12_refuse 22 = .ok (.if_acmp .ne 14, 3) := by decide +kernel
theorem dX12_refuse_25 : decode cX12_refuse 25 = .ok (.new 182, 3) := by decide +kernel
theorem dX12_refuse_28 : decode cX12_refuse 28 = .ok (.dup, 1) := by decide +kernel
theorem dX12_refuse_29 : decode cX12_refuse 29 = .ok (.ldc_w 426, 3) := by decide +kernel
theorem dX12_refuse_32 : decode cX12_refuse 32 = .ok (.invokespecial 186, 3) := by decide +kernel
theorem dX12_refuse_35 : decode cX12_refuse 35 = .ok (.athrow, 1) := by decide +kernel
theorem dX12_refuse_36 : decode cX12_refuse 36 = .ok (.aload_n 0, 1) := by decide +kernel
theorem dX12_refuse_37 : decode cX12_refuse 37 = .ok (.getstatic 428, 3) := by decide +kernel
theorem dX12_refuse_40 : decode cX12_refuse 40 = .ok (.if_acmp .ne 14, 3) := by decide +kernel
theorem dX12_refuse_43 : decode cX12_refuse 43 = .ok (.new 269, 3) := by decide +kernel
theorem dX12_refuse_46 : decode cX12_refuse 46 = .ok (.dup, 1) := by decide +kernel
theorem dX12_refuse_47 : decode cX12_refuse 47 = .ok (.ldc_w 431, 3) := by decide +kernel
theorem dX12_refuse_50 : decode cX12_refuse 50 = .ok (.invokespecial 273, 3) := by decide +kernel
theorem dX12_refuse_53 : decode cX12_refuse 53 = .ok (.athrow, 1) := by decide +kernel
theorem dX12_refuse_54 : decode cX12_refuse 54 = .ok (.aload_n 0, 1) := by decide +kernel
theorem dX12_refuse_55 : decode cX12_refuse 55 = .ok (.getstatic 433, 3) := by decide +kernel
theorem dX12_refuse_58 : decode cX12_refuse 58 = .ok (.if_acmp .ne 14, 3) := by decide +kernel
theorem dX12_refuse_61 : decode cX12_refuse 61 = .ok (.new 321, 3) := by decide +kernel
theorem dX12_refuse_64 : decode cX12_refuse 64 = .ok (.dup, 1) := by decide +kernel
theorem dX12_refuse_65 : decode cX12_refuse 65 = .ok (.ldc_w 436, 3) := by decide +kernel
theorem dX12_refuse_68 : decode cX12_refuse 68 = .ok (.invokespecial 323, 3) := by decide +kernel
theorem dX12_refuse_71 : decode cX12_refuse 71 = .ok (.athrow, 1) := by decide +kernel
theorem dX12_refuse_72 : decode cX12_refuse 72 = .ok (.aload_n 0, 1) := by decide +kernel
theorem dX12_refuse_73 : decode cX12_refuse 73 = .ok (.getstatic 438, 3) := by decide +kernel
theorem dX12_refuse_76 : decode cX12_refuse 76 = .ok (.if_acmp .ne 14, 3) := by decide +kernel
theorem dX12_refuse_79 : decode cX12_refuse 79 = .ok (.new 372, 3) := by decide +kernel
theorem dX12_refuse_82 : decode cX12_refuse 82 = .ok (.dup, 1) := by decide +kernel
theorem dX12_refuse_83 : decode cX12_refuse 83 = .ok (.ldc_w 441, 3) := by decide +kernel
theorem dX12_refuse_86 : decode cX12_refuse 86 = .ok (.invokespecial 376, 3) := by decide +kernel
theorem dX12_refuse_89 : decode cX12_refuse 89 = .ok (.athrow, 1) := by decide +kernel
theorem dX12_refuse_90 : decode cX12_refuse 90 = .ok (.return_, 1) := by decide +kernel
theorem dX12_checkAccount_0 : decode cX12_checkAccount 0 = .ok (.aload_n 0, 1) := by decide +kernel
theorem dX12_checkAccount_1 : decode cX12_checkAccount 1 = .ok (.getfield 10, 3) := by decide +kernel
theorem dX12_checkAccount_4 : decode cX12_checkAccount 4 = .ok (.getfield 51, 3) := by decide +kernel
theorem dX12_checkAccount_7 : decode cX12_checkAccount 7 = .ok (.iload_n 1, 1) := by decide +kernel
theorem dX12_checkAccount_8 : decode cX12_checkAccount 8 = .ok (.invokevirtual 443, 3) := by decide +kernel
theorem dX12_checkAccount_11 : decode cX12_checkAccount 11 = .ok (.ifCond .ne 14, 3) := by decide +kernel
theorem dX12_checkAccount_14 : decode cX12_checkAccount 14 = .ok (.new 395, 3) := by decide +kernel
theorem dX12_checkAccount_17 : decode cX12_checkAccount 17 = .ok (.dup, 1) := by decide +kernel
theorem dX12_checkAccount_18 : decode cX12_checkAccount 18 = .ok (.ldc_w 421, 3) := by decide +kernel
theorem dX12_checkAccount_21 : decode cX12_checkAccount 21 = .ok (.invokespecial 399, 3) := by decide +kernel
theorem dX12_checkAccount_24 : decode cX12_checkAccount 24 = .ok (.athrow, 1) := by decide +kernel
theorem dX12_checkAccount_25 : decode cX12_checkAccount 25 = .ok (.return_, 1) := by decide +kernel
theorem dX12_checkEntry_0 : decode cX12_checkEntry 0 = .ok (.aload_n 0, 1) := by decide +kernel
theorem dX12_checkEntry_1 : decode cX12_checkEntry 1 = .ok (.getfield 10, 3) := by decide +kernel
theorem dX12_checkEntry_4 : decode cX12_checkEntry 4 = .ok (.getfield 88, 3) := by decide +kernel
theorem dX12_checkEntry_7 : decode cX12_checkEntry 7 = .ok (.iload_n 1, 1) := by decide +kernel
theorem dX12_checkEntry_8 : decode cX12_checkEntry 8 = .ok (.invokevirtual 446, 3) := by decide +kernel
theorem dX12_checkEntry_11 : decode cX12_checkEntry 11 = .ok (.ifCond .ne 14, 3) := by decide +kernel
theorem dX12_checkEntry_14 : decode cX12_checkEntry 14 = .ok (.new 182, 3) := by decide +kernel
theorem dX12_checkEntry_17 : decode cX12_checkEntry 17 = .ok (.dup, 1) := by decide +kernel
theorem dX12_checkEntry_18 : decode cX12_checkEntry 18 = .ok (.ldc_w 426, 3) := by decide +kernel
theorem dX12_checkEntry_21 : decode cX12_checkEntry 21 = .ok (.invokespecial 186, 3) := by decide +kernel
theorem dX12_checkEntry_24 : decode cX12_checkEntry 24 = .ok (.athrow, 1) := by decide +kernel
theorem dX12_checkEntry_25 : decode cX12_checkEntry 25 = .ok (.return_, 1) := by decide +kernel
theorem dX12_checkPrompt_0 : decode cX12_checkPrompt 0 = .ok (.aload_n 0, 1) := by decide +kernel
theorem dX12_checkPrompt_1 : decode cX12_checkPrompt 1 = .ok (.getfield 10, 3) := by decide +kernel
theorem dX12_checkPrompt_4 : decode cX12_checkPrompt 4 = .ok (.getfield 101, 3) := by decide +kernel
theorem dX12_checkPrompt_7 : decode cX12_checkPrompt 7 = .ok (.iload_n 1, 1) := by decide +kernel
theorem dX12_checkPrompt_8 : decode cX12_checkPrompt 8 = .ok (.invokevirtual 447, 3) := by decide +kernel
theorem dX12_checkPrompt_11 : decode cX12_checkPrompt 11 = .ok (.ifCond .ne 14, 3) := by decide +kernel
theorem dX12_checkPrompt_14 : decode cX12_checkPrompt 14 = .ok (.new 395, 3) := by decide +kernel
theorem dX12_checkPrompt_17 : decode cX12_checkPrompt 17 = .ok (.dup, 1) := by decide +kernel
theorem dX12_checkPrompt_18 : decode cX12_checkPrompt 18 = .ok (.ldc_w 448, 3) := by decide +kernel
theorem dX12_checkPrompt_21 : decode cX12_checkPrompt 21 = .ok (.invokespecial 399, 3) := by decide +kernel
theorem dX12_checkPrompt_24 : decode cX12_checkPrompt 24 = .ok (.athrow, 1) := by decide +kernel
theorem dX12_checkPrompt_25 : decode cX12_checkPrompt 25 = .ok (.return_, 1) := by decide +kernel
theorem dX12_checkedPlaceOf_0 : decode cX12_checkedPlaceOf 0 = .ok (.aload_n 0, 1) := by decide +kernel
theorem dX12_checkedPlaceOf_1 : decode cX12_checkedPlaceOf 1 = .ok (.getfield 10, 3) := by decide +kernel
theorem dX12_checkedPlaceOf_4 : decode cX12_checkedPlaceOf 4 = .ok (.getfield 145, 3) := by decide +kernel
theorem dX12_checkedPlaceOf_7 : decode cX12_checkedPlaceOf 7 = .ok (.iload_n 1, 1) := by decide +kernel
theorem dX12_checkedPlaceOf_8 : decode cX12_checkedPlaceOf 8 = .ok (.invokevirtual 450, 3) := by decide +kernel
theorem dX12_checkedPlaceOf_11 : decode cX12_checkedPlaceOf 11 = .ok (.istore_n 2, 1) := by decide +kernel
theorem dX12_checkedPlaceOf_12 : decode cX12_checkedPlaceOf 12 = .ok (.iload_n 2, 1) := by decide +kernel
theorem dX12_checkedPlaceOf_13 : decode cX12_checkedPlaceOf 13 = .ok (.iconst (-1), 1) := by decide +kernel
theorem dX12_checkedPlaceOf_14 : decode cX12_checkedPlaceOf 14 = .ok (.if_icmp .ne 14, 3) := by decide +kernel
theorem dX12_checkedPlaceOf_17 : decode cX12_checkedPlaceOf 17 = .ok (.new 182, 3) := by decide +kernel
theorem dX12_checkedPlaceOf_20 : decode cX12_checkedPlaceOf 20 = .ok (.dup, 1) := by decide +kernel
theorem dX12_checkedPlaceOf_21 : decode cX12_checkedPlaceOf 21 = .ok (.ldc_w 453, 3) := by decide +kernel
theorem dX12_checkedPlaceOf_24 : decode cX12_checkedPlaceOf 24 = .ok (.invokespecial 186, 3) := by decide +kernel
theorem dX12_checkedPlaceOf_27 : decode cX12_checkedPlaceOf 27 = .ok (.athrow, 1) := by decide +kernel
theorem dX12_checkedPlaceOf_28 : decode cX12_checkedPlaceOf 28 = .ok (.iload_n 2, 1) := by decide +kernel
theorem dX12_checkedPlaceOf_29 : decode cX12_checkedPlaceOf 29 = .ok (.ireturn, 1) := by decide +kernel
theorem dX12_checkAmount_0 : decode cX12_checkAmount 0 = .ok (.iload_n 0, 1) := by decide +kernel
theorem dX12_checkAmount_1 : decode cX12_checkAmount 1 = .ok (.iconst 1, 1) := by decide +kernel
theorem dX12_checkAmount_2 : decode cX12_checkAmount 2 = .ok (.sipush 999, 3) := by decide +kernel
theorem dX12_checkAmount_5 : decode cX12_checkAmount 5 = .ok (.invokestatic 217, 3) := by decide +kernel
theorem dX12_checkAmount_8 : decode cX12_checkAmount 8 = .ok (.ifCond .ne 14, 3) := by decide +kernel
theorem dX12_checkAmount_11 : decode cX12_checkAmount 11 = .ok (.new 269, 3) := by decide +kernel
theorem dX12_checkAmount_14 : decode cX12_checkAmount 14 = .ok (.dup, 1) := by decide +kernel
theorem dX12_checkAmount_15 : decode cX12_checkAmount 15 = .ok (.ldc_w 455, 3) := by decide +kernel
theorem dX12_checkAmount_18 : decode cX12_checkAmount 18 = .ok (.invokespecial 273, 3) := by decide +kernel
theorem dX12_checkAmount_21 : decode cX12_checkAmount 21 = .ok (.athrow, 1) := by decide +kernel
theorem dX12_checkAmount_22 : decode cX12_checkAmount 22 = .ok (.return_, 1) := by decide +kernel
theorem dX12_isWithin_0 : decode cX12_isWithin 0 = .ok (.iload_n 0, 1) := by decide +kernel
theorem dX12_isWithin_1 : decode cX12_isWithin 1 = .ok (.iload_n 1, 1) := by decide +kernel
theorem dX12_isWithin_2 : decode cX12_isWithin 2 = .ok (.if_icmp .lt 12, 3) := by decide +kernel
theorem dX12_isWithin_5 : decode cX12_isWithin 5 = .ok (.iload_n 0, 1) := by decide +kernel
theorem dX12_isWithin_6 : decode cX12_isWithin 6 = .ok (.iload_n 2, 1) := by decide +kernel
theorem dX12_isWithin_7 : decode cX12_isWithin 7 = .ok (.if_icmp .gt 7, 3) := by decide +kernel
theorem dX12_isWithin_10 : decode cX12_isWithin 10 = .ok (.iconst 1, 1) := by decide +kernel
theorem dX12_isWithin_11 : decode cX12_isWithin 11 = .ok (.goto 4, 3) := by decide +kernel
theorem dX12_isWithin_14 : decode cX12_isWithin 14 = .ok (.iconst 0, 1) := by decide +kernel
theorem dX12_isWithin_15 : decode cX12_isWithin 15 = .ok (.ireturn, 1) := by decide +kernel
theorem dX12_isKind_0 : decode cX12_isKind 0 = .ok (.iload_n 0, 1) := by decide +kernel
theorem dX12_isKind_1 : decode cX12_isKind 1 = .ok (.bipush 97, 2) := by decide +kernel
theorem dX12_isKind_3 : decode cX12_isKind 3 = .ok (.if_icmp .eq 21, 3) := by decide +kernel
theorem dX12_isKind_6 : decode cX12_isKind 6 = .ok (.iload_n 0, 1) := by decide +kernel
theorem dX12_isKind_7 : decode cX12_isKind 7 = .ok (.bipush 108, 2) := by decide +kernel
theorem dX12_isKind_9 : decode cX12_isKind 9 = .ok (.if_icmp .eq 15, 3) := by decide +kernel
theorem dX12_isKind_12 : decode cX12_isKind 12 = .ok (.iload_n 0, 1) := by decide +kernel
theorem dX12_isKind_13 : decode cX12_isKind 13 = .ok (.bipush 105, 2) := by decide +kernel
theorem dX12_isKind_15 : decode cX12_isKind 15 = .ok (.if_icmp .eq 9, 3) := by decide +kernel
theorem dX12_isKind_18 : decode cX12_isKind 18 = .ok (.iload_n 0, 1) := by decide +kernel
theorem dX12_isKind_19 : decode cX12_isKind 19 = .ok (.bipush 101, 2) := by decide +kernel
theorem dX12_isKind_21 : decode cX12_isKind 21 = .ok (.if_icmp .ne 7, 3) := by decide +kernel
theorem dX12_isKind_24 : decode cX12_isKind 24 = .ok (.iconst 1, 1) := by decide +kernel
theorem dX12_isKind_25 : decode cX12_isKind 25 = .ok (.goto 4, 3) := by decide +kernel
theorem dX12_isKind_28 : decode cX12_isKind 28 = .ok (.iconst 0, 1) := by decide +kernel
theorem dX12_isKind_29 : decode cX12_isKind 29 = .ok (.ireturn, 1) := by decide +kernel
theorem dX12_isInSet_0 : decode cX12_isInSet 0 = .ok (.iload_n 1, 1) := by decide +kernel
theorem dX12_isInSet_1 : decode cX12_isInSet 1 = .ok (.iload_n 0, 1) := by decide +kernel
theorem dX12_isInSet_2 : decode cX12_isInSet 2 = .ok (.ishr, 1) := by decide +kernel
theorem dX12_isInSet_3 : decode cX12_isInSet 3 = .ok (.iconst 1, 1) := by decide +kernel
theorem dX12_isInSet_4 : decode cX12_isInSet 4 = .ok (.iand, 1) := by decide +kernel
theorem dX12_isInSet_5 : decode cX12_isInSet 5 = .ok (.iconst 1, 1) := by decide +kernel
theorem dX12_isInSet_6 : decode cX12_isInSet 6 = .ok (.if_icmp .ne 7, 3) := by decide +kernel
theorem dX12_isInSet_9 : decode cX12_isInSet 9 = .ok (.iconst 1, 1) := by decide +kernel
theorem dX12_isInSet_10 : decode cX12_isInSet 10 = .ok (.goto 4, 3) := by decide +kernel
theorem dX12_isInSet_13 : decode cX12_isInSet 13 = .ok (.iconst 0, 1) := by decide +kernel
theorem dX12_isInSet_14 : decode cX12_isInSet 14 = .ok (.ireturn, 1) := by decide +kernel
theorem dX12_faultOfHours_0 : decode cX12_faultOfHours 0 = .ok (.iload_n 0, 1) := by decide +kernel
theorem dX12_faultOfHours_1 : decode cX12_faultOfHours 1 = .ok (.iconst 1, 1) := by decide +kernel
theorem dX12_faultOfHours_2 : decode cX12_faultOfHours 2 = .ok (.bipush 24, 2) := by decide +kernel
theorem dX12_faultOfHours_4 : decode cX12_faultOfHours 4 = .ok (.invokestatic 217, 3) := by decide +kernel
theorem dX12_faultOfHours_7 : decode cX12_faultOfHours 7 = .ok (.ifCond .eq 9, 3) := by decide +kernel
theorem dX12_faultOfHours_10 : decode cX12_faultOfHours 10 = .ok (.getstatic 363, 3) := by decide +kernel
theorem dX12_faultOfHours_13 : decode cX12_faultOfHours 13 = .ok (.goto 6, 3) := by decide +kernel
theorem dX12_faultOfHours_16 : decode cX12_faultOfHours 16 = .ok (.getstatic 428, 3) := by decide +kernel
theorem dX12_faultOfHours_19 : decode cX12_faultOfHours 19 = .ok (.areturn, 1) := by decide +kernel
theorem dX12_carryOut_0 : decode cX12_carryOut 0 = .ok (.aload_n 0, 1) := by decide +kernel
theorem dX12_carryOut_1 : decode cX12_carryOut 1 = .ok (.getfield 36, 3) := by decide +kernel
theorem dX12_carryOut_4 : decode cX12_carryOut 4 = .ok (.iload_n 1, 1) := by decide +kernel
theorem dX12_carryOut_5 : decode cX12_carryOut 5 = .ok (.invokevirtual 457, 3) := by decide +kernel
theorem dX12_carryOut_8 : decode cX12_carryOut 8 = .ok (.astore_n 2, 1) := by decide +kernel
theorem dX12_carryOut_9 : decode cX12_carryOut 9 = .ok (.aload_n 2, 1) := by decide +kernel
theorem dX12_carryOut_10 : decode cX12_carryOut 10 = .ok (.ifnonnull 7, 3) := by decide +kernel
theorem dX12_carryOut_13 : decode cX12_carryOut 13 = .ok (.getstatic 428, 3) := by decide +kernel
theorem dX12_carryOut_16 : decode cX12_carryOut 16 = .ok (.areturn, 1) := by decide +kernel
theorem dX12_carryOut_17 : decode cX12_carryOut 17 = .ok (.aload_n 0, 1) := by decide +kernel
theorem dX12_carryOut_18 : decode cX12_carryOut 18 = .ok (.getfield 36, 3) := by decide +kernel
theorem dX12_carryOut_21 : decode cX12_carryOut 21 = .ok (.iload_n 1, 1) := by decide +kernel
theorem dX12_carryOut_22 : decode cX12_carryOut 22 = .ok (.iconst 0, 1) := by decide +kernel
theorem dX12_carryOut_23 : decode cX12_carryOut 23 = .ok (.invokevirtual 461, 3) := by decide +kernel
theorem dX12_carryOut_26 : decode cX12_carryOut 26 = .ok (.istore_n 3, 1) := by decide +kernel
theorem dX12_carryOut_27 : decode cX12_carryOut 27 = .ok (.aload_n 0, 1) := by decide +kernel
theorem dX12_carryOut_28 : decode cX12_carryOut 28 = .ok (.getfield 36, 3) := by decide +kernel
theorem dX12_carryOut_31 : decode cX12_carryOut 31 = .ok (.iload_n 1, 1) := by decide +kernel
theorem dX12_carryOut_32 : decode cX12_carryOut 32 = .ok (.iconst 1, 1) := by decide +kernel
theorem dX12_carryOut_33 : decode cX12_carryOut 33 = .ok (.invokevirtual 461, 3) := by decide +kernel
theorem dX12_carryOut_36 : decode cX12_carryOut 36 = .ok (.istore 4, 2) := by decide +kernel
theorem dX12_carryOut_38 : decode cX12_carryOut 38 = .ok (.getstatic 464, 3) := by decide +kernel
theorem dX12_carryOut_41 : decode cX12_carryOut 41 = .ok (.aload_n 2, 1) := by decide +kernel
theorem dX12_carryOut_42 : decode cX12_carryOut 42 = .ok (.invokevirtual 470, 3) := by decide +kernel
theorem dX12_carryOut_45 : decode cX12_carryOut 45 = .ok (.iaload, 1) := by decide +kernel
theorem dX12_carryOut_46 : decode cX12_carryOut 46 = .ok (.tableswitch 137 1 9 #[50, 67, 73, 82, 90, 98, 104, 110, 125], 50) := by decide +kernel
theorem dX12_carryOut_96 : decode cX12_carryOut 96 = .ok (.aload_n 0, 1) := by decide +kernel
theorem dX12_carryOut_97 : decode cX12_carryOut 97 = .ok (.iload_n 3, 1) := by decide +kernel
theorem dX12_carryOut_98 : decode cX12_carryOut 98 = .ok (.iload 4, 2) := by decide +kernel
theorem dX12_carryOut_100 : decode cX12_carryOut 100 = .ok (.aload_n 0, 1) := by decide +kernel
theorem dX12_carryOut_101 : decode cX12_carryOut 101 = .ok (.getfield 36, 3) := by decide +kernel
theorem dX12_carryOut_104 : decode cX12_carryOut 104 = .ok (.iload_n 1, 1) := by decide +kernel
theorem dX12_carryOut_105 : decode cX12_carryOut 105 = .ok (.iconst 2, 1) := by decide +kernel
theorem dX12_carryOut_106 : decode cX12_carryOut 106 = .ok (.invokevirtual 461, 3) := by decide +kernel
theorem dX12_carryOut_109 : decode cX12_carryOut 109 = .ok (.invokevirtual 475, 3) := by decide +kernel
theorem dX12_carryOut_112 : decode cX12_carryOut 112 = .ok (.areturn, 1) := by decide +kernel
theorem dX12_carryOut_113 : decode cX12_carryOut 113 = .ok (.aload_n 0, 1) := by decide +kernel
theorem dX12_carryOut_114 : decode cX12_carryOut 114 = .ok (.iload_n 3, 1) := by decide +kernel
theorem dX12_carryOut_115 : decode cX12_carryOut 115 = .ok (.invokevirtual 478, 3) := by decide +kernel
theorem dX12_carryOut_118 : decode cX12_carryOut 118 = .ok (.areturn, 1) := by decide +kernel
theorem dX12_carryOut_119 : decode cX12_carryOut 119 = .ok (.aload_n 0, 1) := by decide +kernel
theorem dX12_carryOut_120 : decode cX12_carryOut 120 = .ok (.iload_n 3, 1) := by decide +kernel
theorem dX12_carryOut_121 : decode cX12_carryOut 121 = .ok (.i2c, 1) := by decide +kernel
theorem dX12_carryOut_122 : decode cX12_carryOut 122 = .ok (.iload 4, 2) := by decide +kernel
theorem dX12_carryOut_124 : decode cX12_carryOut 124 = .ok (.invokevirtual 481, 3) := by decide +kernel
theorem dX12_carryOut_127 : decode cX12_carryOut 127 = .ok (.areturn, 1) := by decide +kernel
theorem dX12_carryOut_128 : decode cX12_carryOut 128 = .ok (.aload_n 0, 1) := by decide +kernel
theorem dX12_carryOut_129 : decode cX12_carryOut 129 = .ok (.iload_n 3, 1) := by decide +kernel
theorem dX12_carryOut_130 : decode cX12_carryOut 130 = .ok (.iload 4, 2) := by decide +kernel
theorem dX12_carryOut_132 : decode cX12_carryOut 132 = .ok (.invokevirtual 485, 3) := by decide +kernel
theorem dX12_carryOut_135 : decode cX12_carryOut 135 = .ok (.areturn, 1) := by decide +kernel
theorem dX12_carryOut_136 : decode cX12_carryOut 136 = .ok (.aload_n 0, 1) := by decide +kernel
theorem dX12_carryOut_137 : decode cX12_carryOut 137 = .ok (.iload_n 3, 1) := by decide +kernel
theorem dX12_carryOut_138 : decode cX12_carryOut 138 = .ok (.iload 4, 2) := by decide +kernel
theorem dX12_carryOut_140 : decode cX12_carryOut 140 = .ok (.invokevirtual 488, 3) := by decide +kernel
theorem dX12_carryOut_143 : decode cX12_carryOut 143 = .ok (.areturn, 1) := by decide +kernel
theorem dX12_carryOut_144 : decode cX12_carryOut 144 = .ok (.aload_n 0, 1) := by decide +kernel
theorem dX12_carryOut_145 : decode cX12_carryOut 145 = .ok (.iload_n 3, 1) := by decide +kernel
theorem dX12_carryOut_146 : decode cX12_carryOut 146 = .ok (.invokevirtual 491, 3) := by decide +kernel
theorem dX12_carryOut_149 : decode cX12_carryOut 149 = .ok (.areturn, 1) := by decide +kernel
theorem dX12_carryOut_150 : decode cX12_carryOut 150 = .ok (.aload_n 0, 1) := by decide +kernel
theorem dX12_carryOut_151 : decode cX12_carryOut 151 = .ok (.iload_n 3, 1) := by decide +kernel
theorem dX12_carryOut_152 : decode cX12_carryOut 152 = .ok (.invokevirtual 494, 3) := by decide +kernel
theorem dX12_carryOut_155 : decode cX12_carryOut 155 = .ok (.areturn, 1) := by decide +kernel
theorem dX12_carryOut_156 : decode cX12_carryOut 156 = .ok (.aload_n 0, 1) := by decide +kernel
theorem dX12_carryOut_157 : decode cX12_carryOut 157 = .ok (.iload_n 3, 1) := by decide +kernel
theorem dX12_carryOut_158 : decode cX12_carryOut 158 = .ok (.iconst (-1), 1) := by decide +kernel
theorem dX12_carryOut_159 : decode cX12_carryOut 159 = .ok (.if_icmp .ne 7, 3) := by decide +kernel
theorem dX12_carryOut_162 : decode cX12_carryOut 162 = .ok (.iconst 1, 1) := by decide +kernel
theorem dX12_carryOut_163 : decode cX12_carryOut 163 = .ok (.goto 4, 3) := by decide +kernel
theorem dX12_carryOut_166 : decode cX12_carryOut 166 = .ok (.iload_n 3, 1) := by decide +kernel
theorem dX12_carryOut_167 : decode cX12_carryOut 167 = .ok (.invokevirtual 497, 3) := by decide +kernel
theorem dX12_carryOut_170 : decode cX12_carryOut 170 = .ok (.areturn, 1) := by decide +kernel
theorem dX12_carryOut_171 : decode cX12_carryOut 171 = .ok (.aload_n 0, 1) := by decide +kernel
theorem dX12_carryOut_172 : decode cX12_carryOut 172 = .ok (.getfield 10, 3) := by decide +kernel
theorem dX12_carryOut_175 : decode cX12_carryOut 175 = .ok (.invokevirtual 166, 3) := by decide +kernel
theorem dX12_carryOut_178 : decode cX12_carryOut 178 = .ok (.pop2, 1) := by decide +kernel
theorem dX12_carryOut_179 : decode cX12_carryOut 179 = .ok (.getstatic 363, 3) := by decide +kernel
theorem dX12_carryOut_182 : decode cX12_carryOut 182 = .ok (.areturn, 1) := by decide +kernel
theorem dX12_carryOut_183 : decode cX12_carryOut 183 = .ok (.getstatic 428, 3) := by decide +kernel
theorem dX12_carryOut_186 : decode cX12_carryOut 186 = .ok (.areturn, 1) := by decide +kernel
theorem dX12_commandPost_0 : decode cX12_commandPost 0 = .ok (.aload_n 0, 1) := by decide +kernel
theorem dX12_commandPost_1 : decode cX12_commandPost 1 = .ok (.getfield 10, 3) := by decide +kernel
theorem dX12_commandPost_4 : decode cX12_commandPost 4 = .ok (.getfield 51, 3) := by decide +kernel
theorem dX12_commandPost_7 : decode cX12_commandPost 7 = .ok (.iload_n 1, 1) := by decide +kernel
theorem dX12_commandPost_8 : decode cX12_commandPost 8 = .ok (.iload_n 2, 1) := by decide +kernel
theorem dX12_commandPost_9 : decode cX12_commandPost 9 = .ok (.iload_n 3, 1) := by decide +kernel
theorem dX12_commandPost_10 : decode cX12_commandPost 10 = .ok (.invokevirtual 80, 3) := by decide +kernel
theorem dX12_commandPost_13 : decode cX12_commandPost 13 = .ok (.astore 4, 2) := by decide +kernel
theorem dX12_commandPost_15 : decode cX12_commandPost 15 = .ok (.aload 4, 2) := by decide +kernel
theorem dX12_commandPost_17 : decode cX12_commandPost 17 = .ok (.getstatic 363, 3) := by decide +kernel
theorem dX12_commandPost_20 : decode cX12_commandPost 20 = .ok (.if_acmp .ne 15, 3) := by decide +kernel
theorem dX12_commandPost_23 : decode cX12_commandPost 23 = .ok (.aload_n 0, 1) := by decide +kernel
theorem dX12_commandPost_24 : decode cX12_commandPost 24 = .ok (.getfield 10, 3) := by decide +kernel
theorem dX12_commandPost_27 : decode cX12_commandPost 27 = .ok (.iload_n 1, 1) := by decide +kernel
theorem dX12_commandPost_28 : decode cX12_commandPost 28 = .ok (.iload_n 2, 1) := by decide +kernel
theorem dX12_commandPost_29 : decode cX12_commandPost 29 = .ok (.iload_n 3, 1) := by decide +kernel
theorem dX12_commandPost_30 : decode cX12_commandPost 30 = .ok (.i2l, 1) := by decide +kernel
theorem dX12_commandPost_31 : decode cX12_commandPost 31 = .ok (.invokevirtual 84, 3) := by decide +kernel
theorem dX12_commandPost_34 : decode cX12_commandPost 34 = .ok (.pop, 1) := by decide +kernel
theorem dX12_commandPost_35 : decode cX12_commandPost 35 = .ok (.aload 4, 2) := by decide +kernel
theorem dX12_commandPost_37 : decode cX12_commandPost 37 = .ok (.areturn, 1) := by decide +kernel
theorem dX12_commandBack_0 : decode cX12_commandBack 0 = .ok (.aload_n 0, 1) := by decide +kernel
theorem dX12_commandBack_1 : decode cX12_commandBack 1 = .ok (.getfield 10, 3) := by decide +kernel
theorem dX12_commandBack_4 : decode cX12_commandBack 4 = .ok (.getfield 88, 3) := by decide +kernel
theorem dX12_commandBack_7 : decode cX12_commandBack 7 = .ok (.iload_n 1, 1) := by decide +kernel
theorem dX12_commandBack_8 : decode cX12_commandBack 8 = .ok (.invokevirtual 92, 3) := by decide +kernel
theorem dX12_commandBack_11 : decode cX12_commandBack 11 = .ok (.astore_n 2, 1) := by decide +kernel
theorem dX12_commandBack_12 : decode cX12_commandBack 12 = .ok (.aload_n 2, 1) := by decide +kernel
theorem dX12_commandBack_13 : decode cX12_commandBack 13 = .ok (.getstatic 363, 3) := by decide +kernel
theorem dX12_commandBack_16 : decode cX12_commandBack 16 = .ok (.if_acmp .ne 12, 3) := by decide +kernel
theorem dX12_commandBack_19 : decode cX12_commandBack 19 = .ok (.aload_n 0, 1) := by decide +kernel
theorem dX12_commandBack_20 : decode cX12_commandBack 20 = .ok (.getfield 10, 3) := by decide +kernel
theorem dX12_commandBack_23 : decode cX12_commandBack 23 = .ok (.iload_n 1, 1) := by decide +kernel
theorem dX12_commandBack_24 : decode cX12_commandBack 24 = .ok (.invokevirtual 97, 3) := by decide +kernel
theorem dX12_commandBack_27 : decode cX12_commandBack 27 = .ok (.pop, 1) := by decide +kernel
theorem dX12_commandBack_28 : decode cX12_commandBack 28 = .ok (.aload_n 2, 1) := by decide +kernel
theorem dX12_commandBack_29 : decode cX12_commandBack 29 = .ok (.areturn, 1) := by decide +kernel
theorem dX12_commandOpen_0 : decode cX12_commandOpen 0 = .ok (.iload_n 2, 1) := by decide +kernel
theorem dX12_commandOpen_1 : decode cX12_commandOpen 1 = .ok (.iconst (-1), 1) := by decide +kernel
theorem dX12_commandOpen_2 : decode cX12_commandOpen 2 = .ok (.if_icmp .ne 17, 3) := by decide +kernel
theorem dX12_commandOpen_5 : decode cX12_commandOpen 5 = .ok (.aload_n 0, 1) := by decide +kernel
theorem dX12_commandOpen_6 : decode cX12_commandOpen 6 = .ok (.getfield 10, 3) := by decide +kernel
theorem dX12_commandOpen_9 : decode cX12_commandOpen 9 = .ok (.getfield 51, 3) := by decide +kernel
theorem dX12_commandOpen_12 : decode cX12_commandOpen 12 = .ok (.iload_n 1, 1) := by decide +kernel
theorem dX12_commandOpen_13 : decode cX12_commandOpen 13 = .ok (.invokevirtual 55, 3) := by decide +kernel
theorem dX12_commandOpen_16 : decode cX12_commandOpen 16 = .ok (.goto 14, 3) := by decide +kernel
theorem dX12_commandOpen_19 : decode cX12_commandOpen 19 = .ok (.aload_n 0, 1) := by decide +kernel
theorem dX12_commandOpen_20 : decode cX12_commandOpen 20 = .ok (.getfield 10, 3) := by decide +kernel
theorem dX12_commandOpen_23 : decode cX12_commandOpen 23 = .ok (.getfield 51, 3) := by decide +kernel
theorem dX12_commandOpen_26 : decode cX12_commandOpen 26 = .ok (.iload_n 2, 1) := by decide +kernel
theorem dX12_commandOpen_27 : decode cX12_commandOpen 27 = .ok (.invokevirtual 72, 3) := by decide +kernel
theorem dX12_commandOpen_30 : decode cX12_commandOpen 30 = .ok (.astore_n 3, 1) := by decide +kernel
theorem dX12_commandOpen_31 : decode cX12_commandOpen 31 = .ok (.aload_n 3, 1) := by decide +kernel
theorem dX12_commandOpen_32 : decode cX12_commandOpen 32 = .ok (.getstatic 363, 3) := by decide +kernel
theorem dX12_commandOpen_35 : decode cX12_commandOpen 35 = .ok (.if_acmp .eq 5, 3) := by decide +kernel
theorem dX12_commandOpen_38 : decode cX12_commandOpen 38 = .ok (.aload_n 3, 1) := by decide +kernel
theorem dX12_commandOpen_39 : decode cX12_commandOpen 39 = .ok (.areturn, 1) := by decide +kernel
theorem dX12_commandOpen_40 : decode cX12_commandOpen 40 = .ok (.iload_n 2, 1) := by decide +kernel
theorem dX12_commandOpen_41 : decode cX12_commandOpen 41 = .ok (.iconst (-1), 1) := by decide +kernel
theorem dX12_commandOpen_42 : decode cX12_commandOpen 42 = .ok (.if_icmp .eq 22, 3) := by decide +kernel
theorem dX12_commandOpen_45 : decode cX12_commandOpen 45 = .ok (.aload_n 0, 1) := by decide +kernel
theorem dX12_commandOpen_46 : decode cX12_commandOpen 46 = .ok (.getfield 10, 3) := by decide +kernel
theorem dX12_commandOpen_49 : decode cX12_commandOpen 49 = .ok (.getfield 51, 3) := by decide +kernel
theorem dX12_commandOpen_52 : decode cX12_commandOpen 52 = .ok (.iload_n 2, 1) := by decide +kernel
theorem dX12_commandOpen_53 : decode cX12_commandOpen 53 = .ok (.invokevirtual 76, 3) := by decide +kernel
theorem dX12_commandOpen_56 : decode cX12_commandOpen 56 = .ok (.iload_n 1, 1) := by decide +kernel
theorem dX12_commandOpen_57 : decode cX12_commandOpen 57 = .ok (.if_icmp .eq 7, 3) := by decide +kernel
theorem dX12_commandOpen_60 : decode cX12_commandOpen 60 = .ok (.getstatic 428, 3) := by decide +kernel
theorem dX12_commandOpen_63 : decode cX12_commandOpen 63 = .ok (.areturn, 1) := by decide +kernel
theorem dX12_commandOpen_64 : decode cX12_commandOpen 64 = .ok (.aload_n 0, 1) := by decide +kernel
theorem dX12_commandOpen_65 : decode cX12_commandOpen 65 = .ok (.getfield 10, 3) := by decide +kernel
theorem dX12_commandOpen_68 : decode cX12_commandOpen 68 = .ok (.getfield 51, 3) := by decide +kernel
theorem dX12_commandOpen_71 : decode cX12_commandOpen 71 = .ok (.iload_n 1, 1) := by decide +kernel
theorem dX12_commandOpen_72 : decode cX12_commandOpen 72 = .ok (.iload_n 2, 1) := by decide +kernel
theorem dX12_commandOpen_73 : decode cX12_commandOpen 73 = .ok (.invokevirtual 68, 3) := by decide +kernel
theorem dX12_commandOpen_76 : decode cX12_commandOpen 76 = .ok (.pop, 1) := by decide +kernel
theorem dX12_commandOpen_77 : decode cX12_commandOpen 77 = .ok (.getstatic 363, 3) := by decide +kernel
theorem dX12_commandOpen_80 : decode cX12_commandOpen 80 = .ok (.areturn, 1) := by decide +kernel
theorem dX12_commandBuy_0 : decode cX12_commandBuy 0 = .ok (.aload_n 0, 1) := by decide +kernel
theorem dX12_commandBuy_1 : decode cX12_commandBuy 1 = .ok (.getfield 10, 3) := by decide +kernel
theorem dX12_commandBuy_4 : decode cX12_commandBuy 4 = .ok (.iload_n 1, 1) := by decide +kernel
theorem dX12_commandBuy_5 : decode cX12_commandBuy 5 = .ok (.iload_n 2, 1) := by decide +kernel
theorem dX12_commandBuy_6 : decode cX12_commandBuy 6 = .ok (.invokevirtual 126, 3) := by decide +kernel
theorem dX12_commandBuy_9 : decode cX12_commandBuy 9 = .ok (.astore_n 3, 1) := by decide +kernel
theorem dX12_commandBuy_10 : decode cX12_commandBuy 10 = .ok (.aload_n 3, 1) := by decide +kernel
theorem dX12_commandBuy_11 : decode cX12_commandBuy 11 = .ok (.getstatic 363, 3) := by decide +kernel
theorem dX12_commandBuy_14 : decode cX12_commandBuy 14 = .ok (.if_acmp .ne 13, 3) := by decide +kernel
theorem dX12_commandBuy_17 : decode cX12_commandBuy 17 = .ok (.aload_n 0, 1) := by decide +kernel
theorem dX12_commandBuy_18 : decode cX12_commandBuy 18 = .ok (.getfield 10, 3) := by decide +kernel
theorem dX12_commandBuy_21 : decode cX12_commandBuy 21 = .ok (.iload_n 1, 1) := by decide +kernel
theorem dX12_commandBuy_22 : decode cX12_commandBuy 22 = .ok (.iload_n 2, 1) := by decide +kernel
theorem dX12_commandBuy_23 : decode cX12_commandBuy 23 = .ok (.invokevirtual 129, 3) := by decide +kernel
theorem dX12_commandBuy_26 : decode cX12_commandBuy 26 = .ok (.pop, 1) := by decide +kernel
theorem dX12_commandBuy_27 : decode cX12_commandBuy 27 = .ok (.aload_n 3, 1) := by decide +kernel
theorem dX12_commandBuy_28 : decode cX12_commandBuy 28 = .ok (.areturn, 1) := by decide +kernel
theorem dX12_commandSell_0 : decode cX12_commandSell 0 = .ok (.aload_n 0, 1) := by decide +kernel
theorem dX12_commandSell_1 : decode cX12_commandSell 1 = .ok (.getfield 10, 3) := by decide +kernel
theorem dX12_commandSell_4 : decode cX12_commandSell 4 = .ok (.getfield 133, 3) := by decide +kernel
theorem dX12_commandSell_7 : decode cX12_commandSell 7 = .ok (.iload_n 1, 1) := by decide +kernel
theorem dX12_commandSell_8 : decode cX12_commandSell 8 = .ok (.iload_n 2, 1) := by decide +kernel
theorem dX12_commandSell_9 : decode cX12_commandSell 9 = .ok (.invokevirtual 137, 3) := by decide +kernel
theorem dX12_commandSell_12 : decode cX12_commandSell 12 = .ok (.astore_n 3, 1) := by decide +kernel
theorem dX12_commandSell_13 : decode cX12_commandSell 13 = .ok (.aload_n 3, 1) := by decide +kernel
theorem dX12_commandSell_14 : decode cX12_commandSell 14 = .ok (.getstatic 363, 3) := by decide +kernel
theorem dX12_commandSell_17 : decode cX12_commandSell 17 = .ok (.if_acmp .ne 13, 3) := by decide +kernel
theorem dX12_commandSell_20 : decode cX12_commandSell 20 = .ok (.aload_n 0, 1) := by decide +kernel
theorem dX12_commandSell_21 : decode cX12_commandSell 21 = .ok (.getfield 10, 3) := by decide +kernel
theorem dX12_commandSell_24 : decode cX12_commandSell 24 = .ok (.iload_n 1, 1) := by decide +kernel
theorem dX12_commandSell_25 : decode cX12_commandSell 25 = .ok (.iload_n 2, 1) := by decide +kernel
theorem dX12_commandSell_26 : decode cX12_commandSell 26 = .ok (.invokevirtual 142, 3) := by decide +kernel
theorem dX12_commandSell_29 : decode cX12_commandSell 29 = .ok (.pop, 1) := by decide +kernel
theorem dX12_commandSell_30 : decode cX12_commandSell 30 = .ok (.aload_n 3, 1) := by decide +kernel
theorem dX12_commandSell_31 : decode cX12_commandSell 31 = .ok (.areturn, 1) := by decide +kernel
theorem dX12_commandBill_0 : decode cX12_commandBill 0 = .ok (.aload_n 0, 1) := by decide +kernel
theorem dX12_commandBill_1 : decode cX12_commandBill 1 = .ok (.getfield 10, 3) := by decide +kernel
theorem dX12_commandBill_4 : decode cX12_commandBill 4 = .ok (.getfield 145, 3) := by decide +kernel
theorem dX12_commandBill_7 : decode cX12_commandBill 7 = .ok (.iload_n 1, 1) := by decide +kernel
theorem dX12_commandBill_8 : decode cX12_commandBill 8 = .ok (.invokevirtual 149, 3) := by decide +kernel
theorem dX12_commandBill_11 : decode cX12_commandBill 11 = .ok (.astore_n 2, 1) := by decide +kernel
theorem dX12_commandBill_12 : decode cX12_commandBill 12 = .ok (.aload_n 2, 1) := by decide +kernel
theorem dX12_commandBill_13 : decode cX12_commandBill 13 = .ok (.getstatic 363, 3) := by decide +kernel
theorem dX12_commandBill_16 : decode cX12_commandBill 16 = .ok (.if_acmp .ne 12, 3) := by decide +kernel
theorem dX12_commandBill_19 : decode cX12_commandBill 19 = .ok (.aload_n 0, 1) := by decide +kernel
theorem dX12_commandBill_20 : decode cX12_commandBill 20 = .ok (.getfield 10, 3) := by decide +kernel
theorem dX12_commandBill_23 : decode cX12_commandBill 23 = .ok (.iload_n 1, 1) := by decide +kernel
theorem dX12_commandBill_24 : decode cX12_commandBill 24 = .ok (.invokevirtual 153, 3) := by decide +kernel
theorem dX12_commandBill_27 : decode cX12_commandBill 27 = .ok (.pop, 1) := by decide +kernel
theorem dX12_commandBill_28 : decode cX12_commandBill 28 = .ok (.aload_n 2, 1) := by decide +kernel
theorem dX12_commandBill_29 : decode cX12_commandBill 29 = .ok (.areturn, 1) := by decide +kernel
theorem dX12_commandPay_0 : decode cX12_commandPay 0 = .ok (.aload_n 0, 1) := by decide +kernel
theorem dX12_commandPay_1 : decode cX12_commandPay 1 = .ok (.getfield 10, 3) := by decide +kernel
theorem dX12_commandPay_4 : decode cX12_commandPay 4 = .ok (.getfield 145, 3) := by decide +kernel
theorem dX12_commandPay_7 : decode cX12_commandPay 7 = .ok (.iload_n 1, 1) := by decide +kernel
theorem dX12_commandPay_8 : decode cX12_commandPay 8 = .ok (.invokevirtual 156, 3) := by decide +kernel
theorem dX12_commandPay_11 : decode cX12_commandPay 11 = .ok (.astore_n 2, 1) := by decide +kernel
theorem dX12_commandPay_12 : decode cX12_commandPay 12 = .ok (.aload_n 2, 1) := by decide +kernel
theorem dX12_commandPay_13 : decode cX12_commandPay 13 = .ok (.getstatic 363, 3) := by decide +kernel
theorem dX12_commandPay_16 : decode cX12_commandPay 16 = .ok (.if_acmp .ne 27, 3) := by decide +kernel
theorem dX12_commandPay_19 : decode cX12_commandPay 19 = .ok (.aload_n 0, 1) := by decide +kernel
theorem dX12_commandPay_20 : decode cX12_commandPay 20 = .ok (.getfield 10, 3) := by decide +kernel
theorem dX12_commandPay_23 : decode cX12_commandPay 23 = .ok (.iload_n 1, 1) := by decide +kernel
theorem dX12_commandPay_24 : decode cX12_commandPay 24 = .ok (.aload_n 0, 1) := by decide +kernel
theorem dX12_commandPay_25 : decode cX12_commandPay 25 = .ok (.getfield 29, 3) := by decide +kernel
theorem dX12_commandPay_28 : decode cX12_commandPay 28 = .ok (.aload_n 0, 1) := by decide +kernel
theorem dX12_commandPay_29 : decode cX12_commandPay 29 = .ok (.getfield 10, 3) := by decide +kernel
theorem dX12_commandPay_32 : decode cX12_commandPay 32 = .ok (.getfield 145, 3) := by decide +kernel
theorem dX12_commandPay_35 : decode cX12_commandPay 35 = .ok (.iload_n 1, 1) := by decide +kernel
theorem dX12_commandPay_36 : decode cX12_commandPay 36 = .ok (.invokevirtual 159, 3) := by decide +kernel
theorem dX12_commandPay_39 : decode cX12_commandPay 39 = .ok (.invokevirtual 163, 3) := by decide +kernel
theorem dX12_commandPay_42 : decode cX12_commandPay 42 = .ok (.pop, 1) := by decide +kernel
theorem dX12_commandPay_43 : decode cX12_commandPay 43 = .ok (.aload_n 2, 1) := by decide +kernel
theorem dX12_commandPay_44 : decode cX12_commandPay 44 = .ok (.areturn, 1) := by decide +kernel
theorem dX12_commandWait_0 : decode cX12_commandWait 0 = .ok (.iload_n 1, 1) := by decide +kernel
theorem dX12_commandWait_1 : decode cX12_commandWait 1 = .ok (.invokestatic 120, 3) := by decide +kernel
theorem dX12_commandWait_4 : decode cX12_commandWait 4 = .ok (.astore_n 2, 1) := by decide +kernel
theorem dX12_commandWait_5 : decode cX12_commandWait 5 = .ok (.aload_n 2, 1) := by decide +kernel
theorem dX12_commandWait_6 : decode cX12_commandWait 6 = .ok (.getstatic 363, 3) := by decide +kernel
theorem dX12_commandWait_9 : decode cX12_commandWait 9 = .ok (.if_acmp .ne 12, 3) := by decide +kernel
theorem dX12_commandWait_12 : decode cX12_commandWait 12 = .ok (.aload_n 0, 1) := by decide +kernel
theorem dX12_commandWait_13 : decode cX12_commandWait 13 = .ok (.getfield 10, 3) := by decide +kernel
theorem dX12_commandWait_16 : decode cX12_commandWait 16 = .ok (.iload_n 1, 1) := by decide +kernel
theorem dX12_commandWait_17 : decode cX12_commandWait 17 = .ok (.invokevirtual 123, 3) := by decide +kernel
theorem dX12_commandWait_20 : decode cX12_commandWait 20 = .ok (.pop, 1) := by decide +kernel
theorem dX12_commandWait_21 : decode cX12_commandWait 21 = .ok (.aload_n 2, 1) := by decide +kernel
theorem dX12_commandWait_22 : decode cX12_commandWait 22 = .ok (.areturn, 1) := by decide +kernel
theorem dX12_putSign_0 : decode cX12_putSign 0 = .ok (.aload_n 0, 1) := by decide +kernel
theorem dX12_putSign_1 : decode cX12_putSign 1 = .ok (.getfield 384, 3) := by decide +kernel
theorem dX12_putSign_4 : decode cX12_putSign 4 = .ok (.bipush 37, 2) := by decide +kernel
theorem dX12_putSign_6 : decode cX12_putSign 6 = .ok (.if_icmp .ge 23, 3) := by decide +kernel
theorem dX12_putSign_9 : decode cX12_putSign 9 = .ok (.aload_n 0, 1) := by decide +kernel
theorem dX12_putSign_10 : decode cX12_putSign 10 = .ok (.getfield 40, 3) := by decide +kernel
theorem dX12_putSign_13 : decode cX12_putSign 13 = .ok (.aload_n 0, 1) := by decide +kernel
theorem dX12_putSign_14 : decode cX12_putSign 14 = .ok (.getfield 384, 3) := by decide +kernel
theorem dX12_putSign_17 : decode cX12_putSign 17 = .ok (.iload_n 1, 1) := by decide +kernel
theorem dX12_putSign_18 : decode cX12_putSign 18 = .ok (.castore, 1) := by decide +kernel
theorem dX12_putSign_19 : decode cX12_putSign 19 = .ok (.aload_n 0, 1) := by decide +kernel
theorem dX12_putSign_20 : decode cX12_putSign 20 = .ok (.dup, 1) := by decide +kernel
theorem dX12_putSign_21 : decode cX12_putSign 21 = .ok (.getfield 384, 3) := by decide +kernel
theorem dX12_putSign_24 : decode cX12_putSign 24 = .ok (.iconst 1, 1) := by decide +kernel
theorem dX12_putSign_25 : decode cX12_putSign 25 = .ok (.iadd, 1) := by decide +kernel
theorem dX12_putSign_26 : decode cX12_putSign 26 = .ok (.putfield 384, 3) := by decide +kernel
theorem dX12_putSign_29 : decode cX12_putSign 29 = .ok (.return_, 1) := by decide +kernel
theorem dX12_putNumber_0 : decode cX12_putNumber 0 = .ok (.iconst 0, 1) := by decide +kernel
theorem dX12_putNumber_1 : decode cX12_putNumber 1 = .ok (.istore_n 3, 1) := by decide +kernel
theorem dX12_putNumber_2 : decode cX12_putNumber 2 = .ok (.ldc2_w 500, 3) := by decide +kernel
theorem dX12_putNumber_5 : decode cX12_putNumber 5 = .ok (.lstore 4, 2) := by decide +kernel
theorem dX12_putNumber_7 : decode cX12_putNumber 7 = .ok (.lload 4, 2) := by decide +kernel
theorem dX12_putNumber_9 : decode cX12_putNumber 9 = .ok (.lconst 0, 1) := by decide +kernel
theorem dX12_putNumber_10 : decode cX12_putNumber 10 = .ok (.lcmp, 1) := by decide +kernel
theorem dX12_putNumber_11 : decode cX12_putNumber 11 = .ok (.ifCond .le 64, 3) := by decide +kernel
theorem dX12_putNumber_14 : decode cX12_putNumber 14 = .ok (.lload_n 1, 1) := by decide +kernel
theorem dX12_putNumber_15 : decode cX12_putNumber 15 = .ok (.lload 4, 2) := by decide +kernel
theorem dX12_putNumber_17 : decode cX12_putNumber 17 = .ok (.ldiv, 1) := by decide +kernel
theorem dX12_putNumber_18 : decode cX12_putNumber 18 = .ok (.ldc2_w 502, 3) := by decide +kernel
theorem dX12_putNumber_21 : decode cX12_putNumber 21 = .ok (.lrem, 1) := by decide +kernel
theorem dX12_putNumber_22 : decode cX12_putNumber 22 = .ok (.lstore 6, 2) := by decide +kernel
theorem dX12_putNumber_24 : decode cX12_putNumber 24 = .ok (.iload_n 3, 1) := by decide +kernel
theorem dX12_putNumber_25 : decode cX12_putNumber 25 = .ok (.ifCond .ne 17, 3) := by decide +kernel
theorem dX12_putNumber_28 : decode cX12_putNumber 28 = .ok (.lload 6, 2) := by decide +kernel
theorem dX12_putNumber_30 : decode cX12_putNumber 30 = .ok (.lconst 0, 1) := by decide +kernel
theorem dX12_putNumber_31 : decode cX12_putNumber 31 = .ok (.lcmp, 1) := by decide +kernel
theorem dX12_putNumber_32 : decode cX12_putNumber 32 = .ok (.ifCond .ne 10, 3) := by decide +kernel
theorem dX12_putNumber_35 : decode cX12_putNumber 35 = .ok (.lload 4, 2) := by decide +kernel
theorem dX12_putNumber_37 : decode cX12_putNumber 37 = .ok (.lconst 1, 1) := by decide +kernel
theorem dX12_putNumber_38 : decode cX12_putNumber 38 = .ok (.lcmp, 1) := by decide +kernel
theorem dX12_putNumber_39 : decode cX12_putNumber 39 = .ok (.ifCond .ne 7, 3) := by decide +kernel
theorem dX12_putNumber_42 : decode cX12_putNumber 42 = .ok (.iconst 1, 1) := by decide +kernel
theorem dX12_putNumber_43 : decode cX12_putNumber 43 = .ok (.goto 4, 3) := by decide +kernel
theorem dX12_putNumber_46 : decode cX12_putNumber 46 = .ok (.iconst 0, 1) := by decide +kernel
theorem dX12_putNumber_47 : decode cX12_putNumber 47 = .ok (.istore_n 3, 1) := by decide +kernel
theorem dX12_putNumber_48 : decode cX12_putNumber 48 = .ok (.iload_n 3, 1) := by decide +kernel
theorem dX12_putNumber_49 : decode cX12_putNumber 49 = .ok (.ifCond .eq 15, 3) := by decide +kernel
theorem dX12_putNumber_52 : decode cX12_putNumber 52 = .ok (.aload_n 0, 1) := by decide +kernel
theorem dX12_putNumber_53 : decode cX12_putNumber 53 = .ok (.ldc2_w 504, 3) := by decide +kernel
theorem dX12_putNumber_56 : decode cX12_putNumber 56 = .ok (.lload 6, 2) := by decide +kernel
theorem dX12_putNumber_58 : decode cX12_putNumber 58 = .ok (.ladd, 1) := by decide +kernel
theorem dX12_putNumber_59 : decode cX12_putNumber 59 = .ok (.l2i, 1) := by decide +kernel
theorem dX12_putNumber_60 : decode cX12_putNumber 60 = .ok (.i2c, 1) := by decide +kernel
theorem dX12_putNumber_61 : decode cX12_putNumber 61 = .ok (.invokevirtual 391, 3) := by decide +kernel
theorem dX12_putNumber_64 : decode cX12_putNumber 64 = .ok (.lload 4, 2) := by decide +kernel
theorem dX12_putNumber_66 : decode cX12_putNumber 66 = .ok (.ldc2_w 502, 3) := by decide +kernel
theorem dX12_putNumber_69 : decode cX12_putNumber 69 = .ok (.ldiv, 1) := by decide +kernel
theorem dX12_putNumber_70 : decode cX12_putNumber 70 = .ok (.lstore 4, 2) := by decide +kernel
theorem dX12_putNumber_72 : decode cX12_putNumber 72 = .ok (.goto (-65), 3) := by decide +kernel
theorem dX12_putNumber_75 : decode cX12_putNumber 75 = .ok (.return_, 1) := by decide +kernel
