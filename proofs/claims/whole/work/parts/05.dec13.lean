/-! what the bytes say, row by row -/
theorem dX13_init_0 : decode cX13_init 0 = .ok (.aload_n 0, 1) := by decide +kernel
theorem dX13_init_1 : decode cX13_init 1 = .ok (.invokespecial 1, 3) := by decide +kernel
theorem dX13_init_4 : decode cX13_init 4 = .ok (.aload_n 0, 1) := by decide +kernel
theorem dX13_init_5 : decode cX13_init 5 = .ok (.sipush 229, 3) := by decide +kernel
theorem dX13_init_8 : decode cX13_init 8 = .ok (.newarray .int, 2) := by decide +kernel
theorem dX13_init_10 : decode cX13_init 10 = .ok (.putfield 7, 3) := by decide +kernel
theorem dX13_init_13 : decode cX13_init 13 = .ok (.aload_n 0, 1) := by decide +kernel
theorem dX13_init_14 : decode cX13_init 14 = .ok (.sipush 229, 3) := by decide +kernel
theorem dX13_init_17 : decode cX13_init 17 = .ok (.newarray .int, 2) := by decide +kernel
theorem dX13_init_19 : decode cX13_init 19 = .ok (.putfield 13, 3) := by decide +kernel
theorem dX13_init_22 : decode cX13_init 22 = .ok (.aload_n 0, 1) := by decide +kernel
theorem dX13_init_23 : decode cX13_init 23 = .ok (.sipush 1832, 3) := by decide +kernel
theorem dX13_init_26 : decode cX13_init 26 = .ok (.newarray .int, 2) := by decide +kernel
theorem dX13_init_28 : decode cX13_init 28 = .ok (.putfield 16, 3) := by decide +kernel
theorem dX13_init_31 : decode cX13_init 31 = .ok (.aload_n 0, 1) := by decide +kernel
theorem dX13_init_32 : decode cX13_init 32 = .ok (.sipush 229, 3) := by decide +kernel
theorem dX13_init_35 : decode cX13_init 35 = .ok (.newarray .int, 2) := by decide +kernel
theorem dX13_init_37 : decode cX13_init 37 = .ok (.putfield 19, 3) := by decide +kernel
theorem dX13_init_40 : decode cX13_init 40 = .ok (.aload_n 0, 1) := by decide +kernel
theorem dX13_init_41 : decode cX13_init 41 = .ok (.bipush 60, 2) := by decide +kernel
theorem dX13_init_43 : decode cX13_init 43 = .ok (.newarray .char, 2) := by decide +kernel
theorem dX13_init_45 : decode cX13_init 45 = .ok (.putfield 22, 3) := by decide +kernel
theorem dX13_init_48 : decode cX13_init 48 = .ok (.aload_n 0, 1) := by decide +kernel
theorem dX13_init_49 : decode cX13_init 49 = .ok (.iconst (-1), 1) := by decide +kernel
theorem dX13_init_50 : decode cX13_init 50 = .ok (.putfield 26, 3) := by decide +kernel
theorem dX13_init_53 : decode cX13_init 53 = .ok (.aload_n 0, 1) := by decide +kernel
theorem dX13_init_54 : decode cX13_init 54 = .ok (.iconst (-1), 1) := by decide +kernel
theorem dX13_init_55 : decode cX13_init 55 = .ok (.putfield 30, 3) := by decide +kernel
theorem dX13_init_58 : decode cX13_init 58 = .ok (.aload_n 0, 1) := by decide +kernel
theorem dX13_init_59 : decode cX13_init 59 = .ok (.bipush 60, 2) := by decide +kernel
theorem dX13_init_61 : decode cX13_init 61 = .ok (.newarray .char, 2) := by decide +kernel
theorem dX13_init_63 : decode cX13_init 63 = .ok (.putfield 33, 3) := by decide +kernel
theorem dX13_init_66 : decode cX13_init 66 = .ok (.aload_n 0, 1) := by decide +kernel
theorem dX13_init_67 : decode cX13_init 67 = .ok (.sipush 240, 3) := by decide +kernel
theorem dX13_init_70 : decode cX13_init 70 = .ok (.newarray .int, 2) := by decide +kernel
theorem dX13_init_72 : decode cX13_init 72 = .ok (.putfield 36, 3) := by decide +kernel
theorem dX13_init_75 : decode cX13_init 75 = .ok (.aload_n 0, 1) := by decide +kernel
theorem dX13_init_76 : decode cX13_init 76 = .ok (.getfield 7, 3) := by decide +kernel
theorem dX13_init_79 : decode cX13_init 79 = .ok (.iconst 1, 1) := by decide +kernel
theorem dX13_init_80 : decode cX13_init 80 = .ok (.bipush 6, 2) := by decide +kernel
theorem dX13_init_82 : decode cX13_init 82 = .ok (.iastore, 1) := by decide +kernel
theorem dX13_init_83 : decode cX13_init 83 = .ok (.aload_n 0, 1) := by decide +kernel
theorem dX13_init_84 : decode cX13_init 84 = .ok (.getfield 7, 3) := by decide +kernel
theorem dX13_init_87 : decode cX13_init 87 = .ok (.bipush 9, 2) := by decide +kernel
theorem dX13_init_89 : decode cX13_init 89 = .ok (.bipush 97, 2) := by decide +kernel
theorem dX13_init_91 : decode cX13_init 91 = .ok (.iastore, 1) := by decide +kernel
theorem dX13_init_92 : decode cX13_init 92 = .ok (.aload_n 0, 1) := by decide +kernel
theorem dX13_init_93 : decode cX13_init 93 = .ok (.getfield 7, 3) := by decide +kernel
theorem dX13_init_96 : decode cX13_init 96 = .ok (.bipush 10, 2) := by decide +kernel
theorem dX13_init_98 : decode cX13_init 98 = .ok (.bipush 97, 2) := by decide +kernel
theorem dX13_init_100 : decode cX13_init 100 = .ok (.iastore, 1) := by decide +kernel
theorem dX13_init_101 : decode cX13_init 101 = .ok (.aload_n 0, 1) := by decide +kernel
theorem dX13_init_102 : decode cX13_init 102 = .ok (.getfield 7, 3) := by decide +kernel
theorem dX13_init_105 : decode cX13_init 105 = .ok (.bipush 11, 2) := by decide +kernel
theorem dX13_init_107 : decode cX13_init 107 = .ok (.bipush 97, 2) := by decide +kernel
theorem dX13_init_109 : decode cX13_init 109 = .ok (.iastore, 1) := by decide +kernel
theorem dX13_init_110 : decode cX13_init 110 = .ok (.aload_n 0, 1) := by decide +kernel
theorem dX13_init_111 : decode cX13_init 111 = .ok (.getfield 7, 3) := by decide +kernel
theorem dX13_init_114 : decode cX13_init 114 = .ok (.bipush 12, 2) := by decide +kernel
theorem dX13_init_116 : decode cX13_init 116 = .ok (.bipush 108, 2) := by decide +kernel
theorem dX13_init_118 : decode cX13_init 118 = .ok (.iastore, 1) := by decide +kernel
theorem dX13_init_119 : decode cX13_init 119 = .ok (.aload_n 0, 1) := by decide +kernel
theorem dX13_init_120 : decode cX13_init 120 = .ok (.getfield 7, 3) := by decide +kernel
theorem dX13_init_123 : decode cX13_init 123 = .ok (.bipush 13, 2) := by decide +kernel
theorem dX13_init_125 : decode cX13_init 125 = .ok (.bipush 105, 2) := by decide +kernel
theorem dX13_init_127 : decode cX13_init 127 = .ok (.iastore, 1) := by decide +kernel
theorem dX13_init_128 : decode cX13_init 128 = .ok (.aload_n 0, 1) := by decide +kernel
theorem dX13_init_129 : decode cX13_init 129 = .ok (.getfield 7, 3) := by decide +kernel
theorem dX13_init_132 : decode cX13_init 132 = .ok (.bipush 14, 2) := by decide +kernel
theorem dX13_init_134 : decode cX13_init 134 = .ok (.bipush 101, 2) := by decide +kernel
theorem dX13_init_136 : decode cX13_init 136 = .ok (.iastore, 1) := by decide +kernel
theorem dX13_init_137 : decode cX13_init 137 = .ok (.aload_n 0, 1) := by decide +kernel
theorem dX13_init_138 : decode cX13_init 138 = .ok (.getfield 7, 3) := by decide +kernel
theorem dX13_init_141 : decode cX13_init 141 = .ok (.bipush 33, 2) := by decide +kernel
theorem dX13_init_143 : decode cX13_init 143 = .ok (.sipush 500, 3) := by decide +kernel
theorem dX13_init_146 : decode cX13_init 146 = .ok (.iastore, 1) := by decide +kernel
theorem dX13_init_147 : decode cX13_init 147 = .ok (.aload_n 0, 1) := by decide +kernel
theorem dX13_init_148 : decode cX13_init 148 = .ok (.getfield 7, 3) := by decide +kernel
theorem dX13_init_151 : decode cX13_init 151 = .ok (.bipush 48, 2) := by decide +kernel
theorem dX13_init_153 : decode cX13_init 153 = .ok (.sipush 500, 3) := by decide +kernel
theorem dX13_init_156 : decode cX13_init 156 = .ok (.iastore, 1) := by decide +kernel
theorem dX13_init_157 : decode cX13_init 157 = .ok (.return_, 1) := by decide +kernel
theorem dX13_thrown_0 : decode cX13_thrown 0 = .ok (.aload_n 0, 1) := by decide +kernel
theorem dX13_thrown_1 : decode cX13_thrown 1 = .ok (.getfield 39, 3) := by decide +kernel
theorem dX13_thrown_4 : decode cX13_thrown 4 = .ok (.ireturn, 1) := by decide +kernel
theorem dX13_in_0 : decode cX13_in 0 = .ok (.iload_n 0, 1) := by decide +kernel
theorem dX13_in_1 : decode cX13_in 1 = .ok (.iload_n 1, 1) := by decide +kernel
theorem dX13_in_2 : decode cX13_in 2 = .ok (.if_icmp .lt 12, 3) := by decide +kernel
theorem dX13_in_5 : decode cX13_in 5 = .ok (.iload_n 0, 1) := by decide +kernel
theorem dX13_in_6 : decode cX13_in 6 = .ok (.iload_n 2, 1) := by decide +kernel
theorem dX13_in_7 : decode cX13_in 7 = .ok (.if_icmp .gt 7, 3) := by decide +kernel
theorem dX13_in_10 : decode cX13_in 10 = .ok (.iconst 1, 1) := by decide +kernel
theorem dX13_in_11 : decode cX13_in 11 = .ok (.goto 4, 3) := by decide +kernel
theorem dX13_in_14 : decode cX13_in 14 = .ok (.iconst 0, 1) := by decide +kernel
theorem dX13_in_15 : decode cX13_in 15 = .ok (.ireturn, 1) := by decide +kernel
theorem dX13_done_0 : decode cX13_done 0 = .ok (.aload_n 0, 1) := by decide +kernel
theorem dX13_done_1 : decode cX13_done 1 = .ok (.iconst 0, 1) := by decide +kernel
theorem dX13_done_2 : decode cX13_done 2 = .ok (.putfield 39, 3) := by decide +kernel
theorem dX13_done_5 : decode cX13_done 5 = .ok (.iload_n 1, 1) := by decide +kernel
theorem dX13_done_6 : decode cX13_done 6 = .ok (.ireturn, 1) := by decide +kernel
theorem dX13_fails_0 : decode cX13_fails 0 = .ok (.aload_n 0, 1) := by decide +kernel
theorem dX13_fails_1 : decode cX13_fails 1 = .ok (.iload_n 1, 1) := by decide +kernel
theorem dX13_fails_2 : decode cX13_fails 2 = .ok (.putfield 39, 3) := by decide +kernel
theorem dX13_fails_5 : decode cX13_fails 5 = .ok (.iconst 0, 1) := by decide +kernel
theorem dX13_fails_6 : decode cX13_fails 6 = .ok (.ireturn, 1) := by decide +kernel
theorem dX13_copy_0 : decode cX13_copy 0 = .ok (.iconst 0, 1) := by decide +kernel
theorem dX13_copy_1 : decode cX13_copy 1 = .ok (.istore 4, 2) := by decide +kernel
theorem dX13_copy_3 : decode cX13_copy 3 = .ok (.iload 4, 2) := by decide +kernel
theorem dX13_copy_5 : decode cX13_copy 5 = .ok (.sipush 229, 3) := by decide +kernel
theorem dX13_copy_8 : decode cX13_copy 8 = .ok (.if_icmp .ge 21, 3) := by decide +kernel
theorem dX13_copy_11 : decode cX13_copy 11 = .ok (.aload_n 2, 1) := by decide +kernel
theorem dX13_copy_12 : decode cX13_copy 12 = .ok (.iload_n 3, 1) := by decide +kernel
theorem dX13_copy_13 : decode cX13_copy 13 = .ok (.iload 4, 2) := by decide +kernel
theorem dX13_copy_15 : decode cX13_copy 15 = .ok (.iadd, 1) := by decide +kernel
theorem dX13_copy_16 : decode cX13_copy 16 = .ok (.aload_n 0, 1) := by decide +kernel
theorem dX13_copy_17 : decode cX13_copy 17 = .ok (.iload_n 1, 1) := by decide +kernel
theorem dX13_copy_18 : decode cX13_copy 18 = .ok (.iload 4, 2) := by decide +kernel
theorem dX13_copy_20 : decode cX13_copy 20 = .ok (.iadd, 1) := by decide +kernel
theorem dX13_copy_21 : decode cX13_copy 21 = .ok (.iaload, 1) := by decide +kernel
theorem dX13_copy_22 : decode cX13_copy 22 = .ok (.iastore, 1) := by decide +kernel
theorem dX13_copy_23 : decode cX13_copy 23 = .ok (.iinc 4 1, 3) := by decide +kernel
theorem dX13_copy_26 : decode cX13_copy 26 = .ok (.goto (-23), 3) := by decide +kernel
theorem dX13_copy_29 : decode cX13_copy 29 = .ok (.return_, 1) := by decide +kernel
theorem dX13_begin_0 : decode cX13_begin 0 = .ok (.aload_n 0, 1) := by decide +kernel
theorem dX13_begin_1 : decode cX13_begin 1 = .ok (.getfield 7, 3) := by decide +kernel
theorem dX13_begin_4 : decode cX13_begin 4 = .ok (.iconst 0, 1) := by decide +kernel
theorem dX13_begin_5 : decode cX13_begin 5 = .ok (.aload_n 0, 1) := by decide +kernel
theorem dX13_begin_6 : decode cX13_begin 6 = .ok (.getfield 13, 3) := by decide +kernel
theorem dX13_begin_9 : decode cX13_begin 9 = .ok (.iconst 0, 1) := by decide +kernel
theorem dX13_begin_10 : decode cX13_begin 10 = .ok (.invokestatic 42, 3) := by decide +kernel
theorem dX13_begin_13 : decode cX13_begin 13 = .ok (.return_, 1) := by decide +kernel
theorem dX13_kept_0 : decode cX13_kept 0 = .ok (.aload_n 0, 1) := by decide +kernel
theorem dX13_kept_1 : decode cX13_kept 1 = .ok (.getfield 39, 3) := by decide +kernel
theorem dX13_kept_4 : decode cX13_kept 4 = .ok (.ifCond .eq 18, 3) := by decide +kernel
theorem dX13_kept_7 : decode cX13_kept 7 = .ok (.aload_n 0, 1) := by decide +kernel
theorem dX13_kept_8 : decode cX13_kept 8 = .ok (.getfield 13, 3) := by decide +kernel
theorem dX13_kept_11 : decode cX13_kept 11 = .ok (.iconst 0, 1) := by decide +kernel
theorem dX13_kept_12 : decode cX13_kept 12 = .ok (.aload_n 0, 1) := by decide +kernel
theorem dX13_kept_13 : decode cX13_kept 13 = .ok (.getfield 7, 3) := by decide +kernel
theorem dX13_kept_16 : decode cX13_kept 16 = .ok (.iconst 0, 1) := by decide +kernel
theorem dX13_kept_17 : decode cX13_kept 17 = .ok (.invokestatic 42, 3) := by decide +kernel
theorem dX13_kept_20 : decode cX13_kept 20 = .ok (.iconst 0, 1) := by decide +kernel
theorem dX13_kept_21 : decode cX13_kept 21 = .ok (.ireturn, 1) := by decide +kernel
theorem dX13_kept_22 : decode cX13_kept 22 = .ok (.aload_n 0, 1) := by decide +kernel
theorem dX13_kept_23 : decode cX13_kept 23 = .ok (.getfield 46, 3) := by decide +kernel
theorem dX13_kept_26 : decode cX13_kept 26 = .ok (.bipush 8, 2) := by decide +kernel
theorem dX13_kept_28 : decode cX13_kept 28 = .ok (.if_icmp .ne 44, 3) := by decide +kernel
theorem dX13_kept_31 : decode cX13_kept 31 = .ok (.iconst 0, 1) := by decide +kernel
theorem dX13_kept_32 : decode cX13_kept 32 = .ok (.istore_n 2, 1) := by decide +kernel
theorem dX13_kept_33 : decode cX13_kept 33 = .ok (.iload_n 2, 1) := by decide +kernel
theorem dX13_kept_34 : decode cX13_kept 34 = .ok (.sipush 1603, 3) := by decide +kernel
theorem dX13_kept_37 : decode cX13_kept 37 = .ok (.if_icmp .ge 25, 3) := by decide +kernel
theorem dX13_kept_40 : decode cX13_kept 40 = .ok (.aload_n 0, 1) := by decide +kernel
theorem dX13_kept_41 : decode cX13_kept 41 = .ok (.getfield 16, 3) := by decide +kernel
theorem dX13_kept_44 : decode cX13_kept 44 = .ok (.iload_n 2, 1) := by decide +kernel
theorem dX13_kept_45 : decode cX13_kept 45 = .ok (.aload_n 0, 1) := by decide +kernel
theorem dX13_kept_46 : decode cX13_kept 46 = .ok (.getfield 16, 3) := by decide +kernel
theorem dX13_kept_49 : decode cX13_kept 49 = .ok (.iload_n 2, 1) := by decide +kernel
theorem dX13_kept_50 : decode cX13_kept 50 = .ok (.sipush 229, 3) := by decide +kernel
theorem dX13_kept_53 : decode cX13_kept 53 = .ok (.iadd, 1) := by decide +kernel
theorem dX13_kept_54 : decode cX13_kept 54 = .ok (.iaload, 1) := by decide +kernel
theorem dX13_kept_55 : decode cX13_kept 55 = .ok (.iastore, 1) := by decide +kernel
theorem dX13_kept_56 : decode cX13_kept 56 = .ok (.iinc 2 1, 3) := by decide +kernel
theorem dX13_kept_59 : decode cX13_kept 59 = .ok (.goto (-26), 3) := by decide +kernel
theorem dX13_kept_62 : decode cX13_kept 62 = .ok (.aload_n 0, 1) := by decide +kernel
theorem dX13_kept_63 : decode cX13_kept 63 = .ok (.dup, 1) := by decide +kernel
theorem dX13_kept_64 : decode cX13_kept 64 = .ok (.getfield 46, 3) := by decide +kernel
theorem dX13_kept_67 : decode cX13_kept 67 = .ok (.iconst 1, 1) := by decide +kernel
theorem dX13_kept_68 : decode cX13_kept 68 = .ok (.isub, 1) := by decide +kernel
theorem dX13_kept_69 : decode cX13_kept 69 = .ok (.putfield 46, 3) := by decide +kernel
theorem dX13_kept_72 : decode cX13_kept 72 = .ok (.aload_n 0, 1) := by decide +kernel
theorem dX13_kept_73 : decode cX13_kept 73 = .ok (.getfield 13, 3) := by decide +kernel
theorem dX13_kept_76 : decode cX13_kept 76 = .ok (.iconst 0, 1) := by decide +kernel
theorem dX13_kept_77 : decode cX13_kept 77 = .ok (.aload_n 0, 1) := by decide +kernel
theorem dX13_kept_78 : decode cX13_kept 78 = .ok (.getfield 16, 3) := by decide +kernel
theorem dX13_kept_81 : decode cX13_kept 81 = .ok (.aload_n 0, 1) := by decide +kernel
theorem dX13_kept_82 : decode cX13_kept 82 = .ok (.getfield 46, 3) := by decide +kernel
theorem dX13_kept_85 : decode cX13_kept 85 = .ok (.sipush 229, 3) := by decide +kernel
theorem dX13_kept_88 : decode cX13_kept 88 = .ok (.imul, 1) := by decide +kernel
theorem dX13_kept_89 : decode cX13_kept 89 = .ok (.invokestatic 42, 3) := by decide +kernel
theorem dX13_kept_92 : decode cX13_kept 92 = .ok (.aload_n 0, 1) := by decide +kernel
theorem dX13_kept_93 : decode cX13_kept 93 = .ok (.dup, 1) := by decide +kernel
theorem dX13_kept_94 : decode cX13_kept 94 = .ok (.getfield 46, 3) := by decide +kernel
theorem dX13_kept_97 : decode cX13_kept 97 = .ok (.iconst 1, 1) := by decide +kernel
theorem dX13_kept_98 : decode cX13_kept 98 = .ok (.iadd, 1) := by decide +kernel
theorem dX13_kept_99 : decode cX13_kept 99 = .ok (.putfield 46, 3) := by decide +kernel
theorem dX13_kept_102 : decode cX13_kept 102 = .ok (.iload_n 1, 1) := by decide +kernel
theorem dX13_kept_103 : decode cX13_kept 103 = .ok (.ireturn, 1) := by decide +kernel
theorem dX13_isAccount_0 : decode cX13_isAccount 0 = .ok (.iload_n 1, 1) := by decide +kernel
theorem dX13_isAccount_1 : decode cX13_isAccount 1 = .ok (.iconst 0, 1) := by decide +kernel
theorem dX13_isAccount_2 : decode cX13_isAccount 2 = .ok (.aload_n 0, 1) := by decide +kernel
theorem dX13_isAccount_3 : decode cX13_isAccount 3 = .ok (.getfield 7, 3) := by decide +kernel
theorem dX13_isAccount_6 : decode cX13_isAccount 6 = .ok (.iconst 1, 1) := by decide +kernel
theorem dX13_isAccount_7 : decode cX13_isAccount 7 = .ok (.iaload, 1) := by decide +kernel
theorem dX13_isAccount_8 : decode cX13_isAccount 8 = .ok (.iconst 1, 1) := by decide +kernel
theorem dX13_isAccount_9 : decode cX13_isAccount 9 = .ok (.isub, 1) := by decide +kernel
theorem dX13_isAccount_10 : decode cX13_isAccount 10 = .ok (.invokestatic 49, 3) := by decide +kernel
theorem dX13_isAccount_13 : decode cX13_isAccount 13 = .ok (.ireturn, 1) := by decide +kernel
theorem dX13_isKind_0 : decode cX13_isKind 0 = .ok (.iload_n 0, 1) := by decide +kernel
theorem dX13_isKind_1 : decode cX13_isKind 1 = .ok (.bipush 97, 2) := by decide +kernel
theorem dX13_isKind_3 : decode cX13_isKind 3 = .ok (.if_icmp .eq 21, 3) := by decide +kernel
theorem dX13_isKind_6 : decode cX13_isKind 6 = .ok (.iload_n 0, 1) := by decide +kernel
theorem dX13_isKind_7 : decode cX13_isKind 7 = .ok (.bipush 108, 2) := by decide +kernel
theorem dX13_isKind_9 : decode cX13_isKind 9 = .ok (.if_icmp .eq 15, 3) := by decide +kernel
theorem dX13_isKind_12 : decode cX13_isKind 12 = .ok (.iload_n 0, 1) := by decide +kernel
theorem dX13_isKind_13 : decode cX13_isKind 13 = .ok (.bipush 105, 2) := by decide +kernel
theorem dX13_isKind_15 : decode cX13_isKind 15 = .ok (.if_icmp .eq 9, 3) := by decide +kernel
theorem dX13_isKind_18 : decode cX13_isKind 18 = .ok (.iload_n 0, 1) := by decide +kernel
theorem dX13_isKind_19 : decode cX13_isKind 19 = .ok (.bipush 101, 2) := by decide +kernel
theorem dX13_isKind_21 : decode cX13_isKind 21 = .ok (.if_icmp .ne 7, 3) := by decide +kernel
theorem dX13_isKind_24 : decode cX13_isKind 24 = .ok (.iconst 1, 1) := by decide +kernel
theorem dX13_isKind_25 : decode cX13_isKind 25 = .ok (.goto 4, 3) := by decide +kernel
theorem dX13_isKind_28 : decode cX13_isKind 28 = .ok (.iconst 0, 1) := by decide +kernel
theorem dX13_isKind_29 : decode cX13_isKind 29 = .ok (.ireturn, 1) := by decide +kernel
theorem dX13_balanceOf_0 : decode cX13_balanceOf 0 = .ok (.aload_n 0, 1) := by decide +kernel
theorem dX13_balanceOf_1 : decode cX13_balanceOf 1 = .ok (.getfield 7, 3) := by decide +kernel
theorem dX13_balanceOf_4 : decode cX13_balanceOf 4 = .ok (.bipush 33, 2) := by decide +kernel
theorem dX13_balanceOf_6 : decode cX13_balanceOf 6 = .ok (.iload_n 1, 1) := by decide +kernel
theorem dX13_balanceOf_7 : decode cX13_balanceOf 7 = .ok (.iadd, 1) := by decide +kernel
theorem dX13_balanceOf_8 : decode cX13_balanceOf 8 = .ok (.iaload, 1) := by decide +kernel
theorem dX13_balanceOf_9 : decode cX13_balanceOf 9 = .ok (.aload_n 0, 1) := by decide +kernel
theorem dX13_balanceOf_10 : decode cX13_balanceOf 10 = .ok (.getfield 7, 3) := by decide +kernel
theorem dX13_balanceOf_13 : decode cX13_balanceOf 13 = .ok (.bipush 45, 2) := by decide +kernel
theorem dX13_balanceOf_15 : decode cX13_balanceOf 15 = .ok (.iload_n 1, 1) := by decide +kernel
theorem dX13_balanceOf_16 : decode cX13_balanceOf 16 = .ok (.iadd, 1) := by decide +kernel
theorem dX13_balanceOf_17 : decode cX13_balanceOf 17 = .ok (.iaload, 1) := by decide +kernel
theorem dX13_balanceOf_18 : decode cX13_balanceOf 18 = .ok (.isub, 1) := by decide +kernel
theorem dX13_balanceOf_19 : decode cX13_balanceOf 19 = .ok (.istore_n 2, 1) := by decide +kernel
theorem dX13_balanceOf_20 : decode cX13_balanceOf 20 = .ok (.aload_n 0, 1) := by decide +kernel
theorem dX13_balanceOf_21 : decode cX13_balanceOf 21 = .ok (.getfield 7, 3) := by decide +kernel
theorem dX13_balanceOf_24 : decode cX13_balanceOf 24 = .ok (.bipush 9, 2) := by decide +kernel
theorem dX13_balanceOf_26 : decode cX13_balanceOf 26 = .ok (.iload_n 1, 1) := by decide +kernel
theorem dX13_balanceOf_27 : decode cX13_balanceOf 27 = .ok (.iadd, 1) := by decide +kernel
theorem dX13_balanceOf_28 : decode cX13_balanceOf 28 = .ok (.iaload, 1) := by decide +kernel
theorem dX13_balanceOf_29 : decode cX13_balanceOf 29 = .ok (.bipush 97, 2) := by decide +kernel
theorem dX13_balanceOf_31 : decode cX13_balanceOf 31 = .ok (.if_icmp .eq 17, 3) := by decide +kernel
theorem dX13_balanceOf_34 : decode cX13_balanceOf 34 = .ok (.aload_n 0, 1) := by decide +kernel
theorem dX13_balanceOf_35 : decode cX13_balanceOf 35 = .ok (.getfield 7, 3) := by decide +kernel
theorem dX13_balanceOf_38 : decode cX13_balanceOf 38 = .ok (.bipush 9, 2) := by decide +kernel
theorem dX13_balanceOf_40 : decode cX13_balanceOf 40 = .ok (.iload_n 1, 1) := by decide +kernel
theorem dX13_balanceOf_41 : decode cX13_balanceOf 41 = .ok (.iadd, 1) := by decide +kernel
theorem dX13_balanceOf_42 : decode cX13_balanceOf 42 = .ok (.iaload, 1) := by decide +kernel
theorem dX13_balanceOf_43 : decode cX13_balanceOf 43 = .ok (.bipush 101, 2) := by decide +kernel
theorem dX13_balanceOf_45 : decode cX13_balanceOf 45 = .ok (.if_icmp .ne 7, 3) := by decide +kernel
theorem dX13_balanceOf_48 : decode cX13_balanceOf 48 = .ok (.iload_n 2, 1) := by decide +kernel
theorem dX13_balanceOf_49 : decode cX13_balanceOf 49 = .ok (.goto 5, 3) := by decide +kernel
theorem dX13_balanceOf_52 : decode cX13_balanceOf 52 = .ok (.iload_n 2, 1) := by decide +kernel
theorem dX13_balanceOf_53 : decode cX13_balanceOf 53 = .ok (.ineg, 1) := by decide +kernel
theorem dX13_balanceOf_54 : decode cX13_balanceOf 54 = .ok (.ireturn, 1) := by decide +kernel
theorem dX13_profitNow_0 : decode cX13_profitNow 0 = .ok (.iconst 0, 1) := by decide +kernel
theorem dX13_profitNow_1 : decode cX13_profitNow 1 = .ok (.istore_n 1, 1) := by decide +kernel
theorem dX13_profitNow_2 : decode cX13_profitNow 2 = .ok (.iconst 0, 1) := by decide +kernel
theorem dX13_profitNow_3 : decode cX13_profitNow 3 = .ok (.istore_n 2, 1) := by decide +kernel
theorem dX13_profitNow_4 : decode cX13_profitNow 4 = .ok (.iload_n 2, 1) := by decide +kernel
theorem dX13_profitNow_5 : decode cX13_profitNow 5 = .ok (.aload_n 0, 1) := by decide +kernel
theorem dX13_profitNow_6 : decode cX13_profitNow 6 = .ok (.getfield 7, 3) := by decide +kernel
theorem dX13_profitNow_9 : decode cX13_profitNow 9 = .ok (.iconst 1, 1) := by decide +kernel
theorem dX13_profitNow_10 : decode cX13_profitNow 10 = .ok (.iaload, 1) := by decide +kernel
theorem dX13_profitNow_11 : decode cX13_profitNow 11 = .ok (.if_icmp .ge 58, 3) := by decide +kernel
theorem dX13_profitNow_14 : decode cX13_profitNow 14 = .ok (.iload_n 1, 1) := by decide +kernel
theorem dX13_profitNow_15 : decode cX13_profitNow 15 = .ok (.aload_n 0, 1) := by decide +kernel
theorem dX13_profitNow_16 : decode cX13_profitNow 16 = .ok (.getfield 7, 3) := by decide +kernel
theorem dX13_profitNow_19 : decode cX13_profitNow 19 = .ok (.bipush 9, 2) := by decide +kernel
theorem dX13_profitNow_21 : decode cX13_profitNow 21 = .ok (.iload_n 2, 1) := by decide +kernel
theorem dX13_profitNow_22 : decode cX13_profitNow 22 = .ok (.iadd, 1) := by decide +kernel
theorem dX13_profitNow_23 : decode cX13_profitNow 23 = .ok (.iaload, 1) := by decide +kernel
theorem dX13_profitNow_24 : decode cX13_profitNow 24 = .ok (.bipush 105, 2) := by decide +kernel
theorem dX13_profitNow_26 : decode cX13_profitNow 26 = .ok (.if_icmp .ne 11, 3) := by decide +kernel
theorem dX13_profitNow_29 : decode cX13_profitNow 29 = .ok (.aload_n 0, 1) := by decide +kernel
theorem dX13_profitNow_30 : decode cX13_profitNow 30 = .ok (.iload_n 2, 1) := by decide +kernel
theorem dX13_profitNow_31 : decode cX13_profitNow 31 = .ok (.invokevirtual 53, 3) := by decide +kernel
theorem dX13_profitNow_34 : decode cX13_profitNow 34 = .ok (.goto 27, 3) := by decide +kernel
theorem dX13_profitNow_37 : decode cX13_profitNow 37 = .ok (.aload_n 0, 1) := by decide +kernel
theorem dX13_profitNow_38 : decode cX13_profitNow 38 = .ok (.getfield 7, 3) := by decide +kernel
theorem dX13_profitNow_41 : decode cX13_profitNow 41 = .ok (.bipush 9, 2) := by decide +kernel
theorem dX13_profitNow_43 : decode cX13_profitNow 43 = .ok (.iload_n 2, 1) := by decide +kernel
theorem dX13_profitNow_44 : decode cX13_profitNow 44 = .ok (.iadd, 1) := by decide +kernel
theorem dX13_profitNow_45 : decode cX13_profitNow 45 = .ok (.iaload, 1) := by decide +kernel
theorem dX13_profitNow_46 : decode cX13_profitNow 46 = .ok (.bipush 101, 2) := by decide +kernel
theorem dX13_profitNow_48 : decode cX13_profitNow 48 = .ok (.if_icmp .ne 12, 3) := by decide +kernel
theorem dX13_profitNow_51 : decode cX13_profitNow 51 = .ok (.aload_n 0, 1) := by decide +kernel
theorem dX13_profitNow_52 : decode cX13_profitNow 52 = .ok (.iload_n 2, 1) := by decide +kernel
theorem dX13_profitNow_53 : decode cX13_profitNow 53 = .ok (.invokevirtual 53, 3) := by decide +kernel
theorem dX13_profitNow_56 : decode cX13_profitNow 56 = .ok (.ineg, 1) := by decide +kernel
theorem dX13_profitNow_57 : decode cX13_profitNow 57 = .ok (.goto 4, 3) := by decide +kernel
theorem dX13_profitNow_60 : decode cX13_profitNow 60 = .ok (.iconst 0, 1) := by decide +kernel
theorem dX13_profitNow_61 : decode cX13_profitNow 61 = .ok (.iadd, 1) := by decide +kernel
theorem dX13_profitNow_62 : decode cX13_profitNow 62 = .ok (.istore_n 1, 1) := by decide +kernel
theorem dX13_profitNow_63 : decode cX13_profitNow 63 = .ok (.iinc 2 1, 3) := by decide +kernel
theorem dX13_profitNow_66 : decode cX13_profitNow 66 = .ok (.goto (-62), 3) := by decide +kernel
theorem dX13_profitNow_69 : decode cX13_profitNow 69 = .ok (.iload_n 1, 1) := by decide +kernel
theorem dX13_profitNow_70 : decode cX13_profitNow 70 = .ok (.ireturn, 1) := by decide +kernel
theorem dX13_opens_0 : decode cX13_opens 0 = .ok (.aload_n 0, 1) := by decide +kernel
theorem dX13_opens_1 : decode cX13_opens 1 = .ok (.getfield 7, 3) := by decide +kernel
theorem dX13_opens_4 : decode cX13_opens 4 = .ok (.iconst 1, 1) := by decide +kernel
theorem dX13_opens_5 : decode cX13_opens 5 = .ok (.iaload, 1) := by decide +kernel
theorem dX13_opens_6 : decode cX13_opens 6 = .ok (.istore_n 3, 1) := by decide +kernel
theorem dX13_opens_7 : decode cX13_opens 7 = .ok (.iload_n 3, 1) := by decide +kernel
theorem dX13_opens_8 : decode cX13_opens 8 = .ok (.bipush 12, 2) := by decide +kernel
theorem dX13_opens_10 : decode cX13_opens 10 = .ok (.if_icmp .ne 9, 3) := by decide +kernel
theorem dX13_opens_13 : decode cX13_opens 13 = .ok (.aload_n 0, 1) := by decide +kernel
theorem dX13_opens_14 : decode cX13_opens 14 = .ok (.iconst 2, 1) := by decide +kernel
theorem dX13_opens_15 : decode cX13_opens 15 = .ok (.invokevirtual 57, 3) := by decide +kernel
theorem dX13_opens_18 : decode cX13_opens 18 = .ok (.ireturn, 1) := by decide +kernel
theorem dX13_opens_19 : decode cX13_opens 19 = .ok (.aload_n 0, 1) := by decide +kernel
theorem dX13_opens_20 : decode cX13_opens 20 = .ok (.getfield 7, 3) := by decide +kernel
theorem dX13_opens_23 : decode cX13_opens 23 = .ok (.bipush 9, 2) := by decide +kernel
theorem dX13_opens_25 : decode cX13_opens 25 = .ok (.iload_n 3, 1) := by decide +kernel
theorem dX13_opens_26 : decode cX13_opens 26 = .ok (.iadd, 1) := by decide +kernel
theorem dX13_opens_27 : decode cX13_opens 27 = .ok (.iload_n 1, 1) := by decide +kernel
theorem dX13_opens_28 : decode cX13_opens 28 = .ok (.iastore, 1) := by decide +kernel
theorem dX13_opens_29 : decode cX13_opens 29 = .ok (.aload_n 0, 1) := by decide +kernel
theorem dX13_opens_30 : decode cX13_opens 30 = .ok (.getfield 7, 3) := by decide +kernel
theorem dX13_opens_33 : decode cX13_opens 33 = .ok (.bipush 21, 2) := by decide +kernel
theorem dX13_opens_35 : decode cX13_opens 35 = .ok (.iload_n 3, 1) := by decide +kernel
theorem dX13_opens_36 : decode cX13_opens 36 = .ok (.iadd, 1) := by decide +kernel
theorem dX13_opens_37 : decode cX13_opens 37 = .ok (.iload_n 2, 1) := by decide +kernel
theorem dX13_opens_38 : decode cX13_opens 38 = .ok (.iconst 1, 1) := by decide +kernel
theorem dX13_opens_39 : decode cX13_opens 39 = .ok (.iadd, 1) := by decide +kernel
theorem dX13_opens_40 : decode cX13_opens 40 = .ok (.iastore, 1) := by decide +kernel
theorem dX13_opens_41 : decode cX13_opens 41 = .ok (.aload_n 0, 1) := by decide +kernel
theorem dX13_opens_42 : decode cX13_opens 42 = .ok (.getfield 7, 3) := by decide +kernel
theorem dX13_opens_45 : decode cX13_opens 45 = .ok (.iconst 1, 1) := by decide +kernel
theorem dX13_opens_46 : decode cX13_opens 46 = .ok (.dup2, 1) := by decide +kernel
theorem dX13_opens_47 : decode cX13_opens 47 = .ok (.iaload, 1) := by decide +kernel
theorem dX13_opens_48 : decode cX13_opens 48 = .ok (.iconst 1, 1) := by decide +kernel
theorem dX13_opens_49 : decode cX13_opens 49 = .ok (.iadd, 1) := by decide +kernel
theorem dX13_opens_50 : decode cX13_opens 50 = .ok (.iastore, 1) := by decide +kernel
theorem dX13_opens_51 : decode cX13_opens 51 = .ok (.aload_n 0, 1) := by decide +kernel
theorem dX13_opens_52 : decode cX13_opens 52 = .ok (.iload_n 3, 1) := by decide +kernel
theorem dX13_opens_53 : decode cX13_opens 53 = .ok (.invokevirtual 60, 3) := by decide +kernel
theorem dX13_opens_56 : decode cX13_opens 56 = .ok (.ireturn, 1) := by decide +kernel
theorem dX13_open_0 : decode cX13_open 0 = .ok (.aload_n 0, 1) := by decide +kernel
theorem dX13_open_1 : decode cX13_open 1 = .ok (.invokevirtual 63, 3) := by decide +kernel
theorem dX13_open_4 : decode cX13_open 4 = .ok (.aload_n 0, 1) := by decide +kernel
theorem dX13_open_5 : decode cX13_open 5 = .ok (.iload_n 1, 1) := by decide +kernel
theorem dX13_open_6 : decode cX13_open 6 = .ok (.invokestatic 66, 3) := by decide +kernel
theorem dX13_open_9 : decode cX13_open 9 = .ok (.ifCond .eq 12, 3) := by decide +kernel
theorem dX13_open_12 : decode cX13_open 12 = .ok (.aload_n 0, 1) := by decide +kernel
theorem dX13_open_13 : decode cX13_open 13 = .ok (.iload_n 1, 1) := by decide +kernel
theorem dX13_open_14 : decode cX13_open 14 = .ok (.iconst (-1), 1) := by decide +kernel
theorem dX13_open_15 : decode cX13_open 15 = .ok (.invokevirtual 70, 3) := by decide +kernel
theorem dX13_open_18 : decode cX13_open 18 = .ok (.goto 8, 3) := by decide +kernel
theorem dX13_open_21 : decode cX13_open 21 = .ok (.aload_n 0, 1) := by decide +kernel
theorem dX13_open_22 : decode cX13_open 22 = .ok (.iconst 1, 1) := by decide +kernel
theorem dX13_open_23 : decode cX13_open 23 = .ok (.invokevirtual 57, 3) := by decide +kernel
theorem dX13_open_26 : decode cX13_open 26 = .ok (.invokevirtual 74, 3) := by decide +kernel
theorem dX13_open_29 : decode cX13_open 29 = .ok (.ireturn, 1) := by decide +kernel
theorem dX13_openBelow_0 : decode cX13_openBelow 0 = .ok (.aload_n 0, 1) := by decide +kernel
theorem dX13_openBelow_1 : decode cX13_openBelow 1 = .ok (.invokevirtual 63, 3) := by decide +kernel
theorem dX13_openBelow_4 : decode cX13_openBelow 4 = .ok (.aload_n 0, 1) := by decide +kernel
theorem dX13_openBelow_5 : decode cX13_openBelow 5 = .ok (.aload_n 0, 1) := by decide +kernel
theorem dX13_openBelow_6 : decode cX13_openBelow 6 = .ok (.iload_n 1, 1) := by decide +kernel
theorem dX13_openBelow_7 : decode cX13_openBelow 7 = .ok (.invokevirtual 77, 3) := by decide +kernel
theorem dX13_openBelow_10 : decode cX13_openBelow 10 = .ok (.ifCond .eq 20, 3) := by decide +kernel
theorem dX13_openBelow_13 : decode cX13_openBelow 13 = .ok (.aload_n 0, 1) := by decide +kernel
theorem dX13_openBelow_14 : decode cX13_openBelow 14 = .ok (.aload_n 0, 1) := by decide +kernel
theorem dX13_openBelow_15 : decode cX13_openBelow 15 = .ok (.getfield 7, 3) := by decide +kernel
theorem dX13_openBelow_18 : decode cX13_openBelow 18 = .ok (.bipush 9, 2) := by decide +kernel
theorem dX13_openBelow_20 : decode cX13_openBelow 20 = .ok (.iload_n 1, 1) := by decide +kernel
theorem dX13_openBelow_21 : decode cX13_openBelow 21 = .ok (.iadd, 1) := by decide +kernel
theorem dX13_openBelow_22 : decode cX13_openBelow 22 = .ok (.iaload, 1) := by decide +kernel
theorem dX13_openBelow_23 : decode cX13_openBelow 23 = .ok (.iload_n 1, 1) := by decide +kernel
theorem dX13_openBelow_24 : decode cX13_openBelow 24 = .ok (.invokevirtual 70, 3) := by decide +kernel
theorem dX13_openBelow_27 : decode cX13_openBelow 27 = .ok (.goto 8, 3) := by decide +kernel
theorem dX13_openBelow_30 : decode cX13_openBelow 30 = .ok (.aload_n 0, 1) := by decide +kernel
theorem dX13_openBelow_31 : decode cX13_openBelow 31 = .ok (.iconst 1, 1) := by decide +kernel
theorem dX13_openBelow_32 : decode cX13_openBelow 32 = .ok (.invokevirtual 57, 3) := by decide +kernel
theorem dX13_openBelow_35 : decode cX13_openBelow 35 = .ok (.invokevirtual 74, 3) := by decide +kernel
theorem dX13_openBelow_38 : decode cX13_openBelow 38 = .ok (.ireturn, 1) := by decide +kernel
theorem dX13_enters_0 : decode cX13_enters 0 = .ok (.aload_n 0, 1) := by decide +kernel
theorem dX13_enters_1 : decode cX13_enters 1 = .ok (.getfield 7, 3) := by decide +kernel
theorem dX13_enters_4 : decode cX13_enters 4 = .ok (.iconst 2, 1) := by decide +kernel
theorem dX13_enters_5 : decode cX13_enters 5 = .ok (.iaload, 1) := by decide +kernel
theorem dX13_enters_6 : decode cX13_enters 6 = .ok (.bipush 20, 2) := by decide +kernel
theorem dX13_enters_8 : decode cX13_enters 8 = .ok (.if_icmp .ne 69, 3) := by decide +kernel
theorem dX13_enters_11 : decode cX13_enters 11 = .ok (.bipush 57, 2) := by decide +kernel
theorem dX13_enters_13 : decode cX13_enters 13 = .ok (.istore 5, 2) := by decide +kernel
theorem dX13_enters_15 : decode cX13_enters 15 = .ok (.iload 5, 2) := by decide +kernel
theorem dX13_enters_17 : decode cX13_enters 17 = .ok (.sipush 157, 3) := by decide +kernel
theorem dX13_enters_20 : decode cX13_enters 20 = .ok (.if_icmp .ge 47, 3) := by decide +kernel
theorem dX13_enters_23 : decode cX13_enters 23 = .ok (.iconst 0, 1) := by decide +kernel
theorem dX13_enters_24 : decode cX13_enters 24 = .ok (.istore 6, 2) := by decide +kernel
theorem dX13_enters_26 : decode cX13_enters 26 = .ok (.iload 6, 2) := by decide +kernel
theorem dX13_enters_28 : decode cX13_enters 28 = .ok (.bipush 19, 2) := by decide +kernel
theorem dX13_enters_30 : decode cX13_enters 30 = .ok (.if_icmp .ge 31, 3) := by decide +kernel
theorem dX13_enters_33 : decode cX13_enters 33 = .ok (.aload_n 0, 1) := by decide +kernel
theorem dX13_enters_34 : decode cX13_enters 34 = .ok (.getfield 7, 3) := by decide +kernel
theorem dX13_enters_37 : decode cX13_enters 37 = .ok (.iload 5, 2) := by decide +kernel
theorem dX13_enters_39 : decode cX13_enters 39 = .ok (.iload 6, 2) := by decide +kernel
theorem dX13_enters_41 : decode cX13_enters 41 = .ok (.iadd, 1) := by decide +kernel
theorem dX13_enters_42 : decode cX13_enters 42 = .ok (.aload_n 0, 1) := by decide +kernel
theorem dX13_enters_43 : decode cX13_enters 43 = .ok (.getfield 7, 3) := by decide +kernel
theorem dX13_enters_46 : decode cX13_enters 46 = .ok (.iload 5, 2) := by decide +kernel
theorem dX13_enters_48 : decode cX13_enters 48 = .ok (.iload 6, 2) := by decide +kernel
theorem dX13_enters_50 : decode cX13_enters 50 = .ok (.iadd, 1) := by decide +kernel
theorem dX13_enters_51 : decode cX13_enters 51 = .ok (.iconst 1, 1) := by decide +kernel
theorem dX13_enters_52 : decode cX13_enters 52 = .ok (.iadd, 1) := by decide +kernel
theorem dX13_enters_53 : decode cX13_enters 53 = .ok (.iaload, 1) := by decide +kernel
theorem dX13_enters_54 : decode cX13_enters 54 = .ok (.iastore, 1) := by decide +kernel
theorem dX13_enters_55 : decode cX13_enters 55 = .ok (.iinc 6 1, 3) := by decide +kernel
theorem dX13_enters_58 : decode cX13_enters 58 = .ok (.goto (-32), 3) := by decide +kernel
theorem dX13_enters_61 : decode cX13_enters 61 = .ok (.iinc 5 20, 3) := by decide +kernel
theorem dX13_enters_64 : decode cX13_enters 64 = .ok (.goto (-49), 3) := by decide +kernel
theorem dX13_enters_67 : decode cX13_enters 67 = .ok (.aload_n 0, 1) := by decide +kernel
theorem dX13_enters_68 : decode cX13_enters 68 = .ok (.getfield 7, 3) := by decide +kernel
theorem dX13_enters_71 : decode cX13_enters 71 = .ok (.iconst 2, 1) := by decide +kernel
theorem dX13_enters_72 : decode cX13_enters 72 = .ok (.dup2, 1) := by decide +kernel
theorem dX13_enters_73 : decode cX13_enters 73 = .ok (.iaload, 1) := by decide +kernel
theorem dX13_enters_74 : decode cX13_enters 74 = .ok (.iconst 1, 1) := by decide +kernel
theorem dX13_enters_75 : decode cX13_enters 75 = .ok (.isub, 1) := by decide +kernel
theorem dX13_enters_76 : decode cX13_enters 76 = .ok (.iastore, 1) := by decide +kernel
theorem dX13_enters_77 : decode cX13_enters 77 = .ok (.aload_n 0, 1) := by decide +kernel
theorem dX13_enters_78 : decode cX13_enters 78 = .ok (.getfield 7, 3) := by decide +kernel
theorem dX13_enters_81 : decode cX13_enters 81 = .ok (.iconst 2, 1) := by decide +kernel
theorem dX13_enters_82 : decode cX13_enters 82 = .ok (.iaload, 1) := by decide +kernel
theorem dX13_enters_83 : decode cX13_enters 83 = .ok (.istore 5, 2) := by decide +kernel
theorem dX13_enters_85 : decode cX13_enters 85 = .ok (.aload_n 0, 1) := by decide +kernel
theorem dX13_enters_86 : decode cX13_enters 86 = .ok (.getfield 7, 3) := by decide +kernel
theorem dX13_enters_89 : decode cX13_enters 89 = .ok (.bipush 57, 2) := by decide +kernel
theorem dX13_enters_91 : decode cX13_enters 91 = .ok (.iload 5, 2) := by decide +kernel
theorem dX13_enters_93 : decode cX13_enters 93 = .ok (.iadd, 1) := by decide +kernel
theorem dX13_enters_94 : decode cX13_enters 94 = .ok (.iload_n 1, 1) := by decide +kernel
theorem dX13_enters_95 : decode cX13_enters 95 = .ok (.iastore, 1) := by decide +kernel
theorem dX13_enters_96 : decode cX13_enters 96 = .ok (.aload_n 0, 1) := by decide +kernel
theorem dX13_enters_97 : decode cX13_enters 97 = .ok (.getfield 7, 3) := by decide +kernel
theorem dX13_enters_100 : decode cX13_enters 100 = .ok (.bipush 77, 2) := by decide +kernel
theorem dX13_enters_102 : decode cX13_enters 102 = .ok (.iload 5, 2) := by decide +kernel
theorem dX13_enters_104 : decode cX13_enters 104 = .ok (.iadd, 1) := by decide +kernel
theorem dX13_enters_105 : decode cX13_enters 105 = .ok (.iload_n 2, 1) := by decide +kernel
theorem dX13_enters_106 : decode cX13_enters 106 = .ok (.iastore, 1) := by decide +kernel
theorem dX13_enters_107 : decode cX13_enters 107 = .ok (.aload_n 0, 1) := by decide +kernel
theorem dX13_enters_108 : decode cX13_enters 108 = .ok (.getfield 7, 3) := by decide +kernel
theorem dX13_enters_111 : decode cX13_enters 111 = .ok (.bipush 97, 2) := by decide +kernel
theorem dX13_enters_113 : decode cX13_enters 113 = .ok (.iload 5, 2) := by decide +kernel
theorem dX13_enters_115 : decode cX13_enters 115 = .ok (.iadd, 1) := by decide +kernel
theorem dX13_enters_116 : decode cX13_enters 116 = .ok (.iload_n 3, 1) := by decide +kernel
theorem dX13_enters_117 : decode cX13_enters 117 = .ok (.iastore, 1) := by decide +kernel
theorem dX13_enters_118 : decode cX13_enters 118 = .ok (.aload_n 0, 1) := by decide +kernel
theorem dX13_enters_119 : decode cX13_enters 119 = .ok (.getfield 7, 3) := by decide +kernel
theorem dX13_enters_122 : decode cX13_enters 122 = .ok (.bipush 117, 2) := by decide +kernel
theorem dX13_enters_124 : decode cX13_enters 124 = .ok (.iload 5, 2) := by decide +kernel
theorem dX13_enters_126 : decode cX13_enters 126 = .ok (.iadd, 1) := by decide +kernel
theorem dX13_enters_127 : decode cX13_enters 127 = .ok (.aload_n 0, 1) := by decide +kernel
theorem dX13_enters_128 : decode cX13_enters 128 = .ok (.getfield 7, 3) := by decide +kernel
theorem dX13_enters_131 : decode cX13_enters 131 = .ok (.iconst 0, 1) := by decide +kernel
theorem dX13_enters_132 : decode cX13_enters 132 = .ok (.iaload, 1) := by decide +kernel
theorem dX13_enters_133 : decode cX13_enters 133 = .ok (.iastore, 1) := by decide +kernel
theorem dX13_enters_134 : decode cX13_enters 134 = .ok (.aload_n 0, 1) := by decide +kernel
theorem dX13_enters_135 : decode cX13_enters 135 = .ok (.getfield 7, 3) := by decide +kernel
theorem dX13_enters_138 : decode cX13_enters 138 = .ok (.sipush 137, 3) := by decide +kernel
theorem dX13_enters_141 : decode cX13_enters 141 = .ok (.iload 5, 2) := by decide +kernel
theorem dX13_enters_143 : decode cX13_enters 143 = .ok (.iadd, 1) := by decide +kernel
theorem dX13_enters_144 : decode cX13_enters 144 = .ok (.iload 4, 2) := by decide +kernel
theorem dX13_enters_146 : decode cX13_enters 146 = .ok (.iastore, 1) := by decide +kernel
theorem dX13_enters_147 : decode cX13_enters 147 = .ok (.aload_n 0, 1) := by decide +kernel
theorem dX13_enters_148 : decode cX13_enters 148 = .ok (.getfield 7, 3) := by decide +kernel
theorem dX13_enters_151 : decode cX13_enters 151 = .ok (.bipush 33, 2) := by decide +kernel
theorem dX13_enters_153 : decode cX13_enters 153 = .ok (.iload_n 1, 1) := by decide +kernel
theorem dX13_enters_154 : decode cX13_enters 154 = .ok (.iadd, 1) := by decide +kernel
theorem dX13_enters_155 : decode cX13_enters 155 = .ok (.dup2, 1) := by decide +kernel
theorem dX13_enters_156 : decode cX13_enters 156 = .ok (.iaload, 1) := by decide +kernel
theorem dX13_enters_157 : decode cX13_enters 157 = .ok (.iload_n 3, 1) := by decide +kernel
theorem dX13_enters_158 : decode cX13_enters 158 = .ok (.iadd, 1) := by decide +kernel
theorem dX13_enters_159 : decode cX13_enters 159 = .ok (.iastore, 1) := by decide +kernel
theorem dX13_enters_160 : decode cX13_enters 160 = .ok (.aload_n 0, 1) := by decide +kernel
theorem dX13_enters_161 : decode cX13_enters 161 = .ok (.getfield 7, 3) := by decide +kernel
theorem dX13_enters_164 : decode cX13_enters 164 = .ok (.bipush 45, 2) := by decide +kernel
theorem dX13_enters_166 : decode cX13_enters 166 = .ok (.iload_n 2, 1) := by decide +kernel
theorem dX13_enters_167 : decode cX13_enters 167 = .ok (.iadd, 1) := by decide +kernel
theorem dX13_enters_168 : decode cX13_enters 168 = .ok (.dup2, 1) := by decide +kernel
theorem dX13_enters_169 : decode cX13_enters 169 = .ok (.iaload, 1) := by decide +kernel
theorem dX13_enters_170 : decode cX13_enters 170 = .ok (.iload_n 3, 1) := by decide +kernel
theorem dX13_enters_171 : decode cX13_enters 171 = .ok (.iadd, 1) := by decide +kernel
theorem dX13_enters_172 : decode cX13_enters 172 = .ok (.iastore, 1) := by decide +kernel
theorem dX13_enters_173 : decode cX13_enters 173 = .ok (.aload_n 0, 1) := by decide +kernel
theorem dX13_enters_174 : decode cX13_enters 174 = .ok (.getfield 7, 3) := by decide +kernel
theorem dX13_enters_177 : decode cX13_enters 177 = .ok (.iconst 2, 1) := by decide +kernel
theorem dX13_enters_178 : decode cX13_enters 178 = .ok (.dup2, 1) := by decide +kernel
theorem dX13_enters_179 : decode cX13_enters 179 = .ok (.iaload, 1) := by decide +kernel
theorem dX13_enters_180 : decode cX13_enters 180 = .ok (.iconst 1, 1) := by decide +kernel
theorem dX13_enters_181 : decode cX13_enters 181 = .ok (.iadd, 1) := by decide +kernel
theorem dX13_enters_182 : decode cX13_enters 182 = .ok (.iastore, 1) := by decide +kernel
theorem dX13_enters_183 : decode cX13_enters 183 = .ok (.aload_n 0, 1) := by decide +kernel
theorem dX13_enters_184 : decode cX13_enters 184 = .ok (.getfield 7, 3) := by decide +kernel
theorem dX13_enters_187 : decode cX13_enters 187 = .ok (.iconst 3, 1) := by decide +kernel
theorem dX13_enters_188 : decode cX13_enters 188 = .ok (.dup2, 1) := by decide +kernel
theorem dX13_enters_189 : decode cX13_enters 189 = .ok (.iaload, 1) := by decide +kernel
theorem dX13_enters_190 : decode cX13_enters 190 = .ok (.iconst 1, 1) := by decide +kernel
theorem dX13_enters_191 : decode cX13_enters 191 = .ok (.iadd, 1) := by decide +kernel
theorem dX13_enters_192 : decode cX13_enters 192 = .ok (.iastore, 1) := by decide +kernel
theorem dX13_enters_193 : decode cX13_enters 193 = .ok (.aload_n 0, 1) := by decide +kernel
theorem dX13_enters_194 : decode cX13_enters 194 = .ok (.getfield 7, 3) := by decide +kernel
theorem dX13_enters_197 : decode cX13_enters 197 = .ok (.iconst 3, 1) := by decide +kernel
theorem dX13_enters_198 : decode cX13_enters 198 = .ok (.iaload, 1) := by decide +kernel
theorem dX13_enters_199 : decode cX13_enters 199 = .ok (.iconst 1, 1) := by decide +kernel
theorem dX13_enters_200 : decode cX13_enters 200 = .ok (.isub, 1) := by decide +kernel
theorem dX13_enters_201 : decode cX13_enters 201 = .ok (.ireturn, 1) := by decide +kernel
theorem dX13_whyNoEntry_0 : decode cX13_whyNoEntry 0 = .ok (.aload_n 0, 1) := by decide +kernel
theorem dX13_whyNoEntry_1 : decode cX13_whyNoEntry 1 = .ok (.iload_n 1, 1) := by decide +kernel
theorem dX13_whyNoEntry_2 : decode cX13_whyNoEntry 2 = .ok (.invokevirtual 77, 3) := by decide +kernel
theorem dX13_whyNoEntry_5 : decode cX13_whyNoEntry 5 = .ok (.ifCond .eq 11, 3) := by decide +kernel
theorem dX13_whyNoEntry_8 : decode cX13_whyNoEntry 8 = .ok (.aload_n 0, 1) := by decide +kernel
theorem dX13_whyNoEntry_9 : decode cX13_whyNoEntry 9 = .ok (.iload_n 2, 1) := by decide +kernel
theorem dX13_whyNoEntry_10 : decode cX13_whyNoEntry 10 = .ok (.invokevirtual 77, 3) := by decide +kernel
theorem dX13_whyNoEntry_13 : decode cX13_whyNoEntry 13 = .ok (.ifCond .ne 7, 3) := by decide +kernel
theorem dX13_whyNoEntry_16 : decode cX13_whyNoEntry 16 = .ok (.iconst 1, 1) := by decide +kernel
theorem dX13_whyNoEntry_17 : decode cX13_whyNoEntry 17 = .ok (.goto 24, 3) := by decide +kernel
theorem dX13_whyNoEntry_20 : decode cX13_whyNoEntry 20 = .ok (.iload_n 1, 1) := by decide +kernel
theorem dX13_whyNoEntry_21 : decode cX13_whyNoEntry 21 = .ok (.iload_n 2, 1) := by decide +kernel
theorem dX13_whyNoEntry_22 : decode cX13_whyNoEntry 22 = .ok (.if_icmp .eq 14, 3) := by decide +kernel
theorem dX13_whyNoEntry_25 : decode cX13_whyNoEntry 25 = .ok (.iload_n 3, 1) := by decide +kernel
theorem dX13_whyNoEntry_26 : decode cX13_whyNoEntry 26 = .ok (.iconst 1, 1) := by decide +kernel
theorem dX13_whyNoEntry_27 : decode cX13_whyNoEntry 27 = .ok (.sipush 999, 3) := by decide +kernel
theorem dX13_whyNoEntry_30 : decode cX13_whyNoEntry 30 = .ok (.invokestatic 49, 3) := by decide +kernel
theorem dX13_whyNoEntry_33 : decode cX13_whyNoEntry 33 = .ok (.ifCond .ne 7, 3) := by decide +kernel
theorem dX13_whyNoEntry_36 : decode cX13_whyNoEntry 36 = .ok (.iconst 2, 1) := by decide +kernel
theorem dX13_whyNoEntry_37 : decode cX13_whyNoEntry 37 = .ok (.goto 4, 3) := by decide +kernel
theorem dX13_whyNoEntry_40 : decode cX13_whyNoEntry 40 = .ok (.iconst 0, 1) := by decide +kernel
theorem dX13_whyNoEntry_41 : decode cX13_whyNoEntry 41 = .ok (.ireturn, 1) := by decide +kernel
theorem dX13_posts_0 : decode cX13_posts 0 = .ok (.aload_n 0, 1) := by decide +kernel
theorem dX13_posts_1 : decode cX13_posts 1 = .ok (.iload_n 1, 1) := by decide +kernel
theorem dX13_posts_2 : decode cX13_posts 2 = .ok (.iload_n 2, 1) := by decide +kernel
theorem dX13_posts_3 : decode cX13_posts 3 = .ok (.iload_n 3, 1) := by decide +kernel
theorem dX13_posts_4 : decode cX13_posts 4 = .ok (.invokevirtual 80, 3) := by decide +kernel
theorem dX13_posts_7 : decode cX13_posts 7 = .ok (.istore 4, 2) := by decide +kernel
theorem dX13_posts_9 : decode cX13_posts 9 = .ok (.iload 4, 2) := by decide +kernel
theorem dX13_posts_11 : decode cX13_posts 11 = .ok (.ifCond .le 12, 3) := by decide +kernel
theorem dX13_posts_14 : decode cX13_posts 14 = .ok (.aload_n 0, 1) := by decide +kernel
theorem dX13_posts_15 : decode cX13_posts 15 = .ok (.iload 4, 2) := by decide +kernel
theorem dX13_posts_17 : decode cX13_posts 17 = .ok (.invokevirtual 57, 3) := by decide +kernel
theorem dX13_posts_20 : decode cX13_posts 20 = .ok (.goto 15, 3) := by decide +kernel
theorem dX13_posts_23 : decode cX13_posts 23 = .ok (.aload_n 0, 1) := by decide +kernel
theorem dX13_posts_24 : decode cX13_posts 24 = .ok (.aload_n 0, 1) := by decide +kernel
theorem dX13_posts_25 : decode cX13_posts 25 = .ok (.iload_n 1, 1) := by decide +kernel
theorem dX13_posts_26 : decode cX13_posts 26 = .ok (.iload_n 2, 1) := by decide +kernel
theorem dX13_posts_27 : decode cX13_posts 27 = .ok (.iload_n 3, 1) := by decide +kernel
theorem dX13_posts_28 : decode cX13_posts 28 = .ok (.iconst 0, 1) := by decide +kernel
theorem dX13_posts_29 : decode cX13_posts 29 = .ok (.invokevirtual 84, 3) := by decide +kernel
theorem dX13_posts_32 : decode cX13_posts 32 = .ok (.invokevirtual 60, 3) := by decide +kernel
theorem dX13_posts_35 : decode cX13_posts 35 = .ok (.ireturn, 1) := by decide +kernel
theorem dX13_post_0 : decode cX13_post 0 = .ok (.aload_n 0, 1) := by decide +kernel
theorem dX13_post_1 : decode cX13_post 1 = .ok (.invokevirtual 63, 3) := by decide +kernel
theorem dX13_post_4 : decode cX13_post 4 = .ok (.aload_n 0, 1) := by decide +kernel
theorem dX13_post_5 : decode cX13_post 5 = .ok (.aload_n 0, 1) := by decide +kernel
theorem dX13_post_6 : decode cX13_post 6 = .ok (.iload_n 1, 1) := by decide +kernel
theorem dX13_post_7 : decode cX13_post 7 = .ok (.iload_n 2, 1) := by decide +kernel
theorem dX13_post_8 : decode cX13_post 8 = .ok (.iload_n 3, 1) := by decide +kernel
theorem dX13_post_9 : decode cX13_post 9 = .ok (.invokevirtual 88, 3) := by decide +kernel
theorem dX13_post_12 : decode cX13_post 12 = .ok (.invokevirtual 74, 3) := by decide +kernel
theorem dX13_post_15 : decode cX13_post 15 = .ok (.ireturn, 1) := by decide +kernel
theorem dX13_placeOf_0 : decode cX13_placeOf 0 = .ok (.aload_n 0, 1) := by decide +kernel
theorem dX13_placeOf_1 : decode cX13_placeOf 1 = .ok (.getfield 7, 3) := by decide +kernel
theorem dX13_placeOf_4 : decode cX13_placeOf 4 = .ok (.iconst 3, 1) := by decide +kernel
theorem dX13_placeOf_5 : decode cX13_placeOf 5 = .ok (.iaload, 1) := by decide +kernel
theorem dX13_placeOf_6 : decode cX13_placeOf 6 = .ok (.aload_n 0, 1) := by decide +kernel
theorem dX13_placeOf_7 : decode cX13_placeOf 7 = .ok (.getfield 7, 3) := by decide +kernel
theorem dX13_placeOf_10 : decode cX13_placeOf 10 = .ok (.iconst 2, 1) := by decide +kernel
theorem dX13_placeOf_11 : decode cX13_placeOf 11 = .ok (.iaload, 1) := by decide +kernel
theorem dX13_placeOf_12 : decode cX13_placeOf 12 = .ok (.isub, 1) := by decide +kernel
theorem dX13_placeOf_13 : decode cX13_placeOf 13 = .ok (.istore_n 2, 1) := by decide +kernel
theorem dX13_placeOf_14 : decode cX13_placeOf 14 = .ok (.iload_n 1, 1) := by decide +kernel
theorem dX13_placeOf_15 : decode cX13_placeOf 15 = .ok (.iload_n 2, 1) := by decide +kernel
theorem dX13_placeOf_16 : decode cX13_placeOf 16 = .ok (.aload_n 0, 1) := by decide +kernel
theorem dX13_placeOf_17 : decode cX13_placeOf 17 = .ok (.getfield 7, 3) := by decide +kernel
theorem dX13_placeOf_20 : decode cX13_placeOf 20 = .ok (.iconst 3, 1) := by decide +kernel
theorem dX13_placeOf_21 : decode cX13_placeOf 21 = .ok (.iaload, 1) := by decide +kernel
theorem dX13_placeOf_22 : decode cX13_placeOf 22 = .ok (.iconst 1, 1) := by decide +kernel
theorem dX13_placeOf_23 : decode cX13_placeOf 23 = .ok (.isub, 1) := by decide +kernel
theorem dX13_placeOf_24 : decode cX13_placeOf 24 = .ok (.invokestatic 49, 3) := by decide +kernel
theorem dX13_placeOf_27 : decode cX13_placeOf 27 = .ok (.ifCond .eq 9, 3) := by decide +kernel
theorem dX13_placeOf_30 : decode cX13_placeOf 30 = .ok (.iload_n 1, 1) := by decide +kernel
theorem dX13_placeOf_31 : decode cX13_placeOf 31 = .ok (.iload_n 2, 1) := by decide +kernel
theorem dX13_placeOf_32 : decode cX13_placeOf 32 = .ok (.isub, 1) := by decide +kernel
theorem dX13_placeOf_33 : decode cX13_placeOf 33 = .ok (.goto 4, 3) := by decide +kernel
theorem dX13_placeOf_36 : decode cX13_placeOf 36 = .ok (.iconst (-1), 1) := by decide +kernel
theorem dX13_placeOf_37 : decode cX13_placeOf 37 = .ok (.ireturn, 1) := by decide +kernel
theorem dX13_reverses_0 : decode cX13_reverses 0 = .ok (.aload_n 0, 1) := by decide +kernel
theorem dX13_reverses_1 : decode cX13_reverses 1 = .ok (.iload_n 1, 1) := by decide +kernel
theorem dX13_reverses_2 : decode cX13_reverses 2 = .ok (.invokevirtual 91, 3) := by decide +kernel
theorem dX13_reverses_5 : decode cX13_reverses 5 = .ok (.istore_n 2, 1) := by decide +kernel
theorem dX13_reverses_6 : decode cX13_reverses 6 = .ok (.iload_n 2, 1) := by decide +kernel
theorem dX13_reverses_7 : decode cX13_reverses 7 = .ok (.iconst (-1), 1) := by decide +kernel
theorem dX13_reverses_8 : decode cX13_reverses 8 = .ok (.if_icmp .ne 9, 3) := by decide +kernel
theorem dX13_reverses_11 : decode cX13_reverses 11 = .ok (.aload_n 0, 1) := by decide +kernel
theorem dX13_reverses_12 : decode cX13_reverses 12 = .ok (.iconst 1, 1) := by decide +kernel
theorem dX13_reverses_13 : decode cX13_reverses 13 = .ok (.invokevirtual 57, 3) := by decide +kernel
theorem dX13_reverses_16 : decode cX13_reverses 16 = .ok (.ireturn, 1) := by decide +kernel
theorem dX13_reverses_17 : decode cX13_reverses 17 = .ok (.aload_n 0, 1) := by decide +kernel
theorem dX13_reverses_18 : decode cX13_reverses 18 = .ok (.getfield 7, 3) := by decide +kernel
theorem dX13_reverses_21 : decode cX13_reverses 21 = .ok (.sipush 137, 3) := by decide +kernel
theorem dX13_reverses_24 : decode cX13_reverses 24 = .ok (.iload_n 2, 1) := by decide +kernel
theorem dX13_reverses_25 : decode cX13_reverses 25 = .ok (.iadd, 1) := by decide +kernel
theorem dX13_reverses_26 : decode cX13_reverses 26 = .ok (.iaload, 1) := by decide +kernel
theorem dX13_reverses_27 : decode cX13_reverses 27 = .ok (.ifCond .eq 9, 3) := by decide +kernel
theorem dX13_reverses_30 : decode cX13_reverses 30 = .ok (.aload_n 0, 1) := by decide +kernel
theorem dX13_reverses_31 : decode cX13_reverses 31 = .ok (.iconst 2, 1) := by decide +kernel
theorem dX13_reverses_32 : decode cX13_reverses 32 = .ok (.invokevirtual 57, 3) := by decide +kernel
theorem dX13_reverses_35 : decode cX13_reverses 35 = .ok (.ireturn, 1) := by decide +kernel
theorem dX13_reverses_36 : decode cX13_reverses 36 = .ok (.aload_n 0, 1) := by decide +kernel
theorem dX13_reverses_37 : decode cX13_reverses 37 = .ok (.getfield 7, 3) := by decide +kernel
theorem dX13_reverses_40 : decode cX13_reverses 40 = .ok (.sipush 137, 3) := by decide +kernel
theorem dX13_reverses_43 : decode cX13_reverses 43 = .ok (.iload_n 2, 1) := by decide +kernel
theorem dX13_reverses_44 : decode cX13_reverses 44 = .ok (.iadd, 1) := by decide +kernel
theorem dX13_reverses_45 : decode cX13_reverses 45 = .ok (.iconst 1, 1) := by decide +kernel
theorem dX13_reverses_46 : decode cX13_reverses 46 = .ok (.iastore, 1) := by decide +kernel
theorem dX13_reverses_47 : decode cX13_reverses 47 = .ok (.aload_n 0, 1) := by decide +kernel
theorem dX13_reverses_48 : decode cX13_reverses 48 = .ok (.aload_n 0, 1) := by decide +kernel
theorem dX13_reverses_49 : decode cX13_reverses 49 = .ok (.aload_n 0, 1) := by decide +kernel
theorem dX13_reverses_50 : decode cX13_reverses 50 = .ok (.getfield 7, 3) := by decide +kernel
theorem dX13_reverses_53 : decode cX13_reverses 53 = .ok (.bipush 77, 2) := by decide +kernel
theorem dX13_reverses_55 : decode cX13_reverses 55 = .ok (.iload_n 2, 1) := by decide +kernel
theorem dX13_reverses_56 : decode cX13_reverses 56 = .ok (.iadd, 1) := by decide +kernel
theorem dX13_reverses_57 : decode cX13_reverses 57 = .ok (.iaload, 1) := by decide +kernel
theorem dX13_reverses_58 : decode cX13_reverses 58 = .ok (.aload_n 0, 1) := by decide +kernel
theorem dX13_reverses_59 : decode cX13_reverses 59 = .ok (.getfield 7, 3) := by decide +kernel
theorem dX13_reverses_62 : decode cX13_reverses 62 = .ok (.bipush 57, 2) := by decide +kernel
theorem dX13_reverses_64 : decode cX13_reverses 64 = .ok (.iload_n 2, 1) := by decide +kernel
theorem dX13_reverses_65 : decode cX13_reverses 65 = .ok (.iadd, 1) := by decide +kernel
theorem dX13_reverses_66 : decode cX13_reverses 66 = .ok (.iaload, 1) := by decide +kernel
theorem dX13_reverses_67 : decode cX13_reverses 67 = .ok (.aload_n 0, 1) := by decide +kernel
theorem dX13_reverses_68 : decode cX13_reverses 68 = .ok (.getfield 7, 3) := by decide +kernel
theorem dX13_reverses_71 : decode cX13_reverses 71 = .ok (.bipush 97, 2) := by decide +kernel
theorem dX13_reverses_73 : decode cX13_reverses 73 = .ok (.iload_n 2, 1) := by decide +kernel
theorem dX13_reverses_74 : decode cX13_reverses 74 = .ok (.iadd, 1) := by decide +kernel
theorem dX13_reverses_75 : decode cX13_reverses 75 = .ok (.iaload, 1) := by decide +kernel
theorem dX13_reverses_76 : decode cX13_reverses 76 = .ok (.iconst 2, 1) := by decide +kernel
theorem dX13_reverses_77 : decode cX13_reverses 77 = .ok (.invokevirtual 84, 3) := by decide +kernel
theorem dX13_reverses_80 : decode cX13_reverses 80 = .ok (.invokevirtual 60, 3) := by decide +kernel
theorem dX13_reverses_83 : decode cX13_reverses 83 = .ok (.ireturn, 1) := by decide +kernel
theorem dX13_reverse_0 : decode cX13_reverse 0 = .ok (.aload_n 0, 1) := by decide +kernel
theorem dX13_reverse_1 : decode cX13_reverse 1 = .ok (.invokevirtual 63, 3) := by decide +kernel
theorem dX13_reverse_4 : decode cX13_reverse 4 = .ok (.aload_n 0, 1) := by decide +kernel
theorem dX13_reverse_5 : decode cX13_reverse 5 = .ok (.aload_n 0, 1) := by decide +kernel
theorem dX13_reverse_6 : decode cX13_reverse 6 = .ok (.iload_n 1, 1) := by decide +kernel
theorem dX13_reverse_7 : decode cX13_reverse 7 = .ok (.invokevirtual 94, 3) := by decide +kernel
theorem dX13_reverse_10 : decode cX13_reverse 10 = .ok (.invokevirtual 74, 3) := by decide +kernel
theorem dX13_reverse_13 : decode cX13_reverse 13 = .ok (.ireturn, 1) := by decide +kernel
theorem dX13_prompts_0 : decode cX13_prompts 0 = .ok (.aload_n 0, 1) := by decide +kernel
theorem dX13_prompts_1 : decode cX13_prompts 1 = .ok (.iload_n 1, 1) := by decide +kernel
theorem dX13_prompts_2 : decode cX13_prompts 2 = .ok (.iload_n 2, 1) := by decide +kernel
theorem dX13_prompts_3 : decode cX13_prompts 3 = .ok (.iload_n 3, 1) := by decide +kernel
theorem dX13_prompts_4 : decode cX13_prompts 4 = .ok (.invokevirtual 80, 3) := by decide +kernel
theorem dX13_prompts_7 : decode cX13_prompts 7 = .ok (.istore 6, 2) := by decide +kernel
theorem dX13_prompts_9 : decode cX13_prompts 9 = .ok (.iload 6, 2) := by decide +kernel
theorem dX13_prompts_11 : decode cX13_prompts 11 = .ok (.ifCond .le 10, 3) := by decide +kernel
theorem dX13_prompts_14 : decode cX13_prompts 14 = .ok (.aload_n 0, 1) := by decide +kernel
theorem dX13_prompts_15 : decode cX13_prompts 15 = .ok (.iload 6, 2) := by decide +kernel
theorem dX13_prompts_17 : decode cX13_prompts 17 = .ok (.invokevirtual 57, 3) := by decide +kernel
theorem dX13_prompts_20 : decode cX13_prompts 20 = .ok (.ireturn, 1) := by decide +kernel
theorem dX13_prompts_21 : decode cX13_prompts 21 = .ok (.iload 4, 2) := by decide +kernel
theorem dX13_prompts_23 : decode cX13_prompts 23 = .ok (.iconst 1, 1) := by decide +kernel
theorem dX13_prompts_24 : decode cX13_prompts 24 = .ok (.bipush 12, 2) := by decide +kernel
theorem dX13_prompts_26 : decode cX13_prompts 26 = .ok (.invokestatic 49, 3) := by decide +kernel
theorem dX13_prompts_29 : decode cX13_prompts 29 = .ok (.ifCond .eq 14, 3) := by decide +kernel
theorem dX13_prompts_32 : decode cX13_prompts 32 = .ok (.iload 5, 2) := by decide +kernel
theorem dX13_prompts_34 : decode cX13_prompts 34 = .ok (.iconst 1, 1) := by decide +kernel
theorem dX13_prompts_35 : decode cX13_prompts 35 = .ok (.bipush 9, 2) := by decide +kernel
theorem dX13_prompts_37 : decode cX13_prompts 37 = .ok (.invokestatic 49, 3) := by decide +kernel
theorem dX13_prompts_40 : decode cX13_prompts 40 = .ok (.ifCond .ne 9, 3) := by decide +kernel
theorem dX13_prompts_43 : decode cX13_prompts 43 = .ok (.aload_n 0, 1) := by decide +kernel
theorem dX13_prompts_44 : decode cX13_prompts 44 = .ok (.iconst 2, 1) := by decide +kernel
theorem dX13_prompts_45 : decode cX13_prompts 45 = .ok (.invokevirtual 57, 3) := by decide +kernel
theorem dX13_prompts_48 : decode cX13_prompts 48 = .ok (.ireturn, 1) := by decide +kernel
theorem dX13_prompts_49 : decode cX13_prompts 49 = .ok (.aload_n 0, 1) := by decide +kernel
theorem dX13_prompts_50 : decode cX13_prompts 50 = .ok (.getfield 7, 3) := by decide +kernel
theorem dX13_prompts_53 : decode cX13_prompts 53 = .ok (.iconst 4, 1) := by decide +kernel
theorem dX13_prompts_54 : decode cX13_prompts 54 = .ok (.iaload, 1) := by decide +kernel
theorem dX13_prompts_55 : decode cX13_prompts 55 = .ok (.istore 7, 2) := by decide +kernel
theorem dX13_prompts_57 : decode cX13_prompts 57 = .ok (.iload 7, 2) := by decide +kernel
theorem dX13_prompts_59 : decode cX13_prompts 59 = .ok (.bipush 6, 2) := by decide +kernel
theorem dX13_prompts_61 : decode cX13_prompts 61 = .ok (.if_icmp .ne 9, 3) := by decide +kernel
theorem dX13_prompts_64 : decode cX13_prompts 64 = .ok (.aload_n 0, 1) := by decide +kernel
theorem dX13_prompts_65 : decode cX13_prompts 65 = .ok (.iconst 3, 1) := by decide +kernel
theorem dX13_prompts_66 : decode cX13_prompts 66 = .ok (.invokevirtual 57, 3) := by decide +kernel
theorem dX13_prompts_69 : decode cX13_prompts 69 = .ok (.ireturn, 1) := by decide +kernel
theorem dX13_prompts_70 : decode cX13_prompts 70 = .ok (.aload_n 0, 1) := by decide +kernel
theorem dX13_prompts_71 : decode cX13_prompts 71 = .ok (.getfield 7, 3) := by decide +kernel
theorem dX13_prompts_74 : decode cX13_prompts 74 = .ok (.sipush 157, 3) := by decide +kernel
theorem dX13_prompts_77 : decode cX13_prompts 77 = .ok (.iload 7, 2) := by decide +kernel
theorem dX13_prompts_79 : decode cX13_prompts 79 = .ok (.iadd, 1) := by decide +kernel
theorem dX13_prompts_80 : decode cX13_prompts 80 = .ok (.iload_n 1, 1) := by decide +kernel
theorem dX13_prompts_81 : decode cX13_prompts 81 = .ok (.iastore, 1) := by decide +kernel
theorem dX13_prompts_82 : decode cX13_prompts 82 = .ok (.aload_n 0, 1) := by decide +kernel
theorem dX13_prompts_83 : decode cX13_prompts 83 = .ok (.getfield 7, 3) := by decide +kernel
theorem dX13_prompts_86 : decode cX13_prompts 86 = .ok (.sipush 163, 3) := by decide +kernel
theorem dX13_prompts_89 : decode cX13_prompts 89 = .ok (.iload 7, 2) := by decide +kernel
theorem dX13_prompts_91 : decode cX13_prompts 91 = .ok (.iadd, 1) := by decide +kernel
theorem dX13_prompts_92 : decode cX13_prompts 92 = .ok (.iload_n 2, 1) := by decide +kernel
theorem dX13_prompts_93 : decode cX13_prompts 93 = .ok (.iastore, 1) := by decide +kernel
theorem dX13_prompts_94 : decode cX13_prompts 94 = .ok (.aload_n 0, 1) := by decide +kernel
theorem dX13_prompts_95 : decode cX13_prompts 95 = .ok (.getfield 7, 3) := by decide +kernel
theorem dX13_prompts_98 : decode cX13_prompts 98 = .ok (.sipush 169, 3) := by decide +kernel
theorem dX13_prompts_101 : decode cX13_prompts 101 = .ok (.iload 7, 2) := by decide +kernel
theorem dX13_prompts_103 : decode cX13_prompts 103 = .ok (.iadd, 1) := by decide +kernel
theorem dX13_prompts_104 : decode cX13_prompts 104 = .ok (.iload_n 3, 1) := by decide +kernel
theorem dX13_prompts_105 : decode cX13_prompts 105 = .ok (.iastore, 1) := by decide +kernel
theorem dX13_prompts_106 : decode cX13_prompts 106 = .ok (.aload_n 0, 1) := by decide +kernel
theorem dX13_prompts_107 : decode cX13_prompts 107 = .ok (.getfield 7, 3) := by decide +kernel
theorem dX13_prompts_110 : decode cX13_prompts 110 = .ok (.sipush 175, 3) := by decide +kernel
theorem dX13_prompts_113 : decode cX13_prompts 113 = .ok (.iload 7, 2) := by decide +kernel
theorem dX13_prompts_115 : decode cX13_prompts 115 = .ok (.iadd, 1) := by decide +kernel
theorem dX13_prompts_116 : decode cX13_prompts 116 = .ok (.iload 4, 2) := by decide +kernel
theorem dX13_prompts_118 : decode cX13_prompts 118 = .ok (.iastore, 1) := by decide +kernel
theorem dX13_prompts_119 : decode cX13_prompts 119 = .ok (.aload_n 0, 1) := by decide +kernel
theorem dX13_prompts_120 : decode cX13_prompts 120 = .ok (.getfield 7, 3) := by decide +kernel
theorem dX13_prompts_123 : decode cX13_prompts 123 = .ok (.sipush 181, 3) := by decide +kernel
theorem dX13_prompts_126 : decode cX13_prompts 126 = .ok (.iload 7, 2) := by decide +kernel
theorem dX13_prompts_128 : decode cX13_prompts 128 = .ok (.iadd, 1) := by decide +kernel
theorem dX13_prompts_129 : decode cX13_prompts 129 = .ok (.iload 5, 2) := by decide +kernel
theorem dX13_prompts_131 : decode cX13_prompts 131 = .ok (.iastore, 1) := by decide +kernel
theorem dX13_prompts_132 : decode cX13_prompts 132 = .ok (.aload_n 0, 1) := by decide +kernel
theorem dX13_prompts_133 : decode cX13_prompts 133 = .ok (.getfield 7, 3) := by decide +kernel
theorem dX13_prompts_136 : decode cX13_prompts 136 = .ok (.sipush 187, 3) := by decide +kernel
theorem dX13_prompts_139 : decode cX13_prompts 139 = .ok (.iload 7, 2) := by decide +kernel
theorem dX13_prompts_141 : decode cX13_prompts 141 = .ok (.iadd, 1) := by decide +kernel
theorem dX13_prompts_142 : decode cX13_prompts 142 = .ok (.aload_n 0, 1) := by decide +kernel
theorem dX13_prompts_143 : decode cX13_prompts 143 = .ok (.getfield 7, 3) := by decide +kernel
theorem dX13_prompts_146 : decode cX13_prompts 146 = .ok (.iconst 0, 1) := by decide +kernel
theorem dX13_prompts_147 : decode cX13_prompts 147 = .ok (.iaload, 1) := by decide +kernel
theorem dX13_prompts_148 : decode cX13_prompts 148 = .ok (.iastore, 1) := by decide +kernel
theorem dX13_prompts_149 : decode cX13_prompts 149 = .ok (.aload_n 0, 1) := by decide +kernel
theorem dX13_prompts_150 : decode cX13_prompts 150 = .ok (.getfield 7, 3) := by decide +kernel
theorem dX13_prompts_153 : decode cX13_prompts 153 = .ok (.iconst 4, 1) := by decide +kernel
theorem dX13_prompts_154 : decode cX13_prompts 154 = .ok (.dup2, 1) := by decide +kernel
theorem dX13_prompts_155 : decode cX13_prompts 155 = .ok (.iaload, 1) := by decide +kernel
theorem dX13_prompts_156 : decode cX13_prompts 156 = .ok (.iconst 1, 1) := by decide +kernel
theorem dX13_prompts_157 : decode cX13_prompts 157 = .ok (.iadd, 1) := by decide +kernel
theorem dX13_prompts_158 : decode cX13_prompts 158 = .ok (.iastore, 1) := by decide +kernel
theorem dX13_prompts_159 : decode cX13_prompts 159 = .ok (.aload_n 0, 1) := by decide +kernel
theorem dX13_prompts_160 : decode cX13_prompts 160 = .ok (.iload 7, 2) := by decide +kernel
theorem dX13_prompts_162 : decode cX13_prompts 162 = .ok (.invokevirtual 60, 3) := by decide +kernel
theorem dX13_prompts_165 : decode cX13_prompts 165 = .ok (.ireturn, 1) := by decide +kernel
theorem dX13_prompt_0 : decode cX13_prompt 0 = .ok (.aload_n 0, 1) := by decide +kernel
theorem dX13_prompt_1 : decode cX13_prompt 1 = .ok (.invokevirtual 63, 3) := by decide +kernel
theorem dX13_prompt_4 : decode cX13_prompt 4 = .ok (.aload_n 0, 1) := by decide +kernel
theorem dX13_prompt_5 : decode cX13_prompt 5 = .ok (.aload_n 0, 1) := by decide +kernel
theorem dX13_prompt_6 : decode cX13_prompt 6 = .ok (.iload_n 1, 1) := by decide +kernel
theorem dX13_prompt_7 : decode cX13_prompt 7 = .ok (.iload_n 2, 1) := by decide +kernel
theorem dX13_prompt_8 : decode cX13_prompt 8 = .ok (.iload_n 3, 1) := by decide +kernel
theorem dX13_prompt_9 : decode cX13_prompt 9 = .ok (.iload 4, 2) := by decide +kernel
theorem dX13_prompt_11 : decode cX13_prompt 11 = .ok (.iload 5, 2) := by decide +kernel
theorem dX13_prompt_13 : decode cX13_prompt 13 = .ok (.invokevirtual 97, 3) := by decide +kernel
theorem dX13_prompt_16 : decode cX13_prompt 16 = .ok (.invokevirtual 74, 3) := by decide +kernel
theorem dX13_prompt_19 : decode cX13_prompt 19 = .ok (.ireturn, 1) := by decide +kernel
theorem dX13_isPrompt_0 : decode cX13_isPrompt 0 = .ok (.iload_n 1, 1) := by decide +kernel
theorem dX13_isPrompt_1 : decode cX13_isPrompt 1 = .ok (.iconst 0, 1) := by decide +kernel
theorem dX13_isPrompt_2 : decode cX13_isPrompt 2 = .ok (.aload_n 0, 1) := by decide +kernel
theorem dX13_isPrompt_3 : decode cX13_isPrompt 3 = .ok (.getfield 7, 3) := by decide +kernel
theorem dX13_isPrompt_6 : decode cX13_isPrompt 6 = .ok (.iconst 4, 1) := by decide +kernel
theorem dX13_isPrompt_7 : decode cX13_isPrompt 7 = .ok (.iaload, 1) := by decide +kernel
theorem dX13_isPrompt_8 : decode cX13_isPrompt 8 = .ok (.iconst 1, 1) := by decide +kernel
theorem dX13_isPrompt_9 : decode cX13_isPrompt 9 = .ok (.isub, 1) := by decide +kernel
theorem dX13_isPrompt_10 : decode cX13_isPrompt 10 = .ok (.invokestatic 49, 3) := by decide +kernel
theorem dX13_isPrompt_13 : decode cX13_isPrompt 13 = .ok (.ireturn, 1) := by decide +kernel
theorem dX13_ends_0 : decode cX13_ends 0 = .ok (.sipush 157, 3) := by decide +kernel
theorem dX13_ends_3 : decode cX13_ends 3 = .ok (.istore_n 2, 1) := by decide +kernel
theorem dX13_ends_4 : decode cX13_ends 4 = .ok (.iload_n 2, 1) := by decide +kernel
theorem dX13_ends_5 : decode cX13_ends 5 = .ok (.sipush 193, 3) := by decide +kernel
theorem dX13_ends_8 : decode cX13_ends 8 = .ok (.if_icmp .ge 40, 3) := by decide +kernel
theorem dX13_ends_11 : decode cX13_ends 11 = .ok (.iload_n 1, 1) := by decide +kernel
theorem dX13_ends_12 : decode cX13_ends 12 = .ok (.istore_n 3, 1) := by decide +kernel
theorem dX13_ends_13 : decode cX13_ends 13 = .ok (.iload_n 3, 1) := by decide +kernel
theorem dX13_ends_14 : decode cX13_ends 14 = .ok (.iconst 5, 1) := by decide +kernel
theorem dX13_ends_15 : decode cX13_ends 15 = .ok (.if_icmp .ge 27, 3) := by decide +kernel
theorem dX13_ends_18 : decode cX13_ends 18 = .ok (.aload_n 0, 1) := by decide +kernel
theorem dX13_ends_19 : decode cX13_ends 19 = .ok (.getfield 7, 3) := by decide +kernel
theorem dX13_ends_22 : decode cX13_ends 22 = .ok (.iload_n 2, 1) := by decide +kernel
theorem dX13_ends_23 : decode cX13_ends 23 = .ok (.iload_n 3, 1) := by decide +kernel
theorem dX13_ends_24 : decode cX13_ends 24 = .ok (.iadd, 1) := by decide +kernel
theorem dX13_ends_25 : decode cX13_ends 25 = .ok (.aload_n 0, 1) := by decide +kernel
theorem dX13_ends_26 : decode cX13_ends 26 = .ok (.getfield 7, 3) := by decide +kernel
theorem dX13_ends_29 : decode cX13_ends 29 = .ok (.iload_n 2, 1) := by decide +kernel
theorem dX13_ends_30 : decode cX13_ends 30 = .ok (.iload_n 3, 1) := by decide +kernel
theorem dX13_ends_31 : decode cX13_ends 31 = .ok (.iadd, 1) := by decide +kernel
theorem dX13_ends_32 : decode cX13_ends 32 = .ok (.iconst 1, 1) := by decide +kernel
theorem dX13_ends_33 : decode cX13_ends 33 = .ok (.iadd, 1) := by decide +kernel
theorem dX13_ends_34 : decode cX13_ends 34 = .ok (.iaload, 1) := by decide +kernel
theorem dX13_ends_35 : decode cX13_ends 35 = .ok (.iastore, 1) := by decide +kernel
theorem dX13_ends_36 : decode cX13_ends 36 = .ok (.iinc 3 1, 3) := by decide +kernel
theorem dX13_ends_39 : decode cX13_ends 39 = .ok (.goto (-26), 3) := by decide +kernel
theorem dX13_ends_42 : decode cX13_ends 42 = .ok (.iinc 2 6, 3) := by decide +kernel
theorem dX13_ends_45 : decode cX13_ends 45 = .ok (.goto (-41), 3) := by decide +kernel
theorem dX13_ends_48 : decode cX13_ends 48 = .ok (.aload_n 0, 1) := by decide +kernel
theorem dX13_ends_49 : decode cX13_ends 49 = .ok (.getfield 7, 3) := by decide +kernel
theorem dX13_ends_52 : decode cX13_ends 52 = .ok (.iconst 4, 1) := by decide +kernel
theorem dX13_ends_53 : decode cX13_ends 53 = .ok (.dup2, 1) := by decide +kernel
theorem dX13_ends_54 : decode cX13_ends 54 = .ok (.iaload, 1) := by decide +kernel
theorem dX13_ends_55 : decode cX13_ends 55 = .ok (.iconst 1, 1) := by decide +kernel
theorem dX13_ends_56 : decode cX13_ends 56 = .ok (.isub, 1) := by decide +kernel
theorem dX13_ends_57 : decode cX13_ends 57 = .ok (.iastore, 1) := by decide +kernel
theorem dX13_ends_58 : decode cX13_ends 58 = .ok (.return_, 1) := by decide +kernel
theorem dX13_cancels_0 : decode cX13_cancels 0 = .ok (.aload_n 0, 1) := by decide +kernel
theorem dX13_cancels_1 : decode cX13_cancels 1 = .ok (.iload_n 1, 1) := by decide +kernel
theorem dX13_cancels_2 : decode cX13_cancels 2 = .ok (.invokevirtual 101, 3) := by decide +kernel
theorem dX13_cancels_5 : decode cX13_cancels 5 = .ok (.ifCond .ne 9, 3) := by decide +kernel
theorem dX13_cancels_8 : decode cX13_cancels 8 = .ok (.aload_n 0, 1) := by decide +kernel
theorem dX13_cancels_9 : decode cX13_cancels 9 = .ok (.iconst 1, 1) := by decide +kernel
theorem dX13_cancels_10 : decode cX13_cancels 10 = .ok (.invokevirtual 57, 3) := by decide +kernel
theorem dX13_cancels_13 : decode cX13_cancels 13 = .ok (.ireturn, 1) := by decide +kernel
theorem dX13_cancels_14 : decode cX13_cancels 14 = .ok (.aload_n 0, 1) := by decide +kernel
theorem dX13_cancels_15 : decode cX13_cancels 15 = .ok (.getfield 7, 3) := by decide +kernel
theorem dX13_cancels_18 : decode cX13_cancels 18 = .ok (.sipush 181, 3) := by decide +kernel
theorem dX13_cancels_21 : decode cX13_cancels 21 = .ok (.iload_n 1, 1) := by decide +kernel
theorem dX13_cancels_22 : decode cX13_cancels 22 = .ok (.iadd, 1) := by decide +kernel
theorem dX13_cancels_23 : decode cX13_cancels 23 = .ok (.iaload, 1) := by decide +kernel
theorem dX13_cancels_24 : decode cX13_cancels 24 = .ok (.istore_n 2, 1) := by decide +kernel
theorem dX13_cancels_25 : decode cX13_cancels 25 = .ok (.aload_n 0, 1) := by decide +kernel
theorem dX13_cancels_26 : decode cX13_cancels 26 = .ok (.iload_n 1, 1) := by decide +kernel
theorem dX13_cancels_27 : decode cX13_cancels 27 = .ok (.invokevirtual 104, 3) := by decide +kernel
theorem dX13_cancels_30 : decode cX13_cancels 30 = .ok (.aload_n 0, 1) := by decide +kernel
theorem dX13_cancels_31 : decode cX13_cancels 31 = .ok (.iload_n 2, 1) := by decide +kernel
theorem dX13_cancels_32 : decode cX13_cancels 32 = .ok (.invokevirtual 60, 3) := by decide +kernel
theorem dX13_cancels_35 : decode cX13_cancels 35 = .ok (.ireturn, 1) := by decide +kernel
theorem dX13_cancelPrompt_0 : decode cX13_cancelPrompt 0 = .ok (.aload_n 0, 1) := by decide +kernel
theorem dX13_cancelPrompt_1 : decode cX13_cancelPrompt 1 = .ok (.invokevirtual 63, 3) := by decide +kernel
theorem dX13_cancelPrompt_4 : decode cX13_cancelPrompt 4 = .ok (.aload_n 0, 1) := by decide +kernel
theorem dX13_cancelPrompt_5 : decode cX13_cancelPrompt 5 = .ok (.aload_n 0, 1) := by decide +kernel
theorem dX13_cancelPrompt_6 : decode cX13_cancelPrompt 6 = .ok (.iload_n 1, 1) := by decide +kernel
theorem dX13_cancelPrompt_7 : decode cX13_cancelPrompt 7 = .ok (.invokevirtual 108, 3) := by decide +kernel
theorem dX13_cancelPrompt_10 : decode cX13_cancelPrompt 10 = .ok (.invokevirtual 74, 3) := by decide +kernel
theorem dX13_cancelPrompt_13 : decode cX13_cancelPrompt 13 = .ok (.ireturn, 1) := by decide +kernel
theorem dX13_passesHour_0 : decode cX13_passesHour 0 = .ok (.aload_n 0, 1) := by decide +kernel
theorem dX13_passesHour_1 : decode cX13_passesHour 1 = .ok (.getfield 7, 3) := by decide +kernel
theorem dX13_passesHour_4 : decode cX13_passesHour 4 = .ok (.iconst 0, 1) := by decide +kernel
theorem dX13_passesHour_5 : decode cX13_passesHour 5 = .ok (.dup2, 1) := by decide +kernel
theorem dX13_passesHour_6 : decode cX13_passesHour 6 = .ok (.iaload, 1) := by decide +kernel
theorem dX13_passesHour_7 : decode cX13_passesHour 7 = .ok (.iconst 1, 1) := by decide +kernel
theorem dX13_passesHour_8 : decode cX13_passesHour 8 = .ok (.iadd, 1) := by decide +kernel
theorem dX13_passesHour_9 : decode cX13_passesHour 9 = .ok (.iastore, 1) := by decide +kernel
theorem dX13_passesHour_10 : decode cX13_passesHour 10 = .ok (.iconst 0, 1) := by decide +kernel
theorem dX13_passesHour_11 : decode cX13_passesHour 11 = .ok (.istore_n 1, 1) := by decide +kernel
theorem dX13_passesHour_12 : decode cX13_passesHour 12 = .ok (.iconst 0, 1) := by decide +kernel
theorem dX13_passesHour_13 : decode cX13_passesHour 13 = .ok (.istore_n 2, 1) := by decide +kernel
theorem dX13_passesHour_14 : decode cX13_passesHour 14 = .ok (.iload_n 2, 1) := by decide +kernel
theorem dX13_passesHour_15 : decode cX13_passesHour 15 = .ok (.aload_n 0, 1) := by decide +kernel
theorem dX13_passesHour_16 : decode cX13_passesHour 16 = .ok (.getfield 7, 3) := by decide +kernel
theorem dX13_passesHour_19 : decode cX13_passesHour 19 = .ok (.iconst 4, 1) := by decide +kernel
theorem dX13_passesHour_20 : decode cX13_passesHour 20 = .ok (.iaload, 1) := by decide +kernel
theorem dX13_passesHour_21 : decode cX13_passesHour 21 = .ok (.if_icmp .ge 108, 3) := by decide +kernel
theorem dX13_passesHour_24 : decode cX13_passesHour 24 = .ok (.aload_n 0, 1) := by decide +kernel
theorem dX13_passesHour_25 : decode cX13_passesHour 25 = .ok (.getfield 7, 3) := by decide +kernel
theorem dX13_passesHour_28 : decode cX13_passesHour 28 = .ok (.iconst 0, 1) := by decide +kernel
theorem dX13_passesHour_29 : decode cX13_passesHour 29 = .ok (.iaload, 1) := by decide +kernel
theorem dX13_passesHour_30 : decode cX13_passesHour 30 = .ok (.aload_n 0, 1) := by decide +kernel
theorem dX13_passesHour_31 : decode cX13_passesHour 31 = .ok (.getfield 7, 3) := by decide +kernel
theorem dX13_passesHour_34 : decode cX13_passesHour 34 = .ok (.sipush 187, 3) := by decide +kernel
theorem dX13_passesHour_37 : decode cX13_passesHour 37 = .ok (.iload_n 2, 1) := by decide +kernel
theorem dX13_passesHour_38 : decode cX13_passesHour 38 = .ok (.iadd, 1) := by decide +kernel
theorem dX13_passesHour_39 : decode cX13_passesHour 39 = .ok (.iaload, 1) := by decide +kernel
theorem dX13_passesHour_40 : decode cX13_passesHour 40 = .ok (.isub, 1) := by decide +kernel
theorem dX13_passesHour_41 : decode cX13_passesHour 41 = .ok (.aload_n 0, 1) := by decide +kernel
theorem dX13_passesHour_42 : decode cX13_passesHour 42 = .ok (.getfield 7, 3) := by decide +kernel
theorem dX13_passesHour_45 : decode cX13_passesHour 45 = .ok (.sipush 175, 3) := by decide +kernel
theorem dX13_passesHour_48 : decode cX13_passesHour 48 = .ok (.iload_n 2, 1) := by decide +kernel
theorem dX13_passesHour_49 : decode cX13_passesHour 49 = .ok (.iadd, 1) := by decide +kernel
theorem dX13_passesHour_50 : decode cX13_passesHour 50 = .ok (.iaload, 1) := by decide +kernel
theorem dX13_passesHour_51 : decode cX13_passesHour 51 = .ok (.if_icmp .ne 72, 3) := by decide +kernel
theorem dX13_passesHour_54 : decode cX13_passesHour 54 = .ok (.aload_n 0, 1) := by decide +kernel
theorem dX13_passesHour_55 : decode cX13_passesHour 55 = .ok (.aload_n 0, 1) := by decide +kernel
theorem dX13_passesHour_56 : decode cX13_passesHour 56 = .ok (.getfield 7, 3) := by decide +kernel
theorem dX13_passesHour_59 : decode cX13_passesHour 59 = .ok (.sipush 157, 3) := by decide +kernel
theorem dX13_passesHour_62 : decode cX13_passesHour 62 = .ok (.iload_n 2, 1) := by decide +kernel
theorem dX13_passesHour_63 : decode cX13_passesHour 63 = .ok (.iadd, 1) := by decide +kernel
theorem dX13_passesHour_64 : decode cX13_passesHour 64 = .ok (.iaload, 1) := by decide +kernel
theorem dX13_passesHour_65 : decode cX13_passesHour 65 = .ok (.aload_n 0, 1) := by decide +kernel
theorem dX13_passesHour_66 : decode cX13_passesHour 66 = .ok (.getfield 7, 3) := by decide +kernel
theorem dX13_passesHour_69 : decode cX13_passesHour 69 = .ok (.sipush 163, 3) := by decide +kernel
theorem dX13_passesHour_72 : decode cX13_passesHour 72 = .ok (.iload_n 2, 1) := by decide +kernel
theorem dX13_passesHour_73 : decode cX13_passesHour 73 = .ok (.iadd, 1) := by decide +kernel
theorem dX13_passesHour_74 : decode cX13_passesHour 74 = .ok (.iaload, 1) := by decide +kernel
theorem dX13_passesHour_75 : decode cX13_passesHour 75 = .ok (.aload_n 0, 1) := by decide +kernel
theorem dX13_passesHour_76 : decode cX13_passesHour 76 = .ok (.getfield 7, 3) := by decide +kernel
theorem dX13_passesHour_79 : decode cX13_passesHour 79 = .ok (.sipush 169, 3) := by decide +kernel
theorem dX13_passesHour_82 : decode cX13_passesHour 82 = .ok (.iload_n 2, 1) := by decide +kernel
theorem dX13_passesHour_83 : decode cX13_passesHour 83 = .ok (.iadd, 1) := by decide +kernel
theorem dX13_passesHour_84 : decode cX13_passesHour 84 = .ok (.iaload, 1) := by decide +kernel
theorem dX13_passesHour_85 : decode cX13_passesHour 85 = .ok (.iconst 0, 1) := by decide +kernel
theorem dX13_passesHour_86 : decode cX13_passesHour 86 = .ok (.invokevirtual 84, 3) := by decide +kernel
theorem dX13_passesHour_89 : decode cX13_passesHour 89 = .ok (.istore_n 3, 1) := by decide +kernel
theorem dX13_passesHour_90 : decode cX13_passesHour 90 = .ok (.aload_n 0, 1) := by decide +kernel
theorem dX13_passesHour_91 : decode cX13_passesHour 91 = .ok (.getfield 7, 3) := by decide +kernel
theorem dX13_passesHour_94 : decode cX13_passesHour 94 = .ok (.sipush 187, 3) := by decide +kernel
theorem dX13_passesHour_97 : decode cX13_passesHour 97 = .ok (.iload_n 2, 1) := by decide +kernel
theorem dX13_passesHour_98 : decode cX13_passesHour 98 = .ok (.iadd, 1) := by decide +kernel
theorem dX13_passesHour_99 : decode cX13_passesHour 99 = .ok (.aload_n 0, 1) := by decide +kernel
theorem dX13_passesHour_100 : decode cX13_passesHour 100 = .ok (.getfield 7, 3) := by decide +kernel
theorem dX13_passesHour_103 : decode cX13_passesHour 103 = .ok (.iconst 0, 1) := by decide +kernel
theorem dX13_passesHour_104 : decode cX13_passesHour 104 = .ok (.iaload, 1) := by decide +kernel
theorem dX13_passesHour_105 : decode cX13_passesHour 105 = .ok (.iastore, 1) := by decide +kernel
theorem dX13_passesHour_106 : decode cX13_passesHour 106 = .ok (.aload_n 0, 1) := by decide +kernel
theorem dX13_passesHour_107 : decode cX13_passesHour 107 = .ok (.getfield 7, 3) := by decide +kernel
theorem dX13_passesHour_110 : decode cX13_passesHour 110 = .ok (.sipush 181, 3) := by decide +kernel
theorem dX13_passesHour_113 : decode cX13_passesHour 113 = .ok (.iload_n 2, 1) := by decide +kernel
theorem dX13_passesHour_114 : decode cX13_passesHour 114 = .ok (.iadd, 1) := by decide +kernel
theorem dX13_passesHour_115 : decode cX13_passesHour 115 = .ok (.dup2, 1) := by decide +kernel
theorem dX13_passesHour_116 : decode cX13_passesHour 116 = .ok (.iaload, 1) := by decide +kernel
theorem dX13_passesHour_117 : decode cX13_passesHour 117 = .ok (.iconst 1, 1) := by decide +kernel
theorem dX13_passesHour_118 : decode cX13_passesHour 118 = .ok (.isub, 1) := by decide +kernel
theorem dX13_passesHour_119 : decode cX13_passesHour 119 = .ok (.iastore, 1) := by decide +kernel
theorem dX13_passesHour_120 : decode cX13_passesHour 120 = .ok (.iinc 1 1, 3) := by decide +kernel
theorem dX13_passesHour_123 : decode cX13_passesHour 123 = .ok (.iinc 2 1, 3) := by decide +kernel
theorem dX13_passesHour_126 : decode cX13_passesHour 126 = .ok (.goto (-112), 3) := by decide +kernel
theorem dX13_passesHour_129 : decode cX13_passesHour 129 = .ok (.iconst 5, 1) := by decide +kernel
theorem dX13_passesHour_130 : decode cX13_passesHour 130 = .ok (.istore_n 2, 1) := by decide +kernel
theorem dX13_passesHour_131 : decode cX13_passesHour 131 = .ok (.iload_n 2, 1) := by decide +kernel
theorem dX13_passesHour_132 : decode cX13_passesHour 132 = .ok (.ifCond .lt 35, 3) := by decide +kernel
theorem dX13_passesHour_135 : decode cX13_passesHour 135 = .ok (.aload_n 0, 1) := by decide +kernel
theorem dX13_passesHour_136 : decode cX13_passesHour 136 = .ok (.iload_n 2, 1) := by decide +kernel
theorem dX13_passesHour_137 : decode cX13_passesHour 137 = .ok (.invokevirtual 101, 3) := by decide +kernel
theorem dX13_passesHour_140 : decode cX13_passesHour 140 = .ok (.ifCond .eq 21, 3) := by decide +kernel
theorem dX13_passesHour_143 : decode cX13_passesHour 143 = .ok (.aload_n 0, 1) := by decide +kernel
theorem dX13_passesHour_144 : decode cX13_passesHour 144 = .ok (.getfield 7, 3) := by decide +kernel
theorem dX13_passesHour_147 : decode cX13_passesHour 147 = .ok (.sipush 181, 3) := by decide +kernel
theorem dX13_passesHour_150 : decode cX13_passesHour 150 = .ok (.iload_n 2, 1) := by decide +kernel
theorem dX13_passesHour_151 : decode cX13_passesHour 151 = .ok (.iadd, 1) := by decide +kernel
theorem dX13_passesHour_152 : decode cX13_passesHour 152 = .ok (.iaload, 1) := by decide +kernel
theorem dX13_passesHour_153 : decode cX13_passesHour 153 = .ok (.ifCond .ne 8, 3) := by decide +kernel
theorem dX13_passesHour_156 : decode cX13_passesHour 156 = .ok (.aload_n 0, 1) := by decide +kernel
theorem dX13_passesHour_157 : decode cX13_passesHour 157 = .ok (.iload_n 2, 1) := by decide +kernel
theorem dX13_passesHour_158 : decode cX13_passesHour 158 = .ok (.invokevirtual 104, 3) := by decide +kernel
theorem dX13_passesHour_161 : decode cX13_passesHour 161 = .ok (.iinc 2 (-1), 3) := by decide +kernel
theorem dX13_passesHour_164 : decode cX13_passesHour 164 = .ok (.goto (-33), 3) := by decide +kernel
theorem dX13_passesHour_167 : decode cX13_passesHour 167 = .ok (.iload_n 1, 1) := by decide +kernel
theorem dX13_passesHour_168 : decode cX13_passesHour 168 = .ok (.ireturn, 1) := by decide +kernel
theorem dX13_passes_0 : decode cX13_passes 0 = .ok (.iload_n 1, 1) := by decide +kernel
theorem dX13_passes_1 : decode cX13_passes 1 = .ok (.iconst 1, 1) := by decide +kernel
theorem dX13_passes_2 : decode cX13_passes 2 = .ok (.bipush 24, 2) := by decide +kernel
theorem dX13_passes_4 : decode cX13_passes 4 = .ok (.invokestatic 49, 3) := by decide +kernel
theorem dX13_passes_7 : decode cX13_passes 7 = .ok (.ifCond .ne 9, 3) := by decide +kernel
theorem dX13_passes_10 : decode cX13_passes 10 = .ok (.aload_n 0, 1) := by decide +kernel
theorem dX13_passes_11 : decode cX13_passes 11 = .ok (.iconst 1, 1) := by decide +kernel
theorem dX13_passes_12 : decode cX13_passes 12 = .ok (.invokevirtual 57, 3) := by decide +kernel
theorem dX13_passes_15 : decode cX13_passes 15 = .ok (.ireturn, 1) := by decide +kernel
theorem dX13_passes_16 : decode cX13_passes 16 = .ok (.iconst 0, 1) := by decide +kernel
theorem dX13_passes_17 : decode cX13_passes 17 = .ok (.istore_n 2, 1) := by decide +kernel
theorem dX13_passes_18 : decode cX13_passes 18 = .ok (.iconst 0, 1) := by decide +kernel
theorem dX13_passes_19 : decode cX13_passes 19 = .ok (.istore_n 3, 1) := by decide +kernel
theorem dX13_passes_20 : decode cX13_passes 20 = .ok (.iload_n 3, 1) := by decide +kernel
theorem dX13_passes_21 : decode cX13_passes 21 = .ok (.iload_n 1, 1) := by decide +kernel
theorem dX13_passes_22 : decode cX13_passes 22 = .ok (.if_icmp .ge 16, 3) := by decide +kernel
theorem dX13_passes_25 : decode cX13_passes 25 = .ok (.iload_n 2, 1) := by decide +kernel
theorem dX13_passes_26 : decode cX13_passes 26 = .ok (.aload_n 0, 1) := by decide +kernel
theorem dX13_passes_27 : decode cX13_passes 27 = .ok (.invokevirtual 111, 3) := by decide +kernel
theorem dX13_passes_30 : decode cX13_passes 30 = .ok (.iadd, 1) := by decide +kernel
theorem dX13_passes_31 : decode cX13_passes 31 = .ok (.istore_n 2, 1) := by decide +kernel
theorem dX13_passes_32 : decode cX13_passes 32 = .ok (.iinc 3 1, 3) := by decide +kernel
theorem dX13_passes_35 : decode cX13_passes 35 = .ok (.goto (-15), 3) := by decide +kernel
theorem dX13_passes_38 : decode cX13_passes 38 = .ok (.aload_n 0, 1) := by decide +kernel
theorem dX13_passes_39 : decode cX13_passes 39 = .ok (.iload_n 2, 1) := by decide +kernel
theorem dX13_passes_40 : decode cX13_passes 40 = .ok (.invokevirtual 60, 3) := by decide +kernel
theorem dX13_passes_43 : decode cX13_passes 43 = .ok (.ireturn, 1) := by decide +kernel
theorem dX13_passHours_0 : decode cX13_passHours 0 = .ok (.aload_n 0, 1) := by decide +kernel
theorem dX13_passHours_1 : decode cX13_passHours 1 = .ok (.invokevirtual 63, 3) := by decide +kernel
theorem dX13_passHours_4 : decode cX13_passHours 4 = .ok (.aload_n 0, 1) := by decide +kernel
theorem dX13_passHours_5 : decode cX13_passHours 5 = .ok (.aload_n 0, 1) := by decide +kernel
theorem dX13_passHours_6 : decode cX13_passHours 6 = .ok (.iload_n 1, 1) := by decide +kernel
theorem dX13_passHours_7 : decode cX13_passHours 7 = .ok (.invokevirtual 115, 3) := by decide +kernel
theorem dX13_passHours_10 : decode cX13_passHours 10 = .ok (.invokevirtual 74, 3) := by decide +kernel
theorem dX13_passHours_13 : decode cX13_passHours 13 = .ok (.ireturn, 1) := by decide +kernel
theorem dX13_costumes_0 : decode cX13_costumes 0 = .ok (.iconst 0, 1) := by decide +kernel
theorem dX13_costumes_1 : decode cX13_costumes 1 = .ok (.istore_n 1, 1) := by decide +kernel
theorem dX13_costumes_2 : decode cX13_costumes 2 = .ok (.iconst 0, 1) := by decide +kernel
theorem dX13_costumes_3 : decode cX13_costumes 3 = .ok (.istore_n 2, 1) := by decide +kernel
theorem dX13_costumes_4 : decode cX13_costumes 4 = .ok (.iload_n 2, 1) := by decide +kernel
theorem dX13_costumes_5 : decode cX13_costumes 5 = .ok (.aload_n 0, 1) := by decide +kernel
theorem dX13_costumes_6 : decode cX13_costumes 6 = .ok (.getfield 7, 3) := by decide +kernel
theorem dX13_costumes_9 : decode cX13_costumes 9 = .ok (.iconst 5, 1) := by decide +kernel
theorem dX13_costumes_10 : decode cX13_costumes 10 = .ok (.iaload, 1) := by decide +kernel
theorem dX13_costumes_11 : decode cX13_costumes 11 = .ok (.if_icmp .ge 22, 3) := by decide +kernel
theorem dX13_costumes_14 : decode cX13_costumes 14 = .ok (.iload_n 1, 1) := by decide +kernel
theorem dX13_costumes_15 : decode cX13_costumes 15 = .ok (.aload_n 0, 1) := by decide +kernel
theorem dX13_costumes_16 : decode cX13_costumes 16 = .ok (.getfield 7, 3) := by decide +kernel
theorem dX13_costumes_19 : decode cX13_costumes 19 = .ok (.sipush 193, 3) := by decide +kernel
theorem dX13_costumes_22 : decode cX13_costumes 22 = .ok (.iload_n 2, 1) := by decide +kernel
theorem dX13_costumes_23 : decode cX13_costumes 23 = .ok (.iadd, 1) := by decide +kernel
theorem dX13_costumes_24 : decode cX13_costumes 24 = .ok (.iaload, 1) := by decide +kernel
theorem dX13_costumes_25 : decode cX13_costumes 25 = .ok (.iadd, 1) := by decide +kernel
theorem dX13_costumes_26 : decode cX13_costumes 26 = .ok (.istore_n 1, 1) := by decide +kernel
theorem dX13_costumes_27 : decode cX13_costumes 27 = .ok (.iinc 2 1, 3) := by decide +kernel
theorem dX13_costumes_30 : decode cX13_costumes 30 = .ok (.goto (-26), 3) := by decide +kernel
theorem dX13_costumes_33 : decode cX13_costumes 33 = .ok (.iload_n 1, 1) := by decide +kernel
theorem dX13_costumes_34 : decode cX13_costumes 34 = .ok (.ireturn, 1) := by decide +kernel
theorem dX13_costOfFirst_0 : decode cX13_costOfFirst 0 = .ok (.iconst 0, 1) := by decide +kernel
theorem dX13_costOfFirst_1 : decode cX13_costOfFirst 1 = .ok (.istore_n 2, 1) := by decide +kernel
theorem dX13_costOfFirst_2 : decode cX13_costOfFirst 2 = .ok (.iload_n 1, 1) := by decide +kernel
theorem dX13_costOfFirst_3 : decode cX13_costOfFirst 3 = .ok (.istore_n 3, 1) := by decide +kernel
theorem dX13_costOfFirst_4 : decode cX13_costOfFirst 4 = .ok (.iconst 0, 1) := by decide +kernel
theorem dX13_costOfFirst_5 : decode cX13_costOfFirst 5 = .ok (.istore 4, 2) := by decide +kernel
theorem dX13_costOfFirst_7 : decode cX13_costOfFirst 7 = .ok (.iload 4, 2) := by decide +kernel
theorem dX13_costOfFirst_9 : decode cX13_costOfFirst 9 = .ok (.aload_n 0, 1) := by decide +kernel
theorem dX13_costOfFirst_10 : decode cX13_costOfFirst 10 = .ok (.getfield 7, 3) := by decide +kernel
theorem dX13_costOfFirst_13 : decode cX13_costOfFirst 13 = .ok (.iconst 5, 1) := by decide +kernel
theorem dX13_costOfFirst_14 : decode cX13_costOfFirst 14 = .ok (.iaload, 1) := by decide +kernel
theorem dX13_costOfFirst_15 : decode cX13_costOfFirst 15 = .ok (.if_icmp .ge 63, 3) := by decide +kernel
theorem dX13_costOfFirst_18 : decode cX13_costOfFirst 18 = .ok (.iload_n 3, 1) := by decide +kernel
theorem dX13_costOfFirst_19 : decode cX13_costOfFirst 19 = .ok (.aload_n 0, 1) := by decide +kernel
theorem dX13_costOfFirst_20 : decode cX13_costOfFirst 20 = .ok (.getfield 7, 3) := by decide +kernel
theorem dX13_costOfFirst_23 : decode cX13_costOfFirst 23 = .ok (.sipush 193, 3) := by decide +kernel
theorem dX13_costOfFirst_26 : decode cX13_costOfFirst 26 = .ok (.iload 4, 2) := by decide +kernel
theorem dX13_costOfFirst_28 : decode cX13_costOfFirst 28 = .ok (.iadd, 1) := by decide +kernel
theorem dX13_costOfFirst_29 : decode cX13_costOfFirst 29 = .ok (.iaload, 1) := by decide +kernel
theorem dX13_costOfFirst_30 : decode cX13_costOfFirst 30 = .ok (.if_icmp .ge 7, 3) := by decide +kernel
theorem dX13_costOfFirst_33 : decode cX13_costOfFirst 33 = .ok (.iload_n 3, 1) := by decide +kernel
theorem dX13_costOfFirst_34 : decode cX13_costOfFirst 34 = .ok (.goto 14, 3) := by decide +kernel
theorem dX13_costOfFirst_37 : decode cX13_costOfFirst 37 = .ok (.aload_n 0, 1) := by decide +kernel
theorem dX13_costOfFirst_38 : decode cX13_costOfFirst 38 = .ok (.getfield 7, 3) := by decide +kernel
theorem dX13_costOfFirst_41 : decode cX13_costOfFirst 41 = .ok (.sipush 193, 3) := by decide +kernel
theorem dX13_costOfFirst_44 : decode cX13_costOfFirst 44 = .ok (.iload 4, 2) := by decide +kernel
theorem dX13_costOfFirst_46 : decode cX13_costOfFirst 46 = .ok (.iadd, 1) := by decide +kernel
theorem dX13_costOfFirst_47 : decode cX13_costOfFirst 47 = .ok (.iaload, 1) := by decide +kernel
theorem dX13_costOfFirst_48 : decode cX13_costOfFirst 48 = .ok (.istore 5, 2) := by decide +kernel
theorem dX13_costOfFirst_50 : decode cX13_costOfFirst 50 = .ok (.iload_n 2, 1) := by decide +kernel
theorem dX13_costOfFirst_51 : decode cX13_costOfFirst 51 = .ok (.iload 5, 2) := by decide +kernel
theorem dX13_costOfFirst_53 : decode cX13_costOfFirst 53 = .ok (.aload_n 0, 1) := by decide +kernel
theorem dX13_costOfFirst_54 : decode cX13_costOfFirst 54 = .ok (.getfield 7, 3) := by decide +kernel
theorem dX13_costOfFirst_57 : decode cX13_costOfFirst 57 = .ok (.sipush 201, 3) := by decide +kernel
theorem dX13_costOfFirst_60 : decode cX13_costOfFirst 60 = .ok (.iload 4, 2) := by decide +kernel
theorem dX13_costOfFirst_62 : decode cX13_costOfFirst 62 = .ok (.iadd, 1) := by decide +kernel
theorem dX13_costOfFirst_63 : decode cX13_costOfFirst 63 = .ok (.iaload, 1) := by decide +kernel
theorem dX13_costOfFirst_64 : decode cX13_costOfFirst 64 = .ok (.imul, 1) := by decide +kernel
theorem dX13_costOfFirst_65 : decode cX13_costOfFirst 65 = .ok (.iadd, 1) := by decide +kernel
theorem dX13_costOfFirst_66 : decode cX13_costOfFirst 66 = .ok (.istore_n 2, 1) := by decide +kernel
theorem dX13_costOfFirst_67 : decode cX13_costOfFirst 67 = .ok (.iload_n 3, 1) := by decide +kernel
theorem dX13_costOfFirst_68 : decode cX13_costOfFirst 68 = .ok (.iload 5, 2) := by decide +kernel
theorem dX13_costOfFirst_70 : decode cX13_costOfFirst 70 = .ok (.isub, 1) := by decide +kernel
theorem dX13_costOfFirst_71 : decode cX13_costOfFirst 71 = .ok (.istore_n 3, 1) := by decide +kernel
theorem dX13_costOfFirst_72 : decode cX13_costOfFirst 72 = .ok (.iinc 4 1, 3) := by decide +kernel
theorem dX13_costOfFirst_75 : decode cX13_costOfFirst 75 = .ok (.goto (-68), 3) := by decide +kernel
theorem dX13_costOfFirst_78 : decode cX13_costOfFirst 78 = .ok (.iload_n 2, 1) := by decide +kernel
theorem dX13_costOfFirst_79 : decode cX13_costOfFirst 79 = .ok (.ireturn, 1) := by decide +kernel
theorem dX13_buys_0 : decode cX13_buys 0 = .ok (.iload_n 1, 1) := by decide +kernel
theorem dX13_buys_1 : decode cX13_buys 1 = .ok (.iconst 1, 1) := by decide +kernel
theorem dX13_buys_2 : decode cX13_buys 2 = .ok (.bipush 20, 2) := by decide +kernel
theorem dX13_buys_4 : decode cX13_buys 4 = .ok (.invokestatic 49, 3) := by decide +kernel
theorem dX13_buys_7 : decode cX13_buys 7 = .ok (.ifCond .eq 13, 3) := by decide +kernel
theorem dX13_buys_10 : decode cX13_buys 10 = .ok (.iload_n 2, 1) := by decide +kernel
theorem dX13_buys_11 : decode cX13_buys 11 = .ok (.iconst 1, 1) := by decide +kernel
theorem dX13_buys_12 : decode cX13_buys 12 = .ok (.bipush 40, 2) := by decide +kernel
theorem dX13_buys_14 : decode cX13_buys 14 = .ok (.invokestatic 49, 3) := by decide +kernel
theorem dX13_buys_17 : decode cX13_buys 17 = .ok (.ifCond .ne 9, 3) := by decide +kernel
theorem dX13_buys_20 : decode cX13_buys 20 = .ok (.aload_n 0, 1) := by decide +kernel
theorem dX13_buys_21 : decode cX13_buys 21 = .ok (.iconst 1, 1) := by decide +kernel
theorem dX13_buys_22 : decode cX13_buys 22 = .ok (.invokevirtual 57, 3) := by decide +kernel
theorem dX13_buys_25 : decode cX13_buys 25 = .ok (.ireturn, 1) := by decide +kernel
theorem dX13_buys_26 : decode cX13_buys 26 = .ok (.aload_n 0, 1) := by decide +kernel
theorem dX13_buys_27 : decode cX13_buys 27 = .ok (.getfield 7, 3) := by decide +kernel
theorem dX13_buys_30 : decode cX13_buys 30 = .ok (.iconst 5, 1) := by decide +kernel
theorem dX13_buys_31 : decode cX13_buys 31 = .ok (.iaload, 1) := by decide +kernel
theorem dX13_buys_32 : decode cX13_buys 32 = .ok (.istore_n 3, 1) := by decide +kernel
theorem dX13_buys_33 : decode cX13_buys 33 = .ok (.iload_n 3, 1) := by decide +kernel
theorem dX13_buys_34 : decode cX13_buys 34 = .ok (.bipush 8, 2) := by decide +kernel
theorem dX13_buys_36 : decode cX13_buys 36 = .ok (.if_icmp .ne 9, 3) := by decide +kernel
theorem dX13_buys_39 : decode cX13_buys 39 = .ok (.aload_n 0, 1) := by decide +kernel
theorem dX13_buys_40 : decode cX13_buys 40 = .ok (.iconst 2, 1) := by decide +kernel
theorem dX13_buys_41 : decode cX13_buys 41 = .ok (.invokevirtual 57, 3) := by decide +kernel
theorem dX13_buys_44 : decode cX13_buys 44 = .ok (.ireturn, 1) := by decide +kernel
theorem dX13_buys_45 : decode cX13_buys 45 = .ok (.aload_n 0, 1) := by decide +kernel
theorem dX13_buys_46 : decode cX13_buys 46 = .ok (.iconst 0, 1) := by decide +kernel
theorem dX13_buys_47 : decode cX13_buys 47 = .ok (.invokevirtual 53, 3) := by decide +kernel
theorem dX13_buys_50 : decode cX13_buys 50 = .ok (.iload_n 1, 1) := by decide +kernel
theorem dX13_buys_51 : decode cX13_buys 51 = .ok (.iload_n 2, 1) := by decide +kernel
theorem dX13_buys_52 : decode cX13_buys 52 = .ok (.imul, 1) := by decide +kernel
theorem dX13_buys_53 : decode cX13_buys 53 = .ok (.if_icmp .ge 9, 3) := by decide +kernel
theorem dX13_buys_56 : decode cX13_buys 56 = .ok (.aload_n 0, 1) := by decide +kernel
theorem dX13_buys_57 : decode cX13_buys 57 = .ok (.iconst 3, 1) := by decide +kernel
theorem dX13_buys_58 : decode cX13_buys 58 = .ok (.invokevirtual 57, 3) := by decide +kernel
theorem dX13_buys_61 : decode cX13_buys 61 = .ok (.ireturn, 1) := by decide +kernel
theorem dX13_buys_62 : decode cX13_buys 62 = .ok (.aload_n 0, 1) := by decide +kernel
theorem dX13_buys_63 : decode cX13_buys 63 = .ok (.getfield 7, 3) := by decide +kernel
theorem dX13_buys_66 : decode cX13_buys 66 = .ok (.sipush 193, 3) := by decide +kernel
theorem dX13_buys_69 : decode cX13_buys 69 = .ok (.iload_n 3, 1) := by decide +kernel
theorem dX13_buys_70 : decode cX13_buys 70 = .ok (.iadd, 1) := by decide +kernel
theorem dX13_buys_71 : decode cX13_buys 71 = .ok (.iload_n 1, 1) := by decide +kernel
theorem dX13_buys_72 : decode cX13_buys 72 = .ok (.iastore, 1) := by decide +kernel
theorem dX13_buys_73 : decode cX13_buys 73 = .ok (.aload_n 0, 1) := by decide +kernel
theorem dX13_buys_74 : decode cX13_buys 74 = .ok (.getfield 7, 3) := by decide +kernel
theorem dX13_buys_77 : decode cX13_buys 77 = .ok (.sipush 201, 3) := by decide +kernel
theorem dX13_buys_80 : decode cX13_buys 80 = .ok (.iload_n 3, 1) := by decide +kernel
theorem dX13_buys_81 : decode cX13_buys 81 = .ok (.iadd, 1) := by decide +kernel
theorem dX13_buys_82 : decode cX13_buys 82 = .ok (.iload_n 2, 1) := by decide +kernel
theorem dX13_buys_83 : decode cX13_buys 83 = .ok (.iastore, 1) := by decide +kernel
theorem dX13_buys_84 : decode cX13_buys 84 = .ok (.aload_n 0, 1) := by decide +kernel
theorem dX13_buys_85 : decode cX13_buys 85 = .ok (.getfield 7, 3) := by decide +kernel
theorem dX13_buys_88 : decode cX13_buys 88 = .ok (.iconst 5, 1) := by decide +kernel
theorem dX13_buys_89 : decode cX13_buys 89 = .ok (.dup2, 1) := by decide +kernel
theorem dX13_buys_90 : decode cX13_buys 90 = .ok (.iaload, 1) := by decide +kernel
theorem dX13_buys_91 : decode cX13_buys 91 = .ok (.iconst 1, 1) := by decide +kernel
theorem dX13_buys_92 : decode cX13_buys 92 = .ok (.iadd, 1) := by decide +kernel
theorem dX13_buys_93 : decode cX13_buys 93 = .ok (.iastore, 1) := by decide +kernel
theorem dX13_buys_94 : decode cX13_buys 94 = .ok (.aload_n 0, 1) := by decide +kernel
theorem dX13_buys_95 : decode cX13_buys 95 = .ok (.iconst 1, 1) := by decide +kernel
theorem dX13_buys_96 : decode cX13_buys 96 = .ok (.iconst 0, 1) := by decide +kernel
theorem dX13_buys_97 : decode cX13_buys 97 = .ok (.iload_n 1, 1) := by decide +kernel
theorem dX13_buys_98 : decode cX13_buys 98 = .ok (.iload_n 2, 1) := by decide +kernel
theorem dX13_buys_99 : decode cX13_buys 99 = .ok (.imul, 1) := by decide +kernel
theorem dX13_buys_100 : decode cX13_buys 100 = .ok (.iconst 0, 1) := by decide +kernel
theorem dX13_buys_101 : decode cX13_buys 101 = .ok (.invokevirtual 84, 3) := by decide +kernel
theorem dX13_buys_104 : decode cX13_buys 104 = .ok (.istore 4, 2) := by decide +kernel
theorem dX13_buys_106 : decode cX13_buys 106 = .ok (.aload_n 0, 1) := by decide +kernel
theorem dX13_buys_107 : decode cX13_buys 107 = .ok (.iload_n 1, 1) := by decide +kernel
theorem dX13_buys_108 : decode cX13_buys 108 = .ok (.iload_n 2, 1) := by decide +kernel
theorem dX13_buys_109 : decode cX13_buys 109 = .ok (.imul, 1) := by decide +kernel
theorem dX13_buys_110 : decode cX13_buys 110 = .ok (.invokevirtual 60, 3) := by decide +kernel
theorem dX13_buys_113 : decode cX13_buys 113 = .ok (.ireturn, 1) := by decide +kernel
theorem dX13_buy_0 : decode cX13_buy 0 = .ok (.aload_n 0, 1) := by decide +kernel
theorem dX13_buy_1 : decode cX13_buy 1 = .ok (.invokevirtual 63, 3) := by decide +kernel
theorem dX13_buy_4 : decode cX13_buy 4 = .ok (.aload_n 0, 1) := by decide +kernel
theorem dX13_buy_5 : decode cX13_buy 5 = .ok (.aload_n 0, 1) := by decide +kernel
theorem dX13_buy_6 : decode cX13_buy 6 = .ok (.iload_n 1, 1) := by decide +kernel
theorem dX13_buy_7 : decode cX13_buy 7 = .ok (.iload_n 2, 1) := by decide +kernel
theorem dX13_buy_8 : decode cX13_buy 8 = .ok (.invokevirtual 118, 3) := by decide +kernel
theorem dX13_buy_11 : decode cX13_buy 11 = .ok (.invokevirtual 74, 3) := by decide +kernel
theorem dX13_buy_14 : decode cX13_buy 14 = .ok (.ireturn, 1) := by decide +kernel
theorem dX13_dropsLot_0 : decode cX13_dropsLot 0 = .ok (.sipush 193, 3) := by decide +kernel
theorem dX13_dropsLot_3 : decode cX13_dropsLot 3 = .ok (.istore_n 1, 1) := by decide +kernel
theorem dX13_dropsLot_4 : decode cX13_dropsLot 4 = .ok (.iload_n 1, 1) := by decide +kernel
theorem dX13_dropsLot_5 : decode cX13_dropsLot 5 = .ok (.sipush 209, 3) := by decide +kernel
theorem dX13_dropsLot_8 : decode cX13_dropsLot 8 = .ok (.if_icmp .ge 41, 3) := by decide +kernel
theorem dX13_dropsLot_11 : decode cX13_dropsLot 11 = .ok (.iconst 0, 1) := by decide +kernel
theorem dX13_dropsLot_12 : decode cX13_dropsLot 12 = .ok (.istore_n 2, 1) := by decide +kernel
theorem dX13_dropsLot_13 : decode cX13_dropsLot 13 = .ok (.iload_n 2, 1) := by decide +kernel
theorem dX13_dropsLot_14 : decode cX13_dropsLot 14 = .ok (.bipush 7, 2) := by decide +kernel
theorem dX13_dropsLot_16 : decode cX13_dropsLot 16 = .ok (.if_icmp .ge 27, 3) := by decide +kernel
theorem dX13_dropsLot_19 : decode cX13_dropsLot 19 = .ok (.aload_n 0, 1) := by decide +kernel
theorem dX13_dropsLot_20 : decode cX13_dropsLot 20 = .ok (.getfield 7, 3) := by decide +kernel
theorem dX13_dropsLot_23 : decode cX13_dropsLot 23 = .ok (.iload_n 1, 1) := by decide +kernel
theorem dX13_dropsLot_24 : decode cX13_dropsLot 24 = .ok (.iload_n 2, 1) := by decide +kernel
theorem dX13_dropsLot_25 : decode cX13_dropsLot 25 = .ok (.iadd, 1) := by decide +kernel
theorem dX13_dropsLot_26 : decode cX13_dropsLot 26 = .ok (.aload_n 0, 1) := by decide +kernel
theorem dX13_dropsLot_27 : decode cX13_dropsLot 27 = .ok (.getfield 7, 3) := by decide +kernel
theorem dX13_dropsLot_30 : decode cX13_dropsLot 30 = .ok (.iload_n 1, 1) := by decide +kernel
theorem dX13_dropsLot_31 : decode cX13_dropsLot 31 = .ok (.iload_n 2, 1) := by decide +kernel
theorem dX13_dropsLot_32 : decode cX13_dropsLot 32 = .ok (.iadd, 1) := by decide +kernel
theorem dX13_dropsLot_33 : decode cX13_dropsLot 33 = .ok (.iconst 1, 1) := by decide +kernel
theorem dX13_dropsLot_34 : decode cX13_dropsLot 34 = .ok (.iadd, 1) := by decide +kernel
theorem dX13_dropsLot_35 : decode cX13_dropsLot 35 = .ok (.iaload, 1) := by decide +kernel
theorem dX13_dropsLot_36 : decode cX13_dropsLot 36 = .ok (.iastore, 1) := by decide +kernel
theorem dX13_dropsLot_37 : decode cX13_dropsLot 37 = .ok (.iinc 2 1, 3) := by decide +kernel
theorem dX13_dropsLot_40 : decode cX13_dropsLot 40 = .ok (.goto (-27), 3) := by decide +kernel
theorem dX13_dropsLot_43 : decode cX13_dropsLot 43 = .ok (.iinc 1 8, 3) := by decide +kernel
theorem dX13_dropsLot_46 : decode cX13_dropsLot 46 = .ok (.goto (-42), 3) := by decide +kernel
theorem dX13_dropsLot_49 : decode cX13_dropsLot 49 = .ok (.aload_n 0, 1) := by decide +kernel
theorem dX13_dropsLot_50 : decode cX13_dropsLot 50 = .ok (.getfield 7, 3) := by decide +kernel
theorem dX13_dropsLot_53 : decode cX13_dropsLot 53 = .ok (.iconst 5, 1) := by decide +kernel
theorem dX13_dropsLot_54 : decode cX13_dropsLot 54 = .ok (.dup2, 1) := by decide +kernel
theorem dX13_dropsLot_55 : decode cX13_dropsLot 55 = .ok (.iaload, 1) := by decide +kernel
theorem dX13_dropsLot_56 : decode cX13_dropsLot 56 = .ok (.iconst 1, 1) := by decide +kernel
theorem dX13_dropsLot_57 : decode cX13_dropsLot 57 = .ok (.isub, 1) := by decide +kernel
theorem dX13_dropsLot_58 : decode cX13_dropsLot 58 = .ok (.iastore, 1) := by decide +kernel
theorem dX13_dropsLot_59 : decode cX13_dropsLot 59 = .ok (.return_, 1) := by decide +kernel
theorem dX13_sells_0 : decode cX13_sells 0 = .ok (.iload_n 1, 1) := by decide +kernel
theorem dX13_sells_1 : decode cX13_sells 1 = .ok (.iconst 1, 1) := by decide +kernel
theorem dX13_sells_2 : decode cX13_sells 2 = .ok (.bipush 20, 2) := by decide +kernel
theorem dX13_sells_4 : decode cX13_sells 4 = .ok (.invokestatic 49, 3) := by decide +kernel
theorem dX13_sells_7 : decode cX13_sells 7 = .ok (.ifCond .eq 13, 3) := by decide +kernel
theorem dX13_sells_10 : decode cX13_sells 10 = .ok (.iload_n 2, 1) := by decide +kernel
theorem dX13_sells_11 : decode cX13_sells 11 = .ok (.iconst 1, 1) := by decide +kernel
theorem dX13_sells_12 : decode cX13_sells 12 = .ok (.bipush 40, 2) := by decide +kernel
theorem dX13_sells_14 : decode cX13_sells 14 = .ok (.invokestatic 49, 3) := by decide +kernel
theorem dX13_sells_17 : decode cX13_sells 17 = .ok (.ifCond .ne 9, 3) := by decide +kernel
theorem dX13_sells_20 : decode cX13_sells 20 = .ok (.aload_n 0, 1) := by decide +kernel
theorem dX13_sells_21 : decode cX13_sells 21 = .ok (.iconst 1, 1) := by decide +kernel
theorem dX13_sells_22 : decode cX13_sells 22 = .ok (.invokevirtual 57, 3) := by decide +kernel
theorem dX13_sells_25 : decode cX13_sells 25 = .ok (.ireturn, 1) := by decide +kernel
theorem dX13_sells_26 : decode cX13_sells 26 = .ok (.aload_n 0, 1) := by decide +kernel
theorem dX13_sells_27 : decode cX13_sells 27 = .ok (.invokevirtual 121, 3) := by decide +kernel
theorem dX13_sells_30 : decode cX13_sells 30 = .ok (.iload_n 1, 1) := by decide +kernel
theorem dX13_sells_31 : decode cX13_sells 31 = .ok (.if_icmp .ge 9, 3) := by decide +kernel
theorem dX13_sells_34 : decode cX13_sells 34 = .ok (.aload_n 0, 1) := by decide +kernel
theorem dX13_sells_35 : decode cX13_sells 35 = .ok (.iconst 2, 1) := by decide +kernel
theorem dX13_sells_36 : decode cX13_sells 36 = .ok (.invokevirtual 57, 3) := by decide +kernel
theorem dX13_sells_39 : decode cX13_sells 39 = .ok (.ireturn, 1) := by decide +kernel
theorem dX13_sells_40 : decode cX13_sells 40 = .ok (.aload_n 0, 1) := by decide +kernel
theorem dX13_sells_41 : decode cX13_sells 41 = .ok (.iload_n 1, 1) := by decide +kernel
theorem dX13_sells_42 : decode cX13_sells 42 = .ok (.invokevirtual 124, 3) := by decide +kernel
theorem dX13_sells_45 : decode cX13_sells 45 = .ok (.istore_n 3, 1) := by decide +kernel
theorem dX13_sells_46 : decode cX13_sells 46 = .ok (.iload_n 1, 1) := by decide +kernel
theorem dX13_sells_47 : decode cX13_sells 47 = .ok (.istore 4, 2) := by decide +kernel
theorem dX13_sells_49 : decode cX13_sells 49 = .ok (.iload 4, 2) := by decide +kernel
theorem dX13_sells_51 : decode cX13_sells 51 = .ok (.ifCond .le 69, 3) := by decide +kernel
theorem dX13_sells_54 : decode cX13_sells 54 = .ok (.iload 4, 2) := by decide +kernel
theorem dX13_sells_56 : decode cX13_sells 56 = .ok (.aload_n 0, 1) := by decide +kernel
theorem dX13_sells_57 : decode cX13_sells 57 = .ok (.getfield 7, 3) := by decide +kernel
theorem dX13_sells_60 : decode cX13_sells 60 = .ok (.sipush 193, 3) := by decide +kernel
theorem dX13_sells_63 : decode cX13_sells 63 = .ok (.iaload, 1) := by decide +kernel
theorem dX13_sells_64 : decode cX13_sells 64 = .ok (.if_icmp .ge 8, 3) := by decide +kernel
theorem dX13_sells_67 : decode cX13_sells 67 = .ok (.iload 4, 2) := by decide +kernel
theorem dX13_sells_69 : decode cX13_sells 69 = .ok (.goto 11, 3) := by decide +kernel
theorem dX13_sells_72 : decode cX13_sells 72 = .ok (.aload_n 0, 1) := by decide +kernel
theorem dX13_sells_73 : decode cX13_sells 73 = .ok (.getfield 7, 3) := by decide +kernel
theorem dX13_sells_76 : decode cX13_sells 76 = .ok (.sipush 193, 3) := by decide +kernel
theorem dX13_sells_79 : decode cX13_sells 79 = .ok (.iaload, 1) := by decide +kernel
theorem dX13_sells_80 : decode cX13_sells 80 = .ok (.istore 5, 2) := by decide +kernel
theorem dX13_sells_82 : decode cX13_sells 82 = .ok (.aload_n 0, 1) := by decide +kernel
theorem dX13_sells_83 : decode cX13_sells 83 = .ok (.getfield 7, 3) := by decide +kernel
theorem dX13_sells_86 : decode cX13_sells 86 = .ok (.sipush 193, 3) := by decide +kernel
theorem dX13_sells_89 : decode cX13_sells 89 = .ok (.dup2, 1) := by decide +kernel
theorem dX13_sells_90 : decode cX13_sells 90 = .ok (.iaload, 1) := by decide +kernel
theorem dX13_sells_91 : decode cX13_sells 91 = .ok (.iload 5, 2) := by decide +kernel
theorem dX13_sells_93 : decode cX13_sells 93 = .ok (.isub, 1) := by decide +kernel
theorem dX13_sells_94 : decode cX13_sells 94 = .ok (.iastore, 1) := by decide +kernel
theorem dX13_sells_95 : decode cX13_sells 95 = .ok (.iload 4, 2) := by decide +kernel
theorem dX13_sells_97 : decode cX13_sells 97 = .ok (.iload 5, 2) := by decide +kernel
theorem dX13_sells_99 : decode cX13_sells 99 = .ok (.isub, 1) := by decide +kernel
theorem dX13_sells_100 : decode cX13_sells 100 = .ok (.istore 4, 2) := by decide +kernel
theorem dX13_sells_102 : decode cX13_sells 102 = .ok (.aload_n 0, 1) := by decide +kernel
theorem dX13_sells_103 : decode cX13_sells 103 = .ok (.getfield 7, 3) := by decide +kernel
theorem dX13_sells_106 : decode cX13_sells 106 = .ok (.sipush 193, 3) := by decide +kernel
theorem dX13_sells_109 : decode cX13_sells 109 = .ok (.iaload, 1) := by decide +kernel
theorem dX13_sells_110 : decode cX13_sells 110 = .ok (.ifCond .ne 7, 3) := by decide +kernel
theorem dX13_sells_113 : decode cX13_sells 113 = .ok (.aload_n 0, 1) := by decide +kernel
theorem dX13_sells_114 : decode cX13_sells 114 = .ok (.invokevirtual 127, 3) := by decide +kernel
theorem dX13_sells_117 : decode cX13_sells 117 = .ok (.goto (-68), 3) := by decide +kernel
theorem dX13_sells_120 : decode cX13_sells 120 = .ok (.aload_n 0, 1) := by decide +kernel
theorem dX13_sells_121 : decode cX13_sells 121 = .ok (.iconst 0, 1) := by decide +kernel
theorem dX13_sells_122 : decode cX13_sells 122 = .ok (.iconst 4, 1) := by decide +kernel
theorem dX13_sells_123 : decode cX13_sells 123 = .ok (.iload_n 1, 1) := by decide +kernel
theorem dX13_sells_124 : decode cX13_sells 124 = .ok (.iload_n 2, 1) := by decide +kernel
theorem dX13_sells_125 : decode cX13_sells 125 = .ok (.imul, 1) := by decide +kernel
theorem dX13_sells_126 : decode cX13_sells 126 = .ok (.iconst 0, 1) := by decide +kernel
theorem dX13_sells_127 : decode cX13_sells 127 = .ok (.invokevirtual 84, 3) := by decide +kernel
theorem dX13_sells_130 : decode cX13_sells 130 = .ok (.istore 5, 2) := by decide +kernel
theorem dX13_sells_132 : decode cX13_sells 132 = .ok (.aload_n 0, 1) := by decide +kernel
theorem dX13_sells_133 : decode cX13_sells 133 = .ok (.iconst 5, 1) := by decide +kernel
theorem dX13_sells_134 : decode cX13_sells 134 = .ok (.iconst 1, 1) := by decide +kernel
theorem dX13_sells_135 : decode cX13_sells 135 = .ok (.iload_n 3, 1) := by decide +kernel
theorem dX13_sells_136 : decode cX13_sells 136 = .ok (.iconst 0, 1) := by decide +kernel
theorem dX13_sells_137 : decode cX13_sells 137 = .ok (.invokevirtual 84, 3) := by decide +kernel
theorem dX13_sells_140 : decode cX13_sells 140 = .ok (.istore 5, 2) := by decide +kernel
theorem dX13_sells_142 : decode cX13_sells 142 = .ok (.aload_n 0, 1) := by decide +kernel
theorem dX13_sells_143 : decode cX13_sells 143 = .ok (.iload_n 3, 1) := by decide +kernel
theorem dX13_sells_144 : decode cX13_sells 144 = .ok (.invokevirtual 60, 3) := by decide +kernel
theorem dX13_sells_147 : decode cX13_sells 147 = .ok (.ireturn, 1) := by decide +kernel
theorem dX13_sell_0 : decode cX13_sell 0 = .ok (.aload_n 0, 1) := by decide +kernel
theorem dX13_sell_1 : decode cX13_sell 1 = .ok (.invokevirtual 63, 3) := by decide +kernel
theorem dX13_sell_4 : decode cX13_sell 4 = .ok (.aload_n 0, 1) := by decide +kernel
theorem dX13_sell_5 : decode cX13_sell 5 = .ok (.aload_n 0, 1) := by decide +kernel
theorem dX13_sell_6 : decode cX13_sell 6 = .ok (.iload_n 1, 1) := by decide +kernel
theorem dX13_sell_7 : decode cX13_sell 7 = .ok (.iload_n 2, 1) := by decide +kernel
theorem dX13_sell_8 : decode cX13_sell 8 = .ok (.invokevirtual 130, 3) := by decide +kernel
theorem dX13_sell_11 : decode cX13_sell 11 = .ok (.invokevirtual 74, 3) := by decide +kernel
theorem dX13_sell_14 : decode cX13_sell 14 = .ok (.ireturn, 1) := by decide +kernel
theorem dX13_owed_0 : decode cX13_owed 0 = .ok (.iconst 0, 1) := by decide +kernel
theorem dX13_owed_1 : decode cX13_owed 1 = .ok (.istore_n 1, 1) := by decide +kernel
theorem dX13_owed_2 : decode cX13_owed 2 = .ok (.iconst 0, 1) := by decide +kernel
theorem dX13_owed_3 : decode cX13_owed 3 = .ok (.istore_n 2, 1) := by decide +kernel
theorem dX13_owed_4 : decode cX13_owed 4 = .ok (.iload_n 2, 1) := by decide +kernel
theorem dX13_owed_5 : decode cX13_owed 5 = .ok (.aload_n 0, 1) := by decide +kernel
theorem dX13_owed_6 : decode cX13_owed 6 = .ok (.getfield 7, 3) := by decide +kernel
theorem dX13_owed_9 : decode cX13_owed 9 = .ok (.bipush 6, 2) := by decide +kernel
theorem dX13_owed_11 : decode cX13_owed 11 = .ok (.iaload, 1) := by decide +kernel
theorem dX13_owed_12 : decode cX13_owed 12 = .ok (.if_icmp .ge 22, 3) := by decide +kernel
theorem dX13_owed_15 : decode cX13_owed 15 = .ok (.iload_n 1, 1) := by decide +kernel
theorem dX13_owed_16 : decode cX13_owed 16 = .ok (.aload_n 0, 1) := by decide +kernel
theorem dX13_owed_17 : decode cX13_owed 17 = .ok (.getfield 7, 3) := by decide +kernel
theorem dX13_owed_20 : decode cX13_owed 20 = .ok (.sipush 219, 3) := by decide +kernel
theorem dX13_owed_23 : decode cX13_owed 23 = .ok (.iload_n 2, 1) := by decide +kernel
theorem dX13_owed_24 : decode cX13_owed 24 = .ok (.iadd, 1) := by decide +kernel
theorem dX13_owed_25 : decode cX13_owed 25 = .ok (.iaload, 1) := by decide +kernel
theorem dX13_owed_26 : decode cX13_owed 26 = .ok (.iadd, 1) := by decide +kernel
theorem dX13_owed_27 : decode cX13_owed 27 = .ok (.istore_n 1, 1) := by decide +kernel
theorem dX13_owed_28 : decode cX13_owed 28 = .ok (.iinc 2 1, 3) := by decide +kernel
theorem dX13_owed_31 : decode cX13_owed 31 = .ok (.goto (-27), 3) := by decide +kernel
theorem dX13_owed_34 : decode cX13_owed 34 = .ok (.iload_n 1, 1) := by decide +kernel
theorem dX13_owed_35 : decode cX13_owed 35 = .ok (.ireturn, 1) := by decide +kernel
theorem dX13_writesBill_0 : decode cX13_writesBill 0 = .ok (.iload_n 1, 1) := by decide +kernel
theorem dX13_writesBill_1 : decode cX13_writesBill 1 = .ok (.iconst 1, 1) := by decide +kernel
theorem dX13_writesBill_2 : decode cX13_writesBill 2 = .ok (.sipush 999, 3) := by decide +kernel
theorem dX13_writesBill_5 : decode cX13_writesBill 5 = .ok (.invokestatic 49, 3) := by decide +kernel
theorem dX13_writesBill_8 : decode cX13_writesBill 8 = .ok (.ifCond .ne 9, 3) := by decide +kernel
theorem dX13_writesBill_11 : decode cX13_writesBill 11 = .ok (.aload_n 0, 1) := by decide +kernel
theorem dX13_writesBill_12 : decode cX13_writesBill 12 = .ok (.iconst 1, 1) := by decide +kernel
theorem dX13_writesBill_13 : decode cX13_writesBill 13 = .ok (.invokevirtual 57, 3) := by decide +kernel
theorem dX13_writesBill_16 : decode cX13_writesBill 16 = .ok (.ireturn, 1) := by decide +kernel
theorem dX13_writesBill_17 : decode cX13_writesBill 17 = .ok (.aload_n 0, 1) := by decide +kernel
theorem dX13_writesBill_18 : decode cX13_writesBill 18 = .ok (.getfield 7, 3) := by decide +kernel
theorem dX13_writesBill_21 : decode cX13_writesBill 21 = .ok (.bipush 6, 2) := by decide +kernel
theorem dX13_writesBill_23 : decode cX13_writesBill 23 = .ok (.iaload, 1) := by decide +kernel
theorem dX13_writesBill_24 : decode cX13_writesBill 24 = .ok (.istore_n 2, 1) := by decide +kernel
theorem dX13_writesBill_25 : decode cX13_writesBill 25 = .ok (.iload_n 2, 1) := by decide +kernel
theorem dX13_writesBill_26 : decode cX13_writesBill 26 = .ok (.bipush 10, 2) := by decide +kernel
theorem dX13_writesBill_28 : decode cX13_writesBill 28 = .ok (.if_icmp .ne 9, 3) := by decide +kernel
theorem dX13_writesBill_31 : decode cX13_writesBill 31 = .ok (.aload_n 0, 1) := by decide +kernel
theorem dX13_writesBill_32 : decode cX13_writesBill 32 = .ok (.iconst 2, 1) := by decide +kernel
theorem dX13_writesBill_33 : decode cX13_writesBill 33 = .ok (.invokevirtual 57, 3) := by decide +kernel
theorem dX13_writesBill_36 : decode cX13_writesBill 36 = .ok (.ireturn, 1) := by decide +kernel
theorem dX13_writesBill_37 : decode cX13_writesBill 37 = .ok (.aload_n 0, 1) := by decide +kernel
theorem dX13_writesBill_38 : decode cX13_writesBill 38 = .ok (.getfield 7, 3) := by decide +kernel
theorem dX13_writesBill_41 : decode cX13_writesBill 41 = .ok (.sipush 209, 3) := by decide +kernel
theorem dX13_writesBill_44 : decode cX13_writesBill 44 = .ok (.iload_n 2, 1) := by decide +kernel
theorem dX13_writesBill_45 : decode cX13_writesBill 45 = .ok (.iadd, 1) := by decide +kernel
theorem dX13_writesBill_46 : decode cX13_writesBill 46 = .ok (.aload_n 0, 1) := by decide +kernel
theorem dX13_writesBill_47 : decode cX13_writesBill 47 = .ok (.getfield 7, 3) := by decide +kernel
theorem dX13_writesBill_50 : decode cX13_writesBill 50 = .ok (.bipush 7, 2) := by decide +kernel
theorem dX13_writesBill_52 : decode cX13_writesBill 52 = .ok (.iaload, 1) := by decide +kernel
theorem dX13_writesBill_53 : decode cX13_writesBill 53 = .ok (.iastore, 1) := by decide +kernel
theorem dX13_writesBill_54 : decode cX13_writesBill 54 = .ok (.aload_n 0, 1) := by decide +kernel
theorem dX13_writesBill_55 : decode cX13_writesBill 55 = .ok (.getfield 7, 3) := by decide +kernel
theorem dX13_writesBill_58 : decode cX13_writesBill 58 = .ok (.sipush 219, 3) := by decide +kernel
theorem dX13_writesBill_61 : decode cX13_writesBill 61 = .ok (.iload_n 2, 1) := by decide +kernel
theorem dX13_writesBill_62 : decode cX13_writesBill 62 = .ok (.iadd, 1) := by decide +kernel
theorem dX13_writesBill_63 : decode cX13_writesBill 63 = .ok (.iload_n 1, 1) := by decide +kernel
theorem dX13_writesBill_64 : decode cX13_writesBill 64 = .ok (.iastore, 1) := by decide +kernel
theorem dX13_writesBill_65 : decode cX13_writesBill 65 = .ok (.aload_n 0, 1) := by decide +kernel
theorem dX13_writesBill_66 : decode cX13_writesBill 66 = .ok (.getfield 7, 3) := by decide +kernel
theorem dX13_writesBill_69 : decode cX13_writesBill 69 = .ok (.bipush 6, 2) := by decide +kernel
theorem dX13_writesBill_71 : decode cX13_writesBill 71 = .ok (.dup2, 1) := by decide +kernel
theorem dX13_writesBill_72 : decode cX13_writesBill 72 = .ok (.iaload, 1) := by decide +kernel
theorem dX13_writesBill_73 : decode cX13_writesBill 73 = .ok (.iconst 1, 1) := by decide +kernel
theorem dX13_writesBill_74 : decode cX13_writesBill 74 = .ok (.iadd, 1) := by decide +kernel
theorem dX13_writesBill_75 : decode cX13_writesBill 75 = .ok (.iastore, 1) := by decide +kernel
theorem dX13_writesBill_76 : decode cX13_writesBill 76 = .ok (.aload_n 0, 1) := by decide +kernel
theorem dX13_writesBill_77 : decode cX13_writesBill 77 = .ok (.getfield 7, 3) := by decide +kernel
theorem dX13_writesBill_80 : decode cX13_writesBill 80 = .ok (.bipush 7, 2) := by decide +kernel
theorem dX13_writesBill_82 : decode cX13_writesBill 82 = .ok (.dup2, 1) := by decide +kernel
theorem dX13_writesBill_83 : decode cX13_writesBill 83 = .ok (.iaload, 1) := by decide +kernel
theorem dX13_writesBill_84 : decode cX13_writesBill 84 = .ok (.iconst 1, 1) := by decide +kernel
theorem dX13_writesBill_85 : decode cX13_writesBill 85 = .ok (.iadd, 1) := by decide +kernel
theorem dX13_writesBill_86 : decode cX13_writesBill 86 = .ok (.iastore, 1) := by decide +kernel
theorem dX13_writesBill_87 : decode cX13_writesBill 87 = .ok (.aload_n 0, 1) := by decide +kernel
theorem dX13_writesBill_88 : decode cX13_writesBill 88 = .ok (.iconst 2, 1) := by decide +kernel
theorem dX13_writesBill_89 : decode cX13_writesBill 89 = .ok (.iconst 4, 1) := by decide +kernel
theorem dX13_writesBill_90 : decode cX13_writesBill 90 = .ok (.iload_n 1, 1) := by decide +kernel
theorem dX13_writesBill_91 : decode cX13_writesBill 91 = .ok (.iconst 0, 1) := by decide +kernel
theorem dX13_writesBill_92 : decode cX13_writesBill 92 = .ok (.invokevirtual 84, 3) := by decide +kernel
theorem dX13_writesBill_95 : decode cX13_writesBill 95 = .ok (.istore_n 3, 1) := by decide +kernel
theorem dX13_writesBill_96 : decode cX13_writesBill 96 = .ok (.aload_n 0, 1) := by decide +kernel
theorem dX13_writesBill_97 : decode cX13_writesBill 97 = .ok (.aload_n 0, 1) := by decide +kernel
theorem dX13_writesBill_98 : decode cX13_writesBill 98 = .ok (.getfield 7, 3) := by decide +kernel
theorem dX13_writesBill_101 : decode cX13_writesBill 101 = .ok (.bipush 7, 2) := by decide +kernel
theorem dX13_writesBill_103 : decode cX13_writesBill 103 = .ok (.iaload, 1) := by decide +kernel
theorem dX13_writesBill_104 : decode cX13_writesBill 104 = .ok (.iconst 1, 1) := by decide +kernel
theorem dX13_writesBill_105 : decode cX13_writesBill 105 = .ok (.isub, 1) := by decide +kernel
theorem dX13_writesBill_106 : decode cX13_writesBill 106 = .ok (.invokevirtual 60, 3) := by decide +kernel
theorem dX13_writesBill_109 : decode cX13_writesBill 109 = .ok (.ireturn, 1) := by decide +kernel
theorem dX13_bill_0 : decode cX13_bill 0 = .ok (.aload_n 0, 1) := by decide +kernel
theorem dX13_bill_1 : decode cX13_bill 1 = .ok (.invokevirtual 63, 3) := by decide +kernel
theorem dX13_bill_4 : decode cX13_bill 4 = .ok (.aload_n 0, 1) := by decide +kernel
theorem dX13_bill_5 : decode cX13_bill 5 = .ok (.aload_n 0, 1) := by decide +kernel
theorem dX13_bill_6 : decode cX13_bill 6 = .ok (.iload_n 1, 1) := by decide +kernel
theorem dX13_bill_7 : decode cX13_bill 7 = .ok (.invokevirtual 133, 3) := by decide +kernel
theorem dX13_bill_10 : decode cX13_bill 10 = .ok (.invokevirtual 74, 3) := by decide +kernel
theorem dX13_bill_13 : decode cX13_bill 13 = .ok (.ireturn, 1) := by decide +kernel
theorem dX13_members_0 : decode cX13_members 0 = .ok (.iconst 0, 1) := by decide +kernel
theorem dX13_members_1 : decode cX13_members 1 = .ok (.istore_n 1, 1) := by decide +kernel
theorem dX13_members_2 : decode cX13_members 2 = .ok (.iconst 0, 1) := by decide +kernel
theorem dX13_members_3 : decode cX13_members 3 = .ok (.istore_n 2, 1) := by decide +kernel
theorem dX13_members_4 : decode cX13_members 4 = .ok (.iload_n 2, 1) := by decide +kernel
theorem dX13_members_5 : decode cX13_members 5 = .ok (.bipush 10, 2) := by decide +kernel
theorem dX13_members_7 : decode cX13_members 7 = .ok (.if_icmp .ge 17, 3) := by decide +kernel
theorem dX13_members_10 : decode cX13_members 10 = .ok (.iload_n 1, 1) := by decide +kernel
theorem dX13_members_11 : decode cX13_members 11 = .ok (.iload_n 0, 1) := by decide +kernel
theorem dX13_members_12 : decode cX13_members 12 = .ok (.iload_n 2, 1) := by decide +kernel
theorem dX13_members_13 : decode cX13_members 13 = .ok (.ishr, 1) := by decide +kernel
theorem dX13_members_14 : decode cX13_members 14 = .ok (.iconst 1, 1) := by decide +kernel
theorem dX13_members_15 : decode cX13_members 15 = .ok (.iand, 1) := by decide +kernel
theorem dX13_members_16 : decode cX13_members 16 = .ok (.iadd, 1) := by decide +kernel
theorem dX13_members_17 : decode cX13_members 17 = .ok (.istore_n 1, 1) := by decide +kernel
theorem dX13_members_18 : decode cX13_members 18 = .ok (.iinc 2 1, 3) := by decide +kernel
theorem dX13_members_21 : decode cX13_members 21 = .ok (.goto (-17), 3) := by decide +kernel
theorem dX13_members_24 : decode cX13_members 24 = .ok (.iload_n 1, 1) := by decide +kernel
theorem dX13_members_25 : decode cX13_members 25 = .ok (.ireturn, 1) := by decide +kernel
theorem dX13_owedBy_0 : decode cX13_owedBy 0 = .ok (.iconst 0, 1) := by decide +kernel
theorem dX13_owedBy_1 : decode cX13_owedBy 1 = .ok (.istore_n 2, 1) := by decide +kernel
theorem dX13_owedBy_2 : decode cX13_owedBy 2 = .ok (.iconst 0, 1) := by decide +kernel
theorem dX13_owedBy_3 : decode cX13_owedBy 3 = .ok (.istore_n 3, 1) := by decide +kernel
theorem dX13_owedBy_4 : decode cX13_owedBy 4 = .ok (.iload_n 3, 1) := by decide +kernel
theorem dX13_owedBy_5 : decode cX13_owedBy 5 = .ok (.aload_n 0, 1) := by decide +kernel
theorem dX13_owedBy_6 : decode cX13_owedBy 6 = .ok (.getfield 7, 3) := by decide +kernel
theorem dX13_owedBy_9 : decode cX13_owedBy 9 = .ok (.bipush 6, 2) := by decide +kernel
theorem dX13_owedBy_11 : decode cX13_owedBy 11 = .ok (.iaload, 1) := by decide +kernel
theorem dX13_owedBy_12 : decode cX13_owedBy 12 = .ok (.if_icmp .ge 35, 3) := by decide +kernel
theorem dX13_owedBy_15 : decode cX13_owedBy 15 = .ok (.iload_n 2, 1) := by decide +kernel
theorem dX13_owedBy_16 : decode cX13_owedBy 16 = .ok (.iload_n 1, 1) := by decide +kernel
theorem dX13_owedBy_17 : decode cX13_owedBy 17 = .ok (.iload_n 3, 1) := by decide +kernel
theorem dX13_owedBy_18 : decode cX13_owedBy 18 = .ok (.ishr, 1) := by decide +kernel
theorem dX13_owedBy_19 : decode cX13_owedBy 19 = .ok (.iconst 1, 1) := by decide +kernel
theorem dX13_owedBy_20 : decode cX13_owedBy 20 = .ok (.iand, 1) := by decide +kernel
theorem dX13_owedBy_21 : decode cX13_owedBy 21 = .ok (.iconst 1, 1) := by decide +kernel
theorem dX13_owedBy_22 : decode cX13_owedBy 22 = .ok (.if_icmp .ne 16, 3) := by decide +kernel
theorem dX13_owedBy_25 : decode cX13_owedBy 25 = .ok (.aload_n 0, 1) := by decide +kernel
theorem dX13_owedBy_26 : decode cX13_owedBy 26 = .ok (.getfield 7, 3) := by decide +kernel
theorem dX13_owedBy_29 : decode cX13_owedBy 29 = .ok (.sipush 219, 3) := by decide +kernel
theorem dX13_owedBy_32 : decode cX13_owedBy 32 = .ok (.iload_n 3, 1) := by decide +kernel
theorem dX13_owedBy_33 : decode cX13_owedBy 33 = .ok (.iadd, 1) := by decide +kernel
theorem dX13_owedBy_34 : decode cX13_owedBy 34 = .ok (.iaload, 1) := by decide +kernel
theorem dX13_owedBy_35 : decode cX13_owedBy 35 = .ok (.goto 4, 3) := by decide +kernel
theorem dX13_owedBy_38 : decode cX13_owedBy 38 = .ok (.iconst 0, 1) := by decide +kernel
theorem dX13_owedBy_39 : decode cX13_owedBy 39 = .ok (.iadd, 1) := by decide +kernel
theorem dX13_owedBy_40 : decode cX13_owedBy 40 = .ok (.istore_n 2, 1) := by decide +kernel
theorem dX13_owedBy_41 : decode cX13_owedBy 41 = .ok (.iinc 3 1, 3) := by decide +kernel
theorem dX13_owedBy_44 : decode cX13_owedBy 44 = .ok (.goto (-40), 3) := by decide +kernel
theorem dX13_owedBy_47 : decode cX13_owedBy 47 = .ok (.iload_n 2, 1) := by decide +kernel
theorem dX13_owedBy_48 : decode cX13_owedBy 48 = .ok (.ireturn, 1) := by decide +kernel
theorem dX13_isAhead_0 : decode cX13_isAhead 0 = .ok (.iload_n 1, 1) := by decide +kernel
theorem dX13_isAhead_1 : decode cX13_isAhead 1 = .ok (.invokestatic 136, 3) := by decide +kernel
theorem dX13_isAhead_4 : decode cX13_isAhead 4 = .ok (.iload_n 0, 1) := by decide +kernel
theorem dX13_isAhead_5 : decode cX13_isAhead 5 = .ok (.invokestatic 136, 3) := by decide +kernel
theorem dX13_isAhead_8 : decode cX13_isAhead 8 = .ok (.isub, 1) := by decide +kernel
theorem dX13_isAhead_9 : decode cX13_isAhead 9 = .ok (.istore_n 2, 1) := by decide +kernel
theorem dX13_isAhead_10 : decode cX13_isAhead 10 = .ok (.iload_n 0, 1) := by decide +kernel
theorem dX13_isAhead_11 : decode cX13_isAhead 11 = .ok (.iload_n 1, 1) := by decide +kernel
theorem dX13_isAhead_12 : decode cX13_isAhead 12 = .ok (.ixor, 1) := by decide +kernel
theorem dX13_isAhead_13 : decode cX13_isAhead 13 = .ok (.istore_n 3, 1) := by decide +kernel
theorem dX13_isAhead_14 : decode cX13_isAhead 14 = .ok (.iload_n 2, 1) := by decide +kernel
theorem dX13_isAhead_15 : decode cX13_isAhead 15 = .ok (.ifCond .gt 16, 3) := by decide +kernel
theorem dX13_isAhead_18 : decode cX13_isAhead 18 = .ok (.iload_n 2, 1) := by decide +kernel
theorem dX13_isAhead_19 : decode cX13_isAhead 19 = .ok (.ifCond .ne 16, 3) := by decide +kernel
theorem dX13_isAhead_22 : decode cX13_isAhead 22 = .ok (.iload_n 0, 1) := by decide +kernel
theorem dX13_isAhead_23 : decode cX13_isAhead 23 = .ok (.iload_n 3, 1) := by decide +kernel
theorem dX13_isAhead_24 : decode cX13_isAhead 24 = .ok (.iand, 1) := by decide +kernel
theorem dX13_isAhead_25 : decode cX13_isAhead 25 = .ok (.iload_n 3, 1) := by decide +kernel
theorem dX13_isAhead_26 : decode cX13_isAhead 26 = .ok (.ineg, 1) := by decide +kernel
theorem dX13_isAhead_27 : decode cX13_isAhead 27 = .ok (.iand, 1) := by decide +kernel
theorem dX13_isAhead_28 : decode cX13_isAhead 28 = .ok (.ifCond .eq 7, 3) := by decide +kernel
theorem dX13_isAhead_31 : decode cX13_isAhead 31 = .ok (.iconst 1, 1) := by decide +kernel
theorem dX13_isAhead_32 : decode cX13_isAhead 32 = .ok (.goto 4, 3) := by decide +kernel
theorem dX13_isAhead_35 : decode cX13_isAhead 35 = .ok (.iconst 0, 1) := by decide +kernel
theorem dX13_isAhead_36 : decode cX13_isAhead 36 = .ok (.ireturn, 1) := by decide +kernel
theorem dX13_chosen_0 : decode cX13_chosen 0 = .ok (.iconst 0, 1) := by decide +kernel
theorem dX13_chosen_1 : decode cX13_chosen 1 = .ok (.istore_n 2, 1) := by decide +kernel
theorem dX13_chosen_2 : decode cX13_chosen 2 = .ok (.iconst 1, 1) := by decide +kernel
theorem dX13_chosen_3 : decode cX13_chosen 3 = .ok (.istore_n 3, 1) := by decide +kernel
theorem dX13_chosen_4 : decode cX13_chosen 4 = .ok (.iload_n 3, 1) := by decide +kernel
theorem dX13_chosen_5 : decode cX13_chosen 5 = .ok (.iconst 1, 1) := by decide +kernel
theorem dX13_chosen_6 : decode cX13_chosen 6 = .ok (.aload_n 0, 1) := by decide +kernel
theorem dX13_chosen_7 : decode cX13_chosen 7 = .ok (.getfield 7, 3) := by decide +kernel
theorem dX13_chosen_10 : decode cX13_chosen 10 = .ok (.bipush 6, 2) := by decide +kernel
theorem dX13_chosen_12 : decode cX13_chosen 12 = .ok (.iaload, 1) := by decide +kernel
theorem dX13_chosen_13 : decode cX13_chosen 13 = .ok (.ishl, 1) := by decide +kernel
theorem dX13_chosen_14 : decode cX13_chosen 14 = .ok (.if_icmp .ge 32, 3) := by decide +kernel
theorem dX13_chosen_17 : decode cX13_chosen 17 = .ok (.aload_n 0, 1) := by decide +kernel
theorem dX13_chosen_18 : decode cX13_chosen 18 = .ok (.iload_n 3, 1) := by decide +kernel
theorem dX13_chosen_19 : decode cX13_chosen 19 = .ok (.invokevirtual 139, 3) := by decide +kernel
theorem dX13_chosen_22 : decode cX13_chosen 22 = .ok (.iload_n 1, 1) := by decide +kernel
theorem dX13_chosen_23 : decode cX13_chosen 23 = .ok (.if_icmp .ne 17, 3) := by decide +kernel
theorem dX13_chosen_26 : decode cX13_chosen 26 = .ok (.iload_n 2, 1) := by decide +kernel
theorem dX13_chosen_27 : decode cX13_chosen 27 = .ok (.ifCond .eq 11, 3) := by decide +kernel
theorem dX13_chosen_30 : decode cX13_chosen 30 = .ok (.iload_n 3, 1) := by decide +kernel
theorem dX13_chosen_31 : decode cX13_chosen 31 = .ok (.iload_n 2, 1) := by decide +kernel
theorem dX13_chosen_32 : decode cX13_chosen 32 = .ok (.invokestatic 142, 3) := by decide +kernel
theorem dX13_chosen_35 : decode cX13_chosen 35 = .ok (.ifCond .eq 5, 3) := by decide +kernel
theorem dX13_chosen_38 : decode cX13_chosen 38 = .ok (.iload_n 3, 1) := by decide +kernel
theorem dX13_chosen_39 : decode cX13_chosen 39 = .ok (.istore_n 2, 1) := by decide +kernel
theorem dX13_chosen_40 : decode cX13_chosen 40 = .ok (.iinc 3 1, 3) := by decide +kernel
theorem dX13_chosen_43 : decode cX13_chosen 43 = .ok (.goto (-39), 3) := by decide +kernel
theorem dX13_chosen_46 : decode cX13_chosen 46 = .ok (.iload_n 2, 1) := by decide +kernel
theorem dX13_chosen_47 : decode cX13_chosen 47 = .ok (.ireturn, 1) := by decide +kernel
theorem dX13_dropsBill_0 : decode cX13_dropsBill 0 = .ok (.sipush 209, 3) := by decide +kernel
theorem dX13_dropsBill_3 : decode cX13_dropsBill 3 = .ok (.istore_n 2, 1) := by decide +kernel
theorem dX13_dropsBill_4 : decode cX13_dropsBill 4 = .ok (.iload_n 2, 1) := by decide +kernel
theorem dX13_dropsBill_5 : decode cX13_dropsBill 5 = .ok (.sipush 229, 3) := by decide +kernel
theorem dX13_dropsBill_8 : decode cX13_dropsBill 8 = .ok (.if_icmp .ge 41, 3) := by decide +kernel
theorem dX13_dropsBill_11 : decode cX13_dropsBill 11 = .ok (.iload_n 1, 1) := by decide +kernel
theorem dX13_dropsBill_12 : decode cX13_dropsBill 12 = .ok (.istore_n 3, 1) := by decide +kernel
theorem dX13_dropsBill_13 : decode cX13_dropsBill 13 = .ok (.iload_n 3, 1) := by decide +kernel
theorem dX13_dropsBill_14 : decode cX13_dropsBill 14 = .ok (.bipush 9, 2) := by decide +kernel
theorem dX13_dropsBill_16 : decode cX13_dropsBill 16 = .ok (.if_icmp .ge 27, 3) := by decide +kernel
theorem dX13_dropsBill_19 : decode cX13_dropsBill 19 = .ok (.aload_n 0, 1) := by decide +kernel
theorem dX13_dropsBill_20 : decode cX13_dropsBill 20 = .ok (.getfield 7, 3) := by decide +kernel
theorem dX13_dropsBill_23 : decode cX13_dropsBill 23 = .ok (.iload_n 2, 1) := by decide +kernel
theorem dX13_dropsBill_24 : decode cX13_dropsBill 24 = .ok (.iload_n 3, 1) := by decide +kernel
theorem dX13_dropsBill_25 : decode cX13_dropsBill 25 = .ok (.iadd, 1) := by decide +kernel
theorem dX13_dropsBill_26 : decode cX13_dropsBill 26 = .ok (.aload_n 0, 1) := by decide +kernel
theorem dX13_dropsBill_27 : decode cX13_dropsBill 27 = .ok (.getfield 7, 3) := by decide +kernel
theorem dX13_dropsBill_30 : decode cX13_dropsBill 30 = .ok (.iload_n 2, 1) := by decide +kernel
theorem dX13_dropsBill_31 : decode cX13_dropsBill 31 = .ok (.iload_n 3, 1) := by decide +kernel
theorem dX13_dropsBill_32 : decode cX13_dropsBill 32 = .ok (.iadd, 1) := by decide +kernel
theorem dX13_dropsBill_33 : decode cX13_dropsBill 33 = .ok (.iconst 1, 1) := by decide +kernel
theorem dX13_dropsBill_34 : decode cX13_dropsBill 34 = .ok (.iadd, 1) := by decide +kernel
theorem dX13_dropsBill_35 : decode cX13_dropsBill 35 = .ok (.iaload, 1) := by decide +kernel
theorem dX13_dropsBill_36 : decode cX13_dropsBill 36 = .ok (.iastore, 1) := by decide +kernel
theorem dX13_dropsBill_37 : decode cX13_dropsBill 37 = .ok (.iinc 3 1, 3) := by decide +kernel
theorem dX13_dropsBill_40 : decode cX13_dropsBill 40 = .ok (.goto (-27), 3) := by decide +kernel
theorem dX13_dropsBill_43 : decode cX13_dropsBill 43 = .ok (.iinc 2 10, 3) := by decide +kernel
theorem dX13_dropsBill_46 : decode cX13_dropsBill 46 = .ok (.goto (-42), 3) := by decide +kernel
theorem dX13_dropsBill_49 : decode cX13_dropsBill 49 = .ok (.aload_n 0, 1) := by decide +kernel
theorem dX13_dropsBill_50 : decode cX13_dropsBill 50 = .ok (.getfield 7, 3) := by decide +kernel
theorem dX13_dropsBill_53 : decode cX13_dropsBill 53 = .ok (.bipush 6, 2) := by decide +kernel
theorem dX13_dropsBill_55 : decode cX13_dropsBill 55 = .ok (.dup2, 1) := by decide +kernel
theorem dX13_dropsBill_56 : decode cX13_dropsBill 56 = .ok (.iaload, 1) := by decide +kernel
theorem dX13_dropsBill_57 : decode cX13_dropsBill 57 = .ok (.iconst 1, 1) := by decide +kernel
theorem dX13_dropsBill_58 : decode cX13_dropsBill 58 = .ok (.isub, 1) := by decide +kernel
theorem dX13_dropsBill_59 : decode cX13_dropsBill 59 = .ok (.iastore, 1) := by decide +kernel
theorem dX13_dropsBill_60 : decode cX13_dropsBill 60 = .ok (.return_, 1) := by decide +kernel
theorem dX13_paysInOrder_0 : decode cX13_paysInOrder 0 = .ok (.iload_n 1, 1) := by decide +kernel
theorem dX13_paysInOrder_1 : decode cX13_paysInOrder 1 = .ok (.istore_n 2, 1) := by decide +kernel
theorem dX13_paysInOrder_2 : decode cX13_paysInOrder 2 = .ok (.iconst 0, 1) := by decide +kernel
theorem dX13_paysInOrder_3 : decode cX13_paysInOrder 3 = .ok (.istore_n 3, 1) := by decide +kernel
theorem dX13_paysInOrder_4 : decode cX13_paysInOrder 4 = .ok (.iload_n 3, 1) := by decide +kernel
theorem dX13_paysInOrder_5 : decode cX13_paysInOrder 5 = .ok (.aload_n 0, 1) := by decide +kernel
theorem dX13_paysInOrder_6 : decode cX13_paysInOrder 6 = .ok (.getfield 7, 3) := by decide +kernel
theorem dX13_paysInOrder_9 : decode cX13_paysInOrder 9 = .ok (.bipush 6, 2) := by decide +kernel
theorem dX13_paysInOrder_11 : decode cX13_paysInOrder 11 = .ok (.iaload, 1) := by decide +kernel
theorem dX13_paysInOrder_12 : decode cX13_paysInOrder 12 = .ok (.if_icmp .ge 59, 3) := by decide +kernel
theorem dX13_paysInOrder_15 : decode cX13_paysInOrder 15 = .ok (.iload_n 2, 1) := by decide +kernel
theorem dX13_paysInOrder_16 : decode cX13_paysInOrder 16 = .ok (.aload_n 0, 1) := by decide +kernel
theorem dX13_paysInOrder_17 : decode cX13_paysInOrder 17 = .ok (.getfield 7, 3) := by decide +kernel
theorem dX13_paysInOrder_20 : decode cX13_paysInOrder 20 = .ok (.sipush 219, 3) := by decide +kernel
theorem dX13_paysInOrder_23 : decode cX13_paysInOrder 23 = .ok (.iload_n 3, 1) := by decide +kernel
theorem dX13_paysInOrder_24 : decode cX13_paysInOrder 24 = .ok (.iadd, 1) := by decide +kernel
theorem dX13_paysInOrder_25 : decode cX13_paysInOrder 25 = .ok (.iaload, 1) := by decide +kernel
theorem dX13_paysInOrder_26 : decode cX13_paysInOrder 26 = .ok (.if_icmp .ge 7, 3) := by decide +kernel
theorem dX13_paysInOrder_29 : decode cX13_paysInOrder 29 = .ok (.iload_n 2, 1) := by decide +kernel
theorem dX13_paysInOrder_30 : decode cX13_paysInOrder 30 = .ok (.goto 13, 3) := by decide +kernel
theorem dX13_paysInOrder_33 : decode cX13_paysInOrder 33 = .ok (.aload_n 0, 1) := by decide +kernel
theorem dX13_paysInOrder_34 : decode cX13_paysInOrder 34 = .ok (.getfield 7, 3) := by decide +kernel
theorem dX13_paysInOrder_37 : decode cX13_paysInOrder 37 = .ok (.sipush 219, 3) := by decide +kernel
theorem dX13_paysInOrder_40 : decode cX13_paysInOrder 40 = .ok (.iload_n 3, 1) := by decide +kernel
theorem dX13_paysInOrder_41 : decode cX13_paysInOrder 41 = .ok (.iadd, 1) := by decide +kernel
theorem dX13_paysInOrder_42 : decode cX13_paysInOrder 42 = .ok (.iaload, 1) := by decide +kernel
theorem dX13_paysInOrder_43 : decode cX13_paysInOrder 43 = .ok (.istore 4, 2) := by decide +kernel
theorem dX13_paysInOrder_45 : decode cX13_paysInOrder 45 = .ok (.aload_n 0, 1) := by decide +kernel
theorem dX13_paysInOrder_46 : decode cX13_paysInOrder 46 = .ok (.getfield 7, 3) := by decide +kernel
theorem dX13_paysInOrder_49 : decode cX13_paysInOrder 49 = .ok (.sipush 219, 3) := by decide +kernel
theorem dX13_paysInOrder_52 : decode cX13_paysInOrder 52 = .ok (.iload_n 3, 1) := by decide +kernel
theorem dX13_paysInOrder_53 : decode cX13_paysInOrder 53 = .ok (.iadd, 1) := by decide +kernel
theorem dX13_paysInOrder_54 : decode cX13_paysInOrder 54 = .ok (.dup2, 1) := by decide +kernel
theorem dX13_paysInOrder_55 : decode cX13_paysInOrder 55 = .ok (.iaload, 1) := by decide +kernel
theorem dX13_paysInOrder_56 : decode cX13_paysInOrder 56 = .ok (.iload 4, 2) := by decide +kernel
theorem dX13_paysInOrder_58 : decode cX13_paysInOrder 58 = .ok (.isub, 1) := by decide +kernel
theorem dX13_paysInOrder_59 : decode cX13_paysInOrder 59 = .ok (.iastore, 1) := by decide +kernel
theorem dX13_paysInOrder_60 : decode cX13_paysInOrder 60 = .ok (.iload_n 2, 1) := by decide +kernel
theorem dX13_paysInOrder_61 : decode cX13_paysInOrder 61 = .ok (.iload 4, 2) := by decide +kernel
theorem dX13_paysInOrder_63 : decode cX13_paysInOrder 63 = .ok (.isub, 1) := by decide +kernel
theorem dX13_paysInOrder_64 : decode cX13_paysInOrder 64 = .ok (.istore_n 2, 1) := by decide +kernel
theorem dX13_paysInOrder_65 : decode cX13_paysInOrder 65 = .ok (.iinc 3 1, 3) := by decide +kernel
theorem dX13_paysInOrder_68 : decode cX13_paysInOrder 68 = .ok (.goto (-64), 3) := by decide +kernel
theorem dX13_paysInOrder_71 : decode cX13_paysInOrder 71 = .ok (.return_, 1) := by decide +kernel
theorem dX13_pays_0 : decode cX13_pays 0 = .ok (.iload_n 1, 1) := by decide +kernel
theorem dX13_pays_1 : decode cX13_pays 1 = .ok (.iconst 1, 1) := by decide +kernel
theorem dX13_pays_2 : decode cX13_pays 2 = .ok (.sipush 999, 3) := by decide +kernel
theorem dX13_pays_5 : decode cX13_pays 5 = .ok (.invokestatic 49, 3) := by decide +kernel
theorem dX13_pays_8 : decode cX13_pays 8 = .ok (.ifCond .ne 9, 3) := by decide +kernel
theorem dX13_pays_11 : decode cX13_pays 11 = .ok (.aload_n 0, 1) := by decide +kernel
theorem dX13_pays_12 : decode cX13_pays 12 = .ok (.iconst 1, 1) := by decide +kernel
theorem dX13_pays_13 : decode cX13_pays 13 = .ok (.invokevirtual 57, 3) := by decide +kernel
theorem dX13_pays_16 : decode cX13_pays 16 = .ok (.ireturn, 1) := by decide +kernel
theorem dX13_pays_17 : decode cX13_pays 17 = .ok (.aload_n 0, 1) := by decide +kernel
theorem dX13_pays_18 : decode cX13_pays 18 = .ok (.invokevirtual 146, 3) := by decide +kernel
theorem dX13_pays_21 : decode cX13_pays 21 = .ok (.iload_n 1, 1) := by decide +kernel
theorem dX13_pays_22 : decode cX13_pays 22 = .ok (.if_icmp .ge 9, 3) := by decide +kernel
theorem dX13_pays_25 : decode cX13_pays 25 = .ok (.aload_n 0, 1) := by decide +kernel
theorem dX13_pays_26 : decode cX13_pays 26 = .ok (.iconst 2, 1) := by decide +kernel
theorem dX13_pays_27 : decode cX13_pays 27 = .ok (.invokevirtual 57, 3) := by decide +kernel
theorem dX13_pays_30 : decode cX13_pays 30 = .ok (.ireturn, 1) := by decide +kernel
theorem dX13_pays_31 : decode cX13_pays 31 = .ok (.aload_n 0, 1) := by decide +kernel
theorem dX13_pays_32 : decode cX13_pays 32 = .ok (.iload_n 1, 1) := by decide +kernel
theorem dX13_pays_33 : decode cX13_pays 33 = .ok (.invokevirtual 149, 3) := by decide +kernel
theorem dX13_pays_36 : decode cX13_pays 36 = .ok (.istore_n 2, 1) := by decide +kernel
theorem dX13_pays_37 : decode cX13_pays 37 = .ok (.iload_n 2, 1) := by decide +kernel
theorem dX13_pays_38 : decode cX13_pays 38 = .ok (.ifCond .ne 8, 3) := by decide +kernel
theorem dX13_pays_41 : decode cX13_pays 41 = .ok (.aload_n 0, 1) := by decide +kernel
theorem dX13_pays_42 : decode cX13_pays 42 = .ok (.iload_n 1, 1) := by decide +kernel
theorem dX13_pays_43 : decode cX13_pays 43 = .ok (.invokevirtual 152, 3) := by decide +kernel
theorem dX13_pays_46 : decode cX13_pays 46 = .ok (.iconst 0, 1) := by decide +kernel
theorem dX13_pays_47 : decode cX13_pays 47 = .ok (.istore_n 3, 1) := by decide +kernel
theorem dX13_pays_48 : decode cX13_pays 48 = .ok (.bipush 9, 2) := by decide +kernel
theorem dX13_pays_50 : decode cX13_pays 50 = .ok (.istore 4, 2) := by decide +kernel
theorem dX13_pays_52 : decode cX13_pays 52 = .ok (.iload 4, 2) := by decide +kernel
theorem dX13_pays_54 : decode cX13_pays 54 = .ok (.ifCond .lt 66, 3) := by decide +kernel
theorem dX13_pays_57 : decode cX13_pays 57 = .ok (.iload 4, 2) := by decide +kernel
theorem dX13_pays_59 : decode cX13_pays 59 = .ok (.aload_n 0, 1) := by decide +kernel
theorem dX13_pays_60 : decode cX13_pays 60 = .ok (.getfield 7, 3) := by decide +kernel
theorem dX13_pays_63 : decode cX13_pays 63 = .ok (.bipush 6, 2) := by decide +kernel
theorem dX13_pays_65 : decode cX13_pays 65 = .ok (.iaload, 1) := by decide +kernel
theorem dX13_pays_66 : decode cX13_pays 66 = .ok (.if_icmp .ge 7, 3) := by decide +kernel
theorem dX13_pays_69 : decode cX13_pays 69 = .ok (.iconst 1, 1) := by decide +kernel
theorem dX13_pays_70 : decode cX13_pays 70 = .ok (.goto 4, 3) := by decide +kernel
theorem dX13_pays_73 : decode cX13_pays 73 = .ok (.iconst 0, 1) := by decide +kernel
theorem dX13_pays_74 : decode cX13_pays 74 = .ok (.istore 5, 2) := by decide +kernel
theorem dX13_pays_76 : decode cX13_pays 76 = .ok (.iload 5, 2) := by decide +kernel
theorem dX13_pays_78 : decode cX13_pays 78 = .ok (.ifCond .eq 36, 3) := by decide +kernel
theorem dX13_pays_81 : decode cX13_pays 81 = .ok (.iload_n 2, 1) := by decide +kernel
theorem dX13_pays_82 : decode cX13_pays 82 = .ok (.iload 4, 2) := by decide +kernel
theorem dX13_pays_84 : decode cX13_pays 84 = .ok (.ishr, 1) := by decide +kernel
theorem dX13_pays_85 : decode cX13_pays 85 = .ok (.iconst 1, 1) := by decide +kernel
theorem dX13_pays_86 : decode cX13_pays 86 = .ok (.iand, 1) := by decide +kernel
theorem dX13_pays_87 : decode cX13_pays 87 = .ok (.iconst 1, 1) := by decide +kernel
theorem dX13_pays_88 : decode cX13_pays 88 = .ok (.if_icmp .eq 17, 3) := by decide +kernel
theorem dX13_pays_91 : decode cX13_pays 91 = .ok (.aload_n 0, 1) := by decide +kernel
theorem dX13_pays_92 : decode cX13_pays 92 = .ok (.getfield 7, 3) := by decide +kernel
theorem dX13_pays_95 : decode cX13_pays 95 = .ok (.sipush 219, 3) := by decide +kernel
theorem dX13_pays_98 : decode cX13_pays 98 = .ok (.iload 4, 2) := by decide +kernel
theorem dX13_pays_100 : decode cX13_pays 100 = .ok (.iadd, 1) := by decide +kernel
theorem dX13_pays_101 : decode cX13_pays 101 = .ok (.iaload, 1) := by decide +kernel
theorem dX13_pays_102 : decode cX13_pays 102 = .ok (.ifCond .ne 12, 3) := by decide +kernel
theorem dX13_pays_105 : decode cX13_pays 105 = .ok (.aload_n 0, 1) := by decide +kernel
theorem dX13_pays_106 : decode cX13_pays 106 = .ok (.iload 4, 2) := by decide +kernel
theorem dX13_pays_108 : decode cX13_pays 108 = .ok (.invokevirtual 155, 3) := by decide +kernel
theorem dX13_pays_111 : decode cX13_pays 111 = .ok (.iinc 3 1, 3) := by decide +kernel
theorem dX13_pays_114 : decode cX13_pays 114 = .ok (.iinc 4 (-1), 3) := by decide +kernel
theorem dX13_pays_117 : decode cX13_pays 117 = .ok (.goto (-65), 3) := by decide +kernel
theorem dX13_pays_120 : decode cX13_pays 120 = .ok (.aload_n 0, 1) := by decide +kernel
theorem dX13_pays_121 : decode cX13_pays 121 = .ok (.iconst 0, 1) := by decide +kernel
theorem dX13_pays_122 : decode cX13_pays 122 = .ok (.iconst 2, 1) := by decide +kernel
theorem dX13_pays_123 : decode cX13_pays 123 = .ok (.iload_n 1, 1) := by decide +kernel
theorem dX13_pays_124 : decode cX13_pays 124 = .ok (.iconst 0, 1) := by decide +kernel
theorem dX13_pays_125 : decode cX13_pays 125 = .ok (.invokevirtual 84, 3) := by decide +kernel
theorem dX13_pays_128 : decode cX13_pays 128 = .ok (.istore 4, 2) := by decide +kernel
theorem dX13_pays_130 : decode cX13_pays 130 = .ok (.aload_n 0, 1) := by decide +kernel
theorem dX13_pays_131 : decode cX13_pays 131 = .ok (.iload_n 3, 1) := by decide +kernel
theorem dX13_pays_132 : decode cX13_pays 132 = .ok (.invokevirtual 60, 3) := by decide +kernel
theorem dX13_pays_135 : decode cX13_pays 135 = .ok (.ireturn, 1) := by decide +kernel
theorem dX13_pay_0 : decode cX13_pay 0 = .ok (.aload_n 0, 1) := by decide +kernel
theorem dX13_pay_1 : decode cX13_pay 1 = .ok (.invokevirtual 63, 3) := by decide +kernel
theorem dX13_pay_4 : decode cX13_pay 4 = .ok (.aload_n 0, 1) := by decide +kernel
theorem dX13_pay_5 : decode cX13_pay 5 = .ok (.aload_n 0, 1) := by decide +kernel
theorem dX13_pay_6 : decode cX13_pay 6 = .ok (.iload_n 1, 1) := by decide +kernel
theorem dX13_pay_7 : decode cX13_pay 7 = .ok (.invokevirtual 158, 3) := by decide +kernel
theorem dX13_pay_10 : decode cX13_pay 10 = .ok (.invokevirtual 74, 3) := by decide +kernel
theorem dX13_pay_13 : decode cX13_pay 13 = .ok (.ireturn, 1) := by decide +kernel
theorem dX13_falls_0 : decode cX13_falls 0 = .ok (.aload_n 0, 1) := by decide +kernel
theorem dX13_falls_1 : decode cX13_falls 1 = .ok (.invokevirtual 161, 3) := by decide +kernel
theorem dX13_falls_4 : decode cX13_falls 4 = .ok (.istore_n 1, 1) := by decide +kernel
theorem dX13_falls_5 : decode cX13_falls 5 = .ok (.iconst 0, 1) := by decide +kernel
theorem dX13_falls_6 : decode cX13_falls 6 = .ok (.istore_n 2, 1) := by decide +kernel
theorem dX13_falls_7 : decode cX13_falls 7 = .ok (.iload_n 2, 1) := by decide +kernel
theorem dX13_falls_8 : decode cX13_falls 8 = .ok (.aload_n 0, 1) := by decide +kernel
theorem dX13_falls_9 : decode cX13_falls 9 = .ok (.getfield 7, 3) := by decide +kernel
theorem dX13_falls_12 : decode cX13_falls 12 = .ok (.iconst 1, 1) := by decide +kernel
theorem dX13_falls_13 : decode cX13_falls 13 = .ok (.iaload, 1) := by decide +kernel
theorem dX13_falls_14 : decode cX13_falls 14 = .ok (.if_icmp .ge 99, 3) := by decide +kernel
theorem dX13_falls_17 : decode cX13_falls 17 = .ok (.aload_n 0, 1) := by decide +kernel
theorem dX13_falls_18 : decode cX13_falls 18 = .ok (.getfield 7, 3) := by decide +kernel
theorem dX13_falls_21 : decode cX13_falls 21 = .ok (.bipush 33, 2) := by decide +kernel
theorem dX13_falls_23 : decode cX13_falls 23 = .ok (.iload_n 2, 1) := by decide +kernel
theorem dX13_falls_24 : decode cX13_falls 24 = .ok (.iadd, 1) := by decide +kernel
theorem dX13_falls_25 : decode cX13_falls 25 = .ok (.iaload, 1) := by decide +kernel
theorem dX13_falls_26 : decode cX13_falls 26 = .ok (.aload_n 0, 1) := by decide +kernel
theorem dX13_falls_27 : decode cX13_falls 27 = .ok (.getfield 7, 3) := by decide +kernel
theorem dX13_falls_30 : decode cX13_falls 30 = .ok (.bipush 45, 2) := by decide +kernel
theorem dX13_falls_32 : decode cX13_falls 32 = .ok (.iload_n 2, 1) := by decide +kernel
theorem dX13_falls_33 : decode cX13_falls 33 = .ok (.iadd, 1) := by decide +kernel
theorem dX13_falls_34 : decode cX13_falls 34 = .ok (.iaload, 1) := by decide +kernel
theorem dX13_falls_35 : decode cX13_falls 35 = .ok (.isub, 1) := by decide +kernel
theorem dX13_falls_36 : decode cX13_falls 36 = .ok (.istore_n 3, 1) := by decide +kernel
theorem dX13_falls_37 : decode cX13_falls 37 = .ok (.aload_n 0, 1) := by decide +kernel
theorem dX13_falls_38 : decode cX13_falls 38 = .ok (.getfield 7, 3) := by decide +kernel
theorem dX13_falls_41 : decode cX13_falls 41 = .ok (.bipush 9, 2) := by decide +kernel
theorem dX13_falls_43 : decode cX13_falls 43 = .ok (.iload_n 2, 1) := by decide +kernel
theorem dX13_falls_44 : decode cX13_falls 44 = .ok (.iadd, 1) := by decide +kernel
theorem dX13_falls_45 : decode cX13_falls 45 = .ok (.iaload, 1) := by decide +kernel
theorem dX13_falls_46 : decode cX13_falls 46 = .ok (.bipush 105, 2) := by decide +kernel
theorem dX13_falls_48 : decode cX13_falls 48 = .ok (.if_icmp .eq 17, 3) := by decide +kernel
theorem dX13_falls_51 : decode cX13_falls 51 = .ok (.aload_n 0, 1) := by decide +kernel
theorem dX13_falls_52 : decode cX13_falls 52 = .ok (.getfield 7, 3) := by decide +kernel
theorem dX13_falls_55 : decode cX13_falls 55 = .ok (.bipush 9, 2) := by decide +kernel
theorem dX13_falls_57 : decode cX13_falls 57 = .ok (.iload_n 2, 1) := by decide +kernel
theorem dX13_falls_58 : decode cX13_falls 58 = .ok (.iadd, 1) := by decide +kernel
theorem dX13_falls_59 : decode cX13_falls 59 = .ok (.iaload, 1) := by decide +kernel
theorem dX13_falls_60 : decode cX13_falls 60 = .ok (.bipush 101, 2) := by decide +kernel
theorem dX13_falls_62 : decode cX13_falls 62 = .ok (.if_icmp .ne 7, 3) := by decide +kernel
theorem dX13_falls_65 : decode cX13_falls 65 = .ok (.iconst 1, 1) := by decide +kernel
theorem dX13_falls_66 : decode cX13_falls 66 = .ok (.goto 4, 3) := by decide +kernel
theorem dX13_falls_69 : decode cX13_falls 69 = .ok (.iconst 0, 1) := by decide +kernel
theorem dX13_falls_70 : decode cX13_falls 70 = .ok (.istore 4, 2) := by decide +kernel
theorem dX13_falls_72 : decode cX13_falls 72 = .ok (.iload 4, 2) := by decide +kernel
theorem dX13_falls_74 : decode cX13_falls 74 = .ok (.ifCond .eq 33, 3) := by decide +kernel
theorem dX13_falls_77 : decode cX13_falls 77 = .ok (.iload_n 3, 1) := by decide +kernel
theorem dX13_falls_78 : decode cX13_falls 78 = .ok (.ifCond .eq 29, 3) := by decide +kernel
theorem dX13_falls_81 : decode cX13_falls 81 = .ok (.iload_n 3, 1) := by decide +kernel
theorem dX13_falls_82 : decode cX13_falls 82 = .ok (.ifCond .le 14, 3) := by decide +kernel
theorem dX13_falls_85 : decode cX13_falls 85 = .ok (.aload_n 0, 1) := by decide +kernel
theorem dX13_falls_86 : decode cX13_falls 86 = .ok (.iconst 3, 1) := by decide +kernel
theorem dX13_falls_87 : decode cX13_falls 87 = .ok (.iload_n 2, 1) := by decide +kernel
theorem dX13_falls_88 : decode cX13_falls 88 = .ok (.iload_n 3, 1) := by decide +kernel
theorem dX13_falls_89 : decode cX13_falls 89 = .ok (.iconst 0, 1) := by decide +kernel
theorem dX13_falls_90 : decode cX13_falls 90 = .ok (.invokevirtual 84, 3) := by decide +kernel
theorem dX13_falls_93 : decode cX13_falls 93 = .ok (.goto 12, 3) := by decide +kernel
theorem dX13_falls_96 : decode cX13_falls 96 = .ok (.aload_n 0, 1) := by decide +kernel
theorem dX13_falls_97 : decode cX13_falls 97 = .ok (.iload_n 2, 1) := by decide +kernel
theorem dX13_falls_98 : decode cX13_falls 98 = .ok (.iconst 3, 1) := by decide +kernel
theorem dX13_falls_99 : decode cX13_falls 99 = .ok (.iload_n 3, 1) := by decide +kernel
theorem dX13_falls_100 : decode cX13_falls 100 = .ok (.ineg, 1) := by decide +kernel
theorem dX13_falls_101 : decode cX13_falls 101 = .ok (.iconst 0, 1) := by decide +kernel
theorem dX13_falls_102 : decode cX13_falls 102 = .ok (.invokevirtual 84, 3) := by decide +kernel
theorem dX13_falls_105 : decode cX13_falls 105 = .ok (.istore 5, 2) := by decide +kernel
theorem dX13_falls_107 : decode cX13_falls 107 = .ok (.iinc 2 1, 3) := by decide +kernel
theorem dX13_falls_110 : decode cX13_falls 110 = .ok (.goto (-103), 3) := by decide +kernel
theorem dX13_falls_113 : decode cX13_falls 113 = .ok (.aload_n 0, 1) := by decide +kernel
theorem dX13_falls_114 : decode cX13_falls 114 = .ok (.getfield 7, 3) := by decide +kernel
theorem dX13_falls_117 : decode cX13_falls 117 = .ok (.bipush 8, 2) := by decide +kernel
theorem dX13_falls_119 : decode cX13_falls 119 = .ok (.dup2, 1) := by decide +kernel
theorem dX13_falls_120 : decode cX13_falls 120 = .ok (.iaload, 1) := by decide +kernel
theorem dX13_falls_121 : decode cX13_falls 121 = .ok (.iconst 1, 1) := by decide +kernel
theorem dX13_falls_122 : decode cX13_falls 122 = .ok (.iadd, 1) := by decide +kernel
theorem dX13_falls_123 : decode cX13_falls 123 = .ok (.iastore, 1) := by decide +kernel
theorem dX13_falls_124 : decode cX13_falls 124 = .ok (.aload_n 0, 1) := by decide +kernel
theorem dX13_falls_125 : decode cX13_falls 125 = .ok (.iload_n 1, 1) := by decide +kernel
theorem dX13_falls_126 : decode cX13_falls 126 = .ok (.invokevirtual 60, 3) := by decide +kernel
theorem dX13_falls_129 : decode cX13_falls 129 = .ok (.ireturn, 1) := by decide +kernel
theorem dX13_curtain_0 : decode cX13_curtain 0 = .ok (.aload_n 0, 1) := by decide +kernel
theorem dX13_curtain_1 : decode cX13_curtain 1 = .ok (.invokevirtual 63, 3) := by decide +kernel
theorem dX13_curtain_4 : decode cX13_curtain 4 = .ok (.aload_n 0, 1) := by decide +kernel
theorem dX13_curtain_5 : decode cX13_curtain 5 = .ok (.aload_n 0, 1) := by decide +kernel
theorem dX13_curtain_6 : decode cX13_curtain 6 = .ok (.invokevirtual 164, 3) := by decide +kernel
theorem dX13_curtain_9 : decode cX13_curtain 9 = .ok (.invokevirtual 74, 3) := by decide +kernel
theorem dX13_curtain_12 : decode cX13_curtain 12 = .ok (.ireturn, 1) := by decide +kernel
theorem dX13_hour_0 : decode cX13_hour 0 = .ok (.aload_n 0, 1) := by decide +kernel
theorem dX13_hour_1 : decode cX13_hour 1 = .ok (.aload_n 0, 1) := by decide +kernel
theorem dX13_hour_2 : decode cX13_hour 2 = .ok (.getfield 7, 3) := by decide +kernel
theorem dX13_hour_5 : decode cX13_hour 5 = .ok (.iconst 0, 1) := by decide +kernel
theorem dX13_hour_6 : decode cX13_hour 6 = .ok (.iaload, 1) := by decide +kernel
theorem dX13_hour_7 : decode cX13_hour 7 = .ok (.invokevirtual 60, 3) := by decide +kernel
theorem dX13_hour_10 : decode cX13_hour 10 = .ok (.ireturn, 1) := by decide +kernel
theorem dX13_accountCount_0 : decode cX13_accountCount 0 = .ok (.aload_n 0, 1) := by decide +kernel
theorem dX13_accountCount_1 : decode cX13_accountCount 1 = .ok (.aload_n 0, 1) := by decide +kernel
theorem dX13_accountCount_2 : decode cX13_accountCount 2 = .ok (.getfield 7, 3) := by decide +kernel
theorem dX13_accountCount_5 : decode cX13_accountCount 5 = .ok (.iconst 1, 1) := by decide +kernel
theorem dX13_accountCount_6 : decode cX13_accountCount 6 = .ok (.iaload, 1) := by decide +kernel
theorem dX13_accountCount_7 : decode cX13_accountCount 7 = .ok (.invokevirtual 60, 3) := by decide +kernel
theorem dX13_accountCount_10 : decode cX13_accountCount 10 = .ok (.ireturn, 1) := by decide +kernel
theorem dX13_kind_0 : decode cX13_kind 0 = .ok (.aload_n 0, 1) := by decide +kernel
theorem dX13_kind_1 : decode cX13_kind 1 = .ok (.aload_n 0, 1) := by decide +kernel
theorem dX13_kind_2 : decode cX13_kind 2 = .ok (.iload_n 1, 1) := by decide +kernel
theorem dX13_kind_3 : decode cX13_kind 3 = .ok (.invokevirtual 77, 3) := by decide +kernel
theorem dX13_kind_6 : decode cX13_kind 6 = .ok (.ifCond .eq 7, 3) := by decide +kernel
theorem dX13_kind_9 : decode cX13_kind 9 = .ok (.iconst 0, 1) := by decide +kernel
theorem dX13_kind_10 : decode cX13_kind 10 = .ok (.goto 4, 3) := by decide +kernel
theorem dX13_kind_13 : decode cX13_kind 13 = .ok (.iconst 1, 1) := by decide +kernel
theorem dX13_kind_14 : decode cX13_kind 14 = .ok (.putfield 39, 3) := by decide +kernel
theorem dX13_kind_17 : decode cX13_kind 17 = .ok (.aload_n 0, 1) := by decide +kernel
theorem dX13_kind_18 : decode cX13_kind 18 = .ok (.getfield 39, 3) := by decide +kernel
theorem dX13_kind_21 : decode cX13_kind 21 = .ok (.ifCond .ne 16, 3) := by decide +kernel
theorem dX13_kind_24 : decode cX13_kind 24 = .ok (.aload_n 0, 1) := by decide +kernel
theorem dX13_kind_25 : decode cX13_kind 25 = .ok (.getfield 7, 3) := by decide +kernel
theorem dX13_kind_28 : decode cX13_kind 28 = .ok (.bipush 9, 2) := by decide +kernel
theorem dX13_kind_30 : decode cX13_kind 30 = .ok (.iload_n 1, 1) := by decide +kernel
theorem dX13_kind_31 : decode cX13_kind 31 = .ok (.iadd, 1) := by decide +kernel
theorem dX13_kind_32 : decode cX13_kind 32 = .ok (.iaload, 1) := by decide +kernel
theorem dX13_kind_33 : decode cX13_kind 33 = .ok (.i2c, 1) := by decide +kernel
theorem dX13_kind_34 : decode cX13_kind 34 = .ok (.goto 4, 3) := by decide +kernel
theorem dX13_kind_37 : decode cX13_kind 37 = .ok (.iconst 0, 1) := by decide +kernel
theorem dX13_kind_38 : decode cX13_kind 38 = .ok (.ireturn, 1) := by decide +kernel
theorem dX13_parent_0 : decode cX13_parent 0 = .ok (.aload_n 0, 1) := by decide +kernel
theorem dX13_parent_1 : decode cX13_parent 1 = .ok (.iload_n 1, 1) := by decide +kernel
theorem dX13_parent_2 : decode cX13_parent 2 = .ok (.invokevirtual 77, 3) := by decide +kernel
theorem dX13_parent_5 : decode cX13_parent 5 = .ok (.ifCond .ne 9, 3) := by decide +kernel
theorem dX13_parent_8 : decode cX13_parent 8 = .ok (.aload_n 0, 1) := by decide +kernel
theorem dX13_parent_9 : decode cX13_parent 9 = .ok (.iconst 1, 1) := by decide +kernel
theorem dX13_parent_10 : decode cX13_parent 10 = .ok (.invokevirtual 57, 3) := by decide +kernel
theorem dX13_parent_13 : decode cX13_parent 13 = .ok (.ireturn, 1) := by decide +kernel
theorem dX13_parent_14 : decode cX13_parent 14 = .ok (.aload_n 0, 1) := by decide +kernel
theorem dX13_parent_15 : decode cX13_parent 15 = .ok (.getfield 7, 3) := by decide +kernel
theorem dX13_parent_18 : decode cX13_parent 18 = .ok (.bipush 21, 2) := by decide +kernel
theorem dX13_parent_20 : decode cX13_parent 20 = .ok (.iload_n 1, 1) := by decide +kernel
theorem dX13_parent_21 : decode cX13_parent 21 = .ok (.iadd, 1) := by decide +kernel
theorem dX13_parent_22 : decode cX13_parent 22 = .ok (.iaload, 1) := by decide +kernel
theorem dX13_parent_23 : decode cX13_parent 23 = .ok (.ifCond .ne 11, 3) := by decide +kernel
theorem dX13_parent_26 : decode cX13_parent 26 = .ok (.aload_n 0, 1) := by decide +kernel
theorem dX13_parent_27 : decode cX13_parent 27 = .ok (.iconst 2, 1) := by decide +kernel
theorem dX13_parent_28 : decode cX13_parent 28 = .ok (.invokevirtual 57, 3) := by decide +kernel
theorem dX13_parent_31 : decode cX13_parent 31 = .ok (.goto 18, 3) := by decide +kernel
theorem dX13_parent_34 : decode cX13_parent 34 = .ok (.aload_n 0, 1) := by decide +kernel
theorem dX13_parent_35 : decode cX13_parent 35 = .ok (.aload_n 0, 1) := by decide +kernel
theorem dX13_parent_36 : decode cX13_parent 36 = .ok (.getfield 7, 3) := by decide +kernel
theorem dX13_parent_39 : decode cX13_parent 39 = .ok (.bipush 21, 2) := by decide +kernel
theorem dX13_parent_41 : decode cX13_parent 41 = .ok (.iload_n 1, 1) := by decide +kernel
theorem dX13_parent_42 : decode cX13_parent 42 = .ok (.iadd, 1) := by decide +kernel
theorem dX13_parent_43 : decode cX13_parent 43 = .ok (.iaload, 1) := by decide +kernel
theorem dX13_parent_44 : decode cX13_parent 44 = .ok (.iconst 1, 1) := by decide +kernel
theorem dX13_parent_45 : decode cX13_parent 45 = .ok (.isub, 1) := by decide +kernel
theorem dX13_parent_46 : decode cX13_parent 46 = .ok (.invokevirtual 60, 3) := by decide +kernel
theorem dX13_parent_49 : decode cX13_parent 49 = .ok (.ireturn, 1) := by decide +kernel
theorem dX13_debits_0 : decode cX13_debits 0 = .ok (.aload_n 0, 1) := by decide +kernel
theorem dX13_debits_1 : decode cX13_debits 1 = .ok (.iload_n 1, 1) := by decide +kernel
theorem dX13_debits_2 : decode cX13_debits 2 = .ok (.invokevirtual 77, 3) := by decide +kernel
theorem dX13_debits_5 : decode cX13_debits 5 = .ok (.ifCond .eq 20, 3) := by decide +kernel
theorem dX13_debits_8 : decode cX13_debits 8 = .ok (.aload_n 0, 1) := by decide +kernel
theorem dX13_debits_9 : decode cX13_debits 9 = .ok (.aload_n 0, 1) := by decide +kernel
theorem dX13_debits_10 : decode cX13_debits 10 = .ok (.getfield 7, 3) := by decide +kernel
theorem dX13_debits_13 : decode cX13_debits 13 = .ok (.bipush 33, 2) := by decide +kernel
theorem dX13_debits_15 : decode cX13_debits 15 = .ok (.iload_n 1, 1) := by decide +kernel
theorem dX13_debits_16 : decode cX13_debits 16 = .ok (.iadd, 1) := by decide +kernel
theorem dX13_debits_17 : decode cX13_debits 17 = .ok (.iaload, 1) := by decide +kernel
theorem dX13_debits_18 : decode cX13_debits 18 = .ok (.invokevirtual 60, 3) := by decide +kernel
theorem dX13_debits_21 : decode cX13_debits 21 = .ok (.i2l, 1) := by decide +kernel
theorem dX13_debits_22 : decode cX13_debits 22 = .ok (.goto 9, 3) := by decide +kernel
theorem dX13_debits_25 : decode cX13_debits 25 = .ok (.aload_n 0, 1) := by decide +kernel
theorem dX13_debits_26 : decode cX13_debits 26 = .ok (.iconst 1, 1) := by decide +kernel
theorem dX13_debits_27 : decode cX13_debits 27 = .ok (.invokevirtual 57, 3) := by decide +kernel
theorem dX13_debits_30 : decode cX13_debits 30 = .ok (.i2l, 1) := by decide +kernel
theorem dX13_debits_31 : decode cX13_debits 31 = .ok (.lreturn, 1) := by decide +kernel
theorem dX13_credits_0 : decode cX13_credits 0 = .ok (.aload_n 0, 1) := by decide +kernel
theorem dX13_credits_1 : decode cX13_credits 1 = .ok (.iload_n 1, 1) := by decide +kernel
theorem dX13_credits_2 : decode cX13_credits 2 = .ok (.invokevirtual 77, 3) := by decide +kernel
theorem dX13_credits_5 : decode cX13_credits 5 = .ok (.ifCond .eq 20, 3) := by decide +kernel
theorem dX13_credits_8 : decode cX13_credits 8 = .ok (.aload_n 0, 1) := by decide +kernel
theorem dX13_credits_9 : decode cX13_credits 9 = .ok (.aload_n 0, 1) := by decide +kernel
theorem dX13_credits_10 : decode cX13_credits 10 = .ok (.getfield 7, 3) := by decide +kernel
theorem dX13_credits_13 : decode cX13_credits 13 = .ok (.bipush 45, 2) := by decide +kernel
theorem dX13_credits_15 : decode cX13_credits 15 = .ok (.iload_n 1, 1) := by decide +kernel
theorem dX13_credits_16 : decode cX13_credits 16 = .ok (.iadd, 1) := by decide +kernel
theorem dX13_credits_17 : decode cX13_credits 17 = .ok (.iaload, 1) := by decide +kernel
theorem dX13_credits_18 : decode cX13_credits 18 = .ok (.invokevirtual 60, 3) := by decide +kernel
theorem dX13_credits_21 : decode cX13_credits 21 = .ok (.i2l, 1) := by decide +kernel
theorem dX13_credits_22 : decode cX13_credits 22 = .ok (.goto 9, 3) := by decide +kernel
theorem dX13_credits_25 : decode cX13_credits 25 = .ok (.aload_n 0, 1) := by decide +kernel
theorem dX13_credits_26 : decode cX13_credits 26 = .ok (.iconst 1, 1) := by decide +kernel
theorem dX13_credits_27 : decode cX13_credits 27 = .ok (.invokevirtual 57, 3) := by decide +kernel
theorem dX13_credits_30 : decode cX13_credits 30 = .ok (.i2l, 1) := by decide +kernel
theorem dX13_credits_31 : decode cX13_credits 31 = .ok (.lreturn, 1) := by decide +kernel
theorem dX13_balance_0 : decode cX13_balance 0 = .ok (.aload_n 0, 1) := by decide +kernel
theorem dX13_balance_1 : decode cX13_balance 1 = .ok (.iload_n 1, 1) := by decide +kernel
theorem dX13_balance_2 : decode cX13_balance 2 = .ok (.invokevirtual 77, 3) := by decide +kernel
theorem dX13_balance_5 : decode cX13_balance 5 = .ok (.ifCond .eq 16, 3) := by decide +kernel
theorem dX13_balance_8 : decode cX13_balance 8 = .ok (.aload_n 0, 1) := by decide +kernel
theorem dX13_balance_9 : decode cX13_balance 9 = .ok (.aload_n 0, 1) := by decide +kernel
theorem dX13_balance_10 : decode cX13_balance 10 = .ok (.iload_n 1, 1) := by decide +kernel
theorem dX13_balance_11 : decode cX13_balance 11 = .ok (.invokevirtual 53, 3) := by decide +kernel
theorem dX13_balance_14 : decode cX13_balance 14 = .ok (.invokevirtual 60, 3) := by decide +kernel
theorem dX13_balance_17 : decode cX13_balance 17 = .ok (.i2l, 1) := by decide +kernel
theorem dX13_balance_18 : decode cX13_balance 18 = .ok (.goto 9, 3) := by decide +kernel
theorem dX13_balance_21 : decode cX13_balance 21 = .ok (.aload_n 0, 1) := by decide +kernel
theorem dX13_balance_22 : decode cX13_balance 22 = .ok (.iconst 1, 1) := by decide +kernel
theorem dX13_balance_23 : decode cX13_balance 23 = .ok (.invokevirtual 57, 3) := by decide +kernel
theorem dX13_balance_26 : decode cX13_balance 26 = .ok (.i2l, 1) := by decide +kernel
theorem dX13_balance_27 : decode cX13_balance 27 = .ok (.lreturn, 1) := by decide +kernel
theorem dX13_isBelow_0 : decode cX13_isBelow 0 = .ok (.iload_n 1, 1) := by decide +kernel
theorem dX13_isBelow_1 : decode cX13_isBelow 1 = .ok (.istore_n 3, 1) := by decide +kernel
theorem dX13_isBelow_2 : decode cX13_isBelow 2 = .ok (.iload_n 3, 1) := by decide +kernel
theorem dX13_isBelow_3 : decode cX13_isBelow 3 = .ok (.iload_n 2, 1) := by decide +kernel
theorem dX13_isBelow_4 : decode cX13_isBelow 4 = .ok (.if_icmp .le 30, 3) := by decide +kernel
theorem dX13_isBelow_7 : decode cX13_isBelow 7 = .ok (.aload_n 0, 1) := by decide +kernel
theorem dX13_isBelow_8 : decode cX13_isBelow 8 = .ok (.getfield 7, 3) := by decide +kernel
theorem dX13_isBelow_11 : decode cX13_isBelow 11 = .ok (.bipush 21, 2) := by decide +kernel
theorem dX13_isBelow_13 : decode cX13_isBelow 13 = .ok (.iload_n 3, 1) := by decide +kernel
theorem dX13_isBelow_14 : decode cX13_isBelow 14 = .ok (.iadd, 1) := by decide +kernel
theorem dX13_isBelow_15 : decode cX13_isBelow 15 = .ok (.iaload, 1) := by decide +kernel
theorem dX13_isBelow_16 : decode cX13_isBelow 16 = .ok (.ifCond .le 18, 3) := by decide +kernel
theorem dX13_isBelow_19 : decode cX13_isBelow 19 = .ok (.aload_n 0, 1) := by decide +kernel
theorem dX13_isBelow_20 : decode cX13_isBelow 20 = .ok (.getfield 7, 3) := by decide +kernel
theorem dX13_isBelow_23 : decode cX13_isBelow 23 = .ok (.bipush 21, 2) := by decide +kernel
theorem dX13_isBelow_25 : decode cX13_isBelow 25 = .ok (.iload_n 3, 1) := by decide +kernel
theorem dX13_isBelow_26 : decode cX13_isBelow 26 = .ok (.iadd, 1) := by decide +kernel
theorem dX13_isBelow_27 : decode cX13_isBelow 27 = .ok (.iaload, 1) := by decide +kernel
theorem dX13_isBelow_28 : decode cX13_isBelow 28 = .ok (.iconst 1, 1) := by decide +kernel
theorem dX13_isBelow_29 : decode cX13_isBelow 29 = .ok (.isub, 1) := by decide +kernel
theorem dX13_isBelow_30 : decode cX13_isBelow 30 = .ok (.istore_n 3, 1) := by decide +kernel
theorem dX13_isBelow_31 : decode cX13_isBelow 31 = .ok (.goto (-29), 3) := by decide +kernel
theorem dX13_isBelow_34 : decode cX13_isBelow 34 = .ok (.iload_n 3, 1) := by decide +kernel
theorem dX13_isBelow_35 : decode cX13_isBelow 35 = .ok (.iload_n 2, 1) := by decide +kernel
theorem dX13_isBelow_36 : decode cX13_isBelow 36 = .ok (.if_icmp .ne 7, 3) := by decide +kernel
theorem dX13_isBelow_39 : decode cX13_isBelow 39 = .ok (.iconst 1, 1) := by decide +kernel
theorem dX13_isBelow_40 : decode cX13_isBelow 40 = .ok (.goto 4, 3) := by decide +kernel
theorem dX13_isBelow_43 : decode cX13_isBelow 43 = .ok (.iconst 0, 1) := by decide +kernel
theorem dX13_isBelow_44 : decode cX13_isBelow 44 = .ok (.ireturn, 1) := by decide +kernel
theorem dX13_treeBalance_0 : decode cX13_treeBalance 0 = .ok (.aload_n 0, 1) := by decide +kernel
theorem dX13_treeBalance_1 : decode cX13_treeBalance 1 = .ok (.iload_n 1, 1) := by decide +kernel
theorem dX13_treeBalance_2 : decode cX13_treeBalance 2 = .ok (.invokevirtual 77, 3) := by decide +kernel
theorem dX13_treeBalance_5 : decode cX13_treeBalance 5 = .ok (.ifCond .ne 10, 3) := by decide +kernel
theorem dX13_treeBalance_8 : decode cX13_treeBalance 8 = .ok (.aload_n 0, 1) := by decide +kernel
theorem dX13_treeBalance_9 : decode cX13_treeBalance 9 = .ok (.iconst 1, 1) := by decide +kernel
theorem dX13_treeBalance_10 : decode cX13_treeBalance 10 = .ok (.invokevirtual 57, 3) := by decide +kernel
theorem dX13_treeBalance_13 : decode cX13_treeBalance 13 = .ok (.i2l, 1) := by decide +kernel
theorem dX13_treeBalance_14 : decode cX13_treeBalance 14 = .ok (.lreturn, 1) := by decide +kernel
theorem dX13_treeBalance_15 : decode cX13_treeBalance 15 = .ok (.iconst 0, 1) := by decide +kernel
theorem dX13_treeBalance_16 : decode cX13_treeBalance 16 = .ok (.istore_n 2, 1) := by decide +kernel
theorem dX13_treeBalance_17 : decode cX13_treeBalance 17 = .ok (.iload_n 1, 1) := by decide +kernel
theorem dX13_treeBalance_18 : decode cX13_treeBalance 18 = .ok (.istore_n 3, 1) := by decide +kernel
theorem dX13_treeBalance_19 : decode cX13_treeBalance 19 = .ok (.iload_n 3, 1) := by decide +kernel
theorem dX13_treeBalance_20 : decode cX13_treeBalance 20 = .ok (.aload_n 0, 1) := by decide +kernel
theorem dX13_treeBalance_21 : decode cX13_treeBalance 21 = .ok (.getfield 7, 3) := by decide +kernel
theorem dX13_treeBalance_24 : decode cX13_treeBalance 24 = .ok (.iconst 1, 1) := by decide +kernel
theorem dX13_treeBalance_25 : decode cX13_treeBalance 25 = .ok (.iaload, 1) := by decide +kernel
theorem dX13_treeBalance_26 : decode cX13_treeBalance 26 = .ok (.if_icmp .ge 30, 3) := by decide +kernel
theorem dX13_treeBalance_29 : decode cX13_treeBalance 29 = .ok (.iload_n 2, 1) := by decide +kernel
theorem dX13_treeBalance_30 : decode cX13_treeBalance 30 = .ok (.aload_n 0, 1) := by decide +kernel
theorem dX13_treeBalance_31 : decode cX13_treeBalance 31 = .ok (.iload_n 3, 1) := by decide +kernel
theorem dX13_treeBalance_32 : decode cX13_treeBalance 32 = .ok (.iload_n 1, 1) := by decide +kernel
theorem dX13_treeBalance_33 : decode cX13_treeBalance 33 = .ok (.invokevirtual 167, 3) := by decide +kernel
theorem dX13_treeBalance_36 : decode cX13_treeBalance 36 = .ok (.ifCond .eq 11, 3) := by decide +kernel
theorem dX13_treeBalance_39 : decode cX13_treeBalance 39 = .ok (.aload_n 0, 1) := by decide +kernel
theorem dX13_treeBalance_40 : decode cX13_treeBalance 40 = .ok (.iload_n 3, 1) := by decide +kernel
theorem dX13_treeBalance_41 : decode cX13_treeBalance 41 = .ok (.invokevirtual 53, 3) := by decide +kernel
theorem dX13_treeBalance_44 : decode cX13_treeBalance 44 = .ok (.goto 4, 3) := by decide +kernel
theorem dX13_treeBalance_47 : decode cX13_treeBalance 47 = .ok (.iconst 0, 1) := by decide +kernel
theorem dX13_treeBalance_48 : decode cX13_treeBalance 48 = .ok (.iadd, 1) := by decide +kernel
theorem dX13_treeBalance_49 : decode cX13_treeBalance 49 = .ok (.istore_n 2, 1) := by decide +kernel
theorem dX13_treeBalance_50 : decode cX13_treeBalance 50 = .ok (.iinc 3 1, 3) := by decide +kernel
theorem dX13_treeBalance_53 : decode cX13_treeBalance 53 = .ok (.goto (-34), 3) := by decide +kernel
theorem dX13_treeBalance_56 : decode cX13_treeBalance 56 = .ok (.aload_n 0, 1) := by decide +kernel
theorem dX13_treeBalance_57 : decode cX13_treeBalance 57 = .ok (.iload_n 2, 1) := by decide +kernel
theorem dX13_treeBalance_58 : decode cX13_treeBalance 58 = .ok (.invokevirtual 60, 3) := by decide +kernel
theorem dX13_treeBalance_61 : decode cX13_treeBalance 61 = .ok (.i2l, 1) := by decide +kernel
theorem dX13_treeBalance_62 : decode cX13_treeBalance 62 = .ok (.lreturn, 1) := by decide +kernel
theorem dX13_treeBalanceByParents_0 : decode cX13_treeBalanceByParents 0 = .ok (.aload_n 0, 1) := by decide +kernel
theorem dX13_treeBalanceByParents_1 : decode cX13_treeBalanceByParents 1 = .ok (.iload_n 1, 1) := by decide +kernel
theorem dX13_treeBalanceByParents_2 : decode cX13_treeBalanceByParents 2 = .ok (.invokevirtual 170, 3) := by decide +kernel
theorem dX13_treeBalanceByParents_5 : decode cX13_treeBalanceByParents 5 = .ok (.lreturn, 1) := by decide +kernel
theorem dX13_treeSize_0 : decode cX13_treeSize 0 = .ok (.aload_n 0, 1) := by decide +kernel
theorem dX13_treeSize_1 : decode cX13_treeSize 1 = .ok (.iload_n 1, 1) := by decide +kernel
theorem dX13_treeSize_2 : decode cX13_treeSize 2 = .ok (.invokevirtual 77, 3) := by decide +kernel
theorem dX13_treeSize_5 : decode cX13_treeSize 5 = .ok (.ifCond .ne 9, 3) := by decide +kernel
theorem dX13_treeSize_8 : decode cX13_treeSize 8 = .ok (.aload_n 0, 1) := by decide +kernel
theorem dX13_treeSize_9 : decode cX13_treeSize 9 = .ok (.iconst 1, 1) := by decide +kernel
theorem dX13_treeSize_10 : decode cX13_treeSize 10 = .ok (.invokevirtual 57, 3) := by decide +kernel
theorem dX13_treeSize_13 : decode cX13_treeSize 13 = .ok (.ireturn, 1) := by decide +kernel
theorem dX13_treeSize_14 : decode cX13_treeSize 14 = .ok (.iconst 0, 1) := by decide +kernel
theorem dX13_treeSize_15 : decode cX13_treeSize 15 = .ok (.istore_n 2, 1) := by decide +kernel
theorem dX13_treeSize_16 : decode cX13_treeSize 16 = .ok (.iload_n 1, 1) := by decide +kernel
theorem dX13_treeSize_17 : decode cX13_treeSize 17 = .ok (.istore_n 3, 1) := by decide +kernel
theorem dX13_treeSize_18 : decode cX13_treeSize 18 = .ok (.iload_n 3, 1) := by decide +kernel
theorem dX13_treeSize_19 : decode cX13_treeSize 19 = .ok (.aload_n 0, 1) := by decide +kernel
theorem dX13_treeSize_20 : decode cX13_treeSize 20 = .ok (.getfield 7, 3) := by decide +kernel
theorem dX13_treeSize_23 : decode cX13_treeSize 23 = .ok (.iconst 1, 1) := by decide +kernel
theorem dX13_treeSize_24 : decode cX13_treeSize 24 = .ok (.iaload, 1) := by decide +kernel
theorem dX13_treeSize_25 : decode cX13_treeSize 25 = .ok (.if_icmp .ge 26, 3) := by decide +kernel
theorem dX13_treeSize_28 : decode cX13_treeSize 28 = .ok (.iload_n 2, 1) := by decide +kernel
theorem dX13_treeSize_29 : decode cX13_treeSize 29 = .ok (.aload_n 0, 1) := by decide +kernel
theorem dX13_treeSize_30 : decode cX13_treeSize 30 = .ok (.iload_n 3, 1) := by decide +kernel
theorem dX13_treeSize_31 : decode cX13_treeSize 31 = .ok (.iload_n 1, 1) := by decide +kernel
theorem dX13_treeSize_32 : decode cX13_treeSize 32 = .ok (.invokevirtual 167, 3) := by decide +kernel
theorem dX13_treeSize_35 : decode cX13_treeSize 35 = .ok (.ifCond .eq 7, 3) := by decide +kernel
theorem dX13_treeSize_38 : decode cX13_treeSize 38 = .ok (.iconst 1, 1) := by decide +kernel
theorem dX13_treeSize_39 : decode cX13_treeSize 39 = .ok (.goto 4, 3) := by decide +kernel
theorem dX13_treeSize_42 : decode cX13_treeSize 42 = .ok (.iconst 0, 1) := by decide +kernel
theorem dX13_treeSize_43 : decode cX13_treeSize 43 = .ok (.iadd, 1) := by decide +kernel
theorem dX13_treeSize_44 : decode cX13_treeSize 44 = .ok (.istore_n 2, 1) := by decide +kernel
theorem dX13_treeSize_45 : decode cX13_treeSize 45 = .ok (.iinc 3 1, 3) := by decide +kernel
theorem dX13_treeSize_48 : decode cX13_treeSize 48 = .ok (.goto (-30), 3) := by decide +kernel
theorem dX13_treeSize_51 : decode cX13_treeSize 51 = .ok (.aload_n 0, 1) := by decide +kernel
theorem dX13_treeSize_52 : decode cX13_treeSize 52 = .ok (.iload_n 2, 1) := by decide +kernel
theorem dX13_treeSize_53 : decode cX13_treeSize 53 = .ok (.invokevirtual 60, 3) := by decide +kernel
theorem dX13_treeSize_56 : decode cX13_treeSize 56 = .ok (.ireturn, 1) := by decide +kernel
theorem dX13_sumOfDebits_0 : decode cX13_sumOfDebits 0 = .ok (.iconst 0, 1) := by decide +kernel
theorem dX13_sumOfDebits_1 : decode cX13_sumOfDebits 1 = .ok (.istore_n 1, 1) := by decide +kernel
theorem dX13_sumOfDebits_2 : decode cX13_sumOfDebits 2 = .ok (.iconst 0, 1) := by decide +kernel
theorem dX13_sumOfDebits_3 : decode cX13_sumOfDebits 3 = .ok (.istore_n 2, 1) := by decide +kernel
theorem dX13_sumOfDebits_4 : decode cX13_sumOfDebits 4 = .ok (.iload_n 2, 1) := by decide +kernel
theorem dX13_sumOfDebits_5 : decode cX13_sumOfDebits 5 = .ok (.aload_n 0, 1) := by decide +kernel
theorem dX13_sumOfDebits_6 : decode cX13_sumOfDebits 6 = .ok (.getfield 7, 3) := by decide +kernel
theorem dX13_sumOfDebits_9 : decode cX13_sumOfDebits 9 = .ok (.iconst 1, 1) := by decide +kernel
theorem dX13_sumOfDebits_10 : decode cX13_sumOfDebits 10 = .ok (.iaload, 1) := by decide +kernel
theorem dX13_sumOfDebits_11 : decode cX13_sumOfDebits 11 = .ok (.if_icmp .ge 21, 3) := by decide +kernel
theorem dX13_sumOfDebits_14 : decode cX13_sumOfDebits 14 = .ok (.iload_n 1, 1) := by decide +kernel
theorem dX13_sumOfDebits_15 : decode cX13_sumOfDebits 15 = .ok (.aload_n 0, 1) := by decide +kernel
theorem dX13_sumOfDebits_16 : decode cX13_sumOfDebits 16 = .ok (.getfield 7, 3) := by decide +kernel
theorem dX13_sumOfDebits_19 : decode cX13_sumOfDebits 19 = .ok (.bipush 33, 2) := by decide +kernel
theorem dX13_sumOfDebits_21 : decode cX13_sumOfDebits 21 = .ok (.iload_n 2, 1) := by decide +kernel
theorem dX13_sumOfDebits_22 : decode cX13_sumOfDebits 22 = .ok (.iadd, 1) := by decide +kernel
theorem dX13_sumOfDebits_23 : decode cX13_sumOfDebits 23 = .ok (.iaload, 1) := by decide +kernel
theorem dX13_sumOfDebits_24 : decode cX13_sumOfDebits 24 = .ok (.iadd, 1) := by decide +kernel
theorem dX13_sumOfDebits_25 : decode cX13_sumOfDebits 25 = .ok (.istore_n 1, 1) := by decide +kernel
theorem dX13_sumOfDebits_26 : decode cX13_sumOfDebits 26 = .ok (.iinc 2 1, 3) := by decide +kernel
theorem dX13_sumOfDebits_29 : decode cX13_sumOfDebits 29 = .ok (.goto (-25), 3) := by decide +kernel
theorem dX13_sumOfDebits_32 : decode cX13_sumOfDebits 32 = .ok (.aload_n 0, 1) := by decide +kernel
theorem dX13_sumOfDebits_33 : decode cX13_sumOfDebits 33 = .ok (.iload_n 1, 1) := by decide +kernel
theorem dX13_sumOfDebits_34 : decode cX13_sumOfDebits 34 = .ok (.invokevirtual 60, 3) := by decide +kernel
theorem dX13_sumOfDebits_37 : decode cX13_sumOfDebits 37 = .ok (.i2l, 1) := by decide +kernel
theorem dX13_sumOfDebits_38 : decode cX13_sumOfDebits 38 = .ok (.lreturn, 1) := by decide +kernel
theorem dX13_sumOfCredits_0 : decode cX13_sumOfCredits 0 = .ok (.aload_n 0, 1) := by decide +kernel
theorem dX13_sumOfCredits_1 : decode cX13_sumOfCredits 1 = .ok (.invokevirtual 174, 3) := by decide +kernel
theorem dX13_sumOfCredits_4 : decode cX13_sumOfCredits 4 = .ok (.lreturn, 1) := by decide +kernel
theorem dX13_profit_0 : decode cX13_profit 0 = .ok (.aload_n 0, 1) := by decide +kernel
theorem dX13_profit_1 : decode cX13_profit 1 = .ok (.aload_n 0, 1) := by decide +kernel
theorem dX13_profit_2 : decode cX13_profit 2 = .ok (.invokevirtual 161, 3) := by decide +kernel
theorem dX13_profit_5 : decode cX13_profit 5 = .ok (.invokevirtual 60, 3) := by decide +kernel
theorem dX13_profit_8 : decode cX13_profit 8 = .ok (.i2l, 1) := by decide +kernel
theorem dX13_profit_9 : decode cX13_profit 9 = .ok (.lreturn, 1) := by decide +kernel
theorem dX13_entryCount_0 : decode cX13_entryCount 0 = .ok (.aload_n 0, 1) := by decide +kernel
theorem dX13_entryCount_1 : decode cX13_entryCount 1 = .ok (.aload_n 0, 1) := by decide +kernel
theorem dX13_entryCount_2 : decode cX13_entryCount 2 = .ok (.getfield 7, 3) := by decide +kernel
theorem dX13_entryCount_5 : decode cX13_entryCount 5 = .ok (.iconst 2, 1) := by decide +kernel
theorem dX13_entryCount_6 : decode cX13_entryCount 6 = .ok (.iaload, 1) := by decide +kernel
theorem dX13_entryCount_7 : decode cX13_entryCount 7 = .ok (.invokevirtual 60, 3) := by decide +kernel
theorem dX13_entryCount_10 : decode cX13_entryCount 10 = .ok (.ireturn, 1) := by decide +kernel
theorem dX13_entryAt_0 : decode cX13_entryAt 0 = .ok (.iload_n 1, 1) := by decide +kernel
theorem dX13_entryAt_1 : decode cX13_entryAt 1 = .ok (.iconst 0, 1) := by decide +kernel
theorem dX13_entryAt_2 : decode cX13_entryAt 2 = .ok (.aload_n 0, 1) := by decide +kernel
theorem dX13_entryAt_3 : decode cX13_entryAt 3 = .ok (.getfield 7, 3) := by decide +kernel
theorem dX13_entryAt_6 : decode cX13_entryAt 6 = .ok (.iconst 2, 1) := by decide +kernel
theorem dX13_entryAt_7 : decode cX13_entryAt 7 = .ok (.iaload, 1) := by decide +kernel
theorem dX13_entryAt_8 : decode cX13_entryAt 8 = .ok (.iconst 1, 1) := by decide +kernel
theorem dX13_entryAt_9 : decode cX13_entryAt 9 = .ok (.isub, 1) := by decide +kernel
theorem dX13_entryAt_10 : decode cX13_entryAt 10 = .ok (.invokestatic 49, 3) := by decide +kernel
theorem dX13_entryAt_13 : decode cX13_entryAt 13 = .ok (.ifCond .eq 25, 3) := by decide +kernel
theorem dX13_entryAt_16 : decode cX13_entryAt 16 = .ok (.aload_n 0, 1) := by decide +kernel
theorem dX13_entryAt_17 : decode cX13_entryAt 17 = .ok (.aload_n 0, 1) := by decide +kernel
theorem dX13_entryAt_18 : decode cX13_entryAt 18 = .ok (.getfield 7, 3) := by decide +kernel
theorem dX13_entryAt_21 : decode cX13_entryAt 21 = .ok (.iconst 3, 1) := by decide +kernel
theorem dX13_entryAt_22 : decode cX13_entryAt 22 = .ok (.iaload, 1) := by decide +kernel
theorem dX13_entryAt_23 : decode cX13_entryAt 23 = .ok (.aload_n 0, 1) := by decide +kernel
theorem dX13_entryAt_24 : decode cX13_entryAt 24 = .ok (.getfield 7, 3) := by decide +kernel
theorem dX13_entryAt_27 : decode cX13_entryAt 27 = .ok (.iconst 2, 1) := by decide +kernel
theorem dX13_entryAt_28 : decode cX13_entryAt 28 = .ok (.iaload, 1) := by decide +kernel
theorem dX13_entryAt_29 : decode cX13_entryAt 29 = .ok (.isub, 1) := by decide +kernel
theorem dX13_entryAt_30 : decode cX13_entryAt 30 = .ok (.iload_n 1, 1) := by decide +kernel
theorem dX13_entryAt_31 : decode cX13_entryAt 31 = .ok (.iadd, 1) := by decide +kernel
theorem dX13_entryAt_32 : decode cX13_entryAt 32 = .ok (.invokevirtual 60, 3) := by decide +kernel
theorem dX13_entryAt_35 : decode cX13_entryAt 35 = .ok (.goto 8, 3) := by decide +kernel
theorem dX13_entryAt_38 : decode cX13_entryAt 38 = .ok (.aload_n 0, 1) := by decide +kernel
theorem dX13_entryAt_39 : decode cX13_entryAt 39 = .ok (.iconst 1, 1) := by decide +kernel
theorem dX13_entryAt_40 : decode cX13_entryAt 40 = .ok (.invokevirtual 57, 3) := by decide +kernel
theorem dX13_entryAt_43 : decode cX13_entryAt 43 = .ok (.ireturn, 1) := by decide +kernel
theorem dX13_entryNumber_0 : decode cX13_entryNumber 0 = .ok (.aload_n 0, 1) := by decide +kernel
theorem dX13_entryNumber_1 : decode cX13_entryNumber 1 = .ok (.iload_n 2, 1) := by decide +kernel
theorem dX13_entryNumber_2 : decode cX13_entryNumber 2 = .ok (.invokevirtual 91, 3) := by decide +kernel
theorem dX13_entryNumber_5 : decode cX13_entryNumber 5 = .ok (.istore_n 3, 1) := by decide +kernel
theorem dX13_entryNumber_6 : decode cX13_entryNumber 6 = .ok (.iload_n 3, 1) := by decide +kernel
theorem dX13_entryNumber_7 : decode cX13_entryNumber 7 = .ok (.iconst (-1), 1) := by decide +kernel
theorem dX13_entryNumber_8 : decode cX13_entryNumber 8 = .ok (.if_icmp .ne 11, 3) := by decide +kernel
theorem dX13_entryNumber_11 : decode cX13_entryNumber 11 = .ok (.aload_n 0, 1) := by decide +kernel
theorem dX13_entryNumber_12 : decode cX13_entryNumber 12 = .ok (.iconst 1, 1) := by decide +kernel
theorem dX13_entryNumber_13 : decode cX13_entryNumber 13 = .ok (.invokevirtual 57, 3) := by decide +kernel
theorem dX13_entryNumber_16 : decode cX13_entryNumber 16 = .ok (.goto 15, 3) := by decide +kernel
theorem dX13_entryNumber_19 : decode cX13_entryNumber 19 = .ok (.aload_n 0, 1) := by decide +kernel
theorem dX13_entryNumber_20 : decode cX13_entryNumber 20 = .ok (.aload_n 0, 1) := by decide +kernel
theorem dX13_entryNumber_21 : decode cX13_entryNumber 21 = .ok (.getfield 7, 3) := by decide +kernel
theorem dX13_entryNumber_24 : decode cX13_entryNumber 24 = .ok (.iload_n 1, 1) := by decide +kernel
theorem dX13_entryNumber_25 : decode cX13_entryNumber 25 = .ok (.iload_n 3, 1) := by decide +kernel
theorem dX13_entryNumber_26 : decode cX13_entryNumber 26 = .ok (.iadd, 1) := by decide +kernel
theorem dX13_entryNumber_27 : decode cX13_entryNumber 27 = .ok (.iaload, 1) := by decide +kernel
theorem dX13_entryNumber_28 : decode cX13_entryNumber 28 = .ok (.invokevirtual 60, 3) := by decide +kernel
theorem dX13_entryNumber_31 : decode cX13_entryNumber 31 = .ok (.ireturn, 1) := by decide +kernel
theorem dX13_debitOf_0 : decode cX13_debitOf 0 = .ok (.aload_n 0, 1) := by decide +kernel
theorem dX13_debitOf_1 : decode cX13_debitOf 1 = .ok (.bipush 57, 2) := by decide +kernel
theorem dX13_debitOf_3 : decode cX13_debitOf 3 = .ok (.iload_n 1, 1) := by decide +kernel
theorem dX13_debitOf_4 : decode cX13_debitOf 4 = .ok (.invokevirtual 178, 3) := by decide +kernel
theorem dX13_debitOf_7 : decode cX13_debitOf 7 = .ok (.ireturn, 1) := by decide +kernel
theorem dX13_creditOf_0 : decode cX13_creditOf 0 = .ok (.aload_n 0, 1) := by decide +kernel
theorem dX13_creditOf_1 : decode cX13_creditOf 1 = .ok (.bipush 77, 2) := by decide +kernel
theorem dX13_creditOf_3 : decode cX13_creditOf 3 = .ok (.iload_n 1, 1) := by decide +kernel
theorem dX13_creditOf_4 : decode cX13_creditOf 4 = .ok (.invokevirtual 178, 3) := by decide +kernel
theorem dX13_creditOf_7 : decode cX13_creditOf 7 = .ok (.ireturn, 1) := by decide +kernel
theorem dX13_amountOf_0 : decode cX13_amountOf 0 = .ok (.aload_n 0, 1) := by decide +kernel
theorem dX13_amountOf_1 : decode cX13_amountOf 1 = .ok (.bipush 97, 2) := by decide +kernel
theorem dX13_amountOf_3 : decode cX13_amountOf 3 = .ok (.iload_n 1, 1) := by decide +kernel
theorem dX13_amountOf_4 : decode cX13_amountOf 4 = .ok (.invokevirtual 178, 3) := by decide +kernel
theorem dX13_amountOf_7 : decode cX13_amountOf 7 = .ok (.i2l, 1) := by decide +kernel
theorem dX13_amountOf_8 : decode cX13_amountOf 8 = .ok (.lreturn, 1) := by decide +kernel
theorem dX13_hourOf_0 : decode cX13_hourOf 0 = .ok (.aload_n 0, 1) := by decide +kernel
theorem dX13_hourOf_1 : decode cX13_hourOf 1 = .ok (.bipush 117, 2) := by decide +kernel
theorem dX13_hourOf_3 : decode cX13_hourOf 3 = .ok (.iload_n 1, 1) := by decide +kernel
theorem dX13_hourOf_4 : decode cX13_hourOf 4 = .ok (.invokevirtual 178, 3) := by decide +kernel
theorem dX13_hourOf_7 : decode cX13_hourOf 7 = .ok (.ireturn, 1) := by decide +kernel
theorem dX13_isReversed_0 : decode cX13_isReversed 0 = .ok (.aload_n 0, 1) := by decide +kernel
theorem dX13_isReversed_1 : decode cX13_isReversed 1 = .ok (.sipush 137, 3) := by decide +kernel
theorem dX13_isReversed_4 : decode cX13_isReversed 4 = .ok (.iload_n 1, 1) := by decide +kernel
theorem dX13_isReversed_5 : decode cX13_isReversed 5 = .ok (.invokevirtual 178, 3) := by decide +kernel
theorem dX13_isReversed_8 : decode cX13_isReversed 8 = .ok (.iconst 1, 1) := by decide +kernel
theorem dX13_isReversed_9 : decode cX13_isReversed 9 = .ok (.if_icmp .ne 7, 3) := by decide +kernel
theorem dX13_isReversed_12 : decode cX13_isReversed 12 = .ok (.iconst 1, 1) := by decide +kernel
theorem dX13_isReversed_13 : decode cX13_isReversed 13 = .ok (.goto 4, 3) := by decide +kernel
theorem dX13_isReversed_16 : decode cX13_isReversed 16 = .ok (.iconst 0, 1) := by decide +kernel
theorem dX13_isReversed_17 : decode cX13_isReversed 17 = .ok (.ireturn, 1) := by decide +kernel
theorem dX13_promptCount_0 : decode cX13_promptCount 0 = .ok (.aload_n 0, 1) := by decide +kernel
theorem dX13_promptCount_1 : decode cX13_promptCount 1 = .ok (.aload_n 0, 1) := by decide +kernel
theorem dX13_promptCount_2 : decode cX13_promptCount 2 = .ok (.getfield 7, 3) := by decide +kernel
theorem dX13_promptCount_5 : decode cX13_promptCount 5 = .ok (.iconst 4, 1) := by decide +kernel
theorem dX13_promptCount_6 : decode cX13_promptCount 6 = .ok (.iaload, 1) := by decide +kernel
theorem dX13_promptCount_7 : decode cX13_promptCount 7 = .ok (.invokevirtual 60, 3) := by decide +kernel
theorem dX13_promptCount_10 : decode cX13_promptCount 10 = .ok (.ireturn, 1) := by decide +kernel
theorem dX13_waits_0 : decode cX13_waits 0 = .ok (.aload_n 0, 1) := by decide +kernel
theorem dX13_waits_1 : decode cX13_waits 1 = .ok (.getfield 7, 3) := by decide +kernel
theorem dX13_waits_4 : decode cX13_waits 4 = .ok (.sipush 175, 3) := by decide +kernel
theorem dX13_waits_7 : decode cX13_waits 7 = .ok (.iload_n 1, 1) := by decide +kernel
theorem dX13_waits_8 : decode cX13_waits 8 = .ok (.iadd, 1) := by decide +kernel
theorem dX13_waits_9 : decode cX13_waits 9 = .ok (.iaload, 1) := by decide +kernel
theorem dX13_waits_10 : decode cX13_waits 10 = .ok (.aload_n 0, 1) := by decide +kernel
theorem dX13_waits_11 : decode cX13_waits 11 = .ok (.getfield 7, 3) := by decide +kernel
theorem dX13_waits_14 : decode cX13_waits 14 = .ok (.iconst 0, 1) := by decide +kernel
theorem dX13_waits_15 : decode cX13_waits 15 = .ok (.iaload, 1) := by decide +kernel
theorem dX13_waits_16 : decode cX13_waits 16 = .ok (.aload_n 0, 1) := by decide +kernel
theorem dX13_waits_17 : decode cX13_waits 17 = .ok (.getfield 7, 3) := by decide +kernel
theorem dX13_waits_20 : decode cX13_waits 20 = .ok (.sipush 187, 3) := by decide +kernel
theorem dX13_waits_23 : decode cX13_waits 23 = .ok (.iload_n 1, 1) := by decide +kernel
theorem dX13_waits_24 : decode cX13_waits 24 = .ok (.iadd, 1) := by decide +kernel
theorem dX13_waits_25 : decode cX13_waits 25 = .ok (.iaload, 1) := by decide +kernel
theorem dX13_waits_26 : decode cX13_waits 26 = .ok (.isub, 1) := by decide +kernel
theorem dX13_waits_27 : decode cX13_waits 27 = .ok (.isub, 1) := by decide +kernel
theorem dX13_waits_28 : decode cX13_waits 28 = .ok (.ireturn, 1) := by decide +kernel
theorem dX13_hoursUntilPrompt_0 : decode cX13_hoursUntilPrompt 0 = .ok (.aload_n 0, 1) := by decide +kernel
theorem dX13_hoursUntilPrompt_1 : decode cX13_hoursUntilPrompt 1 = .ok (.iload_n 1, 1) := by decide +kernel
theorem dX13_hoursUntilPrompt_2 : decode cX13_hoursUntilPrompt 2 = .ok (.invokevirtual 101, 3) := by decide +kernel
theorem dX13_hoursUntilPrompt_5 : decode cX13_hoursUntilPrompt 5 = .ok (.ifCond .eq 15, 3) := by decide +kernel
theorem dX13_hoursUntilPrompt_8 : decode cX13_hoursUntilPrompt 8 = .ok (.aload_n 0, 1) := by decide +kernel
theorem dX13_hoursUntilPrompt_9 : decode cX13_hoursUntilPrompt 9 = .ok (.aload_n 0, 1) := by decide +kernel
theorem dX13_hoursUntilPrompt_10 : decode cX13_hoursUntilPrompt 10 = .ok (.iload_n 1, 1) := by decide +kernel
theorem dX13_hoursUntilPrompt_11 : decode cX13_hoursUntilPrompt 11 = .ok (.invokevirtual 181, 3) := by decide +kernel
theorem dX13_hoursUntilPrompt_14 : decode cX13_hoursUntilPrompt 14 = .ok (.invokevirtual 60, 3) := by decide +kernel
theorem dX13_hoursUntilPrompt_17 : decode cX13_hoursUntilPrompt 17 = .ok (.goto 8, 3) := by decide +kernel
theorem dX13_hoursUntilPrompt_20 : decode cX13_hoursUntilPrompt 20 = .ok (.aload_n 0, 1) := by decide +kernel
theorem dX13_hoursUntilPrompt_21 : decode cX13_hoursUntilPrompt 21 = .ok (.iconst 1, 1) := by decide +kernel
theorem dX13_hoursUntilPrompt_22 : decode cX13_hoursUntilPrompt 22 = .ok (.invokevirtual 57, 3) := by decide +kernel
theorem dX13_hoursUntilPrompt_25 : decode cX13_hoursUntilPrompt 25 = .ok (.ireturn, 1) := by decide +kernel
theorem dX13_timesLeft_0 : decode cX13_timesLeft 0 = .ok (.aload_n 0, 1) := by decide +kernel
theorem dX13_timesLeft_1 : decode cX13_timesLeft 1 = .ok (.iload_n 1, 1) := by decide +kernel
theorem dX13_timesLeft_2 : decode cX13_timesLeft 2 = .ok (.invokevirtual 101, 3) := by decide +kernel
theorem dX13_timesLeft_5 : decode cX13_timesLeft 5 = .ok (.ifCond .eq 20, 3) := by decide +kernel
theorem dX13_timesLeft_8 : decode cX13_timesLeft 8 = .ok (.aload_n 0, 1) := by decide +kernel
theorem dX13_timesLeft_9 : decode cX13_timesLeft 9 = .ok (.aload_n 0, 1) := by decide +kernel
theorem dX13_timesLeft_10 : decode cX13_timesLeft 10 = .ok (.getfield 7, 3) := by decide +kernel
theorem dX13_timesLeft_13 : decode cX13_timesLeft 13 = .ok (.sipush 181, 3) := by decide +kernel
theorem dX13_timesLeft_16 : decode cX13_timesLeft 16 = .ok (.iload_n 1, 1) := by decide +kernel
theorem dX13_timesLeft_17 : decode cX13_timesLeft 17 = .ok (.iadd, 1) := by decide +kernel
theorem dX13_timesLeft_18 : decode cX13_timesLeft 18 = .ok (.iaload, 1) := by decide +kernel
theorem dX13_timesLeft_19 : decode cX13_timesLeft 19 = .ok (.invokevirtual 60, 3) := by decide +kernel
theorem dX13_timesLeft_22 : decode cX13_timesLeft 22 = .ok (.goto 8, 3) := by decide +kernel
theorem dX13_timesLeft_25 : decode cX13_timesLeft 25 = .ok (.aload_n 0, 1) := by decide +kernel
theorem dX13_timesLeft_26 : decode cX13_timesLeft 26 = .ok (.iconst 1, 1) := by decide +kernel
theorem dX13_timesLeft_27 : decode cX13_timesLeft 27 = .ok (.invokevirtual 57, 3) := by decide +kernel
theorem dX13_timesLeft_30 : decode cX13_timesLeft 30 = .ok (.ireturn, 1) := by decide +kernel
theorem dX13_cashIn_0 : decode cX13_cashIn 0 = .ok (.iload_n 1, 1) := by decide +kernel
theorem dX13_cashIn_1 : decode cX13_cashIn 1 = .ok (.iconst 0, 1) := by decide +kernel
theorem dX13_cashIn_2 : decode cX13_cashIn 2 = .ok (.bipush 24, 2) := by decide +kernel
theorem dX13_cashIn_4 : decode cX13_cashIn 4 = .ok (.invokestatic 49, 3) := by decide +kernel
theorem dX13_cashIn_7 : decode cX13_cashIn 7 = .ok (.ifCond .ne 10, 3) := by decide +kernel
theorem dX13_cashIn_10 : decode cX13_cashIn 10 = .ok (.aload_n 0, 1) := by decide +kernel
theorem dX13_cashIn_11 : decode cX13_cashIn 11 = .ok (.iconst 1, 1) := by decide +kernel
theorem dX13_cashIn_12 : decode cX13_cashIn 12 = .ok (.invokevirtual 57, 3) := by decide +kernel
theorem dX13_cashIn_15 : decode cX13_cashIn 15 = .ok (.i2l, 1) := by decide +kernel
theorem dX13_cashIn_16 : decode cX13_cashIn 16 = .ok (.lreturn, 1) := by decide +kernel
theorem dX13_cashIn_17 : decode cX13_cashIn 17 = .ok (.aload_n 0, 1) := by decide +kernel
theorem dX13_cashIn_18 : decode cX13_cashIn 18 = .ok (.iconst 0, 1) := by decide +kernel
theorem dX13_cashIn_19 : decode cX13_cashIn 19 = .ok (.invokevirtual 53, 3) := by decide +kernel
theorem dX13_cashIn_22 : decode cX13_cashIn 22 = .ok (.istore_n 2, 1) := by decide +kernel
theorem dX13_cashIn_23 : decode cX13_cashIn 23 = .ok (.iconst 0, 1) := by decide +kernel
theorem dX13_cashIn_24 : decode cX13_cashIn 24 = .ok (.istore_n 3, 1) := by decide +kernel
theorem dX13_cashIn_25 : decode cX13_cashIn 25 = .ok (.iload_n 3, 1) := by decide +kernel
theorem dX13_cashIn_26 : decode cX13_cashIn 26 = .ok (.aload_n 0, 1) := by decide +kernel
theorem dX13_cashIn_27 : decode cX13_cashIn 27 = .ok (.getfield 7, 3) := by decide +kernel
theorem dX13_cashIn_30 : decode cX13_cashIn 30 = .ok (.iconst 4, 1) := by decide +kernel
theorem dX13_cashIn_31 : decode cX13_cashIn 31 = .ok (.iaload, 1) := by decide +kernel
theorem dX13_cashIn_32 : decode cX13_cashIn 32 = .ok (.if_icmp .ge 142, 3) := by decide +kernel
theorem dX13_cashIn_35 : decode cX13_cashIn 35 = .ok (.iload_n 1, 1) := by decide +kernel
theorem dX13_cashIn_36 : decode cX13_cashIn 36 = .ok (.aload_n 0, 1) := by decide +kernel
theorem dX13_cashIn_37 : decode cX13_cashIn 37 = .ok (.iload_n 3, 1) := by decide +kernel
theorem dX13_cashIn_38 : decode cX13_cashIn 38 = .ok (.invokevirtual 181, 3) := by decide +kernel
theorem dX13_cashIn_41 : decode cX13_cashIn 41 = .ok (.if_icmp .ge 7, 3) := by decide +kernel
theorem dX13_cashIn_44 : decode cX13_cashIn 44 = .ok (.iconst 0, 1) := by decide +kernel
theorem dX13_cashIn_45 : decode cX13_cashIn 45 = .ok (.goto 23, 3) := by decide +kernel
theorem dX13_cashIn_48 : decode cX13_cashIn 48 = .ok (.iconst 1, 1) := by decide +kernel
theorem dX13_cashIn_49 : decode cX13_cashIn 49 = .ok (.iload_n 1, 1) := by decide +kernel
theorem dX13_cashIn_50 : decode cX13_cashIn 50 = .ok (.aload_n 0, 1) := by decide +kernel
theorem dX13_cashIn_51 : decode cX13_cashIn 51 = .ok (.iload_n 3, 1) := by decide +kernel
theorem dX13_cashIn_52 : decode cX13_cashIn 52 = .ok (.invokevirtual 181, 3) := by decide +kernel
theorem dX13_cashIn_55 : decode cX13_cashIn 55 = .ok (.isub, 1) := by decide +kernel
theorem dX13_cashIn_56 : decode cX13_cashIn 56 = .ok (.aload_n 0, 1) := by decide +kernel
theorem dX13_cashIn_57 : decode cX13_cashIn 57 = .ok (.getfield 7, 3) := by decide +kernel
theorem dX13_cashIn_60 : decode cX13_cashIn 60 = .ok (.sipush 175, 3) := by decide +kernel
theorem dX13_cashIn_63 : decode cX13_cashIn 63 = .ok (.iload_n 3, 1) := by decide +kernel
theorem dX13_cashIn_64 : decode cX13_cashIn 64 = .ok (.iadd, 1) := by decide +kernel
theorem dX13_cashIn_65 : decode cX13_cashIn 65 = .ok (.iaload, 1) := by decide +kernel
theorem dX13_cashIn_66 : decode cX13_cashIn 66 = .ok (.idiv, 1) := by decide +kernel
theorem dX13_cashIn_67 : decode cX13_cashIn 67 = .ok (.iadd, 1) := by decide +kernel
theorem dX13_cashIn_68 : decode cX13_cashIn 68 = .ok (.istore 4, 2) := by decide +kernel
theorem dX13_cashIn_70 : decode cX13_cashIn 70 = .ok (.iload 4, 2) := by decide +kernel
theorem dX13_cashIn_72 : decode cX13_cashIn 72 = .ok (.aload_n 0, 1) := by decide +kernel
theorem dX13_cashIn_73 : decode cX13_cashIn 73 = .ok (.getfield 7, 3) := by decide +kernel
theorem dX13_cashIn_76 : decode cX13_cashIn 76 = .ok (.sipush 181, 3) := by decide +kernel
theorem dX13_cashIn_79 : decode cX13_cashIn 79 = .ok (.iload_n 3, 1) := by decide +kernel
theorem dX13_cashIn_80 : decode cX13_cashIn 80 = .ok (.iadd, 1) := by decide +kernel
theorem dX13_cashIn_81 : decode cX13_cashIn 81 = .ok (.iaload, 1) := by decide +kernel
theorem dX13_cashIn_82 : decode cX13_cashIn 82 = .ok (.if_icmp .ge 8, 3) := by decide +kernel
theorem dX13_cashIn_85 : decode cX13_cashIn 85 = .ok (.iload 4, 2) := by decide +kernel
theorem dX13_cashIn_87 : decode cX13_cashIn 87 = .ok (.goto 13, 3) := by decide +kernel
theorem dX13_cashIn_90 : decode cX13_cashIn 90 = .ok (.aload_n 0, 1) := by decide +kernel
theorem dX13_cashIn_91 : decode cX13_cashIn 91 = .ok (.getfield 7, 3) := by decide +kernel
theorem dX13_cashIn_94 : decode cX13_cashIn 94 = .ok (.sipush 181, 3) := by decide +kernel
theorem dX13_cashIn_97 : decode cX13_cashIn 97 = .ok (.iload_n 3, 1) := by decide +kernel
theorem dX13_cashIn_98 : decode cX13_cashIn 98 = .ok (.iadd, 1) := by decide +kernel
theorem dX13_cashIn_99 : decode cX13_cashIn 99 = .ok (.iaload, 1) := by decide +kernel
theorem dX13_cashIn_100 : decode cX13_cashIn 100 = .ok (.istore 4, 2) := by decide +kernel
theorem dX13_cashIn_102 : decode cX13_cashIn 102 = .ok (.iload_n 2, 1) := by decide +kernel
theorem dX13_cashIn_103 : decode cX13_cashIn 103 = .ok (.aload_n 0, 1) := by decide +kernel
theorem dX13_cashIn_104 : decode cX13_cashIn 104 = .ok (.getfield 7, 3) := by decide +kernel
theorem dX13_cashIn_107 : decode cX13_cashIn 107 = .ok (.sipush 157, 3) := by decide +kernel
theorem dX13_cashIn_110 : decode cX13_cashIn 110 = .ok (.iload_n 3, 1) := by decide +kernel
theorem dX13_cashIn_111 : decode cX13_cashIn 111 = .ok (.iadd, 1) := by decide +kernel
theorem dX13_cashIn_112 : decode cX13_cashIn 112 = .ok (.iaload, 1) := by decide +kernel
theorem dX13_cashIn_113 : decode cX13_cashIn 113 = .ok (.ifCond .ne 19, 3) := by decide +kernel
theorem dX13_cashIn_116 : decode cX13_cashIn 116 = .ok (.iload 4, 2) := by decide +kernel
theorem dX13_cashIn_118 : decode cX13_cashIn 118 = .ok (.aload_n 0, 1) := by decide +kernel
theorem dX13_cashIn_119 : decode cX13_cashIn 119 = .ok (.getfield 7, 3) := by decide +kernel
theorem dX13_cashIn_122 : decode cX13_cashIn 122 = .ok (.sipush 169, 3) := by decide +kernel
theorem dX13_cashIn_125 : decode cX13_cashIn 125 = .ok (.iload_n 3, 1) := by decide +kernel
theorem dX13_cashIn_126 : decode cX13_cashIn 126 = .ok (.iadd, 1) := by decide +kernel
theorem dX13_cashIn_127 : decode cX13_cashIn 127 = .ok (.iaload, 1) := by decide +kernel
theorem dX13_cashIn_128 : decode cX13_cashIn 128 = .ok (.imul, 1) := by decide +kernel
theorem dX13_cashIn_129 : decode cX13_cashIn 129 = .ok (.goto 4, 3) := by decide +kernel
theorem dX13_cashIn_132 : decode cX13_cashIn 132 = .ok (.iconst 0, 1) := by decide +kernel
theorem dX13_cashIn_133 : decode cX13_cashIn 133 = .ok (.iadd, 1) := by decide +kernel
theorem dX13_cashIn_134 : decode cX13_cashIn 134 = .ok (.istore_n 2, 1) := by decide +kernel
theorem dX13_cashIn_135 : decode cX13_cashIn 135 = .ok (.iload_n 2, 1) := by decide +kernel
theorem dX13_cashIn_136 : decode cX13_cashIn 136 = .ok (.aload_n 0, 1) := by decide +kernel
theorem dX13_cashIn_137 : decode cX13_cashIn 137 = .ok (.getfield 7, 3) := by decide +kernel
theorem dX13_cashIn_140 : decode cX13_cashIn 140 = .ok (.sipush 163, 3) := by decide +kernel
theorem dX13_cashIn_143 : decode cX13_cashIn 143 = .ok (.iload_n 3, 1) := by decide +kernel
theorem dX13_cashIn_144 : decode cX13_cashIn 144 = .ok (.iadd, 1) := by decide +kernel
theorem dX13_cashIn_145 : decode cX13_cashIn 145 = .ok (.iaload, 1) := by decide +kernel
theorem dX13_cashIn_146 : decode cX13_cashIn 146 = .ok (.ifCond .ne 19, 3) := by decide +kernel
theorem dX13_cashIn_149 : decode cX13_cashIn 149 = .ok (.iload 4, 2) := by decide +kernel
theorem dX13_cashIn_151 : decode cX13_cashIn 151 = .ok (.aload_n 0, 1) := by decide +kernel
theorem dX13_cashIn_152 : decode cX13_cashIn 152 = .ok (.getfield 7, 3) := by decide +kernel
theorem dX13_cashIn_155 : decode cX13_cashIn 155 = .ok (.sipush 169, 3) := by decide +kernel
theorem dX13_cashIn_158 : decode cX13_cashIn 158 = .ok (.iload_n 3, 1) := by decide +kernel
theorem dX13_cashIn_159 : decode cX13_cashIn 159 = .ok (.iadd, 1) := by decide +kernel
theorem dX13_cashIn_160 : decode cX13_cashIn 160 = .ok (.iaload, 1) := by decide +kernel
theorem dX13_cashIn_161 : decode cX13_cashIn 161 = .ok (.imul, 1) := by decide +kernel
theorem dX13_cashIn_162 : decode cX13_cashIn 162 = .ok (.goto 4, 3) := by decide +kernel
theorem dX13_cashIn_165 : decode cX13_cashIn 165 = .ok (.iconst 0, 1) := by decide +kernel
theorem dX13_cashIn_166 : decode cX13_cashIn 166 = .ok (.isub, 1) := by decide +kernel
theorem dX13_cashIn_167 : decode cX13_cashIn 167 = .ok (.istore_n 2, 1) := by decide +kernel
theorem dX13_cashIn_168 : decode cX13_cashIn 168 = .ok (.iinc 3 1, 3) := by decide +kernel
theorem dX13_cashIn_171 : decode cX13_cashIn 171 = .ok (.goto (-146), 3) := by decide +kernel
theorem dX13_cashIn_174 : decode cX13_cashIn 174 = .ok (.aload_n 0, 1) := by decide +kernel
theorem dX13_cashIn_175 : decode cX13_cashIn 175 = .ok (.iload_n 2, 1) := by decide +kernel
theorem dX13_cashIn_176 : decode cX13_cashIn 176 = .ok (.invokevirtual 60, 3) := by decide +kernel
theorem dX13_cashIn_179 : decode cX13_cashIn 179 = .ok (.i2l, 1) := by decide +kernel
theorem dX13_cashIn_180 : decode cX13_cashIn 180 = .ok (.lreturn, 1) := by decide +kernel
theorem dX13_costumeCount_0 : decode cX13_costumeCount 0 = .ok (.aload_n 0, 1) := by decide +kernel
theorem dX13_costumeCount_1 : decode cX13_costumeCount 1 = .ok (.aload_n 0, 1) := by decide +kernel
theorem dX13_costumeCount_2 : decode cX13_costumeCount 2 = .ok (.invokevirtual 121, 3) := by decide +kernel
theorem dX13_costumeCount_5 : decode cX13_costumeCount 5 = .ok (.invokevirtual 60, 3) := by decide +kernel
theorem dX13_costumeCount_8 : decode cX13_costumeCount 8 = .ok (.ireturn, 1) := by decide +kernel
theorem dX13_lotCount_0 : decode cX13_lotCount 0 = .ok (.aload_n 0, 1) := by decide +kernel
theorem dX13_lotCount_1 : decode cX13_lotCount 1 = .ok (.aload_n 0, 1) := by decide +kernel
theorem dX13_lotCount_2 : decode cX13_lotCount 2 = .ok (.getfield 7, 3) := by decide +kernel
theorem dX13_lotCount_5 : decode cX13_lotCount 5 = .ok (.iconst 5, 1) := by decide +kernel
theorem dX13_lotCount_6 : decode cX13_lotCount 6 = .ok (.iaload, 1) := by decide +kernel
theorem dX13_lotCount_7 : decode cX13_lotCount 7 = .ok (.invokevirtual 60, 3) := by decide +kernel
theorem dX13_lotCount_10 : decode cX13_lotCount 10 = .ok (.ireturn, 1) := by decide +kernel
theorem dX13_costOf_0 : decode cX13_costOf 0 = .ok (.iload_n 1, 1) := by decide +kernel
theorem dX13_costOf_1 : decode cX13_costOf 1 = .ok (.iconst 1, 1) := by decide +kernel
theorem dX13_costOf_2 : decode cX13_costOf 2 = .ok (.bipush 20, 2) := by decide +kernel
theorem dX13_costOf_4 : decode cX13_costOf 4 = .ok (.invokestatic 49, 3) := by decide +kernel
theorem dX13_costOf_7 : decode cX13_costOf 7 = .ok (.ifCond .ne 9, 3) := by decide +kernel
theorem dX13_costOf_10 : decode cX13_costOf 10 = .ok (.aload_n 0, 1) := by decide +kernel
theorem dX13_costOf_11 : decode cX13_costOf 11 = .ok (.iconst 1, 1) := by decide +kernel
theorem dX13_costOf_12 : decode cX13_costOf 12 = .ok (.invokevirtual 57, 3) := by decide +kernel
theorem dX13_costOf_15 : decode cX13_costOf 15 = .ok (.ireturn, 1) := by decide +kernel
theorem dX13_costOf_16 : decode cX13_costOf 16 = .ok (.aload_n 0, 1) := by decide +kernel
theorem dX13_costOf_17 : decode cX13_costOf 17 = .ok (.invokevirtual 121, 3) := by decide +kernel
theorem dX13_costOf_20 : decode cX13_costOf 20 = .ok (.iload_n 1, 1) := by decide +kernel
theorem dX13_costOf_21 : decode cX13_costOf 21 = .ok (.if_icmp .ge 11, 3) := by decide +kernel
theorem dX13_costOf_24 : decode cX13_costOf 24 = .ok (.aload_n 0, 1) := by decide +kernel
theorem dX13_costOf_25 : decode cX13_costOf 25 = .ok (.iconst 2, 1) := by decide +kernel
theorem dX13_costOf_26 : decode cX13_costOf 26 = .ok (.invokevirtual 57, 3) := by decide +kernel
theorem dX13_costOf_29 : decode cX13_costOf 29 = .ok (.goto 12, 3) := by decide +kernel
theorem dX13_costOf_32 : decode cX13_costOf 32 = .ok (.aload_n 0, 1) := by decide +kernel
theorem dX13_costOf_33 : decode cX13_costOf 33 = .ok (.aload_n 0, 1) := by decide +kernel
theorem dX13_costOf_34 : decode cX13_costOf 34 = .ok (.iload_n 1, 1) := by decide +kernel
theorem dX13_costOf_35 : decode cX13_costOf 35 = .ok (.invokevirtual 124, 3) := by decide +kernel
theorem dX13_costOf_38 : decode cX13_costOf 38 = .ok (.invokevirtual 60, 3) := by decide +kernel
theorem dX13_costOf_41 : decode cX13_costOf 41 = .ok (.ireturn, 1) := by decide +kernel
theorem dX13_costByCostumes_0 : decode cX13_costByCostumes 0 = .ok (.aload_n 0, 1) := by decide +kernel
theorem dX13_costByCostumes_1 : decode cX13_costByCostumes 1 = .ok (.iload_n 1, 1) := by decide +kernel
theorem dX13_costByCostumes_2 : decode cX13_costByCostumes 2 = .ok (.invokevirtual 184, 3) := by decide +kernel
theorem dX13_costByCostumes_5 : decode cX13_costByCostumes 5 = .ok (.ireturn, 1) := by decide +kernel
theorem dX13_meanPrice_0 : decode cX13_meanPrice 0 = .ok (.aload_n 0, 1) := by decide +kernel
theorem dX13_meanPrice_1 : decode cX13_meanPrice 1 = .ok (.invokevirtual 121, 3) := by decide +kernel
theorem dX13_meanPrice_4 : decode cX13_meanPrice 4 = .ok (.istore_n 1, 1) := by decide +kernel
theorem dX13_meanPrice_5 : decode cX13_meanPrice 5 = .ok (.aload_n 0, 1) := by decide +kernel
theorem dX13_meanPrice_6 : decode cX13_meanPrice 6 = .ok (.iload_n 1, 1) := by decide +kernel
theorem dX13_meanPrice_7 : decode cX13_meanPrice 7 = .ok (.ifCond .ne 7, 3) := by decide +kernel
theorem dX13_meanPrice_10 : decode cX13_meanPrice 10 = .ok (.iconst 1, 1) := by decide +kernel
theorem dX13_meanPrice_11 : decode cX13_meanPrice 11 = .ok (.goto 4, 3) := by decide +kernel
theorem dX13_meanPrice_14 : decode cX13_meanPrice 14 = .ok (.iconst 0, 1) := by decide +kernel
theorem dX13_meanPrice_15 : decode cX13_meanPrice 15 = .ok (.putfield 39, 3) := by decide +kernel
theorem dX13_meanPrice_18 : decode cX13_meanPrice 18 = .ok (.aload_n 0, 1) := by decide +kernel
theorem dX13_meanPrice_19 : decode cX13_meanPrice 19 = .ok (.getfield 39, 3) := by decide +kernel
theorem dX13_meanPrice_22 : decode cX13_meanPrice 22 = .ok (.ifCond .ne 15, 3) := by decide +kernel
theorem dX13_meanPrice_25 : decode cX13_meanPrice 25 = .ok (.aload_n 0, 1) := by decide +kernel
theorem dX13_meanPrice_26 : decode cX13_meanPrice 26 = .ok (.iload_n 1, 1) := by decide +kernel
theorem dX13_meanPrice_27 : decode cX13_meanPrice 27 = .ok (.invokevirtual 124, 3) := by decide +kernel
theorem dX13_meanPrice_30 : decode cX13_meanPrice 30 = .ok (.i2d, 1) := by decide +kernel
theorem dX13_meanPrice_31 : decode cX13_meanPrice 31 = .ok (.iload_n 1, 1) := by decide +kernel
theorem dX13_meanPrice_32 : decode cX13_meanPrice 32 = .ok (.i2d, 1) := by decide +kernel
theorem dX13_meanPrice_33 : decode cX13_meanPrice 33 = .ok (.ddiv, 1) := by decide +kernel
theorem dX13_meanPrice_34 : decode cX13_meanPrice 34 = .ok (.goto 4, 3) := by decide +kernel
theorem dX13_meanPrice_37 : decode cX13_meanPrice 37 = .ok (.dconst 0, 1) := by decide +kernel
theorem dX13_meanPrice_38 : decode cX13_meanPrice 38 = .ok (.dreturn, 1) := by decide +kernel
theorem dX13_billCount_0 : decode cX13_billCount 0 = .ok (.aload_n 0, 1) := by decide +kernel
theorem dX13_billCount_1 : decode cX13_billCount 1 = .ok (.aload_n 0, 1) := by decide +kernel
theorem dX13_billCount_2 : decode cX13_billCount 2 = .ok (.getfield 7, 3) := by decide +kernel
theorem dX13_billCount_5 : decode cX13_billCount 5 = .ok (.bipush 6, 2) := by decide +kernel
theorem dX13_billCount_7 : decode cX13_billCount 7 = .ok (.iaload, 1) := by decide +kernel
theorem dX13_billCount_8 : decode cX13_billCount 8 = .ok (.invokevirtual 60, 3) := by decide +kernel
theorem dX13_billCount_11 : decode cX13_billCount 11 = .ok (.ireturn, 1) := by decide +kernel
theorem dX13_billAt_0 : decode cX13_billAt 0 = .ok (.iload_n 1, 1) := by decide +kernel
theorem dX13_billAt_1 : decode cX13_billAt 1 = .ok (.iconst 0, 1) := by decide +kernel
theorem dX13_billAt_2 : decode cX13_billAt 2 = .ok (.aload_n 0, 1) := by decide +kernel
theorem dX13_billAt_3 : decode cX13_billAt 3 = .ok (.getfield 7, 3) := by decide +kernel
theorem dX13_billAt_6 : decode cX13_billAt 6 = .ok (.bipush 6, 2) := by decide +kernel
theorem dX13_billAt_8 : decode cX13_billAt 8 = .ok (.iaload, 1) := by decide +kernel
theorem dX13_billAt_9 : decode cX13_billAt 9 = .ok (.iconst 1, 1) := by decide +kernel
theorem dX13_billAt_10 : decode cX13_billAt 10 = .ok (.isub, 1) := by decide +kernel
theorem dX13_billAt_11 : decode cX13_billAt 11 = .ok (.invokestatic 49, 3) := by decide +kernel
theorem dX13_billAt_14 : decode cX13_billAt 14 = .ok (.ifCond .eq 20, 3) := by decide +kernel
theorem dX13_billAt_17 : decode cX13_billAt 17 = .ok (.aload_n 0, 1) := by decide +kernel
theorem dX13_billAt_18 : decode cX13_billAt 18 = .ok (.aload_n 0, 1) := by decide +kernel
theorem dX13_billAt_19 : decode cX13_billAt 19 = .ok (.getfield 7, 3) := by decide +kernel
theorem dX13_billAt_22 : decode cX13_billAt 22 = .ok (.sipush 209, 3) := by decide +kernel
theorem dX13_billAt_25 : decode cX13_billAt 25 = .ok (.iload_n 1, 1) := by decide +kernel
theorem dX13_billAt_26 : decode cX13_billAt 26 = .ok (.iadd, 1) := by decide +kernel
theorem dX13_billAt_27 : decode cX13_billAt 27 = .ok (.iaload, 1) := by decide +kernel
theorem dX13_billAt_28 : decode cX13_billAt 28 = .ok (.invokevirtual 60, 3) := by decide +kernel
theorem dX13_billAt_31 : decode cX13_billAt 31 = .ok (.goto 8, 3) := by decide +kernel
theorem dX13_billAt_34 : decode cX13_billAt 34 = .ok (.aload_n 0, 1) := by decide +kernel
theorem dX13_billAt_35 : decode cX13_billAt 35 = .ok (.iconst 1, 1) := by decide +kernel
theorem dX13_billAt_36 : decode cX13_billAt 36 = .ok (.invokevirtual 57, 3) := by decide +kernel
theorem dX13_billAt_39 : decode cX13_billAt 39 = .ok (.ireturn, 1) := by decide +kernel
theorem dX13_billPlace_0 : decode cX13_billPlace 0 = .ok (.iconst 0, 1) := by decide +kernel
theorem dX13_billPlace_1 : decode cX13_billPlace 1 = .ok (.istore_n 2, 1) := by decide +kernel
theorem dX13_billPlace_2 : decode cX13_billPlace 2 = .ok (.iload_n 2, 1) := by decide +kernel
theorem dX13_billPlace_3 : decode cX13_billPlace 3 = .ok (.aload_n 0, 1) := by decide +kernel
theorem dX13_billPlace_4 : decode cX13_billPlace 4 = .ok (.getfield 7, 3) := by decide +kernel
theorem dX13_billPlace_7 : decode cX13_billPlace 7 = .ok (.bipush 6, 2) := by decide +kernel
theorem dX13_billPlace_9 : decode cX13_billPlace 9 = .ok (.iaload, 1) := by decide +kernel
theorem dX13_billPlace_10 : decode cX13_billPlace 10 = .ok (.if_icmp .ge 25, 3) := by decide +kernel
theorem dX13_billPlace_13 : decode cX13_billPlace 13 = .ok (.aload_n 0, 1) := by decide +kernel
theorem dX13_billPlace_14 : decode cX13_billPlace 14 = .ok (.getfield 7, 3) := by decide +kernel
theorem dX13_billPlace_17 : decode cX13_billPlace 17 = .ok (.sipush 209, 3) := by decide +kernel
theorem dX13_billPlace_20 : decode cX13_billPlace 20 = .ok (.iload_n 2, 1) := by decide +kernel
theorem dX13_billPlace_21 : decode cX13_billPlace 21 = .ok (.iadd, 1) := by decide +kernel
theorem dX13_billPlace_22 : decode cX13_billPlace 22 = .ok (.iaload, 1) := by decide +kernel
theorem dX13_billPlace_23 : decode cX13_billPlace 23 = .ok (.iload_n 1, 1) := by decide +kernel
theorem dX13_billPlace_24 : decode cX13_billPlace 24 = .ok (.if_icmp .ne 5, 3) := by decide +kernel
theorem dX13_billPlace_27 : decode cX13_billPlace 27 = .ok (.iload_n 2, 1) := by decide +kernel
theorem dX13_billPlace_28 : decode cX13_billPlace 28 = .ok (.ireturn, 1) := by decide +kernel
theorem dX13_billPlace_29 : decode cX13_billPlace 29 = .ok (.iinc 2 1, 3) := by decide +kernel
theorem dX13_billPlace_32 : decode cX13_billPlace 32 = .ok (.goto (-30), 3) := by decide +kernel
theorem dX13_billPlace_35 : decode cX13_billPlace 35 = .ok (.iconst (-1), 1) := by decide +kernel
theorem dX13_billPlace_36 : decode cX13_billPlace 36 = .ok (.ireturn, 1) := by decide +kernel
theorem dX13_openAmount_0 : decode cX13_openAmount 0 = .ok (.aload_n 0, 1) := by decide +kernel
theorem dX13_openAmount_1 : decode cX13_openAmount 1 = .ok (.iload_n 1, 1) := by decide +kernel
theorem dX13_openAmount_2 : decode cX13_openAmount 2 = .ok (.invokevirtual 187, 3) := by decide +kernel
theorem dX13_openAmount_5 : decode cX13_openAmount 5 = .ok (.istore_n 2, 1) := by decide +kernel
theorem dX13_openAmount_6 : decode cX13_openAmount 6 = .ok (.iload_n 2, 1) := by decide +kernel
theorem dX13_openAmount_7 : decode cX13_openAmount 7 = .ok (.iconst (-1), 1) := by decide +kernel
theorem dX13_openAmount_8 : decode cX13_openAmount 8 = .ok (.if_icmp .ne 11, 3) := by decide +kernel
theorem dX13_openAmount_11 : decode cX13_openAmount 11 = .ok (.aload_n 0, 1) := by decide +kernel
theorem dX13_openAmount_12 : decode cX13_openAmount 12 = .ok (.iconst 1, 1) := by decide +kernel
theorem dX13_openAmount_13 : decode cX13_openAmount 13 = .ok (.invokevirtual 57, 3) := by decide +kernel
theorem dX13_openAmount_16 : decode cX13_openAmount 16 = .ok (.goto 17, 3) := by decide +kernel
theorem dX13_openAmount_19 : decode cX13_openAmount 19 = .ok (.aload_n 0, 1) := by decide +kernel
theorem dX13_openAmount_20 : decode cX13_openAmount 20 = .ok (.aload_n 0, 1) := by decide +kernel
theorem dX13_openAmount_21 : decode cX13_openAmount 21 = .ok (.getfield 7, 3) := by decide +kernel
theorem dX13_openAmount_24 : decode cX13_openAmount 24 = .ok (.sipush 219, 3) := by decide +kernel
theorem dX13_openAmount_27 : decode cX13_openAmount 27 = .ok (.iload_n 2, 1) := by decide +kernel
theorem dX13_openAmount_28 : decode cX13_openAmount 28 = .ok (.iadd, 1) := by decide +kernel
theorem dX13_openAmount_29 : decode cX13_openAmount 29 = .ok (.iaload, 1) := by decide +kernel
theorem dX13_openAmount_30 : decode cX13_openAmount 30 = .ok (.invokevirtual 60, 3) := by decide +kernel
theorem dX13_openAmount_33 : decode cX13_openAmount 33 = .ok (.ireturn, 1) := by decide +kernel
theorem dX13_openTotal_0 : decode cX13_openTotal 0 = .ok (.aload_n 0, 1) := by decide +kernel
theorem dX13_openTotal_1 : decode cX13_openTotal 1 = .ok (.aload_n 0, 1) := by decide +kernel
theorem dX13_openTotal_2 : decode cX13_openTotal 2 = .ok (.invokevirtual 146, 3) := by decide +kernel
theorem dX13_openTotal_5 : decode cX13_openTotal 5 = .ok (.invokevirtual 60, 3) := by decide +kernel
theorem dX13_openTotal_8 : decode cX13_openTotal 8 = .ok (.ireturn, 1) := by decide +kernel
theorem dX13_isMatched_0 : decode cX13_isMatched 0 = .ok (.aload_n 0, 1) := by decide +kernel
theorem dX13_isMatched_1 : decode cX13_isMatched 1 = .ok (.iload_n 1, 1) := by decide +kernel
theorem dX13_isMatched_2 : decode cX13_isMatched 2 = .ok (.iconst 1, 1) := by decide +kernel
theorem dX13_isMatched_3 : decode cX13_isMatched 3 = .ok (.sipush 999, 3) := by decide +kernel
theorem dX13_isMatched_6 : decode cX13_isMatched 6 = .ok (.invokestatic 49, 3) := by decide +kernel
theorem dX13_isMatched_9 : decode cX13_isMatched 9 = .ok (.ifCond .eq 7, 3) := by decide +kernel
theorem dX13_isMatched_12 : decode cX13_isMatched 12 = .ok (.iconst 0, 1) := by decide +kernel
theorem dX13_isMatched_13 : decode cX13_isMatched 13 = .ok (.goto 4, 3) := by decide +kernel
theorem dX13_isMatched_16 : decode cX13_isMatched 16 = .ok (.iconst 1, 1) := by decide +kernel
theorem dX13_isMatched_17 : decode cX13_isMatched 17 = .ok (.putfield 39, 3) := by decide +kernel
theorem dX13_isMatched_20 : decode cX13_isMatched 20 = .ok (.aload_n 0, 1) := by decide +kernel
theorem dX13_isMatched_21 : decode cX13_isMatched 21 = .ok (.getfield 39, 3) := by decide +kernel
theorem dX13_isMatched_24 : decode cX13_isMatched 24 = .ok (.ifCond .ne 15, 3) := by decide +kernel
theorem dX13_isMatched_27 : decode cX13_isMatched 27 = .ok (.aload_n 0, 1) := by decide +kernel
theorem dX13_isMatched_28 : decode cX13_isMatched 28 = .ok (.iload_n 1, 1) := by decide +kernel
theorem dX13_isMatched_29 : decode cX13_isMatched 29 = .ok (.invokevirtual 149, 3) := by decide +kernel
theorem dX13_isMatched_32 : decode cX13_isMatched 32 = .ok (.ifCond .le 7, 3) := by decide +kernel
theorem dX13_isMatched_35 : decode cX13_isMatched 35 = .ok (.iconst 1, 1) := by decide +kernel
theorem dX13_isMatched_36 : decode cX13_isMatched 36 = .ok (.goto 4, 3) := by decide +kernel
theorem dX13_isMatched_39 : decode cX13_isMatched 39 = .ok (.iconst 0, 1) := by decide +kernel
theorem dX13_isMatched_40 : decode cX13_isMatched 40 = .ok (.ireturn, 1) := by decide +kernel
theorem dX13_isMatchedBySets_0 : decode cX13_isMatchedBySets 0 = .ok (.aload_n 0, 1) := by decide +kernel
theorem dX13_isMatchedBySets_1 : decode cX13_isMatchedBySets 1 = .ok (.iload_n 1, 1) := by decide +kernel
theorem dX13_isMatchedBySets_2 : decode cX13_isMatchedBySets 2 = .ok (.invokevirtual 190, 3) := by decide +kernel
theorem dX13_isMatchedBySets_5 : decode cX13_isMatchedBySets 5 = .ok (.ireturn, 1) := by decide +kernel
theorem dX13_matchSize_0 : decode cX13_matchSize 0 = .ok (.iload_n 1, 1) := by decide +kernel
theorem dX13_matchSize_1 : decode cX13_matchSize 1 = .ok (.iconst 1, 1) := by decide +kernel
theorem dX13_matchSize_2 : decode cX13_matchSize 2 = .ok (.sipush 999, 3) := by decide +kernel
theorem dX13_matchSize_5 : decode cX13_matchSize 5 = .ok (.invokestatic 49, 3) := by decide +kernel
theorem dX13_matchSize_8 : decode cX13_matchSize 8 = .ok (.ifCond .ne 9, 3) := by decide +kernel
theorem dX13_matchSize_11 : decode cX13_matchSize 11 = .ok (.aload_n 0, 1) := by decide +kernel
theorem dX13_matchSize_12 : decode cX13_matchSize 12 = .ok (.iconst 1, 1) := by decide +kernel
theorem dX13_matchSize_13 : decode cX13_matchSize 13 = .ok (.invokevirtual 57, 3) := by decide +kernel
theorem dX13_matchSize_16 : decode cX13_matchSize 16 = .ok (.ireturn, 1) := by decide +kernel
theorem dX13_matchSize_17 : decode cX13_matchSize 17 = .ok (.aload_n 0, 1) := by decide +kernel
theorem dX13_matchSize_18 : decode cX13_matchSize 18 = .ok (.iload_n 1, 1) := by decide +kernel
theorem dX13_matchSize_19 : decode cX13_matchSize 19 = .ok (.invokevirtual 149, 3) := by decide +kernel
theorem dX13_matchSize_22 : decode cX13_matchSize 22 = .ok (.istore_n 2, 1) := by decide +kernel
theorem dX13_matchSize_23 : decode cX13_matchSize 23 = .ok (.iload_n 2, 1) := by decide +kernel
theorem dX13_matchSize_24 : decode cX13_matchSize 24 = .ok (.ifCond .ne 11, 3) := by decide +kernel
theorem dX13_matchSize_27 : decode cX13_matchSize 27 = .ok (.aload_n 0, 1) := by decide +kernel
theorem dX13_matchSize_28 : decode cX13_matchSize 28 = .ok (.iconst 2, 1) := by decide +kernel
theorem dX13_matchSize_29 : decode cX13_matchSize 29 = .ok (.invokevirtual 57, 3) := by decide +kernel
theorem dX13_matchSize_32 : decode cX13_matchSize 32 = .ok (.goto 11, 3) := by decide +kernel
theorem dX13_matchSize_35 : decode cX13_matchSize 35 = .ok (.aload_n 0, 1) := by decide +kernel
theorem dX13_matchSize_36 : decode cX13_matchSize 36 = .ok (.iload_n 2, 1) := by decide +kernel
theorem dX13_matchSize_37 : decode cX13_matchSize 37 = .ok (.invokestatic 136, 3) := by decide +kernel
theorem dX13_matchSize_40 : decode cX13_matchSize 40 = .ok (.invokevirtual 60, 3) := by decide +kernel
theorem dX13_matchSize_43 : decode cX13_matchSize 43 = .ok (.ireturn, 1) := by decide +kernel
theorem dX13_isInMatch_0 : decode cX13_isInMatch 0 = .ok (.aload_n 0, 1) := by decide +kernel
theorem dX13_isInMatch_1 : decode cX13_isInMatch 1 = .ok (.iload_n 1, 1) := by decide +kernel
theorem dX13_isInMatch_2 : decode cX13_isInMatch 2 = .ok (.invokevirtual 187, 3) := by decide +kernel
theorem dX13_isInMatch_5 : decode cX13_isInMatch 5 = .ok (.istore_n 3, 1) := by decide +kernel
theorem dX13_isInMatch_6 : decode cX13_isInMatch 6 = .ok (.iload_n 3, 1) := by decide +kernel
theorem dX13_isInMatch_7 : decode cX13_isInMatch 7 = .ok (.iconst (-1), 1) := by decide +kernel
theorem dX13_isInMatch_8 : decode cX13_isInMatch 8 = .ok (.if_icmp .eq 22, 3) := by decide +kernel
theorem dX13_isInMatch_11 : decode cX13_isInMatch 11 = .ok (.iload_n 2, 1) := by decide +kernel
theorem dX13_isInMatch_12 : decode cX13_isInMatch 12 = .ok (.iconst 1, 1) := by decide +kernel
theorem dX13_isInMatch_13 : decode cX13_isInMatch 13 = .ok (.sipush 999, 3) := by decide +kernel
theorem dX13_isInMatch_16 : decode cX13_isInMatch 16 = .ok (.invokestatic 49, 3) := by decide +kernel
theorem dX13_isInMatch_19 : decode cX13_isInMatch 19 = .ok (.ifCond .eq 11, 3) := by decide +kernel
theorem dX13_isInMatch_22 : decode cX13_isInMatch 22 = .ok (.aload_n 0, 1) := by decide +kernel
theorem dX13_isInMatch_23 : decode cX13_isInMatch 23 = .ok (.iload_n 2, 1) := by decide +kernel
theorem dX13_isInMatch_24 : decode cX13_isInMatch 24 = .ok (.invokevirtual 149, 3) := by decide +kernel
theorem dX13_isInMatch_27 : decode cX13_isInMatch 27 = .ok (.goto 4, 3) := by decide +kernel
theorem dX13_isInMatch_30 : decode cX13_isInMatch 30 = .ok (.iconst 0, 1) := by decide +kernel
theorem dX13_isInMatch_31 : decode cX13_isInMatch 31 = .ok (.istore 4, 2) := by decide +kernel
theorem dX13_isInMatch_33 : decode cX13_isInMatch 33 = .ok (.aload_n 0, 1) := by decide +kernel
theorem dX13_isInMatch_34 : decode cX13_isInMatch 34 = .ok (.iload_n 3, 1) := by decide +kernel
theorem dX13_isInMatch_35 : decode cX13_isInMatch 35 = .ok (.iconst (-1), 1) := by decide +kernel
theorem dX13_isInMatch_36 : decode cX13_isInMatch 36 = .ok (.if_icmp .ne 7, 3) := by decide +kernel
theorem dX13_isInMatch_39 : decode cX13_isInMatch 39 = .ok (.iconst 1, 1) := by decide +kernel
theorem dX13_isInMatch_40 : decode cX13_isInMatch 40 = .ok (.goto 28, 3) := by decide +kernel
theorem dX13_isInMatch_43 : decode cX13_isInMatch 43 = .ok (.iload_n 2, 1) := by decide +kernel
theorem dX13_isInMatch_44 : decode cX13_isInMatch 44 = .ok (.iconst 1, 1) := by decide +kernel
theorem dX13_isInMatch_45 : decode cX13_isInMatch 45 = .ok (.sipush 999, 3) := by decide +kernel
theorem dX13_isInMatch_48 : decode cX13_isInMatch 48 = .ok (.invokestatic 49, 3) := by decide +kernel
theorem dX13_isInMatch_51 : decode cX13_isInMatch 51 = .ok (.ifCond .ne 7, 3) := by decide +kernel
theorem dX13_isInMatch_54 : decode cX13_isInMatch 54 = .ok (.iconst 2, 1) := by decide +kernel
theorem dX13_isInMatch_55 : decode cX13_isInMatch 55 = .ok (.goto 13, 3) := by decide +kernel
theorem dX13_isInMatch_58 : decode cX13_isInMatch 58 = .ok (.iload 4, 2) := by decide +kernel
theorem dX13_isInMatch_60 : decode cX13_isInMatch 60 = .ok (.ifCond .ne 7, 3) := by decide +kernel
theorem dX13_isInMatch_63 : decode cX13_isInMatch 63 = .ok (.iconst 3, 1) := by decide +kernel
theorem dX13_isInMatch_64 : decode cX13_isInMatch 64 = .ok (.goto 4, 3) := by decide +kernel
theorem dX13_isInMatch_67 : decode cX13_isInMatch 67 = .ok (.iconst 0, 1) := by decide +kernel
theorem dX13_isInMatch_68 : decode cX13_isInMatch 68 = .ok (.putfield 39, 3) := by decide +kernel
theorem dX13_isInMatch_71 : decode cX13_isInMatch 71 = .ok (.aload_n 0, 1) := by decide +kernel
theorem dX13_isInMatch_72 : decode cX13_isInMatch 72 = .ok (.getfield 39, 3) := by decide +kernel
theorem dX13_isInMatch_75 : decode cX13_isInMatch 75 = .ok (.ifCond .ne 17, 3) := by decide +kernel
theorem dX13_isInMatch_78 : decode cX13_isInMatch 78 = .ok (.iload 4, 2) := by decide +kernel
theorem dX13_isInMatch_80 : decode cX13_isInMatch 80 = .ok (.iload_n 3, 1) := by decide +kernel
theorem dX13_isInMatch_81 : decode cX13_isInMatch 81 = .ok (.ishr, 1) := by decide +kernel
theorem dX13_isInMatch_82 : decode cX13_isInMatch 82 = .ok (.iconst 1, 1) := by decide +kernel
theorem dX13_isInMatch_83 : decode cX13_isInMatch 83 = .ok (.iand, 1) := by decide +kernel
theorem dX13_isInMatch_84 : decode cX13_isInMatch 84 = .ok (.iconst 1, 1) := by decide +kernel
theorem dX13_isInMatch_85 : decode cX13_isInMatch 85 = .ok (.if_icmp .ne 7, 3) := by decide +kernel
theorem dX13_isInMatch_88 : decode cX13_isInMatch 88 = .ok (.iconst 1, 1) := by decide +kernel
theorem dX13_isInMatch_89 : decode cX13_isInMatch 89 = .ok (.goto 4, 3) := by decide +kernel
theorem dX13_isInMatch_92 : decode cX13_isInMatch 92 = .ok (.iconst 0, 1) := by decide +kernel
theorem dX13_isInMatch_93 : decode cX13_isInMatch 93 = .ok (.ireturn, 1) := by decide +kernel
theorem dX13_isRicher_0 : decode cX13_isRicher 0 = .ok (.aload_n 0, 1) := by decide +kernel
theorem dX13_isRicher_1 : decode cX13_isRicher 1 = .ok (.iload_n 1, 1) := by decide +kernel
theorem dX13_isRicher_2 : decode cX13_isRicher 2 = .ok (.invokevirtual 53, 3) := by decide +kernel
theorem dX13_isRicher_5 : decode cX13_isRicher 5 = .ok (.aload_n 0, 1) := by decide +kernel
theorem dX13_isRicher_6 : decode cX13_isRicher 6 = .ok (.iload_n 2, 1) := by decide +kernel
theorem dX13_isRicher_7 : decode cX13_isRicher 7 = .ok (.invokevirtual 53, 3) := by decide +kernel
theorem dX13_isRicher_10 : decode cX13_isRicher 10 = .ok (.isub, 1) := by decide +kernel
theorem dX13_isRicher_11 : decode cX13_isRicher 11 = .ok (.istore_n 3, 1) := by decide +kernel
theorem dX13_isRicher_12 : decode cX13_isRicher 12 = .ok (.iload_n 3, 1) := by decide +kernel
theorem dX13_isRicher_13 : decode cX13_isRicher 13 = .ok (.ifCond .gt 12, 3) := by decide +kernel
theorem dX13_isRicher_16 : decode cX13_isRicher 16 = .ok (.iload_n 3, 1) := by decide +kernel
theorem dX13_isRicher_17 : decode cX13_isRicher 17 = .ok (.ifCond .ne 12, 3) := by decide +kernel
theorem dX13_isRicher_20 : decode cX13_isRicher 20 = .ok (.iload_n 1, 1) := by decide +kernel
theorem dX13_isRicher_21 : decode cX13_isRicher 21 = .ok (.iload_n 2, 1) := by decide +kernel
theorem dX13_isRicher_22 : decode cX13_isRicher 22 = .ok (.if_icmp .ge 7, 3) := by decide +kernel
theorem dX13_isRicher_25 : decode cX13_isRicher 25 = .ok (.iconst 1, 1) := by decide +kernel
theorem dX13_isRicher_26 : decode cX13_isRicher 26 = .ok (.goto 4, 3) := by decide +kernel
theorem dX13_isRicher_29 : decode cX13_isRicher 29 = .ok (.iconst 0, 1) := by decide +kernel
theorem dX13_isRicher_30 : decode cX13_isRicher 30 = .ok (.ireturn, 1) := by decide +kernel
theorem dX13_accountByBalance_0 : decode cX13_accountByBalance 0 = .ok (.iconst 0, 1) := by decide +kernel
theorem dX13_accountByBalance_1 : decode cX13_accountByBalance 1 = .ok (.istore_n 2, 1) := by decide +kernel
theorem dX13_accountByBalance_2 : decode cX13_accountByBalance 2 = .ok (.iload_n 2, 1) := by decide +kernel
theorem dX13_accountByBalance_3 : decode cX13_accountByBalance 3 = .ok (.aload_n 0, 1) := by decide +kernel
theorem dX13_accountByBalance_4 : decode cX13_accountByBalance 4 = .ok (.getfield 7, 3) := by decide +kernel
theorem dX13_accountByBalance_7 : decode cX13_accountByBalance 7 = .ok (.iconst 1, 1) := by decide +kernel
theorem dX13_accountByBalance_8 : decode cX13_accountByBalance 8 = .ok (.iaload, 1) := by decide +kernel
theorem dX13_accountByBalance_9 : decode cX13_accountByBalance 9 = .ok (.if_icmp .ge 60, 3) := by decide +kernel
theorem dX13_accountByBalance_12 : decode cX13_accountByBalance 12 = .ok (.iconst 0, 1) := by decide +kernel
theorem dX13_accountByBalance_13 : decode cX13_accountByBalance 13 = .ok (.istore_n 3, 1) := by decide +kernel
theorem dX13_accountByBalance_14 : decode cX13_accountByBalance 14 = .ok (.iconst 0, 1) := by decide +kernel
theorem dX13_accountByBalance_15 : decode cX13_accountByBalance 15 = .ok (.istore 4, 2) := by decide +kernel
theorem dX13_accountByBalance_17 : decode cX13_accountByBalance 17 = .ok (.iload 4, 2) := by decide +kernel
theorem dX13_accountByBalance_19 : decode cX13_accountByBalance 19 = .ok (.aload_n 0, 1) := by decide +kernel
theorem dX13_accountByBalance_20 : decode cX13_accountByBalance 20 = .ok (.getfield 7, 3) := by decide +kernel
theorem dX13_accountByBalance_23 : decode cX13_accountByBalance 23 = .ok (.iconst 1, 1) := by decide +kernel
theorem dX13_accountByBalance_24 : decode cX13_accountByBalance 24 = .ok (.iaload, 1) := by decide +kernel
theorem dX13_accountByBalance_25 : decode cX13_accountByBalance 25 = .ok (.if_icmp .ge 27, 3) := by decide +kernel
theorem dX13_accountByBalance_28 : decode cX13_accountByBalance 28 = .ok (.iload_n 3, 1) := by decide +kernel
theorem dX13_accountByBalance_29 : decode cX13_accountByBalance 29 = .ok (.aload_n 0, 1) := by decide +kernel
theorem dX13_accountByBalance_30 : decode cX13_accountByBalance 30 = .ok (.iload 4, 2) := by decide +kernel
theorem dX13_accountByBalance_32 : decode cX13_accountByBalance 32 = .ok (.iload_n 2, 1) := by decide +kernel
theorem dX13_accountByBalance_33 : decode cX13_accountByBalance 33 = .ok (.invokevirtual 193, 3) := by decide +kernel
theorem dX13_accountByBalance_36 : decode cX13_accountByBalance 36 = .ok (.ifCond .eq 7, 3) := by decide +kernel
theorem dX13_accountByBalance_39 : decode cX13_accountByBalance 39 = .ok (.iconst 1, 1) := by decide +kernel
theorem dX13_accountByBalance_40 : decode cX13_accountByBalance 40 = .ok (.goto 4, 3) := by decide +kernel
theorem dX13_accountByBalance_43 : decode cX13_accountByBalance 43 = .ok (.iconst 0, 1) := by decide +kernel
theorem dX13_accountByBalance_44 : decode cX13_accountByBalance 44 = .ok (.iadd, 1) := by decide +kernel
theorem dX13_accountByBalance_45 : decode cX13_accountByBalance 45 = .ok (.istore_n 3, 1) := by decide +kernel
theorem dX13_accountByBalance_46 : decode cX13_accountByBalance 46 = .ok (.iinc 4 1, 3) := by decide +kernel
theorem dX13_accountByBalance_49 : decode cX13_accountByBalance 49 = .ok (.goto (-32), 3) := by decide +kernel
theorem dX13_accountByBalance_52 : decode cX13_accountByBalance 52 = .ok (.iload_n 3, 1) := by decide +kernel
theorem dX13_accountByBalance_53 : decode cX13_accountByBalance 53 = .ok (.iload_n 1, 1) := by decide +kernel
theorem dX13_accountByBalance_54 : decode cX13_accountByBalance 54 = .ok (.if_icmp .ne 9, 3) := by decide +kernel
theorem dX13_accountByBalance_57 : decode cX13_accountByBalance 57 = .ok (.aload_n 0, 1) := by decide +kernel
theorem dX13_accountByBalance_58 : decode cX13_accountByBalance 58 = .ok (.iload_n 2, 1) := by decide +kernel
theorem dX13_accountByBalance_59 : decode cX13_accountByBalance 59 = .ok (.invokevirtual 60, 3) := by decide +kernel
theorem dX13_accountByBalance_62 : decode cX13_accountByBalance 62 = .ok (.ireturn, 1) := by decide +kernel
theorem dX13_accountByBalance_63 : decode cX13_accountByBalance 63 = .ok (.iinc 2 1, 3) := by decide +kernel
theorem dX13_accountByBalance_66 : decode cX13_accountByBalance 66 = .ok (.goto (-64), 3) := by decide +kernel
theorem dX13_accountByBalance_69 : decode cX13_accountByBalance 69 = .ok (.aload_n 0, 1) := by decide +kernel
theorem dX13_accountByBalance_70 : decode cX13_accountByBalance 70 = .ok (.iconst 1, 1) := by decide +kernel
theorem dX13_accountByBalance_71 : decode cX13_accountByBalance 71 = .ok (.invokevirtual 57, 3) := by decide +kernel
theorem dX13_accountByBalance_74 : decode cX13_accountByBalance 74 = .ok (.ireturn, 1) := by decide +kernel
theorem dX13_curtainCount_0 : decode cX13_curtainCount 0 = .ok (.aload_n 0, 1) := by decide +kernel
theorem dX13_curtainCount_1 : decode cX13_curtainCount 1 = .ok (.aload_n 0, 1) := by decide +kernel
theorem dX13_curtainCount_2 : decode cX13_curtainCount 2 = .ok (.getfield 7, 3) := by decide +kernel
theorem dX13_curtainCount_5 : decode cX13_curtainCount 5 = .ok (.bipush 8, 2) := by decide +kernel
theorem dX13_curtainCount_7 : decode cX13_curtainCount 7 = .ok (.iaload, 1) := by decide +kernel
theorem dX13_curtainCount_8 : decode cX13_curtainCount 8 = .ok (.invokevirtual 60, 3) := by decide +kernel
theorem dX13_curtainCount_11 : decode cX13_curtainCount 11 = .ok (.ireturn, 1) := by decide +kernel
theorem dX13_claimShare_0 : decode cX13_claimShare 0 = .ok (.aload_n 0, 1) := by decide +kernel
theorem dX13_claimShare_1 : decode cX13_claimShare 1 = .ok (.iconst 0, 1) := by decide +kernel
theorem dX13_claimShare_2 : decode cX13_claimShare 2 = .ok (.invokevirtual 53, 3) := by decide +kernel
theorem dX13_claimShare_5 : decode cX13_claimShare 5 = .ok (.aload_n 0, 1) := by decide +kernel
theorem dX13_claimShare_6 : decode cX13_claimShare 6 = .ok (.iconst 1, 1) := by decide +kernel
theorem dX13_claimShare_7 : decode cX13_claimShare 7 = .ok (.invokevirtual 53, 3) := by decide +kernel
theorem dX13_claimShare_10 : decode cX13_claimShare 10 = .ok (.iadd, 1) := by decide +kernel
theorem dX13_claimShare_11 : decode cX13_claimShare 11 = .ok (.aload_n 0, 1) := by decide +kernel
theorem dX13_claimShare_12 : decode cX13_claimShare 12 = .ok (.iconst 2, 1) := by decide +kernel
theorem dX13_claimShare_13 : decode cX13_claimShare 13 = .ok (.invokevirtual 53, 3) := by decide +kernel
theorem dX13_claimShare_16 : decode cX13_claimShare 16 = .ok (.iadd, 1) := by decide +kernel
theorem dX13_claimShare_17 : decode cX13_claimShare 17 = .ok (.istore_n 1, 1) := by decide +kernel
theorem dX13_claimShare_18 : decode cX13_claimShare 18 = .ok (.aload_n 0, 1) := by decide +kernel
theorem dX13_claimShare_19 : decode cX13_claimShare 19 = .ok (.iload_n 1, 1) := by decide +kernel
theorem dX13_claimShare_20 : decode cX13_claimShare 20 = .ok (.ifCond .ne 7, 3) := by decide +kernel
theorem dX13_claimShare_23 : decode cX13_claimShare 23 = .ok (.iconst 1, 1) := by decide +kernel
theorem dX13_claimShare_24 : decode cX13_claimShare 24 = .ok (.goto 4, 3) := by decide +kernel
theorem dX13_claimShare_27 : decode cX13_claimShare 27 = .ok (.iconst 0, 1) := by decide +kernel
theorem dX13_claimShare_28 : decode cX13_claimShare 28 = .ok (.putfield 39, 3) := by decide +kernel
theorem dX13_claimShare_31 : decode cX13_claimShare 31 = .ok (.aload_n 0, 1) := by decide +kernel
theorem dX13_claimShare_32 : decode cX13_claimShare 32 = .ok (.getfield 39, 3) := by decide +kernel
theorem dX13_claimShare_35 : decode cX13_claimShare 35 = .ok (.ifCond .ne 15, 3) := by decide +kernel
theorem dX13_claimShare_38 : decode cX13_claimShare 38 = .ok (.aload_n 0, 1) := by decide +kernel
theorem dX13_claimShare_39 : decode cX13_claimShare 39 = .ok (.iconst 2, 1) := by decide +kernel
theorem dX13_claimShare_40 : decode cX13_claimShare 40 = .ok (.invokevirtual 53, 3) := by decide +kernel
theorem dX13_claimShare_43 : decode cX13_claimShare 43 = .ok (.i2f, 1) := by decide +kernel
theorem dX13_claimShare_44 : decode cX13_claimShare 44 = .ok (.iload_n 1, 1) := by decide +kernel
theorem dX13_claimShare_45 : decode cX13_claimShare 45 = .ok (.i2f, 1) := by decide +kernel
theorem dX13_claimShare_46 : decode cX13_claimShare 46 = .ok (.fdiv, 1) := by decide +kernel
theorem dX13_claimShare_47 : decode cX13_claimShare 47 = .ok (.goto 4, 3) := by decide +kernel
theorem dX13_claimShare_50 : decode cX13_claimShare 50 = .ok (.fconst 0, 1) := by decide +kernel
theorem dX13_claimShare_51 : decode cX13_claimShare 51 = .ok (.freturn, 1) := by decide +kernel
theorem dX13_isConsistent_0 : decode cX13_isConsistent 0 = .ok (.aload_n 0, 1) := by decide +kernel
theorem dX13_isConsistent_1 : decode cX13_isConsistent 1 = .ok (.iconst 0, 1) := by decide +kernel
theorem dX13_isConsistent_2 : decode cX13_isConsistent 2 = .ok (.putfield 39, 3) := by decide +kernel
theorem dX13_isConsistent_5 : decode cX13_isConsistent 5 = .ok (.iconst 1, 1) := by decide +kernel
theorem dX13_isConsistent_6 : decode cX13_isConsistent 6 = .ok (.ireturn, 1) := by decide +kernel
theorem dX13_feed_0 : decode cX13_feed 0 = .ok (.aload_n 0, 1) := by decide +kernel
theorem dX13_feed_1 : decode cX13_feed 1 = .ok (.getfield 196, 3) := by decide +kernel
theorem dX13_feed_4 : decode cX13_feed 4 = .ok (.bipush 60, 2) := by decide +kernel
theorem dX13_feed_6 : decode cX13_feed 6 = .ok (.if_icmp .ne 9, 3) := by decide +kernel
theorem dX13_feed_9 : decode cX13_feed 9 = .ok (.aload_n 0, 1) := by decide +kernel
theorem dX13_feed_10 : decode cX13_feed 10 = .ok (.iconst 1, 1) := by decide +kernel
theorem dX13_feed_11 : decode cX13_feed 11 = .ok (.invokevirtual 57, 3) := by decide +kernel
theorem dX13_feed_14 : decode cX13_feed 14 = .ok (.ireturn, 1) := by decide +kernel
theorem dX13_feed_15 : decode cX13_feed 15 = .ok (.aload_n 0, 1) := by decide +kernel
theorem dX13_feed_16 : decode cX13_feed 16 = .ok (.getfield 22, 3) := by decide +kernel
theorem dX13_feed_19 : decode cX13_feed 19 = .ok (.aload_n 0, 1) := by decide +kernel
theorem dX13_feed_20 : decode cX13_feed 20 = .ok (.getfield 196, 3) := by decide +kernel
theorem dX13_feed_23 : decode cX13_feed 23 = .ok (.iload_n 1, 1) := by decide +kernel
theorem dX13_feed_24 : decode cX13_feed 24 = .ok (.castore, 1) := by decide +kernel
theorem dX13_feed_25 : decode cX13_feed 25 = .ok (.aload_n 0, 1) := by decide +kernel
theorem dX13_feed_26 : decode cX13_feed 26 = .ok (.dup, 1) := by decide +kernel
theorem dX13_feed_27 : decode cX13_feed 27 = .ok (.getfield 196, 3) := by decide +kernel
theorem dX13_feed_30 : decode cX13_feed 30 = .ok (.iconst 1, 1) := by decide +kernel
theorem dX13_feed_31 : decode cX13_feed 31 = .ok (.iadd, 1) := by decide +kernel
theorem dX13_feed_32 : decode cX13_feed 32 = .ok (.putfield 196, 3) := by decide +kernel
theorem dX13_feed_35 : decode cX13_feed 35 = .ok (.aload_n 0, 1) := by decide +kernel
theorem dX13_feed_36 : decode cX13_feed 36 = .ok (.aload_n 0, 1) := by decide +kernel
theorem dX13_feed_37 : decode cX13_feed 37 = .ok (.getfield 196, 3) := by decide +kernel
theorem dX13_feed_40 : decode cX13_feed 40 = .ok (.invokevirtual 60, 3) := by decide +kernel
theorem dX13_feed_43 : decode cX13_feed 43 = .ok (.ireturn, 1) := by decide +kernel
theorem dX13_here_0 : decode cX13_here 0 = .ok (.aload_n 0, 1) := by decide +kernel
theorem dX13_here_1 : decode cX13_here 1 = .ok (.getfield 199, 3) := by decide +kernel
theorem dX13_here_4 : decode cX13_here 4 = .ok (.aload_n 0, 1) := by decide +kernel
theorem dX13_here_5 : decode cX13_here 5 = .ok (.getfield 196, 3) := by decide +kernel
theorem dX13_here_8 : decode cX13_here 8 = .ok (.if_icmp .ge 15, 3) := by decide +kernel
theorem dX13_here_11 : decode cX13_here 11 = .ok (.aload_n 0, 1) := by decide +kernel
theorem dX13_here_12 : decode cX13_here 12 = .ok (.getfield 22, 3) := by decide +kernel
theorem dX13_here_15 : decode cX13_here 15 = .ok (.aload_n 0, 1) := by decide +kernel
theorem dX13_here_16 : decode cX13_here 16 = .ok (.getfield 199, 3) := by decide +kernel
theorem dX13_here_19 : decode cX13_here 19 = .ok (.caload, 1) := by decide +kernel
theorem dX13_here_20 : decode cX13_here 20 = .ok (.goto 4, 3) := by decide +kernel
theorem dX13_here_23 : decode cX13_here 23 = .ok (.iconst (-1), 1) := by decide +kernel
theorem dX13_here_24 : decode cX13_here 24 = .ok (.ireturn, 1) := by decide +kernel
theorem dX13_needs_0 : decode cX13_needs 0 = .ok (.aload_n 0, 1) := by decide +kernel
theorem dX13_needs_1 : decode cX13_needs 1 = .ok (.aload_n 0, 1) := by decide +kernel
theorem dX13_needs_2 : decode cX13_needs 2 = .ok (.getfield 202, 3) := by decide +kernel
theorem dX13_needs_5 : decode cX13_needs 5 = .ok (.ifCond .ne 11, 3) := by decide +kernel
theorem dX13_needs_8 : decode cX13_needs 8 = .ok (.aload_n 0, 1) := by decide +kernel
theorem dX13_needs_9 : decode cX13_needs 9 = .ok (.invokevirtual 206, 3) := by decide +kernel
theorem dX13_needs_12 : decode cX13_needs 12 = .ok (.iload_n 1, 1) := by decide +kernel
theorem dX13_needs_13 : decode cX13_needs 13 = .ok (.if_icmp .eq 7, 3) := by decide +kernel
theorem dX13_needs_16 : decode cX13_needs 16 = .ok (.iconst 1, 1) := by decide +kernel
theorem dX13_needs_17 : decode cX13_needs 17 = .ok (.goto 4, 3) := by decide +kernel
theorem dX13_needs_20 : decode cX13_needs 20 = .ok (.iconst 0, 1) := by decide +kernel
theorem dX13_needs_21 : decode cX13_needs 21 = .ok (.putfield 202, 3) := by decide +kernel
theorem dX13_needs_24 : decode cX13_needs 24 = .ok (.aload_n 0, 1) := by decide +kernel
theorem dX13_needs_25 : decode cX13_needs 25 = .ok (.dup, 1) := by decide +kernel
theorem dX13_needs_26 : decode cX13_needs 26 = .ok (.getfield 199, 3) := by decide +kernel
theorem dX13_needs_29 : decode cX13_needs 29 = .ok (.aload_n 0, 1) := by decide +kernel
theorem dX13_needs_30 : decode cX13_needs 30 = .ok (.getfield 202, 3) := by decide +kernel
theorem dX13_needs_33 : decode cX13_needs 33 = .ok (.ifCond .eq 7, 3) := by decide +kernel
theorem dX13_needs_36 : decode cX13_needs 36 = .ok (.iconst 0, 1) := by decide +kernel
theorem dX13_needs_37 : decode cX13_needs 37 = .ok (.goto 4, 3) := by decide +kernel
theorem dX13_needs_40 : decode cX13_needs 40 = .ok (.iconst 1, 1) := by decide +kernel
theorem dX13_needs_41 : decode cX13_needs 41 = .ok (.iadd, 1) := by decide +kernel
theorem dX13_needs_42 : decode cX13_needs 42 = .ok (.putfield 199, 3) := by decide +kernel
theorem dX13_needs_45 : decode cX13_needs 45 = .ok (.return_, 1) := by decide +kernel
theorem dX13_needsThree_0 : decode cX13_needsThree 0 = .ok (.aload_n 0, 1) := by decide +kernel
theorem dX13_needsThree_1 : decode cX13_needsThree 1 = .ok (.iload_n 1, 1) := by decide +kernel
theorem dX13_needsThree_2 : decode cX13_needsThree 2 = .ok (.invokevirtual 209, 3) := by decide +kernel
theorem dX13_needsThree_5 : decode cX13_needsThree 5 = .ok (.aload_n 0, 1) := by decide +kernel
theorem dX13_needsThree_6 : decode cX13_needsThree 6 = .ok (.iload_n 2, 1) := by decide +kernel
theorem dX13_needsThree_7 : decode cX13_needsThree 7 = .ok (.invokevirtual 209, 3) := by decide +kernel
theorem dX13_needsThree_10 : decode cX13_needsThree 10 = .ok (.aload_n 0, 1) := by decide +kernel
theorem dX13_needsThree_11 : decode cX13_needsThree 11 = .ok (.iload_n 3, 1) := by decide +kernel
theorem dX13_needsThree_12 : decode cX13_needsThree 12 = .ok (.invokevirtual 209, 3) := by decide +kernel
theorem dX13_needsThree_15 : decode cX13_needsThree 15 = .ok (.return_, 1) := by decide +kernel
theorem dX13_digits_0 : decode cX13_digits 0 = .ok (.aload_n 0, 1) := by decide +kernel
theorem dX13_digits_1 : decode cX13_digits 1 = .ok (.bipush 32, 2) := by decide +kernel
theorem dX13_digits_3 : decode cX13_digits 3 = .ok (.invokevirtual 209, 3) := by decide +kernel
theorem dX13_digits_6 : decode cX13_digits 6 = .ok (.aload_n 0, 1) := by decide +kernel
theorem dX13_digits_7 : decode cX13_digits 7 = .ok (.aload_n 0, 1) := by decide +kernel
theorem dX13_digits_8 : decode cX13_digits 8 = .ok (.getfield 202, 3) := by decide +kernel
theorem dX13_digits_11 : decode cX13_digits 11 = .ok (.ifCond .ne 17, 3) := by decide +kernel
theorem dX13_digits_14 : decode cX13_digits 14 = .ok (.aload_n 0, 1) := by decide +kernel
theorem dX13_digits_15 : decode cX13_digits 15 = .ok (.invokevirtual 206, 3) := by decide +kernel
theorem dX13_digits_18 : decode cX13_digits 18 = .ok (.bipush 48, 2) := by decide +kernel
theorem dX13_digits_20 : decode cX13_digits 20 = .ok (.bipush 57, 2) := by decide +kernel
theorem dX13_digits_22 : decode cX13_digits 22 = .ok (.invokestatic 49, 3) := by decide +kernel
theorem dX13_digits_25 : decode cX13_digits 25 = .ok (.ifCond .ne 7, 3) := by decide +kernel
theorem dX13_digits_28 : decode cX13_digits 28 = .ok (.iconst 1, 1) := by decide +kernel
theorem dX13_digits_29 : decode cX13_digits 29 = .ok (.goto 4, 3) := by decide +kernel
theorem dX13_digits_32 : decode cX13_digits 32 = .ok (.iconst 0, 1) := by decide +kernel
theorem dX13_digits_33 : decode cX13_digits 33 = .ok (.putfield 202, 3) := by decide +kernel
theorem dX13_digits_36 : decode cX13_digits 36 = .ok (.iconst 0, 1) := by decide +kernel
theorem dX13_digits_37 : decode cX13_digits 37 = .ok (.istore_n 2, 1) := by decide +kernel
theorem dX13_digits_38 : decode cX13_digits 38 = .ok (.iconst 0, 1) := by decide +kernel
theorem dX13_digits_39 : decode cX13_digits 39 = .ok (.istore_n 3, 1) := by decide +kernel
theorem dX13_digits_40 : decode cX13_digits 40 = .ok (.aload_n 0, 1) := by decide +kernel
theorem dX13_digits_41 : decode cX13_digits 41 = .ok (.getfield 202, 3) := by decide +kernel
theorem dX13_digits_44 : decode cX13_digits 44 = .ok (.ifCond .ne 51, 3) := by decide +kernel
theorem dX13_digits_47 : decode cX13_digits 47 = .ok (.iload_n 3, 1) := by decide +kernel
theorem dX13_digits_48 : decode cX13_digits 48 = .ok (.iload_n 1, 1) := by decide +kernel
theorem dX13_digits_49 : decode cX13_digits 49 = .ok (.if_icmp .ge 46, 3) := by decide +kernel
theorem dX13_digits_52 : decode cX13_digits 52 = .ok (.aload_n 0, 1) := by decide +kernel
theorem dX13_digits_53 : decode cX13_digits 53 = .ok (.invokevirtual 206, 3) := by decide +kernel
theorem dX13_digits_56 : decode cX13_digits 56 = .ok (.bipush 48, 2) := by decide +kernel
theorem dX13_digits_58 : decode cX13_digits 58 = .ok (.bipush 57, 2) := by decide +kernel
theorem dX13_digits_60 : decode cX13_digits 60 = .ok (.invokestatic 49, 3) := by decide +kernel
theorem dX13_digits_63 : decode cX13_digits 63 = .ok (.ifCond .eq 32, 3) := by decide +kernel
theorem dX13_digits_66 : decode cX13_digits 66 = .ok (.bipush 10, 2) := by decide +kernel
theorem dX13_digits_68 : decode cX13_digits 68 = .ok (.iload_n 2, 1) := by decide +kernel
theorem dX13_digits_69 : decode cX13_digits 69 = .ok (.imul, 1) := by decide +kernel
theorem dX13_digits_70 : decode cX13_digits 70 = .ok (.aload_n 0, 1) := by decide +kernel
theorem dX13_digits_71 : decode cX13_digits 71 = .ok (.invokevirtual 206, 3) := by decide +kernel
theorem dX13_digits_74 : decode cX13_digits 74 = .ok (.iadd, 1) := by decide +kernel
theorem dX13_digits_75 : decode cX13_digits 75 = .ok (.bipush 48, 2) := by decide +kernel
theorem dX13_digits_77 : decode cX13_digits 77 = .ok (.isub, 1) := by decide +kernel
theorem dX13_digits_78 : decode cX13_digits 78 = .ok (.istore_n 2, 1) := by decide +kernel
theorem dX13_digits_79 : decode cX13_digits 79 = .ok (.aload_n 0, 1) := by decide +kernel
theorem dX13_digits_80 : decode cX13_digits 80 = .ok (.dup, 1) := by decide +kernel
theorem dX13_digits_81 : decode cX13_digits 81 = .ok (.getfield 199, 3) := by decide +kernel
theorem dX13_digits_84 : decode cX13_digits 84 = .ok (.iconst 1, 1) := by decide +kernel
theorem dX13_digits_85 : decode cX13_digits 85 = .ok (.iadd, 1) := by decide +kernel
theorem dX13_digits_86 : decode cX13_digits 86 = .ok (.putfield 199, 3) := by decide +kernel
theorem dX13_digits_89 : decode cX13_digits 89 = .ok (.iinc 3 1, 3) := by decide +kernel
theorem dX13_digits_92 : decode cX13_digits 92 = .ok (.goto (-52), 3) := by decide +kernel
theorem dX13_digits_95 : decode cX13_digits 95 = .ok (.iload_n 2, 1) := by decide +kernel
theorem dX13_digits_96 : decode cX13_digits 96 = .ok (.ireturn, 1) := by decide +kernel
theorem dX13_parsesP_0 : decode cX13_parsesP 0 = .ok (.aload_n 0, 1) := by decide +kernel
theorem dX13_parsesP_1 : decode cX13_parsesP 1 = .ok (.invokevirtual 206, 3) := by decide +kernel
theorem dX13_parsesP_4 : decode cX13_parsesP 4 = .ok (.bipush 97, 2) := by decide +kernel
theorem dX13_parsesP_6 : decode cX13_parsesP 6 = .ok (.if_icmp .ne 39, 3) := by decide +kernel
theorem dX13_parsesP_9 : decode cX13_parsesP 9 = .ok (.aload_n 0, 1) := by decide +kernel
theorem dX13_parsesP_10 : decode cX13_parsesP 10 = .ok (.getfield 36, 3) := by decide +kernel
theorem dX13_parsesP_13 : decode cX13_parsesP 13 = .ok (.iload_n 1, 1) := by decide +kernel
theorem dX13_parsesP_14 : decode cX13_parsesP 14 = .ok (.bipush 121, 2) := by decide +kernel
theorem dX13_parsesP_16 : decode cX13_parsesP 16 = .ok (.iastore, 1) := by decide +kernel
theorem dX13_parsesP_17 : decode cX13_parsesP 17 = .ok (.aload_n 0, 1) := by decide +kernel
theorem dX13_parsesP_18 : decode cX13_parsesP 18 = .ok (.bipush 97, 2) := by decide +kernel
theorem dX13_parsesP_20 : decode cX13_parsesP 20 = .ok (.invokevirtual 209, 3) := by decide +kernel
theorem dX13_parsesP_23 : decode cX13_parsesP 23 = .ok (.aload_n 0, 1) := by decide +kernel
theorem dX13_parsesP_24 : decode cX13_parsesP 24 = .ok (.bipush 121, 2) := by decide +kernel
theorem dX13_parsesP_26 : decode cX13_parsesP 26 = .ok (.invokevirtual 209, 3) := by decide +kernel
theorem dX13_parsesP_29 : decode cX13_parsesP 29 = .ok (.aload_n 0, 1) := by decide +kernel
theorem dX13_parsesP_30 : decode cX13_parsesP 30 = .ok (.getfield 36, 3) := by decide +kernel
theorem dX13_parsesP_33 : decode cX13_parsesP 33 = .ok (.iload_n 1, 1) := by decide +kernel
theorem dX13_parsesP_34 : decode cX13_parsesP 34 = .ok (.iconst 1, 1) := by decide +kernel
theorem dX13_parsesP_35 : decode cX13_parsesP 35 = .ok (.iadd, 1) := by decide +kernel
theorem dX13_parsesP_36 : decode cX13_parsesP 36 = .ok (.aload_n 0, 1) := by decide +kernel
theorem dX13_parsesP_37 : decode cX13_parsesP 37 = .ok (.iconst 3, 1) := by decide +kernel
theorem dX13_parsesP_38 : decode cX13_parsesP 38 = .ok (.invokevirtual 212, 3) := by decide +kernel
theorem dX13_parsesP_41 : decode cX13_parsesP 41 = .ok (.iastore, 1) := by decide +kernel
theorem dX13_parsesP_42 : decode cX13_parsesP 42 = .ok (.goto 52, 3) := by decide +kernel
theorem dX13_parsesP_45 : decode cX13_parsesP 45 = .ok (.aload_n 0, 1) := by decide +kernel
theorem dX13_parsesP_46 : decode cX13_parsesP 46 = .ok (.bipush 111, 2) := by decide +kernel
theorem dX13_parsesP_48 : decode cX13_parsesP 48 = .ok (.bipush 115, 2) := by decide +kernel
theorem dX13_parsesP_50 : decode cX13_parsesP 50 = .ok (.bipush 116, 2) := by decide +kernel
theorem dX13_parsesP_52 : decode cX13_parsesP 52 = .ok (.invokevirtual 215, 3) := by decide +kernel
theorem dX13_parsesP_55 : decode cX13_parsesP 55 = .ok (.aload_n 0, 1) := by decide +kernel
theorem dX13_parsesP_56 : decode cX13_parsesP 56 = .ok (.getfield 36, 3) := by decide +kernel
theorem dX13_parsesP_59 : decode cX13_parsesP 59 = .ok (.iload_n 1, 1) := by decide +kernel
theorem dX13_parsesP_60 : decode cX13_parsesP 60 = .ok (.iconst 1, 1) := by decide +kernel
theorem dX13_parsesP_61 : decode cX13_parsesP 61 = .ok (.iadd, 1) := by decide +kernel
theorem dX13_parsesP_62 : decode cX13_parsesP 62 = .ok (.aload_n 0, 1) := by decide +kernel
theorem dX13_parsesP_63 : decode cX13_parsesP 63 = .ok (.iconst 2, 1) := by decide +kernel
theorem dX13_parsesP_64 : decode cX13_parsesP 64 = .ok (.invokevirtual 212, 3) := by decide +kernel
theorem dX13_parsesP_67 : decode cX13_parsesP 67 = .ok (.iastore, 1) := by decide +kernel
theorem dX13_parsesP_68 : decode cX13_parsesP 68 = .ok (.aload_n 0, 1) := by decide +kernel
theorem dX13_parsesP_69 : decode cX13_parsesP 69 = .ok (.getfield 36, 3) := by decide +kernel
theorem dX13_parsesP_72 : decode cX13_parsesP 72 = .ok (.iload_n 1, 1) := by decide +kernel
theorem dX13_parsesP_73 : decode cX13_parsesP 73 = .ok (.iconst 2, 1) := by decide +kernel
theorem dX13_parsesP_74 : decode cX13_parsesP 74 = .ok (.iadd, 1) := by decide +kernel
theorem dX13_parsesP_75 : decode cX13_parsesP 75 = .ok (.aload_n 0, 1) := by decide +kernel
theorem dX13_parsesP_76 : decode cX13_parsesP 76 = .ok (.iconst 2, 1) := by decide +kernel
theorem dX13_parsesP_77 : decode cX13_parsesP 77 = .ok (.invokevirtual 212, 3) := by decide +kernel
theorem dX13_parsesP_80 : decode cX13_parsesP 80 = .ok (.iastore, 1) := by decide +kernel
theorem dX13_parsesP_81 : decode cX13_parsesP 81 = .ok (.aload_n 0, 1) := by decide +kernel
theorem dX13_parsesP_82 : decode cX13_parsesP 82 = .ok (.getfield 36, 3) := by decide +kernel
theorem dX13_parsesP_85 : decode cX13_parsesP 85 = .ok (.iload_n 1, 1) := by decide +kernel
theorem dX13_parsesP_86 : decode cX13_parsesP 86 = .ok (.iconst 3, 1) := by decide +kernel
theorem dX13_parsesP_87 : decode cX13_parsesP 87 = .ok (.iadd, 1) := by decide +kernel
theorem dX13_parsesP_88 : decode cX13_parsesP 88 = .ok (.aload_n 0, 1) := by decide +kernel
theorem dX13_parsesP_89 : decode cX13_parsesP 89 = .ok (.iconst 3, 1) := by decide +kernel
theorem dX13_parsesP_90 : decode cX13_parsesP 90 = .ok (.invokevirtual 212, 3) := by decide +kernel
theorem dX13_parsesP_93 : decode cX13_parsesP 93 = .ok (.iastore, 1) := by decide +kernel
theorem dX13_parsesP_94 : decode cX13_parsesP 94 = .ok (.return_, 1) := by decide +kernel
theorem dX13_parsesTrade_0 : decode cX13_parsesTrade 0 = .ok (.aload_n 0, 1) := by decide +kernel
theorem dX13_parsesTrade_1 : decode cX13_parsesTrade 1 = .ok (.getfield 36, 3) := by decide +kernel
theorem dX13_parsesTrade_4 : decode cX13_parsesTrade 4 = .ok (.iload_n 1, 1) := by decide +kernel
theorem dX13_parsesTrade_5 : decode cX13_parsesTrade 5 = .ok (.iconst 1, 1) := by decide +kernel
theorem dX13_parsesTrade_6 : decode cX13_parsesTrade 6 = .ok (.iadd, 1) := by decide +kernel
theorem dX13_parsesTrade_7 : decode cX13_parsesTrade 7 = .ok (.aload_n 0, 1) := by decide +kernel
theorem dX13_parsesTrade_8 : decode cX13_parsesTrade 8 = .ok (.iconst 2, 1) := by decide +kernel
theorem dX13_parsesTrade_9 : decode cX13_parsesTrade 9 = .ok (.invokevirtual 212, 3) := by decide +kernel
theorem dX13_parsesTrade_12 : decode cX13_parsesTrade 12 = .ok (.iastore, 1) := by decide +kernel
theorem dX13_parsesTrade_13 : decode cX13_parsesTrade 13 = .ok (.aload_n 0, 1) := by decide +kernel
theorem dX13_parsesTrade_14 : decode cX13_parsesTrade 14 = .ok (.getfield 36, 3) := by decide +kernel
theorem dX13_parsesTrade_17 : decode cX13_parsesTrade 17 = .ok (.iload_n 1, 1) := by decide +kernel
theorem dX13_parsesTrade_18 : decode cX13_parsesTrade 18 = .ok (.iconst 2, 1) := by decide +kernel
theorem dX13_parsesTrade_19 : decode cX13_parsesTrade 19 = .ok (.iadd, 1) := by decide +kernel
theorem dX13_parsesTrade_20 : decode cX13_parsesTrade 20 = .ok (.aload_n 0, 1) := by decide +kernel
theorem dX13_parsesTrade_21 : decode cX13_parsesTrade 21 = .ok (.iconst 3, 1) := by decide +kernel
theorem dX13_parsesTrade_22 : decode cX13_parsesTrade 22 = .ok (.invokevirtual 212, 3) := by decide +kernel
theorem dX13_parsesTrade_25 : decode cX13_parsesTrade 25 = .ok (.iastore, 1) := by decide +kernel
theorem dX13_parsesTrade_26 : decode cX13_parsesTrade 26 = .ok (.return_, 1) := by decide +kernel
theorem dX13_parsesB_0 : decode cX13_parsesB 0 = .ok (.aload_n 0, 1) := by decide +kernel
theorem dX13_parsesB_1 : decode cX13_parsesB 1 = .ok (.invokevirtual 206, 3) := by decide +kernel
theorem dX13_parsesB_4 : decode cX13_parsesB 4 = .ok (.bipush 117, 2) := by decide +kernel
theorem dX13_parsesB_6 : decode cX13_parsesB 6 = .ok (.if_icmp .ne 31, 3) := by decide +kernel
theorem dX13_parsesB_9 : decode cX13_parsesB 9 = .ok (.aload_n 0, 1) := by decide +kernel
theorem dX13_parsesB_10 : decode cX13_parsesB 10 = .ok (.getfield 36, 3) := by decide +kernel
theorem dX13_parsesB_13 : decode cX13_parsesB 13 = .ok (.iload_n 1, 1) := by decide +kernel
theorem dX13_parsesB_14 : decode cX13_parsesB 14 = .ok (.bipush 117, 2) := by decide +kernel
theorem dX13_parsesB_16 : decode cX13_parsesB 16 = .ok (.iastore, 1) := by decide +kernel
theorem dX13_parsesB_17 : decode cX13_parsesB 17 = .ok (.aload_n 0, 1) := by decide +kernel
theorem dX13_parsesB_18 : decode cX13_parsesB 18 = .ok (.bipush 117, 2) := by decide +kernel
theorem dX13_parsesB_20 : decode cX13_parsesB 20 = .ok (.invokevirtual 209, 3) := by decide +kernel
theorem dX13_parsesB_23 : decode cX13_parsesB 23 = .ok (.aload_n 0, 1) := by decide +kernel
theorem dX13_parsesB_24 : decode cX13_parsesB 24 = .ok (.bipush 121, 2) := by decide +kernel
theorem dX13_parsesB_26 : decode cX13_parsesB 26 = .ok (.invokevirtual 209, 3) := by decide +kernel
theorem dX13_parsesB_29 : decode cX13_parsesB 29 = .ok (.aload_n 0, 1) := by decide +kernel
theorem dX13_parsesB_30 : decode cX13_parsesB 30 = .ok (.iload_n 1, 1) := by decide +kernel
theorem dX13_parsesB_31 : decode cX13_parsesB 31 = .ok (.invokevirtual 219, 3) := by decide +kernel
theorem dX13_parsesB_34 : decode cX13_parsesB 34 = .ok (.goto 69, 3) := by decide +kernel
theorem dX13_parsesB_37 : decode cX13_parsesB 37 = .ok (.aload_n 0, 1) := by decide +kernel
theorem dX13_parsesB_38 : decode cX13_parsesB 38 = .ok (.invokevirtual 206, 3) := by decide +kernel
theorem dX13_parsesB_41 : decode cX13_parsesB 41 = .ok (.bipush 105, 2) := by decide +kernel
theorem dX13_parsesB_43 : decode cX13_parsesB 43 = .ok (.if_icmp .ne 37, 3) := by decide +kernel
theorem dX13_parsesB_46 : decode cX13_parsesB 46 = .ok (.aload_n 0, 1) := by decide +kernel
theorem dX13_parsesB_47 : decode cX13_parsesB 47 = .ok (.getfield 36, 3) := by decide +kernel
theorem dX13_parsesB_50 : decode cX13_parsesB 50 = .ok (.iload_n 1, 1) := by decide +kernel
theorem dX13_parsesB_51 : decode cX13_parsesB 51 = .ok (.bipush 108, 2) := by decide +kernel
theorem dX13_parsesB_53 : decode cX13_parsesB 53 = .ok (.iastore, 1) := by decide +kernel
theorem dX13_parsesB_54 : decode cX13_parsesB 54 = .ok (.aload_n 0, 1) := by decide +kernel
theorem dX13_parsesB_55 : decode cX13_parsesB 55 = .ok (.bipush 105, 2) := by decide +kernel
theorem dX13_parsesB_57 : decode cX13_parsesB 57 = .ok (.bipush 108, 2) := by decide +kernel
theorem dX13_parsesB_59 : decode cX13_parsesB 59 = .ok (.bipush 108, 2) := by decide +kernel
theorem dX13_parsesB_61 : decode cX13_parsesB 61 = .ok (.invokevirtual 215, 3) := by decide +kernel
theorem dX13_parsesB_64 : decode cX13_parsesB 64 = .ok (.aload_n 0, 1) := by decide +kernel
theorem dX13_parsesB_65 : decode cX13_parsesB 65 = .ok (.getfield 36, 3) := by decide +kernel
theorem dX13_parsesB_68 : decode cX13_parsesB 68 = .ok (.iload_n 1, 1) := by decide +kernel
theorem dX13_parsesB_69 : decode cX13_parsesB 69 = .ok (.iconst 1, 1) := by decide +kernel
theorem dX13_parsesB_70 : decode cX13_parsesB 70 = .ok (.iadd, 1) := by decide +kernel
theorem dX13_parsesB_71 : decode cX13_parsesB 71 = .ok (.aload_n 0, 1) := by decide +kernel
theorem dX13_parsesB_72 : decode cX13_parsesB 72 = .ok (.iconst 3, 1) := by decide +kernel
theorem dX13_parsesB_73 : decode cX13_parsesB 73 = .ok (.invokevirtual 212, 3) := by decide +kernel
theorem dX13_parsesB_76 : decode cX13_parsesB 76 = .ok (.iastore, 1) := by decide +kernel
theorem dX13_parsesB_77 : decode cX13_parsesB 77 = .ok (.goto 26, 3) := by decide +kernel
theorem dX13_parsesB_80 : decode cX13_parsesB 80 = .ok (.aload_n 0, 1) := by decide +kernel
theorem dX13_parsesB_81 : decode cX13_parsesB 81 = .ok (.bipush 97, 2) := by decide +kernel
theorem dX13_parsesB_83 : decode cX13_parsesB 83 = .ok (.bipush 99, 2) := by decide +kernel
theorem dX13_parsesB_85 : decode cX13_parsesB 85 = .ok (.bipush 107, 2) := by decide +kernel
theorem dX13_parsesB_87 : decode cX13_parsesB 87 = .ok (.invokevirtual 215, 3) := by decide +kernel
theorem dX13_parsesB_90 : decode cX13_parsesB 90 = .ok (.aload_n 0, 1) := by decide +kernel
theorem dX13_parsesB_91 : decode cX13_parsesB 91 = .ok (.getfield 36, 3) := by decide +kernel
theorem dX13_parsesB_94 : decode cX13_parsesB 94 = .ok (.iload_n 1, 1) := by decide +kernel
theorem dX13_parsesB_95 : decode cX13_parsesB 95 = .ok (.iconst 1, 1) := by decide +kernel
theorem dX13_parsesB_96 : decode cX13_parsesB 96 = .ok (.iadd, 1) := by decide +kernel
theorem dX13_parsesB_97 : decode cX13_parsesB 97 = .ok (.aload_n 0, 1) := by decide +kernel
theorem dX13_parsesB_98 : decode cX13_parsesB 98 = .ok (.iconst 3, 1) := by decide +kernel
theorem dX13_parsesB_99 : decode cX13_parsesB 99 = .ok (.invokevirtual 212, 3) := by decide +kernel
theorem dX13_parsesB_102 : decode cX13_parsesB 102 = .ok (.iastore, 1) := by decide +kernel
theorem dX13_parsesB_103 : decode cX13_parsesB 103 = .ok (.return_, 1) := by decide +kernel
theorem dX13_parsesOpen_0 : decode cX13_parsesOpen 0 = .ok (.aload_n 0, 1) := by decide +kernel
theorem dX13_parsesOpen_1 : decode cX13_parsesOpen 1 = .ok (.bipush 112, 2) := by decide +kernel
theorem dX13_parsesOpen_3 : decode cX13_parsesOpen 3 = .ok (.bipush 101, 2) := by decide +kernel
theorem dX13_parsesOpen_5 : decode cX13_parsesOpen 5 = .ok (.bipush 110, 2) := by decide +kernel
theorem dX13_parsesOpen_7 : decode cX13_parsesOpen 7 = .ok (.invokevirtual 215, 3) := by decide +kernel
theorem dX13_parsesOpen_10 : decode cX13_parsesOpen 10 = .ok (.aload_n 0, 1) := by decide +kernel
theorem dX13_parsesOpen_11 : decode cX13_parsesOpen 11 = .ok (.bipush 32, 2) := by decide +kernel
theorem dX13_parsesOpen_13 : decode cX13_parsesOpen 13 = .ok (.invokevirtual 209, 3) := by decide +kernel
theorem dX13_parsesOpen_16 : decode cX13_parsesOpen 16 = .ok (.aload_n 0, 1) := by decide +kernel
theorem dX13_parsesOpen_17 : decode cX13_parsesOpen 17 = .ok (.aload_n 0, 1) := by decide +kernel
theorem dX13_parsesOpen_18 : decode cX13_parsesOpen 18 = .ok (.getfield 202, 3) := by decide +kernel
theorem dX13_parsesOpen_21 : decode cX13_parsesOpen 21 = .ok (.ifCond .ne 13, 3) := by decide +kernel
theorem dX13_parsesOpen_24 : decode cX13_parsesOpen 24 = .ok (.aload_n 0, 1) := by decide +kernel
theorem dX13_parsesOpen_25 : decode cX13_parsesOpen 25 = .ok (.invokevirtual 206, 3) := by decide +kernel
theorem dX13_parsesOpen_28 : decode cX13_parsesOpen 28 = .ok (.invokestatic 66, 3) := by decide +kernel
theorem dX13_parsesOpen_31 : decode cX13_parsesOpen 31 = .ok (.ifCond .ne 7, 3) := by decide +kernel
theorem dX13_parsesOpen_34 : decode cX13_parsesOpen 34 = .ok (.iconst 1, 1) := by decide +kernel
theorem dX13_parsesOpen_35 : decode cX13_parsesOpen 35 = .ok (.goto 4, 3) := by decide +kernel
theorem dX13_parsesOpen_38 : decode cX13_parsesOpen 38 = .ok (.iconst 0, 1) := by decide +kernel
theorem dX13_parsesOpen_39 : decode cX13_parsesOpen 39 = .ok (.putfield 202, 3) := by decide +kernel
theorem dX13_parsesOpen_42 : decode cX13_parsesOpen 42 = .ok (.aload_n 0, 1) := by decide +kernel
theorem dX13_parsesOpen_43 : decode cX13_parsesOpen 43 = .ok (.getfield 36, 3) := by decide +kernel
theorem dX13_parsesOpen_46 : decode cX13_parsesOpen 46 = .ok (.iload_n 1, 1) := by decide +kernel
theorem dX13_parsesOpen_47 : decode cX13_parsesOpen 47 = .ok (.iconst 1, 1) := by decide +kernel
theorem dX13_parsesOpen_48 : decode cX13_parsesOpen 48 = .ok (.iadd, 1) := by decide +kernel
theorem dX13_parsesOpen_49 : decode cX13_parsesOpen 49 = .ok (.aload_n 0, 1) := by decide +kernel
theorem dX13_parsesOpen_50 : decode cX13_parsesOpen 50 = .ok (.invokevirtual 206, 3) := by decide +kernel
theorem dX13_parsesOpen_53 : decode cX13_parsesOpen 53 = .ok (.iastore, 1) := by decide +kernel
theorem dX13_parsesOpen_54 : decode cX13_parsesOpen 54 = .ok (.aload_n 0, 1) := by decide +kernel
theorem dX13_parsesOpen_55 : decode cX13_parsesOpen 55 = .ok (.dup, 1) := by decide +kernel
theorem dX13_parsesOpen_56 : decode cX13_parsesOpen 56 = .ok (.getfield 199, 3) := by decide +kernel
theorem dX13_parsesOpen_59 : decode cX13_parsesOpen 59 = .ok (.aload_n 0, 1) := by decide +kernel
theorem dX13_parsesOpen_60 : decode cX13_parsesOpen 60 = .ok (.getfield 202, 3) := by decide +kernel
theorem dX13_parsesOpen_63 : decode cX13_parsesOpen 63 = .ok (.ifCond .eq 7, 3) := by decide +kernel
theorem dX13_parsesOpen_66 : decode cX13_parsesOpen 66 = .ok (.iconst 0, 1) := by decide +kernel
theorem dX13_parsesOpen_67 : decode cX13_parsesOpen 67 = .ok (.goto 4, 3) := by decide +kernel
theorem dX13_parsesOpen_70 : decode cX13_parsesOpen 70 = .ok (.iconst 1, 1) := by decide +kernel
theorem dX13_parsesOpen_71 : decode cX13_parsesOpen 71 = .ok (.iadd, 1) := by decide +kernel
theorem dX13_parsesOpen_72 : decode cX13_parsesOpen 72 = .ok (.putfield 199, 3) := by decide +kernel
theorem dX13_parsesOpen_75 : decode cX13_parsesOpen 75 = .ok (.aload_n 0, 1) := by decide +kernel
theorem dX13_parsesOpen_76 : decode cX13_parsesOpen 76 = .ok (.getfield 36, 3) := by decide +kernel
theorem dX13_parsesOpen_79 : decode cX13_parsesOpen 79 = .ok (.iload_n 1, 1) := by decide +kernel
theorem dX13_parsesOpen_80 : decode cX13_parsesOpen 80 = .ok (.iconst 2, 1) := by decide +kernel
theorem dX13_parsesOpen_81 : decode cX13_parsesOpen 81 = .ok (.iadd, 1) := by decide +kernel
theorem dX13_parsesOpen_82 : decode cX13_parsesOpen 82 = .ok (.aload_n 0, 1) := by decide +kernel
theorem dX13_parsesOpen_83 : decode cX13_parsesOpen 83 = .ok (.getfield 202, 3) := by decide +kernel
theorem dX13_parsesOpen_86 : decode cX13_parsesOpen 86 = .ok (.ifCond .ne 20, 3) := by decide +kernel
theorem dX13_parsesOpen_89 : decode cX13_parsesOpen 89 = .ok (.aload_n 0, 1) := by decide +kernel
theorem dX13_parsesOpen_90 : decode cX13_parsesOpen 90 = .ok (.invokevirtual 206, 3) := by decide +kernel
theorem dX13_parsesOpen_93 : decode cX13_parsesOpen 93 = .ok (.bipush 32, 2) := by decide +kernel
theorem dX13_parsesOpen_95 : decode cX13_parsesOpen 95 = .ok (.if_icmp .ne 11, 3) := by decide +kernel
theorem dX13_parsesOpen_98 : decode cX13_parsesOpen 98 = .ok (.aload_n 0, 1) := by decide +kernel
theorem dX13_parsesOpen_99 : decode cX13_parsesOpen 99 = .ok (.iconst 2, 1) := by decide +kernel
theorem dX13_parsesOpen_100 : decode cX13_parsesOpen 100 = .ok (.invokevirtual 212, 3) := by decide +kernel
theorem dX13_parsesOpen_103 : decode cX13_parsesOpen 103 = .ok (.goto 4, 3) := by decide +kernel
theorem dX13_parsesOpen_106 : decode cX13_parsesOpen 106 = .ok (.iconst (-1), 1) := by decide +kernel
theorem dX13_parsesOpen_107 : decode cX13_parsesOpen 107 = .ok (.iastore, 1) := by decide +kernel
theorem dX13_parsesOpen_108 : decode cX13_parsesOpen 108 = .ok (.return_, 1) := by decide +kernel
theorem dX13_parsesCommand_0 : decode cX13_parsesCommand 0 = .ok (.aload_n 0, 1) := by decide +kernel
theorem dX13_parsesCommand_1 : decode cX13_parsesCommand 1 = .ok (.invokevirtual 206, 3) := by decide +kernel
theorem dX13_parsesCommand_4 : decode cX13_parsesCommand 4 = .ok (.istore_n 2, 1) := by decide +kernel
theorem dX13_parsesCommand_5 : decode cX13_parsesCommand 5 = .ok (.aload_n 0, 1) := by decide +kernel
theorem dX13_parsesCommand_6 : decode cX13_parsesCommand 6 = .ok (.dup, 1) := by decide +kernel
theorem dX13_parsesCommand_7 : decode cX13_parsesCommand 7 = .ok (.getfield 199, 3) := by decide +kernel
theorem dX13_parsesCommand_10 : decode cX13_parsesCommand 10 = .ok (.iconst 1, 1) := by decide +kernel
theorem dX13_parsesCommand_11 : decode cX13_parsesCommand 11 = .ok (.iadd, 1) := by decide +kernel
theorem dX13_parsesCommand_12 : decode cX13_parsesCommand 12 = .ok (.putfield 199, 3) := by decide +kernel
theorem dX13_parsesCommand_15 : decode cX13_parsesCommand 15 = .ok (.aload_n 0, 1) := by decide +kernel
theorem dX13_parsesCommand_16 : decode cX13_parsesCommand 16 = .ok (.getfield 36, 3) := by decide +kernel
theorem dX13_parsesCommand_19 : decode cX13_parsesCommand 19 = .ok (.iload_n 1, 1) := by decide +kernel
theorem dX13_parsesCommand_20 : decode cX13_parsesCommand 20 = .ok (.iload_n 2, 1) := by decide +kernel
theorem dX13_parsesCommand_21 : decode cX13_parsesCommand 21 = .ok (.iastore, 1) := by decide +kernel
theorem dX13_parsesCommand_22 : decode cX13_parsesCommand 22 = .ok (.iload_n 2, 1) := by decide +kernel
theorem dX13_parsesCommand_23 : decode cX13_parsesCommand 23 = .ok (.lookupswitch 168 #[(98, 65), (99, 145), (111, 73), (112, 57), (115, 81), (119, 99)], 57) := by decide +kernel
theorem dX13_parsesCommand_80 : decode cX13_parsesCommand 80 = .ok (.aload_n 0, 1) := by decide +kernel
theorem dX13_parsesCommand_81 : decode cX13_parsesCommand 81 = .ok (.iload_n 1, 1) := by decide +kernel
theorem dX13_parsesCommand_82 : decode cX13_parsesCommand 82 = .ok (.invokevirtual 222, 3) := by decide +kernel
theorem dX13_parsesCommand_85 : decode cX13_parsesCommand 85 = .ok (.goto 121, 3) := by decide +kernel
theorem dX13_parsesCommand_88 : decode cX13_parsesCommand 88 = .ok (.aload_n 0, 1) := by decide +kernel
theorem dX13_parsesCommand_89 : decode cX13_parsesCommand 89 = .ok (.iload_n 1, 1) := by decide +kernel
theorem dX13_parsesCommand_90 : decode cX13_parsesCommand 90 = .ok (.invokevirtual 225, 3) := by decide +kernel
theorem dX13_parsesCommand_93 : decode cX13_parsesCommand 93 = .ok (.goto 113, 3) := by decide +kernel
theorem dX13_parsesCommand_96 : decode cX13_parsesCommand 96 = .ok (.aload_n 0, 1) := by decide +kernel
theorem dX13_parsesCommand_97 : decode cX13_parsesCommand 97 = .ok (.iload_n 1, 1) := by decide +kernel
theorem dX13_parsesCommand_98 : decode cX13_parsesCommand 98 = .ok (.invokevirtual 228, 3) := by decide +kernel
theorem dX13_parsesCommand_101 : decode cX13_parsesCommand 101 = .ok (.goto 105, 3) := by decide +kernel
theorem dX13_parsesCommand_104 : decode cX13_parsesCommand 104 = .ok (.aload_n 0, 1) := by decide +kernel
theorem dX13_parsesCommand_105 : decode cX13_parsesCommand 105 = .ok (.bipush 101, 2) := by decide +kernel
theorem dX13_parsesCommand_107 : decode cX13_parsesCommand 107 = .ok (.bipush 108, 2) := by decide +kernel
theorem dX13_parsesCommand_109 : decode cX13_parsesCommand 109 = .ok (.bipush 108, 2) := by decide +kernel
theorem dX13_parsesCommand_111 : decode cX13_parsesCommand 111 = .ok (.invokevirtual 215, 3) := by decide +kernel
theorem dX13_parsesCommand_114 : decode cX13_parsesCommand 114 = .ok (.aload_n 0, 1) := by decide +kernel
theorem dX13_parsesCommand_115 : decode cX13_parsesCommand 115 = .ok (.iload_n 1, 1) := by decide +kernel
theorem dX13_parsesCommand_116 : decode cX13_parsesCommand 116 = .ok (.invokevirtual 219, 3) := by decide +kernel
theorem dX13_parsesCommand_119 : decode cX13_parsesCommand 119 = .ok (.goto 87, 3) := by decide +kernel
theorem dX13_parsesCommand_122 : decode cX13_parsesCommand 122 = .ok (.aload_n 0, 1) := by decide +kernel
theorem dX13_parsesCommand_123 : decode cX13_parsesCommand 123 = .ok (.bipush 97, 2) := by decide +kernel
theorem dX13_parsesCommand_125 : decode cX13_parsesCommand 125 = .ok (.bipush 105, 2) := by decide +kernel
theorem dX13_parsesCommand_127 : decode cX13_parsesCommand 127 = .ok (.bipush 116, 2) := by decide +kernel
theorem dX13_parsesCommand_129 : decode cX13_parsesCommand 129 = .ok (.invokevirtual 215, 3) := by decide +kernel
theorem dX13_parsesCommand_132 : decode cX13_parsesCommand 132 = .ok (.aload_n 0, 1) := by decide +kernel
theorem dX13_parsesCommand_133 : decode cX13_parsesCommand 133 = .ok (.getfield 36, 3) := by decide +kernel
theorem dX13_parsesCommand_136 : decode cX13_parsesCommand 136 = .ok (.iload_n 1, 1) := by decide +kernel
theorem dX13_parsesCommand_137 : decode cX13_parsesCommand 137 = .ok (.iconst 1, 1) := by decide +kernel
theorem dX13_parsesCommand_138 : decode cX13_parsesCommand 138 = .ok (.iadd, 1) := by decide +kernel
theorem dX13_parsesCommand_139 : decode cX13_parsesCommand 139 = .ok (.aload_n 0, 1) := by decide +kernel
theorem dX13_parsesCommand_140 : decode cX13_parsesCommand 140 = .ok (.getfield 202, 3) := by decide +kernel
theorem dX13_parsesCommand_143 : decode cX13_parsesCommand 143 = .ok (.ifCond .ne 20, 3) := by decide +kernel
theorem dX13_parsesCommand_146 : decode cX13_parsesCommand 146 = .ok (.aload_n 0, 1) := by decide +kernel
theorem dX13_parsesCommand_147 : decode cX13_parsesCommand 147 = .ok (.invokevirtual 206, 3) := by decide +kernel
theorem dX13_parsesCommand_150 : decode cX13_parsesCommand 150 = .ok (.bipush 32, 2) := by decide +kernel
theorem dX13_parsesCommand_152 : decode cX13_parsesCommand 152 = .ok (.if_icmp .ne 11, 3) := by decide +kernel
theorem dX13_parsesCommand_155 : decode cX13_parsesCommand 155 = .ok (.aload_n 0, 1) := by decide +kernel
theorem dX13_parsesCommand_156 : decode cX13_parsesCommand 156 = .ok (.iconst 2, 1) := by decide +kernel
theorem dX13_parsesCommand_157 : decode cX13_parsesCommand 157 = .ok (.invokevirtual 212, 3) := by decide +kernel
theorem dX13_parsesCommand_160 : decode cX13_parsesCommand 160 = .ok (.goto 4, 3) := by decide +kernel
theorem dX13_parsesCommand_163 : decode cX13_parsesCommand 163 = .ok (.iconst 1, 1) := by decide +kernel
theorem dX13_parsesCommand_164 : decode cX13_parsesCommand 164 = .ok (.iastore, 1) := by decide +kernel
theorem dX13_parsesCommand_165 : decode cX13_parsesCommand 165 = .ok (.goto 41, 3) := by decide +kernel
theorem dX13_parsesCommand_168 : decode cX13_parsesCommand 168 = .ok (.aload_n 0, 1) := by decide +kernel
theorem dX13_parsesCommand_169 : decode cX13_parsesCommand 169 = .ok (.bipush 117, 2) := by decide +kernel
theorem dX13_parsesCommand_171 : decode cX13_parsesCommand 171 = .ok (.bipush 114, 2) := by decide +kernel
theorem dX13_parsesCommand_173 : decode cX13_parsesCommand 173 = .ok (.bipush 116, 2) := by decide +kernel
theorem dX13_parsesCommand_175 : decode cX13_parsesCommand 175 = .ok (.invokevirtual 215, 3) := by decide +kernel
theorem dX13_parsesCommand_178 : decode cX13_parsesCommand 178 = .ok (.aload_n 0, 1) := by decide +kernel
theorem dX13_parsesCommand_179 : decode cX13_parsesCommand 179 = .ok (.bipush 97, 2) := by decide +kernel
theorem dX13_parsesCommand_181 : decode cX13_parsesCommand 181 = .ok (.bipush 105, 2) := by decide +kernel
theorem dX13_parsesCommand_183 : decode cX13_parsesCommand 183 = .ok (.bipush 110, 2) := by decide +kernel
theorem dX13_parsesCommand_185 : decode cX13_parsesCommand 185 = .ok (.invokevirtual 215, 3) := by decide +kernel
theorem dX13_parsesCommand_188 : decode cX13_parsesCommand 188 = .ok (.goto 18, 3) := by decide +kernel
theorem dX13_parsesCommand_191 : decode cX13_parsesCommand 191 = .ok (.aload_n 0, 1) := by decide +kernel
theorem dX13_parsesCommand_192 : decode cX13_parsesCommand 192 = .ok (.iconst 1, 1) := by decide +kernel
theorem dX13_parsesCommand_193 : decode cX13_parsesCommand 193 = .ok (.putfield 202, 3) := by decide +kernel
theorem dX13_parsesCommand_196 : decode cX13_parsesCommand 196 = .ok (.aload_n 0, 1) := by decide +kernel
theorem dX13_parsesCommand_197 : decode cX13_parsesCommand 197 = .ok (.dup, 1) := by decide +kernel
theorem dX13_parsesCommand_198 : decode cX13_parsesCommand 198 = .ok (.getfield 199, 3) := by decide +kernel
theorem dX13_parsesCommand_201 : decode cX13_parsesCommand 201 = .ok (.iconst 1, 1) := by decide +kernel
theorem dX13_parsesCommand_202 : decode cX13_parsesCommand 202 = .ok (.isub, 1) := by decide +kernel
theorem dX13_parsesCommand_203 : decode cX13_parsesCommand 203 = .ok (.putfield 199, 3) := by decide +kernel
theorem dX13_parsesCommand_206 : decode cX13_parsesCommand 206 = .ok (.return_, 1) := by decide +kernel
theorem dX13_opensBy_0 : decode cX13_opensBy 0 = .ok (.iload_n 2, 1) := by decide +kernel
theorem dX13_opensBy_1 : decode cX13_opensBy 1 = .ok (.iconst (-1), 1) := by decide +kernel
theorem dX13_opensBy_2 : decode cX13_opensBy 2 = .ok (.if_icmp .eq 24, 3) := by decide +kernel
theorem dX13_opensBy_5 : decode cX13_opensBy 5 = .ok (.aload_n 0, 1) := by decide +kernel
theorem dX13_opensBy_6 : decode cX13_opensBy 6 = .ok (.iload_n 2, 1) := by decide +kernel
theorem dX13_opensBy_7 : decode cX13_opensBy 7 = .ok (.invokevirtual 77, 3) := by decide +kernel
theorem dX13_opensBy_10 : decode cX13_opensBy 10 = .ok (.ifCond .eq 20, 3) := by decide +kernel
theorem dX13_opensBy_13 : decode cX13_opensBy 13 = .ok (.aload_n 0, 1) := by decide +kernel
theorem dX13_opensBy_14 : decode cX13_opensBy 14 = .ok (.getfield 7, 3) := by decide +kernel
theorem dX13_opensBy_17 : decode cX13_opensBy 17 = .ok (.bipush 9, 2) := by decide +kernel
theorem dX13_opensBy_19 : decode cX13_opensBy 19 = .ok (.iload_n 2, 1) := by decide +kernel
theorem dX13_opensBy_20 : decode cX13_opensBy 20 = .ok (.iadd, 1) := by decide +kernel
theorem dX13_opensBy_21 : decode cX13_opensBy 21 = .ok (.iaload, 1) := by decide +kernel
theorem dX13_opensBy_22 : decode cX13_opensBy 22 = .ok (.iload_n 1, 1) := by decide +kernel
theorem dX13_opensBy_23 : decode cX13_opensBy 23 = .ok (.if_icmp .ne 7, 3) := by decide +kernel
theorem dX13_opensBy_26 : decode cX13_opensBy 26 = .ok (.iconst 1, 1) := by decide +kernel
theorem dX13_opensBy_27 : decode cX13_opensBy 27 = .ok (.goto 4, 3) := by decide +kernel
theorem dX13_opensBy_30 : decode cX13_opensBy 30 = .ok (.iconst 0, 1) := by decide +kernel
theorem dX13_opensBy_31 : decode cX13_opensBy 31 = .ok (.istore_n 3, 1) := by decide +kernel
theorem dX13_opensBy_32 : decode cX13_opensBy 32 = .ok (.iload_n 3, 1) := by decide +kernel
theorem dX13_opensBy_33 : decode cX13_opensBy 33 = .ok (.ifCond .eq 12, 3) := by decide +kernel
theorem dX13_opensBy_36 : decode cX13_opensBy 36 = .ok (.aload_n 0, 1) := by decide +kernel
theorem dX13_opensBy_37 : decode cX13_opensBy 37 = .ok (.iload_n 1, 1) := by decide +kernel
theorem dX13_opensBy_38 : decode cX13_opensBy 38 = .ok (.iload_n 2, 1) := by decide +kernel
theorem dX13_opensBy_39 : decode cX13_opensBy 39 = .ok (.invokevirtual 70, 3) := by decide +kernel
theorem dX13_opensBy_42 : decode cX13_opensBy 42 = .ok (.goto 8, 3) := by decide +kernel
theorem dX13_opensBy_45 : decode cX13_opensBy 45 = .ok (.aload_n 0, 1) := by decide +kernel
theorem dX13_opensBy_46 : decode cX13_opensBy 46 = .ok (.iconst 1, 1) := by decide +kernel
theorem dX13_opensBy_47 : decode cX13_opensBy 47 = .ok (.invokevirtual 57, 3) := by decide +kernel
theorem dX13_opensBy_50 : decode cX13_opensBy 50 = .ok (.ireturn, 1) := by decide +kernel
theorem dX13_carriesOut_0 : decode cX13_carriesOut 0 = .ok (.aload_n 0, 1) := by decide +kernel
theorem dX13_carriesOut_1 : decode cX13_carriesOut 1 = .ok (.getfield 36, 3) := by decide +kernel
theorem dX13_carriesOut_4 : decode cX13_carriesOut 4 = .ok (.iload_n 1, 1) := by decide +kernel
theorem dX13_carriesOut_5 : decode cX13_carriesOut 5 = .ok (.iconst 1, 1) := by decide +kernel
theorem dX13_carriesOut_6 : decode cX13_carriesOut 6 = .ok (.iadd, 1) := by decide +kernel
theorem dX13_carriesOut_7 : decode cX13_carriesOut 7 = .ok (.iaload, 1) := by decide +kernel
theorem dX13_carriesOut_8 : decode cX13_carriesOut 8 = .ok (.istore_n 2, 1) := by decide +kernel
theorem dX13_carriesOut_9 : decode cX13_carriesOut 9 = .ok (.aload_n 0, 1) := by decide +kernel
theorem dX13_carriesOut_10 : decode cX13_carriesOut 10 = .ok (.getfield 36, 3) := by decide +kernel
theorem dX13_carriesOut_13 : decode cX13_carriesOut 13 = .ok (.iload_n 1, 1) := by decide +kernel
theorem dX13_carriesOut_14 : decode cX13_carriesOut 14 = .ok (.iconst 2, 1) := by decide +kernel
theorem dX13_carriesOut_15 : decode cX13_carriesOut 15 = .ok (.iadd, 1) := by decide +kernel
theorem dX13_carriesOut_16 : decode cX13_carriesOut 16 = .ok (.iaload, 1) := by decide +kernel
theorem dX13_carriesOut_17 : decode cX13_carriesOut 17 = .ok (.istore_n 3, 1) := by decide +kernel
theorem dX13_carriesOut_18 : decode cX13_carriesOut 18 = .ok (.aload_n 0, 1) := by decide +kernel
theorem dX13_carriesOut_19 : decode cX13_carriesOut 19 = .ok (.getfield 36, 3) := by decide +kernel
theorem dX13_carriesOut_22 : decode cX13_carriesOut 22 = .ok (.iload_n 1, 1) := by decide +kernel
theorem dX13_carriesOut_23 : decode cX13_carriesOut 23 = .ok (.iaload, 1) := by decide +kernel
theorem dX13_carriesOut_24 : decode cX13_carriesOut 24 = .ok (.tableswitch 172 98 121 #[146, 172, 172, 172, 172, 172, 172, 172, 172, 172, 140, 172, 172, 152, 112, 172, 172, 159, 172, 133, 172, 166, 172, 127], 112) := by decide +kernel
theorem dX13_carriesOut_136 : decode cX13_carriesOut 136 = .ok (.aload_n 0, 1) := by decide +kernel
theorem dX13_carriesOut_137 : decode cX13_carriesOut 137 = .ok (.iload_n 2, 1) := by decide +kernel
theorem dX13_carriesOut_138 : decode cX13_carriesOut 138 = .ok (.iload_n 3, 1) := by decide +kernel
theorem dX13_carriesOut_139 : decode cX13_carriesOut 139 = .ok (.aload_n 0, 1) := by decide +kernel
theorem dX13_carriesOut_140 : decode cX13_carriesOut 140 = .ok (.getfield 36, 3) := by decide +kernel
theorem dX13_carriesOut_143 : decode cX13_carriesOut 143 = .ok (.iload_n 1, 1) := by decide +kernel
theorem dX13_carriesOut_144 : decode cX13_carriesOut 144 = .ok (.iconst 3, 1) := by decide +kernel
theorem dX13_carriesOut_145 : decode cX13_carriesOut 145 = .ok (.iadd, 1) := by decide +kernel
theorem dX13_carriesOut_146 : decode cX13_carriesOut 146 = .ok (.iaload, 1) := by decide +kernel
theorem dX13_carriesOut_147 : decode cX13_carriesOut 147 = .ok (.invokevirtual 88, 3) := by decide +kernel
theorem dX13_carriesOut_150 : decode cX13_carriesOut 150 = .ok (.ireturn, 1) := by decide +kernel
theorem dX13_carriesOut_151 : decode cX13_carriesOut 151 = .ok (.aload_n 0, 1) := by decide +kernel
theorem dX13_carriesOut_152 : decode cX13_carriesOut 152 = .ok (.iload_n 2, 1) := by decide +kernel
theorem dX13_carriesOut_153 : decode cX13_carriesOut 153 = .ok (.invokevirtual 158, 3) := by decide +kernel
theorem dX13_carriesOut_156 : decode cX13_carriesOut 156 = .ok (.ireturn, 1) := by decide +kernel
theorem dX13_carriesOut_157 : decode cX13_carriesOut 157 = .ok (.aload_n 0, 1) := by decide +kernel
theorem dX13_carriesOut_158 : decode cX13_carriesOut 158 = .ok (.iload_n 2, 1) := by decide +kernel
theorem dX13_carriesOut_159 : decode cX13_carriesOut 159 = .ok (.iload_n 3, 1) := by decide +kernel
theorem dX13_carriesOut_160 : decode cX13_carriesOut 160 = .ok (.invokevirtual 118, 3) := by decide +kernel
theorem dX13_carriesOut_163 : decode cX13_carriesOut 163 = .ok (.ireturn, 1) := by decide +kernel
theorem dX13_carriesOut_164 : decode cX13_carriesOut 164 = .ok (.aload_n 0, 1) := by decide +kernel
theorem dX13_carriesOut_165 : decode cX13_carriesOut 165 = .ok (.iload_n 2, 1) := by decide +kernel
theorem dX13_carriesOut_166 : decode cX13_carriesOut 166 = .ok (.invokevirtual 133, 3) := by decide +kernel
theorem dX13_carriesOut_169 : decode cX13_carriesOut 169 = .ok (.ireturn, 1) := by decide +kernel
theorem dX13_carriesOut_170 : decode cX13_carriesOut 170 = .ok (.aload_n 0, 1) := by decide +kernel
theorem dX13_carriesOut_171 : decode cX13_carriesOut 171 = .ok (.iload_n 2, 1) := by decide +kernel
theorem dX13_carriesOut_172 : decode cX13_carriesOut 172 = .ok (.invokevirtual 94, 3) := by decide +kernel
theorem dX13_carriesOut_175 : decode cX13_carriesOut 175 = .ok (.ireturn, 1) := by decide +kernel
theorem dX13_carriesOut_176 : decode cX13_carriesOut 176 = .ok (.aload_n 0, 1) := by decide +kernel
theorem dX13_carriesOut_177 : decode cX13_carriesOut 177 = .ok (.iload_n 2, 1) := by decide +kernel
theorem dX13_carriesOut_178 : decode cX13_carriesOut 178 = .ok (.iload_n 3, 1) := by decide +kernel
theorem dX13_carriesOut_179 : decode cX13_carriesOut 179 = .ok (.invokevirtual 231, 3) := by decide +kernel
theorem dX13_carriesOut_182 : decode cX13_carriesOut 182 = .ok (.ireturn, 1) := by decide +kernel
theorem dX13_carriesOut_183 : decode cX13_carriesOut 183 = .ok (.aload_n 0, 1) := by decide +kernel
theorem dX13_carriesOut_184 : decode cX13_carriesOut 184 = .ok (.iload_n 2, 1) := by decide +kernel
theorem dX13_carriesOut_185 : decode cX13_carriesOut 185 = .ok (.iload_n 3, 1) := by decide +kernel
theorem dX13_carriesOut_186 : decode cX13_carriesOut 186 = .ok (.invokevirtual 130, 3) := by decide +kernel
theorem dX13_carriesOut_189 : decode cX13_carriesOut 189 = .ok (.ireturn, 1) := by decide +kernel
theorem dX13_carriesOut_190 : decode cX13_carriesOut 190 = .ok (.aload_n 0, 1) := by decide +kernel
theorem dX13_carriesOut_191 : decode cX13_carriesOut 191 = .ok (.iload_n 2, 1) := by decide +kernel
theorem dX13_carriesOut_192 : decode cX13_carriesOut 192 = .ok (.invokevirtual 115, 3) := by decide +kernel
theorem dX13_carriesOut_195 : decode cX13_carriesOut 195 = .ok (.ireturn, 1) := by decide +kernel
theorem dX13_carriesOut_196 : decode cX13_carriesOut 196 = .ok (.aload_n 0, 1) := by decide +kernel
theorem dX13_carriesOut_197 : decode cX13_carriesOut 197 = .ok (.invokevirtual 164, 3) := by decide +kernel
theorem dX13_carriesOut_200 : decode cX13_carriesOut 200 = .ok (.ireturn, 1) := by decide +kernel
theorem dX13_runCommands_0 : decode cX13_runCommands 0 = .ok (.aload_n 0, 1) := by decide +kernel
theorem dX13_runCommands_1 : decode cX13_runCommands 1 = .ok (.iconst 0, 1) := by decide +kernel
theorem dX13_runCommands_2 : decode cX13_runCommands 2 = .ok (.putfield 199, 3) := by decide +kernel
theorem dX13_runCommands_5 : decode cX13_runCommands 5 = .ok (.aload_n 0, 1) := by decide +kernel
theorem dX13_runCommands_6 : decode cX13_runCommands 6 = .ok (.iconst 0, 1) := by decide +kernel
theorem dX13_runCommands_7 : decode cX13_runCommands 7 = .ok (.putfield 202, 3) := by decide +kernel
theorem dX13_runCommands_10 : decode cX13_runCommands 10 = .ok (.iconst 0, 1) := by decide +kernel
theorem dX13_runCommands_11 : decode cX13_runCommands 11 = .ok (.istore_n 1, 1) := by decide +kernel
theorem dX13_runCommands_12 : decode cX13_runCommands 12 = .ok (.iconst 1, 1) := by decide +kernel
theorem dX13_runCommands_13 : decode cX13_runCommands 13 = .ok (.istore_n 2, 1) := by decide +kernel
theorem dX13_runCommands_14 : decode cX13_runCommands 14 = .ok (.iload_n 2, 1) := by decide +kernel
theorem dX13_runCommands_15 : decode cX13_runCommands 15 = .ok (.ifCond .eq 56, 3) := by decide +kernel
theorem dX13_runCommands_18 : decode cX13_runCommands 18 = .ok (.aload_n 0, 1) := by decide +kernel
theorem dX13_runCommands_19 : decode cX13_runCommands 19 = .ok (.iconst 4, 1) := by decide +kernel
theorem dX13_runCommands_20 : decode cX13_runCommands 20 = .ok (.iload_n 1, 1) := by decide +kernel
theorem dX13_runCommands_21 : decode cX13_runCommands 21 = .ok (.imul, 1) := by decide +kernel
theorem dX13_runCommands_22 : decode cX13_runCommands 22 = .ok (.invokevirtual 234, 3) := by decide +kernel
theorem dX13_runCommands_25 : decode cX13_runCommands 25 = .ok (.iinc 1 1, 3) := by decide +kernel
theorem dX13_runCommands_28 : decode cX13_runCommands 28 = .ok (.aload_n 0, 1) := by decide +kernel
theorem dX13_runCommands_29 : decode cX13_runCommands 29 = .ok (.getfield 202, 3) := by decide +kernel
theorem dX13_runCommands_32 : decode cX13_runCommands 32 = .ok (.ifCond .ne 16, 3) := by decide +kernel
theorem dX13_runCommands_35 : decode cX13_runCommands 35 = .ok (.aload_n 0, 1) := by decide +kernel
theorem dX13_runCommands_36 : decode cX13_runCommands 36 = .ok (.invokevirtual 206, 3) := by decide +kernel
theorem dX13_runCommands_39 : decode cX13_runCommands 39 = .ok (.bipush 59, 2) := by decide +kernel
theorem dX13_runCommands_41 : decode cX13_runCommands 41 = .ok (.if_icmp .ne 7, 3) := by decide +kernel
theorem dX13_runCommands_44 : decode cX13_runCommands 44 = .ok (.iconst 1, 1) := by decide +kernel
theorem dX13_runCommands_45 : decode cX13_runCommands 45 = .ok (.goto 4, 3) := by decide +kernel
theorem dX13_runCommands_48 : decode cX13_runCommands 48 = .ok (.iconst 0, 1) := by decide +kernel
theorem dX13_runCommands_49 : decode cX13_runCommands 49 = .ok (.istore_n 2, 1) := by decide +kernel
theorem dX13_runCommands_50 : decode cX13_runCommands 50 = .ok (.aload_n 0, 1) := by decide +kernel
theorem dX13_runCommands_51 : decode cX13_runCommands 51 = .ok (.dup, 1) := by decide +kernel
theorem dX13_runCommands_52 : decode cX13_runCommands 52 = .ok (.getfield 199, 3) := by decide +kernel
theorem dX13_runCommands_55 : decode cX13_runCommands 55 = .ok (.iload_n 2, 1) := by decide +kernel
theorem dX13_runCommands_56 : decode cX13_runCommands 56 = .ok (.ifCond .eq 7, 3) := by decide +kernel
theorem dX13_runCommands_59 : decode cX13_runCommands 59 = .ok (.iconst 1, 1) := by decide +kernel
theorem dX13_runCommands_60 : decode cX13_runCommands 60 = .ok (.goto 4, 3) := by decide +kernel
theorem dX13_runCommands_63 : decode cX13_runCommands 63 = .ok (.iconst 0, 1) := by decide +kernel
theorem dX13_runCommands_64 : decode cX13_runCommands 64 = .ok (.iadd, 1) := by decide +kernel
theorem dX13_runCommands_65 : decode cX13_runCommands 65 = .ok (.putfield 199, 3) := by decide +kernel
theorem dX13_runCommands_68 : decode cX13_runCommands 68 = .ok (.goto (-54), 3) := by decide +kernel
theorem dX13_runCommands_71 : decode cX13_runCommands 71 = .ok (.aload_n 0, 1) := by decide +kernel
theorem dX13_runCommands_72 : decode cX13_runCommands 72 = .ok (.aload_n 0, 1) := by decide +kernel
theorem dX13_runCommands_73 : decode cX13_runCommands 73 = .ok (.getfield 202, 3) := by decide +kernel
theorem dX13_runCommands_76 : decode cX13_runCommands 76 = .ok (.ifCond .ne 14, 3) := by decide +kernel
theorem dX13_runCommands_79 : decode cX13_runCommands 79 = .ok (.aload_n 0, 1) := by decide +kernel
theorem dX13_runCommands_80 : decode cX13_runCommands 80 = .ok (.getfield 199, 3) := by decide +kernel
theorem dX13_runCommands_83 : decode cX13_runCommands 83 = .ok (.aload_n 0, 1) := by decide +kernel
theorem dX13_runCommands_84 : decode cX13_runCommands 84 = .ok (.getfield 196, 3) := by decide +kernel
theorem dX13_runCommands_87 : decode cX13_runCommands 87 = .ok (.if_icmp .ge 7, 3) := by decide +kernel
theorem dX13_runCommands_90 : decode cX13_runCommands 90 = .ok (.iconst 1, 1) := by decide +kernel
theorem dX13_runCommands_91 : decode cX13_runCommands 91 = .ok (.goto 4, 3) := by decide +kernel
theorem dX13_runCommands_94 : decode cX13_runCommands 94 = .ok (.iconst 0, 1) := by decide +kernel
theorem dX13_runCommands_95 : decode cX13_runCommands 95 = .ok (.putfield 202, 3) := by decide +kernel
theorem dX13_runCommands_98 : decode cX13_runCommands 98 = .ok (.aload_n 0, 1) := by decide +kernel
theorem dX13_runCommands_99 : decode cX13_runCommands 99 = .ok (.iconst 0, 1) := by decide +kernel
theorem dX13_runCommands_100 : decode cX13_runCommands 100 = .ok (.putfield 196, 3) := by decide +kernel
theorem dX13_runCommands_103 : decode cX13_runCommands 103 = .ok (.aload_n 0, 1) := by decide +kernel
theorem dX13_runCommands_104 : decode cX13_runCommands 104 = .ok (.getfield 202, 3) := by decide +kernel
theorem dX13_runCommands_107 : decode cX13_runCommands 107 = .ok (.ifCond .eq 17, 3) := by decide +kernel
theorem dX13_runCommands_110 : decode cX13_runCommands 110 = .ok (.aload_n 0, 1) := by decide +kernel
theorem dX13_runCommands_111 : decode cX13_runCommands 111 = .ok (.aload_n 0, 1) := by decide +kernel
theorem dX13_runCommands_112 : decode cX13_runCommands 112 = .ok (.getfield 199, 3) := by decide +kernel
theorem dX13_runCommands_115 : decode cX13_runCommands 115 = .ok (.putfield 26, 3) := by decide +kernel
theorem dX13_runCommands_118 : decode cX13_runCommands 118 = .ok (.aload_n 0, 1) := by decide +kernel
theorem dX13_runCommands_119 : decode cX13_runCommands 119 = .ok (.iconst 1, 1) := by decide +kernel
theorem dX13_runCommands_120 : decode cX13_runCommands 120 = .ok (.invokevirtual 57, 3) := by decide +kernel
theorem dX13_runCommands_123 : decode cX13_runCommands 123 = .ok (.ireturn, 1) := by decide +kernel
theorem dX13_runCommands_124 : decode cX13_runCommands 124 = .ok (.aload_n 0, 1) := by decide +kernel
theorem dX13_runCommands_125 : decode cX13_runCommands 125 = .ok (.invokevirtual 63, 3) := by decide +kernel
theorem dX13_runCommands_128 : decode cX13_runCommands 128 = .ok (.iconst 0, 1) := by decide +kernel
theorem dX13_runCommands_129 : decode cX13_runCommands 129 = .ok (.istore_n 3, 1) := by decide +kernel
theorem dX13_runCommands_130 : decode cX13_runCommands 130 = .ok (.iload_n 3, 1) := by decide +kernel
theorem dX13_runCommands_131 : decode cX13_runCommands 131 = .ok (.iload_n 1, 1) := by decide +kernel
theorem dX13_runCommands_132 : decode cX13_runCommands 132 = .ok (.if_icmp .ge 42, 3) := by decide +kernel
theorem dX13_runCommands_135 : decode cX13_runCommands 135 = .ok (.aload_n 0, 1) := by decide +kernel
theorem dX13_runCommands_136 : decode cX13_runCommands 136 = .ok (.iconst 4, 1) := by decide +kernel
theorem dX13_runCommands_137 : decode cX13_runCommands 137 = .ok (.iload_n 3, 1) := by decide +kernel
theorem dX13_runCommands_138 : decode cX13_runCommands 138 = .ok (.imul, 1) := by decide +kernel
theorem dX13_runCommands_139 : decode cX13_runCommands 139 = .ok (.invokevirtual 237, 3) := by decide +kernel
theorem dX13_runCommands_142 : decode cX13_runCommands 142 = .ok (.istore 4, 2) := by decide +kernel
theorem dX13_runCommands_144 : decode cX13_runCommands 144 = .ok (.aload_n 0, 1) := by decide +kernel
theorem dX13_runCommands_145 : decode cX13_runCommands 145 = .ok (.getfield 39, 3) := by decide +kernel
theorem dX13_runCommands_148 : decode cX13_runCommands 148 = .ok (.ifCond .eq 20, 3) := by decide +kernel
theorem dX13_runCommands_151 : decode cX13_runCommands 151 = .ok (.aload_n 0, 1) := by decide +kernel
theorem dX13_runCommands_152 : decode cX13_runCommands 152 = .ok (.iload_n 3, 1) := by decide +kernel
theorem dX13_runCommands_153 : decode cX13_runCommands 153 = .ok (.putfield 30, 3) := by decide +kernel
theorem dX13_runCommands_156 : decode cX13_runCommands 156 = .ok (.aload_n 0, 1) := by decide +kernel
theorem dX13_runCommands_157 : decode cX13_runCommands 157 = .ok (.iconst 2, 1) := by decide +kernel
theorem dX13_runCommands_158 : decode cX13_runCommands 158 = .ok (.putfield 39, 3) := by decide +kernel
theorem dX13_runCommands_161 : decode cX13_runCommands 161 = .ok (.aload_n 0, 1) := by decide +kernel
theorem dX13_runCommands_162 : decode cX13_runCommands 162 = .ok (.iload 4, 2) := by decide +kernel
theorem dX13_runCommands_164 : decode cX13_runCommands 164 = .ok (.invokevirtual 74, 3) := by decide +kernel
theorem dX13_runCommands_167 : decode cX13_runCommands 167 = .ok (.ireturn, 1) := by decide +kernel
theorem dX13_runCommands_168 : decode cX13_runCommands 168 = .ok (.iinc 3 1, 3) := by decide +kernel
theorem dX13_runCommands_171 : decode cX13_runCommands 171 = .ok (.goto (-41), 3) := by decide +kernel
theorem dX13_runCommands_174 : decode cX13_runCommands 174 = .ok (.aload_n 0, 1) := by decide +kernel
theorem dX13_runCommands_175 : decode cX13_runCommands 175 = .ok (.aload_n 0, 1) := by decide +kernel
theorem dX13_runCommands_176 : decode cX13_runCommands 176 = .ok (.iload_n 1, 1) := by decide +kernel
theorem dX13_runCommands_177 : decode cX13_runCommands 177 = .ok (.invokevirtual 60, 3) := by decide +kernel
theorem dX13_runCommands_180 : decode cX13_runCommands 180 = .ok (.invokevirtual 74, 3) := by decide +kernel
theorem dX13_runCommands_183 : decode cX13_runCommands 183 = .ok (.ireturn, 1) := by decide +kernel
theorem dX13_errorPosition_0 : decode cX13_errorPosition 0 = .ok (.aload_n 0, 1) := by decide +kernel
theorem dX13_errorPosition_1 : decode cX13_errorPosition 1 = .ok (.getfield 26, 3) := by decide +kernel
theorem dX13_errorPosition_4 : decode cX13_errorPosition 4 = .ok (.iconst (-1), 1) := by decide +kernel
theorem dX13_errorPosition_5 : decode cX13_errorPosition 5 = .ok (.if_icmp .ne 11, 3) := by decide +kernel
theorem dX13_errorPosition_8 : decode cX13_errorPosition 8 = .ok (.aload_n 0, 1) := by decide +kernel
theorem dX13_errorPosition_9 : decode cX13_errorPosition 9 = .ok (.iconst 1, 1) := by decide +kernel
theorem dX13_errorPosition_10 : decode cX13_errorPosition 10 = .ok (.invokevirtual 57, 3) := by decide +kernel
theorem dX13_errorPosition_13 : decode cX13_errorPosition 13 = .ok (.goto 11, 3) := by decide +kernel
theorem dX13_errorPosition_16 : decode cX13_errorPosition 16 = .ok (.aload_n 0, 1) := by decide +kernel
theorem dX13_errorPosition_17 : decode cX13_errorPosition 17 = .ok (.aload_n 0, 1) := by decide +kernel
theorem dX13_errorPosition_18 : decode cX13_errorPosition 18 = .ok (.getfield 26, 3) := by decide +kernel
theorem dX13_errorPosition_21 : decode cX13_errorPosition 21 = .ok (.invokevirtual 60, 3) := by decide +kernel
theorem dX13_errorPosition_24 : decode cX13_errorPosition 24 = .ok (.ireturn, 1) := by decide +kernel
theorem dX13_failedCommand_0 : decode cX13_failedCommand 0 = .ok (.aload_n 0, 1) := by decide +kernel
theorem dX13_failedCommand_1 : decode cX13_failedCommand 1 = .ok (.getfield 30, 3) := by decide +kernel
theorem dX13_failedCommand_4 : decode cX13_failedCommand 4 = .ok (.iconst (-1), 1) := by decide +kernel
theorem dX13_failedCommand_5 : decode cX13_failedCommand 5 = .ok (.if_icmp .ne 11, 3) := by decide +kernel
theorem dX13_failedCommand_8 : decode cX13_failedCommand 8 = .ok (.aload_n 0, 1) := by decide +kernel
theorem dX13_failedCommand_9 : decode cX13_failedCommand 9 = .ok (.iconst 1, 1) := by decide +kernel
theorem dX13_failedCommand_10 : decode cX13_failedCommand 10 = .ok (.invokevirtual 57, 3) := by decide +kernel
theorem dX13_failedCommand_13 : decode cX13_failedCommand 13 = .ok (.goto 11, 3) := by decide +kernel
theorem dX13_failedCommand_16 : decode cX13_failedCommand 16 = .ok (.aload_n 0, 1) := by decide +kernel
theorem dX13_failedCommand_17 : decode cX13_failedCommand 17 = .ok (.aload_n 0, 1) := by decide +kernel
theorem dX13_failedCommand_18 : decode cX13_failedCommand 18 = .ok (.getfield 30, 3) := by decide +kernel
theorem dX13_failedCommand_21 : decode cX13_failedCommand 21 = .ok (.invokevirtual 60, 3) := by decide +kernel
theorem dX13_failedCommand_24 : decode cX13_failedCommand 24 = .ok (.ireturn, 1) := by decide +kernel
theorem dX13_writes_0 : decode cX13_writes 0 = .ok (.aload_n 0, 1) := by decide +kernel
theorem dX13_writes_1 : decode cX13_writes 1 = .ok (.getfield 33, 3) := by decide +kernel
theorem dX13_writes_4 : decode cX13_writes 4 = .ok (.aload_n 0, 1) := by decide +kernel
theorem dX13_writes_5 : decode cX13_writes 5 = .ok (.getfield 240, 3) := by decide +kernel
theorem dX13_writes_8 : decode cX13_writes 8 = .ok (.iload_n 1, 1) := by decide +kernel
theorem dX13_writes_9 : decode cX13_writes 9 = .ok (.i2c, 1) := by decide +kernel
theorem dX13_writes_10 : decode cX13_writes 10 = .ok (.castore, 1) := by decide +kernel
theorem dX13_writes_11 : decode cX13_writes 11 = .ok (.aload_n 0, 1) := by decide +kernel
theorem dX13_writes_12 : decode cX13_writes 12 = .ok (.dup, 1) := by decide +kernel
theorem dX13_writes_13 : decode cX13_writes 13 = .ok (.getfield 240, 3) := by decide +kernel
theorem dX13_writes_16 : decode cX13_writes 16 = .ok (.iconst 1, 1) := by decide +kernel
theorem dX13_writes_17 : decode cX13_writes 17 = .ok (.iadd, 1) := by decide +kernel
theorem dX13_writes_18 : decode cX13_writes 18 = .ok (.putfield 240, 3) := by decide +kernel
theorem dX13_writes_21 : decode cX13_writes 21 = .ok (.return_, 1) := by decide +kernel
theorem dX13_writesNumber_0 : decode cX13_writesNumber 0 = .ok (.ldc 243, 2) := by decide +kernel
theorem dX13_writesNumber_2 : decode cX13_writesNumber 2 = .ok (.istore_n 2, 1) := by decide +kernel
theorem dX13_writesNumber_3 : decode cX13_writesNumber 3 = .ok (.iload_n 2, 1) := by decide +kernel
theorem dX13_writesNumber_4 : decode cX13_writesNumber 4 = .ok (.iconst 1, 1) := by decide +kernel
theorem dX13_writesNumber_5 : decode cX13_writesNumber 5 = .ok (.if_icmp .le 16, 3) := by decide +kernel
theorem dX13_writesNumber_8 : decode cX13_writesNumber 8 = .ok (.iload_n 1, 1) := by decide +kernel
theorem dX13_writesNumber_9 : decode cX13_writesNumber 9 = .ok (.iload_n 2, 1) := by decide +kernel
theorem dX13_writesNumber_10 : decode cX13_writesNumber 10 = .ok (.if_icmp .ge 11, 3) := by decide +kernel
theorem dX13_writesNumber_13 : decode cX13_writesNumber 13 = .ok (.iload_n 2, 1) := by decide +kernel
theorem dX13_writesNumber_14 : decode cX13_writesNumber 14 = .ok (.bipush 10, 2) := by decide +kernel
theorem dX13_writesNumber_16 : decode cX13_writesNumber 16 = .ok (.idiv, 1) := by decide +kernel
theorem dX13_writesNumber_17 : decode cX13_writesNumber 17 = .ok (.istore_n 2, 1) := by decide +kernel
theorem dX13_writesNumber_18 : decode cX13_writesNumber 18 = .ok (.goto (-15), 3) := by decide +kernel
theorem dX13_writesNumber_21 : decode cX13_writesNumber 21 = .ok (.iload_n 2, 1) := by decide +kernel
theorem dX13_writesNumber_22 : decode cX13_writesNumber 22 = .ok (.ifCond .le 24, 3) := by decide +kernel
theorem dX13_writesNumber_25 : decode cX13_writesNumber 25 = .ok (.aload_n 0, 1) := by decide +kernel
theorem dX13_writesNumber_26 : decode cX13_writesNumber 26 = .ok (.bipush 48, 2) := by decide +kernel
theorem dX13_writesNumber_28 : decode cX13_writesNumber 28 = .ok (.iload_n 1, 1) := by decide +kernel
theorem dX13_writesNumber_29 : decode cX13_writesNumber 29 = .ok (.iload_n 2, 1) := by decide +kernel
theorem dX13_writesNumber_30 : decode cX13_writesNumber 30 = .ok (.idiv, 1) := by decide +kernel
theorem dX13_writesNumber_31 : decode cX13_writesNumber 31 = .ok (.bipush 10, 2) := by decide +kernel
theorem dX13_writesNumber_33 : decode cX13_writesNumber 33 = .ok (.irem, 1) := by decide +kernel
theorem dX13_writesNumber_34 : decode cX13_writesNumber 34 = .ok (.iadd, 1) := by decide +kernel
theorem dX13_writesNumber_35 : decode cX13_writesNumber 35 = .ok (.invokevirtual 244, 3) := by decide +kernel
theorem dX13_writesNumber_38 : decode cX13_writesNumber 38 = .ok (.iload_n 2, 1) := by decide +kernel
theorem dX13_writesNumber_39 : decode cX13_writesNumber 39 = .ok (.bipush 10, 2) := by decide +kernel
theorem dX13_writesNumber_41 : decode cX13_writesNumber 41 = .ok (.idiv, 1) := by decide +kernel
theorem dX13_writesNumber_42 : decode cX13_writesNumber 42 = .ok (.istore_n 2, 1) := by decide +kernel
theorem dX13_writesNumber_43 : decode cX13_writesNumber 43 = .ok (.goto (-22), 3) := by decide +kernel
theorem dX13_writesNumber_46 : decode cX13_writesNumber 46 = .ok (.return_, 1) := by decide +kernel
theorem dX13_writeEntry_0 : decode cX13_writeEntry 0 = .ok (.aload_n 0, 1) := by decide +kernel
theorem dX13_writeEntry_1 : decode cX13_writeEntry 1 = .ok (.iload_n 1, 1) := by decide +kernel
theorem dX13_writeEntry_2 : decode cX13_writeEntry 2 = .ok (.invokevirtual 91, 3) := by decide +kernel
theorem dX13_writeEntry_5 : decode cX13_writeEntry 5 = .ok (.istore_n 2, 1) := by decide +kernel
theorem dX13_writeEntry_6 : decode cX13_writeEntry 6 = .ok (.iload_n 2, 1) := by decide +kernel
theorem dX13_writeEntry_7 : decode cX13_writeEntry 7 = .ok (.iconst (-1), 1) := by decide +kernel
theorem dX13_writeEntry_8 : decode cX13_writeEntry 8 = .ok (.if_icmp .ne 9, 3) := by decide +kernel
theorem dX13_writeEntry_11 : decode cX13_writeEntry 11 = .ok (.aload_n 0, 1) := by decide +kernel
theorem dX13_writeEntry_12 : decode cX13_writeEntry 12 = .ok (.iconst 1, 1) := by decide +kernel
theorem dX13_writeEntry_13 : decode cX13_writeEntry 13 = .ok (.invokevirtual 57, 3) := by decide +kernel
theorem dX13_writeEntry_16 : decode cX13_writeEntry 16 = .ok (.ireturn, 1) := by decide +kernel
theorem dX13_writeEntry_17 : decode cX13_writeEntry 17 = .ok (.aload_n 0, 1) := by decide +kernel
theorem dX13_writeEntry_18 : decode cX13_writeEntry 18 = .ok (.iconst 0, 1) := by decide +kernel
theorem dX13_writeEntry_19 : decode cX13_writeEntry 19 = .ok (.putfield 240, 3) := by decide +kernel
theorem dX13_writeEntry_22 : decode cX13_writeEntry 22 = .ok (.aload_n 0, 1) := by decide +kernel
theorem dX13_writeEntry_23 : decode cX13_writeEntry 23 = .ok (.iload_n 1, 1) := by decide +kernel
theorem dX13_writeEntry_24 : decode cX13_writeEntry 24 = .ok (.invokevirtual 247, 3) := by decide +kernel
theorem dX13_writeEntry_27 : decode cX13_writeEntry 27 = .ok (.aload_n 0, 1) := by decide +kernel
theorem dX13_writeEntry_28 : decode cX13_writeEntry 28 = .ok (.bipush 58, 2) := by decide +kernel
theorem dX13_writeEntry_30 : decode cX13_writeEntry 30 = .ok (.invokevirtual 244, 3) := by decide +kernel
theorem dX13_writeEntry_33 : decode cX13_writeEntry 33 = .ok (.aload_n 0, 1) := by decide +kernel
theorem dX13_writeEntry_34 : decode cX13_writeEntry 34 = .ok (.aload_n 0, 1) := by decide +kernel
theorem dX13_writeEntry_35 : decode cX13_writeEntry 35 = .ok (.getfield 7, 3) := by decide +kernel
theorem dX13_writeEntry_38 : decode cX13_writeEntry 38 = .ok (.bipush 57, 2) := by decide +kernel
theorem dX13_writeEntry_40 : decode cX13_writeEntry 40 = .ok (.iload_n 2, 1) := by decide +kernel
theorem dX13_writeEntry_41 : decode cX13_writeEntry 41 = .ok (.iadd, 1) := by decide +kernel
theorem dX13_writeEntry_42 : decode cX13_writeEntry 42 = .ok (.iaload, 1) := by decide +kernel
theorem dX13_writeEntry_43 : decode cX13_writeEntry 43 = .ok (.invokevirtual 247, 3) := by decide +kernel
theorem dX13_writeEntry_46 : decode cX13_writeEntry 46 = .ok (.aload_n 0, 1) := by decide +kernel
theorem dX13_writeEntry_47 : decode cX13_writeEntry 47 = .ok (.bipush 60, 2) := by decide +kernel
theorem dX13_writeEntry_49 : decode cX13_writeEntry 49 = .ok (.invokevirtual 244, 3) := by decide +kernel
theorem dX13_writeEntry_52 : decode cX13_writeEntry 52 = .ok (.aload_n 0, 1) := by decide +kernel
theorem dX13_writeEntry_53 : decode cX13_writeEntry 53 = .ok (.aload_n 0, 1) := by decide +kernel
theorem dX13_writeEntry_54 : decode cX13_writeEntry 54 = .ok (.getfield 7, 3) := by decide +kernel
theorem dX13_writeEntry_57 : decode cX13_writeEntry 57 = .ok (.bipush 77, 2) := by decide +kernel
theorem dX13_writeEntry_59 : decode cX13_writeEntry 59 = .ok (.iload_n 2, 1) := by decide +kernel
theorem dX13_writeEntry_60 : decode cX13_writeEntry 60 = .ok (.iadd, 1) := by decide +kernel
theorem dX13_writeEntry_61 : decode cX13_writeEntry 61 = .ok (.iaload, 1) := by decide +kernel
theorem dX13_writeEntry_62 : decode cX13_writeEntry 62 = .ok (.invokevirtual 247, 3) := by decide +kernel
theorem dX13_writeEntry_65 : decode cX13_writeEntry 65 = .ok (.aload_n 0, 1) := by decide +kernel
theorem dX13_writeEntry_66 : decode cX13_writeEntry 66 = .ok (.bipush 61, 2) := by decide +kernel
theorem dX13_writeEntry_68 : decode cX13_writeEntry 68 = .ok (.invokevirtual 244, 3) := by decide +kernel
theorem dX13_writeEntry_71 : decode cX13_writeEntry 71 = .ok (.aload_n 0, 1) := by decide +kernel
theorem dX13_writeEntry_72 : decode cX13_writeEntry 72 = .ok (.aload_n 0, 1) := by decide +kernel
theorem dX13_writeEntry_73 : decode cX13_writeEntry 73 = .ok (.getfield 7, 3) := by decide +kernel
theorem dX13_writeEntry_76 : decode cX13_writeEntry 76 = .ok (.bipush 97, 2) := by decide +kernel
theorem dX13_writeEntry_78 : decode cX13_writeEntry 78 = .ok (.iload_n 2, 1) := by decide +kernel
theorem dX13_writeEntry_79 : decode cX13_writeEntry 79 = .ok (.iadd, 1) := by decide +kernel
theorem dX13_writeEntry_80 : decode cX13_writeEntry 80 = .ok (.iaload, 1) := by decide +kernel
theorem dX13_writeEntry_81 : decode cX13_writeEntry 81 = .ok (.invokevirtual 247, 3) := by decide +kernel
theorem dX13_writeEntry_84 : decode cX13_writeEntry 84 = .ok (.aload_n 0, 1) := by decide +kernel
theorem dX13_writeEntry_85 : decode cX13_writeEntry 85 = .ok (.getfield 7, 3) := by decide +kernel
theorem dX13_writeEntry_88 : decode cX13_writeEntry 88 = .ok (.sipush 137, 3) := by decide +kernel
theorem dX13_writeEntry_91 : decode cX13_writeEntry 91 = .ok (.iload_n 2, 1) := by decide +kernel
theorem dX13_writeEntry_92 : decode cX13_writeEntry 92 = .ok (.iadd, 1) := by decide +kernel
theorem dX13_writeEntry_93 : decode cX13_writeEntry 93 = .ok (.iaload, 1) := by decide +kernel
theorem dX13_writeEntry_94 : decode cX13_writeEntry 94 = .ok (.iconst 1, 1) := by decide +kernel
theorem dX13_writeEntry_95 : decode cX13_writeEntry 95 = .ok (.if_icmp .ne 9, 3) := by decide +kernel
theorem dX13_writeEntry_98 : decode cX13_writeEntry 98 = .ok (.aload_n 0, 1) := by decide +kernel
theorem dX13_writeEntry_99 : decode cX13_writeEntry 99 = .ok (.bipush 33, 2) := by decide +kernel
theorem dX13_writeEntry_101 : decode cX13_writeEntry 101 = .ok (.invokevirtual 244, 3) := by decide +kernel
theorem dX13_writeEntry_104 : decode cX13_writeEntry 104 = .ok (.aload_n 0, 1) := by decide +kernel
theorem dX13_writeEntry_105 : decode cX13_writeEntry 105 = .ok (.aload_n 0, 1) := by decide +kernel
theorem dX13_writeEntry_106 : decode cX13_writeEntry 106 = .ok (.getfield 240, 3) := by decide +kernel
theorem dX13_writeEntry_109 : decode cX13_writeEntry 109 = .ok (.invokevirtual 60, 3) := by decide +kernel
theorem dX13_writeEntry_112 : decode cX13_writeEntry 112 = .ok (.ireturn, 1) := by decide +kernel
theorem dX13_outputChar_0 : decode cX13_outputChar 0 = .ok (.aload_n 0, 1) := by decide +kernel
theorem dX13_outputChar_1 : decode cX13_outputChar 1 = .ok (.iload_n 1, 1) := by decide +kernel
theorem dX13_outputChar_2 : decode cX13_outputChar 2 = .ok (.iconst 0, 1) := by decide +kernel
theorem dX13_outputChar_3 : decode cX13_outputChar 3 = .ok (.aload_n 0, 1) := by decide +kernel
theorem dX13_outputChar_4 : decode cX13_outputChar 4 = .ok (.getfield 240, 3) := by decide +kernel
theorem dX13_outputChar_7 : decode cX13_outputChar 7 = .ok (.iconst 1, 1) := by decide +kernel
theorem dX13_outputChar_8 : decode cX13_outputChar 8 = .ok (.isub, 1) := by decide +kernel
theorem dX13_outputChar_9 : decode cX13_outputChar 9 = .ok (.invokestatic 49, 3) := by decide +kernel
theorem dX13_outputChar_12 : decode cX13_outputChar 12 = .ok (.ifCond .eq 7, 3) := by decide +kernel
theorem dX13_outputChar_15 : decode cX13_outputChar 15 = .ok (.iconst 0, 1) := by decide +kernel
theorem dX13_outputChar_16 : decode cX13_outputChar 16 = .ok (.goto 4, 3) := by decide +kernel
theorem dX13_outputChar_19 : decode cX13_outputChar 19 = .ok (.iconst 1, 1) := by decide +kernel
theorem dX13_outputChar_20 : decode cX13_outputChar 20 = .ok (.putfield 39, 3) := by decide +kernel
theorem dX13_outputChar_23 : decode cX13_outputChar 23 = .ok (.aload_n 0, 1) := by decide +kernel
theorem dX13_outputChar_24 : decode cX13_outputChar 24 = .ok (.getfield 39, 3) := by decide +kernel
theorem dX13_outputChar_27 : decode cX13_outputChar 27 = .ok (.ifCond .ne 12, 3) := by decide +kernel
theorem dX13_outputChar_30 : decode cX13_outputChar 30 = .ok (.aload_n 0, 1) := by decide +kernel
theorem dX13_outputChar_31 : decode cX13_outputChar 31 = .ok (.getfield 33, 3) := by decide +kernel
theorem dX13_outputChar_34 : decode cX13_outputChar 34 = .ok (.iload_n 1, 1) := by decide +kernel
theorem dX13_outputChar_35 : decode cX13_outputChar 35 = .ok (.caload, 1) := by decide +kernel
theorem dX13_outputChar_36 : decode cX13_outputChar 36 = .ok (.goto 4, 3) := by decide +kernel
theorem dX13_outputChar_39 : decode cX13_outputChar 39 = .ok (.iconst 0, 1) := by decide +kernel
theorem dX13_outputChar_40 : decode cX13_outputChar 40 = .ok (.ireturn, 1) := by decide +kernel
theorem dX13_undoCount_0 : decode cX13_undoCount 0 = .ok (.aload_n 0, 1) := by decide +kernel
theorem dX13_undoCount_1 : decode cX13_undoCount 1 = .ok (.aload_n 0, 1) := by decide +kernel
theorem dX13_undoCount_2 : decode cX13_undoCount 2 = .ok (.getfield 46, 3) := by decide +kernel
theorem dX13_undoCount_5 : decode cX13_undoCount 5 = .ok (.invokevirtual 60, 3) := by decide +kernel
theorem dX13_undoCount_8 : decode cX13_undoCount 8 = .ok (.ireturn, 1) := by decide +kernel
theorem dX13_undo_0 : decode cX13_undo 0 = .ok (.aload_n 0, 1) := by decide +kernel
theorem dX13_undo_1 : decode cX13_undo 1 = .ok (.getfield 46, 3) := by decide +kernel
theorem dX13_undo_4 : decode cX13_undo 4 = .ok (.ifCond .ne 9, 3) := by decide +kernel
theorem dX13_undo_7 : decode cX13_undo 7 = .ok (.aload_n 0, 1) := by decide +kernel
theorem dX13_undo_8 : decode cX13_undo 8 = .ok (.iconst 1, 1) := by decide +kernel
theorem dX13_undo_9 : decode cX13_undo 9 = .ok (.invokevirtual 57, 3) := by decide +kernel
theorem dX13_undo_12 : decode cX13_undo 12 = .ok (.ireturn, 1) := by decide +kernel
theorem dX13_undo_13 : decode cX13_undo 13 = .ok (.aload_n 0, 1) := by decide +kernel
theorem dX13_undo_14 : decode cX13_undo 14 = .ok (.dup, 1) := by decide +kernel
theorem dX13_undo_15 : decode cX13_undo 15 = .ok (.getfield 46, 3) := by decide +kernel
theorem dX13_undo_18 : decode cX13_undo 18 = .ok (.iconst 1, 1) := by decide +kernel
theorem dX13_undo_19 : decode cX13_undo 19 = .ok (.isub, 1) := by decide +kernel
theorem dX13_undo_20 : decode cX13_undo 20 = .ok (.putfield 46, 3) := by decide +kernel
theorem dX13_undo_23 : decode cX13_undo 23 = .ok (.aload_n 0, 1) := by decide +kernel
theorem dX13_undo_24 : decode cX13_undo 24 = .ok (.getfield 16, 3) := by decide +kernel
theorem dX13_undo_27 : decode cX13_undo 27 = .ok (.aload_n 0, 1) := by decide +kernel
theorem dX13_undo_28 : decode cX13_undo 28 = .ok (.getfield 46, 3) := by decide +kernel
theorem dX13_undo_31 : decode cX13_undo 31 = .ok (.sipush 229, 3) := by decide +kernel
theorem dX13_undo_34 : decode cX13_undo 34 = .ok (.imul, 1) := by decide +kernel
theorem dX13_undo_35 : decode cX13_undo 35 = .ok (.aload_n 0, 1) := by decide +kernel
theorem dX13_undo_36 : decode cX13_undo 36 = .ok (.getfield 7, 3) := by decide +kernel
theorem dX13_undo_39 : decode cX13_undo 39 = .ok (.iconst 0, 1) := by decide +kernel
theorem dX13_undo_40 : decode cX13_undo 40 = .ok (.invokestatic 42, 3) := by decide +kernel
theorem dX13_undo_43 : decode cX13_undo 43 = .ok (.aload_n 0, 1) := by decide +kernel
theorem dX13_undo_44 : decode cX13_undo 44 = .ok (.aload_n 0, 1) := by decide +kernel
theorem dX13_undo_45 : decode cX13_undo 45 = .ok (.getfield 46, 3) := by decide +kernel
theorem dX13_undo_48 : decode cX13_undo 48 = .ok (.invokevirtual 60, 3) := by decide +kernel
theorem dX13_undo_51 : decode cX13_undo 51 = .ok (.ireturn, 1) := by decide +kernel
theorem dX13_save_0 : decode cX13_save 0 = .ok (.aload_n 0, 1) := by decide +kernel
theorem dX13_save_1 : decode cX13_save 1 = .ok (.getfield 7, 3) := by decide +kernel
theorem dX13_save_4 : decode cX13_save 4 = .ok (.iconst 0, 1) := by decide +kernel
theorem dX13_save_5 : decode cX13_save 5 = .ok (.aload_n 0, 1) := by decide +kernel
theorem dX13_save_6 : decode cX13_save 6 = .ok (.getfield 19, 3) := by decide +kernel
theorem dX13_save_9 : decode cX13_save 9 = .ok (.iconst 0, 1) := by decide +kernel
theorem dX13_save_10 : decode cX13_save 10 = .ok (.invokestatic 42, 3) := by decide +kernel
theorem dX13_save_13 : decode cX13_save 13 = .ok (.aload_n 0, 1) := by decide +kernel
theorem dX13_save_14 : decode cX13_save 14 = .ok (.iconst 1, 1) := by decide +kernel
theorem dX13_save_15 : decode cX13_save 15 = .ok (.putfield 250, 3) := by decide +kernel
theorem dX13_save_18 : decode cX13_save 18 = .ok (.aload_n 0, 1) := by decide +kernel
theorem dX13_save_19 : decode cX13_save 19 = .ok (.aload_n 0, 1) := by decide +kernel
theorem dX13_save_20 : decode cX13_save 20 = .ok (.getfield 7, 3) := by decide +kernel
theorem dX13_save_23 : decode cX13_save 23 = .ok (.iconst 1, 1) := by decide +kernel
theorem dX13_save_24 : decode cX13_save 24 = .ok (.iaload, 1) := by decide +kernel
theorem dX13_save_25 : decode cX13_save 25 = .ok (.invokevirtual 60, 3) := by decide +kernel
theorem dX13_save_28 : decode cX13_save 28 = .ok (.ireturn, 1) := by decide +kernel
theorem dX13_restore_0 : decode cX13_restore 0 = .ok (.aload_n 0, 1) := by decide +kernel
theorem dX13_restore_1 : decode cX13_restore 1 = .ok (.getfield 250, 3) := by decide +kernel
theorem dX13_restore_4 : decode cX13_restore 4 = .ok (.ifCond .ne 9, 3) := by decide +kernel
theorem dX13_restore_7 : decode cX13_restore 7 = .ok (.aload_n 0, 1) := by decide +kernel
theorem dX13_restore_8 : decode cX13_restore 8 = .ok (.iconst 1, 1) := by decide +kernel
theorem dX13_restore_9 : decode cX13_restore 9 = .ok (.invokevirtual 57, 3) := by decide +kernel
theorem dX13_restore_12 : decode cX13_restore 12 = .ok (.ireturn, 1) := by decide +kernel
theorem dX13_restore_13 : decode cX13_restore 13 = .ok (.aload_n 0, 1) := by decide +kernel
theorem dX13_restore_14 : decode cX13_restore 14 = .ok (.getfield 19, 3) := by decide +kernel
theorem dX13_restore_17 : decode cX13_restore 17 = .ok (.iconst 0, 1) := by decide +kernel
theorem dX13_restore_18 : decode cX13_restore 18 = .ok (.aload_n 0, 1) := by decide +kernel
theorem dX13_restore_19 : decode cX13_restore 19 = .ok (.getfield 7, 3) := by decide +kernel
theorem dX13_restore_22 : decode cX13_restore 22 = .ok (.iconst 0, 1) := by decide +kernel
theorem dX13_restore_23 : decode cX13_restore 23 = .ok (.invokestatic 42, 3) := by decide +kernel
theorem dX13_restore_26 : decode cX13_restore 26 = .ok (.aload_n 0, 1) := by decide +kernel
theorem dX13_restore_27 : decode cX13_restore 27 = .ok (.iconst 0, 1) := by decide +kernel
theorem dX13_restore_28 : decode cX13_restore 28 = .ok (.putfield 46, 3) := by decide +kernel
theorem dX13_restore_31 : decode cX13_restore 31 = .ok (.aload_n 0, 1) := by decide +kernel
theorem dX13_restore_32 : decode cX13_restore 32 = .ok (.aload_n 0, 1) := by decide +kernel
theorem dX13_restore_33 : decode cX13_restore 33 = .ok (.getfield 7, 3) := by decide +kernel
theorem dX13_restore_36 : decode cX13_restore 36 = .ok (.iconst 1, 1) := by decide +kernel
theorem dX13_restore_37 : decode cX13_restore 37 = .ok (.iaload, 1) := by decide +kernel
theorem dX13_restore_38 : decode cX13_restore 38 = .ok (.invokevirtual 60, 3) := by decide +kernel
theorem dX13_restore_41 : decode cX13_restore 41 = .ok (.ireturn, 1) := by decide +kernel
