theorem dX5_digestIslands_23 : decode cX5_digestIslands 23 = .ok (.iload 6, 2) := by decide +kernel
theorem dX5_digestIslands_25 : decode cX5_digestIslands 25 = .ok (.iconst 4, 1) := by decide +kernel
theorem dX5_digestIslands_26 : decode cX5_digestIslands 26 = .ok (.if_icmp .ge 25, 3) := by decide +kernel
theorem dX5_digestIslands_29 : decode cX5_digestIslands 29 = .ok (.ldc2_w 174, 3) := by decide +kernel
theorem dX5_digestIslands_32 : decode cX5_digestIslands 32 = .ok (.lload_n 3, 1) := by decide +kernel
theorem dX5_digestIslands_33 : decode cX5_digestIslands 33 = .ok (.lmul, 1) := by decide +kernel
theorem dX5_digestIslands_34 : decode cX5_digestIslands 34 = .ok (.aload_n 0, 1) := by decide +kernel
theorem dX5_digestIslands_35 : decode cX5_digestIslands 35 = .ok (.iload 5, 2) := by decide +kernel
theorem dX5_digestIslands_37 : decode cX5_digestIslands 37 = .ok (.iload 6, 2) := by decide +kernel
theorem dX5_digestIslands_39 : decode cX5_digestIslands 39 = .ok (.invokevirtual 189, 3) := by decide +kernel
theorem dX5_digestIslands_42 : decode cX5_digestIslands 42 = .ok (.i2l, 1) := by decide +kernel
theorem dX5_digestIslands_43 : decode cX5_digestIslands 43 = .ok (.ladd, 1) := by decide +kernel
theorem dX5_digestIslands_44 : decode cX5_digestIslands 44 = .ok (.lstore_n 3, 1) := by decide +kernel
theorem dX5_digestIslands_45 : decode cX5_digestIslands 45 = .ok (.iinc 6 1, 3) := by decide +kernel
theorem dX5_digestIslands_48 : decode cX5_digestIslands 48 = .ok (.goto (-25), 3) := by decide +kernel
theorem dX5_digestIslands_51 : decode cX5_digestIslands 51 = .ok (.iinc 5 1, 3) := by decide +kernel
theorem dX5_digestIslands_54 : decode cX5_digestIslands 54 = .ok (.goto (-49), 3) := by decide +kernel
theorem dX5_digestIslands_57 : decode cX5_digestIslands 57 = .ok (.lload_n 3, 1) := by decide +kernel
theorem dX5_digestIslands_58 : decode cX5_digestIslands 58 = .ok (.lreturn, 1) := by decide +kernel
set_option maxRecDepth 20000 in
theorem ggX5_digestConstants_X4_size : GoodIn wsX5_digestConstants wsX4_size := goodIn_r _ [7, 8, 90, 91, 92, 93, 94, 95] (by decide +kernel) (by decide +kernel)
set_option maxRecDepth 20000 in
theorem gX5_digestConstants_X4_size : GoodIn wsX5_digestConstants (wsV RX5 155 RX4 yX4_size wsX4_size) := goodIn_app (goodIn_of _ (by decide +kernel)) ggX5_digestConstants_X4_size
set_option maxRecDepth 20000 in
theorem ggX5_digestConstants_X5_constant : GoodIn wsX5_digestConstants wsX5_constant := goodIn_r _ [13, 1, 14, 15, 16, 6, 17, 8, 18, 19, 20, 21, 22, 23, 24, 25, 26, 27, 28, 29, 30, 31, 32, 33, 34, 35, 36, 37, 38, 39, 40, 41, 42, 43, 44, 45, 46, 47, 48, 49, 50, 51, 52, 53, 54, 55, 56, 57, 58, 59, 60, 61, 62, 63, 64, 65, 66, 67, 68, 69, 70, 71, 72, 73, 74, 75, 76, 77, 78, 79, 80, 81, 82, 83, 84, 85, 86, 87, 88, 89, 90, 91, 92, 93, 94, 95, 96, 97, 98, 99] (by decide +kernel) (by decide +kernel)
set_option maxRecDepth 20000 in
theorem gX5_digestConstants_X5_constant : GoodIn wsX5_digestConstants (wsV RX5 192 RX5 yX5_constant wsX5_constant) := goodIn_app (goodIn_of _ (by decide +kernel)) ggX5_digestConstants_X5_constant
theorem dX5_digestConstants_0 : decode cX5_digestConstants 0 = .ok (.lload_n 1, 1) := by decide +kernel
theorem dX5_digestConstants_1 : decode cX5_digestConstants 1 = .ok (.lstore_n 3, 1) := by decide +kernel
theorem dX5_digestConstants_2 : decode cX5_digestConstants 2 = .ok (.iconst 0, 1) := by decide +kernel
theorem dX5_digestConstants_3 : decode cX5_digestConstants 3 = .ok (.istore 5, 2) := by decide +kernel
theorem dX5_digestConstants_5 : decode cX5_digestConstants 5 = .ok (.iload 5, 2) := by decide +kernel
theorem dX5_digestConstants_7 : decode cX5_digestConstants 7 = .ok (.aload_n 0, 1) := by decide +kernel
theorem dX5_digestConstants_8 : decode cX5_digestConstants 8 = .ok (.getfield 39, 3) := by decide +kernel
theorem dX5_digestConstants_11 : decode cX5_digestConstants 11 = .ok (.getfield 131, 3) := by decide +kernel
theorem dX5_digestConstants_14 : decode cX5_digestConstants 14 = .ok (.invokevirtual 155, 3) := by decide +kernel
theorem dX5_digestConstants_17 : decode cX5_digestConstants 17 = .ok (.if_icmp .ge 40, 3) := by decide +kernel
theorem dX5_digestConstants_20 : decode cX5_digestConstants 20 = .ok (.iconst 0, 1) := by decide +kernel
theorem dX5_digestConstants_21 : decode cX5_digestConstants 21 = .ok (.istore 6, 2) := by decide +kernel
theorem dX5_digestConstants_23 : decode cX5_digestConstants 23 = .ok (.iload 6, 2) := by decide +kernel
theorem dX5_digestConstants_25 : decode cX5_digestConstants 25 = .ok (.iconst 4, 1) := by decide +kernel
theorem dX5_digestConstants_26 : decode cX5_digestConstants 26 = .ok (.if_icmp .ge 25, 3) := by decide +kernel
theorem dX5_digestConstants_29 : decode cX5_digestConstants 29 = .ok (.ldc2_w 174, 3) := by decide +kernel
theorem dX5_digestConstants_32 : decode cX5_digestConstants 32 = .ok (.lload_n 3, 1) := by decide +kernel
theorem dX5_digestConstants_33 : decode cX5_digestConstants 33 = .ok (.lmul, 1) := by decide +kernel
theorem dX5_digestConstants_34 : decode cX5_digestConstants 34 = .ok (.aload_n 0, 1) := by decide +kernel
theorem dX5_digestConstants_35 : decode cX5_digestConstants 35 = .ok (.iload 5, 2) := by decide +kernel
theorem dX5_digestConstants_37 : decode cX5_digestConstants 37 = .ok (.iload 6, 2) := by decide +kernel
theorem dX5_digestConstants_39 : decode cX5_digestConstants 39 = .ok (.invokevirtual 192, 3) := by decide +kernel
theorem dX5_digestConstants_42 : decode cX5_digestConstants 42 = .ok (.i2l, 1) := by decide +kernel
theorem dX5_digestConstants_43 : decode cX5_digestConstants 43 = .ok (.ladd, 1) := by decide +kernel
theorem dX5_digestConstants_44 : decode cX5_digestConstants 44 = .ok (.lstore_n 3, 1) := by decide +kernel
theorem dX5_digestConstants_45 : decode cX5_digestConstants 45 = .ok (.iinc 6 1, 3) := by decide +kernel
theorem dX5_digestConstants_48 : decode cX5_digestConstants 48 = .ok (.goto (-25), 3) := by decide +kernel
theorem dX5_digestConstants_51 : decode cX5_digestConstants 51 = .ok (.iinc 5 1, 3) := by decide +kernel
theorem dX5_digestConstants_54 : decode cX5_digestConstants 54 = .ok (.goto (-49), 3) := by decide +kernel
theorem dX5_digestConstants_57 : decode cX5_digestConstants 57 = .ok (.lload_n 3, 1) := by decide +kernel
theorem dX5_digestConstants_58 : decode cX5_digestConstants 58 = .ok (.lreturn, 1) := by decide +kernel
theorem dX5_far_0 : decode cX5_far 0 = .ok (.iload_n 0, 1) := by decide +kernel
theorem dX5_far_1 : decode cX5_far 1 = .ok (.iload_n 1, 1) := by decide +kernel
theorem dX5_far_2 : decode cX5_far 2 = .ok (.if_icmp .ge 9, 3) := by decide +kernel
theorem dX5_far_5 : decode cX5_far 5 = .ok (.iload_n 1, 1) := by decide +kernel
theorem dX5_far_6 : decode cX5_far 6 = .ok (.iload_n 0, 1) := by decide +kernel
theorem dX5_far_7 : decode cX5_far 7 = .ok (.isub, 1) := by decide +kernel
theorem dX5_far_8 : decode cX5_far 8 = .ok (.goto 6, 3) := by decide +kernel
theorem dX5_far_11 : decode cX5_far 11 = .ok (.iload_n 0, 1) := by decide +kernel
theorem dX5_far_12 : decode cX5_far 12 = .ok (.iload_n 1, 1) := by decide +kernel
theorem dX5_far_13 : decode cX5_far 13 = .ok (.isub, 1) := by decide +kernel
theorem dX5_far_14 : decode cX5_far 14 = .ok (.ireturn, 1) := by decide +kernel
theorem dX5_fillTo_0 : decode cX5_fillTo 0 = .ok (.iload_n 1, 1) := by decide +kernel
theorem dX5_fillTo_1 : decode cX5_fillTo 1 = .ok (.ineg, 1) := by decide +kernel
theorem dX5_fillTo_2 : decode cX5_fillTo 2 = .ok (.iload_n 0, 1) := by decide +kernel
theorem dX5_fillTo_3 : decode cX5_fillTo 3 = .ok (.iconst 1, 1) := by decide +kernel
theorem dX5_fillTo_4 : decode cX5_fillTo 4 = .ok (.isub, 1) := by decide +kernel
theorem dX5_fillTo_5 : decode cX5_fillTo 5 = .ok (.iand, 1) := by decide +kernel
theorem dX5_fillTo_6 : decode cX5_fillTo 6 = .ok (.ireturn, 1) := by decide +kernel
theorem dX6_init_0 : decode cX6_init 0 = .ok (.aload_n 0, 1) := by decide +kernel
theorem dX6_init_1 : decode cX6_init 1 = .ok (.invokespecial 1, 3) := by decide +kernel
theorem dX6_init_4 : decode cX6_init 4 = .ok (.aload_n 0, 1) := by decide +kernel
theorem dX6_init_5 : decode cX6_init 5 = .ok (.bipush 50, 2) := by decide +kernel
theorem dX6_init_7 : decode cX6_init 7 = .ok (.newarray .int, 2) := by decide +kernel
theorem dX6_init_9 : decode cX6_init 9 = .ok (.putfield 7, 3) := by decide +kernel
theorem dX6_init_12 : decode cX6_init 12 = .ok (.aload_n 0, 1) := by decide +kernel
theorem dX6_init_13 : decode cX6_init 13 = .ok (.bipush 24, 2) := by decide +kernel
theorem dX6_init_15 : decode cX6_init 15 = .ok (.newarray .int, 2) := by decide +kernel
theorem dX6_init_17 : decode cX6_init 17 = .ok (.putfield 13, 3) := by decide +kernel
theorem dX6_init_20 : decode cX6_init 20 = .ok (.aload_n 0, 1) := by decide +kernel
theorem dX6_init_21 : decode cX6_init 21 = .ok (.bipush 24, 2) := by decide +kernel
theorem dX6_init_23 : decode cX6_init 23 = .ok (.newarray .int, 2) := by decide +kernel
theorem dX6_init_25 : decode cX6_init 25 = .ok (.putfield 16, 3) := by decide +kernel
theorem dX6_init_28 : decode cX6_init 28 = .ok (.aload_n 0, 1) := by decide +kernel
theorem dX6_init_29 : decode cX6_init 29 = .ok (.iconst 3, 1) := by decide +kernel
theorem dX6_init_30 : decode cX6_init 30 = .ok (.newarray .int, 2) := by decide +kernel
theorem dX6_init_32 : decode cX6_init 32 = .ok (.putfield 19, 3) := by decide +kernel
theorem dX6_init_35 : decode cX6_init 35 = .ok (.aload_n 0, 1) := by decide +kernel
theorem dX6_init_36 : decode cX6_init 36 = .ok (.bipush 24, 2) := by decide +kernel
theorem dX6_init_38 : decode cX6_init 38 = .ok (.newarray .int, 2) := by decide +kernel
theorem dX6_init_40 : decode cX6_init 40 = .ok (.putfield 22, 3) := by decide +kernel
theorem dX6_init_43 : decode cX6_init 43 = .ok (.aload_n 0, 1) := by decide +kernel
theorem dX6_init_44 : decode cX6_init 44 = .ok (.bipush 24, 2) := by decide +kernel
theorem dX6_init_46 : decode cX6_init 46 = .ok (.newarray .int, 2) := by decide +kernel
theorem dX6_init_48 : decode cX6_init 48 = .ok (.putfield 25, 3) := by decide +kernel
theorem dX6_init_51 : decode cX6_init 51 = .ok (.aload_n 0, 1) := by decide +kernel
theorem dX6_init_52 : decode cX6_init 52 = .ok (.bipush 24, 2) := by decide +kernel
theorem dX6_init_54 : decode cX6_init 54 = .ok (.newarray .boolean, 2) := by decide +kernel
theorem dX6_init_56 : decode cX6_init 56 = .ok (.putfield 28, 3) := by decide +kernel
theorem dX6_init_59 : decode cX6_init 59 = .ok (.aload_n 0, 1) := by decide +kernel
theorem dX6_init_60 : decode cX6_init 60 = .ok (.bipush 12, 2) := by decide +kernel
theorem dX6_init_62 : decode cX6_init 62 = .ok (.newarray .int, 2) := by decide +kernel
theorem dX6_init_64 : decode cX6_init 64 = .ok (.putfield 32, 3) := by decide +kernel
theorem dX6_init_67 : decode cX6_init 67 = .ok (.aload_n 0, 1) := by decide +kernel
theorem dX6_init_68 : decode cX6_init 68 = .ok (.bipush 12, 2) := by decide +kernel
theorem dX6_init_70 : decode cX6_init 70 = .ok (.newarray .int, 2) := by decide +kernel
theorem dX6_init_72 : decode cX6_init 72 = .ok (.putfield 35, 3) := by decide +kernel
theorem dX6_init_75 : decode cX6_init 75 = .ok (.aload_n 0, 1) := by decide +kernel
theorem dX6_init_76 : decode cX6_init 76 = .ok (.bipush 16, 2) := by decide +kernel
theorem dX6_init_78 : decode cX6_init 78 = .ok (.newarray .int, 2) := by decide +kernel
theorem dX6_init_80 : decode cX6_init 80 = .ok (.putfield 38, 3) := by decide +kernel
theorem dX6_init_83 : decode cX6_init 83 = .ok (.aload_n 0, 1) := by decide +kernel
theorem dX6_init_84 : decode cX6_init 84 = .ok (.bipush 16, 2) := by decide +kernel
theorem dX6_init_86 : decode cX6_init 86 = .ok (.newarray .int, 2) := by decide +kernel
theorem dX6_init_88 : decode cX6_init 88 = .ok (.putfield 41, 3) := by decide +kernel
theorem dX6_init_91 : decode cX6_init 91 = .ok (.aload_n 0, 1) := by decide +kernel
theorem dX6_init_92 : decode cX6_init 92 = .ok (.bipush 24, 2) := by decide +kernel
theorem dX6_init_94 : decode cX6_init 94 = .ok (.newarray .int, 2) := by decide +kernel
theorem dX6_init_96 : decode cX6_init 96 = .ok (.putfield 44, 3) := by decide +kernel
theorem dX6_init_99 : decode cX6_init 99 = .ok (.aload_n 0, 1) := by decide +kernel
theorem dX6_init_100 : decode cX6_init 100 = .ok (.bipush 12, 2) := by decide +kernel
theorem dX6_init_102 : decode cX6_init 102 = .ok (.newarray .int, 2) := by decide +kernel
theorem dX6_init_104 : decode cX6_init 104 = .ok (.putfield 47, 3) := by decide +kernel
theorem dX6_init_107 : decode cX6_init 107 = .ok (.aload_n 0, 1) := by decide +kernel
theorem dX6_init_108 : decode cX6_init 108 = .ok (.bipush 16, 2) := by decide +kernel
theorem dX6_init_110 : decode cX6_init 110 = .ok (.newarray .int, 2) := by decide +kernel
theorem dX6_init_112 : decode cX6_init 112 = .ok (.putfield 50, 3) := by decide +kernel
theorem dX6_init_115 : decode cX6_init 115 = .ok (.aload_n 0, 1) := by decide +kernel
theorem dX6_init_116 : decode cX6_init 116 = .ok (.bipush 24, 2) := by decide +kernel
theorem dX6_init_118 : decode cX6_init 118 = .ok (.newarray .int, 2) := by decide +kernel
theorem dX6_init_120 : decode cX6_init 120 = .ok (.putfield 53, 3) := by decide +kernel
theorem dX6_init_123 : decode cX6_init 123 = .ok (.aload_n 0, 1) := by decide +kernel
theorem dX6_init_124 : decode cX6_init 124 = .ok (.bipush 24, 2) := by decide +kernel
theorem dX6_init_126 : decode cX6_init 126 = .ok (.newarray .int, 2) := by decide +kernel
theorem dX6_init_128 : decode cX6_init 128 = .ok (.putfield 56, 3) := by decide +kernel
theorem dX6_init_131 : decode cX6_init 131 = .ok (.aload_n 0, 1) := by decide +kernel
theorem dX6_init_132 : decode cX6_init 132 = .ok (.bipush 8, 2) := by decide +kernel
theorem dX6_init_134 : decode cX6_init 134 = .ok (.newarray .int, 2) := by decide +kernel
theorem dX6_init_136 : decode cX6_init 136 = .ok (.putfield 59, 3) := by decide +kernel
theorem dX6_init_139 : decode cX6_init 139 = .ok (.aload_n 0, 1) := by decide +kernel
theorem dX6_init_140 : decode cX6_init 140 = .ok (.iconst 1, 1) := by decide +kernel
theorem dX6_init_141 : decode cX6_init 141 = .ok (.putfield 62, 3) := by decide +kernel
theorem dX6_init_144 : decode cX6_init 144 = .ok (.aload_n 0, 1) := by decide +kernel
theorem dX6_init_145 : decode cX6_init 145 = .ok (.iconst (-1), 1) := by decide +kernel
theorem dX6_init_146 : decode cX6_init 146 = .ok (.putfield 66, 3) := by decide +kernel
theorem dX6_init_149 : decode cX6_init 149 = .ok (.aload_n 0, 1) := by decide +kernel
theorem dX6_init_150 : decode cX6_init 150 = .ok (.getfield 19, 3) := by decide +kernel
theorem dX6_init_153 : decode cX6_init 153 = .ok (.iconst 0, 1) := by decide +kernel
theorem dX6_init_154 : decode cX6_init 154 = .ok (.bipush 8, 2) := by decide +kernel
theorem dX6_init_156 : decode cX6_init 156 = .ok (.iastore, 1) := by decide +kernel
theorem dX6_init_157 : decode cX6_init 157 = .ok (.aload_n 0, 1) := by decide +kernel
theorem dX6_init_158 : decode cX6_init 158 = .ok (.getfield 19, 3) := by decide +kernel
theorem dX6_init_161 : decode cX6_init 161 = .ok (.iconst 1, 1) := by decide +kernel
theorem dX6_init_162 : decode cX6_init 162 = .ok (.bipush 32, 2) := by decide +kernel
theorem dX6_init_164 : decode cX6_init 164 = .ok (.iastore, 1) := by decide +kernel
theorem dX6_init_165 : decode cX6_init 165 = .ok (.aload_n 0, 1) := by decide +kernel
theorem dX6_init_166 : decode cX6_init 166 = .ok (.getfield 19, 3) := by decide +kernel
theorem dX6_init_169 : decode cX6_init 169 = .ok (.iconst 2, 1) := by decide +kernel
theorem dX6_init_170 : decode cX6_init 170 = .ok (.bipush 24, 2) := by decide +kernel
theorem dX6_init_172 : decode cX6_init 172 = .ok (.iastore, 1) := by decide +kernel
theorem dX6_init_173 : decode cX6_init 173 = .ok (.return_, 1) := by decide +kernel
theorem dX6_within_0 : decode cX6_within 0 = .ok (.iload_n 0, 1) := by decide +kernel
theorem dX6_within_1 : decode cX6_within 1 = .ok (.iload_n 1, 1) := by decide +kernel
theorem dX6_within_2 : decode cX6_within 2 = .ok (.if_icmp .lt 12, 3) := by decide +kernel
theorem dX6_within_5 : decode cX6_within 5 = .ok (.iload_n 0, 1) := by decide +kernel
theorem dX6_within_6 : decode cX6_within 6 = .ok (.iload_n 2, 1) := by decide +kernel
theorem dX6_within_7 : decode cX6_within 7 = .ok (.if_icmp .gt 7, 3) := by decide +kernel
theorem dX6_within_10 : decode cX6_within 10 = .ok (.iconst 1, 1) := by decide +kernel
theorem dX6_within_11 : decode cX6_within 11 = .ok (.goto 4, 3) := by decide +kernel
theorem dX6_within_14 : decode cX6_within 14 = .ok (.iconst 0, 1) := by decide +kernel
theorem dX6_within_15 : decode cX6_within 15 = .ok (.ireturn, 1) := by decide +kernel
set_option maxRecDepth 20000 in
theorem ggX6_letter_X6_within : GoodIn wsX6_letter wsX6_within := goodIn_r _ [6] (by decide +kernel) (by decide +kernel)
set_option maxRecDepth 20000 in
theorem gX6_letter_X6_within : GoodIn wsX6_letter (va_wsS RX6 70 yX6_within wsX6_within) := goodIn_app (goodIn_of _ (by decide +kernel)) ggX6_letter_X6_within
theorem dX6_letter_0 : decode cX6_letter 0 = .ok (.iload_n 1, 1) := by decide +kernel
theorem dX6_letter_1 : decode cX6_letter 1 = .ok (.bipush 32, 2) := by decide +kernel
theorem dX6_letter_3 : decode cX6_letter 3 = .ok (.bipush 126, 2) := by decide +kernel
theorem dX6_letter_5 : decode cX6_letter 5 = .ok (.invokestatic 70, 3) := by decide +kernel
theorem dX6_letter_8 : decode cX6_letter 8 = .ok (.ifCond .ne 7, 3) := by decide +kernel
theorem dX6_letter_11 : decode cX6_letter 11 = .ok (.sipush (-1002), 3) := by decide +kernel
theorem dX6_letter_14 : decode cX6_letter 14 = .ok (.ireturn, 1) := by decide +kernel
theorem dX6_letter_15 : decode cX6_letter 15 = .ok (.aload_n 0, 1) := by decide +kernel
theorem dX6_letter_16 : decode cX6_letter 16 = .ok (.getfield 74, 3) := by decide +kernel
theorem dX6_letter_19 : decode cX6_letter 19 = .ok (.bipush 50, 2) := by decide +kernel
theorem dX6_letter_21 : decode cX6_letter 21 = .ok (.if_icmp .ne 7, 3) := by decide +kernel
theorem dX6_letter_24 : decode cX6_letter 24 = .ok (.sipush (-1004), 3) := by decide +kernel
theorem dX6_letter_27 : decode cX6_letter 27 = .ok (.ireturn, 1) := by decide +kernel
theorem dX6_letter_28 : decode cX6_letter 28 = .ok (.aload_n 0, 1) := by decide +kernel
theorem dX6_letter_29 : decode cX6_letter 29 = .ok (.getfield 7, 3) := by decide +kernel
theorem dX6_letter_32 : decode cX6_letter 32 = .ok (.aload_n 0, 1) := by decide +kernel
theorem dX6_letter_33 : decode cX6_letter 33 = .ok (.getfield 74, 3) := by decide +kernel
theorem dX6_letter_36 : decode cX6_letter 36 = .ok (.iload_n 1, 1) := by decide +kernel
theorem dX6_letter_37 : decode cX6_letter 37 = .ok (.iastore, 1) := by decide +kernel
theorem dX6_letter_38 : decode cX6_letter 38 = .ok (.aload_n 0, 1) := by decide +kernel
theorem dX6_letter_39 : decode cX6_letter 39 = .ok (.dup, 1) := by decide +kernel
theorem dX6_letter_40 : decode cX6_letter 40 = .ok (.getfield 74, 3) := by decide +kernel
theorem dX6_letter_43 : decode cX6_letter 43 = .ok (.iconst 1, 1) := by decide +kernel
theorem dX6_letter_44 : decode cX6_letter 44 = .ok (.iadd, 1) := by decide +kernel
theorem dX6_letter_45 : decode cX6_letter 45 = .ok (.putfield 74, 3) := by decide +kernel
theorem dX6_letter_48 : decode cX6_letter 48 = .ok (.aload_n 0, 1) := by decide +kernel
theorem dX6_letter_49 : decode cX6_letter 49 = .ok (.getfield 74, 3) := by decide +kernel
theorem dX6_letter_52 : decode cX6_letter 52 = .ok (.ireturn, 1) := by decide +kernel
theorem dX6_blank_0 : decode cX6_blank 0 = .ok (.aload_n 0, 1) := by decide +kernel
theorem dX6_blank_1 : decode cX6_blank 1 = .ok (.getfield 74, 3) := by decide +kernel
theorem dX6_blank_4 : decode cX6_blank 4 = .ok (.istore_n 1, 1) := by decide +kernel
theorem dX6_blank_5 : decode cX6_blank 5 = .ok (.aload_n 0, 1) := by decide +kernel
theorem dX6_blank_6 : decode cX6_blank 6 = .ok (.iconst 0, 1) := by decide +kernel
theorem dX6_blank_7 : decode cX6_blank 7 = .ok (.putfield 74, 3) := by decide +kernel
theorem dX6_blank_10 : decode cX6_blank 10 = .ok (.iload_n 1, 1) := by decide +kernel
theorem dX6_blank_11 : decode cX6_blank 11 = .ok (.ireturn, 1) := by decide +kernel
theorem dX6_kindBy_0 : decode cX6_kindBy 0 = .ok (.iload_n 0, 1) := by decide +kernel
theorem dX6_kindBy_1 : decode cX6_kindBy 1 = .ok (.lookupswitch 71 #[(58, 65), (97, 67), (98, 63), (108, 61), (110, 59), (114, 69)], 59) := by decide +kernel
theorem dX6_kindBy_60 : decode cX6_kindBy 60 = .ok (.iconst 0, 1) := by decide +kernel
theorem dX6_kindBy_61 : decode cX6_kindBy 61 = .ok (.ireturn, 1) := by decide +kernel
theorem dX6_kindBy_62 : decode cX6_kindBy 62 = .ok (.iconst 1, 1) := by decide +kernel
theorem dX6_kindBy_63 : decode cX6_kindBy 63 = .ok (.ireturn, 1) := by decide +kernel
theorem dX6_kindBy_64 : decode cX6_kindBy 64 = .ok (.iconst 2, 1) := by decide +kernel
theorem dX6_kindBy_65 : decode cX6_kindBy 65 = .ok (.ireturn, 1) := by decide +kernel
theorem dX6_kindBy_66 : decode cX6_kindBy 66 = .ok (.iconst 3, 1) := by decide +kernel
theorem dX6_kindBy_67 : decode cX6_kindBy 67 = .ok (.ireturn, 1) := by decide +kernel
theorem dX6_kindBy_68 : decode cX6_kindBy 68 = .ok (.iconst 4, 1) := by decide +kernel
theorem dX6_kindBy_69 : decode cX6_kindBy 69 = .ok (.ireturn, 1) := by decide +kernel
theorem dX6_kindBy_70 : decode cX6_kindBy 70 = .ok (.iconst 5, 1) := by decide +kernel
theorem dX6_kindBy_71 : decode cX6_kindBy 71 = .ok (.ireturn, 1) := by decide +kernel
theorem dX6_kindBy_72 : decode cX6_kindBy 72 = .ok (.iconst (-1), 1) := by decide +kernel
theorem dX6_kindBy_73 : decode cX6_kindBy 73 = .ok (.ireturn, 1) := by decide +kernel
theorem dX6_keepItem_0 : decode cX6_keepItem 0 = .ok (.aload_n 0, 1) := by decide +kernel
theorem dX6_keepItem_1 : decode cX6_keepItem 1 = .ok (.getfield 22, 3) := by decide +kernel
theorem dX6_keepItem_4 : decode cX6_keepItem 4 = .ok (.aload_n 0, 1) := by decide +kernel
theorem dX6_keepItem_5 : decode cX6_keepItem 5 = .ok (.getfield 77, 3) := by decide +kernel
theorem dX6_keepItem_8 : decode cX6_keepItem 8 = .ok (.iload_n 1, 1) := by decide +kernel
theorem dX6_keepItem_9 : decode cX6_keepItem 9 = .ok (.iastore, 1) := by decide +kernel
theorem dX6_keepItem_10 : decode cX6_keepItem 10 = .ok (.aload_n 0, 1) := by decide +kernel
theorem dX6_keepItem_11 : decode cX6_keepItem 11 = .ok (.getfield 25, 3) := by decide +kernel
theorem dX6_keepItem_14 : decode cX6_keepItem 14 = .ok (.aload_n 0, 1) := by decide +kernel
theorem dX6_keepItem_15 : decode cX6_keepItem 15 = .ok (.getfield 77, 3) := by decide +kernel
theorem dX6_keepItem_18 : decode cX6_keepItem 18 = .ok (.iload_n 2, 1) := by decide +kernel
theorem dX6_keepItem_19 : decode cX6_keepItem 19 = .ok (.iastore, 1) := by decide +kernel
theorem dX6_keepItem_20 : decode cX6_keepItem 20 = .ok (.aload_n 0, 1) := by decide +kernel
theorem dX6_keepItem_21 : decode cX6_keepItem 21 = .ok (.dup, 1) := by decide +kernel
theorem dX6_keepItem_22 : decode cX6_keepItem 22 = .ok (.getfield 77, 3) := by decide +kernel
theorem dX6_keepItem_25 : decode cX6_keepItem 25 = .ok (.iconst 1, 1) := by decide +kernel
theorem dX6_keepItem_26 : decode cX6_keepItem 26 = .ok (.iadd, 1) := by decide +kernel
theorem dX6_keepItem_27 : decode cX6_keepItem 27 = .ok (.putfield 77, 3) := by decide +kernel
theorem dX6_keepItem_30 : decode cX6_keepItem 30 = .ok (.aload_n 0, 1) := by decide +kernel
theorem dX6_keepItem_31 : decode cX6_keepItem 31 = .ok (.iconst (-1), 1) := by decide +kernel
theorem dX6_keepItem_32 : decode cX6_keepItem 32 = .ok (.putfield 80, 3) := by decide +kernel
theorem dX6_keepItem_35 : decode cX6_keepItem 35 = .ok (.return_, 1) := by decide +kernel
set_option maxRecDepth 20000 in
theorem ggX6_takesFirst_X6_kindBy : GoodIn wsX6_takesFirst wsX6_kindBy := goodIn_r _ [6] (by decide +kernel) (by decide +kernel)
set_option maxRecDepth 20000 in
theorem gX6_takesFirst_X6_kindBy : GoodIn wsX6_takesFirst (va_wsS RX6 83 yX6_kindBy wsX6_kindBy) := goodIn_app (goodIn_of _ (by decide +kernel)) ggX6_takesFirst_X6_kindBy
set_option maxRecDepth 20000 in
theorem ggX6_takesFirst_X6_keepItem : GoodIn wsX6_takesFirst wsX6_keepItem := goodIn_r _ [10, 11, 1, 12, 2, 13, 14, 15, 16, 17, 18, 19, 20, 21, 22, 23, 24, 25, 26, 27, 28, 29, 30, 31, 32, 33, 34, 35, 36, 37, 38, 39, 40, 41, 42, 43, 44, 45, 46] (by decide +kernel) (by decide +kernel)
set_option maxRecDepth 20000 in
theorem gX6_takesFirst_X6_keepItem : GoodIn wsX6_takesFirst (wsV RX6 87 RX6 yX6_keepItem wsX6_keepItem) := goodIn_app (goodIn_of _ (by decide +kernel)) ggX6_takesFirst_X6_keepItem
theorem dX6_takesFirst_0 : decode cX6_takesFirst 0 = .ok (.iload_n 1, 1) := by decide +kernel
theorem dX6_takesFirst_1 : decode cX6_takesFirst 1 = .ok (.invokestatic 83, 3) := by decide +kernel
theorem dX6_takesFirst_4 : decode cX6_takesFirst 4 = .ok (.istore_n 2, 1) := by decide +kernel
theorem dX6_takesFirst_5 : decode cX6_takesFirst 5 = .ok (.iload_n 2, 1) := by decide +kernel
theorem dX6_takesFirst_6 : decode cX6_takesFirst 6 = .ok (.iconst (-1), 1) := by decide +kernel
theorem dX6_takesFirst_7 : decode cX6_takesFirst 7 = .ok (.if_icmp .eq 12, 3) := by decide +kernel
theorem dX6_takesFirst_10 : decode cX6_takesFirst 10 = .ok (.aload_n 0, 1) := by decide +kernel
theorem dX6_takesFirst_11 : decode cX6_takesFirst 11 = .ok (.getfield 77, 3) := by decide +kernel
theorem dX6_takesFirst_14 : decode cX6_takesFirst 14 = .ok (.bipush 24, 2) := by decide +kernel
theorem dX6_takesFirst_16 : decode cX6_takesFirst 16 = .ok (.if_icmp .ne 5, 3) := by decide +kernel
theorem dX6_takesFirst_19 : decode cX6_takesFirst 19 = .ok (.iconst 0, 1) := by decide +kernel
theorem dX6_takesFirst_20 : decode cX6_takesFirst 20 = .ok (.ireturn, 1) := by decide +kernel
theorem dX6_takesFirst_21 : decode cX6_takesFirst 21 = .ok (.iload_n 2, 1) := by decide +kernel
theorem dX6_takesFirst_22 : decode cX6_takesFirst 22 = .ok (.iconst 5, 1) := by decide +kernel
theorem dX6_takesFirst_23 : decode cX6_takesFirst 23 = .ok (.if_icmp .ne 12, 3) := by decide +kernel
theorem dX6_takesFirst_26 : decode cX6_takesFirst 26 = .ok (.aload_n 0, 1) := by decide +kernel
theorem dX6_takesFirst_27 : decode cX6_takesFirst 27 = .ok (.iconst 5, 1) := by decide +kernel
theorem dX6_takesFirst_28 : decode cX6_takesFirst 28 = .ok (.iconst 0, 1) := by decide +kernel
theorem dX6_takesFirst_29 : decode cX6_takesFirst 29 = .ok (.invokevirtual 87, 3) := by decide +kernel
theorem dX6_takesFirst_32 : decode cX6_takesFirst 32 = .ok (.goto 8, 3) := by decide +kernel
theorem dX6_takesFirst_35 : decode cX6_takesFirst 35 = .ok (.aload_n 0, 1) := by decide +kernel
theorem dX6_takesFirst_36 : decode cX6_takesFirst 36 = .ok (.iload_n 2, 1) := by decide +kernel
theorem dX6_takesFirst_37 : decode cX6_takesFirst 37 = .ok (.putfield 80, 3) := by decide +kernel
theorem dX6_takesFirst_40 : decode cX6_takesFirst 40 = .ok (.iconst 1, 1) := by decide +kernel
theorem dX6_takesFirst_41 : decode cX6_takesFirst 41 = .ok (.ireturn, 1) := by decide +kernel
set_option maxRecDepth 20000 in
theorem ggX6_takesLetter_X6_within : GoodIn wsX6_takesLetter wsX6_within := goodIn_r _ [7] (by decide +kernel) (by decide +kernel)
set_option maxRecDepth 20000 in
theorem gX6_takesLetter_X6_within : GoodIn wsX6_takesLetter (va_wsS RX6 70 yX6_within wsX6_within) := goodIn_app (goodIn_of _ (by decide +kernel)) ggX6_takesLetter_X6_within
set_option maxRecDepth 20000 in
theorem ggX6_takesLetter_X6_keepItem : GoodIn wsX6_takesLetter wsX6_keepItem := goodIn_r _ [11, 12, 13, 14, 1, 15, 16, 17, 18, 19, 20, 21, 22, 23, 24, 25, 26, 27, 28, 29, 30, 31, 32, 33, 34, 35, 36, 37, 38, 39, 40, 41, 42, 43, 44, 45, 46, 47, 48] (by decide +kernel) (by decide +kernel)
set_option maxRecDepth 20000 in
theorem gX6_takesLetter_X6_keepItem : GoodIn wsX6_takesLetter (wsV RX6 87 RX6 yX6_keepItem wsX6_keepItem) := goodIn_app (goodIn_of _ (by decide +kernel)) ggX6_takesLetter_X6_keepItem
theorem dX6_takesLetter_0 : decode cX6_takesLetter 0 = .ok (.iload_n 1, 1) := by decide +kernel
theorem dX6_takesLetter_1 : decode cX6_takesLetter 1 = .ok (.bipush 65, 2) := by decide +kernel
theorem dX6_takesLetter_3 : decode cX6_takesLetter 3 = .ok (.isub, 1) := by decide +kernel
theorem dX6_takesLetter_4 : decode cX6_takesLetter 4 = .ok (.istore_n 2, 1) := by decide +kernel
theorem dX6_takesLetter_5 : decode cX6_takesLetter 5 = .ok (.iload_n 2, 1) := by decide +kernel
theorem dX6_takesLetter_6 : decode cX6_takesLetter 6 = .ok (.iconst 0, 1) := by decide +kernel
theorem dX6_takesLetter_7 : decode cX6_takesLetter 7 = .ok (.bipush 7, 2) := by decide +kernel
theorem dX6_takesLetter_9 : decode cX6_takesLetter 9 = .ok (.invokestatic 70, 3) := by decide +kernel
theorem dX6_takesLetter_12 : decode cX6_takesLetter 12 = .ok (.ifCond .eq 23, 3) := by decide +kernel
theorem dX6_takesLetter_15 : decode cX6_takesLetter 15 = .ok (.aload_n 0, 1) := by decide +kernel
theorem dX6_takesLetter_16 : decode cX6_takesLetter 16 = .ok (.getfield 80, 3) := by decide +kernel
theorem dX6_takesLetter_19 : decode cX6_takesLetter 19 = .ok (.iconst 3, 1) := by decide +kernel
theorem dX6_takesLetter_20 : decode cX6_takesLetter 20 = .ok (.if_icmp .ne 17, 3) := by decide +kernel
theorem dX6_takesLetter_23 : decode cX6_takesLetter 23 = .ok (.aload_n 0, 1) := by decide +kernel
theorem dX6_takesLetter_24 : decode cX6_takesLetter 24 = .ok (.getfield 91, 3) := by decide +kernel
theorem dX6_takesLetter_27 : decode cX6_takesLetter 27 = .ok (.iload_n 2, 1) := by decide +kernel
theorem dX6_takesLetter_28 : decode cX6_takesLetter 28 = .ok (.ishr, 1) := by decide +kernel
theorem dX6_takesLetter_29 : decode cX6_takesLetter 29 = .ok (.iconst 1, 1) := by decide +kernel
theorem dX6_takesLetter_30 : decode cX6_takesLetter 30 = .ok (.iand, 1) := by decide +kernel
theorem dX6_takesLetter_31 : decode cX6_takesLetter 31 = .ok (.iconst 1, 1) := by decide +kernel
theorem dX6_takesLetter_32 : decode cX6_takesLetter 32 = .ok (.if_icmp .ne 5, 3) := by decide +kernel
theorem dX6_takesLetter_35 : decode cX6_takesLetter 35 = .ok (.iconst 0, 1) := by decide +kernel
theorem dX6_takesLetter_36 : decode cX6_takesLetter 36 = .ok (.ireturn, 1) := by decide +kernel
theorem dX6_takesLetter_37 : decode cX6_takesLetter 37 = .ok (.aload_n 0, 1) := by decide +kernel
theorem dX6_takesLetter_38 : decode cX6_takesLetter 38 = .ok (.dup, 1) := by decide +kernel
theorem dX6_takesLetter_39 : decode cX6_takesLetter 39 = .ok (.getfield 91, 3) := by decide +kernel
theorem dX6_takesLetter_42 : decode cX6_takesLetter 42 = .ok (.aload_n 0, 1) := by decide +kernel
theorem dX6_takesLetter_43 : decode cX6_takesLetter 43 = .ok (.getfield 80, 3) := by decide +kernel
theorem dX6_takesLetter_46 : decode cX6_takesLetter 46 = .ok (.iconst 3, 1) := by decide +kernel
theorem dX6_takesLetter_47 : decode cX6_takesLetter 47 = .ok (.if_icmp .ne 9, 3) := by decide +kernel
theorem dX6_takesLetter_50 : decode cX6_takesLetter 50 = .ok (.iconst 1, 1) := by decide +kernel
theorem dX6_takesLetter_51 : decode cX6_takesLetter 51 = .ok (.iload_n 2, 1) := by decide +kernel
theorem dX6_takesLetter_52 : decode cX6_takesLetter 52 = .ok (.ishl, 1) := by decide +kernel
theorem dX6_takesLetter_53 : decode cX6_takesLetter 53 = .ok (.goto 4, 3) := by decide +kernel
theorem dX6_takesLetter_56 : decode cX6_takesLetter 56 = .ok (.iconst 0, 1) := by decide +kernel
theorem dX6_takesLetter_57 : decode cX6_takesLetter 57 = .ok (.ior, 1) := by decide +kernel
theorem dX6_takesLetter_58 : decode cX6_takesLetter 58 = .ok (.putfield 91, 3) := by decide +kernel
theorem dX6_takesLetter_61 : decode cX6_takesLetter 61 = .ok (.aload_n 0, 1) := by decide +kernel
theorem dX6_takesLetter_62 : decode cX6_takesLetter 62 = .ok (.dup, 1) := by decide +kernel
theorem dX6_takesLetter_63 : decode cX6_takesLetter 63 = .ok (.getfield 94, 3) := by decide +kernel
theorem dX6_takesLetter_66 : decode cX6_takesLetter 66 = .ok (.aload_n 0, 1) := by decide +kernel
theorem dX6_takesLetter_67 : decode cX6_takesLetter 67 = .ok (.getfield 80, 3) := by decide +kernel
theorem dX6_takesLetter_70 : decode cX6_takesLetter 70 = .ok (.iconst 2, 1) := by decide +kernel
theorem dX6_takesLetter_71 : decode cX6_takesLetter 71 = .ok (.if_icmp .ne 9, 3) := by decide +kernel
theorem dX6_takesLetter_74 : decode cX6_takesLetter 74 = .ok (.iconst 1, 1) := by decide +kernel
theorem dX6_takesLetter_75 : decode cX6_takesLetter 75 = .ok (.iload_n 2, 1) := by decide +kernel
theorem dX6_takesLetter_76 : decode cX6_takesLetter 76 = .ok (.ishl, 1) := by decide +kernel
theorem dX6_takesLetter_77 : decode cX6_takesLetter 77 = .ok (.goto 4, 3) := by decide +kernel
theorem dX6_takesLetter_80 : decode cX6_takesLetter 80 = .ok (.iconst 0, 1) := by decide +kernel
theorem dX6_takesLetter_81 : decode cX6_takesLetter 81 = .ok (.ior, 1) := by decide +kernel
theorem dX6_takesLetter_82 : decode cX6_takesLetter 82 = .ok (.putfield 94, 3) := by decide +kernel
theorem dX6_takesLetter_85 : decode cX6_takesLetter 85 = .ok (.aload_n 0, 1) := by decide +kernel
theorem dX6_takesLetter_86 : decode cX6_takesLetter 86 = .ok (.aload_n 0, 1) := by decide +kernel
theorem dX6_takesLetter_87 : decode cX6_takesLetter 87 = .ok (.getfield 80, 3) := by decide +kernel
theorem dX6_takesLetter_90 : decode cX6_takesLetter 90 = .ok (.iload_n 2, 1) := by decide +kernel
theorem dX6_takesLetter_91 : decode cX6_takesLetter 91 = .ok (.invokevirtual 87, 3) := by decide +kernel
theorem dX6_takesLetter_94 : decode cX6_takesLetter 94 = .ok (.iconst 1, 1) := by decide +kernel
theorem dX6_takesLetter_95 : decode cX6_takesLetter 95 = .ok (.ireturn, 1) := by decide +kernel
set_option maxRecDepth 20000 in
theorem ggX6_takesFigure_X6_within : GoodIn wsX6_takesFigure wsX6_within := goodIn_r _ [5] (by decide +kernel) (by decide +kernel)
set_option maxRecDepth 20000 in
theorem gX6_takesFigure_X6_within : GoodIn wsX6_takesFigure (va_wsS RX6 70 yX6_within wsX6_within) := goodIn_app (goodIn_of _ (by decide +kernel)) ggX6_takesFigure_X6_within
set_option maxRecDepth 20000 in
theorem ggX6_takesFigure_X6_keepItem : GoodIn wsX6_takesFigure wsX6_keepItem := goodIn_r _ [9, 10, 11, 12, 1, 13, 14, 15, 16, 17, 18, 19, 20, 21, 22, 23, 24, 25, 26, 27, 28, 29, 30, 31, 32, 33, 34, 35, 36, 37, 38, 39, 40, 41, 42, 43, 44, 45, 46] (by decide +kernel) (by decide +kernel)
set_option maxRecDepth 20000 in
theorem gX6_takesFigure_X6_keepItem : GoodIn wsX6_takesFigure (wsV RX6 87 RX6 yX6_keepItem wsX6_keepItem) := goodIn_app (goodIn_of _ (by decide +kernel)) ggX6_takesFigure_X6_keepItem
theorem dX6_takesFigure_0 : decode cX6_takesFigure 0 = .ok (.aload_n 0, 1) := by decide +kernel
theorem dX6_takesFigure_1 : decode cX6_takesFigure 1 = .ok (.getfield 80, 3) := by decide +kernel
theorem dX6_takesFigure_4 : decode cX6_takesFigure 4 = .ok (.ifCond .ne 13, 3) := by decide +kernel
theorem dX6_takesFigure_7 : decode cX6_takesFigure 7 = .ok (.iload_n 1, 1) := by decide +kernel
theorem dX6_takesFigure_8 : decode cX6_takesFigure 8 = .ok (.iconst 1, 1) := by decide +kernel
theorem dX6_takesFigure_9 : decode cX6_takesFigure 9 = .ok (.bipush 9, 2) := by decide +kernel
theorem dX6_takesFigure_11 : decode cX6_takesFigure 11 = .ok (.invokestatic 70, 3) := by decide +kernel
theorem dX6_takesFigure_14 : decode cX6_takesFigure 14 = .ok (.goto 27, 3) := by decide +kernel
theorem dX6_takesFigure_17 : decode cX6_takesFigure 17 = .ok (.aload_n 0, 1) := by decide +kernel
theorem dX6_takesFigure_18 : decode cX6_takesFigure 18 = .ok (.getfield 80, 3) := by decide +kernel
theorem dX6_takesFigure_21 : decode cX6_takesFigure 21 = .ok (.iconst 1, 1) := by decide +kernel
theorem dX6_takesFigure_22 : decode cX6_takesFigure 22 = .ok (.if_icmp .ne 13, 3) := by decide +kernel
theorem dX6_takesFigure_25 : decode cX6_takesFigure 25 = .ok (.iload_n 1, 1) := by decide +kernel
theorem dX6_takesFigure_26 : decode cX6_takesFigure 26 = .ok (.iconst 0, 1) := by decide +kernel
theorem dX6_takesFigure_27 : decode cX6_takesFigure 27 = .ok (.bipush 9, 2) := by decide +kernel
theorem dX6_takesFigure_29 : decode cX6_takesFigure 29 = .ok (.invokestatic 70, 3) := by decide +kernel
theorem dX6_takesFigure_32 : decode cX6_takesFigure 32 = .ok (.goto 9, 3) := by decide +kernel
theorem dX6_takesFigure_35 : decode cX6_takesFigure 35 = .ok (.iload_n 1, 1) := by decide +kernel
theorem dX6_takesFigure_36 : decode cX6_takesFigure 36 = .ok (.iconst 1, 1) := by decide +kernel
theorem dX6_takesFigure_37 : decode cX6_takesFigure 37 = .ok (.iconst 3, 1) := by decide +kernel
theorem dX6_takesFigure_38 : decode cX6_takesFigure 38 = .ok (.invokestatic 70, 3) := by decide +kernel
theorem dX6_takesFigure_41 : decode cX6_takesFigure 41 = .ok (.istore_n 2, 1) := by decide +kernel
theorem dX6_takesFigure_42 : decode cX6_takesFigure 42 = .ok (.iload_n 2, 1) := by decide +kernel
theorem dX6_takesFigure_43 : decode cX6_takesFigure 43 = .ok (.ifCond .eq 26, 3) := by decide +kernel
theorem dX6_takesFigure_46 : decode cX6_takesFigure 46 = .ok (.aload_n 0, 1) := by decide +kernel
theorem dX6_takesFigure_47 : decode cX6_takesFigure 47 = .ok (.aload_n 0, 1) := by decide +kernel
theorem dX6_takesFigure_48 : decode cX6_takesFigure 48 = .ok (.getfield 80, 3) := by decide +kernel
theorem dX6_takesFigure_51 : decode cX6_takesFigure 51 = .ok (.aload_n 0, 1) := by decide +kernel
theorem dX6_takesFigure_52 : decode cX6_takesFigure 52 = .ok (.getfield 80, 3) := by decide +kernel
theorem dX6_takesFigure_55 : decode cX6_takesFigure 55 = .ok (.iconst 4, 1) := by decide +kernel
theorem dX6_takesFigure_56 : decode cX6_takesFigure 56 = .ok (.if_icmp .ne 9, 3) := by decide +kernel
theorem dX6_takesFigure_59 : decode cX6_takesFigure 59 = .ok (.iconst 1, 1) := by decide +kernel
theorem dX6_takesFigure_60 : decode cX6_takesFigure 60 = .ok (.iload_n 1, 1) := by decide +kernel
theorem dX6_takesFigure_61 : decode cX6_takesFigure 61 = .ok (.ishl, 1) := by decide +kernel
theorem dX6_takesFigure_62 : decode cX6_takesFigure 62 = .ok (.goto 4, 3) := by decide +kernel
theorem dX6_takesFigure_65 : decode cX6_takesFigure 65 = .ok (.iload_n 1, 1) := by decide +kernel
theorem dX6_takesFigure_66 : decode cX6_takesFigure 66 = .ok (.invokevirtual 87, 3) := by decide +kernel
theorem dX6_takesFigure_69 : decode cX6_takesFigure 69 = .ok (.iload_n 2, 1) := by decide +kernel
theorem dX6_takesFigure_70 : decode cX6_takesFigure 70 = .ok (.ireturn, 1) := by decide +kernel
set_option maxRecDepth 20000 in
theorem ggX6_takes_X6_takesFirst : GoodIn wsX6_takes wsX6_takesFirst := goodIn_r _ [6, 7, 1, 8, 9, 5, 10, 11, 12, 13, 14, 15, 16, 30, 31, 32, 33, 34, 35, 36, 37, 38, 39, 40, 41, 42, 43, 44, 45, 46, 47, 48, 49, 50, 51, 52, 53, 54, 55, 56, 57, 58, 59, 60, 61, 62, 63] (by decide +kernel) (by decide +kernel)
set_option maxRecDepth 20000 in
theorem gX6_takes_X6_takesFirst : GoodIn wsX6_takes (wsV RX6 97 RX6 yX6_takesFirst wsX6_takesFirst) := goodIn_app (goodIn_of _ (by decide +kernel)) ggX6_takes_X6_takesFirst
set_option maxRecDepth 20000 in
theorem ggX6_takes_X6_takesLetter : GoodIn wsX6_takes wsX6_takesLetter := goodIn_r _ [20, 1, 21, 22, 23, 24, 5, 25, 11, 12, 13, 14, 15, 7, 16, 30, 31, 32, 33, 34, 35, 36, 37, 38, 39, 40, 41, 42, 43, 44, 45, 46, 47, 48, 49, 50, 51, 52, 53, 54, 55, 56, 57, 58, 59, 60, 61, 62, 63] (by decide +kernel) (by decide +kernel)
set_option maxRecDepth 20000 in
theorem gX6_takes_X6_takesLetter : GoodIn wsX6_takes (wsV RX6 101 RX6 yX6_takesLetter wsX6_takesLetter) := goodIn_app (goodIn_of _ (by decide +kernel)) ggX6_takes_X6_takesLetter
set_option maxRecDepth 20000 in
theorem ggX6_takes_X6_takesFigure : GoodIn wsX6_takes wsX6_takesFigure := goodIn_r _ [29, 1, 23, 24, 5, 25, 11, 12, 13, 14, 15, 7, 16, 30, 31, 32, 33, 34, 35, 36, 37, 38, 39, 40, 41, 42, 43, 44, 45, 46, 47, 48, 49, 50, 51, 52, 53, 54, 55, 56, 57, 58, 59, 60, 61, 62, 63] (by decide +kernel) (by decide +kernel)
set_option maxRecDepth 20000 in
theorem gX6_takes_X6_takesFigure : GoodIn wsX6_takes (wsV RX6 104 RX6 yX6_takesFigure wsX6_takesFigure) := goodIn_app (goodIn_of _ (by decide +kernel)) ggX6_takes_X6_takesFigure
theorem dX6_takes_0 : decode cX6_takes 0 = .ok (.aload_n 0, 1) := by decide +kernel
theorem dX6_takes_1 : decode cX6_takes 1 = .ok (.getfield 80, 3) := by decide +kernel
theorem dX6_takes_4 : decode cX6_takes 4 = .ok (.iconst (-1), 1) := by decide +kernel
theorem dX6_takes_5 : decode cX6_takes 5 = .ok (.if_icmp .ne 9, 3) := by decide +kernel
theorem dX6_takes_8 : decode cX6_takes 8 = .ok (.aload_n 0, 1) := by decide +kernel
theorem dX6_takes_9 : decode cX6_takes 9 = .ok (.iload_n 1, 1) := by decide +kernel
theorem dX6_takes_10 : decode cX6_takes 10 = .ok (.invokevirtual 97, 3) := by decide +kernel
theorem dX6_takes_13 : decode cX6_takes 13 = .ok (.ireturn, 1) := by decide +kernel
theorem dX6_takes_14 : decode cX6_takes 14 = .ok (.aload_n 0, 1) := by decide +kernel
theorem dX6_takes_15 : decode cX6_takes 15 = .ok (.getfield 80, 3) := by decide +kernel
theorem dX6_takes_18 : decode cX6_takes 18 = .ok (.iconst 2, 1) := by decide +kernel
theorem dX6_takes_19 : decode cX6_takes 19 = .ok (.if_icmp .eq 11, 3) := by decide +kernel
theorem dX6_takes_22 : decode cX6_takes 22 = .ok (.aload_n 0, 1) := by decide +kernel
theorem dX6_takes_23 : decode cX6_takes 23 = .ok (.getfield 80, 3) := by decide +kernel
theorem dX6_takes_26 : decode cX6_takes 26 = .ok (.iconst 3, 1) := by decide +kernel
theorem dX6_takes_27 : decode cX6_takes 27 = .ok (.if_icmp .ne 11, 3) := by decide +kernel
theorem dX6_takes_30 : decode cX6_takes 30 = .ok (.aload_n 0, 1) := by decide +kernel
theorem dX6_takes_31 : decode cX6_takes 31 = .ok (.iload_n 1, 1) := by decide +kernel
theorem dX6_takes_32 : decode cX6_takes 32 = .ok (.invokevirtual 101, 3) := by decide +kernel
theorem dX6_takes_35 : decode cX6_takes 35 = .ok (.goto 11, 3) := by decide +kernel
theorem dX6_takes_38 : decode cX6_takes 38 = .ok (.aload_n 0, 1) := by decide +kernel
theorem dX6_takes_39 : decode cX6_takes 39 = .ok (.iload_n 1, 1) := by decide +kernel
theorem dX6_takes_40 : decode cX6_takes 40 = .ok (.bipush 48, 2) := by decide +kernel
theorem dX6_takes_42 : decode cX6_takes 42 = .ok (.isub, 1) := by decide +kernel
theorem dX6_takes_43 : decode cX6_takes 43 = .ok (.invokevirtual 104, 3) := by decide +kernel
theorem dX6_takes_46 : decode cX6_takes 46 = .ok (.ireturn, 1) := by decide +kernel
set_option maxRecDepth 20000 in
theorem ggX6_goAlong_X6_takes : GoodIn wsX6_goAlong wsX6_takes := goodIn_r _ [11, 2, 12, 13, 14, 10, 15, 1, 16, 17, 18, 19, 20, 21, 22, 23, 24, 25, 26, 27, 28, 3, 4, 29, 30, 31, 32, 33, 34, 35, 36, 37, 38, 39, 40, 41, 42, 43, 44, 45, 46, 47, 48, 49, 50, 51, 52, 53, 54, 55, 56, 57, 58, 59, 60, 61, 62, 63, 64, 65, 66, 67, 68, 69] (by decide +kernel) (by decide +kernel)
set_option maxRecDepth 20000 in
theorem gX6_goAlong_X6_takes : GoodIn wsX6_goAlong (wsV RX6 107 RX6 yX6_takes wsX6_takes) := goodIn_app (goodIn_of _ (by decide +kernel)) ggX6_goAlong_X6_takes
theorem dX6_goAlong_0 : decode cX6_goAlong 0 = .ok (.aload_n 0, 1) := by decide +kernel
theorem dX6_goAlong_1 : decode cX6_goAlong 1 = .ok (.iconst 0, 1) := by decide +kernel
theorem dX6_goAlong_2 : decode cX6_goAlong 2 = .ok (.putfield 77, 3) := by decide +kernel
theorem dX6_goAlong_5 : decode cX6_goAlong 5 = .ok (.aload_n 0, 1) := by decide +kernel
theorem dX6_goAlong_6 : decode cX6_goAlong 6 = .ok (.iconst (-1), 1) := by decide +kernel
theorem dX6_goAlong_7 : decode cX6_goAlong 7 = .ok (.putfield 80, 3) := by decide +kernel
theorem dX6_goAlong_10 : decode cX6_goAlong 10 = .ok (.aload_n 0, 1) := by decide +kernel
theorem dX6_goAlong_11 : decode cX6_goAlong 11 = .ok (.iconst 0, 1) := by decide +kernel
theorem dX6_goAlong_12 : decode cX6_goAlong 12 = .ok (.putfield 91, 3) := by decide +kernel
theorem dX6_goAlong_15 : decode cX6_goAlong 15 = .ok (.aload_n 0, 1) := by decide +kernel
theorem dX6_goAlong_16 : decode cX6_goAlong 16 = .ok (.iconst 0, 1) := by decide +kernel
theorem dX6_goAlong_17 : decode cX6_goAlong 17 = .ok (.putfield 94, 3) := by decide +kernel
theorem dX6_goAlong_20 : decode cX6_goAlong 20 = .ok (.iconst 0, 1) := by decide +kernel
theorem dX6_goAlong_21 : decode cX6_goAlong 21 = .ok (.istore_n 1, 1) := by decide +kernel
theorem dX6_goAlong_22 : decode cX6_goAlong 22 = .ok (.iload_n 1, 1) := by decide +kernel
theorem dX6_goAlong_23 : decode cX6_goAlong 23 = .ok (.aload_n 0, 1) := by decide +kernel
theorem dX6_goAlong_24 : decode cX6_goAlong 24 = .ok (.getfield 74, 3) := by decide +kernel
theorem dX6_goAlong_27 : decode cX6_goAlong 27 = .ok (.if_icmp .ge 22, 3) := by decide +kernel
theorem dX6_goAlong_30 : decode cX6_goAlong 30 = .ok (.aload_n 0, 1) := by decide +kernel
theorem dX6_goAlong_31 : decode cX6_goAlong 31 = .ok (.aload_n 0, 1) := by decide +kernel
theorem dX6_goAlong_32 : decode cX6_goAlong 32 = .ok (.getfield 7, 3) := by decide +kernel
theorem dX6_goAlong_35 : decode cX6_goAlong 35 = .ok (.iload_n 1, 1) := by decide +kernel
theorem dX6_goAlong_36 : decode cX6_goAlong 36 = .ok (.iaload, 1) := by decide +kernel
theorem dX6_goAlong_37 : decode cX6_goAlong 37 = .ok (.invokevirtual 107, 3) := by decide +kernel
theorem dX6_goAlong_40 : decode cX6_goAlong 40 = .ok (.ifCond .eq 9, 3) := by decide +kernel
theorem dX6_goAlong_43 : decode cX6_goAlong 43 = .ok (.iinc 1 1, 3) := by decide +kernel
theorem dX6_goAlong_46 : decode cX6_goAlong 46 = .ok (.goto (-24), 3) := by decide +kernel
theorem dX6_goAlong_49 : decode cX6_goAlong 49 = .ok (.iload_n 1, 1) := by decide +kernel
theorem dX6_goAlong_50 : decode cX6_goAlong 50 = .ok (.ireturn, 1) := by decide +kernel
set_option maxRecDepth 20000 in
theorem ggX6_fault_X6_goAlong : GoodIn wsX6_fault wsX6_goAlong := goodIn_r _ [5, 6, 7, 8, 9, 10, 11, 12, 13, 14, 4, 15, 16, 17, 18, 19, 20, 21, 22, 23, 24, 25, 26, 27, 28, 29, 30, 31, 32, 33, 34, 35, 36, 37, 38, 39, 40, 41, 42, 43, 44, 45, 46, 47, 48, 49, 50, 51, 52, 53, 54, 55, 56, 57, 58, 59, 60, 61, 62, 63, 64, 65, 66, 67, 68, 69, 70, 71, 72, 73] (by decide +kernel) (by decide +kernel)
set_option maxRecDepth 20000 in
theorem gX6_fault_X6_goAlong : GoodIn wsX6_fault (wsV RX6 110 RX6 yX6_goAlong wsX6_goAlong) := goodIn_app (goodIn_of _ (by decide +kernel)) ggX6_fault_X6_goAlong
theorem dX6_fault_0 : decode cX6_fault 0 = .ok (.aload_n 0, 1) := by decide +kernel
theorem dX6_fault_1 : decode cX6_fault 1 = .ok (.invokevirtual 110, 3) := by decide +kernel
theorem dX6_fault_4 : decode cX6_fault 4 = .ok (.ireturn, 1) := by decide +kernel
set_option maxRecDepth 20000 in
theorem ggX6_code_X6_goAlong : GoodIn wsX6_code wsX6_goAlong := goodIn_r _ [16, 3, 2, 5, 4, 1, 17, 18, 19, 20, 15, 21, 22, 23, 24, 25, 26, 27, 28, 29, 30, 31, 32, 8, 10, 33, 34, 35, 36, 37, 38, 39, 40, 41, 42, 43, 139, 140, 141, 142, 143, 144, 145, 146, 147, 148, 149, 150, 151, 152, 153, 154, 155, 156, 157, 158, 159, 160, 161, 162, 163, 164, 165, 166, 167, 168, 169, 170, 171, 172] (by decide +kernel) (by decide +kernel)
set_option maxRecDepth 20000 in
theorem gX6_code_X6_goAlong : GoodIn wsX6_code (wsV RX6 110 RX6 yX6_goAlong wsX6_goAlong) := goodIn_app (goodIn_of _ (by decide +kernel)) ggX6_code_X6_goAlong
set_option maxRecDepth 20000 in
theorem ggX6_code_X6_placeAll : GoodIn wsX6_code wsX6_placeAll := goodIn_r _ [47, 48, 49, 50, 51, 52, 53, 6, 54, 55, 56, 57, 15, 58, 59, 60, 7, 61, 9, 62, 63, 64, 65, 66, 67, 68, 69, 70, 71, 72, 73, 74, 75, 76, 77, 78, 79, 80, 81, 82, 83, 84, 85, 86, 87, 88, 89, 90, 91, 92, 93, 94, 95, 96, 97, 98, 99, 100, 101, 102, 103, 104, 105, 106, 107, 108, 109, 110, 111, 112, 113, 114, 115, 116, 117, 118, 119, 120, 121, 122, 123, 124, 125, 126, 127, 128, 129, 130, 131, 132, 133, 134, 135, 136, 137, 138, 139, 140, 141, 142, 143, 144, 145, 146, 147, 148, 149, 150, 151, 152, 153, 154, 155, 156, 157, 158, 159, 160, 161, 162, 163, 164, 165, 166, 167, 168, 169, 170, 171, 172] (by decide +kernel) (by decide +kernel)
set_option maxRecDepth 20000 in
theorem gX6_code_X6_placeAll : GoodIn wsX6_code (wsV RX6 120 RX6 yX6_placeAll wsX6_placeAll) := goodIn_app (goodIn_of _ (by decide +kernel)) ggX6_code_X6_placeAll
theorem dX6_code_0 : decode cX6_code 0 = .ok (.aload_n 0, 1) := by decide +kernel
theorem dX6_code_1 : decode cX6_code 1 = .ok (.invokevirtual 110, 3) := by decide +kernel
theorem dX6_code_4 : decode cX6_code 4 = .ok (.aload_n 0, 1) := by decide +kernel
theorem dX6_code_5 : decode cX6_code 5 = .ok (.getfield 74, 3) := by decide +kernel
theorem dX6_code_8 : decode cX6_code 8 = .ok (.if_icmp .lt 32, 3) := by decide +kernel
theorem dX6_code_11 : decode cX6_code 11 = .ok (.aload_n 0, 1) := by decide +kernel
theorem dX6_code_12 : decode cX6_code 12 = .ok (.getfield 80, 3) := by decide +kernel
theorem dX6_code_15 : decode cX6_code 15 = .ok (.iconst (-1), 1) := by decide +kernel
theorem dX6_code_16 : decode cX6_code 16 = .ok (.if_icmp .ne 24, 3) := by decide +kernel
theorem dX6_code_19 : decode cX6_code 19 = .ok (.aload_n 0, 1) := by decide +kernel
theorem dX6_code_20 : decode cX6_code 20 = .ok (.getfield 77, 3) := by decide +kernel
theorem dX6_code_23 : decode cX6_code 23 = .ok (.ifCond .eq 17, 3) := by decide +kernel
theorem dX6_code_26 : decode cX6_code 26 = .ok (.aload_n 0, 1) := by decide +kernel
theorem dX6_code_27 : decode cX6_code 27 = .ok (.getfield 94, 3) := by decide +kernel
theorem dX6_code_30 : decode cX6_code 30 = .ok (.aload_n 0, 1) := by decide +kernel
theorem dX6_code_31 : decode cX6_code 31 = .ok (.getfield 91, 3) := by decide +kernel
theorem dX6_code_34 : decode cX6_code 34 = .ok (.iconst (-1), 1) := by decide +kernel
theorem dX6_code_35 : decode cX6_code 35 = .ok (.ixor, 1) := by decide +kernel
theorem dX6_code_36 : decode cX6_code 36 = .ok (.iand, 1) := by decide +kernel
theorem dX6_code_37 : decode cX6_code 37 = .ok (.ifCond .eq 7, 3) := by decide +kernel
theorem dX6_code_40 : decode cX6_code 40 = .ok (.sipush (-1003), 3) := by decide +kernel
theorem dX6_code_43 : decode cX6_code 43 = .ok (.ireturn, 1) := by decide +kernel
theorem dX6_code_44 : decode cX6_code 44 = .ok (.aload_n 0, 1) := by decide +kernel
theorem dX6_code_45 : decode cX6_code 45 = .ok (.aload_n 0, 1) := by decide +kernel
theorem dX6_code_46 : decode cX6_code 46 = .ok (.getfield 77, 3) := by decide +kernel
theorem dX6_code_49 : decode cX6_code 49 = .ok (.putfield 114, 3) := by decide +kernel
theorem dX6_code_52 : decode cX6_code 52 = .ok (.iconst 0, 1) := by decide +kernel
theorem dX6_code_53 : decode cX6_code 53 = .ok (.istore_n 1, 1) := by decide +kernel
theorem dX6_code_54 : decode cX6_code 54 = .ok (.iload_n 1, 1) := by decide +kernel
theorem dX6_code_55 : decode cX6_code 55 = .ok (.aload_n 0, 1) := by decide +kernel
theorem dX6_code_56 : decode cX6_code 56 = .ok (.getfield 114, 3) := by decide +kernel
theorem dX6_code_59 : decode cX6_code 59 = .ok (.if_icmp .ge 33, 3) := by decide +kernel
theorem dX6_code_62 : decode cX6_code 62 = .ok (.aload_n 0, 1) := by decide +kernel
theorem dX6_code_63 : decode cX6_code 63 = .ok (.getfield 13, 3) := by decide +kernel
theorem dX6_code_66 : decode cX6_code 66 = .ok (.iload_n 1, 1) := by decide +kernel
theorem dX6_code_67 : decode cX6_code 67 = .ok (.aload_n 0, 1) := by decide +kernel
theorem dX6_code_68 : decode cX6_code 68 = .ok (.getfield 22, 3) := by decide +kernel
theorem dX6_code_71 : decode cX6_code 71 = .ok (.iload_n 1, 1) := by decide +kernel
theorem dX6_code_72 : decode cX6_code 72 = .ok (.iaload, 1) := by decide +kernel
theorem dX6_code_73 : decode cX6_code 73 = .ok (.iastore, 1) := by decide +kernel
theorem dX6_code_74 : decode cX6_code 74 = .ok (.aload_n 0, 1) := by decide +kernel
theorem dX6_code_75 : decode cX6_code 75 = .ok (.getfield 16, 3) := by decide +kernel
theorem dX6_code_78 : decode cX6_code 78 = .ok (.iload_n 1, 1) := by decide +kernel
theorem dX6_code_79 : decode cX6_code 79 = .ok (.aload_n 0, 1) := by decide +kernel
theorem dX6_code_80 : decode cX6_code 80 = .ok (.getfield 25, 3) := by decide +kernel
theorem dX6_code_83 : decode cX6_code 83 = .ok (.iload_n 1, 1) := by decide +kernel
theorem dX6_code_84 : decode cX6_code 84 = .ok (.iaload, 1) := by decide +kernel
theorem dX6_code_85 : decode cX6_code 85 = .ok (.iastore, 1) := by decide +kernel
theorem dX6_code_86 : decode cX6_code 86 = .ok (.iinc 1 1, 3) := by decide +kernel
theorem dX6_code_89 : decode cX6_code 89 = .ok (.goto (-35), 3) := by decide +kernel
theorem dX6_code_92 : decode cX6_code 92 = .ok (.aload_n 0, 1) := by decide +kernel
theorem dX6_code_93 : decode cX6_code 93 = .ok (.dup, 1) := by decide +kernel
theorem dX6_code_94 : decode cX6_code 94 = .ok (.getfield 117, 3) := by decide +kernel
theorem dX6_code_97 : decode cX6_code 97 = .ok (.iconst 1, 1) := by decide +kernel
theorem dX6_code_98 : decode cX6_code 98 = .ok (.iadd, 1) := by decide +kernel
theorem dX6_code_99 : decode cX6_code 99 = .ok (.putfield 117, 3) := by decide +kernel
theorem dX6_code_102 : decode cX6_code 102 = .ok (.aload_n 0, 1) := by decide +kernel
theorem dX6_code_103 : decode cX6_code 103 = .ok (.iconst 0, 1) := by decide +kernel
theorem dX6_code_104 : decode cX6_code 104 = .ok (.putfield 74, 3) := by decide +kernel
theorem dX6_code_107 : decode cX6_code 107 = .ok (.aload_n 0, 1) := by decide +kernel
theorem dX6_code_108 : decode cX6_code 108 = .ok (.invokevirtual 120, 3) := by decide +kernel
theorem dX6_code_111 : decode cX6_code 111 = .ok (.aload_n 0, 1) := by decide +kernel
theorem dX6_code_112 : decode cX6_code 112 = .ok (.getfield 114, 3) := by decide +kernel
theorem dX6_code_115 : decode cX6_code 115 = .ok (.ireturn, 1) := by decide +kernel
set_option maxRecDepth 20000 in
theorem ggX6_isItem_X6_within : GoodIn wsX6_isItem wsX6_within := goodIn_r _ [5] (by decide +kernel) (by decide +kernel)
set_option maxRecDepth 20000 in
theorem gX6_isItem_X6_within : GoodIn wsX6_isItem (va_wsS RX6 70 yX6_within wsX6_within) := goodIn_app (goodIn_of _ (by decide +kernel)) ggX6_isItem_X6_within
theorem dX6_isItem_0 : decode cX6_isItem 0 = .ok (.iload_n 1, 1) := by decide +kernel
theorem dX6_isItem_1 : decode cX6_isItem 1 = .ok (.iconst 0, 1) := by decide +kernel
theorem dX6_isItem_2 : decode cX6_isItem 2 = .ok (.aload_n 0, 1) := by decide +kernel
theorem dX6_isItem_3 : decode cX6_isItem 3 = .ok (.getfield 114, 3) := by decide +kernel
theorem dX6_isItem_6 : decode cX6_isItem 6 = .ok (.iconst 1, 1) := by decide +kernel
theorem dX6_isItem_7 : decode cX6_isItem 7 = .ok (.isub, 1) := by decide +kernel
theorem dX6_isItem_8 : decode cX6_isItem 8 = .ok (.invokestatic 70, 3) := by decide +kernel
theorem dX6_isItem_11 : decode cX6_isItem 11 = .ok (.ireturn, 1) := by decide +kernel
set_option maxRecDepth 20000 in
theorem ggX6_reach_X6_within : GoodIn wsX6_reach wsX6_within := goodIn_r _ [6] (by decide +kernel) (by decide +kernel)
set_option maxRecDepth 20000 in
theorem gX6_reach_X6_within : GoodIn wsX6_reach (va_wsS RX6 70 yX6_within wsX6_within) := goodIn_app (goodIn_of _ (by decide +kernel)) ggX6_reach_X6_within
set_option maxRecDepth 20000 in
theorem ggX6_reach_X6_placeAll : GoodIn wsX6_reach wsX6_placeAll := goodIn_r _ [10, 11, 12, 13, 14, 15, 16, 17, 18, 19, 20, 21, 5, 22, 23, 24, 25, 26, 27, 28, 29, 30, 31, 32, 33, 34, 35, 36, 37, 38, 39, 40, 41, 42, 43, 44, 45, 46, 47, 48, 49, 50, 51, 52, 53, 54, 55, 56, 57, 58, 59, 60, 61, 62, 63, 1, 64, 65, 66, 67, 68, 69, 70, 71, 72, 73, 74, 75, 76, 77, 78, 79, 80, 81, 82, 83, 84, 85, 86, 87, 88, 89, 90, 91, 92, 93, 94, 95, 96, 97, 98, 99, 100, 101, 102, 103, 104, 105, 106, 107, 108, 109, 110, 111, 112, 113, 114, 115, 116, 117, 118, 119, 120, 121, 122, 123, 124, 125, 126, 127, 128, 129, 130, 131, 132, 133, 134, 135, 136, 137] (by decide +kernel) (by decide +kernel)
set_option maxRecDepth 20000 in
theorem gX6_reach_X6_placeAll : GoodIn wsX6_reach (wsV RX6 120 RX6 yX6_placeAll wsX6_placeAll) := goodIn_app (goodIn_of _ (by decide +kernel)) ggX6_reach_X6_placeAll
theorem dX6_reach_0 : decode cX6_reach 0 = .ok (.iload_n 1, 1) := by decide +kernel
theorem dX6_reach_1 : decode cX6_reach 1 = .ok (.iconst 0, 1) := by decide +kernel
theorem dX6_reach_2 : decode cX6_reach 2 = .ok (.iconst 2, 1) := by decide +kernel
theorem dX6_reach_3 : decode cX6_reach 3 = .ok (.invokestatic 70, 3) := by decide +kernel
theorem dX6_reach_6 : decode cX6_reach 6 = .ok (.ifCond .eq 30, 3) := by decide +kernel
theorem dX6_reach_9 : decode cX6_reach 9 = .ok (.iload_n 2, 1) := by decide +kernel
theorem dX6_reach_10 : decode cX6_reach 10 = .ok (.iload_n 1, 1) := by decide +kernel
theorem dX6_reach_11 : decode cX6_reach 11 = .ok (.ifCond .ne 7, 3) := by decide +kernel
theorem dX6_reach_14 : decode cX6_reach 14 = .ok (.iconst 2, 1) := by decide +kernel
theorem dX6_reach_15 : decode cX6_reach 15 = .ok (.goto 4, 3) := by decide +kernel
theorem dX6_reach_18 : decode cX6_reach 18 = .ok (.iconst 4, 1) := by decide +kernel
theorem dX6_reach_19 : decode cX6_reach 19 = .ok (.iload_n 1, 1) := by decide +kernel
theorem dX6_reach_20 : decode cX6_reach 20 = .ok (.ifCond .ne 8, 3) := by decide +kernel
theorem dX6_reach_23 : decode cX6_reach 23 = .ok (.bipush 60, 2) := by decide +kernel
theorem dX6_reach_25 : decode cX6_reach 25 = .ok (.goto 5, 3) := by decide +kernel
theorem dX6_reach_28 : decode cX6_reach 28 = .ok (.bipush 120, 2) := by decide +kernel
theorem dX6_reach_30 : decode cX6_reach 30 = .ok (.invokestatic 70, 3) := by decide +kernel
theorem dX6_reach_33 : decode cX6_reach 33 = .ok (.ifCond .ne 7, 3) := by decide +kernel
theorem dX6_reach_36 : decode cX6_reach 36 = .ok (.sipush (-1002), 3) := by decide +kernel
theorem dX6_reach_39 : decode cX6_reach 39 = .ok (.ireturn, 1) := by decide +kernel
theorem dX6_reach_40 : decode cX6_reach 40 = .ok (.aload_n 0, 1) := by decide +kernel
theorem dX6_reach_41 : decode cX6_reach 41 = .ok (.getfield 19, 3) := by decide +kernel
theorem dX6_reach_44 : decode cX6_reach 44 = .ok (.iload_n 1, 1) := by decide +kernel
theorem dX6_reach_45 : decode cX6_reach 45 = .ok (.iaload, 1) := by decide +kernel
theorem dX6_reach_46 : decode cX6_reach 46 = .ok (.istore_n 3, 1) := by decide +kernel
theorem dX6_reach_47 : decode cX6_reach 47 = .ok (.aload_n 0, 1) := by decide +kernel
theorem dX6_reach_48 : decode cX6_reach 48 = .ok (.getfield 19, 3) := by decide +kernel
theorem dX6_reach_51 : decode cX6_reach 51 = .ok (.iload_n 1, 1) := by decide +kernel
theorem dX6_reach_52 : decode cX6_reach 52 = .ok (.iload_n 2, 1) := by decide +kernel
theorem dX6_reach_53 : decode cX6_reach 53 = .ok (.iastore, 1) := by decide +kernel
theorem dX6_reach_54 : decode cX6_reach 54 = .ok (.aload_n 0, 1) := by decide +kernel
theorem dX6_reach_55 : decode cX6_reach 55 = .ok (.dup, 1) := by decide +kernel
theorem dX6_reach_56 : decode cX6_reach 56 = .ok (.getfield 123, 3) := by decide +kernel
theorem dX6_reach_59 : decode cX6_reach 59 = .ok (.iconst 1, 1) := by decide +kernel
theorem dX6_reach_60 : decode cX6_reach 60 = .ok (.iadd, 1) := by decide +kernel
theorem dX6_reach_61 : decode cX6_reach 61 = .ok (.putfield 123, 3) := by decide +kernel
theorem dX6_reach_64 : decode cX6_reach 64 = .ok (.aload_n 0, 1) := by decide +kernel
theorem dX6_reach_65 : decode cX6_reach 65 = .ok (.invokevirtual 120, 3) := by decide +kernel
theorem dX6_reach_68 : decode cX6_reach 68 = .ok (.iload_n 3, 1) := by decide +kernel
theorem dX6_reach_69 : decode cX6_reach 69 = .ok (.ireturn, 1) := by decide +kernel
set_option maxRecDepth 20000 in
theorem ggX6_grow_X6_isItem : GoodIn wsX6_grow wsX6_isItem := goodIn_r _ [8, 9, 10, 11, 7, 12, 108, 109, 110, 111, 112, 113, 114, 115, 116, 117, 118, 119, 120, 121, 122, 123, 124, 125, 126, 127, 128, 129, 130, 131, 132, 133, 134, 135, 136, 137, 138, 139, 140, 141] (by decide +kernel) (by decide +kernel)
set_option maxRecDepth 20000 in
theorem gX6_grow_X6_isItem : GoodIn wsX6_grow (wsV RX6 126 RX6 yX6_isItem wsX6_isItem) := goodIn_app (goodIn_of _ (by decide +kernel)) ggX6_grow_X6_isItem
set_option maxRecDepth 20000 in
theorem ggX6_grow_X6_within : GoodIn wsX6_grow wsX6_within := goodIn_r _ [12] (by decide +kernel) (by decide +kernel)
set_option maxRecDepth 20000 in
theorem gX6_grow_X6_within : GoodIn wsX6_grow (va_wsS RX6 70 yX6_within wsX6_within) := goodIn_app (goodIn_of _ (by decide +kernel)) ggX6_grow_X6_within
set_option maxRecDepth 20000 in
theorem ggX6_grow_X6_placeAll : GoodIn wsX6_grow wsX6_placeAll := goodIn_r _ [16, 17, 18, 19, 20, 21, 22, 9, 23, 24, 25, 26, 7, 27, 28, 29, 1, 30, 2, 31, 32, 33, 34, 35, 36, 37, 38, 39, 40, 41, 42, 43, 44, 45, 46, 47, 48, 49, 50, 51, 52, 53, 54, 55, 56, 57, 58, 59, 60, 61, 62, 63, 64, 65, 66, 67, 68, 69, 70, 71, 72, 73, 74, 75, 76, 77, 78, 79, 80, 81, 82, 83, 84, 85, 86, 87, 88, 89, 90, 91, 92, 93, 94, 95, 96, 97, 98, 99, 100, 101, 102, 103, 104, 105, 106, 107, 108, 109, 110, 111, 112, 113, 114, 115, 116, 117, 118, 119, 120, 121, 122, 123, 124, 125, 126, 127, 128, 129, 130, 131, 132, 133, 134, 135, 136, 137, 138, 139, 140, 141] (by decide +kernel) (by decide +kernel)
set_option maxRecDepth 20000 in
theorem gX6_grow_X6_placeAll : GoodIn wsX6_grow (wsV RX6 120 RX6 yX6_placeAll wsX6_placeAll) := goodIn_app (goodIn_of _ (by decide +kernel)) ggX6_grow_X6_placeAll
theorem dX6_grow_0 : decode cX6_grow 0 = .ok (.aload_n 0, 1) := by decide +kernel
theorem dX6_grow_1 : decode cX6_grow 1 = .ok (.iload_n 1, 1) := by decide +kernel
theorem dX6_grow_2 : decode cX6_grow 2 = .ok (.invokevirtual 126, 3) := by decide +kernel
theorem dX6_grow_5 : decode cX6_grow 5 = .ok (.ifCond .ne 7, 3) := by decide +kernel
theorem dX6_grow_8 : decode cX6_grow 8 = .ok (.sipush (-1001), 3) := by decide +kernel
theorem dX6_grow_11 : decode cX6_grow 11 = .ok (.ireturn, 1) := by decide +kernel
theorem dX6_grow_12 : decode cX6_grow 12 = .ok (.iload_n 2, 1) := by decide +kernel
theorem dX6_grow_13 : decode cX6_grow 13 = .ok (.iconst 1, 1) := by decide +kernel
theorem dX6_grow_14 : decode cX6_grow 14 = .ok (.bipush 40, 2) := by decide +kernel
theorem dX6_grow_16 : decode cX6_grow 16 = .ok (.invokestatic 70, 3) := by decide +kernel
theorem dX6_grow_19 : decode cX6_grow 19 = .ok (.ifCond .ne 7, 3) := by decide +kernel
theorem dX6_grow_22 : decode cX6_grow 22 = .ok (.sipush (-1002), 3) := by decide +kernel
theorem dX6_grow_25 : decode cX6_grow 25 = .ok (.ireturn, 1) := by decide +kernel
theorem dX6_grow_26 : decode cX6_grow 26 = .ok (.aload_n 0, 1) := by decide +kernel
theorem dX6_grow_27 : decode cX6_grow 27 = .ok (.getfield 13, 3) := by decide +kernel
theorem dX6_grow_30 : decode cX6_grow 30 = .ok (.iload_n 1, 1) := by decide +kernel
theorem dX6_grow_31 : decode cX6_grow 31 = .ok (.iaload, 1) := by decide +kernel
theorem dX6_grow_32 : decode cX6_grow 32 = .ok (.ifCond .eq 7, 3) := by decide +kernel
theorem dX6_grow_35 : decode cX6_grow 35 = .ok (.sipush (-1003), 3) := by decide +kernel
theorem dX6_grow_38 : decode cX6_grow 38 = .ok (.ireturn, 1) := by decide +kernel
theorem dX6_grow_39 : decode cX6_grow 39 = .ok (.aload_n 0, 1) := by decide +kernel
theorem dX6_grow_40 : decode cX6_grow 40 = .ok (.getfield 16, 3) := by decide +kernel
theorem dX6_grow_43 : decode cX6_grow 43 = .ok (.iload_n 1, 1) := by decide +kernel
theorem dX6_grow_44 : decode cX6_grow 44 = .ok (.iaload, 1) := by decide +kernel
theorem dX6_grow_45 : decode cX6_grow 45 = .ok (.istore_n 3, 1) := by decide +kernel
theorem dX6_grow_46 : decode cX6_grow 46 = .ok (.aload_n 0, 1) := by decide +kernel
theorem dX6_grow_47 : decode cX6_grow 47 = .ok (.getfield 16, 3) := by decide +kernel
theorem dX6_grow_50 : decode cX6_grow 50 = .ok (.iload_n 1, 1) := by decide +kernel
theorem dX6_grow_51 : decode cX6_grow 51 = .ok (.iload_n 2, 1) := by decide +kernel
theorem dX6_grow_52 : decode cX6_grow 52 = .ok (.iastore, 1) := by decide +kernel
theorem dX6_grow_53 : decode cX6_grow 53 = .ok (.aload_n 0, 1) := by decide +kernel
theorem dX6_grow_54 : decode cX6_grow 54 = .ok (.dup, 1) := by decide +kernel
theorem dX6_grow_55 : decode cX6_grow 55 = .ok (.getfield 123, 3) := by decide +kernel
theorem dX6_grow_58 : decode cX6_grow 58 = .ok (.iconst 1, 1) := by decide +kernel
theorem dX6_grow_59 : decode cX6_grow 59 = .ok (.iadd, 1) := by decide +kernel
theorem dX6_grow_60 : decode cX6_grow 60 = .ok (.putfield 123, 3) := by decide +kernel
theorem dX6_grow_63 : decode cX6_grow 63 = .ok (.aload_n 0, 1) := by decide +kernel
theorem dX6_grow_64 : decode cX6_grow 64 = .ok (.invokevirtual 120, 3) := by decide +kernel
theorem dX6_grow_67 : decode cX6_grow 67 = .ok (.iload_n 3, 1) := by decide +kernel
theorem dX6_grow_68 : decode cX6_grow 68 = .ok (.ireturn, 1) := by decide +kernel
theorem dX6_up_0 : decode cX6_up 0 = .ok (.iload_n 0, 1) := by decide +kernel
theorem dX6_up_1 : decode cX6_up 1 = .ok (.iload_n 1, 1) := by decide +kernel
theorem dX6_up_2 : decode cX6_up 2 = .ok (.iadd, 1) := by decide +kernel
theorem dX6_up_3 : decode cX6_up 3 = .ok (.iconst 1, 1) := by decide +kernel
theorem dX6_up_4 : decode cX6_up 4 = .ok (.isub, 1) := by decide +kernel
theorem dX6_up_5 : decode cX6_up 5 = .ok (.iload_n 1, 1) := by decide +kernel
theorem dX6_up_6 : decode cX6_up 6 = .ok (.idiv, 1) := by decide +kernel
theorem dX6_up_7 : decode cX6_up 7 = .ok (.iload_n 1, 1) := by decide +kernel
theorem dX6_up_8 : decode cX6_up 8 = .ok (.imul, 1) := by decide +kernel
theorem dX6_up_9 : decode cX6_up 9 = .ok (.ireturn, 1) := by decide +kernel
set_option maxRecDepth 20000 in
theorem ggX6_sizeOf_X6_up : GoodIn wsX6_sizeOf wsX6_up := goodIn_r _ [7] (by decide +kernel) (by decide +kernel)
set_option maxRecDepth 20000 in
theorem gX6_sizeOf_X6_up : GoodIn wsX6_sizeOf (va_wsS RX6 129 yX6_up wsX6_up) := goodIn_app (goodIn_of _ (by decide +kernel)) ggX6_sizeOf_X6_up
theorem dX6_sizeOf_0 : decode cX6_sizeOf 0 = .ok (.aload_n 0, 1) := by decide +kernel
theorem dX6_sizeOf_1 : decode cX6_sizeOf 1 = .ok (.getfield 13, 3) := by decide +kernel
theorem dX6_sizeOf_4 : decode cX6_sizeOf 4 = .ok (.iload_n 1, 1) := by decide +kernel
theorem dX6_sizeOf_5 : decode cX6_sizeOf 5 = .ok (.iaload, 1) := by decide +kernel
theorem dX6_sizeOf_6 : decode cX6_sizeOf 6 = .ok (.tableswitch 71 0 4 #[34, 71, 41, 56, 58], 34) := by decide +kernel
theorem dX6_sizeOf_40 : decode cX6_sizeOf 40 = .ok (.aload_n 0, 1) := by decide +kernel
theorem dX6_sizeOf_41 : decode cX6_sizeOf 41 = .ok (.getfield 16, 3) := by decide +kernel
theorem dX6_sizeOf_44 : decode cX6_sizeOf 44 = .ok (.iload_n 1, 1) := by decide +kernel
theorem dX6_sizeOf_45 : decode cX6_sizeOf 45 = .ok (.iaload, 1) := by decide +kernel
theorem dX6_sizeOf_46 : decode cX6_sizeOf 46 = .ok (.ireturn, 1) := by decide +kernel
theorem dX6_sizeOf_47 : decode cX6_sizeOf 47 = .ok (.aload_n 0, 1) := by decide +kernel
theorem dX6_sizeOf_48 : decode cX6_sizeOf 48 = .ok (.getfield 28, 3) := by decide +kernel
theorem dX6_sizeOf_51 : decode cX6_sizeOf 51 = .ok (.iload_n 1, 1) := by decide +kernel
theorem dX6_sizeOf_52 : decode cX6_sizeOf 52 = .ok (.baload, 1) := by decide +kernel
theorem dX6_sizeOf_53 : decode cX6_sizeOf 53 = .ok (.ifCond .eq 7, 3) := by decide +kernel
theorem dX6_sizeOf_56 : decode cX6_sizeOf 56 = .ok (.iconst 4, 1) := by decide +kernel
theorem dX6_sizeOf_57 : decode cX6_sizeOf 57 = .ok (.goto 4, 3) := by decide +kernel
theorem dX6_sizeOf_60 : decode cX6_sizeOf 60 = .ok (.iconst 2, 1) := by decide +kernel
theorem dX6_sizeOf_61 : decode cX6_sizeOf 61 = .ok (.ireturn, 1) := by decide +kernel
theorem dX6_sizeOf_62 : decode cX6_sizeOf 62 = .ok (.iconst 0, 1) := by decide +kernel
theorem dX6_sizeOf_63 : decode cX6_sizeOf 63 = .ok (.ireturn, 1) := by decide +kernel
theorem dX6_sizeOf_64 : decode cX6_sizeOf 64 = .ok (.iload_n 2, 1) := by decide +kernel
theorem dX6_sizeOf_65 : decode cX6_sizeOf 65 = .ok (.aload_n 0, 1) := by decide +kernel
theorem dX6_sizeOf_66 : decode cX6_sizeOf 66 = .ok (.getfield 16, 3) := by decide +kernel
theorem dX6_sizeOf_69 : decode cX6_sizeOf 69 = .ok (.iload_n 1, 1) := by decide +kernel
theorem dX6_sizeOf_70 : decode cX6_sizeOf 70 = .ok (.iaload, 1) := by decide +kernel
theorem dX6_sizeOf_71 : decode cX6_sizeOf 71 = .ok (.invokestatic 129, 3) := by decide +kernel
theorem dX6_sizeOf_74 : decode cX6_sizeOf 74 = .ok (.iload_n 2, 1) := by decide +kernel
theorem dX6_sizeOf_75 : decode cX6_sizeOf 75 = .ok (.isub, 1) := by decide +kernel
theorem dX6_sizeOf_76 : decode cX6_sizeOf 76 = .ok (.ireturn, 1) := by decide +kernel
theorem dX6_sizeOf_77 : decode cX6_sizeOf 77 = .ok (.iconst 2, 1) := by decide +kernel
theorem dX6_sizeOf_78 : decode cX6_sizeOf 78 = .ok (.ireturn, 1) := by decide +kernel
set_option maxRecDepth 20000 in
theorem ggX6_layGap_X6_up : GoodIn wsX6_layGap wsX6_up := goodIn_r _ [13] (by decide +kernel) (by decide +kernel)
set_option maxRecDepth 20000 in
theorem gX6_layGap_X6_up : GoodIn wsX6_layGap (va_wsS RX6 129 yX6_up wsX6_up) := goodIn_app (goodIn_of _ (by decide +kernel)) ggX6_layGap_X6_up
theorem dX6_layGap_0 : decode cX6_layGap 0 = .ok (.iload_n 2, 1) := by decide +kernel
theorem dX6_layGap_1 : decode cX6_layGap 1 = .ok (.istore_n 3, 1) := by decide +kernel
theorem dX6_layGap_2 : decode cX6_layGap 2 = .ok (.iconst 0, 1) := by decide +kernel
theorem dX6_layGap_3 : decode cX6_layGap 3 = .ok (.istore 4, 2) := by decide +kernel
theorem dX6_layGap_5 : decode cX6_layGap 5 = .ok (.iload 4, 2) := by decide +kernel
theorem dX6_layGap_7 : decode cX6_layGap 7 = .ok (.aload_n 0, 1) := by decide +kernel
theorem dX6_layGap_8 : decode cX6_layGap 8 = .ok (.getfield 133, 3) := by decide +kernel
theorem dX6_layGap_11 : decode cX6_layGap 11 = .ok (.if_icmp .ge 31, 3) := by decide +kernel
theorem dX6_layGap_14 : decode cX6_layGap 14 = .ok (.aload_n 0, 1) := by decide +kernel
theorem dX6_layGap_15 : decode cX6_layGap 15 = .ok (.getfield 35, 3) := by decide +kernel
theorem dX6_layGap_18 : decode cX6_layGap 18 = .ok (.iload 4, 2) := by decide +kernel
theorem dX6_layGap_20 : decode cX6_layGap 20 = .ok (.iaload, 1) := by decide +kernel
theorem dX6_layGap_21 : decode cX6_layGap 21 = .ok (.iload_n 1, 1) := by decide +kernel
theorem dX6_layGap_22 : decode cX6_layGap 22 = .ok (.if_icmp .ne 14, 3) := by decide +kernel
theorem dX6_layGap_25 : decode cX6_layGap 25 = .ok (.aload_n 0, 1) := by decide +kernel
theorem dX6_layGap_26 : decode cX6_layGap 26 = .ok (.getfield 47, 3) := by decide +kernel
theorem dX6_layGap_29 : decode cX6_layGap 29 = .ok (.iload 4, 2) := by decide +kernel
theorem dX6_layGap_31 : decode cX6_layGap 31 = .ok (.iload_n 3, 1) := by decide +kernel
theorem dX6_layGap_32 : decode cX6_layGap 32 = .ok (.iastore, 1) := by decide +kernel
theorem dX6_layGap_33 : decode cX6_layGap 33 = .ok (.iinc 3 4, 3) := by decide +kernel
theorem dX6_layGap_36 : decode cX6_layGap 36 = .ok (.iinc 4 1, 3) := by decide +kernel
theorem dX6_layGap_39 : decode cX6_layGap 39 = .ok (.goto (-34), 3) := by decide +kernel
theorem dX6_layGap_42 : decode cX6_layGap 42 = .ok (.aload_n 0, 1) := by decide +kernel
theorem dX6_layGap_43 : decode cX6_layGap 43 = .ok (.getfield 53, 3) := by decide +kernel
theorem dX6_layGap_46 : decode cX6_layGap 46 = .ok (.iload_n 1, 1) := by decide +kernel
theorem dX6_layGap_47 : decode cX6_layGap 47 = .ok (.iload_n 3, 1) := by decide +kernel
theorem dX6_layGap_48 : decode cX6_layGap 48 = .ok (.iastore, 1) := by decide +kernel
theorem dX6_layGap_49 : decode cX6_layGap 49 = .ok (.iconst 0, 1) := by decide +kernel
theorem dX6_layGap_50 : decode cX6_layGap 50 = .ok (.istore 4, 2) := by decide +kernel
theorem dX6_layGap_52 : decode cX6_layGap 52 = .ok (.iconst 0, 1) := by decide +kernel
theorem dX6_layGap_53 : decode cX6_layGap 53 = .ok (.istore 5, 2) := by decide +kernel
theorem dX6_layGap_55 : decode cX6_layGap 55 = .ok (.iload 5, 2) := by decide +kernel
theorem dX6_layGap_57 : decode cX6_layGap 57 = .ok (.aload_n 0, 1) := by decide +kernel
theorem dX6_layGap_58 : decode cX6_layGap 58 = .ok (.getfield 136, 3) := by decide +kernel
theorem dX6_layGap_61 : decode cX6_layGap 61 = .ok (.if_icmp .ge 65, 3) := by decide +kernel
theorem dX6_layGap_64 : decode cX6_layGap 64 = .ok (.aload_n 0, 1) := by decide +kernel
theorem dX6_layGap_65 : decode cX6_layGap 65 = .ok (.getfield 41, 3) := by decide +kernel
theorem dX6_layGap_68 : decode cX6_layGap 68 = .ok (.iload 5, 2) := by decide +kernel
theorem dX6_layGap_70 : decode cX6_layGap 70 = .ok (.iaload, 1) := by decide +kernel
theorem dX6_layGap_71 : decode cX6_layGap 71 = .ok (.iload_n 1, 1) := by decide +kernel
theorem dX6_layGap_72 : decode cX6_layGap 72 = .ok (.if_icmp .ne 48, 3) := by decide +kernel
theorem dX6_layGap_75 : decode cX6_layGap 75 = .ok (.aload_n 0, 1) := by decide +kernel
theorem dX6_layGap_76 : decode cX6_layGap 76 = .ok (.dup, 1) := by decide +kernel
theorem dX6_layGap_77 : decode cX6_layGap 77 = .ok (.getfield 139, 3) := by decide +kernel
theorem dX6_layGap_80 : decode cX6_layGap 80 = .ok (.iload 4, 2) := by decide +kernel
theorem dX6_layGap_82 : decode cX6_layGap 82 = .ok (.ifCond .eq 7, 3) := by decide +kernel
theorem dX6_layGap_85 : decode cX6_layGap 85 = .ok (.iconst 0, 1) := by decide +kernel
theorem dX6_layGap_86 : decode cX6_layGap 86 = .ok (.goto 10, 3) := by decide +kernel
theorem dX6_layGap_89 : decode cX6_layGap 89 = .ok (.iload_n 3, 1) := by decide +kernel
theorem dX6_layGap_90 : decode cX6_layGap 90 = .ok (.iconst 4, 1) := by decide +kernel
theorem dX6_layGap_91 : decode cX6_layGap 91 = .ok (.invokestatic 129, 3) := by decide +kernel
theorem dX6_layGap_94 : decode cX6_layGap 94 = .ok (.iload_n 3, 1) := by decide +kernel
theorem dX6_layGap_95 : decode cX6_layGap 95 = .ok (.isub, 1) := by decide +kernel
theorem dX6_layGap_96 : decode cX6_layGap 96 = .ok (.iadd, 1) := by decide +kernel
theorem dX6_layGap_97 : decode cX6_layGap 97 = .ok (.putfield 139, 3) := by decide +kernel
theorem dX6_layGap_100 : decode cX6_layGap 100 = .ok (.iload_n 3, 1) := by decide +kernel
theorem dX6_layGap_101 : decode cX6_layGap 101 = .ok (.iconst 4, 1) := by decide +kernel
theorem dX6_layGap_102 : decode cX6_layGap 102 = .ok (.invokestatic 129, 3) := by decide +kernel
theorem dX6_layGap_105 : decode cX6_layGap 105 = .ok (.istore_n 3, 1) := by decide +kernel
theorem dX6_layGap_106 : decode cX6_layGap 106 = .ok (.aload_n 0, 1) := by decide +kernel
theorem dX6_layGap_107 : decode cX6_layGap 107 = .ok (.getfield 50, 3) := by decide +kernel
theorem dX6_layGap_110 : decode cX6_layGap 110 = .ok (.iload 5, 2) := by decide +kernel
theorem dX6_layGap_112 : decode cX6_layGap 112 = .ok (.iload_n 3, 1) := by decide +kernel
theorem dX6_layGap_113 : decode cX6_layGap 113 = .ok (.iastore, 1) := by decide +kernel
theorem dX6_layGap_114 : decode cX6_layGap 114 = .ok (.iinc 3 4, 3) := by decide +kernel
theorem dX6_layGap_117 : decode cX6_layGap 117 = .ok (.iconst 1, 1) := by decide +kernel
theorem dX6_layGap_118 : decode cX6_layGap 118 = .ok (.istore 4, 2) := by decide +kernel
theorem dX6_layGap_120 : decode cX6_layGap 120 = .ok (.iinc 5 1, 3) := by decide +kernel
theorem dX6_layGap_123 : decode cX6_layGap 123 = .ok (.goto (-68), 3) := by decide +kernel
theorem dX6_layGap_126 : decode cX6_layGap 126 = .ok (.aload_n 0, 1) := by decide +kernel
theorem dX6_layGap_127 : decode cX6_layGap 127 = .ok (.getfield 56, 3) := by decide +kernel
theorem dX6_layGap_130 : decode cX6_layGap 130 = .ok (.iload_n 1, 1) := by decide +kernel
theorem dX6_layGap_131 : decode cX6_layGap 131 = .ok (.iload_n 3, 1) := by decide +kernel
theorem dX6_layGap_132 : decode cX6_layGap 132 = .ok (.iconst 4, 1) := by decide +kernel
theorem dX6_layGap_133 : decode cX6_layGap 133 = .ok (.invokestatic 129, 3) := by decide +kernel
theorem dX6_layGap_136 : decode cX6_layGap 136 = .ok (.iastore, 1) := by decide +kernel
theorem dX6_layGap_137 : decode cX6_layGap 137 = .ok (.iload_n 3, 1) := by decide +kernel
theorem dX6_layGap_138 : decode cX6_layGap 138 = .ok (.ireturn, 1) := by decide +kernel
set_option maxRecDepth 20000 in
theorem ggX6_layAll_X6_sizeOf : GoodIn wsX6_layAll wsX6_sizeOf := goodIn_r _ [12, 4, 6, 13, 14, 15, 11, 16, 29, 30, 31, 32, 33, 34, 35, 36, 37, 38, 39, 40, 41, 42, 43, 44, 45, 46, 47, 48, 49, 50, 51, 52, 53, 54, 55, 56, 57, 58, 59, 60, 61, 62] (by decide +kernel) (by decide +kernel)
set_option maxRecDepth 20000 in
theorem gX6_layAll_X6_sizeOf : GoodIn wsX6_layAll (wsV RX6 142 RX6 yX6_sizeOf wsX6_sizeOf) := goodIn_app (goodIn_of _ (by decide +kernel)) ggX6_layAll_X6_sizeOf
set_option maxRecDepth 20000 in
theorem ggX6_layAll_X6_layGap : GoodIn wsX6_layAll wsX6_layGap := goodIn_r _ [20, 21, 22, 23, 24, 25, 26, 1, 27, 28, 14, 15, 11, 16, 29, 30, 31, 32, 33, 34, 35, 36, 37, 38, 39, 40, 41, 42, 43, 44, 45, 46, 47, 48, 49, 50, 51, 52, 53, 54, 55, 56, 57, 58, 59, 60, 61, 62] (by decide +kernel) (by decide +kernel)
set_option maxRecDepth 20000 in
theorem gX6_layAll_X6_layGap : GoodIn wsX6_layAll (wsV RX6 145 RX6 yX6_layGap wsX6_layGap) := goodIn_app (goodIn_of _ (by decide +kernel)) ggX6_layAll_X6_layGap
theorem dX6_layAll_0 : decode cX6_layAll 0 = .ok (.iconst 0, 1) := by decide +kernel
theorem dX6_layAll_1 : decode cX6_layAll 1 = .ok (.istore_n 1, 1) := by decide +kernel
theorem dX6_layAll_2 : decode cX6_layAll 2 = .ok (.aload_n 0, 1) := by decide +kernel
theorem dX6_layAll_3 : decode cX6_layAll 3 = .ok (.iconst 0, 1) := by decide +kernel
theorem dX6_layAll_4 : decode cX6_layAll 4 = .ok (.putfield 139, 3) := by decide +kernel
theorem dX6_layAll_7 : decode cX6_layAll 7 = .ok (.iconst 0, 1) := by decide +kernel
theorem dX6_layAll_8 : decode cX6_layAll 8 = .ok (.istore_n 2, 1) := by decide +kernel
theorem dX6_layAll_9 : decode cX6_layAll 9 = .ok (.iload_n 2, 1) := by decide +kernel
theorem dX6_layAll_10 : decode cX6_layAll 10 = .ok (.aload_n 0, 1) := by decide +kernel
theorem dX6_layAll_11 : decode cX6_layAll 11 = .ok (.getfield 114, 3) := by decide +kernel
theorem dX6_layAll_14 : decode cX6_layAll 14 = .ok (.if_icmp .ge 93, 3) := by decide +kernel
theorem dX6_layAll_17 : decode cX6_layAll 17 = .ok (.aload_n 0, 1) := by decide +kernel
theorem dX6_layAll_18 : decode cX6_layAll 18 = .ok (.getfield 44, 3) := by decide +kernel
theorem dX6_layAll_21 : decode cX6_layAll 21 = .ok (.iload_n 2, 1) := by decide +kernel
theorem dX6_layAll_22 : decode cX6_layAll 22 = .ok (.iload_n 1, 1) := by decide +kernel
theorem dX6_layAll_23 : decode cX6_layAll 23 = .ok (.iastore, 1) := by decide +kernel
theorem dX6_layAll_24 : decode cX6_layAll 24 = .ok (.aload_n 0, 1) := by decide +kernel
theorem dX6_layAll_25 : decode cX6_layAll 25 = .ok (.getfield 13, 3) := by decide +kernel
theorem dX6_layAll_28 : decode cX6_layAll 28 = .ok (.iload_n 2, 1) := by decide +kernel
theorem dX6_layAll_29 : decode cX6_layAll 29 = .ok (.iaload, 1) := by decide +kernel
theorem dX6_layAll_30 : decode cX6_layAll 30 = .ok (.iconst 3, 1) := by decide +kernel
theorem dX6_layAll_31 : decode cX6_layAll 31 = .ok (.if_icmp .ne 15, 3) := by decide +kernel
theorem dX6_layAll_34 : decode cX6_layAll 34 = .ok (.aload_n 0, 1) := by decide +kernel
theorem dX6_layAll_35 : decode cX6_layAll 35 = .ok (.getfield 59, 3) := by decide +kernel
theorem dX6_layAll_38 : decode cX6_layAll 38 = .ok (.aload_n 0, 1) := by decide +kernel
theorem dX6_layAll_39 : decode cX6_layAll 39 = .ok (.getfield 16, 3) := by decide +kernel
theorem dX6_layAll_42 : decode cX6_layAll 42 = .ok (.iload_n 2, 1) := by decide +kernel
theorem dX6_layAll_43 : decode cX6_layAll 43 = .ok (.iaload, 1) := by decide +kernel
theorem dX6_layAll_44 : decode cX6_layAll 44 = .ok (.iload_n 1, 1) := by decide +kernel
theorem dX6_layAll_45 : decode cX6_layAll 45 = .ok (.iastore, 1) := by decide +kernel
theorem dX6_layAll_46 : decode cX6_layAll 46 = .ok (.aload_n 0, 1) := by decide +kernel
theorem dX6_layAll_47 : decode cX6_layAll 47 = .ok (.dup, 1) := by decide +kernel
theorem dX6_layAll_48 : decode cX6_layAll 48 = .ok (.getfield 139, 3) := by decide +kernel
theorem dX6_layAll_51 : decode cX6_layAll 51 = .ok (.aload_n 0, 1) := by decide +kernel
theorem dX6_layAll_52 : decode cX6_layAll 52 = .ok (.getfield 13, 3) := by decide +kernel
theorem dX6_layAll_55 : decode cX6_layAll 55 = .ok (.iload_n 2, 1) := by decide +kernel
theorem dX6_layAll_56 : decode cX6_layAll 56 = .ok (.iaload, 1) := by decide +kernel
theorem dX6_layAll_57 : decode cX6_layAll 57 = .ok (.iconst 4, 1) := by decide +kernel
theorem dX6_layAll_58 : decode cX6_layAll 58 = .ok (.if_icmp .ne 12, 3) := by decide +kernel
theorem dX6_layAll_61 : decode cX6_layAll 61 = .ok (.aload_n 0, 1) := by decide +kernel
theorem dX6_layAll_62 : decode cX6_layAll 62 = .ok (.iload_n 2, 1) := by decide +kernel
theorem dX6_layAll_63 : decode cX6_layAll 63 = .ok (.iload_n 1, 1) := by decide +kernel
theorem dX6_layAll_64 : decode cX6_layAll 64 = .ok (.invokevirtual 142, 3) := by decide +kernel
theorem dX6_layAll_67 : decode cX6_layAll 67 = .ok (.goto 4, 3) := by decide +kernel
theorem dX6_layAll_70 : decode cX6_layAll 70 = .ok (.iconst 0, 1) := by decide +kernel
theorem dX6_layAll_71 : decode cX6_layAll 71 = .ok (.iadd, 1) := by decide +kernel
theorem dX6_layAll_72 : decode cX6_layAll 72 = .ok (.putfield 139, 3) := by decide +kernel
theorem dX6_layAll_75 : decode cX6_layAll 75 = .ok (.iload_n 1, 1) := by decide +kernel
theorem dX6_layAll_76 : decode cX6_layAll 76 = .ok (.aload_n 0, 1) := by decide +kernel
theorem dX6_layAll_77 : decode cX6_layAll 77 = .ok (.iload_n 2, 1) := by decide +kernel
theorem dX6_layAll_78 : decode cX6_layAll 78 = .ok (.iload_n 1, 1) := by decide +kernel
theorem dX6_layAll_79 : decode cX6_layAll 79 = .ok (.invokevirtual 142, 3) := by decide +kernel
theorem dX6_layAll_82 : decode cX6_layAll 82 = .ok (.iadd, 1) := by decide +kernel
theorem dX6_layAll_83 : decode cX6_layAll 83 = .ok (.istore_n 1, 1) := by decide +kernel
theorem dX6_layAll_84 : decode cX6_layAll 84 = .ok (.aload_n 0, 1) := by decide +kernel
theorem dX6_layAll_85 : decode cX6_layAll 85 = .ok (.getfield 13, 3) := by decide +kernel
theorem dX6_layAll_88 : decode cX6_layAll 88 = .ok (.iload_n 2, 1) := by decide +kernel
theorem dX6_layAll_89 : decode cX6_layAll 89 = .ok (.iaload, 1) := by decide +kernel
theorem dX6_layAll_90 : decode cX6_layAll 90 = .ok (.iconst 5, 1) := by decide +kernel
theorem dX6_layAll_91 : decode cX6_layAll 91 = .ok (.if_icmp .ne 10, 3) := by decide +kernel
theorem dX6_layAll_94 : decode cX6_layAll 94 = .ok (.aload_n 0, 1) := by decide +kernel
theorem dX6_layAll_95 : decode cX6_layAll 95 = .ok (.iload_n 2, 1) := by decide +kernel
theorem dX6_layAll_96 : decode cX6_layAll 96 = .ok (.iload_n 1, 1) := by decide +kernel
theorem dX6_layAll_97 : decode cX6_layAll 97 = .ok (.invokevirtual 145, 3) := by decide +kernel
theorem dX6_layAll_100 : decode cX6_layAll 100 = .ok (.istore_n 1, 1) := by decide +kernel
theorem dX6_layAll_101 : decode cX6_layAll 101 = .ok (.iinc 2 1, 3) := by decide +kernel
theorem dX6_layAll_104 : decode cX6_layAll 104 = .ok (.goto (-95), 3) := by decide +kernel
theorem dX6_layAll_107 : decode cX6_layAll 107 = .ok (.aload_n 0, 1) := by decide +kernel
theorem dX6_layAll_108 : decode cX6_layAll 108 = .ok (.iload_n 1, 1) := by decide +kernel
theorem dX6_layAll_109 : decode cX6_layAll 109 = .ok (.putfield 148, 3) := by decide +kernel
theorem dX6_layAll_112 : decode cX6_layAll 112 = .ok (.return_, 1) := by decide +kernel
theorem dX6_apart_0 : decode cX6_apart 0 = .ok (.iload_n 0, 1) := by decide +kernel
theorem dX6_apart_1 : decode cX6_apart 1 = .ok (.iload_n 1, 1) := by decide +kernel
theorem dX6_apart_2 : decode cX6_apart 2 = .ok (.if_icmp .ge 9, 3) := by decide +kernel
theorem dX6_apart_5 : decode cX6_apart 5 = .ok (.iload_n 1, 1) := by decide +kernel
theorem dX6_apart_6 : decode cX6_apart 6 = .ok (.iload_n 0, 1) := by decide +kernel
theorem dX6_apart_7 : decode cX6_apart 7 = .ok (.isub, 1) := by decide +kernel
theorem dX6_apart_8 : decode cX6_apart 8 = .ok (.goto 6, 3) := by decide +kernel
theorem dX6_apart_11 : decode cX6_apart 11 = .ok (.iload_n 0, 1) := by decide +kernel
theorem dX6_apart_12 : decode cX6_apart 12 = .ok (.iload_n 1, 1) := by decide +kernel
theorem dX6_apart_13 : decode cX6_apart 13 = .ok (.isub, 1) := by decide +kernel
theorem dX6_apart_14 : decode cX6_apart 14 = .ok (.ireturn, 1) := by decide +kernel
theorem dX6_constantFor_0 : decode cX6_constantFor 0 = .ok (.iconst (-1), 1) := by decide +kernel
theorem dX6_constantFor_1 : decode cX6_constantFor 1 = .ok (.istore_n 2, 1) := by decide +kernel
theorem dX6_constantFor_2 : decode cX6_constantFor 2 = .ok (.iconst 0, 1) := by decide +kernel
theorem dX6_constantFor_3 : decode cX6_constantFor 3 = .ok (.istore_n 3, 1) := by decide +kernel
theorem dX6_constantFor_4 : decode cX6_constantFor 4 = .ok (.iload_n 3, 1) := by decide +kernel
theorem dX6_constantFor_5 : decode cX6_constantFor 5 = .ok (.aload_n 0, 1) := by decide +kernel
theorem dX6_constantFor_6 : decode cX6_constantFor 6 = .ok (.getfield 136, 3) := by decide +kernel
theorem dX6_constantFor_9 : decode cX6_constantFor 9 = .ok (.if_icmp .ge 84, 3) := by decide +kernel
theorem dX6_constantFor_12 : decode cX6_constantFor 12 = .ok (.aload_n 0, 1) := by decide +kernel
theorem dX6_constantFor_13 : decode cX6_constantFor 13 = .ok (.getfield 50, 3) := by decide +kernel
theorem dX6_constantFor_16 : decode cX6_constantFor 16 = .ok (.iload_n 3, 1) := by decide +kernel
theorem dX6_constantFor_17 : decode cX6_constantFor 17 = .ok (.iaload, 1) := by decide +kernel
theorem dX6_constantFor_18 : decode cX6_constantFor 18 = .ok (.aload_n 0, 1) := by decide +kernel
theorem dX6_constantFor_19 : decode cX6_constantFor 19 = .ok (.getfield 44, 3) := by decide +kernel
theorem dX6_constantFor_22 : decode cX6_constantFor 22 = .ok (.iload_n 1, 1) := by decide +kernel
theorem dX6_constantFor_23 : decode cX6_constantFor 23 = .ok (.iaload, 1) := by decide +kernel
theorem dX6_constantFor_24 : decode cX6_constantFor 24 = .ok (.isub, 1) := by decide +kernel
theorem dX6_constantFor_25 : decode cX6_constantFor 25 = .ok (.istore 4, 2) := by decide +kernel
theorem dX6_constantFor_27 : decode cX6_constantFor 27 = .ok (.aload_n 0, 1) := by decide +kernel
theorem dX6_constantFor_28 : decode cX6_constantFor 28 = .ok (.getfield 38, 3) := by decide +kernel
theorem dX6_constantFor_31 : decode cX6_constantFor 31 = .ok (.iload_n 3, 1) := by decide +kernel
theorem dX6_constantFor_32 : decode cX6_constantFor 32 = .ok (.iaload, 1) := by decide +kernel
theorem dX6_constantFor_33 : decode cX6_constantFor 33 = .ok (.aload_n 0, 1) := by decide +kernel
theorem dX6_constantFor_34 : decode cX6_constantFor 34 = .ok (.getfield 16, 3) := by decide +kernel
theorem dX6_constantFor_37 : decode cX6_constantFor 37 = .ok (.iload_n 1, 1) := by decide +kernel
theorem dX6_constantFor_38 : decode cX6_constantFor 38 = .ok (.iaload, 1) := by decide +kernel
theorem dX6_constantFor_39 : decode cX6_constantFor 39 = .ok (.if_icmp .ne 48, 3) := by decide +kernel
theorem dX6_constantFor_42 : decode cX6_constantFor 42 = .ok (.iload 4, 2) := by decide +kernel
theorem dX6_constantFor_44 : decode cX6_constantFor 44 = .ok (.ifCond .le 43, 3) := by decide +kernel
theorem dX6_constantFor_47 : decode cX6_constantFor 47 = .ok (.iload 4, 2) := by decide +kernel
theorem dX6_constantFor_49 : decode cX6_constantFor 49 = .ok (.aload_n 0, 1) := by decide +kernel
theorem dX6_constantFor_50 : decode cX6_constantFor 50 = .ok (.getfield 19, 3) := by decide +kernel
theorem dX6_constantFor_53 : decode cX6_constantFor 53 = .ok (.iconst 2, 1) := by decide +kernel
theorem dX6_constantFor_54 : decode cX6_constantFor 54 = .ok (.iaload, 1) := by decide +kernel
theorem dX6_constantFor_55 : decode cX6_constantFor 55 = .ok (.if_icmp .gt 32, 3) := by decide +kernel
theorem dX6_constantFor_58 : decode cX6_constantFor 58 = .ok (.iload_n 2, 1) := by decide +kernel
theorem dX6_constantFor_59 : decode cX6_constantFor 59 = .ok (.iconst (-1), 1) := by decide +kernel
theorem dX6_constantFor_60 : decode cX6_constantFor 60 = .ok (.if_icmp .eq 21, 3) := by decide +kernel
theorem dX6_constantFor_63 : decode cX6_constantFor 63 = .ok (.iload 4, 2) := by decide +kernel
theorem dX6_constantFor_65 : decode cX6_constantFor 65 = .ok (.aload_n 0, 1) := by decide +kernel
theorem dX6_constantFor_66 : decode cX6_constantFor 66 = .ok (.getfield 50, 3) := by decide +kernel
theorem dX6_constantFor_69 : decode cX6_constantFor 69 = .ok (.iload_n 2, 1) := by decide +kernel
theorem dX6_constantFor_70 : decode cX6_constantFor 70 = .ok (.iaload, 1) := by decide +kernel
theorem dX6_constantFor_71 : decode cX6_constantFor 71 = .ok (.aload_n 0, 1) := by decide +kernel
theorem dX6_constantFor_72 : decode cX6_constantFor 72 = .ok (.getfield 44, 3) := by decide +kernel
theorem dX6_constantFor_75 : decode cX6_constantFor 75 = .ok (.iload_n 1, 1) := by decide +kernel
theorem dX6_constantFor_76 : decode cX6_constantFor 76 = .ok (.iaload, 1) := by decide +kernel
theorem dX6_constantFor_77 : decode cX6_constantFor 77 = .ok (.isub, 1) := by decide +kernel
theorem dX6_constantFor_78 : decode cX6_constantFor 78 = .ok (.if_icmp .ge 7, 3) := by decide +kernel
theorem dX6_constantFor_81 : decode cX6_constantFor 81 = .ok (.iload_n 3, 1) := by decide +kernel
theorem dX6_constantFor_82 : decode cX6_constantFor 82 = .ok (.goto 4, 3) := by decide +kernel
theorem dX6_constantFor_85 : decode cX6_constantFor 85 = .ok (.iload_n 2, 1) := by decide +kernel
theorem dX6_constantFor_86 : decode cX6_constantFor 86 = .ok (.istore_n 2, 1) := by decide +kernel
theorem dX6_constantFor_87 : decode cX6_constantFor 87 = .ok (.iinc 3 1, 3) := by decide +kernel
theorem dX6_constantFor_90 : decode cX6_constantFor 90 = .ok (.goto (-86), 3) := by decide +kernel
theorem dX6_constantFor_93 : decode cX6_constantFor 93 = .ok (.iload_n 2, 1) := by decide +kernel
theorem dX6_constantFor_94 : decode cX6_constantFor 94 = .ok (.ireturn, 1) := by decide +kernel
set_option maxRecDepth 20000 in
theorem ggX6_islandFor_X6_apart : GoodIn wsX6_islandFor wsX6_apart := goodIn_r _ [10] (by decide +kernel) (by decide +kernel)
set_option maxRecDepth 20000 in
theorem gX6_islandFor_X6_apart : GoodIn wsX6_islandFor (va_wsS RX6 151 yX6_apart wsX6_apart) := goodIn_app (goodIn_of _ (by decide +kernel)) ggX6_islandFor_X6_apart
theorem dX6_islandFor_0 : decode cX6_islandFor 0 = .ok (.iconst (-1), 1) := by decide +kernel
theorem dX6_islandFor_1 : decode cX6_islandFor 1 = .ok (.istore_n 3, 1) := by decide +kernel
theorem dX6_islandFor_2 : decode cX6_islandFor 2 = .ok (.iconst 0, 1) := by decide +kernel
theorem dX6_islandFor_3 : decode cX6_islandFor 3 = .ok (.istore 4, 2) := by decide +kernel
theorem dX6_islandFor_5 : decode cX6_islandFor 5 = .ok (.iload 4, 2) := by decide +kernel
theorem dX6_islandFor_7 : decode cX6_islandFor 7 = .ok (.aload_n 0, 1) := by decide +kernel
theorem dX6_islandFor_8 : decode cX6_islandFor 8 = .ok (.getfield 133, 3) := by decide +kernel
theorem dX6_islandFor_11 : decode cX6_islandFor 11 = .ok (.if_icmp .ge 137, 3) := by decide +kernel
theorem dX6_islandFor_14 : decode cX6_islandFor 14 = .ok (.aload_n 0, 1) := by decide +kernel
theorem dX6_islandFor_15 : decode cX6_islandFor 15 = .ok (.getfield 47, 3) := by decide +kernel
theorem dX6_islandFor_18 : decode cX6_islandFor 18 = .ok (.iload 4, 2) := by decide +kernel
theorem dX6_islandFor_20 : decode cX6_islandFor 20 = .ok (.iaload, 1) := by decide +kernel
theorem dX6_islandFor_21 : decode cX6_islandFor 21 = .ok (.aload_n 0, 1) := by decide +kernel
theorem dX6_islandFor_22 : decode cX6_islandFor 22 = .ok (.getfield 59, 3) := by decide +kernel
theorem dX6_islandFor_25 : decode cX6_islandFor 25 = .ok (.iload_n 2, 1) := by decide +kernel
theorem dX6_islandFor_26 : decode cX6_islandFor 26 = .ok (.iaload, 1) := by decide +kernel
theorem dX6_islandFor_27 : decode cX6_islandFor 27 = .ok (.invokestatic 151, 3) := by decide +kernel
theorem dX6_islandFor_30 : decode cX6_islandFor 30 = .ok (.istore 5, 2) := by decide +kernel
theorem dX6_islandFor_32 : decode cX6_islandFor 32 = .ok (.aload_n 0, 1) := by decide +kernel
theorem dX6_islandFor_33 : decode cX6_islandFor 33 = .ok (.getfield 32, 3) := by decide +kernel
theorem dX6_islandFor_36 : decode cX6_islandFor 36 = .ok (.iload 4, 2) := by decide +kernel
theorem dX6_islandFor_38 : decode cX6_islandFor 38 = .ok (.iaload, 1) := by decide +kernel
theorem dX6_islandFor_39 : decode cX6_islandFor 39 = .ok (.iload_n 2, 1) := by decide +kernel
theorem dX6_islandFor_40 : decode cX6_islandFor 40 = .ok (.if_icmp .ne 102, 3) := by decide +kernel
theorem dX6_islandFor_43 : decode cX6_islandFor 43 = .ok (.aload_n 0, 1) := by decide +kernel
theorem dX6_islandFor_44 : decode cX6_islandFor 44 = .ok (.getfield 47, 3) := by decide +kernel
theorem dX6_islandFor_47 : decode cX6_islandFor 47 = .ok (.iload 4, 2) := by decide +kernel
theorem dX6_islandFor_49 : decode cX6_islandFor 49 = .ok (.iaload, 1) := by decide +kernel
theorem dX6_islandFor_50 : decode cX6_islandFor 50 = .ok (.iload_n 1, 1) := by decide +kernel
theorem dX6_islandFor_51 : decode cX6_islandFor 51 = .ok (.invokestatic 151, 3) := by decide +kernel
theorem dX6_islandFor_54 : decode cX6_islandFor 54 = .ok (.aload_n 0, 1) := by decide +kernel
theorem dX6_islandFor_55 : decode cX6_islandFor 55 = .ok (.getfield 19, 3) := by decide +kernel
theorem dX6_islandFor_58 : decode cX6_islandFor 58 = .ok (.iconst 1, 1) := by decide +kernel
theorem dX6_islandFor_59 : decode cX6_islandFor 59 = .ok (.iaload, 1) := by decide +kernel
theorem dX6_islandFor_60 : decode cX6_islandFor 60 = .ok (.if_icmp .gt 82, 3) := by decide +kernel
theorem dX6_islandFor_63 : decode cX6_islandFor 63 = .ok (.iload 5, 2) := by decide +kernel
theorem dX6_islandFor_65 : decode cX6_islandFor 65 = .ok (.iload_n 1, 1) := by decide +kernel
theorem dX6_islandFor_66 : decode cX6_islandFor 66 = .ok (.aload_n 0, 1) := by decide +kernel
theorem dX6_islandFor_67 : decode cX6_islandFor 67 = .ok (.getfield 59, 3) := by decide +kernel
theorem dX6_islandFor_70 : decode cX6_islandFor 70 = .ok (.iload_n 2, 1) := by decide +kernel
theorem dX6_islandFor_71 : decode cX6_islandFor 71 = .ok (.iaload, 1) := by decide +kernel
theorem dX6_islandFor_72 : decode cX6_islandFor 72 = .ok (.invokestatic 151, 3) := by decide +kernel
theorem dX6_islandFor_75 : decode cX6_islandFor 75 = .ok (.if_icmp .ge 67, 3) := by decide +kernel
theorem dX6_islandFor_78 : decode cX6_islandFor 78 = .ok (.iload_n 3, 1) := by decide +kernel
theorem dX6_islandFor_79 : decode cX6_islandFor 79 = .ok (.iconst (-1), 1) := by decide +kernel
theorem dX6_islandFor_80 : decode cX6_islandFor 80 = .ok (.if_icmp .ne 8, 3) := by decide +kernel
theorem dX6_islandFor_83 : decode cX6_islandFor 83 = .ok (.ldc 154, 2) := by decide +kernel
theorem dX6_islandFor_85 : decode cX6_islandFor 85 = .ok (.goto 18, 3) := by decide +kernel
theorem dX6_islandFor_88 : decode cX6_islandFor 88 = .ok (.aload_n 0, 1) := by decide +kernel
theorem dX6_islandFor_89 : decode cX6_islandFor 89 = .ok (.getfield 47, 3) := by decide +kernel
theorem dX6_islandFor_92 : decode cX6_islandFor 92 = .ok (.iload_n 3, 1) := by decide +kernel
theorem dX6_islandFor_93 : decode cX6_islandFor 93 = .ok (.iaload, 1) := by decide +kernel
theorem dX6_islandFor_94 : decode cX6_islandFor 94 = .ok (.aload_n 0, 1) := by decide +kernel
theorem dX6_islandFor_95 : decode cX6_islandFor 95 = .ok (.getfield 59, 3) := by decide +kernel
theorem dX6_islandFor_98 : decode cX6_islandFor 98 = .ok (.iload_n 2, 1) := by decide +kernel
theorem dX6_islandFor_99 : decode cX6_islandFor 99 = .ok (.iaload, 1) := by decide +kernel
theorem dX6_islandFor_100 : decode cX6_islandFor 100 = .ok (.invokestatic 151, 3) := by decide +kernel
theorem dX6_islandFor_103 : decode cX6_islandFor 103 = .ok (.istore 6, 2) := by decide +kernel
theorem dX6_islandFor_105 : decode cX6_islandFor 105 = .ok (.iload 5, 2) := by decide +kernel
theorem dX6_islandFor_107 : decode cX6_islandFor 107 = .ok (.iload 6, 2) := by decide +kernel
theorem dX6_islandFor_109 : decode cX6_islandFor 109 = .ok (.if_icmp .lt 26, 3) := by decide +kernel
theorem dX6_islandFor_112 : decode cX6_islandFor 112 = .ok (.iload 5, 2) := by decide +kernel
theorem dX6_islandFor_114 : decode cX6_islandFor 114 = .ok (.iload 6, 2) := by decide +kernel
theorem dX6_islandFor_116 : decode cX6_islandFor 116 = .ok (.if_icmp .ne 24, 3) := by decide +kernel
theorem dX6_islandFor_119 : decode cX6_islandFor 119 = .ok (.aload_n 0, 1) := by decide +kernel
theorem dX6_islandFor_120 : decode cX6_islandFor 120 = .ok (.getfield 47, 3) := by decide +kernel
theorem dX6_islandFor_123 : decode cX6_islandFor 123 = .ok (.iload 4, 2) := by decide +kernel
theorem dX6_islandFor_125 : decode cX6_islandFor 125 = .ok (.iaload, 1) := by decide +kernel
theorem dX6_islandFor_126 : decode cX6_islandFor 126 = .ok (.aload_n 0, 1) := by decide +kernel
theorem dX6_islandFor_127 : decode cX6_islandFor 127 = .ok (.getfield 47, 3) := by decide +kernel
theorem dX6_islandFor_130 : decode cX6_islandFor 130 = .ok (.iload_n 3, 1) := by decide +kernel
theorem dX6_islandFor_131 : decode cX6_islandFor 131 = .ok (.iaload, 1) := by decide +kernel
theorem dX6_islandFor_132 : decode cX6_islandFor 132 = .ok (.if_icmp .ge 8, 3) := by decide +kernel
theorem dX6_islandFor_135 : decode cX6_islandFor 135 = .ok (.iload 4, 2) := by decide +kernel
theorem dX6_islandFor_137 : decode cX6_islandFor 137 = .ok (.goto 4, 3) := by decide +kernel
theorem dX6_islandFor_140 : decode cX6_islandFor 140 = .ok (.iload_n 3, 1) := by decide +kernel
theorem dX6_islandFor_141 : decode cX6_islandFor 141 = .ok (.istore_n 3, 1) := by decide +kernel
theorem dX6_islandFor_142 : decode cX6_islandFor 142 = .ok (.iinc 4 1, 3) := by decide +kernel
theorem dX6_islandFor_145 : decode cX6_islandFor 145 = .ok (.goto (-140), 3) := by decide +kernel
theorem dX6_islandFor_148 : decode cX6_islandFor 148 = .ok (.iload_n 3, 1) := by decide +kernel
theorem dX6_islandFor_149 : decode cX6_islandFor 149 = .ok (.ireturn, 1) := by decide +kernel
set_option maxRecDepth 20000 in
theorem ggX6_reachesLabel_X6_apart : GoodIn wsX6_reachesLabel wsX6_apart := goodIn_r _ [6] (by decide +kernel) (by decide +kernel)
set_option maxRecDepth 20000 in
theorem gX6_reachesLabel_X6_apart : GoodIn wsX6_reachesLabel (va_wsS RX6 151 yX6_apart wsX6_apart) := goodIn_app (goodIn_of _ (by decide +kernel)) ggX6_reachesLabel_X6_apart
theorem dX6_reachesLabel_0 : decode cX6_reachesLabel 0 = .ok (.iload_n 1, 1) := by decide +kernel
theorem dX6_reachesLabel_1 : decode cX6_reachesLabel 1 = .ok (.aload_n 0, 1) := by decide +kernel
theorem dX6_reachesLabel_2 : decode cX6_reachesLabel 2 = .ok (.getfield 59, 3) := by decide +kernel
theorem dX6_reachesLabel_5 : decode cX6_reachesLabel 5 = .ok (.iload_n 2, 1) := by decide +kernel
theorem dX6_reachesLabel_6 : decode cX6_reachesLabel 6 = .ok (.iaload, 1) := by decide +kernel
theorem dX6_reachesLabel_7 : decode cX6_reachesLabel 7 = .ok (.invokestatic 151, 3) := by decide +kernel
theorem dX6_reachesLabel_10 : decode cX6_reachesLabel 10 = .ok (.aload_n 0, 1) := by decide +kernel
theorem dX6_reachesLabel_11 : decode cX6_reachesLabel 11 = .ok (.getfield 19, 3) := by decide +kernel
theorem dX6_reachesLabel_14 : decode cX6_reachesLabel 14 = .ok (.iconst 1, 1) := by decide +kernel
theorem dX6_reachesLabel_15 : decode cX6_reachesLabel 15 = .ok (.iaload, 1) := by decide +kernel
theorem dX6_reachesLabel_16 : decode cX6_reachesLabel 16 = .ok (.if_icmp .gt 7, 3) := by decide +kernel
theorem dX6_reachesLabel_19 : decode cX6_reachesLabel 19 = .ok (.iconst 1, 1) := by decide +kernel
theorem dX6_reachesLabel_20 : decode cX6_reachesLabel 20 = .ok (.goto 4, 3) := by decide +kernel
theorem dX6_reachesLabel_23 : decode cX6_reachesLabel 23 = .ok (.iconst 0, 1) := by decide +kernel
theorem dX6_reachesLabel_24 : decode cX6_reachesLabel 24 = .ok (.ireturn, 1) := by decide +kernel
set_option maxRecDepth 20000 in
theorem ggX6_goesFrom_X6_reachesLabel : GoodIn wsX6_goesFrom wsX6_reachesLabel := goodIn_r _ [7, 1, 8, 9, 10, 6, 11, 19, 20, 21, 22, 23, 24, 25, 26, 27, 28, 29, 30, 31, 32, 33, 34, 35, 36, 37, 38, 39, 40, 41, 42, 43, 44, 45, 46, 47, 48, 49, 50, 51, 52] (by decide +kernel) (by decide +kernel)
set_option maxRecDepth 20000 in
theorem gX6_goesFrom_X6_reachesLabel : GoodIn wsX6_goesFrom (wsV RX6 155 RX6 yX6_reachesLabel wsX6_reachesLabel) := goodIn_app (goodIn_of _ (by decide +kernel)) ggX6_goesFrom_X6_reachesLabel
set_option maxRecDepth 20000 in
theorem ggX6_goesFrom_X6_islandFor : GoodIn wsX6_goesFrom wsX6_islandFor := goodIn_r _ [15, 16, 2, 1, 17, 8, 18, 9, 10, 6, 11, 19, 20, 21, 22, 23, 24, 25, 26, 27, 28, 29, 30, 31, 32, 33, 34, 35, 36, 37, 38, 39, 40, 41, 42, 43, 44, 45, 46, 47, 48, 49, 50, 51, 52] (by decide +kernel) (by decide +kernel)
set_option maxRecDepth 20000 in
theorem gX6_goesFrom_X6_islandFor : GoodIn wsX6_goesFrom (wsV RX6 159 RX6 yX6_islandFor wsX6_islandFor) := goodIn_app (goodIn_of _ (by decide +kernel)) ggX6_goesFrom_X6_islandFor
theorem dX6_goesFrom_0 : decode cX6_goesFrom 0 = .ok (.aload_n 0, 1) := by decide +kernel
theorem dX6_goesFrom_1 : decode cX6_goesFrom 1 = .ok (.iload_n 1, 1) := by decide +kernel
theorem dX6_goesFrom_2 : decode cX6_goesFrom 2 = .ok (.iload_n 2, 1) := by decide +kernel
theorem dX6_goesFrom_3 : decode cX6_goesFrom 3 = .ok (.invokevirtual 155, 3) := by decide +kernel
theorem dX6_goesFrom_6 : decode cX6_goesFrom 6 = .ok (.ifCond .eq 10, 3) := by decide +kernel
theorem dX6_goesFrom_9 : decode cX6_goesFrom 9 = .ok (.aload_n 0, 1) := by decide +kernel
theorem dX6_goesFrom_10 : decode cX6_goesFrom 10 = .ok (.getfield 59, 3) := by decide +kernel
theorem dX6_goesFrom_13 : decode cX6_goesFrom 13 = .ok (.iload_n 2, 1) := by decide +kernel
theorem dX6_goesFrom_14 : decode cX6_goesFrom 14 = .ok (.iaload, 1) := by decide +kernel
theorem dX6_goesFrom_15 : decode cX6_goesFrom 15 = .ok (.ireturn, 1) := by decide +kernel
theorem dX6_goesFrom_16 : decode cX6_goesFrom 16 = .ok (.aload_n 0, 1) := by decide +kernel
theorem dX6_goesFrom_17 : decode cX6_goesFrom 17 = .ok (.iload_n 1, 1) := by decide +kernel
theorem dX6_goesFrom_18 : decode cX6_goesFrom 18 = .ok (.iload_n 2, 1) := by decide +kernel
theorem dX6_goesFrom_19 : decode cX6_goesFrom 19 = .ok (.invokevirtual 159, 3) := by decide +kernel
theorem dX6_goesFrom_22 : decode cX6_goesFrom 22 = .ok (.istore_n 3, 1) := by decide +kernel
theorem dX6_goesFrom_23 : decode cX6_goesFrom 23 = .ok (.iload_n 3, 1) := by decide +kernel
theorem dX6_goesFrom_24 : decode cX6_goesFrom 24 = .ok (.iconst (-1), 1) := by decide +kernel
theorem dX6_goesFrom_25 : decode cX6_goesFrom 25 = .ok (.if_icmp .ne 7, 3) := by decide +kernel
theorem dX6_goesFrom_28 : decode cX6_goesFrom 28 = .ok (.iconst (-1), 1) := by decide +kernel
theorem dX6_goesFrom_29 : decode cX6_goesFrom 29 = .ok (.goto 9, 3) := by decide +kernel
theorem dX6_goesFrom_32 : decode cX6_goesFrom 32 = .ok (.aload_n 0, 1) := by decide +kernel
theorem dX6_goesFrom_33 : decode cX6_goesFrom 33 = .ok (.getfield 47, 3) := by decide +kernel
theorem dX6_goesFrom_36 : decode cX6_goesFrom 36 = .ok (.iload_n 3, 1) := by decide +kernel
theorem dX6_goesFrom_37 : decode cX6_goesFrom 37 = .ok (.iaload, 1) := by decide +kernel
theorem dX6_goesFrom_38 : decode cX6_goesFrom 38 = .ok (.ireturn, 1) := by decide +kernel
set_option maxRecDepth 20000 in
theorem ggX6_shortGoes_X6_apart : GoodIn wsX6_shortGoes wsX6_apart := goodIn_r _ [8] (by decide +kernel) (by decide +kernel)
set_option maxRecDepth 20000 in
theorem gX6_shortGoes_X6_apart : GoodIn wsX6_shortGoes (va_wsS RX6 151 yX6_apart wsX6_apart) := goodIn_app (goodIn_of _ (by decide +kernel)) ggX6_shortGoes_X6_apart
theorem dX6_shortGoes_0 : decode cX6_shortGoes 0 = .ok (.aload_n 0, 1) := by decide +kernel
theorem dX6_shortGoes_1 : decode cX6_shortGoes 1 = .ok (.getfield 59, 3) := by decide +kernel
theorem dX6_shortGoes_4 : decode cX6_shortGoes 4 = .ok (.aload_n 0, 1) := by decide +kernel
theorem dX6_shortGoes_5 : decode cX6_shortGoes 5 = .ok (.getfield 16, 3) := by decide +kernel
theorem dX6_shortGoes_8 : decode cX6_shortGoes 8 = .ok (.iload_n 1, 1) := by decide +kernel
theorem dX6_shortGoes_9 : decode cX6_shortGoes 9 = .ok (.iaload, 1) := by decide +kernel
theorem dX6_shortGoes_10 : decode cX6_shortGoes 10 = .ok (.iaload, 1) := by decide +kernel
theorem dX6_shortGoes_11 : decode cX6_shortGoes 11 = .ok (.istore_n 2, 1) := by decide +kernel
theorem dX6_shortGoes_12 : decode cX6_shortGoes 12 = .ok (.aload_n 0, 1) := by decide +kernel
theorem dX6_shortGoes_13 : decode cX6_shortGoes 13 = .ok (.getfield 44, 3) := by decide +kernel
theorem dX6_shortGoes_16 : decode cX6_shortGoes 16 = .ok (.iload_n 1, 1) := by decide +kernel
theorem dX6_shortGoes_17 : decode cX6_shortGoes 17 = .ok (.iaload, 1) := by decide +kernel
theorem dX6_shortGoes_18 : decode cX6_shortGoes 18 = .ok (.iload_n 2, 1) := by decide +kernel
theorem dX6_shortGoes_19 : decode cX6_shortGoes 19 = .ok (.invokestatic 151, 3) := by decide +kernel
theorem dX6_shortGoes_22 : decode cX6_shortGoes 22 = .ok (.aload_n 0, 1) := by decide +kernel
theorem dX6_shortGoes_23 : decode cX6_shortGoes 23 = .ok (.getfield 19, 3) := by decide +kernel
theorem dX6_shortGoes_26 : decode cX6_shortGoes 26 = .ok (.iconst 0, 1) := by decide +kernel
theorem dX6_shortGoes_27 : decode cX6_shortGoes 27 = .ok (.iaload, 1) := by decide +kernel
theorem dX6_shortGoes_28 : decode cX6_shortGoes 28 = .ok (.if_icmp .gt 7, 3) := by decide +kernel
theorem dX6_shortGoes_31 : decode cX6_shortGoes 31 = .ok (.iload_n 2, 1) := by decide +kernel
theorem dX6_shortGoes_32 : decode cX6_shortGoes 32 = .ok (.goto 4, 3) := by decide +kernel
theorem dX6_shortGoes_35 : decode cX6_shortGoes 35 = .ok (.iconst (-1), 1) := by decide +kernel
theorem dX6_shortGoes_36 : decode cX6_shortGoes 36 = .ok (.ireturn, 1) := by decide +kernel
set_option maxRecDepth 20000 in
theorem ggX6_goesTo_X6_constantFor : GoodIn wsX6_goesTo wsX6_constantFor := goodIn_r _ [10, 11, 2, 4, 12, 5, 13, 38, 39, 40, 41, 42, 43, 44, 45, 46, 47, 48, 49, 50, 51, 52, 53, 54, 55, 56, 57, 58, 59, 60, 61, 62, 63, 64, 65, 66, 67, 68, 69, 70, 71] (by decide +kernel) (by decide +kernel)
set_option maxRecDepth 20000 in
theorem gX6_goesTo_X6_constantFor : GoodIn wsX6_goesTo (wsV RX6 162 RX6 yX6_constantFor wsX6_constantFor) := goodIn_app (goodIn_of _ (by decide +kernel)) ggX6_goesTo_X6_constantFor
set_option maxRecDepth 20000 in
theorem ggX6_goesTo_X6_goesFrom : GoodIn wsX6_goesTo wsX6_goesFrom := goodIn_r _ [17, 18, 19, 20, 21, 22, 9, 23, 13, 24, 25, 26, 27, 28, 29, 30, 31, 32, 33, 38, 39, 40, 41, 42, 43, 44, 45, 46, 47, 48, 49, 50, 51, 52, 53, 54, 55, 56, 57, 58, 59, 60, 61, 62, 63, 64, 65, 66, 67, 68, 69, 70, 71] (by decide +kernel) (by decide +kernel)
set_option maxRecDepth 20000 in
theorem gX6_goesTo_X6_goesFrom : GoodIn wsX6_goesTo (wsV RX6 165 RX6 yX6_goesFrom wsX6_goesFrom) := goodIn_app (goodIn_of _ (by decide +kernel)) ggX6_goesTo_X6_goesFrom
set_option maxRecDepth 20000 in
theorem ggX6_goesTo_X6_shortGoes : GoodIn wsX6_goesTo wsX6_shortGoes := goodIn_r _ [37, 18, 5, 4, 13, 24, 25, 9, 26, 38, 39, 40, 41, 42, 43, 44, 45, 46, 47, 48, 49, 50, 51, 52, 53, 54, 55, 56, 57, 58, 59, 60, 61, 62, 63, 64, 65, 66, 67, 68, 69, 70, 71] (by decide +kernel) (by decide +kernel)
set_option maxRecDepth 20000 in
theorem gX6_goesTo_X6_shortGoes : GoodIn wsX6_goesTo (wsV RX6 168 RX6 yX6_shortGoes wsX6_shortGoes) := goodIn_app (goodIn_of _ (by decide +kernel)) ggX6_goesTo_X6_shortGoes
theorem dX6_goesTo_0 : decode cX6_goesTo 0 = .ok (.aload_n 0, 1) := by decide +kernel
theorem dX6_goesTo_1 : decode cX6_goesTo 1 = .ok (.getfield 13, 3) := by decide +kernel
theorem dX6_goesTo_4 : decode cX6_goesTo 4 = .ok (.iload_n 1, 1) := by decide +kernel
theorem dX6_goesTo_5 : decode cX6_goesTo 5 = .ok (.iaload, 1) := by decide +kernel
theorem dX6_goesTo_6 : decode cX6_goesTo 6 = .ok (.iconst 1, 1) := by decide +kernel
theorem dX6_goesTo_7 : decode cX6_goesTo 7 = .ok (.if_icmp .ne 25, 3) := by decide +kernel
theorem dX6_goesTo_10 : decode cX6_goesTo 10 = .ok (.aload_n 0, 1) := by decide +kernel
theorem dX6_goesTo_11 : decode cX6_goesTo 11 = .ok (.iload_n 1, 1) := by decide +kernel
theorem dX6_goesTo_12 : decode cX6_goesTo 12 = .ok (.invokevirtual 162, 3) := by decide +kernel
theorem dX6_goesTo_15 : decode cX6_goesTo 15 = .ok (.istore_n 2, 1) := by decide +kernel
theorem dX6_goesTo_16 : decode cX6_goesTo 16 = .ok (.iload_n 2, 1) := by decide +kernel
theorem dX6_goesTo_17 : decode cX6_goesTo 17 = .ok (.iconst (-1), 1) := by decide +kernel
theorem dX6_goesTo_18 : decode cX6_goesTo 18 = .ok (.if_icmp .ne 7, 3) := by decide +kernel
theorem dX6_goesTo_21 : decode cX6_goesTo 21 = .ok (.iconst (-1), 1) := by decide +kernel
theorem dX6_goesTo_22 : decode cX6_goesTo 22 = .ok (.goto 9, 3) := by decide +kernel
theorem dX6_goesTo_25 : decode cX6_goesTo 25 = .ok (.aload_n 0, 1) := by decide +kernel
theorem dX6_goesTo_26 : decode cX6_goesTo 26 = .ok (.getfield 50, 3) := by decide +kernel
theorem dX6_goesTo_29 : decode cX6_goesTo 29 = .ok (.iload_n 2, 1) := by decide +kernel
theorem dX6_goesTo_30 : decode cX6_goesTo 30 = .ok (.iaload, 1) := by decide +kernel
theorem dX6_goesTo_31 : decode cX6_goesTo 31 = .ok (.ireturn, 1) := by decide +kernel
theorem dX6_goesTo_32 : decode cX6_goesTo 32 = .ok (.aload_n 0, 1) := by decide +kernel
theorem dX6_goesTo_33 : decode cX6_goesTo 33 = .ok (.getfield 13, 3) := by decide +kernel
theorem dX6_goesTo_36 : decode cX6_goesTo 36 = .ok (.iload_n 1, 1) := by decide +kernel
theorem dX6_goesTo_37 : decode cX6_goesTo 37 = .ok (.iaload, 1) := by decide +kernel
theorem dX6_goesTo_38 : decode cX6_goesTo 38 = .ok (.iconst 2, 1) := by decide +kernel
theorem dX6_goesTo_39 : decode cX6_goesTo 39 = .ok (.if_icmp .eq 5, 3) := by decide +kernel
theorem dX6_goesTo_42 : decode cX6_goesTo 42 = .ok (.iconst (-1), 1) := by decide +kernel
theorem dX6_goesTo_43 : decode cX6_goesTo 43 = .ok (.ireturn, 1) := by decide +kernel
theorem dX6_goesTo_44 : decode cX6_goesTo 44 = .ok (.aload_n 0, 1) := by decide +kernel
theorem dX6_goesTo_45 : decode cX6_goesTo 45 = .ok (.getfield 28, 3) := by decide +kernel
theorem dX6_goesTo_48 : decode cX6_goesTo 48 = .ok (.iload_n 1, 1) := by decide +kernel
theorem dX6_goesTo_49 : decode cX6_goesTo 49 = .ok (.baload, 1) := by decide +kernel
theorem dX6_goesTo_50 : decode cX6_goesTo 50 = .ok (.ifCond .eq 22, 3) := by decide +kernel
theorem dX6_goesTo_53 : decode cX6_goesTo 53 = .ok (.aload_n 0, 1) := by decide +kernel
theorem dX6_goesTo_54 : decode cX6_goesTo 54 = .ok (.aload_n 0, 1) := by decide +kernel
theorem dX6_goesTo_55 : decode cX6_goesTo 55 = .ok (.getfield 44, 3) := by decide +kernel
theorem dX6_goesTo_58 : decode cX6_goesTo 58 = .ok (.iload_n 1, 1) := by decide +kernel
theorem dX6_goesTo_59 : decode cX6_goesTo 59 = .ok (.iaload, 1) := by decide +kernel
theorem dX6_goesTo_60 : decode cX6_goesTo 60 = .ok (.aload_n 0, 1) := by decide +kernel
theorem dX6_goesTo_61 : decode cX6_goesTo 61 = .ok (.getfield 16, 3) := by decide +kernel
theorem dX6_goesTo_64 : decode cX6_goesTo 64 = .ok (.iload_n 1, 1) := by decide +kernel
theorem dX6_goesTo_65 : decode cX6_goesTo 65 = .ok (.iaload, 1) := by decide +kernel
theorem dX6_goesTo_66 : decode cX6_goesTo 66 = .ok (.invokevirtual 165, 3) := by decide +kernel
theorem dX6_goesTo_69 : decode cX6_goesTo 69 = .ok (.goto 8, 3) := by decide +kernel
theorem dX6_goesTo_72 : decode cX6_goesTo 72 = .ok (.aload_n 0, 1) := by decide +kernel
theorem dX6_goesTo_73 : decode cX6_goesTo 73 = .ok (.iload_n 1, 1) := by decide +kernel
theorem dX6_goesTo_74 : decode cX6_goesTo 74 = .ok (.invokevirtual 168, 3) := by decide +kernel
theorem dX6_goesTo_77 : decode cX6_goesTo 77 = .ok (.ireturn, 1) := by decide +kernel
theorem dX6_fails_0 : decode cX6_fails 0 = .ok (.aload_n 0, 1) := by decide +kernel
theorem dX6_fails_1 : decode cX6_fails 1 = .ok (.iconst 0, 1) := by decide +kernel
theorem dX6_fails_2 : decode cX6_fails 2 = .ok (.putfield 62, 3) := by decide +kernel
theorem dX6_fails_5 : decode cX6_fails 5 = .ok (.aload_n 0, 1) := by decide +kernel
theorem dX6_fails_6 : decode cX6_fails 6 = .ok (.iload_n 1, 1) := by decide +kernel
theorem dX6_fails_7 : decode cX6_fails 7 = .ok (.putfield 171, 3) := by decide +kernel
theorem dX6_fails_10 : decode cX6_fails 10 = .ok (.aload_n 0, 1) := by decide +kernel
theorem dX6_fails_11 : decode cX6_fails 11 = .ok (.iload_n 2, 1) := by decide +kernel
theorem dX6_fails_12 : decode cX6_fails 12 = .ok (.putfield 66, 3) := by decide +kernel
theorem dX6_fails_15 : decode cX6_fails 15 = .ok (.iconst 0, 1) := by decide +kernel
theorem dX6_fails_16 : decode cX6_fails 16 = .ok (.ireturn, 1) := by decide +kernel
set_option maxRecDepth 20000 in
theorem ggX6_firstStuck_X6_goesTo : GoodIn wsX6_firstStuck wsX6_goesTo := goodIn_r _ [8, 2, 9, 3, 10, 11, 12, 13, 14, 7, 15, 16, 17, 18, 19, 20, 21, 22, 23, 24, 25, 26, 27, 28, 29, 30, 31, 32, 33, 34, 35, 36, 37, 38, 39, 40, 41, 42, 43, 44, 45, 46, 47, 48, 49, 50, 51, 52, 53, 54, 55, 56, 57, 58, 59, 60, 61, 62, 63, 64, 65, 66, 67, 68, 69, 70, 71, 72, 73, 74, 75, 76] (by decide +kernel) (by decide +kernel)
set_option maxRecDepth 20000 in
theorem gX6_firstStuck_X6_goesTo : GoodIn wsX6_firstStuck (wsV RX6 174 RX6 yX6_goesTo wsX6_goesTo) := goodIn_app (goodIn_of _ (by decide +kernel)) ggX6_firstStuck_X6_goesTo
theorem dX6_firstStuck_0 : decode cX6_firstStuck 0 = .ok (.iconst (-1), 1) := by decide +kernel
theorem dX6_firstStuck_1 : decode cX6_firstStuck 1 = .ok (.istore_n 3, 1) := by decide +kernel
theorem dX6_firstStuck_2 : decode cX6_firstStuck 2 = .ok (.aload_n 0, 1) := by decide +kernel
theorem dX6_firstStuck_3 : decode cX6_firstStuck 3 = .ok (.getfield 114, 3) := by decide +kernel
theorem dX6_firstStuck_6 : decode cX6_firstStuck 6 = .ok (.iconst 1, 1) := by decide +kernel
theorem dX6_firstStuck_7 : decode cX6_firstStuck 7 = .ok (.isub, 1) := by decide +kernel
theorem dX6_firstStuck_8 : decode cX6_firstStuck 8 = .ok (.istore 4, 2) := by decide +kernel
theorem dX6_firstStuck_10 : decode cX6_firstStuck 10 = .ok (.iload 4, 2) := by decide +kernel
theorem dX6_firstStuck_12 : decode cX6_firstStuck 12 = .ok (.ifCond .lt 60, 3) := by decide +kernel
theorem dX6_firstStuck_15 : decode cX6_firstStuck 15 = .ok (.aload_n 0, 1) := by decide +kernel
theorem dX6_firstStuck_16 : decode cX6_firstStuck 16 = .ok (.getfield 13, 3) := by decide +kernel
theorem dX6_firstStuck_19 : decode cX6_firstStuck 19 = .ok (.iload 4, 2) := by decide +kernel
theorem dX6_firstStuck_21 : decode cX6_firstStuck 21 = .ok (.iaload, 1) := by decide +kernel
theorem dX6_firstStuck_22 : decode cX6_firstStuck 22 = .ok (.iload_n 1, 1) := by decide +kernel
theorem dX6_firstStuck_23 : decode cX6_firstStuck 23 = .ok (.if_icmp .ne 28, 3) := by decide +kernel
theorem dX6_firstStuck_26 : decode cX6_firstStuck 26 = .ok (.aload_n 0, 1) := by decide +kernel
theorem dX6_firstStuck_27 : decode cX6_firstStuck 27 = .ok (.getfield 28, 3) := by decide +kernel
theorem dX6_firstStuck_30 : decode cX6_firstStuck 30 = .ok (.iload 4, 2) := by decide +kernel
theorem dX6_firstStuck_32 : decode cX6_firstStuck 32 = .ok (.baload, 1) := by decide +kernel
theorem dX6_firstStuck_33 : decode cX6_firstStuck 33 = .ok (.iload_n 2, 1) := by decide +kernel
theorem dX6_firstStuck_34 : decode cX6_firstStuck 34 = .ok (.if_icmp .ne 17, 3) := by decide +kernel
theorem dX6_firstStuck_37 : decode cX6_firstStuck 37 = .ok (.aload_n 0, 1) := by decide +kernel
theorem dX6_firstStuck_38 : decode cX6_firstStuck 38 = .ok (.iload 4, 2) := by decide +kernel
theorem dX6_firstStuck_40 : decode cX6_firstStuck 40 = .ok (.invokevirtual 174, 3) := by decide +kernel
theorem dX6_firstStuck_43 : decode cX6_firstStuck 43 = .ok (.iconst (-1), 1) := by decide +kernel
theorem dX6_firstStuck_44 : decode cX6_firstStuck 44 = .ok (.if_icmp .ne 7, 3) := by decide +kernel
theorem dX6_firstStuck_47 : decode cX6_firstStuck 47 = .ok (.iconst 1, 1) := by decide +kernel
theorem dX6_firstStuck_48 : decode cX6_firstStuck 48 = .ok (.goto 4, 3) := by decide +kernel
theorem dX6_firstStuck_51 : decode cX6_firstStuck 51 = .ok (.iconst 0, 1) := by decide +kernel
theorem dX6_firstStuck_52 : decode cX6_firstStuck 52 = .ok (.istore 5, 2) := by decide +kernel
theorem dX6_firstStuck_54 : decode cX6_firstStuck 54 = .ok (.iload 5, 2) := by decide +kernel
theorem dX6_firstStuck_56 : decode cX6_firstStuck 56 = .ok (.ifCond .eq 8, 3) := by decide +kernel
theorem dX6_firstStuck_59 : decode cX6_firstStuck 59 = .ok (.iload 4, 2) := by decide +kernel
theorem dX6_firstStuck_61 : decode cX6_firstStuck 61 = .ok (.goto 4, 3) := by decide +kernel
theorem dX6_firstStuck_64 : decode cX6_firstStuck 64 = .ok (.iload_n 3, 1) := by decide +kernel
theorem dX6_firstStuck_65 : decode cX6_firstStuck 65 = .ok (.istore_n 3, 1) := by decide +kernel
theorem dX6_firstStuck_66 : decode cX6_firstStuck 66 = .ok (.iinc 4 (-1), 3) := by decide +kernel
theorem dX6_firstStuck_69 : decode cX6_firstStuck 69 = .ok (.goto (-59), 3) := by decide +kernel
theorem dX6_firstStuck_72 : decode cX6_firstStuck 72 = .ok (.iload_n 3, 1) := by decide +kernel
theorem dX6_firstStuck_73 : decode cX6_firstStuck 73 = .ok (.ireturn, 1) := by decide +kernel
set_option maxRecDepth 20000 in
theorem ggX6_firstStuckIsland_X6_goesFrom : GoodIn wsX6_firstStuckIsland wsX6_goesFrom := goodIn_r _ [8, 9, 2, 10, 11, 12, 7, 13, 14, 15, 16, 17, 18, 19, 20, 21, 1, 3, 22, 23, 24, 25, 26, 27, 28, 29, 30, 31, 32, 33, 34, 35, 36, 37, 38, 39, 40, 41, 42, 43, 44, 45, 46, 47, 48, 49, 50, 51, 52, 53, 54, 55, 56] (by decide +kernel) (by decide +kernel)
set_option maxRecDepth 20000 in
theorem gX6_firstStuckIsland_X6_goesFrom : GoodIn wsX6_firstStuckIsland (wsV RX6 165 RX6 yX6_goesFrom wsX6_goesFrom) := goodIn_app (goodIn_of _ (by decide +kernel)) ggX6_firstStuckIsland_X6_goesFrom
theorem dX6_firstStuckIsland_0 : decode cX6_firstStuckIsland 0 = .ok (.iconst (-1), 1) := by decide +kernel
theorem dX6_firstStuckIsland_1 : decode cX6_firstStuckIsland 1 = .ok (.istore_n 1, 1) := by decide +kernel
theorem dX6_firstStuckIsland_2 : decode cX6_firstStuckIsland 2 = .ok (.aload_n 0, 1) := by decide +kernel
theorem dX6_firstStuckIsland_3 : decode cX6_firstStuckIsland 3 = .ok (.getfield 133, 3) := by decide +kernel
theorem dX6_firstStuckIsland_6 : decode cX6_firstStuckIsland 6 = .ok (.iconst 1, 1) := by decide +kernel
theorem dX6_firstStuckIsland_7 : decode cX6_firstStuckIsland 7 = .ok (.isub, 1) := by decide +kernel
theorem dX6_firstStuckIsland_8 : decode cX6_firstStuckIsland 8 = .ok (.istore_n 2, 1) := by decide +kernel
theorem dX6_firstStuckIsland_9 : decode cX6_firstStuckIsland 9 = .ok (.iload_n 2, 1) := by decide +kernel
theorem dX6_firstStuckIsland_10 : decode cX6_firstStuckIsland 10 = .ok (.ifCond .lt 35, 3) := by decide +kernel
theorem dX6_firstStuckIsland_13 : decode cX6_firstStuckIsland 13 = .ok (.aload_n 0, 1) := by decide +kernel
theorem dX6_firstStuckIsland_14 : decode cX6_firstStuckIsland 14 = .ok (.aload_n 0, 1) := by decide +kernel
theorem dX6_firstStuckIsland_15 : decode cX6_firstStuckIsland 15 = .ok (.getfield 47, 3) := by decide +kernel
theorem dX6_firstStuckIsland_18 : decode cX6_firstStuckIsland 18 = .ok (.iload_n 2, 1) := by decide +kernel
theorem dX6_firstStuckIsland_19 : decode cX6_firstStuckIsland 19 = .ok (.iaload, 1) := by decide +kernel
theorem dX6_firstStuckIsland_20 : decode cX6_firstStuckIsland 20 = .ok (.aload_n 0, 1) := by decide +kernel
theorem dX6_firstStuckIsland_21 : decode cX6_firstStuckIsland 21 = .ok (.getfield 32, 3) := by decide +kernel
theorem dX6_firstStuckIsland_24 : decode cX6_firstStuckIsland 24 = .ok (.iload_n 2, 1) := by decide +kernel
theorem dX6_firstStuckIsland_25 : decode cX6_firstStuckIsland 25 = .ok (.iaload, 1) := by decide +kernel
theorem dX6_firstStuckIsland_26 : decode cX6_firstStuckIsland 26 = .ok (.invokevirtual 165, 3) := by decide +kernel
theorem dX6_firstStuckIsland_29 : decode cX6_firstStuckIsland 29 = .ok (.iconst (-1), 1) := by decide +kernel
theorem dX6_firstStuckIsland_30 : decode cX6_firstStuckIsland 30 = .ok (.if_icmp .ne 7, 3) := by decide +kernel
theorem dX6_firstStuckIsland_33 : decode cX6_firstStuckIsland 33 = .ok (.iload_n 2, 1) := by decide +kernel
theorem dX6_firstStuckIsland_34 : decode cX6_firstStuckIsland 34 = .ok (.goto 4, 3) := by decide +kernel
theorem dX6_firstStuckIsland_37 : decode cX6_firstStuckIsland 37 = .ok (.iload_n 1, 1) := by decide +kernel
theorem dX6_firstStuckIsland_38 : decode cX6_firstStuckIsland 38 = .ok (.istore_n 1, 1) := by decide +kernel
theorem dX6_firstStuckIsland_39 : decode cX6_firstStuckIsland 39 = .ok (.iinc 2 (-1), 3) := by decide +kernel
theorem dX6_firstStuckIsland_42 : decode cX6_firstStuckIsland 42 = .ok (.goto (-33), 3) := by decide +kernel
theorem dX6_firstStuckIsland_45 : decode cX6_firstStuckIsland 45 = .ok (.iload_n 1, 1) := by decide +kernel
theorem dX6_firstStuckIsland_46 : decode cX6_firstStuckIsland 46 = .ok (.ireturn, 1) := by decide +kernel
set_option maxRecDepth 20000 in
theorem ggX6_putConstant_X6_fails : GoodIn wsX6_putConstant wsX6_fails := goodIn_r _ [14, 15, 16, 17, 18, 19, 20, 21, 22, 23, 24, 25, 26, 27, 28, 29, 30, 31, 32, 33, 34, 35, 36, 37, 38, 39, 40, 41, 42, 43, 44, 45, 46, 47, 48, 49, 50, 51] (by decide +kernel) (by decide +kernel)
set_option maxRecDepth 20000 in
theorem gX6_putConstant_X6_fails : GoodIn wsX6_putConstant (wsV RX6 177 RX6 yX6_fails wsX6_fails) := goodIn_app (goodIn_of _ (by decide +kernel)) ggX6_putConstant_X6_fails
theorem dX6_putConstant_0 : decode cX6_putConstant 0 = .ok (.iconst (-1), 1) := by decide +kernel
theorem dX6_putConstant_1 : decode cX6_putConstant 1 = .ok (.istore_n 2, 1) := by decide +kernel
theorem dX6_putConstant_2 : decode cX6_putConstant 2 = .ok (.iload_n 1, 1) := by decide +kernel
theorem dX6_putConstant_3 : decode cX6_putConstant 3 = .ok (.iconst 1, 1) := by decide +kernel
theorem dX6_putConstant_4 : decode cX6_putConstant 4 = .ok (.iadd, 1) := by decide +kernel
theorem dX6_putConstant_5 : decode cX6_putConstant 5 = .ok (.istore_n 3, 1) := by decide +kernel
theorem dX6_putConstant_6 : decode cX6_putConstant 6 = .ok (.iload_n 3, 1) := by decide +kernel
theorem dX6_putConstant_7 : decode cX6_putConstant 7 = .ok (.aload_n 0, 1) := by decide +kernel
theorem dX6_putConstant_8 : decode cX6_putConstant 8 = .ok (.getfield 114, 3) := by decide +kernel
theorem dX6_putConstant_11 : decode cX6_putConstant 11 = .ok (.if_icmp .ge 47, 3) := by decide +kernel
theorem dX6_putConstant_14 : decode cX6_putConstant 14 = .ok (.aload_n 0, 1) := by decide +kernel
theorem dX6_putConstant_15 : decode cX6_putConstant 15 = .ok (.getfield 13, 3) := by decide +kernel
theorem dX6_putConstant_18 : decode cX6_putConstant 18 = .ok (.iload_n 3, 1) := by decide +kernel
theorem dX6_putConstant_19 : decode cX6_putConstant 19 = .ok (.iaload, 1) := by decide +kernel
theorem dX6_putConstant_20 : decode cX6_putConstant 20 = .ok (.iconst 5, 1) := by decide +kernel
theorem dX6_putConstant_21 : decode cX6_putConstant 21 = .ok (.if_icmp .ne 29, 3) := by decide +kernel
theorem dX6_putConstant_24 : decode cX6_putConstant 24 = .ok (.aload_n 0, 1) := by decide +kernel
theorem dX6_putConstant_25 : decode cX6_putConstant 25 = .ok (.getfield 56, 3) := by decide +kernel
theorem dX6_putConstant_28 : decode cX6_putConstant 28 = .ok (.iload_n 3, 1) := by decide +kernel
theorem dX6_putConstant_29 : decode cX6_putConstant 29 = .ok (.iaload, 1) := by decide +kernel
theorem dX6_putConstant_30 : decode cX6_putConstant 30 = .ok (.aload_n 0, 1) := by decide +kernel
theorem dX6_putConstant_31 : decode cX6_putConstant 31 = .ok (.getfield 44, 3) := by decide +kernel
theorem dX6_putConstant_34 : decode cX6_putConstant 34 = .ok (.iload_n 1, 1) := by decide +kernel
theorem dX6_putConstant_35 : decode cX6_putConstant 35 = .ok (.iaload, 1) := by decide +kernel
theorem dX6_putConstant_36 : decode cX6_putConstant 36 = .ok (.isub, 1) := by decide +kernel
theorem dX6_putConstant_37 : decode cX6_putConstant 37 = .ok (.aload_n 0, 1) := by decide +kernel
theorem dX6_putConstant_38 : decode cX6_putConstant 38 = .ok (.getfield 19, 3) := by decide +kernel
theorem dX6_putConstant_41 : decode cX6_putConstant 41 = .ok (.iconst 2, 1) := by decide +kernel
theorem dX6_putConstant_42 : decode cX6_putConstant 42 = .ok (.iaload, 1) := by decide +kernel
theorem dX6_putConstant_43 : decode cX6_putConstant 43 = .ok (.if_icmp .gt 7, 3) := by decide +kernel
theorem dX6_putConstant_46 : decode cX6_putConstant 46 = .ok (.iload_n 3, 1) := by decide +kernel
theorem dX6_putConstant_47 : decode cX6_putConstant 47 = .ok (.goto 4, 3) := by decide +kernel
theorem dX6_putConstant_50 : decode cX6_putConstant 50 = .ok (.iload_n 2, 1) := by decide +kernel
theorem dX6_putConstant_51 : decode cX6_putConstant 51 = .ok (.istore_n 2, 1) := by decide +kernel
theorem dX6_putConstant_52 : decode cX6_putConstant 52 = .ok (.iinc 3 1, 3) := by decide +kernel
theorem dX6_putConstant_55 : decode cX6_putConstant 55 = .ok (.goto (-49), 3) := by decide +kernel
theorem dX6_putConstant_58 : decode cX6_putConstant 58 = .ok (.iload_n 2, 1) := by decide +kernel
theorem dX6_putConstant_59 : decode cX6_putConstant 59 = .ok (.iconst (-1), 1) := by decide +kernel
theorem dX6_putConstant_60 : decode cX6_putConstant 60 = .ok (.if_icmp .eq 12, 3) := by decide +kernel
theorem dX6_putConstant_63 : decode cX6_putConstant 63 = .ok (.aload_n 0, 1) := by decide +kernel
theorem dX6_putConstant_64 : decode cX6_putConstant 64 = .ok (.getfield 136, 3) := by decide +kernel
theorem dX6_putConstant_67 : decode cX6_putConstant 67 = .ok (.bipush 16, 2) := by decide +kernel
theorem dX6_putConstant_69 : decode cX6_putConstant 69 = .ok (.if_icmp .ne 10, 3) := by decide +kernel
theorem dX6_putConstant_72 : decode cX6_putConstant 72 = .ok (.aload_n 0, 1) := by decide +kernel
theorem dX6_putConstant_73 : decode cX6_putConstant 73 = .ok (.iconst 1, 1) := by decide +kernel
theorem dX6_putConstant_74 : decode cX6_putConstant 74 = .ok (.iload_n 1, 1) := by decide +kernel
theorem dX6_putConstant_75 : decode cX6_putConstant 75 = .ok (.invokevirtual 177, 3) := by decide +kernel
theorem dX6_putConstant_78 : decode cX6_putConstant 78 = .ok (.ireturn, 1) := by decide +kernel
theorem dX6_putConstant_79 : decode cX6_putConstant 79 = .ok (.aload_n 0, 1) := by decide +kernel
theorem dX6_putConstant_80 : decode cX6_putConstant 80 = .ok (.getfield 38, 3) := by decide +kernel
theorem dX6_putConstant_83 : decode cX6_putConstant 83 = .ok (.aload_n 0, 1) := by decide +kernel
theorem dX6_putConstant_84 : decode cX6_putConstant 84 = .ok (.getfield 136, 3) := by decide +kernel
theorem dX6_putConstant_87 : decode cX6_putConstant 87 = .ok (.aload_n 0, 1) := by decide +kernel
theorem dX6_putConstant_88 : decode cX6_putConstant 88 = .ok (.getfield 16, 3) := by decide +kernel
theorem dX6_putConstant_91 : decode cX6_putConstant 91 = .ok (.iload_n 1, 1) := by decide +kernel
theorem dX6_putConstant_92 : decode cX6_putConstant 92 = .ok (.iaload, 1) := by decide +kernel
theorem dX6_putConstant_93 : decode cX6_putConstant 93 = .ok (.iastore, 1) := by decide +kernel
theorem dX6_putConstant_94 : decode cX6_putConstant 94 = .ok (.aload_n 0, 1) := by decide +kernel
theorem dX6_putConstant_95 : decode cX6_putConstant 95 = .ok (.getfield 41, 3) := by decide +kernel
theorem dX6_putConstant_98 : decode cX6_putConstant 98 = .ok (.aload_n 0, 1) := by decide +kernel
theorem dX6_putConstant_99 : decode cX6_putConstant 99 = .ok (.getfield 136, 3) := by decide +kernel
theorem dX6_putConstant_102 : decode cX6_putConstant 102 = .ok (.iload_n 2, 1) := by decide +kernel
theorem dX6_putConstant_103 : decode cX6_putConstant 103 = .ok (.iastore, 1) := by decide +kernel
theorem dX6_putConstant_104 : decode cX6_putConstant 104 = .ok (.aload_n 0, 1) := by decide +kernel
theorem dX6_putConstant_105 : decode cX6_putConstant 105 = .ok (.dup, 1) := by decide +kernel
theorem dX6_putConstant_106 : decode cX6_putConstant 106 = .ok (.getfield 136, 3) := by decide +kernel
theorem dX6_putConstant_109 : decode cX6_putConstant 109 = .ok (.iconst 1, 1) := by decide +kernel
theorem dX6_putConstant_110 : decode cX6_putConstant 110 = .ok (.iadd, 1) := by decide +kernel
theorem dX6_putConstant_111 : decode cX6_putConstant 111 = .ok (.putfield 136, 3) := by decide +kernel
theorem dX6_putConstant_114 : decode cX6_putConstant 114 = .ok (.iconst 1, 1) := by decide +kernel
theorem dX6_putConstant_115 : decode cX6_putConstant 115 = .ok (.ireturn, 1) := by decide +kernel
set_option maxRecDepth 20000 in
theorem ggX6_gapFor_X6_apart : GoodIn wsX6_gapFor wsX6_apart := goodIn_r _ [9] (by decide +kernel) (by decide +kernel)
set_option maxRecDepth 20000 in
theorem gX6_gapFor_X6_apart : GoodIn wsX6_gapFor (va_wsS RX6 151 yX6_apart wsX6_apart) := goodIn_app (goodIn_of _ (by decide +kernel)) ggX6_gapFor_X6_apart
theorem dX6_gapFor_0 : decode cX6_gapFor 0 = .ok (.iconst (-1), 1) := by decide +kernel
theorem dX6_gapFor_1 : decode cX6_gapFor 1 = .ok (.istore_n 3, 1) := by decide +kernel
theorem dX6_gapFor_2 : decode cX6_gapFor 2 = .ok (.iload_n 1, 1) := by decide +kernel
theorem dX6_gapFor_3 : decode cX6_gapFor 3 = .ok (.aload_n 0, 1) := by decide +kernel
theorem dX6_gapFor_4 : decode cX6_gapFor 4 = .ok (.getfield 59, 3) := by decide +kernel
theorem dX6_gapFor_7 : decode cX6_gapFor 7 = .ok (.iload_n 2, 1) := by decide +kernel
theorem dX6_gapFor_8 : decode cX6_gapFor 8 = .ok (.iaload, 1) := by decide +kernel
theorem dX6_gapFor_9 : decode cX6_gapFor 9 = .ok (.invokestatic 151, 3) := by decide +kernel
theorem dX6_gapFor_12 : decode cX6_gapFor 12 = .ok (.istore 4, 2) := by decide +kernel
theorem dX6_gapFor_14 : decode cX6_gapFor 14 = .ok (.iconst 0, 1) := by decide +kernel
theorem dX6_gapFor_15 : decode cX6_gapFor 15 = .ok (.istore 5, 2) := by decide +kernel
theorem dX6_gapFor_17 : decode cX6_gapFor 17 = .ok (.iload 5, 2) := by decide +kernel
theorem dX6_gapFor_19 : decode cX6_gapFor 19 = .ok (.aload_n 0, 1) := by decide +kernel
theorem dX6_gapFor_20 : decode cX6_gapFor 20 = .ok (.getfield 114, 3) := by decide +kernel
theorem dX6_gapFor_23 : decode cX6_gapFor 23 = .ok (.if_icmp .ge 82, 3) := by decide +kernel
theorem dX6_gapFor_26 : decode cX6_gapFor 26 = .ok (.aload_n 0, 1) := by decide +kernel
theorem dX6_gapFor_27 : decode cX6_gapFor 27 = .ok (.getfield 13, 3) := by decide +kernel
theorem dX6_gapFor_30 : decode cX6_gapFor 30 = .ok (.iload 5, 2) := by decide +kernel
theorem dX6_gapFor_32 : decode cX6_gapFor 32 = .ok (.iaload, 1) := by decide +kernel
theorem dX6_gapFor_33 : decode cX6_gapFor 33 = .ok (.iconst 5, 1) := by decide +kernel
