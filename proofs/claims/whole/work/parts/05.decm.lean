theorem dX4_init_0 : decode cX4_init 0 = .ok (.aload_n 0, 1) := by decide +kernel
theorem dX4_init_1 : decode cX4_init 1 = .ok (.invokespecial 1, 3) := by decide +kernel
theorem dX4_init_4 : decode cX4_init 4 = .ok (.aload_n 0, 1) := by decide +kernel
theorem dX4_init_5 : decode cX4_init 5 = .ok (.iconst 5, 1) := by decide +kernel
theorem dX4_init_6 : decode cX4_init 6 = .ok (.newarray .int, 2) := by decide +kernel
theorem dX4_init_8 : decode cX4_init 8 = .ok (.putfield 7, 3) := by decide +kernel
theorem dX4_init_11 : decode cX4_init 11 = .ok (.aload_n 0, 1) := by decide +kernel
theorem dX4_init_12 : decode cX4_init 12 = .ok (.bipush 6, 2) := by decide +kernel
theorem dX4_init_14 : decode cX4_init 14 = .ok (.newarray .int, 2) := by decide +kernel
theorem dX4_init_16 : decode cX4_init 16 = .ok (.putfield 13, 3) := by decide +kernel
theorem dX4_init_19 : decode cX4_init 19 = .ok (.aload_n 0, 1) := by decide +kernel
theorem dX4_init_20 : decode cX4_init 20 = .ok (.sipush 200, 3) := by decide +kernel
theorem dX4_init_23 : decode cX4_init 23 = .ok (.newarray .int, 2) := by decide +kernel
theorem dX4_init_25 : decode cX4_init 25 = .ok (.putfield 16, 3) := by decide +kernel
theorem dX4_init_28 : decode cX4_init 28 = .ok (.aload_n 0, 1) := by decide +kernel
theorem dX4_init_29 : decode cX4_init 29 = .ok (.sipush 200, 3) := by decide +kernel
theorem dX4_init_32 : decode cX4_init 32 = .ok (.newarray .int, 2) := by decide +kernel
theorem dX4_init_34 : decode cX4_init 34 = .ok (.putfield 19, 3) := by decide +kernel
theorem dX4_init_37 : decode cX4_init 37 = .ok (.aload_n 0, 1) := by decide +kernel
theorem dX4_init_38 : decode cX4_init 38 = .ok (.sipush 200, 3) := by decide +kernel
theorem dX4_init_41 : decode cX4_init 41 = .ok (.newarray .int, 2) := by decide +kernel
theorem dX4_init_43 : decode cX4_init 43 = .ok (.putfield 22, 3) := by decide +kernel
theorem dX4_init_46 : decode cX4_init 46 = .ok (.aload_n 0, 1) := by decide +kernel
theorem dX4_init_47 : decode cX4_init 47 = .ok (.sipush 200, 3) := by decide +kernel
theorem dX4_init_50 : decode cX4_init 50 = .ok (.newarray .int, 2) := by decide +kernel
theorem dX4_init_52 : decode cX4_init 52 = .ok (.putfield 25, 3) := by decide +kernel
theorem dX4_init_55 : decode cX4_init 55 = .ok (.aload_n 0, 1) := by decide +kernel
theorem dX4_init_56 : decode cX4_init 56 = .ok (.sipush 200, 3) := by decide +kernel
theorem dX4_init_59 : decode cX4_init 59 = .ok (.newarray .int, 2) := by decide +kernel
theorem dX4_init_61 : decode cX4_init 61 = .ok (.putfield 28, 3) := by decide +kernel
theorem dX4_init_64 : decode cX4_init 64 = .ok (.aload_n 0, 1) := by decide +kernel
theorem dX4_init_65 : decode cX4_init 65 = .ok (.bipush 40, 2) := by decide +kernel
theorem dX4_init_67 : decode cX4_init 67 = .ok (.newarray .int, 2) := by decide +kernel
theorem dX4_init_69 : decode cX4_init 69 = .ok (.putfield 31, 3) := by decide +kernel
theorem dX4_init_72 : decode cX4_init 72 = .ok (.aload_n 0, 1) := by decide +kernel
theorem dX4_init_73 : decode cX4_init 73 = .ok (.bipush 40, 2) := by decide +kernel
theorem dX4_init_75 : decode cX4_init 75 = .ok (.newarray .int, 2) := by decide +kernel
theorem dX4_init_77 : decode cX4_init 77 = .ok (.putfield 34, 3) := by decide +kernel
theorem dX4_init_80 : decode cX4_init 80 = .ok (.aload_n 0, 1) := by decide +kernel
theorem dX4_init_81 : decode cX4_init 81 = .ok (.bipush 40, 2) := by decide +kernel
theorem dX4_init_83 : decode cX4_init 83 = .ok (.newarray .int, 2) := by decide +kernel
theorem dX4_init_85 : decode cX4_init 85 = .ok (.putfield 37, 3) := by decide +kernel
theorem dX4_init_88 : decode cX4_init 88 = .ok (.aload_n 0, 1) := by decide +kernel
theorem dX4_init_89 : decode cX4_init 89 = .ok (.sipush 200, 3) := by decide +kernel
theorem dX4_init_92 : decode cX4_init 92 = .ok (.newarray .int, 2) := by decide +kernel
theorem dX4_init_94 : decode cX4_init 94 = .ok (.putfield 40, 3) := by decide +kernel
theorem dX4_init_97 : decode cX4_init 97 = .ok (.aload_n 0, 1) := by decide +kernel
theorem dX4_init_98 : decode cX4_init 98 = .ok (.sipush 200, 3) := by decide +kernel
theorem dX4_init_101 : decode cX4_init 101 = .ok (.newarray .int, 2) := by decide +kernel
theorem dX4_init_103 : decode cX4_init 103 = .ok (.putfield 43, 3) := by decide +kernel
theorem dX4_init_106 : decode cX4_init 106 = .ok (.aload_n 0, 1) := by decide +kernel
theorem dX4_init_107 : decode cX4_init 107 = .ok (.sipush 200, 3) := by decide +kernel
theorem dX4_init_110 : decode cX4_init 110 = .ok (.newarray .int, 2) := by decide +kernel
theorem dX4_init_112 : decode cX4_init 112 = .ok (.putfield 46, 3) := by decide +kernel
theorem dX4_init_115 : decode cX4_init 115 = .ok (.aload_n 0, 1) := by decide +kernel
theorem dX4_init_116 : decode cX4_init 116 = .ok (.sipush 600, 3) := by decide +kernel
theorem dX4_init_119 : decode cX4_init 119 = .ok (.newarray .int, 2) := by decide +kernel
theorem dX4_init_121 : decode cX4_init 121 = .ok (.putfield 49, 3) := by decide +kernel
theorem dX4_init_124 : decode cX4_init 124 = .ok (.aload_n 0, 1) := by decide +kernel
theorem dX4_init_125 : decode cX4_init 125 = .ok (.sipush 600, 3) := by decide +kernel
theorem dX4_init_128 : decode cX4_init 128 = .ok (.newarray .int, 2) := by decide +kernel
theorem dX4_init_130 : decode cX4_init 130 = .ok (.putfield 52, 3) := by decide +kernel
theorem dX4_init_133 : decode cX4_init 133 = .ok (.iconst 0, 1) := by decide +kernel
theorem dX4_init_134 : decode cX4_init 134 = .ok (.istore_n 1, 1) := by decide +kernel
theorem dX4_init_135 : decode cX4_init 135 = .ok (.iload_n 1, 1) := by decide +kernel
theorem dX4_init_136 : decode cX4_init 136 = .ok (.iconst 5, 1) := by decide +kernel
theorem dX4_init_137 : decode cX4_init 137 = .ok (.if_icmp .ge 16, 3) := by decide +kernel
theorem dX4_init_140 : decode cX4_init 140 = .ok (.aload_n 0, 1) := by decide +kernel
theorem dX4_init_141 : decode cX4_init 141 = .ok (.getfield 7, 3) := by decide +kernel
theorem dX4_init_144 : decode cX4_init 144 = .ok (.iload_n 1, 1) := by decide +kernel
theorem dX4_init_145 : decode cX4_init 145 = .ok (.iconst 1, 1) := by decide +kernel
theorem dX4_init_146 : decode cX4_init 146 = .ok (.iastore, 1) := by decide +kernel
theorem dX4_init_147 : decode cX4_init 147 = .ok (.iinc 1 1, 3) := by decide +kernel
theorem dX4_init_150 : decode cX4_init 150 = .ok (.goto (-15), 3) := by decide +kernel
theorem dX4_init_153 : decode cX4_init 153 = .ok (.iconst 0, 1) := by decide +kernel
theorem dX4_init_154 : decode cX4_init 154 = .ok (.istore_n 1, 1) := by decide +kernel
theorem dX4_init_155 : decode cX4_init 155 = .ok (.iload_n 1, 1) := by decide +kernel
theorem dX4_init_156 : decode cX4_init 156 = .ok (.bipush 6, 2) := by decide +kernel
theorem dX4_init_158 : decode cX4_init 158 = .ok (.if_icmp .ge 17, 3) := by decide +kernel
theorem dX4_init_161 : decode cX4_init 161 = .ok (.aload_n 0, 1) := by decide +kernel
theorem dX4_init_162 : decode cX4_init 162 = .ok (.getfield 13, 3) := by decide +kernel
theorem dX4_init_165 : decode cX4_init 165 = .ok (.iload_n 1, 1) := by decide +kernel
theorem dX4_init_166 : decode cX4_init 166 = .ok (.bipush 100, 2) := by decide +kernel
theorem dX4_init_168 : decode cX4_init 168 = .ok (.iastore, 1) := by decide +kernel
theorem dX4_init_169 : decode cX4_init 169 = .ok (.iinc 1 1, 3) := by decide +kernel
theorem dX4_init_172 : decode cX4_init 172 = .ok (.goto (-17), 3) := by decide +kernel
theorem dX4_init_175 : decode cX4_init 175 = .ok (.return_, 1) := by decide +kernel
theorem dX4_thrown_0 : decode cX4_thrown 0 = .ok (.aload_n 0, 1) := by decide +kernel
theorem dX4_thrown_1 : decode cX4_thrown 1 = .ok (.getfield 55, 3) := by decide +kernel
theorem dX4_thrown_4 : decode cX4_thrown 4 = .ok (.ireturn, 1) := by decide +kernel
theorem dX4_in_0 : decode cX4_in 0 = .ok (.iload_n 0, 1) := by decide +kernel
theorem dX4_in_1 : decode cX4_in 1 = .ok (.iload_n 1, 1) := by decide +kernel
theorem dX4_in_2 : decode cX4_in 2 = .ok (.if_icmp .lt 12, 3) := by decide +kernel
theorem dX4_in_5 : decode cX4_in 5 = .ok (.iload_n 0, 1) := by decide +kernel
theorem dX4_in_6 : decode cX4_in 6 = .ok (.iload_n 2, 1) := by decide +kernel
theorem dX4_in_7 : decode cX4_in 7 = .ok (.if_icmp .gt 7, 3) := by decide +kernel
theorem dX4_in_10 : decode cX4_in 10 = .ok (.iconst 1, 1) := by decide +kernel
theorem dX4_in_11 : decode cX4_in 11 = .ok (.goto 4, 3) := by decide +kernel
theorem dX4_in_14 : decode cX4_in 14 = .ok (.iconst 0, 1) := by decide +kernel
theorem dX4_in_15 : decode cX4_in 15 = .ok (.ireturn, 1) := by decide +kernel
theorem dX4_goes_0 : decode cX4_goes 0 = .ok (.aload_n 0, 1) := by decide +kernel
theorem dX4_goes_1 : decode cX4_goes 1 = .ok (.iload_n 1, 1) := by decide +kernel
theorem dX4_goes_2 : decode cX4_goes 2 = .ok (.ifCond .ne 7, 3) := by decide +kernel
theorem dX4_goes_5 : decode cX4_goes 5 = .ok (.iconst 1, 1) := by decide +kernel
theorem dX4_goes_6 : decode cX4_goes 6 = .ok (.goto 20, 3) := by decide +kernel
theorem dX4_goes_9 : decode cX4_goes 9 = .ok (.iload_n 2, 1) := by decide +kernel
theorem dX4_goes_10 : decode cX4_goes 10 = .ok (.ifCond .ne 7, 3) := by decide +kernel
theorem dX4_goes_13 : decode cX4_goes 13 = .ok (.iconst 2, 1) := by decide +kernel
theorem dX4_goes_14 : decode cX4_goes 14 = .ok (.goto 12, 3) := by decide +kernel
theorem dX4_goes_17 : decode cX4_goes 17 = .ok (.iload_n 3, 1) := by decide +kernel
theorem dX4_goes_18 : decode cX4_goes 18 = .ok (.ifCond .ne 7, 3) := by decide +kernel
theorem dX4_goes_21 : decode cX4_goes 21 = .ok (.iconst 3, 1) := by decide +kernel
theorem dX4_goes_22 : decode cX4_goes 22 = .ok (.goto 4, 3) := by decide +kernel
theorem dX4_goes_25 : decode cX4_goes 25 = .ok (.iconst 0, 1) := by decide +kernel
theorem dX4_goes_26 : decode cX4_goes 26 = .ok (.putfield 55, 3) := by decide +kernel
theorem dX4_goes_29 : decode cX4_goes 29 = .ok (.aload_n 0, 1) := by decide +kernel
theorem dX4_goes_30 : decode cX4_goes 30 = .ok (.getfield 55, 3) := by decide +kernel
theorem dX4_goes_33 : decode cX4_goes 33 = .ok (.ifCond .ne 7, 3) := by decide +kernel
theorem dX4_goes_36 : decode cX4_goes 36 = .ok (.iconst 1, 1) := by decide +kernel
theorem dX4_goes_37 : decode cX4_goes 37 = .ok (.goto 4, 3) := by decide +kernel
theorem dX4_goes_40 : decode cX4_goes 40 = .ok (.iconst 0, 1) := by decide +kernel
theorem dX4_goes_41 : decode cX4_goes 41 = .ok (.ireturn, 1) := by decide +kernel
theorem dX4_told_0 : decode cX4_told 0 = .ok (.aload_n 0, 1) := by decide +kernel
theorem dX4_told_1 : decode cX4_told 1 = .ok (.iconst 0, 1) := by decide +kernel
theorem dX4_told_2 : decode cX4_told 2 = .ok (.putfield 55, 3) := by decide +kernel
theorem dX4_told_5 : decode cX4_told 5 = .ok (.iload_n 1, 1) := by decide +kernel
theorem dX4_told_6 : decode cX4_told 6 = .ok (.ireturn, 1) := by decide +kernel
theorem dX4_isPlace_0 : decode cX4_isPlace 0 = .ok (.iload_n 0, 1) := by decide +kernel
theorem dX4_isPlace_1 : decode cX4_isPlace 1 = .ok (.iconst 0, 1) := by decide +kernel
theorem dX4_isPlace_2 : decode cX4_isPlace 2 = .ok (.bipush 11, 2) := by decide +kernel
theorem dX4_isPlace_4 : decode cX4_isPlace 4 = .ok (.invokestatic 59, 3) := by decide +kernel
theorem dX4_isPlace_7 : decode cX4_isPlace 7 = .ok (.ireturn, 1) := by decide +kernel
theorem dX4_isArticle_0 : decode cX4_isArticle 0 = .ok (.iload_n 0, 1) := by decide +kernel
theorem dX4_isArticle_1 : decode cX4_isArticle 1 = .ok (.iconst 0, 1) := by decide +kernel
theorem dX4_isArticle_2 : decode cX4_isArticle 2 = .ok (.iconst 4, 1) := by decide +kernel
theorem dX4_isArticle_3 : decode cX4_isArticle 3 = .ok (.invokestatic 59, 3) := by decide +kernel
theorem dX4_isArticle_6 : decode cX4_isArticle 6 = .ok (.ireturn, 1) := by decide +kernel
theorem dX4_isSheet_0 : decode cX4_isSheet 0 = .ok (.iload_n 1, 1) := by decide +kernel
theorem dX4_isSheet_1 : decode cX4_isSheet 1 = .ok (.iconst 0, 1) := by decide +kernel
theorem dX4_isSheet_2 : decode cX4_isSheet 2 = .ok (.aload_n 0, 1) := by decide +kernel
theorem dX4_isSheet_3 : decode cX4_isSheet 3 = .ok (.getfield 63, 3) := by decide +kernel
theorem dX4_isSheet_6 : decode cX4_isSheet 6 = .ok (.iconst 1, 1) := by decide +kernel
theorem dX4_isSheet_7 : decode cX4_isSheet 7 = .ok (.isub, 1) := by decide +kernel
theorem dX4_isSheet_8 : decode cX4_isSheet 8 = .ok (.invokestatic 59, 3) := by decide +kernel
theorem dX4_isSheet_11 : decode cX4_isSheet 11 = .ok (.ireturn, 1) := by decide +kernel
theorem dX4_setPrice_0 : decode cX4_setPrice 0 = .ok (.aload_n 0, 1) := by decide +kernel
theorem dX4_setPrice_1 : decode cX4_setPrice 1 = .ok (.iload_n 1, 1) := by decide +kernel
theorem dX4_setPrice_2 : decode cX4_setPrice 2 = .ok (.invokestatic 66, 3) := by decide +kernel
theorem dX4_setPrice_5 : decode cX4_setPrice 5 = .ok (.iload_n 2, 1) := by decide +kernel
theorem dX4_setPrice_6 : decode cX4_setPrice 6 = .ok (.iconst 0, 1) := by decide +kernel
theorem dX4_setPrice_7 : decode cX4_setPrice 7 = .ok (.sipush 1000, 3) := by decide +kernel
theorem dX4_setPrice_10 : decode cX4_setPrice 10 = .ok (.invokestatic 59, 3) := by decide +kernel
theorem dX4_setPrice_13 : decode cX4_setPrice 13 = .ok (.iconst 1, 1) := by decide +kernel
theorem dX4_setPrice_14 : decode cX4_setPrice 14 = .ok (.invokevirtual 70, 3) := by decide +kernel
theorem dX4_setPrice_17 : decode cX4_setPrice 17 = .ok (.ifCond .ne 5, 3) := by decide +kernel
theorem dX4_setPrice_20 : decode cX4_setPrice 20 = .ok (.iconst 0, 1) := by decide +kernel
theorem dX4_setPrice_21 : decode cX4_setPrice 21 = .ok (.ireturn, 1) := by decide +kernel
theorem dX4_setPrice_22 : decode cX4_setPrice 22 = .ok (.aload_n 0, 1) := by decide +kernel
theorem dX4_setPrice_23 : decode cX4_setPrice 23 = .ok (.getfield 7, 3) := by decide +kernel
theorem dX4_setPrice_26 : decode cX4_setPrice 26 = .ok (.iload_n 1, 1) := by decide +kernel
theorem dX4_setPrice_27 : decode cX4_setPrice 27 = .ok (.iaload, 1) := by decide +kernel
theorem dX4_setPrice_28 : decode cX4_setPrice 28 = .ok (.istore_n 3, 1) := by decide +kernel
theorem dX4_setPrice_29 : decode cX4_setPrice 29 = .ok (.aload_n 0, 1) := by decide +kernel
theorem dX4_setPrice_30 : decode cX4_setPrice 30 = .ok (.getfield 7, 3) := by decide +kernel
theorem dX4_setPrice_33 : decode cX4_setPrice 33 = .ok (.iload_n 1, 1) := by decide +kernel
theorem dX4_setPrice_34 : decode cX4_setPrice 34 = .ok (.iload_n 2, 1) := by decide +kernel
theorem dX4_setPrice_35 : decode cX4_setPrice 35 = .ok (.iastore, 1) := by decide +kernel
theorem dX4_setPrice_36 : decode cX4_setPrice 36 = .ok (.iload_n 3, 1) := by decide +kernel
theorem dX4_setPrice_37 : decode cX4_setPrice 37 = .ok (.ireturn, 1) := by decide +kernel
theorem dX4_setBound_0 : decode cX4_setBound 0 = .ok (.aload_n 0, 1) := by decide +kernel
theorem dX4_setBound_1 : decode cX4_setBound 1 = .ok (.iload_n 1, 1) := by decide +kernel
theorem dX4_setBound_2 : decode cX4_setBound 2 = .ok (.iconst 0, 1) := by decide +kernel
theorem dX4_setBound_3 : decode cX4_setBound 3 = .ok (.iconst 5, 1) := by decide +kernel
theorem dX4_setBound_4 : decode cX4_setBound 4 = .ok (.invokestatic 59, 3) := by decide +kernel
theorem dX4_setBound_7 : decode cX4_setBound 7 = .ok (.iload_n 2, 1) := by decide +kernel
theorem dX4_setBound_8 : decode cX4_setBound 8 = .ok (.iconst 0, 1) := by decide +kernel
theorem dX4_setBound_9 : decode cX4_setBound 9 = .ok (.ldc 74, 2) := by decide +kernel
theorem dX4_setBound_11 : decode cX4_setBound 11 = .ok (.invokestatic 59, 3) := by decide +kernel
theorem dX4_setBound_14 : decode cX4_setBound 14 = .ok (.iconst 1, 1) := by decide +kernel
theorem dX4_setBound_15 : decode cX4_setBound 15 = .ok (.invokevirtual 70, 3) := by decide +kernel
theorem dX4_setBound_18 : decode cX4_setBound 18 = .ok (.ifCond .ne 5, 3) := by decide +kernel
theorem dX4_setBound_21 : decode cX4_setBound 21 = .ok (.iconst 0, 1) := by decide +kernel
theorem dX4_setBound_22 : decode cX4_setBound 22 = .ok (.ireturn, 1) := by decide +kernel
theorem dX4_setBound_23 : decode cX4_setBound 23 = .ok (.aload_n 0, 1) := by decide +kernel
theorem dX4_setBound_24 : decode cX4_setBound 24 = .ok (.getfield 13, 3) := by decide +kernel
theorem dX4_setBound_27 : decode cX4_setBound 27 = .ok (.iload_n 1, 1) := by decide +kernel
theorem dX4_setBound_28 : decode cX4_setBound 28 = .ok (.iaload, 1) := by decide +kernel
theorem dX4_setBound_29 : decode cX4_setBound 29 = .ok (.istore_n 3, 1) := by decide +kernel
theorem dX4_setBound_30 : decode cX4_setBound 30 = .ok (.aload_n 0, 1) := by decide +kernel
theorem dX4_setBound_31 : decode cX4_setBound 31 = .ok (.getfield 13, 3) := by decide +kernel
theorem dX4_setBound_34 : decode cX4_setBound 34 = .ok (.iload_n 1, 1) := by decide +kernel
theorem dX4_setBound_35 : decode cX4_setBound 35 = .ok (.iload_n 2, 1) := by decide +kernel
theorem dX4_setBound_36 : decode cX4_setBound 36 = .ok (.iastore, 1) := by decide +kernel
theorem dX4_setBound_37 : decode cX4_setBound 37 = .ok (.iload_n 3, 1) := by decide +kernel
theorem dX4_setBound_38 : decode cX4_setBound 38 = .ok (.ireturn, 1) := by decide +kernel
theorem dX4_move_0 : decode cX4_move 0 = .ok (.iload_n 1, 1) := by decide +kernel
theorem dX4_move_1 : decode cX4_move 1 = .ok (.iconst (-1), 1) := by decide +kernel
theorem dX4_move_2 : decode cX4_move 2 = .ok (.bipush 11, 2) := by decide +kernel
theorem dX4_move_4 : decode cX4_move 4 = .ok (.invokestatic 59, 3) := by decide +kernel
theorem dX4_move_7 : decode cX4_move 7 = .ok (.ifCond .eq 24, 3) := by decide +kernel
theorem dX4_move_10 : decode cX4_move 10 = .ok (.iload_n 2, 1) := by decide +kernel
theorem dX4_move_11 : decode cX4_move 11 = .ok (.iconst (-1), 1) := by decide +kernel
theorem dX4_move_12 : decode cX4_move 12 = .ok (.bipush 11, 2) := by decide +kernel
theorem dX4_move_14 : decode cX4_move 14 = .ok (.invokestatic 59, 3) := by decide +kernel
theorem dX4_move_17 : decode cX4_move 17 = .ok (.ifCond .eq 14, 3) := by decide +kernel
theorem dX4_move_20 : decode cX4_move 20 = .ok (.iload_n 3, 1) := by decide +kernel
theorem dX4_move_21 : decode cX4_move 21 = .ok (.invokestatic 66, 3) := by decide +kernel
theorem dX4_move_24 : decode cX4_move 24 = .ok (.ifCond .eq 7, 3) := by decide +kernel
theorem dX4_move_27 : decode cX4_move 27 = .ok (.iconst 1, 1) := by decide +kernel
theorem dX4_move_28 : decode cX4_move 28 = .ok (.goto 4, 3) := by decide +kernel
theorem dX4_move_31 : decode cX4_move 31 = .ok (.iconst 0, 1) := by decide +kernel
theorem dX4_move_32 : decode cX4_move 32 = .ok (.istore 6, 2) := by decide +kernel
theorem dX4_move_34 : decode cX4_move 34 = .ok (.aload_n 0, 1) := by decide +kernel
theorem dX4_move_35 : decode cX4_move 35 = .ok (.iload 6, 2) := by decide +kernel
theorem dX4_move_37 : decode cX4_move 37 = .ok (.iload_n 1, 1) := by decide +kernel
theorem dX4_move_38 : decode cX4_move 38 = .ok (.iload_n 2, 1) := by decide +kernel
theorem dX4_move_39 : decode cX4_move 39 = .ok (.if_icmp .eq 32, 3) := by decide +kernel
theorem dX4_move_42 : decode cX4_move 42 = .ok (.iload 4, 2) := by decide +kernel
theorem dX4_move_44 : decode cX4_move 44 = .ok (.iconst 1, 1) := by decide +kernel
theorem dX4_move_45 : decode cX4_move 45 = .ok (.sipush 1000, 3) := by decide +kernel
theorem dX4_move_48 : decode cX4_move 48 = .ok (.invokestatic 59, 3) := by decide +kernel
theorem dX4_move_51 : decode cX4_move 51 = .ok (.ifCond .eq 20, 3) := by decide +kernel
theorem dX4_move_54 : decode cX4_move 54 = .ok (.iload 5, 2) := by decide +kernel
theorem dX4_move_56 : decode cX4_move 56 = .ok (.iconst 0, 1) := by decide +kernel
theorem dX4_move_57 : decode cX4_move 57 = .ok (.aload_n 0, 1) := by decide +kernel
theorem dX4_move_58 : decode cX4_move 58 = .ok (.getfield 75, 3) := by decide +kernel
theorem dX4_move_61 : decode cX4_move 61 = .ok (.invokestatic 59, 3) := by decide +kernel
theorem dX4_move_64 : decode cX4_move 64 = .ok (.ifCond .eq 7, 3) := by decide +kernel
theorem dX4_move_67 : decode cX4_move 67 = .ok (.iconst 1, 1) := by decide +kernel
theorem dX4_move_68 : decode cX4_move 68 = .ok (.goto 4, 3) := by decide +kernel
theorem dX4_move_71 : decode cX4_move 71 = .ok (.iconst 0, 1) := by decide +kernel
theorem dX4_move_72 : decode cX4_move 72 = .ok (.aload_n 0, 1) := by decide +kernel
theorem dX4_move_73 : decode cX4_move 73 = .ok (.getfield 78, 3) := by decide +kernel
theorem dX4_move_76 : decode cX4_move 76 = .ok (.sipush 200, 3) := by decide +kernel
theorem dX4_move_79 : decode cX4_move 79 = .ok (.if_icmp .ge 7, 3) := by decide +kernel
theorem dX4_move_82 : decode cX4_move 82 = .ok (.iconst 1, 1) := by decide +kernel
theorem dX4_move_83 : decode cX4_move 83 = .ok (.goto 4, 3) := by decide +kernel
theorem dX4_move_86 : decode cX4_move 86 = .ok (.iconst 0, 1) := by decide +kernel
theorem dX4_move_87 : decode cX4_move 87 = .ok (.invokevirtual 70, 3) := by decide +kernel
theorem dX4_move_90 : decode cX4_move 90 = .ok (.ifCond .ne 5, 3) := by decide +kernel
theorem dX4_move_93 : decode cX4_move 93 = .ok (.iconst 0, 1) := by decide +kernel
theorem dX4_move_94 : decode cX4_move 94 = .ok (.ireturn, 1) := by decide +kernel
theorem dX4_move_95 : decode cX4_move 95 = .ok (.aload_n 0, 1) := by decide +kernel
theorem dX4_move_96 : decode cX4_move 96 = .ok (.getfield 16, 3) := by decide +kernel
theorem dX4_move_99 : decode cX4_move 99 = .ok (.aload_n 0, 1) := by decide +kernel
theorem dX4_move_100 : decode cX4_move 100 = .ok (.getfield 78, 3) := by decide +kernel
theorem dX4_move_103 : decode cX4_move 103 = .ok (.iload_n 1, 1) := by decide +kernel
theorem dX4_move_104 : decode cX4_move 104 = .ok (.iastore, 1) := by decide +kernel
theorem dX4_move_105 : decode cX4_move 105 = .ok (.aload_n 0, 1) := by decide +kernel
theorem dX4_move_106 : decode cX4_move 106 = .ok (.getfield 19, 3) := by decide +kernel
theorem dX4_move_109 : decode cX4_move 109 = .ok (.aload_n 0, 1) := by decide +kernel
theorem dX4_move_110 : decode cX4_move 110 = .ok (.getfield 78, 3) := by decide +kernel
theorem dX4_move_113 : decode cX4_move 113 = .ok (.iload_n 2, 1) := by decide +kernel
theorem dX4_move_114 : decode cX4_move 114 = .ok (.iastore, 1) := by decide +kernel
theorem dX4_move_115 : decode cX4_move 115 = .ok (.aload_n 0, 1) := by decide +kernel
theorem dX4_move_116 : decode cX4_move 116 = .ok (.getfield 22, 3) := by decide +kernel
theorem dX4_move_119 : decode cX4_move 119 = .ok (.aload_n 0, 1) := by decide +kernel
theorem dX4_move_120 : decode cX4_move 120 = .ok (.getfield 78, 3) := by decide +kernel
theorem dX4_move_123 : decode cX4_move 123 = .ok (.iload_n 3, 1) := by decide +kernel
theorem dX4_move_124 : decode cX4_move 124 = .ok (.iastore, 1) := by decide +kernel
theorem dX4_move_125 : decode cX4_move 125 = .ok (.aload_n 0, 1) := by decide +kernel
theorem dX4_move_126 : decode cX4_move 126 = .ok (.getfield 25, 3) := by decide +kernel
theorem dX4_move_129 : decode cX4_move 129 = .ok (.aload_n 0, 1) := by decide +kernel
theorem dX4_move_130 : decode cX4_move 130 = .ok (.getfield 78, 3) := by decide +kernel
theorem dX4_move_133 : decode cX4_move 133 = .ok (.iload 4, 2) := by decide +kernel
theorem dX4_move_135 : decode cX4_move 135 = .ok (.iastore, 1) := by decide +kernel
theorem dX4_move_136 : decode cX4_move 136 = .ok (.aload_n 0, 1) := by decide +kernel
theorem dX4_move_137 : decode cX4_move 137 = .ok (.getfield 28, 3) := by decide +kernel
theorem dX4_move_140 : decode cX4_move 140 = .ok (.aload_n 0, 1) := by decide +kernel
theorem dX4_move_141 : decode cX4_move 141 = .ok (.getfield 78, 3) := by decide +kernel
theorem dX4_move_144 : decode cX4_move 144 = .ok (.iload 5, 2) := by decide +kernel
theorem dX4_move_146 : decode cX4_move 146 = .ok (.iastore, 1) := by decide +kernel
theorem dX4_move_147 : decode cX4_move 147 = .ok (.aload_n 0, 1) := by decide +kernel
theorem dX4_move_148 : decode cX4_move 148 = .ok (.dup, 1) := by decide +kernel
theorem dX4_move_149 : decode cX4_move 149 = .ok (.getfield 78, 3) := by decide +kernel
theorem dX4_move_152 : decode cX4_move 152 = .ok (.iconst 1, 1) := by decide +kernel
theorem dX4_move_153 : decode cX4_move 153 = .ok (.iadd, 1) := by decide +kernel
theorem dX4_move_154 : decode cX4_move 154 = .ok (.putfield 78, 3) := by decide +kernel
theorem dX4_move_157 : decode cX4_move 157 = .ok (.aload_n 0, 1) := by decide +kernel
theorem dX4_move_158 : decode cX4_move 158 = .ok (.getfield 78, 3) := by decide +kernel
theorem dX4_move_161 : decode cX4_move 161 = .ok (.iconst 1, 1) := by decide +kernel
theorem dX4_move_162 : decode cX4_move 162 = .ok (.isub, 1) := by decide +kernel
theorem dX4_move_163 : decode cX4_move 163 = .ok (.ireturn, 1) := by decide +kernel
theorem dX4_pass_0 : decode cX4_pass 0 = .ok (.aload_n 0, 1) := by decide +kernel
theorem dX4_pass_1 : decode cX4_pass 1 = .ok (.iload_n 1, 1) := by decide +kernel
theorem dX4_pass_2 : decode cX4_pass 2 = .ok (.iconst 1, 1) := by decide +kernel
theorem dX4_pass_3 : decode cX4_pass 3 = .ok (.sipush 1000, 3) := by decide +kernel
theorem dX4_pass_6 : decode cX4_pass 6 = .ok (.invokestatic 59, 3) := by decide +kernel
theorem dX4_pass_9 : decode cX4_pass 9 = .ok (.iconst 1, 1) := by decide +kernel
theorem dX4_pass_10 : decode cX4_pass 10 = .ok (.iconst 1, 1) := by decide +kernel
theorem dX4_pass_11 : decode cX4_pass 11 = .ok (.invokevirtual 70, 3) := by decide +kernel
theorem dX4_pass_14 : decode cX4_pass 14 = .ok (.ifCond .ne 5, 3) := by decide +kernel
theorem dX4_pass_17 : decode cX4_pass 17 = .ok (.iconst 0, 1) := by decide +kernel
theorem dX4_pass_18 : decode cX4_pass 18 = .ok (.ireturn, 1) := by decide +kernel
theorem dX4_pass_19 : decode cX4_pass 19 = .ok (.aload_n 0, 1) := by decide +kernel
theorem dX4_pass_20 : decode cX4_pass 20 = .ok (.dup, 1) := by decide +kernel
theorem dX4_pass_21 : decode cX4_pass 21 = .ok (.getfield 75, 3) := by decide +kernel
theorem dX4_pass_24 : decode cX4_pass 24 = .ok (.iload_n 1, 1) := by decide +kernel
theorem dX4_pass_25 : decode cX4_pass 25 = .ok (.iadd, 1) := by decide +kernel
theorem dX4_pass_26 : decode cX4_pass 26 = .ok (.putfield 75, 3) := by decide +kernel
theorem dX4_pass_29 : decode cX4_pass 29 = .ok (.aload_n 0, 1) := by decide +kernel
theorem dX4_pass_30 : decode cX4_pass 30 = .ok (.getfield 75, 3) := by decide +kernel
theorem dX4_pass_33 : decode cX4_pass 33 = .ok (.ireturn, 1) := by decide +kernel
theorem dX4_at_0 : decode cX4_at 0 = .ok (.iconst 5, 1) := by decide +kernel
theorem dX4_at_1 : decode cX4_at 1 = .ok (.iload_n 0, 1) := by decide +kernel
theorem dX4_at_2 : decode cX4_at 2 = .ok (.imul, 1) := by decide +kernel
theorem dX4_at_3 : decode cX4_at 3 = .ok (.iload_n 1, 1) := by decide +kernel
theorem dX4_at_4 : decode cX4_at 4 = .ok (.iadd, 1) := by decide +kernel
theorem dX4_at_5 : decode cX4_at 5 = .ok (.ireturn, 1) := by decide +kernel
theorem dX4_agree_0 : decode cX4_agree 0 = .ok (.aload_n 0, 1) := by decide +kernel
theorem dX4_agree_1 : decode cX4_agree 1 = .ok (.getfield 52, 3) := by decide +kernel
theorem dX4_agree_4 : decode cX4_agree 4 = .ok (.iconst 3, 1) := by decide +kernel
theorem dX4_agree_5 : decode cX4_agree 5 = .ok (.iload_n 1, 1) := by decide +kernel
theorem dX4_agree_6 : decode cX4_agree 6 = .ok (.imul, 1) := by decide +kernel
theorem dX4_agree_7 : decode cX4_agree 7 = .ok (.iaload, 1) := by decide +kernel
theorem dX4_agree_8 : decode cX4_agree 8 = .ok (.istore_n 2, 1) := by decide +kernel
theorem dX4_agree_9 : decode cX4_agree 9 = .ok (.aload_n 0, 1) := by decide +kernel
theorem dX4_agree_10 : decode cX4_agree 10 = .ok (.getfield 52, 3) := by decide +kernel
theorem dX4_agree_13 : decode cX4_agree 13 = .ok (.iconst 3, 1) := by decide +kernel
theorem dX4_agree_14 : decode cX4_agree 14 = .ok (.iload_n 1, 1) := by decide +kernel
theorem dX4_agree_15 : decode cX4_agree 15 = .ok (.imul, 1) := by decide +kernel
theorem dX4_agree_16 : decode cX4_agree 16 = .ok (.iconst 1, 1) := by decide +kernel
theorem dX4_agree_17 : decode cX4_agree 17 = .ok (.iadd, 1) := by decide +kernel
theorem dX4_agree_18 : decode cX4_agree 18 = .ok (.iaload, 1) := by decide +kernel
theorem dX4_agree_19 : decode cX4_agree 19 = .ok (.istore_n 3, 1) := by decide +kernel
theorem dX4_agree_20 : decode cX4_agree 20 = .ok (.aload_n 0, 1) := by decide +kernel
theorem dX4_agree_21 : decode cX4_agree 21 = .ok (.getfield 52, 3) := by decide +kernel
theorem dX4_agree_24 : decode cX4_agree 24 = .ok (.iconst 3, 1) := by decide +kernel
theorem dX4_agree_25 : decode cX4_agree 25 = .ok (.iload_n 1, 1) := by decide +kernel
theorem dX4_agree_26 : decode cX4_agree 26 = .ok (.imul, 1) := by decide +kernel
theorem dX4_agree_27 : decode cX4_agree 27 = .ok (.iconst 2, 1) := by decide +kernel
theorem dX4_agree_28 : decode cX4_agree 28 = .ok (.iadd, 1) := by decide +kernel
theorem dX4_agree_29 : decode cX4_agree 29 = .ok (.iaload, 1) := by decide +kernel
theorem dX4_agree_30 : decode cX4_agree 30 = .ok (.istore 4, 2) := by decide +kernel
theorem dX4_agree_32 : decode cX4_agree 32 = .ok (.aload_n 0, 1) := by decide +kernel
theorem dX4_agree_33 : decode cX4_agree 33 = .ok (.getfield 40, 3) := by decide +kernel
theorem dX4_agree_36 : decode cX4_agree 36 = .ok (.iload_n 1, 1) := by decide +kernel
theorem dX4_agree_37 : decode cX4_agree 37 = .ok (.iaload, 1) := by decide +kernel
theorem dX4_agree_38 : decode cX4_agree 38 = .ok (.iconst 2, 1) := by decide +kernel
theorem dX4_agree_39 : decode cX4_agree 39 = .ok (.if_icmp .lt 18, 3) := by decide +kernel
theorem dX4_agree_42 : decode cX4_agree 42 = .ok (.aload_n 0, 1) := by decide +kernel
theorem dX4_agree_43 : decode cX4_agree 43 = .ok (.getfield 40, 3) := by decide +kernel
theorem dX4_agree_46 : decode cX4_agree 46 = .ok (.iload_n 1, 1) := by decide +kernel
theorem dX4_agree_47 : decode cX4_agree 47 = .ok (.iaload, 1) := by decide +kernel
theorem dX4_agree_48 : decode cX4_agree 48 = .ok (.iconst 2, 1) := by decide +kernel
theorem dX4_agree_49 : decode cX4_agree 49 = .ok (.if_icmp .ne 10, 3) := by decide +kernel
theorem dX4_agree_52 : decode cX4_agree 52 = .ok (.iload_n 2, 1) := by decide +kernel
theorem dX4_agree_53 : decode cX4_agree 53 = .ok (.iload_n 3, 1) := by decide +kernel
theorem dX4_agree_54 : decode cX4_agree 54 = .ok (.if_icmp .eq 5, 3) := by decide +kernel
theorem dX4_agree_57 : decode cX4_agree 57 = .ok (.iconst (-1), 1) := by decide +kernel
theorem dX4_agree_58 : decode cX4_agree 58 = .ok (.ireturn, 1) := by decide +kernel
theorem dX4_agree_59 : decode cX4_agree 59 = .ok (.aload_n 0, 1) := by decide +kernel
theorem dX4_agree_60 : decode cX4_agree 60 = .ok (.getfield 40, 3) := by decide +kernel
theorem dX4_agree_63 : decode cX4_agree 63 = .ok (.iload_n 1, 1) := by decide +kernel
theorem dX4_agree_64 : decode cX4_agree 64 = .ok (.iaload, 1) := by decide +kernel
theorem dX4_agree_65 : decode cX4_agree 65 = .ok (.iconst 2, 1) := by decide +kernel
theorem dX4_agree_66 : decode cX4_agree 66 = .ok (.if_icmp .eq 14, 3) := by decide +kernel
theorem dX4_agree_69 : decode cX4_agree 69 = .ok (.iload_n 2, 1) := by decide +kernel
theorem dX4_agree_70 : decode cX4_agree 70 = .ok (.iload_n 3, 1) := by decide +kernel
theorem dX4_agree_71 : decode cX4_agree 71 = .ok (.if_icmp .eq 9, 3) := by decide +kernel
theorem dX4_agree_74 : decode cX4_agree 74 = .ok (.iload_n 2, 1) := by decide +kernel
theorem dX4_agree_75 : decode cX4_agree 75 = .ok (.iload 4, 2) := by decide +kernel
theorem dX4_agree_77 : decode cX4_agree 77 = .ok (.if_icmp .ne 5, 3) := by decide +kernel
theorem dX4_agree_80 : decode cX4_agree 80 = .ok (.iload_n 2, 1) := by decide +kernel
theorem dX4_agree_81 : decode cX4_agree 81 = .ok (.ireturn, 1) := by decide +kernel
theorem dX4_agree_82 : decode cX4_agree 82 = .ok (.iload_n 2, 1) := by decide +kernel
theorem dX4_agree_83 : decode cX4_agree 83 = .ok (.iload_n 3, 1) := by decide +kernel
theorem dX4_agree_84 : decode cX4_agree 84 = .ok (.if_icmp .le 7, 3) := by decide +kernel
theorem dX4_agree_87 : decode cX4_agree 87 = .ok (.iconst 1, 1) := by decide +kernel
theorem dX4_agree_88 : decode cX4_agree 88 = .ok (.goto 4, 3) := by decide +kernel
theorem dX4_agree_91 : decode cX4_agree 91 = .ok (.iconst 0, 1) := by decide +kernel
theorem dX4_agree_92 : decode cX4_agree 92 = .ok (.iload 4, 2) := by decide +kernel
theorem dX4_agree_94 : decode cX4_agree 94 = .ok (.iload_n 2, 1) := by decide +kernel
theorem dX4_agree_95 : decode cX4_agree 95 = .ok (.if_icmp .le 7, 3) := by decide +kernel
theorem dX4_agree_98 : decode cX4_agree 98 = .ok (.iconst 1, 1) := by decide +kernel
theorem dX4_agree_99 : decode cX4_agree 99 = .ok (.goto 4, 3) := by decide +kernel
theorem dX4_agree_102 : decode cX4_agree 102 = .ok (.iconst 0, 1) := by decide +kernel
theorem dX4_agree_103 : decode cX4_agree 103 = .ok (.if_icmp .ne 7, 3) := by decide +kernel
theorem dX4_agree_106 : decode cX4_agree 106 = .ok (.iconst 1, 1) := by decide +kernel
theorem dX4_agree_107 : decode cX4_agree 107 = .ok (.goto 4, 3) := by decide +kernel
theorem dX4_agree_110 : decode cX4_agree 110 = .ok (.iconst 0, 1) := by decide +kernel
theorem dX4_agree_111 : decode cX4_agree 111 = .ok (.istore 5, 2) := by decide +kernel
theorem dX4_agree_113 : decode cX4_agree 113 = .ok (.iload_n 3, 1) := by decide +kernel
theorem dX4_agree_114 : decode cX4_agree 114 = .ok (.iload_n 2, 1) := by decide +kernel
theorem dX4_agree_115 : decode cX4_agree 115 = .ok (.if_icmp .le 7, 3) := by decide +kernel
theorem dX4_agree_118 : decode cX4_agree 118 = .ok (.iconst 1, 1) := by decide +kernel
theorem dX4_agree_119 : decode cX4_agree 119 = .ok (.goto 4, 3) := by decide +kernel
theorem dX4_agree_122 : decode cX4_agree 122 = .ok (.iconst 0, 1) := by decide +kernel
theorem dX4_agree_123 : decode cX4_agree 123 = .ok (.iload 4, 2) := by decide +kernel
theorem dX4_agree_125 : decode cX4_agree 125 = .ok (.iload_n 3, 1) := by decide +kernel
theorem dX4_agree_126 : decode cX4_agree 126 = .ok (.if_icmp .le 7, 3) := by decide +kernel
theorem dX4_agree_129 : decode cX4_agree 129 = .ok (.iconst 1, 1) := by decide +kernel
theorem dX4_agree_130 : decode cX4_agree 130 = .ok (.goto 4, 3) := by decide +kernel
theorem dX4_agree_133 : decode cX4_agree 133 = .ok (.iconst 0, 1) := by decide +kernel
theorem dX4_agree_134 : decode cX4_agree 134 = .ok (.if_icmp .ne 7, 3) := by decide +kernel
theorem dX4_agree_137 : decode cX4_agree 137 = .ok (.iconst 1, 1) := by decide +kernel
theorem dX4_agree_138 : decode cX4_agree 138 = .ok (.goto 4, 3) := by decide +kernel
theorem dX4_agree_141 : decode cX4_agree 141 = .ok (.iconst 0, 1) := by decide +kernel
theorem dX4_agree_142 : decode cX4_agree 142 = .ok (.istore 6, 2) := by decide +kernel
theorem dX4_agree_144 : decode cX4_agree 144 = .ok (.iload_n 3, 1) := by decide +kernel
theorem dX4_agree_145 : decode cX4_agree 145 = .ok (.iload 4, 2) := by decide +kernel
theorem dX4_agree_147 : decode cX4_agree 147 = .ok (.if_icmp .eq 8, 3) := by decide +kernel
theorem dX4_agree_150 : decode cX4_agree 150 = .ok (.iload 6, 2) := by decide +kernel
theorem dX4_agree_152 : decode cX4_agree 152 = .ok (.ifCond .eq 7, 3) := by decide +kernel
theorem dX4_agree_155 : decode cX4_agree 155 = .ok (.iload_n 3, 1) := by decide +kernel
theorem dX4_agree_156 : decode cX4_agree 156 = .ok (.goto 14, 3) := by decide +kernel
theorem dX4_agree_159 : decode cX4_agree 159 = .ok (.iload 5, 2) := by decide +kernel
theorem dX4_agree_161 : decode cX4_agree 161 = .ok (.ifCond .eq 7, 3) := by decide +kernel
theorem dX4_agree_164 : decode cX4_agree 164 = .ok (.iload_n 2, 1) := by decide +kernel
theorem dX4_agree_165 : decode cX4_agree 165 = .ok (.goto 5, 3) := by decide +kernel
theorem dX4_agree_168 : decode cX4_agree 168 = .ok (.iload 4, 2) := by decide +kernel
theorem dX4_agree_170 : decode cX4_agree 170 = .ok (.ireturn, 1) := by decide +kernel
theorem dX4_bookOf_0 : decode cX4_bookOf 0 = .ok (.iconst (-1), 1) := by decide +kernel
theorem dX4_bookOf_1 : decode cX4_bookOf 1 = .ok (.istore 4, 2) := by decide +kernel
theorem dX4_bookOf_3 : decode cX4_bookOf 3 = .ok (.iconst 0, 1) := by decide +kernel
theorem dX4_bookOf_4 : decode cX4_bookOf 4 = .ok (.istore 5, 2) := by decide +kernel
theorem dX4_bookOf_6 : decode cX4_bookOf 6 = .ok (.iload 5, 2) := by decide +kernel
theorem dX4_bookOf_8 : decode cX4_bookOf 8 = .ok (.aload_n 0, 1) := by decide +kernel
theorem dX4_bookOf_9 : decode cX4_bookOf 9 = .ok (.getfield 63, 3) := by decide +kernel
theorem dX4_bookOf_12 : decode cX4_bookOf 12 = .ok (.if_icmp .ge 143, 3) := by decide +kernel
theorem dX4_bookOf_15 : decode cX4_bookOf 15 = .ok (.aload_n 0, 1) := by decide +kernel
theorem dX4_bookOf_16 : decode cX4_bookOf 16 = .ok (.getfield 31, 3) := by decide +kernel
theorem dX4_bookOf_19 : decode cX4_bookOf 19 = .ok (.iload 5, 2) := by decide +kernel
theorem dX4_bookOf_21 : decode cX4_bookOf 21 = .ok (.iaload, 1) := by decide +kernel
theorem dX4_bookOf_22 : decode cX4_bookOf 22 = .ok (.iload_n 1, 1) := by decide +kernel
theorem dX4_bookOf_23 : decode cX4_bookOf 23 = .ok (.if_icmp .ne 32, 3) := by decide +kernel
theorem dX4_bookOf_26 : decode cX4_bookOf 26 = .ok (.aload_n 0, 1) := by decide +kernel
theorem dX4_bookOf_27 : decode cX4_bookOf 27 = .ok (.getfield 43, 3) := by decide +kernel
theorem dX4_bookOf_30 : decode cX4_bookOf 30 = .ok (.iload 5, 2) := by decide +kernel
theorem dX4_bookOf_32 : decode cX4_bookOf 32 = .ok (.iload_n 2, 1) := by decide +kernel
theorem dX4_bookOf_33 : decode cX4_bookOf 33 = .ok (.invokestatic 81, 3) := by decide +kernel
theorem dX4_bookOf_36 : decode cX4_bookOf 36 = .ok (.iaload, 1) := by decide +kernel
theorem dX4_bookOf_37 : decode cX4_bookOf 37 = .ok (.ifCond .le 18, 3) := by decide +kernel
theorem dX4_bookOf_40 : decode cX4_bookOf 40 = .ok (.aload_n 0, 1) := by decide +kernel
theorem dX4_bookOf_41 : decode cX4_bookOf 41 = .ok (.getfield 34, 3) := by decide +kernel
theorem dX4_bookOf_44 : decode cX4_bookOf 44 = .ok (.iload 5, 2) := by decide +kernel
theorem dX4_bookOf_46 : decode cX4_bookOf 46 = .ok (.iaload, 1) := by decide +kernel
theorem dX4_bookOf_47 : decode cX4_bookOf 47 = .ok (.iload_n 3, 1) := by decide +kernel
theorem dX4_bookOf_48 : decode cX4_bookOf 48 = .ok (.if_icmp .gt 7, 3) := by decide +kernel
theorem dX4_bookOf_51 : decode cX4_bookOf 51 = .ok (.iconst 1, 1) := by decide +kernel
theorem dX4_bookOf_52 : decode cX4_bookOf 52 = .ok (.goto 4, 3) := by decide +kernel
theorem dX4_bookOf_55 : decode cX4_bookOf 55 = .ok (.iconst 0, 1) := by decide +kernel
theorem dX4_bookOf_56 : decode cX4_bookOf 56 = .ok (.istore 6, 2) := by decide +kernel
theorem dX4_bookOf_58 : decode cX4_bookOf 58 = .ok (.iload 4, 2) := by decide +kernel
theorem dX4_bookOf_60 : decode cX4_bookOf 60 = .ok (.iconst (-1), 1) := by decide +kernel
theorem dX4_bookOf_61 : decode cX4_bookOf 61 = .ok (.if_icmp .eq 62, 3) := by decide +kernel
theorem dX4_bookOf_64 : decode cX4_bookOf 64 = .ok (.aload_n 0, 1) := by decide +kernel
theorem dX4_bookOf_65 : decode cX4_bookOf 65 = .ok (.getfield 34, 3) := by decide +kernel
theorem dX4_bookOf_68 : decode cX4_bookOf 68 = .ok (.iload 5, 2) := by decide +kernel
theorem dX4_bookOf_70 : decode cX4_bookOf 70 = .ok (.iaload, 1) := by decide +kernel
theorem dX4_bookOf_71 : decode cX4_bookOf 71 = .ok (.aload_n 0, 1) := by decide +kernel
theorem dX4_bookOf_72 : decode cX4_bookOf 72 = .ok (.getfield 34, 3) := by decide +kernel
theorem dX4_bookOf_75 : decode cX4_bookOf 75 = .ok (.iload 4, 2) := by decide +kernel
theorem dX4_bookOf_77 : decode cX4_bookOf 77 = .ok (.iaload, 1) := by decide +kernel
theorem dX4_bookOf_78 : decode cX4_bookOf 78 = .ok (.if_icmp .gt 45, 3) := by decide +kernel
theorem dX4_bookOf_81 : decode cX4_bookOf 81 = .ok (.aload_n 0, 1) := by decide +kernel
theorem dX4_bookOf_82 : decode cX4_bookOf 82 = .ok (.getfield 34, 3) := by decide +kernel
theorem dX4_bookOf_85 : decode cX4_bookOf 85 = .ok (.iload 5, 2) := by decide +kernel
theorem dX4_bookOf_87 : decode cX4_bookOf 87 = .ok (.iaload, 1) := by decide +kernel
theorem dX4_bookOf_88 : decode cX4_bookOf 88 = .ok (.aload_n 0, 1) := by decide +kernel
theorem dX4_bookOf_89 : decode cX4_bookOf 89 = .ok (.getfield 34, 3) := by decide +kernel
theorem dX4_bookOf_92 : decode cX4_bookOf 92 = .ok (.iload 4, 2) := by decide +kernel
theorem dX4_bookOf_94 : decode cX4_bookOf 94 = .ok (.iaload, 1) := by decide +kernel
theorem dX4_bookOf_95 : decode cX4_bookOf 95 = .ok (.if_icmp .ne 32, 3) := by decide +kernel
theorem dX4_bookOf_98 : decode cX4_bookOf 98 = .ok (.aload_n 0, 1) := by decide +kernel
theorem dX4_bookOf_99 : decode cX4_bookOf 99 = .ok (.getfield 43, 3) := by decide +kernel
theorem dX4_bookOf_102 : decode cX4_bookOf 102 = .ok (.iload 5, 2) := by decide +kernel
theorem dX4_bookOf_104 : decode cX4_bookOf 104 = .ok (.iload_n 2, 1) := by decide +kernel
theorem dX4_bookOf_105 : decode cX4_bookOf 105 = .ok (.invokestatic 81, 3) := by decide +kernel
theorem dX4_bookOf_108 : decode cX4_bookOf 108 = .ok (.iaload, 1) := by decide +kernel
theorem dX4_bookOf_109 : decode cX4_bookOf 109 = .ok (.aload_n 0, 1) := by decide +kernel
theorem dX4_bookOf_110 : decode cX4_bookOf 110 = .ok (.getfield 43, 3) := by decide +kernel
theorem dX4_bookOf_113 : decode cX4_bookOf 113 = .ok (.iload 4, 2) := by decide +kernel
theorem dX4_bookOf_115 : decode cX4_bookOf 115 = .ok (.iload_n 2, 1) := by decide +kernel
theorem dX4_bookOf_116 : decode cX4_bookOf 116 = .ok (.invokestatic 81, 3) := by decide +kernel
theorem dX4_bookOf_119 : decode cX4_bookOf 119 = .ok (.iaload, 1) := by decide +kernel
theorem dX4_bookOf_120 : decode cX4_bookOf 120 = .ok (.if_icmp .le 7, 3) := by decide +kernel
theorem dX4_bookOf_123 : decode cX4_bookOf 123 = .ok (.iconst 1, 1) := by decide +kernel
theorem dX4_bookOf_124 : decode cX4_bookOf 124 = .ok (.goto 4, 3) := by decide +kernel
theorem dX4_bookOf_127 : decode cX4_bookOf 127 = .ok (.iconst 0, 1) := by decide +kernel
theorem dX4_bookOf_128 : decode cX4_bookOf 128 = .ok (.istore 7, 2) := by decide +kernel
theorem dX4_bookOf_130 : decode cX4_bookOf 130 = .ok (.iload 6, 2) := by decide +kernel
theorem dX4_bookOf_132 : decode cX4_bookOf 132 = .ok (.ifCond .eq 13, 3) := by decide +kernel
theorem dX4_bookOf_135 : decode cX4_bookOf 135 = .ok (.iload 7, 2) := by decide +kernel
theorem dX4_bookOf_137 : decode cX4_bookOf 137 = .ok (.ifCond .eq 8, 3) := by decide +kernel
theorem dX4_bookOf_140 : decode cX4_bookOf 140 = .ok (.iload 5, 2) := by decide +kernel
theorem dX4_bookOf_142 : decode cX4_bookOf 142 = .ok (.goto 5, 3) := by decide +kernel
theorem dX4_bookOf_145 : decode cX4_bookOf 145 = .ok (.iload 4, 2) := by decide +kernel
theorem dX4_bookOf_147 : decode cX4_bookOf 147 = .ok (.istore 4, 2) := by decide +kernel
theorem dX4_bookOf_149 : decode cX4_bookOf 149 = .ok (.iinc 5 1, 3) := by decide +kernel
theorem dX4_bookOf_152 : decode cX4_bookOf 152 = .ok (.goto (-146), 3) := by decide +kernel
theorem dX4_bookOf_155 : decode cX4_bookOf 155 = .ok (.iload 4, 2) := by decide +kernel
theorem dX4_bookOf_157 : decode cX4_bookOf 157 = .ok (.iconst (-1), 1) := by decide +kernel
theorem dX4_bookOf_158 : decode cX4_bookOf 158 = .ok (.if_icmp .ne 7, 3) := by decide +kernel
theorem dX4_bookOf_161 : decode cX4_bookOf 161 = .ok (.iconst (-1), 1) := by decide +kernel
theorem dX4_bookOf_162 : decode cX4_bookOf 162 = .ok (.goto 10, 3) := by decide +kernel
theorem dX4_bookOf_165 : decode cX4_bookOf 165 = .ok (.aload_n 0, 1) := by decide +kernel
theorem dX4_bookOf_166 : decode cX4_bookOf 166 = .ok (.getfield 34, 3) := by decide +kernel
theorem dX4_bookOf_169 : decode cX4_bookOf 169 = .ok (.iload 4, 2) := by decide +kernel
theorem dX4_bookOf_171 : decode cX4_bookOf 171 = .ok (.iaload, 1) := by decide +kernel
theorem dX4_bookOf_172 : decode cX4_bookOf 172 = .ok (.istore 5, 2) := by decide +kernel
theorem dX4_bookOf_174 : decode cX4_bookOf 174 = .ok (.iload 4, 2) := by decide +kernel
theorem dX4_bookOf_176 : decode cX4_bookOf 176 = .ok (.iconst (-1), 1) := by decide +kernel
theorem dX4_bookOf_177 : decode cX4_bookOf 177 = .ok (.if_icmp .ne 7, 3) := by decide +kernel
theorem dX4_bookOf_180 : decode cX4_bookOf 180 = .ok (.iconst 0, 1) := by decide +kernel
theorem dX4_bookOf_181 : decode cX4_bookOf 181 = .ok (.goto 13, 3) := by decide +kernel
theorem dX4_bookOf_184 : decode cX4_bookOf 184 = .ok (.aload_n 0, 1) := by decide +kernel
theorem dX4_bookOf_185 : decode cX4_bookOf 185 = .ok (.iload 4, 2) := by decide +kernel
theorem dX4_bookOf_187 : decode cX4_bookOf 187 = .ok (.iload_n 2, 1) := by decide +kernel
theorem dX4_bookOf_188 : decode cX4_bookOf 188 = .ok (.invokestatic 81, 3) := by decide +kernel
theorem dX4_bookOf_191 : decode cX4_bookOf 191 = .ok (.invokevirtual 85, 3) := by decide +kernel
theorem dX4_bookOf_194 : decode cX4_bookOf 194 = .ok (.istore 6, 2) := by decide +kernel
theorem dX4_bookOf_196 : decode cX4_bookOf 196 = .ok (.iconst 0, 1) := by decide +kernel
theorem dX4_bookOf_197 : decode cX4_bookOf 197 = .ok (.istore 7, 2) := by decide +kernel
theorem dX4_bookOf_199 : decode cX4_bookOf 199 = .ok (.iload 7, 2) := by decide +kernel
theorem dX4_bookOf_201 : decode cX4_bookOf 201 = .ok (.aload_n 0, 1) := by decide +kernel
theorem dX4_bookOf_202 : decode cX4_bookOf 202 = .ok (.getfield 78, 3) := by decide +kernel
theorem dX4_bookOf_205 : decode cX4_bookOf 205 = .ok (.if_icmp .ge 108, 3) := by decide +kernel
theorem dX4_bookOf_208 : decode cX4_bookOf 208 = .ok (.aload_n 0, 1) := by decide +kernel
theorem dX4_bookOf_209 : decode cX4_bookOf 209 = .ok (.getfield 22, 3) := by decide +kernel
theorem dX4_bookOf_212 : decode cX4_bookOf 212 = .ok (.iload 7, 2) := by decide +kernel
theorem dX4_bookOf_214 : decode cX4_bookOf 214 = .ok (.iaload, 1) := by decide +kernel
theorem dX4_bookOf_215 : decode cX4_bookOf 215 = .ok (.iload_n 2, 1) := by decide +kernel
theorem dX4_bookOf_216 : decode cX4_bookOf 216 = .ok (.if_icmp .ne 30, 3) := by decide +kernel
theorem dX4_bookOf_219 : decode cX4_bookOf 219 = .ok (.aload_n 0, 1) := by decide +kernel
theorem dX4_bookOf_220 : decode cX4_bookOf 220 = .ok (.getfield 28, 3) := by decide +kernel
theorem dX4_bookOf_223 : decode cX4_bookOf 223 = .ok (.iload 7, 2) := by decide +kernel
theorem dX4_bookOf_225 : decode cX4_bookOf 225 = .ok (.iaload, 1) := by decide +kernel
theorem dX4_bookOf_226 : decode cX4_bookOf 226 = .ok (.iload 5, 2) := by decide +kernel
theorem dX4_bookOf_228 : decode cX4_bookOf 228 = .ok (.if_icmp .le 18, 3) := by decide +kernel
theorem dX4_bookOf_231 : decode cX4_bookOf 231 = .ok (.aload_n 0, 1) := by decide +kernel
theorem dX4_bookOf_232 : decode cX4_bookOf 232 = .ok (.getfield 28, 3) := by decide +kernel
theorem dX4_bookOf_235 : decode cX4_bookOf 235 = .ok (.iload 7, 2) := by decide +kernel
theorem dX4_bookOf_237 : decode cX4_bookOf 237 = .ok (.iaload, 1) := by decide +kernel
theorem dX4_bookOf_238 : decode cX4_bookOf 238 = .ok (.iload_n 3, 1) := by decide +kernel
theorem dX4_bookOf_239 : decode cX4_bookOf 239 = .ok (.if_icmp .gt 7, 3) := by decide +kernel
theorem dX4_bookOf_242 : decode cX4_bookOf 242 = .ok (.iconst 1, 1) := by decide +kernel
theorem dX4_bookOf_243 : decode cX4_bookOf 243 = .ok (.goto 4, 3) := by decide +kernel
theorem dX4_bookOf_246 : decode cX4_bookOf 246 = .ok (.iconst 0, 1) := by decide +kernel
theorem dX4_bookOf_247 : decode cX4_bookOf 247 = .ok (.istore 8, 2) := by decide +kernel
theorem dX4_bookOf_249 : decode cX4_bookOf 249 = .ok (.iload 6, 2) := by decide +kernel
theorem dX4_bookOf_251 : decode cX4_bookOf 251 = .ok (.iload 8, 2) := by decide +kernel
theorem dX4_bookOf_253 : decode cX4_bookOf 253 = .ok (.ifCond .ne 7, 3) := by decide +kernel
theorem dX4_bookOf_256 : decode cX4_bookOf 256 = .ok (.iconst 0, 1) := by decide +kernel
theorem dX4_bookOf_257 : decode cX4_bookOf 257 = .ok (.goto 47, 3) := by decide +kernel
theorem dX4_bookOf_260 : decode cX4_bookOf 260 = .ok (.aload_n 0, 1) := by decide +kernel
theorem dX4_bookOf_261 : decode cX4_bookOf 261 = .ok (.getfield 19, 3) := by decide +kernel
theorem dX4_bookOf_264 : decode cX4_bookOf 264 = .ok (.iload 7, 2) := by decide +kernel
theorem dX4_bookOf_266 : decode cX4_bookOf 266 = .ok (.iaload, 1) := by decide +kernel
theorem dX4_bookOf_267 : decode cX4_bookOf 267 = .ok (.iload_n 1, 1) := by decide +kernel
theorem dX4_bookOf_268 : decode cX4_bookOf 268 = .ok (.if_icmp .ne 13, 3) := by decide +kernel
theorem dX4_bookOf_271 : decode cX4_bookOf 271 = .ok (.aload_n 0, 1) := by decide +kernel
theorem dX4_bookOf_272 : decode cX4_bookOf 272 = .ok (.getfield 25, 3) := by decide +kernel
theorem dX4_bookOf_275 : decode cX4_bookOf 275 = .ok (.iload 7, 2) := by decide +kernel
theorem dX4_bookOf_277 : decode cX4_bookOf 277 = .ok (.iaload, 1) := by decide +kernel
theorem dX4_bookOf_278 : decode cX4_bookOf 278 = .ok (.goto 26, 3) := by decide +kernel
theorem dX4_bookOf_281 : decode cX4_bookOf 281 = .ok (.aload_n 0, 1) := by decide +kernel
theorem dX4_bookOf_282 : decode cX4_bookOf 282 = .ok (.getfield 16, 3) := by decide +kernel
theorem dX4_bookOf_285 : decode cX4_bookOf 285 = .ok (.iload 7, 2) := by decide +kernel
theorem dX4_bookOf_287 : decode cX4_bookOf 287 = .ok (.iaload, 1) := by decide +kernel
theorem dX4_bookOf_288 : decode cX4_bookOf 288 = .ok (.iload_n 1, 1) := by decide +kernel
theorem dX4_bookOf_289 : decode cX4_bookOf 289 = .ok (.if_icmp .ne 14, 3) := by decide +kernel
theorem dX4_bookOf_292 : decode cX4_bookOf 292 = .ok (.aload_n 0, 1) := by decide +kernel
theorem dX4_bookOf_293 : decode cX4_bookOf 293 = .ok (.getfield 25, 3) := by decide +kernel
theorem dX4_bookOf_296 : decode cX4_bookOf 296 = .ok (.iload 7, 2) := by decide +kernel
theorem dX4_bookOf_298 : decode cX4_bookOf 298 = .ok (.iaload, 1) := by decide +kernel
theorem dX4_bookOf_299 : decode cX4_bookOf 299 = .ok (.ineg, 1) := by decide +kernel
theorem dX4_bookOf_300 : decode cX4_bookOf 300 = .ok (.goto 4, 3) := by decide +kernel
theorem dX4_bookOf_303 : decode cX4_bookOf 303 = .ok (.iconst 0, 1) := by decide +kernel
theorem dX4_bookOf_304 : decode cX4_bookOf 304 = .ok (.iadd, 1) := by decide +kernel
theorem dX4_bookOf_305 : decode cX4_bookOf 305 = .ok (.istore 6, 2) := by decide +kernel
theorem dX4_bookOf_307 : decode cX4_bookOf 307 = .ok (.iinc 7 1, 3) := by decide +kernel
theorem dX4_bookOf_310 : decode cX4_bookOf 310 = .ok (.goto (-111), 3) := by decide +kernel
theorem dX4_bookOf_313 : decode cX4_bookOf 313 = .ok (.iload 6, 2) := by decide +kernel
theorem dX4_bookOf_315 : decode cX4_bookOf 315 = .ok (.ireturn, 1) := by decide +kernel
theorem dX4_hasOpen_0 : decode cX4_hasOpen 0 = .ok (.iconst 0, 1) := by decide +kernel
theorem dX4_hasOpen_1 : decode cX4_hasOpen 1 = .ok (.istore_n 2, 1) := by decide +kernel
theorem dX4_hasOpen_2 : decode cX4_hasOpen 2 = .ok (.iconst 0, 1) := by decide +kernel
theorem dX4_hasOpen_3 : decode cX4_hasOpen 3 = .ok (.istore_n 3, 1) := by decide +kernel
theorem dX4_hasOpen_4 : decode cX4_hasOpen 4 = .ok (.iload_n 3, 1) := by decide +kernel
theorem dX4_hasOpen_5 : decode cX4_hasOpen 5 = .ok (.aload_n 0, 1) := by decide +kernel
theorem dX4_hasOpen_6 : decode cX4_hasOpen 6 = .ok (.getfield 63, 3) := by decide +kernel
theorem dX4_hasOpen_9 : decode cX4_hasOpen 9 = .ok (.if_icmp .ge 38, 3) := by decide +kernel
theorem dX4_hasOpen_12 : decode cX4_hasOpen 12 = .ok (.iload_n 2, 1) := by decide +kernel
theorem dX4_hasOpen_13 : decode cX4_hasOpen 13 = .ok (.ifCond .ne 22, 3) := by decide +kernel
theorem dX4_hasOpen_16 : decode cX4_hasOpen 16 = .ok (.aload_n 0, 1) := by decide +kernel
theorem dX4_hasOpen_17 : decode cX4_hasOpen 17 = .ok (.getfield 31, 3) := by decide +kernel
theorem dX4_hasOpen_20 : decode cX4_hasOpen 20 = .ok (.iload_n 3, 1) := by decide +kernel
theorem dX4_hasOpen_21 : decode cX4_hasOpen 21 = .ok (.iaload, 1) := by decide +kernel
theorem dX4_hasOpen_22 : decode cX4_hasOpen 22 = .ok (.iload_n 1, 1) := by decide +kernel
theorem dX4_hasOpen_23 : decode cX4_hasOpen 23 = .ok (.if_icmp .ne 16, 3) := by decide +kernel
theorem dX4_hasOpen_26 : decode cX4_hasOpen 26 = .ok (.aload_n 0, 1) := by decide +kernel
theorem dX4_hasOpen_27 : decode cX4_hasOpen 27 = .ok (.getfield 37, 3) := by decide +kernel
theorem dX4_hasOpen_30 : decode cX4_hasOpen 30 = .ok (.iload_n 3, 1) := by decide +kernel
theorem dX4_hasOpen_31 : decode cX4_hasOpen 31 = .ok (.iaload, 1) := by decide +kernel
theorem dX4_hasOpen_32 : decode cX4_hasOpen 32 = .ok (.ifCond .ne 7, 3) := by decide +kernel
theorem dX4_hasOpen_35 : decode cX4_hasOpen 35 = .ok (.iconst 1, 1) := by decide +kernel
theorem dX4_hasOpen_36 : decode cX4_hasOpen 36 = .ok (.goto 4, 3) := by decide +kernel
theorem dX4_hasOpen_39 : decode cX4_hasOpen 39 = .ok (.iconst 0, 1) := by decide +kernel
theorem dX4_hasOpen_40 : decode cX4_hasOpen 40 = .ok (.istore_n 2, 1) := by decide +kernel
theorem dX4_hasOpen_41 : decode cX4_hasOpen 41 = .ok (.iinc 3 1, 3) := by decide +kernel
theorem dX4_hasOpen_44 : decode cX4_hasOpen 44 = .ok (.goto (-40), 3) := by decide +kernel
theorem dX4_hasOpen_47 : decode cX4_hasOpen 47 = .ok (.iload_n 2, 1) := by decide +kernel
theorem dX4_hasOpen_48 : decode cX4_hasOpen 48 = .ok (.ireturn, 1) := by decide +kernel
theorem dX4_open_0 : decode cX4_open 0 = .ok (.aload_n 0, 1) := by decide +kernel
theorem dX4_open_1 : decode cX4_open 1 = .ok (.iload_n 1, 1) := by decide +kernel
theorem dX4_open_2 : decode cX4_open 2 = .ok (.invokestatic 89, 3) := by decide +kernel
theorem dX4_open_5 : decode cX4_open 5 = .ok (.aload_n 0, 1) := by decide +kernel
theorem dX4_open_6 : decode cX4_open 6 = .ok (.iload_n 1, 1) := by decide +kernel
theorem dX4_open_7 : decode cX4_open 7 = .ok (.invokevirtual 92, 3) := by decide +kernel
theorem dX4_open_10 : decode cX4_open 10 = .ok (.ifCond .ne 16, 3) := by decide +kernel
theorem dX4_open_13 : decode cX4_open 13 = .ok (.aload_n 0, 1) := by decide +kernel
theorem dX4_open_14 : decode cX4_open 14 = .ok (.getfield 63, 3) := by decide +kernel
theorem dX4_open_17 : decode cX4_open 17 = .ok (.bipush 40, 2) := by decide +kernel
theorem dX4_open_19 : decode cX4_open 19 = .ok (.if_icmp .ge 7, 3) := by decide +kernel
theorem dX4_open_22 : decode cX4_open 22 = .ok (.iconst 1, 1) := by decide +kernel
theorem dX4_open_23 : decode cX4_open 23 = .ok (.goto 4, 3) := by decide +kernel
theorem dX4_open_26 : decode cX4_open 26 = .ok (.iconst 0, 1) := by decide +kernel
theorem dX4_open_27 : decode cX4_open 27 = .ok (.iconst 1, 1) := by decide +kernel
theorem dX4_open_28 : decode cX4_open 28 = .ok (.invokevirtual 70, 3) := by decide +kernel
theorem dX4_open_31 : decode cX4_open 31 = .ok (.ifCond .ne 5, 3) := by decide +kernel
theorem dX4_open_34 : decode cX4_open 34 = .ok (.iconst 0, 1) := by decide +kernel
theorem dX4_open_35 : decode cX4_open 35 = .ok (.ireturn, 1) := by decide +kernel
theorem dX4_open_36 : decode cX4_open 36 = .ok (.aload_n 0, 1) := by decide +kernel
theorem dX4_open_37 : decode cX4_open 37 = .ok (.getfield 31, 3) := by decide +kernel
theorem dX4_open_40 : decode cX4_open 40 = .ok (.aload_n 0, 1) := by decide +kernel
theorem dX4_open_41 : decode cX4_open 41 = .ok (.getfield 63, 3) := by decide +kernel
theorem dX4_open_44 : decode cX4_open 44 = .ok (.iload_n 1, 1) := by decide +kernel
theorem dX4_open_45 : decode cX4_open 45 = .ok (.iastore, 1) := by decide +kernel
theorem dX4_open_46 : decode cX4_open 46 = .ok (.aload_n 0, 1) := by decide +kernel
theorem dX4_open_47 : decode cX4_open 47 = .ok (.getfield 34, 3) := by decide +kernel
theorem dX4_open_50 : decode cX4_open 50 = .ok (.aload_n 0, 1) := by decide +kernel
theorem dX4_open_51 : decode cX4_open 51 = .ok (.getfield 63, 3) := by decide +kernel
theorem dX4_open_54 : decode cX4_open 54 = .ok (.aload_n 0, 1) := by decide +kernel
theorem dX4_open_55 : decode cX4_open 55 = .ok (.getfield 75, 3) := by decide +kernel
theorem dX4_open_58 : decode cX4_open 58 = .ok (.iastore, 1) := by decide +kernel
theorem dX4_open_59 : decode cX4_open 59 = .ok (.aload_n 0, 1) := by decide +kernel
theorem dX4_open_60 : decode cX4_open 60 = .ok (.getfield 37, 3) := by decide +kernel
theorem dX4_open_63 : decode cX4_open 63 = .ok (.aload_n 0, 1) := by decide +kernel
theorem dX4_open_64 : decode cX4_open 64 = .ok (.getfield 63, 3) := by decide +kernel
theorem dX4_open_67 : decode cX4_open 67 = .ok (.iconst 0, 1) := by decide +kernel
theorem dX4_open_68 : decode cX4_open 68 = .ok (.iastore, 1) := by decide +kernel
theorem dX4_open_69 : decode cX4_open 69 = .ok (.aload_n 0, 1) := by decide +kernel
theorem dX4_open_70 : decode cX4_open 70 = .ok (.dup, 1) := by decide +kernel
theorem dX4_open_71 : decode cX4_open 71 = .ok (.getfield 63, 3) := by decide +kernel
theorem dX4_open_74 : decode cX4_open 74 = .ok (.iconst 1, 1) := by decide +kernel
theorem dX4_open_75 : decode cX4_open 75 = .ok (.iadd, 1) := by decide +kernel
theorem dX4_open_76 : decode cX4_open 76 = .ok (.putfield 63, 3) := by decide +kernel
theorem dX4_open_79 : decode cX4_open 79 = .ok (.aload_n 0, 1) := by decide +kernel
theorem dX4_open_80 : decode cX4_open 80 = .ok (.getfield 63, 3) := by decide +kernel
theorem dX4_open_83 : decode cX4_open 83 = .ok (.iconst 1, 1) := by decide +kernel
theorem dX4_open_84 : decode cX4_open 84 = .ok (.isub, 1) := by decide +kernel
theorem dX4_open_85 : decode cX4_open 85 = .ok (.ireturn, 1) := by decide +kernel
theorem dX4_hasCounted_0 : decode cX4_hasCounted 0 = .ok (.iconst 0, 1) := by decide +kernel
theorem dX4_hasCounted_1 : decode cX4_hasCounted 1 = .ok (.istore_n 3, 1) := by decide +kernel
theorem dX4_hasCounted_2 : decode cX4_hasCounted 2 = .ok (.iconst 0, 1) := by decide +kernel
theorem dX4_hasCounted_3 : decode cX4_hasCounted 3 = .ok (.istore 4, 2) := by decide +kernel
theorem dX4_hasCounted_5 : decode cX4_hasCounted 5 = .ok (.iload 4, 2) := by decide +kernel
theorem dX4_hasCounted_7 : decode cX4_hasCounted 7 = .ok (.aload_n 0, 1) := by decide +kernel
theorem dX4_hasCounted_8 : decode cX4_hasCounted 8 = .ok (.getfield 40, 3) := by decide +kernel
theorem dX4_hasCounted_11 : decode cX4_hasCounted 11 = .ok (.iload_n 1, 1) := by decide +kernel
theorem dX4_hasCounted_12 : decode cX4_hasCounted 12 = .ok (.iaload, 1) := by decide +kernel
theorem dX4_hasCounted_13 : decode cX4_hasCounted 13 = .ok (.if_icmp .ge 34, 3) := by decide +kernel
theorem dX4_hasCounted_16 : decode cX4_hasCounted 16 = .ok (.iload_n 3, 1) := by decide +kernel
theorem dX4_hasCounted_17 : decode cX4_hasCounted 17 = .ok (.ifCond .ne 18, 3) := by decide +kernel
theorem dX4_hasCounted_20 : decode cX4_hasCounted 20 = .ok (.aload_n 0, 1) := by decide +kernel
theorem dX4_hasCounted_21 : decode cX4_hasCounted 21 = .ok (.getfield 49, 3) := by decide +kernel
theorem dX4_hasCounted_24 : decode cX4_hasCounted 24 = .ok (.iconst 3, 1) := by decide +kernel
theorem dX4_hasCounted_25 : decode cX4_hasCounted 25 = .ok (.iload_n 1, 1) := by decide +kernel
theorem dX4_hasCounted_26 : decode cX4_hasCounted 26 = .ok (.imul, 1) := by decide +kernel
theorem dX4_hasCounted_27 : decode cX4_hasCounted 27 = .ok (.iload 4, 2) := by decide +kernel
theorem dX4_hasCounted_29 : decode cX4_hasCounted 29 = .ok (.iadd, 1) := by decide +kernel
theorem dX4_hasCounted_30 : decode cX4_hasCounted 30 = .ok (.iaload, 1) := by decide +kernel
theorem dX4_hasCounted_31 : decode cX4_hasCounted 31 = .ok (.iload_n 2, 1) := by decide +kernel
theorem dX4_hasCounted_32 : decode cX4_hasCounted 32 = .ok (.if_icmp .ne 7, 3) := by decide +kernel
theorem dX4_hasCounted_35 : decode cX4_hasCounted 35 = .ok (.iconst 1, 1) := by decide +kernel
theorem dX4_hasCounted_36 : decode cX4_hasCounted 36 = .ok (.goto 4, 3) := by decide +kernel
theorem dX4_hasCounted_39 : decode cX4_hasCounted 39 = .ok (.iconst 0, 1) := by decide +kernel
theorem dX4_hasCounted_40 : decode cX4_hasCounted 40 = .ok (.istore_n 3, 1) := by decide +kernel
theorem dX4_hasCounted_41 : decode cX4_hasCounted 41 = .ok (.iinc 4 1, 3) := by decide +kernel
theorem dX4_hasCounted_44 : decode cX4_hasCounted 44 = .ok (.goto (-39), 3) := by decide +kernel
theorem dX4_hasCounted_47 : decode cX4_hasCounted 47 = .ok (.iload_n 3, 1) := by decide +kernel
theorem dX4_hasCounted_48 : decode cX4_hasCounted 48 = .ok (.ireturn, 1) := by decide +kernel
theorem dX4_count_0 : decode cX4_count 0 = .ok (.aload_n 0, 1) := by decide +kernel
theorem dX4_count_1 : decode cX4_count 1 = .ok (.iload_n 1, 1) := by decide +kernel
theorem dX4_count_2 : decode cX4_count 2 = .ok (.invokevirtual 95, 3) := by decide +kernel
theorem dX4_count_5 : decode cX4_count 5 = .ok (.ifCond .eq 23, 3) := by decide +kernel
theorem dX4_count_8 : decode cX4_count 8 = .ok (.iload_n 2, 1) := by decide +kernel
theorem dX4_count_9 : decode cX4_count 9 = .ok (.iconst 0, 1) := by decide +kernel
theorem dX4_count_10 : decode cX4_count 10 = .ok (.iconst 5, 1) := by decide +kernel
theorem dX4_count_11 : decode cX4_count 11 = .ok (.invokestatic 59, 3) := by decide +kernel
theorem dX4_count_14 : decode cX4_count 14 = .ok (.ifCond .eq 14, 3) := by decide +kernel
theorem dX4_count_17 : decode cX4_count 17 = .ok (.iload_n 3, 1) := by decide +kernel
theorem dX4_count_18 : decode cX4_count 18 = .ok (.invokestatic 66, 3) := by decide +kernel
theorem dX4_count_21 : decode cX4_count 21 = .ok (.ifCond .eq 7, 3) := by decide +kernel
theorem dX4_count_24 : decode cX4_count 24 = .ok (.iconst 1, 1) := by decide +kernel
theorem dX4_count_25 : decode cX4_count 25 = .ok (.goto 4, 3) := by decide +kernel
theorem dX4_count_28 : decode cX4_count 28 = .ok (.iconst 0, 1) := by decide +kernel
theorem dX4_count_29 : decode cX4_count 29 = .ok (.istore 5, 2) := by decide +kernel
theorem dX4_count_31 : decode cX4_count 31 = .ok (.iload 5, 2) := by decide +kernel
theorem dX4_count_33 : decode cX4_count 33 = .ok (.ifCond .eq 11, 3) := by decide +kernel
theorem dX4_count_36 : decode cX4_count 36 = .ok (.iload_n 1, 1) := by decide +kernel
theorem dX4_count_37 : decode cX4_count 37 = .ok (.iload_n 3, 1) := by decide +kernel
theorem dX4_count_38 : decode cX4_count 38 = .ok (.invokestatic 81, 3) := by decide +kernel
theorem dX4_count_41 : decode cX4_count 41 = .ok (.goto 4, 3) := by decide +kernel
theorem dX4_count_44 : decode cX4_count 44 = .ok (.iconst 0, 1) := by decide +kernel
theorem dX4_count_45 : decode cX4_count 45 = .ok (.istore 6, 2) := by decide +kernel
theorem dX4_count_47 : decode cX4_count 47 = .ok (.iload 5, 2) := by decide +kernel
theorem dX4_count_49 : decode cX4_count 49 = .ok (.ifCond .eq 36, 3) := by decide +kernel
theorem dX4_count_52 : decode cX4_count 52 = .ok (.aload_n 0, 1) := by decide +kernel
theorem dX4_count_53 : decode cX4_count 53 = .ok (.getfield 37, 3) := by decide +kernel
theorem dX4_count_56 : decode cX4_count 56 = .ok (.iload_n 1, 1) := by decide +kernel
theorem dX4_count_57 : decode cX4_count 57 = .ok (.iaload, 1) := by decide +kernel
theorem dX4_count_58 : decode cX4_count 58 = .ok (.ifCond .ne 27, 3) := by decide +kernel
theorem dX4_count_61 : decode cX4_count 61 = .ok (.aload_n 0, 1) := by decide +kernel
theorem dX4_count_62 : decode cX4_count 62 = .ok (.iload 6, 2) := by decide +kernel
theorem dX4_count_64 : decode cX4_count 64 = .ok (.iload_n 2, 1) := by decide +kernel
theorem dX4_count_65 : decode cX4_count 65 = .ok (.invokevirtual 98, 3) := by decide +kernel
theorem dX4_count_68 : decode cX4_count 68 = .ok (.ifCond .ne 17, 3) := by decide +kernel
theorem dX4_count_71 : decode cX4_count 71 = .ok (.aload_n 0, 1) := by decide +kernel
theorem dX4_count_72 : decode cX4_count 72 = .ok (.iload 6, 2) := by decide +kernel
theorem dX4_count_74 : decode cX4_count 74 = .ok (.invokevirtual 85, 3) := by decide +kernel
theorem dX4_count_77 : decode cX4_count 77 = .ok (.iconst (-1), 1) := by decide +kernel
theorem dX4_count_78 : decode cX4_count 78 = .ok (.if_icmp .ne 7, 3) := by decide +kernel
theorem dX4_count_81 : decode cX4_count 81 = .ok (.iconst 1, 1) := by decide +kernel
theorem dX4_count_82 : decode cX4_count 82 = .ok (.goto 4, 3) := by decide +kernel
theorem dX4_count_85 : decode cX4_count 85 = .ok (.iconst 0, 1) := by decide +kernel
theorem dX4_count_86 : decode cX4_count 86 = .ok (.istore 7, 2) := by decide +kernel
theorem dX4_count_88 : decode cX4_count 88 = .ok (.aload_n 0, 1) := by decide +kernel
theorem dX4_count_89 : decode cX4_count 89 = .ok (.iload 5, 2) := by decide +kernel
theorem dX4_count_91 : decode cX4_count 91 = .ok (.iload 4, 2) := by decide +kernel
theorem dX4_count_93 : decode cX4_count 93 = .ok (.iconst 0, 1) := by decide +kernel
theorem dX4_count_94 : decode cX4_count 94 = .ok (.ldc 102, 2) := by decide +kernel
theorem dX4_count_96 : decode cX4_count 96 = .ok (.invokestatic 59, 3) := by decide +kernel
theorem dX4_count_99 : decode cX4_count 99 = .ok (.iload 7, 2) := by decide +kernel
theorem dX4_count_101 : decode cX4_count 101 = .ok (.invokevirtual 70, 3) := by decide +kernel
theorem dX4_count_104 : decode cX4_count 104 = .ok (.ifCond .ne 5, 3) := by decide +kernel
theorem dX4_count_107 : decode cX4_count 107 = .ok (.iconst 0, 1) := by decide +kernel
theorem dX4_count_108 : decode cX4_count 108 = .ok (.ireturn, 1) := by decide +kernel
theorem dX4_count_109 : decode cX4_count 109 = .ok (.aload_n 0, 1) := by decide +kernel
theorem dX4_count_110 : decode cX4_count 110 = .ok (.getfield 49, 3) := by decide +kernel
theorem dX4_count_113 : decode cX4_count 113 = .ok (.iconst 3, 1) := by decide +kernel
theorem dX4_count_114 : decode cX4_count 114 = .ok (.iload 6, 2) := by decide +kernel
theorem dX4_count_116 : decode cX4_count 116 = .ok (.imul, 1) := by decide +kernel
theorem dX4_count_117 : decode cX4_count 117 = .ok (.aload_n 0, 1) := by decide +kernel
theorem dX4_count_118 : decode cX4_count 118 = .ok (.getfield 40, 3) := by decide +kernel
theorem dX4_count_121 : decode cX4_count 121 = .ok (.iload 6, 2) := by decide +kernel
theorem dX4_count_123 : decode cX4_count 123 = .ok (.iaload, 1) := by decide +kernel
theorem dX4_count_124 : decode cX4_count 124 = .ok (.iadd, 1) := by decide +kernel
theorem dX4_count_125 : decode cX4_count 125 = .ok (.iload_n 2, 1) := by decide +kernel
theorem dX4_count_126 : decode cX4_count 126 = .ok (.iastore, 1) := by decide +kernel
theorem dX4_count_127 : decode cX4_count 127 = .ok (.aload_n 0, 1) := by decide +kernel
theorem dX4_count_128 : decode cX4_count 128 = .ok (.getfield 52, 3) := by decide +kernel
theorem dX4_count_131 : decode cX4_count 131 = .ok (.iconst 3, 1) := by decide +kernel
theorem dX4_count_132 : decode cX4_count 132 = .ok (.iload 6, 2) := by decide +kernel
theorem dX4_count_134 : decode cX4_count 134 = .ok (.imul, 1) := by decide +kernel
theorem dX4_count_135 : decode cX4_count 135 = .ok (.aload_n 0, 1) := by decide +kernel
theorem dX4_count_136 : decode cX4_count 136 = .ok (.getfield 40, 3) := by decide +kernel
theorem dX4_count_139 : decode cX4_count 139 = .ok (.iload 6, 2) := by decide +kernel
theorem dX4_count_141 : decode cX4_count 141 = .ok (.iaload, 1) := by decide +kernel
theorem dX4_count_142 : decode cX4_count 142 = .ok (.iadd, 1) := by decide +kernel
theorem dX4_count_143 : decode cX4_count 143 = .ok (.iload 4, 2) := by decide +kernel
theorem dX4_count_145 : decode cX4_count 145 = .ok (.iastore, 1) := by decide +kernel
theorem dX4_count_146 : decode cX4_count 146 = .ok (.aload_n 0, 1) := by decide +kernel
theorem dX4_count_147 : decode cX4_count 147 = .ok (.getfield 40, 3) := by decide +kernel
theorem dX4_count_150 : decode cX4_count 150 = .ok (.iload 6, 2) := by decide +kernel
theorem dX4_count_152 : decode cX4_count 152 = .ok (.dup2, 1) := by decide +kernel
theorem dX4_count_153 : decode cX4_count 153 = .ok (.iaload, 1) := by decide +kernel
theorem dX4_count_154 : decode cX4_count 154 = .ok (.iconst 1, 1) := by decide +kernel
theorem dX4_count_155 : decode cX4_count 155 = .ok (.iadd, 1) := by decide +kernel
theorem dX4_count_156 : decode cX4_count 156 = .ok (.iastore, 1) := by decide +kernel
theorem dX4_count_157 : decode cX4_count 157 = .ok (.aload_n 0, 1) := by decide +kernel
theorem dX4_count_158 : decode cX4_count 158 = .ok (.iload 6, 2) := by decide +kernel
theorem dX4_count_160 : decode cX4_count 160 = .ok (.invokevirtual 85, 3) := by decide +kernel
theorem dX4_count_163 : decode cX4_count 163 = .ok (.iconst (-1), 1) := by decide +kernel
theorem dX4_count_164 : decode cX4_count 164 = .ok (.if_icmp .eq 7, 3) := by decide +kernel
theorem dX4_count_167 : decode cX4_count 167 = .ok (.iconst 1, 1) := by decide +kernel
theorem dX4_count_168 : decode cX4_count 168 = .ok (.goto 4, 3) := by decide +kernel
theorem dX4_count_171 : decode cX4_count 171 = .ok (.iconst 0, 1) := by decide +kernel
theorem dX4_count_172 : decode cX4_count 172 = .ok (.ireturn, 1) := by decide +kernel
theorem dX4_close_0 : decode cX4_close 0 = .ok (.aload_n 0, 1) := by decide +kernel
theorem dX4_close_1 : decode cX4_close 1 = .ok (.iload_n 1, 1) := by decide +kernel
theorem dX4_close_2 : decode cX4_close 2 = .ok (.invokevirtual 95, 3) := by decide +kernel
theorem dX4_close_5 : decode cX4_close 5 = .ok (.istore_n 2, 1) := by decide +kernel
theorem dX4_close_6 : decode cX4_close 6 = .ok (.iconst 0, 1) := by decide +kernel
theorem dX4_close_7 : decode cX4_close 7 = .ok (.istore_n 3, 1) := by decide +kernel
theorem dX4_close_8 : decode cX4_close 8 = .ok (.iconst 1, 1) := by decide +kernel
theorem dX4_close_9 : decode cX4_close 9 = .ok (.istore 4, 2) := by decide +kernel
theorem dX4_close_11 : decode cX4_close 11 = .ok (.iconst 0, 1) := by decide +kernel
theorem dX4_close_12 : decode cX4_close 12 = .ok (.istore 5, 2) := by decide +kernel
theorem dX4_close_14 : decode cX4_close 14 = .ok (.iload 5, 2) := by decide +kernel
theorem dX4_close_16 : decode cX4_close 16 = .ok (.iconst 5, 1) := by decide +kernel
theorem dX4_close_17 : decode cX4_close 17 = .ok (.if_icmp .ge 78, 3) := by decide +kernel
theorem dX4_close_20 : decode cX4_close 20 = .ok (.iload_n 2, 1) := by decide +kernel
theorem dX4_close_21 : decode cX4_close 21 = .ok (.ifCond .eq 74, 3) := by decide +kernel
theorem dX4_close_24 : decode cX4_close 24 = .ok (.aload_n 0, 1) := by decide +kernel
theorem dX4_close_25 : decode cX4_close 25 = .ok (.iload_n 1, 1) := by decide +kernel
theorem dX4_close_26 : decode cX4_close 26 = .ok (.iload 5, 2) := by decide +kernel
theorem dX4_close_28 : decode cX4_close 28 = .ok (.invokestatic 81, 3) := by decide +kernel
theorem dX4_close_31 : decode cX4_close 31 = .ok (.invokevirtual 85, 3) := by decide +kernel
theorem dX4_close_34 : decode cX4_close 34 = .ok (.iconst (-1), 1) := by decide +kernel
theorem dX4_close_35 : decode cX4_close 35 = .ok (.if_icmp .eq 7, 3) := by decide +kernel
theorem dX4_close_38 : decode cX4_close 38 = .ok (.iconst 1, 1) := by decide +kernel
theorem dX4_close_39 : decode cX4_close 39 = .ok (.goto 4, 3) := by decide +kernel
theorem dX4_close_42 : decode cX4_close 42 = .ok (.iconst 0, 1) := by decide +kernel
theorem dX4_close_43 : decode cX4_close 43 = .ok (.istore 6, 2) := by decide +kernel
theorem dX4_close_45 : decode cX4_close 45 = .ok (.iload_n 3, 1) := by decide +kernel
theorem dX4_close_46 : decode cX4_close 46 = .ok (.iload 6, 2) := by decide +kernel
theorem dX4_close_48 : decode cX4_close 48 = .ok (.ifCond .eq 7, 3) := by decide +kernel
theorem dX4_close_51 : decode cX4_close 51 = .ok (.iconst 1, 1) := by decide +kernel
theorem dX4_close_52 : decode cX4_close 52 = .ok (.goto 4, 3) := by decide +kernel
theorem dX4_close_55 : decode cX4_close 55 = .ok (.iconst 0, 1) := by decide +kernel
theorem dX4_close_56 : decode cX4_close 56 = .ok (.iadd, 1) := by decide +kernel
theorem dX4_close_57 : decode cX4_close 57 = .ok (.istore_n 3, 1) := by decide +kernel
theorem dX4_close_58 : decode cX4_close 58 = .ok (.iload 4, 2) := by decide +kernel
theorem dX4_close_60 : decode cX4_close 60 = .ok (.ifCond .eq 26, 3) := by decide +kernel
theorem dX4_close_63 : decode cX4_close 63 = .ok (.iload 6, 2) := by decide +kernel
theorem dX4_close_65 : decode cX4_close 65 = .ok (.ifCond .ne 17, 3) := by decide +kernel
theorem dX4_close_68 : decode cX4_close 68 = .ok (.aload_n 0, 1) := by decide +kernel
theorem dX4_close_69 : decode cX4_close 69 = .ok (.getfield 40, 3) := by decide +kernel
theorem dX4_close_72 : decode cX4_close 72 = .ok (.iload_n 1, 1) := by decide +kernel
theorem dX4_close_73 : decode cX4_close 73 = .ok (.iload 5, 2) := by decide +kernel
theorem dX4_close_75 : decode cX4_close 75 = .ok (.invokestatic 81, 3) := by decide +kernel
theorem dX4_close_78 : decode cX4_close 78 = .ok (.iaload, 1) := by decide +kernel
theorem dX4_close_79 : decode cX4_close 79 = .ok (.ifCond .ne 7, 3) := by decide +kernel
theorem dX4_close_82 : decode cX4_close 82 = .ok (.iconst 1, 1) := by decide +kernel
theorem dX4_close_83 : decode cX4_close 83 = .ok (.goto 4, 3) := by decide +kernel
theorem dX4_close_86 : decode cX4_close 86 = .ok (.iconst 0, 1) := by decide +kernel
theorem dX4_close_87 : decode cX4_close 87 = .ok (.istore 4, 2) := by decide +kernel
theorem dX4_close_89 : decode cX4_close 89 = .ok (.iinc 5 1, 3) := by decide +kernel
theorem dX4_close_92 : decode cX4_close 92 = .ok (.goto (-78), 3) := by decide +kernel
theorem dX4_close_95 : decode cX4_close 95 = .ok (.aload_n 0, 1) := by decide +kernel
theorem dX4_close_96 : decode cX4_close 96 = .ok (.iload_n 2, 1) := by decide +kernel
theorem dX4_close_97 : decode cX4_close 97 = .ok (.iload_n 2, 1) := by decide +kernel
theorem dX4_close_98 : decode cX4_close 98 = .ok (.ifCond .eq 21, 3) := by decide +kernel
theorem dX4_close_101 : decode cX4_close 101 = .ok (.aload_n 0, 1) := by decide +kernel
theorem dX4_close_102 : decode cX4_close 102 = .ok (.getfield 37, 3) := by decide +kernel
theorem dX4_close_105 : decode cX4_close 105 = .ok (.iload_n 1, 1) := by decide +kernel
theorem dX4_close_106 : decode cX4_close 106 = .ok (.iaload, 1) := by decide +kernel
theorem dX4_close_107 : decode cX4_close 107 = .ok (.ifCond .ne 12, 3) := by decide +kernel
theorem dX4_close_110 : decode cX4_close 110 = .ok (.iload 4, 2) := by decide +kernel
theorem dX4_close_112 : decode cX4_close 112 = .ok (.ifCond .eq 7, 3) := by decide +kernel
theorem dX4_close_115 : decode cX4_close 115 = .ok (.iconst 1, 1) := by decide +kernel
theorem dX4_close_116 : decode cX4_close 116 = .ok (.goto 4, 3) := by decide +kernel
theorem dX4_close_119 : decode cX4_close 119 = .ok (.iconst 0, 1) := by decide +kernel
theorem dX4_close_120 : decode cX4_close 120 = .ok (.iconst 1, 1) := by decide +kernel
theorem dX4_close_121 : decode cX4_close 121 = .ok (.invokevirtual 70, 3) := by decide +kernel
theorem dX4_close_124 : decode cX4_close 124 = .ok (.ifCond .ne 5, 3) := by decide +kernel
theorem dX4_close_127 : decode cX4_close 127 = .ok (.iconst 0, 1) := by decide +kernel
theorem dX4_close_128 : decode cX4_close 128 = .ok (.ireturn, 1) := by decide +kernel
theorem dX4_close_129 : decode cX4_close 129 = .ok (.aload_n 0, 1) := by decide +kernel
theorem dX4_close_130 : decode cX4_close 130 = .ok (.getfield 37, 3) := by decide +kernel
theorem dX4_close_133 : decode cX4_close 133 = .ok (.iload_n 1, 1) := by decide +kernel
theorem dX4_close_134 : decode cX4_close 134 = .ok (.iconst 1, 1) := by decide +kernel
theorem dX4_close_135 : decode cX4_close 135 = .ok (.iastore, 1) := by decide +kernel
theorem dX4_close_136 : decode cX4_close 136 = .ok (.iload_n 3, 1) := by decide +kernel
theorem dX4_close_137 : decode cX4_close 137 = .ok (.ireturn, 1) := by decide +kernel
theorem dX4_agrees_0 : decode cX4_agrees 0 = .ok (.aload_n 0, 1) := by decide +kernel
theorem dX4_agrees_1 : decode cX4_agrees 1 = .ok (.iload_n 1, 1) := by decide +kernel
theorem dX4_agrees_2 : decode cX4_agrees 2 = .ok (.iload_n 2, 1) := by decide +kernel
theorem dX4_agrees_3 : decode cX4_agrees 3 = .ok (.invokestatic 81, 3) := by decide +kernel
theorem dX4_agrees_6 : decode cX4_agrees 6 = .ok (.invokevirtual 85, 3) := by decide +kernel
theorem dX4_agrees_9 : decode cX4_agrees 9 = .ok (.iconst (-1), 1) := by decide +kernel
theorem dX4_agrees_10 : decode cX4_agrees 10 = .ok (.if_icmp .eq 7, 3) := by decide +kernel
theorem dX4_agrees_13 : decode cX4_agrees 13 = .ok (.iconst 1, 1) := by decide +kernel
theorem dX4_agrees_14 : decode cX4_agrees 14 = .ok (.goto 4, 3) := by decide +kernel
theorem dX4_agrees_17 : decode cX4_agrees 17 = .ok (.iconst 0, 1) := by decide +kernel
theorem dX4_agrees_18 : decode cX4_agrees 18 = .ok (.ireturn, 1) := by decide +kernel
theorem dX4_gapOf_0 : decode cX4_gapOf 0 = .ok (.iload_n 1, 1) := by decide +kernel
theorem dX4_gapOf_1 : decode cX4_gapOf 1 = .ok (.iload_n 2, 1) := by decide +kernel
theorem dX4_gapOf_2 : decode cX4_gapOf 2 = .ok (.invokestatic 81, 3) := by decide +kernel
theorem dX4_gapOf_5 : decode cX4_gapOf 5 = .ok (.istore_n 3, 1) := by decide +kernel
theorem dX4_gapOf_6 : decode cX4_gapOf 6 = .ok (.aload_n 0, 1) := by decide +kernel
theorem dX4_gapOf_7 : decode cX4_gapOf 7 = .ok (.getfield 43, 3) := by decide +kernel
theorem dX4_gapOf_10 : decode cX4_gapOf 10 = .ok (.iload_n 3, 1) := by decide +kernel
theorem dX4_gapOf_11 : decode cX4_gapOf 11 = .ok (.iaload, 1) := by decide +kernel
theorem dX4_gapOf_12 : decode cX4_gapOf 12 = .ok (.ifCond .le 12, 3) := by decide +kernel
theorem dX4_gapOf_15 : decode cX4_gapOf 15 = .ok (.aload_n 0, 1) := by decide +kernel
theorem dX4_gapOf_16 : decode cX4_gapOf 16 = .ok (.getfield 46, 3) := by decide +kernel
theorem dX4_gapOf_19 : decode cX4_gapOf 19 = .ok (.iload_n 3, 1) := by decide +kernel
theorem dX4_gapOf_20 : decode cX4_gapOf 20 = .ok (.iaload, 1) := by decide +kernel
theorem dX4_gapOf_21 : decode cX4_gapOf 21 = .ok (.goto 26, 3) := by decide +kernel
theorem dX4_gapOf_24 : decode cX4_gapOf 24 = .ok (.aload_n 0, 1) := by decide +kernel
theorem dX4_gapOf_25 : decode cX4_gapOf 25 = .ok (.iload_n 3, 1) := by decide +kernel
theorem dX4_gapOf_26 : decode cX4_gapOf 26 = .ok (.invokevirtual 85, 3) := by decide +kernel
theorem dX4_gapOf_29 : decode cX4_gapOf 29 = .ok (.aload_n 0, 1) := by decide +kernel
theorem dX4_gapOf_30 : decode cX4_gapOf 30 = .ok (.aload_n 0, 1) := by decide +kernel
theorem dX4_gapOf_31 : decode cX4_gapOf 31 = .ok (.getfield 31, 3) := by decide +kernel
theorem dX4_gapOf_34 : decode cX4_gapOf 34 = .ok (.iload_n 1, 1) := by decide +kernel
theorem dX4_gapOf_35 : decode cX4_gapOf 35 = .ok (.iaload, 1) := by decide +kernel
theorem dX4_gapOf_36 : decode cX4_gapOf 36 = .ok (.iload_n 2, 1) := by decide +kernel
theorem dX4_gapOf_37 : decode cX4_gapOf 37 = .ok (.aload_n 0, 1) := by decide +kernel
theorem dX4_gapOf_38 : decode cX4_gapOf 38 = .ok (.getfield 34, 3) := by decide +kernel
theorem dX4_gapOf_41 : decode cX4_gapOf 41 = .ok (.iload_n 1, 1) := by decide +kernel
theorem dX4_gapOf_42 : decode cX4_gapOf 42 = .ok (.iaload, 1) := by decide +kernel
theorem dX4_gapOf_43 : decode cX4_gapOf 43 = .ok (.invokevirtual 103, 3) := by decide +kernel
theorem dX4_gapOf_46 : decode cX4_gapOf 46 = .ok (.isub, 1) := by decide +kernel
theorem dX4_gapOf_47 : decode cX4_gapOf 47 = .ok (.ireturn, 1) := by decide +kernel
theorem dX4_signs_0 : decode cX4_signs 0 = .ok (.aload_n 0, 1) := by decide +kernel
theorem dX4_signs_1 : decode cX4_signs 1 = .ok (.dup, 1) := by decide +kernel
theorem dX4_signs_2 : decode cX4_signs 2 = .ok (.getfield 107, 3) := by decide +kernel
theorem dX4_signs_5 : decode cX4_signs 5 = .ok (.iconst 1, 1) := by decide +kernel
theorem dX4_signs_6 : decode cX4_signs 6 = .ok (.iadd, 1) := by decide +kernel
theorem dX4_signs_7 : decode cX4_signs 7 = .ok (.putfield 107, 3) := by decide +kernel
theorem dX4_signs_10 : decode cX4_signs 10 = .ok (.aload_n 0, 1) := by decide +kernel
theorem dX4_signs_11 : decode cX4_signs 11 = .ok (.getfield 43, 3) := by decide +kernel
theorem dX4_signs_14 : decode cX4_signs 14 = .ok (.iload_n 1, 1) := by decide +kernel
theorem dX4_signs_15 : decode cX4_signs 15 = .ok (.iload_n 2, 1) := by decide +kernel
theorem dX4_signs_16 : decode cX4_signs 16 = .ok (.invokestatic 81, 3) := by decide +kernel
theorem dX4_signs_19 : decode cX4_signs 19 = .ok (.aload_n 0, 1) := by decide +kernel
theorem dX4_signs_20 : decode cX4_signs 20 = .ok (.getfield 107, 3) := by decide +kernel
theorem dX4_signs_23 : decode cX4_signs 23 = .ok (.iastore, 1) := by decide +kernel
theorem dX4_signs_24 : decode cX4_signs 24 = .ok (.aload_n 0, 1) := by decide +kernel
theorem dX4_signs_25 : decode cX4_signs 25 = .ok (.getfield 46, 3) := by decide +kernel
theorem dX4_signs_28 : decode cX4_signs 28 = .ok (.iload_n 1, 1) := by decide +kernel
theorem dX4_signs_29 : decode cX4_signs 29 = .ok (.iload_n 2, 1) := by decide +kernel
theorem dX4_signs_30 : decode cX4_signs 30 = .ok (.invokestatic 81, 3) := by decide +kernel
theorem dX4_signs_33 : decode cX4_signs 33 = .ok (.iload_n 3, 1) := by decide +kernel
theorem dX4_signs_34 : decode cX4_signs 34 = .ok (.iastore, 1) := by decide +kernel
theorem dX4_signs_35 : decode cX4_signs 35 = .ok (.return_, 1) := by decide +kernel
theorem dX4_sign_0 : decode cX4_sign 0 = .ok (.aload_n 0, 1) := by decide +kernel
theorem dX4_sign_1 : decode cX4_sign 1 = .ok (.iload_n 1, 1) := by decide +kernel
theorem dX4_sign_2 : decode cX4_sign 2 = .ok (.invokevirtual 95, 3) := by decide +kernel
theorem dX4_sign_5 : decode cX4_sign 5 = .ok (.ifCond .eq 23, 3) := by decide +kernel
theorem dX4_sign_8 : decode cX4_sign 8 = .ok (.iload_n 2, 1) := by decide +kernel
theorem dX4_sign_9 : decode cX4_sign 9 = .ok (.invokestatic 66, 3) := by decide +kernel
theorem dX4_sign_12 : decode cX4_sign 12 = .ok (.ifCond .eq 16, 3) := by decide +kernel
theorem dX4_sign_15 : decode cX4_sign 15 = .ok (.iload_n 3, 1) := by decide +kernel
theorem dX4_sign_16 : decode cX4_sign 16 = .ok (.iconst 0, 1) := by decide +kernel
theorem dX4_sign_17 : decode cX4_sign 17 = .ok (.iconst 5, 1) := by decide +kernel
theorem dX4_sign_18 : decode cX4_sign 18 = .ok (.invokestatic 59, 3) := by decide +kernel
theorem dX4_sign_21 : decode cX4_sign 21 = .ok (.ifCond .eq 7, 3) := by decide +kernel
theorem dX4_sign_24 : decode cX4_sign 24 = .ok (.iconst 1, 1) := by decide +kernel
theorem dX4_sign_25 : decode cX4_sign 25 = .ok (.goto 4, 3) := by decide +kernel
theorem dX4_sign_28 : decode cX4_sign 28 = .ok (.iconst 0, 1) := by decide +kernel
theorem dX4_sign_29 : decode cX4_sign 29 = .ok (.istore 4, 2) := by decide +kernel
theorem dX4_sign_31 : decode cX4_sign 31 = .ok (.iload 4, 2) := by decide +kernel
theorem dX4_sign_33 : decode cX4_sign 33 = .ok (.ifCond .eq 16, 3) := by decide +kernel
theorem dX4_sign_36 : decode cX4_sign 36 = .ok (.aload_n 0, 1) := by decide +kernel
theorem dX4_sign_37 : decode cX4_sign 37 = .ok (.iload_n 1, 1) := by decide +kernel
theorem dX4_sign_38 : decode cX4_sign 38 = .ok (.iload_n 2, 1) := by decide +kernel
theorem dX4_sign_39 : decode cX4_sign 39 = .ok (.invokevirtual 110, 3) := by decide +kernel
theorem dX4_sign_42 : decode cX4_sign 42 = .ok (.ifCond .eq 7, 3) := by decide +kernel
theorem dX4_sign_45 : decode cX4_sign 45 = .ok (.iconst 1, 1) := by decide +kernel
theorem dX4_sign_46 : decode cX4_sign 46 = .ok (.goto 4, 3) := by decide +kernel
theorem dX4_sign_49 : decode cX4_sign 49 = .ok (.iconst 0, 1) := by decide +kernel
theorem dX4_sign_50 : decode cX4_sign 50 = .ok (.istore 5, 2) := by decide +kernel
theorem dX4_sign_52 : decode cX4_sign 52 = .ok (.iload 5, 2) := by decide +kernel
theorem dX4_sign_54 : decode cX4_sign 54 = .ok (.ifCond .eq 12, 3) := by decide +kernel
theorem dX4_sign_57 : decode cX4_sign 57 = .ok (.aload_n 0, 1) := by decide +kernel
theorem dX4_sign_58 : decode cX4_sign 58 = .ok (.iload_n 1, 1) := by decide +kernel
theorem dX4_sign_59 : decode cX4_sign 59 = .ok (.iload_n 2, 1) := by decide +kernel
theorem dX4_sign_60 : decode cX4_sign 60 = .ok (.invokevirtual 113, 3) := by decide +kernel
theorem dX4_sign_63 : decode cX4_sign 63 = .ok (.goto 4, 3) := by decide +kernel
theorem dX4_sign_66 : decode cX4_sign 66 = .ok (.iconst 0, 1) := by decide +kernel
theorem dX4_sign_67 : decode cX4_sign 67 = .ok (.istore 6, 2) := by decide +kernel
theorem dX4_sign_69 : decode cX4_sign 69 = .ok (.iload 6, 2) := by decide +kernel
theorem dX4_sign_71 : decode cX4_sign 71 = .ok (.ifCond .ge 9, 3) := by decide +kernel
theorem dX4_sign_74 : decode cX4_sign 74 = .ok (.iload 6, 2) := by decide +kernel
theorem dX4_sign_76 : decode cX4_sign 76 = .ok (.ineg, 1) := by decide +kernel
theorem dX4_sign_77 : decode cX4_sign 77 = .ok (.goto 5, 3) := by decide +kernel
theorem dX4_sign_80 : decode cX4_sign 80 = .ok (.iload 6, 2) := by decide +kernel
theorem dX4_sign_82 : decode cX4_sign 82 = .ok (.istore 7, 2) := by decide +kernel
theorem dX4_sign_84 : decode cX4_sign 84 = .ok (.iload 5, 2) := by decide +kernel
theorem dX4_sign_86 : decode cX4_sign 86 = .ok (.ifCond .eq 48, 3) := by decide +kernel
theorem dX4_sign_89 : decode cX4_sign 89 = .ok (.aload_n 0, 1) := by decide +kernel
theorem dX4_sign_90 : decode cX4_sign 90 = .ok (.getfield 37, 3) := by decide +kernel
theorem dX4_sign_93 : decode cX4_sign 93 = .ok (.iload_n 1, 1) := by decide +kernel
theorem dX4_sign_94 : decode cX4_sign 94 = .ok (.iaload, 1) := by decide +kernel
theorem dX4_sign_95 : decode cX4_sign 95 = .ok (.iconst 1, 1) := by decide +kernel
theorem dX4_sign_96 : decode cX4_sign 96 = .ok (.if_icmp .ne 38, 3) := by decide +kernel
theorem dX4_sign_99 : decode cX4_sign 99 = .ok (.aload_n 0, 1) := by decide +kernel
theorem dX4_sign_100 : decode cX4_sign 100 = .ok (.getfield 43, 3) := by decide +kernel
theorem dX4_sign_103 : decode cX4_sign 103 = .ok (.iload_n 1, 1) := by decide +kernel
theorem dX4_sign_104 : decode cX4_sign 104 = .ok (.iload_n 2, 1) := by decide +kernel
theorem dX4_sign_105 : decode cX4_sign 105 = .ok (.invokestatic 81, 3) := by decide +kernel
theorem dX4_sign_108 : decode cX4_sign 108 = .ok (.iaload, 1) := by decide +kernel
theorem dX4_sign_109 : decode cX4_sign 109 = .ok (.ifCond .ne 25, 3) := by decide +kernel
theorem dX4_sign_112 : decode cX4_sign 112 = .ok (.aload_n 0, 1) := by decide +kernel
theorem dX4_sign_113 : decode cX4_sign 113 = .ok (.getfield 13, 3) := by decide +kernel
theorem dX4_sign_116 : decode cX4_sign 116 = .ok (.iload_n 3, 1) := by decide +kernel
theorem dX4_sign_117 : decode cX4_sign 117 = .ok (.iaload, 1) := by decide +kernel
theorem dX4_sign_118 : decode cX4_sign 118 = .ok (.aload_n 0, 1) := by decide +kernel
theorem dX4_sign_119 : decode cX4_sign 119 = .ok (.getfield 7, 3) := by decide +kernel
theorem dX4_sign_122 : decode cX4_sign 122 = .ok (.iload_n 2, 1) := by decide +kernel
theorem dX4_sign_123 : decode cX4_sign 123 = .ok (.iaload, 1) := by decide +kernel
theorem dX4_sign_124 : decode cX4_sign 124 = .ok (.iload 7, 2) := by decide +kernel
theorem dX4_sign_126 : decode cX4_sign 126 = .ok (.imul, 1) := by decide +kernel
theorem dX4_sign_127 : decode cX4_sign 127 = .ok (.if_icmp .lt 7, 3) := by decide +kernel
theorem dX4_sign_130 : decode cX4_sign 130 = .ok (.iconst 1, 1) := by decide +kernel
theorem dX4_sign_131 : decode cX4_sign 131 = .ok (.goto 4, 3) := by decide +kernel
theorem dX4_sign_134 : decode cX4_sign 134 = .ok (.iconst 0, 1) := by decide +kernel
theorem dX4_sign_135 : decode cX4_sign 135 = .ok (.istore 8, 2) := by decide +kernel
theorem dX4_sign_137 : decode cX4_sign 137 = .ok (.aload_n 0, 1) := by decide +kernel
theorem dX4_sign_138 : decode cX4_sign 138 = .ok (.iload 4, 2) := by decide +kernel
theorem dX4_sign_140 : decode cX4_sign 140 = .ok (.iload 5, 2) := by decide +kernel
theorem dX4_sign_142 : decode cX4_sign 142 = .ok (.iload 8, 2) := by decide +kernel
theorem dX4_sign_144 : decode cX4_sign 144 = .ok (.invokevirtual 70, 3) := by decide +kernel
theorem dX4_sign_147 : decode cX4_sign 147 = .ok (.ifCond .ne 5, 3) := by decide +kernel
theorem dX4_sign_150 : decode cX4_sign 150 = .ok (.iconst 0, 1) := by decide +kernel
theorem dX4_sign_151 : decode cX4_sign 151 = .ok (.ireturn, 1) := by decide +kernel
theorem dX4_sign_152 : decode cX4_sign 152 = .ok (.aload_n 0, 1) := by decide +kernel
theorem dX4_sign_153 : decode cX4_sign 153 = .ok (.iload_n 1, 1) := by decide +kernel
theorem dX4_sign_154 : decode cX4_sign 154 = .ok (.iload_n 2, 1) := by decide +kernel
theorem dX4_sign_155 : decode cX4_sign 155 = .ok (.iload 6, 2) := by decide +kernel
theorem dX4_sign_157 : decode cX4_sign 157 = .ok (.invokevirtual 116, 3) := by decide +kernel
theorem dX4_sign_160 : decode cX4_sign 160 = .ok (.iload 6, 2) := by decide +kernel
theorem dX4_sign_162 : decode cX4_sign 162 = .ok (.ireturn, 1) := by decide +kernel
theorem dX4_canSettle_0 : decode cX4_canSettle 0 = .ok (.aload_n 0, 1) := by decide +kernel
theorem dX4_canSettle_1 : decode cX4_canSettle 1 = .ok (.getfield 37, 3) := by decide +kernel
theorem dX4_canSettle_4 : decode cX4_canSettle 4 = .ok (.iload_n 1, 1) := by decide +kernel
theorem dX4_canSettle_5 : decode cX4_canSettle 5 = .ok (.iaload, 1) := by decide +kernel
theorem dX4_canSettle_6 : decode cX4_canSettle 6 = .ok (.iconst 1, 1) := by decide +kernel
theorem dX4_canSettle_7 : decode cX4_canSettle 7 = .ok (.if_icmp .ne 32, 3) := by decide +kernel
theorem dX4_canSettle_10 : decode cX4_canSettle 10 = .ok (.aload_n 0, 1) := by decide +kernel
theorem dX4_canSettle_11 : decode cX4_canSettle 11 = .ok (.getfield 37, 3) := by decide +kernel
theorem dX4_canSettle_14 : decode cX4_canSettle 14 = .ok (.iload_n 2, 1) := by decide +kernel
theorem dX4_canSettle_15 : decode cX4_canSettle 15 = .ok (.iaload, 1) := by decide +kernel
theorem dX4_canSettle_16 : decode cX4_canSettle 16 = .ok (.iconst 1, 1) := by decide +kernel
theorem dX4_canSettle_17 : decode cX4_canSettle 17 = .ok (.if_icmp .ne 22, 3) := by decide +kernel
theorem dX4_canSettle_20 : decode cX4_canSettle 20 = .ok (.aload_n 0, 1) := by decide +kernel
theorem dX4_canSettle_21 : decode cX4_canSettle 21 = .ok (.getfield 31, 3) := by decide +kernel
theorem dX4_canSettle_24 : decode cX4_canSettle 24 = .ok (.iload_n 1, 1) := by decide +kernel
theorem dX4_canSettle_25 : decode cX4_canSettle 25 = .ok (.iaload, 1) := by decide +kernel
theorem dX4_canSettle_26 : decode cX4_canSettle 26 = .ok (.aload_n 0, 1) := by decide +kernel
theorem dX4_canSettle_27 : decode cX4_canSettle 27 = .ok (.getfield 31, 3) := by decide +kernel
theorem dX4_canSettle_30 : decode cX4_canSettle 30 = .ok (.iload_n 2, 1) := by decide +kernel
theorem dX4_canSettle_31 : decode cX4_canSettle 31 = .ok (.iaload, 1) := by decide +kernel
theorem dX4_canSettle_32 : decode cX4_canSettle 32 = .ok (.if_icmp .eq 7, 3) := by decide +kernel
theorem dX4_canSettle_35 : decode cX4_canSettle 35 = .ok (.iconst 1, 1) := by decide +kernel
theorem dX4_canSettle_36 : decode cX4_canSettle 36 = .ok (.goto 4, 3) := by decide +kernel
theorem dX4_canSettle_39 : decode cX4_canSettle 39 = .ok (.iconst 0, 1) := by decide +kernel
theorem dX4_canSettle_40 : decode cX4_canSettle 40 = .ok (.istore 4, 2) := by decide +kernel
theorem dX4_canSettle_42 : decode cX4_canSettle 42 = .ok (.iload 4, 2) := by decide +kernel
theorem dX4_canSettle_44 : decode cX4_canSettle 44 = .ok (.ifCond .eq 33, 3) := by decide +kernel
theorem dX4_canSettle_47 : decode cX4_canSettle 47 = .ok (.aload_n 0, 1) := by decide +kernel
theorem dX4_canSettle_48 : decode cX4_canSettle 48 = .ok (.getfield 43, 3) := by decide +kernel
theorem dX4_canSettle_51 : decode cX4_canSettle 51 = .ok (.iload_n 1, 1) := by decide +kernel
theorem dX4_canSettle_52 : decode cX4_canSettle 52 = .ok (.iload_n 3, 1) := by decide +kernel
theorem dX4_canSettle_53 : decode cX4_canSettle 53 = .ok (.invokestatic 81, 3) := by decide +kernel
theorem dX4_canSettle_56 : decode cX4_canSettle 56 = .ok (.iaload, 1) := by decide +kernel
theorem dX4_canSettle_57 : decode cX4_canSettle 57 = .ok (.ifCond .ne 20, 3) := by decide +kernel
theorem dX4_canSettle_60 : decode cX4_canSettle 60 = .ok (.aload_n 0, 1) := by decide +kernel
theorem dX4_canSettle_61 : decode cX4_canSettle 61 = .ok (.getfield 43, 3) := by decide +kernel
theorem dX4_canSettle_64 : decode cX4_canSettle 64 = .ok (.iload_n 2, 1) := by decide +kernel
theorem dX4_canSettle_65 : decode cX4_canSettle 65 = .ok (.iload_n 3, 1) := by decide +kernel
theorem dX4_canSettle_66 : decode cX4_canSettle 66 = .ok (.invokestatic 81, 3) := by decide +kernel
theorem dX4_canSettle_69 : decode cX4_canSettle 69 = .ok (.iaload, 1) := by decide +kernel
theorem dX4_canSettle_70 : decode cX4_canSettle 70 = .ok (.ifCond .ne 7, 3) := by decide +kernel
theorem dX4_canSettle_73 : decode cX4_canSettle 73 = .ok (.iconst 1, 1) := by decide +kernel
theorem dX4_canSettle_74 : decode cX4_canSettle 74 = .ok (.goto 4, 3) := by decide +kernel
theorem dX4_canSettle_77 : decode cX4_canSettle 77 = .ok (.iconst 0, 1) := by decide +kernel
theorem dX4_canSettle_78 : decode cX4_canSettle 78 = .ok (.istore 4, 2) := by decide +kernel
theorem dX4_canSettle_80 : decode cX4_canSettle 80 = .ok (.iload 4, 2) := by decide +kernel
theorem dX4_canSettle_82 : decode cX4_canSettle 82 = .ok (.ifCond .eq 32, 3) := by decide +kernel
theorem dX4_canSettle_85 : decode cX4_canSettle 85 = .ok (.aload_n 0, 1) := by decide +kernel
theorem dX4_canSettle_86 : decode cX4_canSettle 86 = .ok (.iload_n 1, 1) := by decide +kernel
theorem dX4_canSettle_87 : decode cX4_canSettle 87 = .ok (.iload_n 3, 1) := by decide +kernel
theorem dX4_canSettle_88 : decode cX4_canSettle 88 = .ok (.invokevirtual 113, 3) := by decide +kernel
theorem dX4_canSettle_91 : decode cX4_canSettle 91 = .ok (.ifCond .eq 23, 3) := by decide +kernel
theorem dX4_canSettle_94 : decode cX4_canSettle 94 = .ok (.aload_n 0, 1) := by decide +kernel
theorem dX4_canSettle_95 : decode cX4_canSettle 95 = .ok (.iload_n 1, 1) := by decide +kernel
theorem dX4_canSettle_96 : decode cX4_canSettle 96 = .ok (.iload_n 3, 1) := by decide +kernel
theorem dX4_canSettle_97 : decode cX4_canSettle 97 = .ok (.invokevirtual 113, 3) := by decide +kernel
theorem dX4_canSettle_100 : decode cX4_canSettle 100 = .ok (.aload_n 0, 1) := by decide +kernel
theorem dX4_canSettle_101 : decode cX4_canSettle 101 = .ok (.iload_n 2, 1) := by decide +kernel
theorem dX4_canSettle_102 : decode cX4_canSettle 102 = .ok (.iload_n 3, 1) := by decide +kernel
theorem dX4_canSettle_103 : decode cX4_canSettle 103 = .ok (.invokevirtual 113, 3) := by decide +kernel
theorem dX4_canSettle_106 : decode cX4_canSettle 106 = .ok (.iadd, 1) := by decide +kernel
theorem dX4_canSettle_107 : decode cX4_canSettle 107 = .ok (.ifCond .ne 7, 3) := by decide +kernel
theorem dX4_canSettle_110 : decode cX4_canSettle 110 = .ok (.iconst 1, 1) := by decide +kernel
theorem dX4_canSettle_111 : decode cX4_canSettle 111 = .ok (.goto 4, 3) := by decide +kernel
theorem dX4_canSettle_114 : decode cX4_canSettle 114 = .ok (.iconst 0, 1) := by decide +kernel
theorem dX4_canSettle_115 : decode cX4_canSettle 115 = .ok (.ireturn, 1) := by decide +kernel
theorem dX4_settle_0 : decode cX4_settle 0 = .ok (.aload_n 0, 1) := by decide +kernel
theorem dX4_settle_1 : decode cX4_settle 1 = .ok (.iload_n 1, 1) := by decide +kernel
theorem dX4_settle_2 : decode cX4_settle 2 = .ok (.invokevirtual 95, 3) := by decide +kernel
theorem dX4_settle_5 : decode cX4_settle 5 = .ok (.ifCond .eq 22, 3) := by decide +kernel
theorem dX4_settle_8 : decode cX4_settle 8 = .ok (.aload_n 0, 1) := by decide +kernel
theorem dX4_settle_9 : decode cX4_settle 9 = .ok (.iload_n 2, 1) := by decide +kernel
theorem dX4_settle_10 : decode cX4_settle 10 = .ok (.invokevirtual 95, 3) := by decide +kernel
theorem dX4_settle_13 : decode cX4_settle 13 = .ok (.ifCond .eq 14, 3) := by decide +kernel
theorem dX4_settle_16 : decode cX4_settle 16 = .ok (.iload_n 3, 1) := by decide +kernel
theorem dX4_settle_17 : decode cX4_settle 17 = .ok (.invokestatic 66, 3) := by decide +kernel
theorem dX4_settle_20 : decode cX4_settle 20 = .ok (.ifCond .eq 7, 3) := by decide +kernel
theorem dX4_settle_23 : decode cX4_settle 23 = .ok (.iconst 1, 1) := by decide +kernel
theorem dX4_settle_24 : decode cX4_settle 24 = .ok (.goto 4, 3) := by decide +kernel
theorem dX4_settle_27 : decode cX4_settle 27 = .ok (.iconst 0, 1) := by decide +kernel
theorem dX4_settle_28 : decode cX4_settle 28 = .ok (.istore 4, 2) := by decide +kernel
theorem dX4_settle_30 : decode cX4_settle 30 = .ok (.iload 4, 2) := by decide +kernel
theorem dX4_settle_32 : decode cX4_settle 32 = .ok (.ifCond .eq 25, 3) := by decide +kernel
theorem dX4_settle_35 : decode cX4_settle 35 = .ok (.aload_n 0, 1) := by decide +kernel
theorem dX4_settle_36 : decode cX4_settle 36 = .ok (.iload_n 1, 1) := by decide +kernel
theorem dX4_settle_37 : decode cX4_settle 37 = .ok (.iload_n 3, 1) := by decide +kernel
theorem dX4_settle_38 : decode cX4_settle 38 = .ok (.invokevirtual 110, 3) := by decide +kernel
theorem dX4_settle_41 : decode cX4_settle 41 = .ok (.ifCond .eq 16, 3) := by decide +kernel
theorem dX4_settle_44 : decode cX4_settle 44 = .ok (.aload_n 0, 1) := by decide +kernel
theorem dX4_settle_45 : decode cX4_settle 45 = .ok (.iload_n 2, 1) := by decide +kernel
theorem dX4_settle_46 : decode cX4_settle 46 = .ok (.iload_n 3, 1) := by decide +kernel
theorem dX4_settle_47 : decode cX4_settle 47 = .ok (.invokevirtual 110, 3) := by decide +kernel
theorem dX4_settle_50 : decode cX4_settle 50 = .ok (.ifCond .eq 7, 3) := by decide +kernel
theorem dX4_settle_53 : decode cX4_settle 53 = .ok (.iconst 1, 1) := by decide +kernel
theorem dX4_settle_54 : decode cX4_settle 54 = .ok (.goto 4, 3) := by decide +kernel
theorem dX4_settle_57 : decode cX4_settle 57 = .ok (.iconst 0, 1) := by decide +kernel
theorem dX4_settle_58 : decode cX4_settle 58 = .ok (.istore 5, 2) := by decide +kernel
theorem dX4_settle_60 : decode cX4_settle 60 = .ok (.aload_n 0, 1) := by decide +kernel
theorem dX4_settle_61 : decode cX4_settle 61 = .ok (.iload 4, 2) := by decide +kernel
theorem dX4_settle_63 : decode cX4_settle 63 = .ok (.iload 5, 2) := by decide +kernel
theorem dX4_settle_65 : decode cX4_settle 65 = .ok (.iload 5, 2) := by decide +kernel
theorem dX4_settle_67 : decode cX4_settle 67 = .ok (.ifCond .eq 17, 3) := by decide +kernel
theorem dX4_settle_70 : decode cX4_settle 70 = .ok (.aload_n 0, 1) := by decide +kernel
theorem dX4_settle_71 : decode cX4_settle 71 = .ok (.iload_n 1, 1) := by decide +kernel
theorem dX4_settle_72 : decode cX4_settle 72 = .ok (.iload_n 2, 1) := by decide +kernel
theorem dX4_settle_73 : decode cX4_settle 73 = .ok (.iload_n 3, 1) := by decide +kernel
theorem dX4_settle_74 : decode cX4_settle 74 = .ok (.invokevirtual 120, 3) := by decide +kernel
theorem dX4_settle_77 : decode cX4_settle 77 = .ok (.ifCond .eq 7, 3) := by decide +kernel
theorem dX4_settle_80 : decode cX4_settle 80 = .ok (.iconst 1, 1) := by decide +kernel
theorem dX4_settle_81 : decode cX4_settle 81 = .ok (.goto 4, 3) := by decide +kernel
theorem dX4_settle_84 : decode cX4_settle 84 = .ok (.iconst 0, 1) := by decide +kernel
theorem dX4_settle_85 : decode cX4_settle 85 = .ok (.invokevirtual 70, 3) := by decide +kernel
theorem dX4_settle_88 : decode cX4_settle 88 = .ok (.ifCond .ne 5, 3) := by decide +kernel
theorem dX4_settle_91 : decode cX4_settle 91 = .ok (.iconst 0, 1) := by decide +kernel
theorem dX4_settle_92 : decode cX4_settle 92 = .ok (.ireturn, 1) := by decide +kernel
theorem dX4_settle_93 : decode cX4_settle 93 = .ok (.aload_n 0, 1) := by decide +kernel
theorem dX4_settle_94 : decode cX4_settle 94 = .ok (.iload_n 1, 1) := by decide +kernel
theorem dX4_settle_95 : decode cX4_settle 95 = .ok (.iload_n 3, 1) := by decide +kernel
theorem dX4_settle_96 : decode cX4_settle 96 = .ok (.invokevirtual 113, 3) := by decide +kernel
theorem dX4_settle_99 : decode cX4_settle 99 = .ok (.istore 6, 2) := by decide +kernel
theorem dX4_settle_101 : decode cX4_settle 101 = .ok (.aload_n 0, 1) := by decide +kernel
theorem dX4_settle_102 : decode cX4_settle 102 = .ok (.iload_n 1, 1) := by decide +kernel
theorem dX4_settle_103 : decode cX4_settle 103 = .ok (.iload_n 3, 1) := by decide +kernel
theorem dX4_settle_104 : decode cX4_settle 104 = .ok (.iload 6, 2) := by decide +kernel
theorem dX4_settle_106 : decode cX4_settle 106 = .ok (.invokevirtual 116, 3) := by decide +kernel
theorem dX4_settle_109 : decode cX4_settle 109 = .ok (.aload_n 0, 1) := by decide +kernel
theorem dX4_settle_110 : decode cX4_settle 110 = .ok (.iload_n 2, 1) := by decide +kernel
theorem dX4_settle_111 : decode cX4_settle 111 = .ok (.iload_n 3, 1) := by decide +kernel
theorem dX4_settle_112 : decode cX4_settle 112 = .ok (.iload 6, 2) := by decide +kernel
theorem dX4_settle_114 : decode cX4_settle 114 = .ok (.ineg, 1) := by decide +kernel
theorem dX4_settle_115 : decode cX4_settle 115 = .ok (.invokevirtual 116, 3) := by decide +kernel
theorem dX4_settle_118 : decode cX4_settle 118 = .ok (.iload 6, 2) := by decide +kernel
theorem dX4_settle_120 : decode cX4_settle 120 = .ok (.ifCond .le 8, 3) := by decide +kernel
theorem dX4_settle_123 : decode cX4_settle 123 = .ok (.iload 6, 2) := by decide +kernel
theorem dX4_settle_125 : decode cX4_settle 125 = .ok (.goto 6, 3) := by decide +kernel
theorem dX4_settle_128 : decode cX4_settle 128 = .ok (.iload 6, 2) := by decide +kernel
theorem dX4_settle_130 : decode cX4_settle 130 = .ok (.ineg, 1) := by decide +kernel
theorem dX4_settle_131 : decode cX4_settle 131 = .ok (.ireturn, 1) := by decide +kernel
theorem dX4_now_0 : decode cX4_now 0 = .ok (.aload_n 0, 1) := by decide +kernel
theorem dX4_now_1 : decode cX4_now 1 = .ok (.aload_n 0, 1) := by decide +kernel
theorem dX4_now_2 : decode cX4_now 2 = .ok (.getfield 75, 3) := by decide +kernel
theorem dX4_now_5 : decode cX4_now 5 = .ok (.invokevirtual 123, 3) := by decide +kernel
theorem dX4_now_8 : decode cX4_now 8 = .ok (.ireturn, 1) := by decide +kernel
theorem dX4_moves_0 : decode cX4_moves 0 = .ok (.aload_n 0, 1) := by decide +kernel
theorem dX4_moves_1 : decode cX4_moves 1 = .ok (.aload_n 0, 1) := by decide +kernel
theorem dX4_moves_2 : decode cX4_moves 2 = .ok (.getfield 78, 3) := by decide +kernel
theorem dX4_moves_5 : decode cX4_moves 5 = .ok (.invokevirtual 123, 3) := by decide +kernel
theorem dX4_moves_8 : decode cX4_moves 8 = .ok (.ireturn, 1) := by decide +kernel
theorem dX4_book_0 : decode cX4_book 0 = .ok (.aload_n 0, 1) := by decide +kernel
theorem dX4_book_1 : decode cX4_book 1 = .ok (.iload_n 1, 1) := by decide +kernel
theorem dX4_book_2 : decode cX4_book 2 = .ok (.invokestatic 89, 3) := by decide +kernel
theorem dX4_book_5 : decode cX4_book 5 = .ok (.ifCond .eq 14, 3) := by decide +kernel
theorem dX4_book_8 : decode cX4_book 8 = .ok (.iload_n 2, 1) := by decide +kernel
theorem dX4_book_9 : decode cX4_book 9 = .ok (.invokestatic 66, 3) := by decide +kernel
theorem dX4_book_12 : decode cX4_book 12 = .ok (.ifCond .eq 7, 3) := by decide +kernel
theorem dX4_book_15 : decode cX4_book 15 = .ok (.iconst 1, 1) := by decide +kernel
theorem dX4_book_16 : decode cX4_book 16 = .ok (.goto 4, 3) := by decide +kernel
theorem dX4_book_19 : decode cX4_book 19 = .ok (.iconst 0, 1) := by decide +kernel
theorem dX4_book_20 : decode cX4_book 20 = .ok (.iconst 1, 1) := by decide +kernel
theorem dX4_book_21 : decode cX4_book 21 = .ok (.iconst 1, 1) := by decide +kernel
theorem dX4_book_22 : decode cX4_book 22 = .ok (.invokevirtual 70, 3) := by decide +kernel
theorem dX4_book_25 : decode cX4_book 25 = .ok (.ifCond .eq 16, 3) := by decide +kernel
theorem dX4_book_28 : decode cX4_book 28 = .ok (.aload_n 0, 1) := by decide +kernel
theorem dX4_book_29 : decode cX4_book 29 = .ok (.iload_n 1, 1) := by decide +kernel
theorem dX4_book_30 : decode cX4_book 30 = .ok (.iload_n 2, 1) := by decide +kernel
theorem dX4_book_31 : decode cX4_book 31 = .ok (.aload_n 0, 1) := by decide +kernel
theorem dX4_book_32 : decode cX4_book 32 = .ok (.getfield 75, 3) := by decide +kernel
theorem dX4_book_35 : decode cX4_book 35 = .ok (.invokevirtual 103, 3) := by decide +kernel
theorem dX4_book_38 : decode cX4_book 38 = .ok (.goto 4, 3) := by decide +kernel
theorem dX4_book_41 : decode cX4_book 41 = .ok (.iconst 0, 1) := by decide +kernel
theorem dX4_book_42 : decode cX4_book 42 = .ok (.ireturn, 1) := by decide +kernel
theorem dX4_bookAt_0 : decode cX4_bookAt 0 = .ok (.aload_n 0, 1) := by decide +kernel
theorem dX4_bookAt_1 : decode cX4_bookAt 1 = .ok (.iload_n 1, 1) := by decide +kernel
theorem dX4_bookAt_2 : decode cX4_bookAt 2 = .ok (.invokestatic 89, 3) := by decide +kernel
theorem dX4_bookAt_5 : decode cX4_bookAt 5 = .ok (.ifCond .eq 14, 3) := by decide +kernel
theorem dX4_bookAt_8 : decode cX4_bookAt 8 = .ok (.iload_n 2, 1) := by decide +kernel
theorem dX4_bookAt_9 : decode cX4_bookAt 9 = .ok (.invokestatic 66, 3) := by decide +kernel
theorem dX4_bookAt_12 : decode cX4_bookAt 12 = .ok (.ifCond .eq 7, 3) := by decide +kernel
theorem dX4_bookAt_15 : decode cX4_bookAt 15 = .ok (.iconst 1, 1) := by decide +kernel
theorem dX4_bookAt_16 : decode cX4_bookAt 16 = .ok (.goto 4, 3) := by decide +kernel
theorem dX4_bookAt_19 : decode cX4_bookAt 19 = .ok (.iconst 0, 1) := by decide +kernel
theorem dX4_bookAt_20 : decode cX4_bookAt 20 = .ok (.iload_n 3, 1) := by decide +kernel
theorem dX4_bookAt_21 : decode cX4_bookAt 21 = .ok (.iconst 0, 1) := by decide +kernel
theorem dX4_bookAt_22 : decode cX4_bookAt 22 = .ok (.aload_n 0, 1) := by decide +kernel
theorem dX4_bookAt_23 : decode cX4_bookAt 23 = .ok (.getfield 75, 3) := by decide +kernel
theorem dX4_bookAt_26 : decode cX4_bookAt 26 = .ok (.invokestatic 59, 3) := by decide +kernel
theorem dX4_bookAt_29 : decode cX4_bookAt 29 = .ok (.iconst 1, 1) := by decide +kernel
theorem dX4_bookAt_30 : decode cX4_bookAt 30 = .ok (.invokevirtual 70, 3) := by decide +kernel
theorem dX4_bookAt_33 : decode cX4_bookAt 33 = .ok (.ifCond .eq 13, 3) := by decide +kernel
theorem dX4_bookAt_36 : decode cX4_bookAt 36 = .ok (.aload_n 0, 1) := by decide +kernel
theorem dX4_bookAt_37 : decode cX4_bookAt 37 = .ok (.iload_n 1, 1) := by decide +kernel
theorem dX4_bookAt_38 : decode cX4_bookAt 38 = .ok (.iload_n 2, 1) := by decide +kernel
theorem dX4_bookAt_39 : decode cX4_bookAt 39 = .ok (.iload_n 3, 1) := by decide +kernel
theorem dX4_bookAt_40 : decode cX4_bookAt 40 = .ok (.invokevirtual 103, 3) := by decide +kernel
theorem dX4_bookAt_43 : decode cX4_bookAt 43 = .ok (.goto 4, 3) := by decide +kernel
theorem dX4_bookAt_46 : decode cX4_bookAt 46 = .ok (.iconst 0, 1) := by decide +kernel
theorem dX4_bookAt_47 : decode cX4_bookAt 47 = .ok (.ireturn, 1) := by decide +kernel
theorem dX4_worthOf_0 : decode cX4_worthOf 0 = .ok (.iconst 0, 1) := by decide +kernel
theorem dX4_worthOf_1 : decode cX4_worthOf 1 = .ok (.istore_n 2, 1) := by decide +kernel
theorem dX4_worthOf_2 : decode cX4_worthOf 2 = .ok (.iconst 0, 1) := by decide +kernel
theorem dX4_worthOf_3 : decode cX4_worthOf 3 = .ok (.istore_n 3, 1) := by decide +kernel
theorem dX4_worthOf_4 : decode cX4_worthOf 4 = .ok (.iload_n 3, 1) := by decide +kernel
theorem dX4_worthOf_5 : decode cX4_worthOf 5 = .ok (.iconst 5, 1) := by decide +kernel
theorem dX4_worthOf_6 : decode cX4_worthOf 6 = .ok (.if_icmp .ge 42, 3) := by decide +kernel
theorem dX4_worthOf_9 : decode cX4_worthOf 9 = .ok (.aload_n 0, 1) := by decide +kernel
theorem dX4_worthOf_10 : decode cX4_worthOf 10 = .ok (.iload_n 1, 1) := by decide +kernel
theorem dX4_worthOf_11 : decode cX4_worthOf 11 = .ok (.iload_n 3, 1) := by decide +kernel
theorem dX4_worthOf_12 : decode cX4_worthOf 12 = .ok (.aload_n 0, 1) := by decide +kernel
theorem dX4_worthOf_13 : decode cX4_worthOf 13 = .ok (.getfield 75, 3) := by decide +kernel
theorem dX4_worthOf_16 : decode cX4_worthOf 16 = .ok (.invokevirtual 103, 3) := by decide +kernel
theorem dX4_worthOf_19 : decode cX4_worthOf 19 = .ok (.istore 4, 2) := by decide +kernel
theorem dX4_worthOf_21 : decode cX4_worthOf 21 = .ok (.iload_n 2, 1) := by decide +kernel
theorem dX4_worthOf_22 : decode cX4_worthOf 22 = .ok (.iload 4, 2) := by decide +kernel
theorem dX4_worthOf_24 : decode cX4_worthOf 24 = .ok (.ifCond .le 15, 3) := by decide +kernel
theorem dX4_worthOf_27 : decode cX4_worthOf 27 = .ok (.aload_n 0, 1) := by decide +kernel
theorem dX4_worthOf_28 : decode cX4_worthOf 28 = .ok (.getfield 7, 3) := by decide +kernel
theorem dX4_worthOf_31 : decode cX4_worthOf 31 = .ok (.iload_n 3, 1) := by decide +kernel
theorem dX4_worthOf_32 : decode cX4_worthOf 32 = .ok (.iaload, 1) := by decide +kernel
theorem dX4_worthOf_33 : decode cX4_worthOf 33 = .ok (.iload 4, 2) := by decide +kernel
theorem dX4_worthOf_35 : decode cX4_worthOf 35 = .ok (.imul, 1) := by decide +kernel
theorem dX4_worthOf_36 : decode cX4_worthOf 36 = .ok (.goto 4, 3) := by decide +kernel
theorem dX4_worthOf_39 : decode cX4_worthOf 39 = .ok (.iconst 0, 1) := by decide +kernel
theorem dX4_worthOf_40 : decode cX4_worthOf 40 = .ok (.iadd, 1) := by decide +kernel
theorem dX4_worthOf_41 : decode cX4_worthOf 41 = .ok (.istore_n 2, 1) := by decide +kernel
theorem dX4_worthOf_42 : decode cX4_worthOf 42 = .ok (.iinc 3 1, 3) := by decide +kernel
theorem dX4_worthOf_45 : decode cX4_worthOf 45 = .ok (.goto (-41), 3) := by decide +kernel
theorem dX4_worthOf_48 : decode cX4_worthOf 48 = .ok (.iload_n 2, 1) := by decide +kernel
theorem dX4_worthOf_49 : decode cX4_worthOf 49 = .ok (.ireturn, 1) := by decide +kernel
theorem dX4_worth_0 : decode cX4_worth 0 = .ok (.aload_n 0, 1) := by decide +kernel
theorem dX4_worth_1 : decode cX4_worth 1 = .ok (.iload_n 1, 1) := by decide +kernel
theorem dX4_worth_2 : decode cX4_worth 2 = .ok (.invokestatic 89, 3) := by decide +kernel
theorem dX4_worth_5 : decode cX4_worth 5 = .ok (.iconst 1, 1) := by decide +kernel
theorem dX4_worth_6 : decode cX4_worth 6 = .ok (.iconst 1, 1) := by decide +kernel
theorem dX4_worth_7 : decode cX4_worth 7 = .ok (.invokevirtual 70, 3) := by decide +kernel
theorem dX4_worth_10 : decode cX4_worth 10 = .ok (.ifCond .eq 11, 3) := by decide +kernel
theorem dX4_worth_13 : decode cX4_worth 13 = .ok (.aload_n 0, 1) := by decide +kernel
theorem dX4_worth_14 : decode cX4_worth 14 = .ok (.iload_n 1, 1) := by decide +kernel
theorem dX4_worth_15 : decode cX4_worth 15 = .ok (.invokevirtual 126, 3) := by decide +kernel
theorem dX4_worth_18 : decode cX4_worth 18 = .ok (.goto 4, 3) := by decide +kernel
theorem dX4_worth_21 : decode cX4_worth 21 = .ok (.iconst 0, 1) := by decide +kernel
theorem dX4_worth_22 : decode cX4_worth 22 = .ok (.ireturn, 1) := by decide +kernel
theorem dX4_suggested_0 : decode cX4_suggested 0 = .ok (.aload_n 0, 1) := by decide +kernel
theorem dX4_suggested_1 : decode cX4_suggested 1 = .ok (.iconst 0, 1) := by decide +kernel
theorem dX4_suggested_2 : decode cX4_suggested 2 = .ok (.putfield 55, 3) := by decide +kernel
theorem dX4_suggested_5 : decode cX4_suggested 5 = .ok (.iconst (-1), 1) := by decide +kernel
theorem dX4_suggested_6 : decode cX4_suggested 6 = .ok (.istore_n 1, 1) := by decide +kernel
theorem dX4_suggested_7 : decode cX4_suggested 7 = .ok (.ldc2_w 129, 3) := by decide +kernel
theorem dX4_suggested_10 : decode cX4_suggested 10 = .ok (.lstore_n 2, 1) := by decide +kernel
theorem dX4_suggested_11 : decode cX4_suggested 11 = .ok (.iconst 0, 1) := by decide +kernel
theorem dX4_suggested_12 : decode cX4_suggested 12 = .ok (.istore 4, 2) := by decide +kernel
theorem dX4_suggested_14 : decode cX4_suggested 14 = .ok (.iload 4, 2) := by decide +kernel
theorem dX4_suggested_16 : decode cX4_suggested 16 = .ok (.bipush 12, 2) := by decide +kernel
theorem dX4_suggested_18 : decode cX4_suggested 18 = .ok (.if_icmp .ge 123, 3) := by decide +kernel
theorem dX4_suggested_21 : decode cX4_suggested 21 = .ok (.iconst (-1), 1) := by decide +kernel
theorem dX4_suggested_22 : decode cX4_suggested 22 = .ok (.istore 5, 2) := by decide +kernel
theorem dX4_suggested_24 : decode cX4_suggested 24 = .ok (.iconst 0, 1) := by decide +kernel
theorem dX4_suggested_25 : decode cX4_suggested 25 = .ok (.istore 6, 2) := by decide +kernel
theorem dX4_suggested_27 : decode cX4_suggested 27 = .ok (.iload 6, 2) := by decide +kernel
theorem dX4_suggested_29 : decode cX4_suggested 29 = .ok (.aload_n 0, 1) := by decide +kernel
theorem dX4_suggested_30 : decode cX4_suggested 30 = .ok (.getfield 63, 3) := by decide +kernel
theorem dX4_suggested_33 : decode cX4_suggested 33 = .ok (.if_icmp .ge 35, 3) := by decide +kernel
theorem dX4_suggested_36 : decode cX4_suggested 36 = .ok (.aload_n 0, 1) := by decide +kernel
theorem dX4_suggested_37 : decode cX4_suggested 37 = .ok (.getfield 31, 3) := by decide +kernel
theorem dX4_suggested_40 : decode cX4_suggested 40 = .ok (.iload 6, 2) := by decide +kernel
theorem dX4_suggested_42 : decode cX4_suggested 42 = .ok (.iaload, 1) := by decide +kernel
theorem dX4_suggested_43 : decode cX4_suggested 43 = .ok (.iload 4, 2) := by decide +kernel
theorem dX4_suggested_45 : decode cX4_suggested 45 = .ok (.if_icmp .ne 13, 3) := by decide +kernel
theorem dX4_suggested_48 : decode cX4_suggested 48 = .ok (.aload_n 0, 1) := by decide +kernel
theorem dX4_suggested_49 : decode cX4_suggested 49 = .ok (.getfield 34, 3) := by decide +kernel
theorem dX4_suggested_52 : decode cX4_suggested 52 = .ok (.iload 6, 2) := by decide +kernel
theorem dX4_suggested_54 : decode cX4_suggested 54 = .ok (.iaload, 1) := by decide +kernel
theorem dX4_suggested_55 : decode cX4_suggested 55 = .ok (.goto 5, 3) := by decide +kernel
theorem dX4_suggested_58 : decode cX4_suggested 58 = .ok (.iload 5, 2) := by decide +kernel
theorem dX4_suggested_60 : decode cX4_suggested 60 = .ok (.istore 5, 2) := by decide +kernel
theorem dX4_suggested_62 : decode cX4_suggested 62 = .ok (.iinc 6 1, 3) := by decide +kernel
theorem dX4_suggested_65 : decode cX4_suggested 65 = .ok (.goto (-38), 3) := by decide +kernel
theorem dX4_suggested_68 : decode cX4_suggested 68 = .ok (.aload_n 0, 1) := by decide +kernel
theorem dX4_suggested_69 : decode cX4_suggested 69 = .ok (.iload 4, 2) := by decide +kernel
theorem dX4_suggested_71 : decode cX4_suggested 71 = .ok (.invokevirtual 126, 3) := by decide +kernel
theorem dX4_suggested_74 : decode cX4_suggested 74 = .ok (.i2l, 1) := by decide +kernel
theorem dX4_suggested_75 : decode cX4_suggested 75 = .ok (.lconst 1, 1) := by decide +kernel
theorem dX4_suggested_76 : decode cX4_suggested 76 = .ok (.ladd, 1) := by decide +kernel
theorem dX4_suggested_77 : decode cX4_suggested 77 = .ok (.aload_n 0, 1) := by decide +kernel
theorem dX4_suggested_78 : decode cX4_suggested 78 = .ok (.getfield 75, 3) := by decide +kernel
theorem dX4_suggested_81 : decode cX4_suggested 81 = .ok (.iload 5, 2) := by decide +kernel
theorem dX4_suggested_83 : decode cX4_suggested 83 = .ok (.isub, 1) := by decide +kernel
theorem dX4_suggested_84 : decode cX4_suggested 84 = .ok (.i2l, 1) := by decide +kernel
theorem dX4_suggested_85 : decode cX4_suggested 85 = .ok (.lmul, 1) := by decide +kernel
theorem dX4_suggested_86 : decode cX4_suggested 86 = .ok (.lstore 6, 2) := by decide +kernel
theorem dX4_suggested_88 : decode cX4_suggested 88 = .ok (.aload_n 0, 1) := by decide +kernel
theorem dX4_suggested_89 : decode cX4_suggested 89 = .ok (.iload 4, 2) := by decide +kernel
theorem dX4_suggested_91 : decode cX4_suggested 91 = .ok (.invokevirtual 92, 3) := by decide +kernel
theorem dX4_suggested_94 : decode cX4_suggested 94 = .ok (.ifCond .ne 14, 3) := by decide +kernel
theorem dX4_suggested_97 : decode cX4_suggested 97 = .ok (.lload 6, 2) := by decide +kernel
theorem dX4_suggested_99 : decode cX4_suggested 99 = .ok (.lload_n 2, 1) := by decide +kernel
theorem dX4_suggested_100 : decode cX4_suggested 100 = .ok (.lcmp, 1) := by decide +kernel
theorem dX4_suggested_101 : decode cX4_suggested 101 = .ok (.ifCond .le 7, 3) := by decide +kernel
theorem dX4_suggested_104 : decode cX4_suggested 104 = .ok (.iconst 1, 1) := by decide +kernel
theorem dX4_suggested_105 : decode cX4_suggested 105 = .ok (.goto 4, 3) := by decide +kernel
theorem dX4_suggested_108 : decode cX4_suggested 108 = .ok (.iconst 0, 1) := by decide +kernel
theorem dX4_suggested_109 : decode cX4_suggested 109 = .ok (.istore 8, 2) := by decide +kernel
theorem dX4_suggested_111 : decode cX4_suggested 111 = .ok (.iload 8, 2) := by decide +kernel
theorem dX4_suggested_113 : decode cX4_suggested 113 = .ok (.ifCond .eq 8, 3) := by decide +kernel
theorem dX4_suggested_116 : decode cX4_suggested 116 = .ok (.iload 4, 2) := by decide +kernel
theorem dX4_suggested_118 : decode cX4_suggested 118 = .ok (.goto 4, 3) := by decide +kernel
theorem dX4_suggested_121 : decode cX4_suggested 121 = .ok (.iload_n 1, 1) := by decide +kernel
theorem dX4_suggested_122 : decode cX4_suggested 122 = .ok (.istore_n 1, 1) := by decide +kernel
theorem dX4_suggested_123 : decode cX4_suggested 123 = .ok (.iload 8, 2) := by decide +kernel
theorem dX4_suggested_125 : decode cX4_suggested 125 = .ok (.ifCond .eq 8, 3) := by decide +kernel
theorem dX4_suggested_128 : decode cX4_suggested 128 = .ok (.lload 6, 2) := by decide +kernel
theorem dX4_suggested_130 : decode cX4_suggested 130 = .ok (.goto 4, 3) := by decide +kernel
theorem dX4_suggested_133 : decode cX4_suggested 133 = .ok (.lload_n 2, 1) := by decide +kernel
theorem dX4_suggested_134 : decode cX4_suggested 134 = .ok (.lstore_n 2, 1) := by decide +kernel
theorem dX4_suggested_135 : decode cX4_suggested 135 = .ok (.iinc 4 1, 3) := by decide +kernel
theorem dX4_suggested_138 : decode cX4_suggested 138 = .ok (.goto (-124), 3) := by decide +kernel
theorem dX4_suggested_141 : decode cX4_suggested 141 = .ok (.iload_n 1, 1) := by decide +kernel
theorem dX4_suggested_142 : decode cX4_suggested 142 = .ok (.ireturn, 1) := by decide +kernel
theorem dX4_sheets_0 : decode cX4_sheets 0 = .ok (.aload_n 0, 1) := by decide +kernel
theorem dX4_sheets_1 : decode cX4_sheets 1 = .ok (.aload_n 0, 1) := by decide +kernel
theorem dX4_sheets_2 : decode cX4_sheets 2 = .ok (.getfield 63, 3) := by decide +kernel
theorem dX4_sheets_5 : decode cX4_sheets 5 = .ok (.invokevirtual 123, 3) := by decide +kernel
theorem dX4_sheets_8 : decode cX4_sheets 8 = .ok (.ireturn, 1) := by decide +kernel
theorem dX4_stateOf_0 : decode cX4_stateOf 0 = .ok (.aload_n 0, 1) := by decide +kernel
theorem dX4_stateOf_1 : decode cX4_stateOf 1 = .ok (.aload_n 0, 1) := by decide +kernel
theorem dX4_stateOf_2 : decode cX4_stateOf 2 = .ok (.iload_n 1, 1) := by decide +kernel
theorem dX4_stateOf_3 : decode cX4_stateOf 3 = .ok (.invokevirtual 95, 3) := by decide +kernel
theorem dX4_stateOf_6 : decode cX4_stateOf 6 = .ok (.iconst 1, 1) := by decide +kernel
theorem dX4_stateOf_7 : decode cX4_stateOf 7 = .ok (.iconst 1, 1) := by decide +kernel
theorem dX4_stateOf_8 : decode cX4_stateOf 8 = .ok (.invokevirtual 70, 3) := by decide +kernel
theorem dX4_stateOf_11 : decode cX4_stateOf 11 = .ok (.ifCond .eq 12, 3) := by decide +kernel
theorem dX4_stateOf_14 : decode cX4_stateOf 14 = .ok (.aload_n 0, 1) := by decide +kernel
theorem dX4_stateOf_15 : decode cX4_stateOf 15 = .ok (.getfield 37, 3) := by decide +kernel
theorem dX4_stateOf_18 : decode cX4_stateOf 18 = .ok (.iload_n 1, 1) := by decide +kernel
theorem dX4_stateOf_19 : decode cX4_stateOf 19 = .ok (.iaload, 1) := by decide +kernel
theorem dX4_stateOf_20 : decode cX4_stateOf 20 = .ok (.goto 4, 3) := by decide +kernel
theorem dX4_stateOf_23 : decode cX4_stateOf 23 = .ok (.iconst 0, 1) := by decide +kernel
theorem dX4_stateOf_24 : decode cX4_stateOf 24 = .ok (.ireturn, 1) := by decide +kernel
theorem dX4_cutOf_0 : decode cX4_cutOf 0 = .ok (.aload_n 0, 1) := by decide +kernel
theorem dX4_cutOf_1 : decode cX4_cutOf 1 = .ok (.aload_n 0, 1) := by decide +kernel
theorem dX4_cutOf_2 : decode cX4_cutOf 2 = .ok (.iload_n 1, 1) := by decide +kernel
theorem dX4_cutOf_3 : decode cX4_cutOf 3 = .ok (.invokevirtual 95, 3) := by decide +kernel
theorem dX4_cutOf_6 : decode cX4_cutOf 6 = .ok (.iconst 1, 1) := by decide +kernel
theorem dX4_cutOf_7 : decode cX4_cutOf 7 = .ok (.iconst 1, 1) := by decide +kernel
theorem dX4_cutOf_8 : decode cX4_cutOf 8 = .ok (.invokevirtual 70, 3) := by decide +kernel
theorem dX4_cutOf_11 : decode cX4_cutOf 11 = .ok (.ifCond .eq 12, 3) := by decide +kernel
theorem dX4_cutOf_14 : decode cX4_cutOf 14 = .ok (.aload_n 0, 1) := by decide +kernel
theorem dX4_cutOf_15 : decode cX4_cutOf 15 = .ok (.getfield 34, 3) := by decide +kernel
theorem dX4_cutOf_18 : decode cX4_cutOf 18 = .ok (.iload_n 1, 1) := by decide +kernel
theorem dX4_cutOf_19 : decode cX4_cutOf 19 = .ok (.iaload, 1) := by decide +kernel
theorem dX4_cutOf_20 : decode cX4_cutOf 20 = .ok (.goto 4, 3) := by decide +kernel
theorem dX4_cutOf_23 : decode cX4_cutOf 23 = .ok (.iconst 0, 1) := by decide +kernel
theorem dX4_cutOf_24 : decode cX4_cutOf 24 = .ok (.ireturn, 1) := by decide +kernel
theorem dX4_counts_0 : decode cX4_counts 0 = .ok (.aload_n 0, 1) := by decide +kernel
theorem dX4_counts_1 : decode cX4_counts 1 = .ok (.aload_n 0, 1) := by decide +kernel
theorem dX4_counts_2 : decode cX4_counts 2 = .ok (.iload_n 1, 1) := by decide +kernel
theorem dX4_counts_3 : decode cX4_counts 3 = .ok (.invokevirtual 95, 3) := by decide +kernel
theorem dX4_counts_6 : decode cX4_counts 6 = .ok (.ifCond .eq 14, 3) := by decide +kernel
theorem dX4_counts_9 : decode cX4_counts 9 = .ok (.iload_n 2, 1) := by decide +kernel
theorem dX4_counts_10 : decode cX4_counts 10 = .ok (.invokestatic 66, 3) := by decide +kernel
theorem dX4_counts_13 : decode cX4_counts 13 = .ok (.ifCond .eq 7, 3) := by decide +kernel
theorem dX4_counts_16 : decode cX4_counts 16 = .ok (.iconst 1, 1) := by decide +kernel
theorem dX4_counts_17 : decode cX4_counts 17 = .ok (.goto 4, 3) := by decide +kernel
theorem dX4_counts_20 : decode cX4_counts 20 = .ok (.iconst 0, 1) := by decide +kernel
theorem dX4_counts_21 : decode cX4_counts 21 = .ok (.iconst 1, 1) := by decide +kernel
theorem dX4_counts_22 : decode cX4_counts 22 = .ok (.iconst 1, 1) := by decide +kernel
theorem dX4_counts_23 : decode cX4_counts 23 = .ok (.invokevirtual 70, 3) := by decide +kernel
theorem dX4_counts_26 : decode cX4_counts 26 = .ok (.ifCond .eq 16, 3) := by decide +kernel
theorem dX4_counts_29 : decode cX4_counts 29 = .ok (.aload_n 0, 1) := by decide +kernel
theorem dX4_counts_30 : decode cX4_counts 30 = .ok (.getfield 40, 3) := by decide +kernel
theorem dX4_counts_33 : decode cX4_counts 33 = .ok (.iload_n 1, 1) := by decide +kernel
theorem dX4_counts_34 : decode cX4_counts 34 = .ok (.iload_n 2, 1) := by decide +kernel
theorem dX4_counts_35 : decode cX4_counts 35 = .ok (.invokestatic 81, 3) := by decide +kernel
theorem dX4_counts_38 : decode cX4_counts 38 = .ok (.iaload, 1) := by decide +kernel
theorem dX4_counts_39 : decode cX4_counts 39 = .ok (.goto 4, 3) := by decide +kernel
theorem dX4_counts_42 : decode cX4_counts 42 = .ok (.iconst 0, 1) := by decide +kernel
theorem dX4_counts_43 : decode cX4_counts 43 = .ok (.ireturn, 1) := by decide +kernel
theorem dX4_agreed_0 : decode cX4_agreed 0 = .ok (.aload_n 0, 1) := by decide +kernel
theorem dX4_agreed_1 : decode cX4_agreed 1 = .ok (.aload_n 0, 1) := by decide +kernel
theorem dX4_agreed_2 : decode cX4_agreed 2 = .ok (.iload_n 1, 1) := by decide +kernel
theorem dX4_agreed_3 : decode cX4_agreed 3 = .ok (.invokevirtual 95, 3) := by decide +kernel
theorem dX4_agreed_6 : decode cX4_agreed 6 = .ok (.ifCond .eq 14, 3) := by decide +kernel
theorem dX4_agreed_9 : decode cX4_agreed 9 = .ok (.iload_n 2, 1) := by decide +kernel
theorem dX4_agreed_10 : decode cX4_agreed 10 = .ok (.invokestatic 66, 3) := by decide +kernel
theorem dX4_agreed_13 : decode cX4_agreed 13 = .ok (.ifCond .eq 7, 3) := by decide +kernel
theorem dX4_agreed_16 : decode cX4_agreed 16 = .ok (.iconst 1, 1) := by decide +kernel
theorem dX4_agreed_17 : decode cX4_agreed 17 = .ok (.goto 4, 3) := by decide +kernel
theorem dX4_agreed_20 : decode cX4_agreed 20 = .ok (.iconst 0, 1) := by decide +kernel
theorem dX4_agreed_21 : decode cX4_agreed 21 = .ok (.iconst 1, 1) := by decide +kernel
theorem dX4_agreed_22 : decode cX4_agreed 22 = .ok (.iconst 1, 1) := by decide +kernel
theorem dX4_agreed_23 : decode cX4_agreed 23 = .ok (.invokevirtual 70, 3) := by decide +kernel
theorem dX4_agreed_26 : decode cX4_agreed 26 = .ok (.ifCond .eq 15, 3) := by decide +kernel
theorem dX4_agreed_29 : decode cX4_agreed 29 = .ok (.aload_n 0, 1) := by decide +kernel
theorem dX4_agreed_30 : decode cX4_agreed 30 = .ok (.iload_n 1, 1) := by decide +kernel
theorem dX4_agreed_31 : decode cX4_agreed 31 = .ok (.iload_n 2, 1) := by decide +kernel
theorem dX4_agreed_32 : decode cX4_agreed 32 = .ok (.invokestatic 81, 3) := by decide +kernel
theorem dX4_agreed_35 : decode cX4_agreed 35 = .ok (.invokevirtual 85, 3) := by decide +kernel
theorem dX4_agreed_38 : decode cX4_agreed 38 = .ok (.goto 4, 3) := by decide +kernel
theorem dX4_agreed_41 : decode cX4_agreed 41 = .ok (.iconst 0, 1) := by decide +kernel
theorem dX4_agreed_42 : decode cX4_agreed 42 = .ok (.ireturn, 1) := by decide +kernel
theorem dX4_gap_0 : decode cX4_gap 0 = .ok (.aload_n 0, 1) := by decide +kernel
theorem dX4_gap_1 : decode cX4_gap 1 = .ok (.iload_n 1, 1) := by decide +kernel
theorem dX4_gap_2 : decode cX4_gap 2 = .ok (.invokevirtual 95, 3) := by decide +kernel
theorem dX4_gap_5 : decode cX4_gap 5 = .ok (.ifCond .eq 14, 3) := by decide +kernel
theorem dX4_gap_8 : decode cX4_gap 8 = .ok (.iload_n 2, 1) := by decide +kernel
theorem dX4_gap_9 : decode cX4_gap 9 = .ok (.invokestatic 66, 3) := by decide +kernel
theorem dX4_gap_12 : decode cX4_gap 12 = .ok (.ifCond .eq 7, 3) := by decide +kernel
theorem dX4_gap_15 : decode cX4_gap 15 = .ok (.iconst 1, 1) := by decide +kernel
theorem dX4_gap_16 : decode cX4_gap 16 = .ok (.goto 4, 3) := by decide +kernel
theorem dX4_gap_19 : decode cX4_gap 19 = .ok (.iconst 0, 1) := by decide +kernel
theorem dX4_gap_20 : decode cX4_gap 20 = .ok (.istore_n 3, 1) := by decide +kernel
theorem dX4_gap_21 : decode cX4_gap 21 = .ok (.aload_n 0, 1) := by decide +kernel
theorem dX4_gap_22 : decode cX4_gap 22 = .ok (.iload_n 3, 1) := by decide +kernel
theorem dX4_gap_23 : decode cX4_gap 23 = .ok (.iload_n 3, 1) := by decide +kernel
theorem dX4_gap_24 : decode cX4_gap 24 = .ok (.ifCond .eq 16, 3) := by decide +kernel
theorem dX4_gap_27 : decode cX4_gap 27 = .ok (.aload_n 0, 1) := by decide +kernel
theorem dX4_gap_28 : decode cX4_gap 28 = .ok (.iload_n 1, 1) := by decide +kernel
theorem dX4_gap_29 : decode cX4_gap 29 = .ok (.iload_n 2, 1) := by decide +kernel
theorem dX4_gap_30 : decode cX4_gap 30 = .ok (.invokevirtual 110, 3) := by decide +kernel
theorem dX4_gap_33 : decode cX4_gap 33 = .ok (.ifCond .eq 7, 3) := by decide +kernel
theorem dX4_gap_36 : decode cX4_gap 36 = .ok (.iconst 1, 1) := by decide +kernel
theorem dX4_gap_37 : decode cX4_gap 37 = .ok (.goto 4, 3) := by decide +kernel
theorem dX4_gap_40 : decode cX4_gap 40 = .ok (.iconst 0, 1) := by decide +kernel
theorem dX4_gap_41 : decode cX4_gap 41 = .ok (.iconst 1, 1) := by decide +kernel
theorem dX4_gap_42 : decode cX4_gap 42 = .ok (.invokevirtual 70, 3) := by decide +kernel
theorem dX4_gap_45 : decode cX4_gap 45 = .ok (.ifCond .eq 12, 3) := by decide +kernel
theorem dX4_gap_48 : decode cX4_gap 48 = .ok (.aload_n 0, 1) := by decide +kernel
theorem dX4_gap_49 : decode cX4_gap 49 = .ok (.iload_n 1, 1) := by decide +kernel
theorem dX4_gap_50 : decode cX4_gap 50 = .ok (.iload_n 2, 1) := by decide +kernel
theorem dX4_gap_51 : decode cX4_gap 51 = .ok (.invokevirtual 113, 3) := by decide +kernel
theorem dX4_gap_54 : decode cX4_gap 54 = .ok (.goto 4, 3) := by decide +kernel
theorem dX4_gap_57 : decode cX4_gap 57 = .ok (.iconst 0, 1) := by decide +kernel
theorem dX4_gap_58 : decode cX4_gap 58 = .ok (.ireturn, 1) := by decide +kernel
theorem dX4_isSigned_0 : decode cX4_isSigned 0 = .ok (.aload_n 0, 1) := by decide +kernel
theorem dX4_isSigned_1 : decode cX4_isSigned 1 = .ok (.aload_n 0, 1) := by decide +kernel
theorem dX4_isSigned_2 : decode cX4_isSigned 2 = .ok (.iload_n 1, 1) := by decide +kernel
theorem dX4_isSigned_3 : decode cX4_isSigned 3 = .ok (.invokevirtual 95, 3) := by decide +kernel
theorem dX4_isSigned_6 : decode cX4_isSigned 6 = .ok (.ifCond .eq 14, 3) := by decide +kernel
theorem dX4_isSigned_9 : decode cX4_isSigned 9 = .ok (.iload_n 2, 1) := by decide +kernel
theorem dX4_isSigned_10 : decode cX4_isSigned 10 = .ok (.invokestatic 66, 3) := by decide +kernel
theorem dX4_isSigned_13 : decode cX4_isSigned 13 = .ok (.ifCond .eq 7, 3) := by decide +kernel
theorem dX4_isSigned_16 : decode cX4_isSigned 16 = .ok (.iconst 1, 1) := by decide +kernel
theorem dX4_isSigned_17 : decode cX4_isSigned 17 = .ok (.goto 4, 3) := by decide +kernel
theorem dX4_isSigned_20 : decode cX4_isSigned 20 = .ok (.iconst 0, 1) := by decide +kernel
theorem dX4_isSigned_21 : decode cX4_isSigned 21 = .ok (.iconst 1, 1) := by decide +kernel
theorem dX4_isSigned_22 : decode cX4_isSigned 22 = .ok (.iconst 1, 1) := by decide +kernel
theorem dX4_isSigned_23 : decode cX4_isSigned 23 = .ok (.invokevirtual 70, 3) := by decide +kernel
theorem dX4_isSigned_26 : decode cX4_isSigned 26 = .ok (.ifCond .eq 20, 3) := by decide +kernel
theorem dX4_isSigned_29 : decode cX4_isSigned 29 = .ok (.aload_n 0, 1) := by decide +kernel
theorem dX4_isSigned_30 : decode cX4_isSigned 30 = .ok (.getfield 43, 3) := by decide +kernel
theorem dX4_isSigned_33 : decode cX4_isSigned 33 = .ok (.iload_n 1, 1) := by decide +kernel
theorem dX4_isSigned_34 : decode cX4_isSigned 34 = .ok (.iload_n 2, 1) := by decide +kernel
theorem dX4_isSigned_35 : decode cX4_isSigned 35 = .ok (.invokestatic 81, 3) := by decide +kernel
theorem dX4_isSigned_38 : decode cX4_isSigned 38 = .ok (.iaload, 1) := by decide +kernel
theorem dX4_isSigned_39 : decode cX4_isSigned 39 = .ok (.ifCond .le 7, 3) := by decide +kernel
theorem dX4_isSigned_42 : decode cX4_isSigned 42 = .ok (.iconst 1, 1) := by decide +kernel
theorem dX4_isSigned_43 : decode cX4_isSigned 43 = .ok (.goto 4, 3) := by decide +kernel
theorem dX4_isSigned_46 : decode cX4_isSigned 46 = .ok (.iconst 0, 1) := by decide +kernel
theorem dX4_isSigned_47 : decode cX4_isSigned 47 = .ok (.ireturn, 1) := by decide +kernel
theorem dX4_likely_0 : decode cX4_likely 0 = .ok (.aload_n 0, 1) := by decide +kernel
theorem dX4_likely_1 : decode cX4_likely 1 = .ok (.aload_n 0, 1) := by decide +kernel
theorem dX4_likely_2 : decode cX4_likely 2 = .ok (.iload_n 1, 1) := by decide +kernel
theorem dX4_likely_3 : decode cX4_likely 3 = .ok (.invokevirtual 95, 3) := by decide +kernel
theorem dX4_likely_6 : decode cX4_likely 6 = .ok (.ifCond .eq 14, 3) := by decide +kernel
theorem dX4_likely_9 : decode cX4_likely 9 = .ok (.iload_n 2, 1) := by decide +kernel
theorem dX4_likely_10 : decode cX4_likely 10 = .ok (.invokestatic 66, 3) := by decide +kernel
theorem dX4_likely_13 : decode cX4_likely 13 = .ok (.ifCond .eq 7, 3) := by decide +kernel
theorem dX4_likely_16 : decode cX4_likely 16 = .ok (.iconst 1, 1) := by decide +kernel
theorem dX4_likely_17 : decode cX4_likely 17 = .ok (.goto 4, 3) := by decide +kernel
theorem dX4_likely_20 : decode cX4_likely 20 = .ok (.iconst 0, 1) := by decide +kernel
theorem dX4_likely_21 : decode cX4_likely 21 = .ok (.iconst 1, 1) := by decide +kernel
theorem dX4_likely_22 : decode cX4_likely 22 = .ok (.iconst 1, 1) := by decide +kernel
theorem dX4_likely_23 : decode cX4_likely 23 = .ok (.invokevirtual 70, 3) := by decide +kernel
theorem dX4_likely_26 : decode cX4_likely 26 = .ok (.ifCond .ne 5, 3) := by decide +kernel
theorem dX4_likely_29 : decode cX4_likely 29 = .ok (.iconst 0, 1) := by decide +kernel
theorem dX4_likely_30 : decode cX4_likely 30 = .ok (.ireturn, 1) := by decide +kernel
theorem dX4_likely_31 : decode cX4_likely 31 = .ok (.iconst (-1), 1) := by decide +kernel
theorem dX4_likely_32 : decode cX4_likely 32 = .ok (.istore_n 3, 1) := by decide +kernel
theorem dX4_likely_33 : decode cX4_likely 33 = .ok (.aload_n 0, 1) := by decide +kernel
theorem dX4_likely_34 : decode cX4_likely 34 = .ok (.getfield 63, 3) := by decide +kernel
theorem dX4_likely_37 : decode cX4_likely 37 = .ok (.iconst 1, 1) := by decide +kernel
theorem dX4_likely_38 : decode cX4_likely 38 = .ok (.isub, 1) := by decide +kernel
theorem dX4_likely_39 : decode cX4_likely 39 = .ok (.istore 4, 2) := by decide +kernel
theorem dX4_likely_41 : decode cX4_likely 41 = .ok (.iload 4, 2) := by decide +kernel
theorem dX4_likely_43 : decode cX4_likely 43 = .ok (.ifCond .lt 58, 3) := by decide +kernel
theorem dX4_likely_46 : decode cX4_likely 46 = .ok (.aload_n 0, 1) := by decide +kernel
theorem dX4_likely_47 : decode cX4_likely 47 = .ok (.iload_n 1, 1) := by decide +kernel
theorem dX4_likely_48 : decode cX4_likely 48 = .ok (.iload_n 2, 1) := by decide +kernel
theorem dX4_likely_49 : decode cX4_likely 49 = .ok (.invokevirtual 110, 3) := by decide +kernel
theorem dX4_likely_52 : decode cX4_likely 52 = .ok (.ifCond .eq 28, 3) := by decide +kernel
theorem dX4_likely_55 : decode cX4_likely 55 = .ok (.aload_n 0, 1) := by decide +kernel
theorem dX4_likely_56 : decode cX4_likely 56 = .ok (.iload 4, 2) := by decide +kernel
theorem dX4_likely_58 : decode cX4_likely 58 = .ok (.iload_n 2, 1) := by decide +kernel
theorem dX4_likely_59 : decode cX4_likely 59 = .ok (.invokevirtual 110, 3) := by decide +kernel
theorem dX4_likely_62 : decode cX4_likely 62 = .ok (.ifCond .eq 18, 3) := by decide +kernel
theorem dX4_likely_65 : decode cX4_likely 65 = .ok (.aload_n 0, 1) := by decide +kernel
theorem dX4_likely_66 : decode cX4_likely 66 = .ok (.iload_n 1, 1) := by decide +kernel
theorem dX4_likely_67 : decode cX4_likely 67 = .ok (.iload 4, 2) := by decide +kernel
theorem dX4_likely_69 : decode cX4_likely 69 = .ok (.iload_n 2, 1) := by decide +kernel
theorem dX4_likely_70 : decode cX4_likely 70 = .ok (.invokevirtual 120, 3) := by decide +kernel
theorem dX4_likely_73 : decode cX4_likely 73 = .ok (.ifCond .eq 7, 3) := by decide +kernel
theorem dX4_likely_76 : decode cX4_likely 76 = .ok (.iconst 1, 1) := by decide +kernel
theorem dX4_likely_77 : decode cX4_likely 77 = .ok (.goto 4, 3) := by decide +kernel
theorem dX4_likely_80 : decode cX4_likely 80 = .ok (.iconst 0, 1) := by decide +kernel
theorem dX4_likely_81 : decode cX4_likely 81 = .ok (.istore 5, 2) := by decide +kernel
theorem dX4_likely_83 : decode cX4_likely 83 = .ok (.iload 5, 2) := by decide +kernel
theorem dX4_likely_85 : decode cX4_likely 85 = .ok (.ifCond .eq 8, 3) := by decide +kernel
theorem dX4_likely_88 : decode cX4_likely 88 = .ok (.iload 4, 2) := by decide +kernel
theorem dX4_likely_90 : decode cX4_likely 90 = .ok (.goto 4, 3) := by decide +kernel
theorem dX4_likely_93 : decode cX4_likely 93 = .ok (.iload_n 3, 1) := by decide +kernel
theorem dX4_likely_94 : decode cX4_likely 94 = .ok (.istore_n 3, 1) := by decide +kernel
theorem dX4_likely_95 : decode cX4_likely 95 = .ok (.iinc 4 (-1), 3) := by decide +kernel
theorem dX4_likely_98 : decode cX4_likely 98 = .ok (.goto (-57), 3) := by decide +kernel
theorem dX4_likely_101 : decode cX4_likely 101 = .ok (.iload_n 3, 1) := by decide +kernel
theorem dX4_likely_102 : decode cX4_likely 102 = .ok (.ireturn, 1) := by decide +kernel
theorem dX4_exact_0 : decode cX4_exact 0 = .ok (.aload_n 0, 1) := by decide +kernel
theorem dX4_exact_1 : decode cX4_exact 1 = .ok (.iload_n 1, 1) := by decide +kernel
theorem dX4_exact_2 : decode cX4_exact 2 = .ok (.iconst 0, 1) := by decide +kernel
theorem dX4_exact_3 : decode cX4_exact 3 = .ok (.iconst 2, 1) := by decide +kernel
theorem dX4_exact_4 : decode cX4_exact 4 = .ok (.invokestatic 59, 3) := by decide +kernel
theorem dX4_exact_7 : decode cX4_exact 7 = .ok (.iconst 1, 1) := by decide +kernel
theorem dX4_exact_8 : decode cX4_exact 8 = .ok (.iconst 1, 1) := by decide +kernel
theorem dX4_exact_9 : decode cX4_exact 9 = .ok (.invokevirtual 70, 3) := by decide +kernel
theorem dX4_exact_12 : decode cX4_exact 12 = .ok (.ifCond .ne 5, 3) := by decide +kernel
theorem dX4_exact_15 : decode cX4_exact 15 = .ok (.iconst 0, 1) := by decide +kernel
theorem dX4_exact_16 : decode cX4_exact 16 = .ok (.ireturn, 1) := by decide +kernel
theorem dX4_exact_17 : decode cX4_exact 17 = .ok (.iconst 0, 1) := by decide +kernel
theorem dX4_exact_18 : decode cX4_exact 18 = .ok (.istore_n 2, 1) := by decide +kernel
theorem dX4_exact_19 : decode cX4_exact 19 = .ok (.iconst 0, 1) := by decide +kernel
theorem dX4_exact_20 : decode cX4_exact 20 = .ok (.istore_n 3, 1) := by decide +kernel
theorem dX4_exact_21 : decode cX4_exact 21 = .ok (.iconst 0, 1) := by decide +kernel
theorem dX4_exact_22 : decode cX4_exact 22 = .ok (.istore 4, 2) := by decide +kernel
theorem dX4_exact_24 : decode cX4_exact 24 = .ok (.iload 4, 2) := by decide +kernel
theorem dX4_exact_26 : decode cX4_exact 26 = .ok (.iconst 5, 1) := by decide +kernel
theorem dX4_exact_27 : decode cX4_exact 27 = .ok (.aload_n 0, 1) := by decide +kernel
theorem dX4_exact_28 : decode cX4_exact 28 = .ok (.getfield 63, 3) := by decide +kernel
theorem dX4_exact_31 : decode cX4_exact 31 = .ok (.imul, 1) := by decide +kernel
theorem dX4_exact_32 : decode cX4_exact 32 = .ok (.if_icmp .ge 55, 3) := by decide +kernel
theorem dX4_exact_35 : decode cX4_exact 35 = .ok (.aload_n 0, 1) := by decide +kernel
theorem dX4_exact_36 : decode cX4_exact 36 = .ok (.getfield 43, 3) := by decide +kernel
theorem dX4_exact_39 : decode cX4_exact 39 = .ok (.iload 4, 2) := by decide +kernel
theorem dX4_exact_41 : decode cX4_exact 41 = .ok (.iaload, 1) := by decide +kernel
theorem dX4_exact_42 : decode cX4_exact 42 = .ok (.ifCond .le 39, 3) := by decide +kernel
theorem dX4_exact_45 : decode cX4_exact 45 = .ok (.aload_n 0, 1) := by decide +kernel
theorem dX4_exact_46 : decode cX4_exact 46 = .ok (.getfield 31, 3) := by decide +kernel
theorem dX4_exact_49 : decode cX4_exact 49 = .ok (.iload 4, 2) := by decide +kernel
theorem dX4_exact_51 : decode cX4_exact 51 = .ok (.iconst 5, 1) := by decide +kernel
theorem dX4_exact_52 : decode cX4_exact 52 = .ok (.idiv, 1) := by decide +kernel
theorem dX4_exact_53 : decode cX4_exact 53 = .ok (.iaload, 1) := by decide +kernel
theorem dX4_exact_54 : decode cX4_exact 54 = .ok (.iconst 4, 1) := by decide +kernel
theorem dX4_exact_55 : decode cX4_exact 55 = .ok (.idiv, 1) := by decide +kernel
theorem dX4_exact_56 : decode cX4_exact 56 = .ok (.iload_n 1, 1) := by decide +kernel
theorem dX4_exact_57 : decode cX4_exact 57 = .ok (.if_icmp .ne 24, 3) := by decide +kernel
theorem dX4_exact_60 : decode cX4_exact 60 = .ok (.iinc 2 1, 3) := by decide +kernel
theorem dX4_exact_63 : decode cX4_exact 63 = .ok (.iload_n 3, 1) := by decide +kernel
theorem dX4_exact_64 : decode cX4_exact 64 = .ok (.aload_n 0, 1) := by decide +kernel
theorem dX4_exact_65 : decode cX4_exact 65 = .ok (.getfield 46, 3) := by decide +kernel
theorem dX4_exact_68 : decode cX4_exact 68 = .ok (.iload 4, 2) := by decide +kernel
theorem dX4_exact_70 : decode cX4_exact 70 = .ok (.iaload, 1) := by decide +kernel
theorem dX4_exact_71 : decode cX4_exact 71 = .ok (.ifCond .ne 7, 3) := by decide +kernel
theorem dX4_exact_74 : decode cX4_exact 74 = .ok (.iconst 1, 1) := by decide +kernel
theorem dX4_exact_75 : decode cX4_exact 75 = .ok (.goto 4, 3) := by decide +kernel
theorem dX4_exact_78 : decode cX4_exact 78 = .ok (.iconst 0, 1) := by decide +kernel
theorem dX4_exact_79 : decode cX4_exact 79 = .ok (.iadd, 1) := by decide +kernel
theorem dX4_exact_80 : decode cX4_exact 80 = .ok (.istore_n 3, 1) := by decide +kernel
theorem dX4_exact_81 : decode cX4_exact 81 = .ok (.iinc 4 1, 3) := by decide +kernel
theorem dX4_exact_84 : decode cX4_exact 84 = .ok (.goto (-60), 3) := by decide +kernel
theorem dX4_exact_87 : decode cX4_exact 87 = .ok (.iload_n 2, 1) := by decide +kernel
theorem dX4_exact_88 : decode cX4_exact 88 = .ok (.ifCond .ne 7, 3) := by decide +kernel
theorem dX4_exact_91 : decode cX4_exact 91 = .ok (.iconst (-1), 1) := by decide +kernel
theorem dX4_exact_92 : decode cX4_exact 92 = .ok (.goto 10, 3) := by decide +kernel
theorem dX4_exact_95 : decode cX4_exact 95 = .ok (.sipush 1000, 3) := by decide +kernel
theorem dX4_exact_98 : decode cX4_exact 98 = .ok (.iload_n 3, 1) := by decide +kernel
theorem dX4_exact_99 : decode cX4_exact 99 = .ok (.imul, 1) := by decide +kernel
theorem dX4_exact_100 : decode cX4_exact 100 = .ok (.iload_n 2, 1) := by decide +kernel
theorem dX4_exact_101 : decode cX4_exact 101 = .ok (.idiv, 1) := by decide +kernel
theorem dX4_exact_102 : decode cX4_exact 102 = .ok (.ireturn, 1) := by decide +kernel
