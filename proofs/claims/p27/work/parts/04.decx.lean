theorem dX0_init_0 : decode cX0_init 0 = .ok (.aload_n 0, 1) := by decide +kernel
theorem dX0_init_1 : decode cX0_init 1 = .ok (.invokespecial 3, 3) := by decide +kernel
theorem dX0_init_4 : decode cX0_init 4 = .ok (.aload_n 0, 1) := by decide +kernel
theorem dX0_init_5 : decode cX0_init 5 = .ok (.sipush 200, 3) := by decide +kernel
theorem dX0_init_8 : decode cX0_init 8 = .ok (.newarray .int, 2) := by decide +kernel
theorem dX0_init_10 : decode cX0_init 10 = .ok (.putfield 11, 3) := by decide +kernel
theorem dX0_init_13 : decode cX0_init 13 = .ok (.aload_n 0, 1) := by decide +kernel
theorem dX0_init_14 : decode cX0_init 14 = .ok (.sipush 200, 3) := by decide +kernel
theorem dX0_init_17 : decode cX0_init 17 = .ok (.newarray .int, 2) := by decide +kernel
theorem dX0_init_19 : decode cX0_init 19 = .ok (.putfield 15, 3) := by decide +kernel
theorem dX0_init_22 : decode cX0_init 22 = .ok (.aload_n 0, 1) := by decide +kernel
theorem dX0_init_23 : decode cX0_init 23 = .ok (.sipush 200, 3) := by decide +kernel
theorem dX0_init_26 : decode cX0_init 26 = .ok (.newarray .int, 2) := by decide +kernel
theorem dX0_init_28 : decode cX0_init 28 = .ok (.putfield 18, 3) := by decide +kernel
theorem dX0_init_31 : decode cX0_init 31 = .ok (.aload_n 0, 1) := by decide +kernel
theorem dX0_init_32 : decode cX0_init 32 = .ok (.sipush 200, 3) := by decide +kernel
theorem dX0_init_35 : decode cX0_init 35 = .ok (.newarray .int, 2) := by decide +kernel
theorem dX0_init_37 : decode cX0_init 37 = .ok (.putfield 21, 3) := by decide +kernel
theorem dX0_init_40 : decode cX0_init 40 = .ok (.aload_n 0, 1) := by decide +kernel
theorem dX0_init_41 : decode cX0_init 41 = .ok (.sipush 200, 3) := by decide +kernel
theorem dX0_init_44 : decode cX0_init 44 = .ok (.newarray .int, 2) := by decide +kernel
theorem dX0_init_46 : decode cX0_init 46 = .ok (.putfield 24, 3) := by decide +kernel
theorem dX0_init_49 : decode cX0_init 49 = .ok (.aload_n 0, 1) := by decide +kernel
theorem dX0_init_50 : decode cX0_init 50 = .ok (.sipush 200, 3) := by decide +kernel
theorem dX0_init_53 : decode cX0_init 53 = .ok (.newarray .int, 2) := by decide +kernel
theorem dX0_init_55 : decode cX0_init 55 = .ok (.putfield 27, 3) := by decide +kernel
theorem dX0_init_58 : decode cX0_init 58 = .ok (.aload_n 0, 1) := by decide +kernel
theorem dX0_init_59 : decode cX0_init 59 = .ok (.iconst 0, 1) := by decide +kernel
theorem dX0_init_60 : decode cX0_init 60 = .ok (.putfield 30, 3) := by decide +kernel
theorem dX0_init_63 : decode cX0_init 63 = .ok (.aload_n 0, 1) := by decide +kernel
theorem dX0_init_64 : decode cX0_init 64 = .ok (.getfield 21, 3) := by decide +kernel
theorem dX0_init_67 : decode cX0_init 67 = .ok (.iconst (-1), 1) := by decide +kernel
theorem dX0_init_68 : decode cX0_init 68 = .ok (.invokestatic 34, 3) := by decide +kernel
theorem dX0_init_71 : decode cX0_init 71 = .ok (.return_, 1) := by decide +kernel
theorem dX0_countsOn_0 : decode cX0_countsOn 0 = .ok (.aload_n 0, 1) := by decide +kernel
theorem dX0_countsOn_1 : decode cX0_countsOn 1 = .ok (.getfield 11, 3) := by decide +kernel
theorem dX0_countsOn_4 : decode cX0_countsOn 4 = .ok (.iload_n 1, 1) := by decide +kernel
theorem dX0_countsOn_5 : decode cX0_countsOn 5 = .ok (.iaload, 1) := by decide +kernel
theorem dX0_countsOn_6 : decode cX0_countsOn 6 = .ok (.invokestatic 40, 3) := by decide +kernel
theorem dX0_countsOn_9 : decode cX0_countsOn 9 = .ok (.ireturn, 1) := by decide +kernel
theorem dX0_isCountedBy_0 : decode cX0_isCountedBy 0 = .ok (.aload_n 0, 1) := by decide +kernel
theorem dX0_isCountedBy_1 : decode cX0_isCountedBy 1 = .ok (.getfield 11, 3) := by decide +kernel
theorem dX0_isCountedBy_4 : decode cX0_isCountedBy 4 = .ok (.iload_n 1, 1) := by decide +kernel
theorem dX0_isCountedBy_5 : decode cX0_isCountedBy 5 = .ok (.iaload, 1) := by decide +kernel
theorem dX0_isCountedBy_6 : decode cX0_isCountedBy 6 = .ok (.iconst 1, 1) := by decide +kernel
theorem dX0_isCountedBy_7 : decode cX0_isCountedBy 7 = .ok (.iload_n 2, 1) := by decide +kernel
theorem dX0_isCountedBy_8 : decode cX0_isCountedBy 8 = .ok (.ishl, 1) := by decide +kernel
theorem dX0_isCountedBy_9 : decode cX0_isCountedBy 9 = .ok (.iand, 1) := by decide +kernel
theorem dX0_isCountedBy_10 : decode cX0_isCountedBy 10 = .ok (.ifCond .eq 7, 3) := by decide +kernel
theorem dX0_isCountedBy_13 : decode cX0_isCountedBy 13 = .ok (.iconst 1, 1) := by decide +kernel
theorem dX0_isCountedBy_14 : decode cX0_isCountedBy 14 = .ok (.goto 4, 3) := by decide +kernel
theorem dX0_isCountedBy_17 : decode cX0_isCountedBy 17 = .ok (.iconst 0, 1) := by decide +kernel
theorem dX0_isCountedBy_18 : decode cX0_isCountedBy 18 = .ok (.ireturn, 1) := by decide +kernel
theorem dX0_agrees_0 : decode cX0_agrees 0 = .ok (.aload_n 0, 1) := by decide +kernel
theorem dX0_agrees_1 : decode cX0_agrees 1 = .ok (.getfield 21, 3) := by decide +kernel
theorem dX0_agrees_4 : decode cX0_agrees 4 = .ok (.iload_n 1, 1) := by decide +kernel
theorem dX0_agrees_5 : decode cX0_agrees 5 = .ok (.iaload, 1) := by decide +kernel
theorem dX0_agrees_6 : decode cX0_agrees 6 = .ok (.iconst (-1), 1) := by decide +kernel
theorem dX0_agrees_7 : decode cX0_agrees 7 = .ok (.if_icmp .eq 7, 3) := by decide +kernel
theorem dX0_agrees_10 : decode cX0_agrees 10 = .ok (.iconst 1, 1) := by decide +kernel
theorem dX0_agrees_11 : decode cX0_agrees 11 = .ok (.goto 4, 3) := by decide +kernel
theorem dX0_agrees_14 : decode cX0_agrees 14 = .ok (.iconst 0, 1) := by decide +kernel
theorem dX0_agrees_15 : decode cX0_agrees 15 = .ok (.ireturn, 1) := by decide +kernel
theorem dX0_hasSign_0 : decode cX0_hasSign 0 = .ok (.aload_n 0, 1) := by decide +kernel
theorem dX0_hasSign_1 : decode cX0_hasSign 1 = .ok (.getfield 24, 3) := by decide +kernel
theorem dX0_hasSign_4 : decode cX0_hasSign 4 = .ok (.iload_n 1, 1) := by decide +kernel
theorem dX0_hasSign_5 : decode cX0_hasSign 5 = .ok (.iaload, 1) := by decide +kernel
theorem dX0_hasSign_6 : decode cX0_hasSign 6 = .ok (.ifCond .eq 7, 3) := by decide +kernel
theorem dX0_hasSign_9 : decode cX0_hasSign 9 = .ok (.iconst 1, 1) := by decide +kernel
theorem dX0_hasSign_10 : decode cX0_hasSign 10 = .ok (.goto 4, 3) := by decide +kernel
theorem dX0_hasSign_13 : decode cX0_hasSign 13 = .ok (.iconst 0, 1) := by decide +kernel
theorem dX0_hasSign_14 : decode cX0_hasSign 14 = .ok (.ireturn, 1) := by decide +kernel
theorem dX0_add_0 : decode cX0_add 0 = .ok (.aload_n 0, 1) := by decide +kernel
theorem dX0_add_1 : decode cX0_add 1 = .ok (.iload_n 1, 1) := by decide +kernel
theorem dX0_add_2 : decode cX0_add 2 = .ok (.invokevirtual 46, 3) := by decide +kernel
theorem dX0_add_5 : decode cX0_add 5 = .ok (.istore 4, 2) := by decide +kernel
theorem dX0_add_7 : decode cX0_add 7 = .ok (.iload 4, 2) := by decide +kernel
theorem dX0_add_9 : decode cX0_add 9 = .ok (.ifCond .ne 13, 3) := by decide +kernel
theorem dX0_add_12 : decode cX0_add 12 = .ok (.aload_n 0, 1) := by decide +kernel
theorem dX0_add_13 : decode cX0_add 13 = .ok (.getfield 15, 3) := by decide +kernel
theorem dX0_add_16 : decode cX0_add 16 = .ok (.iload_n 1, 1) := by decide +kernel
theorem dX0_add_17 : decode cX0_add 17 = .ok (.iload_n 3, 1) := by decide +kernel
theorem dX0_add_18 : decode cX0_add 18 = .ok (.iastore, 1) := by decide +kernel
theorem dX0_add_19 : decode cX0_add 19 = .ok (.goto 62, 3) := by decide +kernel
theorem dX0_add_22 : decode cX0_add 22 = .ok (.iload 4, 2) := by decide +kernel
theorem dX0_add_24 : decode cX0_add 24 = .ok (.iconst 1, 1) := by decide +kernel
theorem dX0_add_25 : decode cX0_add 25 = .ok (.if_icmp .ne 34, 3) := by decide +kernel
theorem dX0_add_28 : decode cX0_add 28 = .ok (.aload_n 0, 1) := by decide +kernel
theorem dX0_add_29 : decode cX0_add 29 = .ok (.getfield 18, 3) := by decide +kernel
theorem dX0_add_32 : decode cX0_add 32 = .ok (.iload_n 1, 1) := by decide +kernel
theorem dX0_add_33 : decode cX0_add 33 = .ok (.iload_n 3, 1) := by decide +kernel
theorem dX0_add_34 : decode cX0_add 34 = .ok (.iastore, 1) := by decide +kernel
theorem dX0_add_35 : decode cX0_add 35 = .ok (.aload_n 0, 1) := by decide +kernel
theorem dX0_add_36 : decode cX0_add 36 = .ok (.getfield 21, 3) := by decide +kernel
theorem dX0_add_39 : decode cX0_add 39 = .ok (.iload_n 1, 1) := by decide +kernel
theorem dX0_add_40 : decode cX0_add 40 = .ok (.aload_n 0, 1) := by decide +kernel
theorem dX0_add_41 : decode cX0_add 41 = .ok (.getfield 15, 3) := by decide +kernel
theorem dX0_add_44 : decode cX0_add 44 = .ok (.iload_n 1, 1) := by decide +kernel
theorem dX0_add_45 : decode cX0_add 45 = .ok (.iaload, 1) := by decide +kernel
theorem dX0_add_46 : decode cX0_add 46 = .ok (.iload_n 3, 1) := by decide +kernel
theorem dX0_add_47 : decode cX0_add 47 = .ok (.if_icmp .ne 7, 3) := by decide +kernel
theorem dX0_add_50 : decode cX0_add 50 = .ok (.iload_n 3, 1) := by decide +kernel
theorem dX0_add_51 : decode cX0_add 51 = .ok (.goto 4, 3) := by decide +kernel
theorem dX0_add_54 : decode cX0_add 54 = .ok (.iconst (-1), 1) := by decide +kernel
theorem dX0_add_55 : decode cX0_add 55 = .ok (.iastore, 1) := by decide +kernel
theorem dX0_add_56 : decode cX0_add 56 = .ok (.goto 25, 3) := by decide +kernel
theorem dX0_add_59 : decode cX0_add 59 = .ok (.aload_n 0, 1) := by decide +kernel
theorem dX0_add_60 : decode cX0_add 60 = .ok (.getfield 21, 3) := by decide +kernel
theorem dX0_add_63 : decode cX0_add 63 = .ok (.iload_n 1, 1) := by decide +kernel
theorem dX0_add_64 : decode cX0_add 64 = .ok (.aload_n 0, 1) := by decide +kernel
theorem dX0_add_65 : decode cX0_add 65 = .ok (.getfield 15, 3) := by decide +kernel
theorem dX0_add_68 : decode cX0_add 68 = .ok (.iload_n 1, 1) := by decide +kernel
theorem dX0_add_69 : decode cX0_add 69 = .ok (.iaload, 1) := by decide +kernel
theorem dX0_add_70 : decode cX0_add 70 = .ok (.aload_n 0, 1) := by decide +kernel
theorem dX0_add_71 : decode cX0_add 71 = .ok (.getfield 18, 3) := by decide +kernel
theorem dX0_add_74 : decode cX0_add 74 = .ok (.iload_n 1, 1) := by decide +kernel
theorem dX0_add_75 : decode cX0_add 75 = .ok (.iaload, 1) := by decide +kernel
theorem dX0_add_76 : decode cX0_add 76 = .ok (.iload_n 3, 1) := by decide +kernel
theorem dX0_add_77 : decode cX0_add 77 = .ok (.invokestatic 49, 3) := by decide +kernel
theorem dX0_add_80 : decode cX0_add 80 = .ok (.iastore, 1) := by decide +kernel
theorem dX0_add_81 : decode cX0_add 81 = .ok (.aload_n 0, 1) := by decide +kernel
theorem dX0_add_82 : decode cX0_add 82 = .ok (.getfield 11, 3) := by decide +kernel
theorem dX0_add_85 : decode cX0_add 85 = .ok (.iload_n 1, 1) := by decide +kernel
theorem dX0_add_86 : decode cX0_add 86 = .ok (.dup2, 1) := by decide +kernel
theorem dX0_add_87 : decode cX0_add 87 = .ok (.iaload, 1) := by decide +kernel
theorem dX0_add_88 : decode cX0_add 88 = .ok (.iconst 1, 1) := by decide +kernel
theorem dX0_add_89 : decode cX0_add 89 = .ok (.iload_n 2, 1) := by decide +kernel
theorem dX0_add_90 : decode cX0_add 90 = .ok (.ishl, 1) := by decide +kernel
theorem dX0_add_91 : decode cX0_add 91 = .ok (.ior, 1) := by decide +kernel
theorem dX0_add_92 : decode cX0_add 92 = .ok (.iastore, 1) := by decide +kernel
theorem dX0_add_93 : decode cX0_add 93 = .ok (.return_, 1) := by decide +kernel
theorem dX0_middleOf_0 : decode cX0_middleOf 0 = .ok (.iload_n 0, 1) := by decide +kernel
theorem dX0_middleOf_1 : decode cX0_middleOf 1 = .ok (.iload_n 1, 1) := by decide +kernel
theorem dX0_middleOf_2 : decode cX0_middleOf 2 = .ok (.invokestatic 53, 3) := by decide +kernel
theorem dX0_middleOf_5 : decode cX0_middleOf 5 = .ok (.iload_n 0, 1) := by decide +kernel
theorem dX0_middleOf_6 : decode cX0_middleOf 6 = .ok (.iload_n 1, 1) := by decide +kernel
theorem dX0_middleOf_7 : decode cX0_middleOf 7 = .ok (.invokestatic 59, 3) := by decide +kernel
theorem dX0_middleOf_10 : decode cX0_middleOf 10 = .ok (.iload_n 2, 1) := by decide +kernel
theorem dX0_middleOf_11 : decode cX0_middleOf 11 = .ok (.invokestatic 53, 3) := by decide +kernel
theorem dX0_middleOf_14 : decode cX0_middleOf 14 = .ok (.invokestatic 59, 3) := by decide +kernel
theorem dX0_middleOf_17 : decode cX0_middleOf 17 = .ok (.ireturn, 1) := by decide +kernel
theorem dX0_write_0 : decode cX0_write 0 = .ok (.aload_n 0, 1) := by decide +kernel
theorem dX0_write_1 : decode cX0_write 1 = .ok (.dup, 1) := by decide +kernel
theorem dX0_write_2 : decode cX0_write 2 = .ok (.getfield 30, 3) := by decide +kernel
theorem dX0_write_5 : decode cX0_write 5 = .ok (.iconst 1, 1) := by decide +kernel
theorem dX0_write_6 : decode cX0_write 6 = .ok (.iadd, 1) := by decide +kernel
theorem dX0_write_7 : decode cX0_write 7 = .ok (.putfield 30, 3) := by decide +kernel
theorem dX0_write_10 : decode cX0_write 10 = .ok (.aload_n 0, 1) := by decide +kernel
theorem dX0_write_11 : decode cX0_write 11 = .ok (.getfield 24, 3) := by decide +kernel
theorem dX0_write_14 : decode cX0_write 14 = .ok (.iload_n 1, 1) := by decide +kernel
theorem dX0_write_15 : decode cX0_write 15 = .ok (.aload_n 0, 1) := by decide +kernel
theorem dX0_write_16 : decode cX0_write 16 = .ok (.getfield 30, 3) := by decide +kernel
theorem dX0_write_19 : decode cX0_write 19 = .ok (.iastore, 1) := by decide +kernel
theorem dX0_write_20 : decode cX0_write 20 = .ok (.aload_n 0, 1) := by decide +kernel
theorem dX0_write_21 : decode cX0_write 21 = .ok (.getfield 27, 3) := by decide +kernel
theorem dX0_write_24 : decode cX0_write 24 = .ok (.iload_n 1, 1) := by decide +kernel
theorem dX0_write_25 : decode cX0_write 25 = .ok (.iload_n 2, 1) := by decide +kernel
theorem dX0_write_26 : decode cX0_write 26 = .ok (.iastore, 1) := by decide +kernel
theorem dX0_write_27 : decode cX0_write 27 = .ok (.return_, 1) := by decide +kernel
theorem dX1_init_0 : decode cX1_init 0 = .ok (.aload_n 0, 1) := by decide +kernel
theorem dX1_init_1 : decode cX1_init 1 = .ok (.invokespecial 3, 3) := by decide +kernel
theorem dX1_init_4 : decode cX1_init 4 = .ok (.aload_n 0, 1) := by decide +kernel
theorem dX1_init_5 : decode cX1_init 5 = .ok (.sipush 200, 3) := by decide +kernel
theorem dX1_init_8 : decode cX1_init 8 = .ok (.newarray .int, 2) := by decide +kernel
theorem dX1_init_10 : decode cX1_init 10 = .ok (.putfield 9, 3) := by decide +kernel
theorem dX1_init_13 : decode cX1_init 13 = .ok (.aload_n 0, 1) := by decide +kernel
theorem dX1_init_14 : decode cX1_init 14 = .ok (.sipush 200, 3) := by decide +kernel
theorem dX1_init_17 : decode cX1_init 17 = .ok (.newarray .int, 2) := by decide +kernel
theorem dX1_init_19 : decode cX1_init 19 = .ok (.putfield 15, 3) := by decide +kernel
theorem dX1_init_22 : decode cX1_init 22 = .ok (.aload_n 0, 1) := by decide +kernel
theorem dX1_init_23 : decode cX1_init 23 = .ok (.sipush 200, 3) := by decide +kernel
theorem dX1_init_26 : decode cX1_init 26 = .ok (.newarray .int, 2) := by decide +kernel
theorem dX1_init_28 : decode cX1_init 28 = .ok (.putfield 18, 3) := by decide +kernel
theorem dX1_init_31 : decode cX1_init 31 = .ok (.aload_n 0, 1) := by decide +kernel
theorem dX1_init_32 : decode cX1_init 32 = .ok (.sipush 200, 3) := by decide +kernel
theorem dX1_init_35 : decode cX1_init 35 = .ok (.newarray .int, 2) := by decide +kernel
theorem dX1_init_37 : decode cX1_init 37 = .ok (.putfield 21, 3) := by decide +kernel
theorem dX1_init_40 : decode cX1_init 40 = .ok (.aload_n 0, 1) := by decide +kernel
theorem dX1_init_41 : decode cX1_init 41 = .ok (.sipush 200, 3) := by decide +kernel
theorem dX1_init_44 : decode cX1_init 44 = .ok (.newarray .int, 2) := by decide +kernel
theorem dX1_init_46 : decode cX1_init 46 = .ok (.putfield 24, 3) := by decide +kernel
theorem dX1_init_49 : decode cX1_init 49 = .ok (.aload_n 0, 1) := by decide +kernel
theorem dX1_init_50 : decode cX1_init 50 = .ok (.iconst 0, 1) := by decide +kernel
theorem dX1_init_51 : decode cX1_init 51 = .ok (.putfield 27, 3) := by decide +kernel
theorem dX1_init_54 : decode cX1_init 54 = .ok (.return_, 1) := by decide +kernel
theorem dX1_add_0 : decode cX1_add 0 = .ok (.aload_n 0, 1) := by decide +kernel
theorem dX1_add_1 : decode cX1_add 1 = .ok (.getfield 27, 3) := by decide +kernel
theorem dX1_add_4 : decode cX1_add 4 = .ok (.istore 6, 2) := by decide +kernel
theorem dX1_add_6 : decode cX1_add 6 = .ok (.aload_n 0, 1) := by decide +kernel
theorem dX1_add_7 : decode cX1_add 7 = .ok (.getfield 9, 3) := by decide +kernel
theorem dX1_add_10 : decode cX1_add 10 = .ok (.iload 6, 2) := by decide +kernel
theorem dX1_add_12 : decode cX1_add 12 = .ok (.iload_n 1, 1) := by decide +kernel
theorem dX1_add_13 : decode cX1_add 13 = .ok (.iastore, 1) := by decide +kernel
theorem dX1_add_14 : decode cX1_add 14 = .ok (.aload_n 0, 1) := by decide +kernel
theorem dX1_add_15 : decode cX1_add 15 = .ok (.getfield 15, 3) := by decide +kernel
theorem dX1_add_18 : decode cX1_add 18 = .ok (.iload 6, 2) := by decide +kernel
theorem dX1_add_20 : decode cX1_add 20 = .ok (.iload_n 2, 1) := by decide +kernel
theorem dX1_add_21 : decode cX1_add 21 = .ok (.iastore, 1) := by decide +kernel
theorem dX1_add_22 : decode cX1_add 22 = .ok (.aload_n 0, 1) := by decide +kernel
theorem dX1_add_23 : decode cX1_add 23 = .ok (.getfield 18, 3) := by decide +kernel
theorem dX1_add_26 : decode cX1_add 26 = .ok (.iload 6, 2) := by decide +kernel
theorem dX1_add_28 : decode cX1_add 28 = .ok (.iload_n 3, 1) := by decide +kernel
theorem dX1_add_29 : decode cX1_add 29 = .ok (.iastore, 1) := by decide +kernel
theorem dX1_add_30 : decode cX1_add 30 = .ok (.aload_n 0, 1) := by decide +kernel
theorem dX1_add_31 : decode cX1_add 31 = .ok (.getfield 21, 3) := by decide +kernel
theorem dX1_add_34 : decode cX1_add 34 = .ok (.iload 6, 2) := by decide +kernel
theorem dX1_add_36 : decode cX1_add 36 = .ok (.iload 4, 2) := by decide +kernel
theorem dX1_add_38 : decode cX1_add 38 = .ok (.iastore, 1) := by decide +kernel
theorem dX1_add_39 : decode cX1_add 39 = .ok (.aload_n 0, 1) := by decide +kernel
theorem dX1_add_40 : decode cX1_add 40 = .ok (.getfield 24, 3) := by decide +kernel
theorem dX1_add_43 : decode cX1_add 43 = .ok (.iload 6, 2) := by decide +kernel
theorem dX1_add_45 : decode cX1_add 45 = .ok (.iload 5, 2) := by decide +kernel
theorem dX1_add_47 : decode cX1_add 47 = .ok (.iastore, 1) := by decide +kernel
theorem dX1_add_48 : decode cX1_add 48 = .ok (.aload_n 0, 1) := by decide +kernel
theorem dX1_add_49 : decode cX1_add 49 = .ok (.dup, 1) := by decide +kernel
theorem dX1_add_50 : decode cX1_add 50 = .ok (.getfield 27, 3) := by decide +kernel
theorem dX1_add_53 : decode cX1_add 53 = .ok (.iconst 1, 1) := by decide +kernel
theorem dX1_add_54 : decode cX1_add 54 = .ok (.iadd, 1) := by decide +kernel
theorem dX1_add_55 : decode cX1_add 55 = .ok (.putfield 27, 3) := by decide +kernel
theorem dX1_add_58 : decode cX1_add 58 = .ok (.iload 6, 2) := by decide +kernel
theorem dX1_add_60 : decode cX1_add 60 = .ok (.ireturn, 1) := by decide +kernel
theorem dX1_brought_0 : decode cX1_brought 0 = .ok (.iconst 0, 1) := by decide +kernel
theorem dX1_brought_1 : decode cX1_brought 1 = .ok (.istore 5, 2) := by decide +kernel
theorem dX1_brought_3 : decode cX1_brought 3 = .ok (.iconst 0, 1) := by decide +kernel
theorem dX1_brought_4 : decode cX1_brought 4 = .ok (.istore 6, 2) := by decide +kernel
theorem dX1_brought_6 : decode cX1_brought 6 = .ok (.iload 6, 2) := by decide +kernel
theorem dX1_brought_8 : decode cX1_brought 8 = .ok (.aload_n 0, 1) := by decide +kernel
theorem dX1_brought_9 : decode cX1_brought 9 = .ok (.getfield 27, 3) := by decide +kernel
theorem dX1_brought_12 : decode cX1_brought 12 = .ok (.if_icmp .ge 92, 3) := by decide +kernel
theorem dX1_brought_15 : decode cX1_brought 15 = .ok (.aload_n 0, 1) := by decide +kernel
theorem dX1_brought_16 : decode cX1_brought 16 = .ok (.getfield 18, 3) := by decide +kernel
theorem dX1_brought_19 : decode cX1_brought 19 = .ok (.iload 6, 2) := by decide +kernel
theorem dX1_brought_21 : decode cX1_brought 21 = .ok (.iaload, 1) := by decide +kernel
theorem dX1_brought_22 : decode cX1_brought 22 = .ok (.iload_n 2, 1) := by decide +kernel
theorem dX1_brought_23 : decode cX1_brought 23 = .ok (.if_icmp .ne 75, 3) := by decide +kernel
theorem dX1_brought_26 : decode cX1_brought 26 = .ok (.aload_n 0, 1) := by decide +kernel
theorem dX1_brought_27 : decode cX1_brought 27 = .ok (.getfield 24, 3) := by decide +kernel
theorem dX1_brought_30 : decode cX1_brought 30 = .ok (.iload 6, 2) := by decide +kernel
theorem dX1_brought_32 : decode cX1_brought 32 = .ok (.iaload, 1) := by decide +kernel
theorem dX1_brought_33 : decode cX1_brought 33 = .ok (.iload_n 3, 1) := by decide +kernel
theorem dX1_brought_34 : decode cX1_brought 34 = .ok (.if_icmp .le 64, 3) := by decide +kernel
theorem dX1_brought_37 : decode cX1_brought 37 = .ok (.aload_n 0, 1) := by decide +kernel
theorem dX1_brought_38 : decode cX1_brought 38 = .ok (.getfield 24, 3) := by decide +kernel
theorem dX1_brought_41 : decode cX1_brought 41 = .ok (.iload 6, 2) := by decide +kernel
theorem dX1_brought_43 : decode cX1_brought 43 = .ok (.iaload, 1) := by decide +kernel
theorem dX1_brought_44 : decode cX1_brought 44 = .ok (.iload 4, 2) := by decide +kernel
theorem dX1_brought_46 : decode cX1_brought 46 = .ok (.if_icmp .gt 52, 3) := by decide +kernel
theorem dX1_brought_49 : decode cX1_brought 49 = .ok (.aload_n 0, 1) := by decide +kernel
theorem dX1_brought_50 : decode cX1_brought 50 = .ok (.getfield 15, 3) := by decide +kernel
theorem dX1_brought_53 : decode cX1_brought 53 = .ok (.iload 6, 2) := by decide +kernel
theorem dX1_brought_55 : decode cX1_brought 55 = .ok (.iaload, 1) := by decide +kernel
theorem dX1_brought_56 : decode cX1_brought 56 = .ok (.iload_n 1, 1) := by decide +kernel
theorem dX1_brought_57 : decode cX1_brought 57 = .ok (.if_icmp .ne 18, 3) := by decide +kernel
theorem dX1_brought_60 : decode cX1_brought 60 = .ok (.iload 5, 2) := by decide +kernel
theorem dX1_brought_62 : decode cX1_brought 62 = .ok (.aload_n 0, 1) := by decide +kernel
theorem dX1_brought_63 : decode cX1_brought 63 = .ok (.getfield 21, 3) := by decide +kernel
theorem dX1_brought_66 : decode cX1_brought 66 = .ok (.iload 6, 2) := by decide +kernel
theorem dX1_brought_68 : decode cX1_brought 68 = .ok (.iaload, 1) := by decide +kernel
theorem dX1_brought_69 : decode cX1_brought 69 = .ok (.iadd, 1) := by decide +kernel
theorem dX1_brought_70 : decode cX1_brought 70 = .ok (.istore 5, 2) := by decide +kernel
theorem dX1_brought_72 : decode cX1_brought 72 = .ok (.goto 26, 3) := by decide +kernel
theorem dX1_brought_75 : decode cX1_brought 75 = .ok (.aload_n 0, 1) := by decide +kernel
theorem dX1_brought_76 : decode cX1_brought 76 = .ok (.getfield 9, 3) := by decide +kernel
theorem dX1_brought_79 : decode cX1_brought 79 = .ok (.iload 6, 2) := by decide +kernel
theorem dX1_brought_81 : decode cX1_brought 81 = .ok (.iaload, 1) := by decide +kernel
theorem dX1_brought_82 : decode cX1_brought 82 = .ok (.iload_n 1, 1) := by decide +kernel
theorem dX1_brought_83 : decode cX1_brought 83 = .ok (.if_icmp .ne 15, 3) := by decide +kernel
theorem dX1_brought_86 : decode cX1_brought 86 = .ok (.iload 5, 2) := by decide +kernel
theorem dX1_brought_88 : decode cX1_brought 88 = .ok (.aload_n 0, 1) := by decide +kernel
theorem dX1_brought_89 : decode cX1_brought 89 = .ok (.getfield 21, 3) := by decide +kernel
theorem dX1_brought_92 : decode cX1_brought 92 = .ok (.iload 6, 2) := by decide +kernel
theorem dX1_brought_94 : decode cX1_brought 94 = .ok (.iaload, 1) := by decide +kernel
theorem dX1_brought_95 : decode cX1_brought 95 = .ok (.isub, 1) := by decide +kernel
theorem dX1_brought_96 : decode cX1_brought 96 = .ok (.istore 5, 2) := by decide +kernel
theorem dX1_brought_98 : decode cX1_brought 98 = .ok (.iinc 6 1, 3) := by decide +kernel
theorem dX1_brought_101 : decode cX1_brought 101 = .ok (.goto (-95), 3) := by decide +kernel
theorem dX1_brought_104 : decode cX1_brought 104 = .ok (.iload 5, 2) := by decide +kernel
theorem dX1_brought_106 : decode cX1_brought 106 = .ok (.ireturn, 1) := by decide +kernel
theorem dX2_init_0 : decode cX2_init 0 = .ok (.aload_n 0, 1) := by decide +kernel
theorem dX2_init_1 : decode cX2_init 1 = .ok (.invokespecial 3, 3) := by decide +kernel
theorem dX2_init_4 : decode cX2_init 4 = .ok (.aload_n 0, 1) := by decide +kernel
theorem dX2_init_5 : decode cX2_init 5 = .ok (.bipush 40, 2) := by decide +kernel
theorem dX2_init_7 : decode cX2_init 7 = .ok (.newarray .int, 2) := by decide +kernel
theorem dX2_init_9 : decode cX2_init 9 = .ok (.putfield 9, 3) := by decide +kernel
theorem dX2_init_12 : decode cX2_init 12 = .ok (.aload_n 0, 1) := by decide +kernel
theorem dX2_init_13 : decode cX2_init 13 = .ok (.bipush 40, 2) := by decide +kernel
theorem dX2_init_15 : decode cX2_init 15 = .ok (.newarray .int, 2) := by decide +kernel
theorem dX2_init_17 : decode cX2_init 17 = .ok (.putfield 15, 3) := by decide +kernel
theorem dX2_init_20 : decode cX2_init 20 = .ok (.aload_n 0, 1) := by decide +kernel
theorem dX2_init_21 : decode cX2_init 21 = .ok (.bipush 40, 2) := by decide +kernel
theorem dX2_init_23 : decode cX2_init 23 = .ok (.newarray .boolean, 2) := by decide +kernel
theorem dX2_init_25 : decode cX2_init 25 = .ok (.putfield 18, 3) := by decide +kernel
theorem dX2_init_28 : decode cX2_init 28 = .ok (.aload_n 0, 1) := by decide +kernel
theorem dX2_init_29 : decode cX2_init 29 = .ok (.iconst 0, 1) := by decide +kernel
theorem dX2_init_30 : decode cX2_init 30 = .ok (.putfield 22, 3) := by decide +kernel
theorem dX2_init_33 : decode cX2_init 33 = .ok (.return_, 1) := by decide +kernel
theorem dX2_add_0 : decode cX2_add 0 = .ok (.aload_n 0, 1) := by decide +kernel
theorem dX2_add_1 : decode cX2_add 1 = .ok (.getfield 22, 3) := by decide +kernel
theorem dX2_add_4 : decode cX2_add 4 = .ok (.istore_n 3, 1) := by decide +kernel
theorem dX2_add_5 : decode cX2_add 5 = .ok (.aload_n 0, 1) := by decide +kernel
theorem dX2_add_6 : decode cX2_add 6 = .ok (.getfield 9, 3) := by decide +kernel
theorem dX2_add_9 : decode cX2_add 9 = .ok (.iload_n 3, 1) := by decide +kernel
theorem dX2_add_10 : decode cX2_add 10 = .ok (.iload_n 1, 1) := by decide +kernel
theorem dX2_add_11 : decode cX2_add 11 = .ok (.iastore, 1) := by decide +kernel
theorem dX2_add_12 : decode cX2_add 12 = .ok (.aload_n 0, 1) := by decide +kernel
theorem dX2_add_13 : decode cX2_add 13 = .ok (.getfield 15, 3) := by decide +kernel
theorem dX2_add_16 : decode cX2_add 16 = .ok (.iload_n 3, 1) := by decide +kernel
theorem dX2_add_17 : decode cX2_add 17 = .ok (.iload_n 2, 1) := by decide +kernel
theorem dX2_add_18 : decode cX2_add 18 = .ok (.iastore, 1) := by decide +kernel
theorem dX2_add_19 : decode cX2_add 19 = .ok (.aload_n 0, 1) := by decide +kernel
theorem dX2_add_20 : decode cX2_add 20 = .ok (.dup, 1) := by decide +kernel
theorem dX2_add_21 : decode cX2_add 21 = .ok (.getfield 22, 3) := by decide +kernel
theorem dX2_add_24 : decode cX2_add 24 = .ok (.iconst 1, 1) := by decide +kernel
theorem dX2_add_25 : decode cX2_add 25 = .ok (.iadd, 1) := by decide +kernel
theorem dX2_add_26 : decode cX2_add 26 = .ok (.putfield 22, 3) := by decide +kernel
theorem dX2_add_29 : decode cX2_add 29 = .ok (.iload_n 3, 1) := by decide +kernel
theorem dX2_add_30 : decode cX2_add 30 = .ok (.ireturn, 1) := by decide +kernel
theorem dX2_isOpenFor_0 : decode cX2_isOpenFor 0 = .ok (.aload_n 0, 1) := by decide +kernel
theorem dX2_isOpenFor_1 : decode cX2_isOpenFor 1 = .ok (.iload_n 1, 1) := by decide +kernel
theorem dX2_isOpenFor_2 : decode cX2_isOpenFor 2 = .ok (.invokevirtual 26, 3) := by decide +kernel
theorem dX2_isOpenFor_5 : decode cX2_isOpenFor 5 = .ok (.istore_n 2, 1) := by decide +kernel
theorem dX2_isOpenFor_6 : decode cX2_isOpenFor 6 = .ok (.iload_n 2, 1) := by decide +kernel
theorem dX2_isOpenFor_7 : decode cX2_isOpenFor 7 = .ok (.iconst (-1), 1) := by decide +kernel
theorem dX2_isOpenFor_8 : decode cX2_isOpenFor 8 = .ok (.if_icmp .eq 16, 3) := by decide +kernel
theorem dX2_isOpenFor_11 : decode cX2_isOpenFor 11 = .ok (.aload_n 0, 1) := by decide +kernel
theorem dX2_isOpenFor_12 : decode cX2_isOpenFor 12 = .ok (.getfield 18, 3) := by decide +kernel
theorem dX2_isOpenFor_15 : decode cX2_isOpenFor 15 = .ok (.iload_n 2, 1) := by decide +kernel
theorem dX2_isOpenFor_16 : decode cX2_isOpenFor 16 = .ok (.baload, 1) := by decide +kernel
theorem dX2_isOpenFor_17 : decode cX2_isOpenFor 17 = .ok (.ifCond .ne 7, 3) := by decide +kernel
theorem dX2_isOpenFor_20 : decode cX2_isOpenFor 20 = .ok (.iconst 1, 1) := by decide +kernel
theorem dX2_isOpenFor_21 : decode cX2_isOpenFor 21 = .ok (.goto 4, 3) := by decide +kernel
theorem dX2_isOpenFor_24 : decode cX2_isOpenFor 24 = .ok (.iconst 0, 1) := by decide +kernel
theorem dX2_isOpenFor_25 : decode cX2_isOpenFor 25 = .ok (.ireturn, 1) := by decide +kernel
theorem dX2_latestFor_0 : decode cX2_latestFor 0 = .ok (.aload_n 0, 1) := by decide +kernel
theorem dX2_latestFor_1 : decode cX2_latestFor 1 = .ok (.getfield 22, 3) := by decide +kernel
theorem dX2_latestFor_4 : decode cX2_latestFor 4 = .ok (.iconst 1, 1) := by decide +kernel
theorem dX2_latestFor_5 : decode cX2_latestFor 5 = .ok (.isub, 1) := by decide +kernel
theorem dX2_latestFor_6 : decode cX2_latestFor 6 = .ok (.istore_n 2, 1) := by decide +kernel
theorem dX2_latestFor_7 : decode cX2_latestFor 7 = .ok (.iload_n 2, 1) := by decide +kernel
theorem dX2_latestFor_8 : decode cX2_latestFor 8 = .ok (.ifCond .lt 21, 3) := by decide +kernel
theorem dX2_latestFor_11 : decode cX2_latestFor 11 = .ok (.aload_n 0, 1) := by decide +kernel
theorem dX2_latestFor_12 : decode cX2_latestFor 12 = .ok (.getfield 9, 3) := by decide +kernel
theorem dX2_latestFor_15 : decode cX2_latestFor 15 = .ok (.iload_n 2, 1) := by decide +kernel
theorem dX2_latestFor_16 : decode cX2_latestFor 16 = .ok (.iaload, 1) := by decide +kernel
theorem dX2_latestFor_17 : decode cX2_latestFor 17 = .ok (.iload_n 1, 1) := by decide +kernel
theorem dX2_latestFor_18 : decode cX2_latestFor 18 = .ok (.if_icmp .ne 5, 3) := by decide +kernel
theorem dX2_latestFor_21 : decode cX2_latestFor 21 = .ok (.iload_n 2, 1) := by decide +kernel
theorem dX2_latestFor_22 : decode cX2_latestFor 22 = .ok (.ireturn, 1) := by decide +kernel
theorem dX2_latestFor_23 : decode cX2_latestFor 23 = .ok (.iinc 2 (-1), 3) := by decide +kernel
theorem dX2_latestFor_26 : decode cX2_latestFor 26 = .ok (.goto (-19), 3) := by decide +kernel
theorem dX2_latestFor_29 : decode cX2_latestFor 29 = .ok (.iconst (-1), 1) := by decide +kernel
theorem dX2_latestFor_30 : decode cX2_latestFor 30 = .ok (.ireturn, 1) := by decide +kernel
theorem dX3_init_0 : decode cX3_init 0 = .ok (.aload_n 0, 1) := by decide +kernel
theorem dX3_init_1 : decode cX3_init 1 = .ok (.invokespecial 3, 3) := by decide +kernel
theorem dX3_init_4 : decode cX3_init 4 = .ok (.aload_n 0, 1) := by decide +kernel
theorem dX3_init_5 : decode cX3_init 5 = .ok (.iconst 5, 1) := by decide +kernel
theorem dX3_init_6 : decode cX3_init 6 = .ok (.newarray .int, 2) := by decide +kernel
theorem dX3_init_8 : decode cX3_init 8 = .ok (.putfield 9, 3) := by decide +kernel
theorem dX3_init_11 : decode cX3_init 11 = .ok (.aload_n 0, 1) := by decide +kernel
theorem dX3_init_12 : decode cX3_init 12 = .ok (.bipush 6, 2) := by decide +kernel
theorem dX3_init_14 : decode cX3_init 14 = .ok (.newarray .int, 2) := by decide +kernel
theorem dX3_init_16 : decode cX3_init 16 = .ok (.putfield 13, 3) := by decide +kernel
theorem dX3_init_19 : decode cX3_init 19 = .ok (.aload_n 0, 1) := by decide +kernel
theorem dX3_init_20 : decode cX3_init 20 = .ok (.new 16, 3) := by decide +kernel
theorem dX3_init_23 : decode cX3_init 23 = .ok (.dup, 1) := by decide +kernel
theorem dX3_init_24 : decode cX3_init 24 = .ok (.invokespecial 18, 3) := by decide +kernel
theorem dX3_init_27 : decode cX3_init 27 = .ok (.putfield 19, 3) := by decide +kernel
theorem dX3_init_30 : decode cX3_init 30 = .ok (.aload_n 0, 1) := by decide +kernel
theorem dX3_init_31 : decode cX3_init 31 = .ok (.new 23, 3) := by decide +kernel
theorem dX3_init_34 : decode cX3_init 34 = .ok (.dup, 1) := by decide +kernel
theorem dX3_init_35 : decode cX3_init 35 = .ok (.invokespecial 25, 3) := by decide +kernel
theorem dX3_init_38 : decode cX3_init 38 = .ok (.putfield 26, 3) := by decide +kernel
theorem dX3_init_41 : decode cX3_init 41 = .ok (.aload_n 0, 1) := by decide +kernel
theorem dX3_init_42 : decode cX3_init 42 = .ok (.new 30, 3) := by decide +kernel
theorem dX3_init_45 : decode cX3_init 45 = .ok (.dup, 1) := by decide +kernel
theorem dX3_init_46 : decode cX3_init 46 = .ok (.invokespecial 32, 3) := by decide +kernel
theorem dX3_init_49 : decode cX3_init 49 = .ok (.putfield 33, 3) := by decide +kernel
theorem dX3_init_52 : decode cX3_init 52 = .ok (.aload_n 0, 1) := by decide +kernel
theorem dX3_init_53 : decode cX3_init 53 = .ok (.iconst 0, 1) := by decide +kernel
theorem dX3_init_54 : decode cX3_init 54 = .ok (.putfield 37, 3) := by decide +kernel
theorem dX3_init_57 : decode cX3_init 57 = .ok (.aload_n 0, 1) := by decide +kernel
theorem dX3_init_58 : decode cX3_init 58 = .ok (.getfield 9, 3) := by decide +kernel
theorem dX3_init_61 : decode cX3_init 61 = .ok (.iconst 1, 1) := by decide +kernel
theorem dX3_init_62 : decode cX3_init 62 = .ok (.invokestatic 41, 3) := by decide +kernel
theorem dX3_init_65 : decode cX3_init 65 = .ok (.aload_n 0, 1) := by decide +kernel
theorem dX3_init_66 : decode cX3_init 66 = .ok (.getfield 13, 3) := by decide +kernel
theorem dX3_init_69 : decode cX3_init 69 = .ok (.bipush 100, 2) := by decide +kernel
theorem dX3_init_71 : decode cX3_init 71 = .ok (.invokestatic 41, 3) := by decide +kernel
theorem dX3_init_74 : decode cX3_init 74 = .ok (.return_, 1) := by decide +kernel
theorem dX3_setPrice_0 : decode cX3_setPrice 0 = .ok (.iload_n 1, 1) := by decide +kernel
theorem dX3_setPrice_1 : decode cX3_setPrice 1 = .ok (.iconst 5, 1) := by decide +kernel
theorem dX3_setPrice_2 : decode cX3_setPrice 2 = .ok (.invokestatic 47, 3) := by decide +kernel
theorem dX3_setPrice_5 : decode cX3_setPrice 5 = .ok (.iload_n 2, 1) := by decide +kernel
theorem dX3_setPrice_6 : decode cX3_setPrice 6 = .ok (.iconst 0, 1) := by decide +kernel
theorem dX3_setPrice_7 : decode cX3_setPrice 7 = .ok (.sipush 1000, 3) := by decide +kernel
theorem dX3_setPrice_10 : decode cX3_setPrice 10 = .ok (.invokestatic 51, 3) := by decide +kernel
theorem dX3_setPrice_13 : decode cX3_setPrice 13 = .ok (.aload_n 0, 1) := by decide +kernel
theorem dX3_setPrice_14 : decode cX3_setPrice 14 = .ok (.getfield 9, 3) := by decide +kernel
theorem dX3_setPrice_17 : decode cX3_setPrice 17 = .ok (.iload_n 1, 1) := by decide +kernel
theorem dX3_setPrice_18 : decode cX3_setPrice 18 = .ok (.iaload, 1) := by decide +kernel
theorem dX3_setPrice_19 : decode cX3_setPrice 19 = .ok (.istore_n 3, 1) := by decide +kernel
theorem dX3_setPrice_20 : decode cX3_setPrice 20 = .ok (.aload_n 0, 1) := by decide +kernel
theorem dX3_setPrice_21 : decode cX3_setPrice 21 = .ok (.getfield 9, 3) := by decide +kernel
theorem dX3_setPrice_24 : decode cX3_setPrice 24 = .ok (.iload_n 1, 1) := by decide +kernel
theorem dX3_setPrice_25 : decode cX3_setPrice 25 = .ok (.iload_n 2, 1) := by decide +kernel
theorem dX3_setPrice_26 : decode cX3_setPrice 26 = .ok (.iastore, 1) := by decide +kernel
theorem dX3_setPrice_27 : decode cX3_setPrice 27 = .ok (.iload_n 3, 1) := by decide +kernel
theorem dX3_setPrice_28 : decode cX3_setPrice 28 = .ok (.ireturn, 1) := by decide +kernel
theorem dX3_setBound_0 : decode cX3_setBound 0 = .ok (.iload_n 1, 1) := by decide +kernel
theorem dX3_setBound_1 : decode cX3_setBound 1 = .ok (.bipush 6, 2) := by decide +kernel
theorem dX3_setBound_3 : decode cX3_setBound 3 = .ok (.invokestatic 47, 3) := by decide +kernel
theorem dX3_setBound_6 : decode cX3_setBound 6 = .ok (.iload_n 2, 1) := by decide +kernel
theorem dX3_setBound_7 : decode cX3_setBound 7 = .ok (.iconst 0, 1) := by decide +kernel
theorem dX3_setBound_8 : decode cX3_setBound 8 = .ok (.ldc 55, 2) := by decide +kernel
theorem dX3_setBound_10 : decode cX3_setBound 10 = .ok (.invokestatic 51, 3) := by decide +kernel
theorem dX3_setBound_13 : decode cX3_setBound 13 = .ok (.aload_n 0, 1) := by decide +kernel
theorem dX3_setBound_14 : decode cX3_setBound 14 = .ok (.getfield 13, 3) := by decide +kernel
theorem dX3_setBound_17 : decode cX3_setBound 17 = .ok (.iload_n 1, 1) := by decide +kernel
theorem dX3_setBound_18 : decode cX3_setBound 18 = .ok (.iaload, 1) := by decide +kernel
theorem dX3_setBound_19 : decode cX3_setBound 19 = .ok (.istore_n 3, 1) := by decide +kernel
theorem dX3_setBound_20 : decode cX3_setBound 20 = .ok (.aload_n 0, 1) := by decide +kernel
theorem dX3_setBound_21 : decode cX3_setBound 21 = .ok (.getfield 13, 3) := by decide +kernel
theorem dX3_setBound_24 : decode cX3_setBound 24 = .ok (.iload_n 1, 1) := by decide +kernel
theorem dX3_setBound_25 : decode cX3_setBound 25 = .ok (.iload_n 2, 1) := by decide +kernel
theorem dX3_setBound_26 : decode cX3_setBound 26 = .ok (.iastore, 1) := by decide +kernel
theorem dX3_setBound_27 : decode cX3_setBound 27 = .ok (.iload_n 3, 1) := by decide +kernel
theorem dX3_setBound_28 : decode cX3_setBound 28 = .ok (.ireturn, 1) := by decide +kernel
theorem dX3_move_0 : decode cX3_move 0 = .ok (.iload_n 1, 1) := by decide +kernel
theorem dX3_move_1 : decode cX3_move 1 = .ok (.invokestatic 56, 3) := by decide +kernel
theorem dX3_move_4 : decode cX3_move 4 = .ok (.iload_n 2, 1) := by decide +kernel
theorem dX3_move_5 : decode cX3_move 5 = .ok (.invokestatic 56, 3) := by decide +kernel
theorem dX3_move_8 : decode cX3_move 8 = .ok (.iload_n 3, 1) := by decide +kernel
theorem dX3_move_9 : decode cX3_move 9 = .ok (.iconst 5, 1) := by decide +kernel
theorem dX3_move_10 : decode cX3_move 10 = .ok (.invokestatic 47, 3) := by decide +kernel
theorem dX3_move_13 : decode cX3_move 13 = .ok (.iload_n 1, 1) := by decide +kernel
theorem dX3_move_14 : decode cX3_move 14 = .ok (.iload_n 2, 1) := by decide +kernel
theorem dX3_move_15 : decode cX3_move 15 = .ok (.if_icmp .ne 13, 3) := by decide +kernel
theorem dX3_move_18 : decode cX3_move 18 = .ok (.new 60, 3) := by decide +kernel
theorem dX3_move_21 : decode cX3_move 21 = .ok (.dup, 1) := by decide +kernel
theorem dX3_move_22 : decode cX3_move 22 = .ok (.ldc 62, 2) := by decide +kernel
theorem dX3_move_24 : decode cX3_move 24 = .ok (.invokespecial 64, 3) := by decide +kernel
theorem dX3_move_27 : decode cX3_move 27 = .ok (.athrow, 1) := by decide +kernel
theorem dX3_move_28 : decode cX3_move 28 = .ok (.iload 4, 2) := by decide +kernel
theorem dX3_move_30 : decode cX3_move 30 = .ok (.iconst 1, 1) := by decide +kernel
theorem dX3_move_31 : decode cX3_move 31 = .ok (.sipush 1000, 3) := by decide +kernel
theorem dX3_move_34 : decode cX3_move 34 = .ok (.invokestatic 51, 3) := by decide +kernel
theorem dX3_move_37 : decode cX3_move 37 = .ok (.iload 5, 2) := by decide +kernel
theorem dX3_move_39 : decode cX3_move 39 = .ok (.iconst 0, 1) := by decide +kernel
theorem dX3_move_40 : decode cX3_move 40 = .ok (.aload_n 0, 1) := by decide +kernel
theorem dX3_move_41 : decode cX3_move 41 = .ok (.getfield 37, 3) := by decide +kernel
theorem dX3_move_44 : decode cX3_move 44 = .ok (.invokestatic 51, 3) := by decide +kernel
theorem dX3_move_47 : decode cX3_move 47 = .ok (.aload_n 0, 1) := by decide +kernel
theorem dX3_move_48 : decode cX3_move 48 = .ok (.getfield 19, 3) := by decide +kernel
theorem dX3_move_51 : decode cX3_move 51 = .ok (.getfield 67, 3) := by decide +kernel
theorem dX3_move_54 : decode cX3_move 54 = .ok (.sipush 200, 3) := by decide +kernel
theorem dX3_move_57 : decode cX3_move 57 = .ok (.if_icmp .lt 13, 3) := by decide +kernel
theorem dX3_move_60 : decode cX3_move 60 = .ok (.new 70, 3) := by decide +kernel
theorem dX3_move_63 : decode cX3_move 63 = .ok (.dup, 1) := by decide +kernel
theorem dX3_move_64 : decode cX3_move 64 = .ok (.ldc 72, 2) := by decide +kernel
theorem dX3_move_66 : decode cX3_move 66 = .ok (.invokespecial 74, 3) := by decide +kernel
theorem dX3_move_69 : decode cX3_move 69 = .ok (.athrow, 1) := by decide +kernel
theorem dX3_move_70 : decode cX3_move 70 = .ok (.aload_n 0, 1) := by decide +kernel
theorem dX3_move_71 : decode cX3_move 71 = .ok (.getfield 19, 3) := by decide +kernel
theorem dX3_move_74 : decode cX3_move 74 = .ok (.iload_n 1, 1) := by decide +kernel
theorem dX3_move_75 : decode cX3_move 75 = .ok (.iload_n 2, 1) := by decide +kernel
theorem dX3_move_76 : decode cX3_move 76 = .ok (.iload_n 3, 1) := by decide +kernel
theorem dX3_move_77 : decode cX3_move 77 = .ok (.iload 4, 2) := by decide +kernel
theorem dX3_move_79 : decode cX3_move 79 = .ok (.iload 5, 2) := by decide +kernel
theorem dX3_move_81 : decode cX3_move 81 = .ok (.invokevirtual 75, 3) := by decide +kernel
theorem dX3_move_84 : decode cX3_move 84 = .ok (.ireturn, 1) := by decide +kernel
theorem dX3_pass_0 : decode cX3_pass 0 = .ok (.iload_n 1, 1) := by decide +kernel
theorem dX3_pass_1 : decode cX3_pass 1 = .ok (.iconst 1, 1) := by decide +kernel
theorem dX3_pass_2 : decode cX3_pass 2 = .ok (.sipush 1000, 3) := by decide +kernel
theorem dX3_pass_5 : decode cX3_pass 5 = .ok (.invokestatic 51, 3) := by decide +kernel
theorem dX3_pass_8 : decode cX3_pass 8 = .ok (.aload_n 0, 1) := by decide +kernel
theorem dX3_pass_9 : decode cX3_pass 9 = .ok (.dup, 1) := by decide +kernel
theorem dX3_pass_10 : decode cX3_pass 10 = .ok (.getfield 37, 3) := by decide +kernel
theorem dX3_pass_13 : decode cX3_pass 13 = .ok (.iload_n 1, 1) := by decide +kernel
theorem dX3_pass_14 : decode cX3_pass 14 = .ok (.iadd, 1) := by decide +kernel
theorem dX3_pass_15 : decode cX3_pass 15 = .ok (.putfield 37, 3) := by decide +kernel
theorem dX3_pass_18 : decode cX3_pass 18 = .ok (.aload_n 0, 1) := by decide +kernel
theorem dX3_pass_19 : decode cX3_pass 19 = .ok (.getfield 37, 3) := by decide +kernel
theorem dX3_pass_22 : decode cX3_pass 22 = .ok (.ireturn, 1) := by decide +kernel
theorem dX3_open_0 : decode cX3_open 0 = .ok (.iload_n 1, 1) := by decide +kernel
theorem dX3_open_1 : decode cX3_open 1 = .ok (.bipush 12, 2) := by decide +kernel
theorem dX3_open_3 : decode cX3_open 3 = .ok (.invokestatic 47, 3) := by decide +kernel
theorem dX3_open_6 : decode cX3_open 6 = .ok (.aload_n 0, 1) := by decide +kernel
theorem dX3_open_7 : decode cX3_open 7 = .ok (.getfield 26, 3) := by decide +kernel
theorem dX3_open_10 : decode cX3_open 10 = .ok (.iload_n 1, 1) := by decide +kernel
theorem dX3_open_11 : decode cX3_open 11 = .ok (.invokevirtual 79, 3) := by decide +kernel
theorem dX3_open_14 : decode cX3_open 14 = .ok (.ifCond .eq 13, 3) := by decide +kernel
theorem dX3_open_17 : decode cX3_open 17 = .ok (.new 70, 3) := by decide +kernel
theorem dX3_open_20 : decode cX3_open 20 = .ok (.dup, 1) := by decide +kernel
theorem dX3_open_21 : decode cX3_open 21 = .ok (.ldc 83, 2) := by decide +kernel
theorem dX3_open_23 : decode cX3_open 23 = .ok (.invokespecial 74, 3) := by decide +kernel
theorem dX3_open_26 : decode cX3_open 26 = .ok (.athrow, 1) := by decide +kernel
theorem dX3_open_27 : decode cX3_open 27 = .ok (.aload_n 0, 1) := by decide +kernel
theorem dX3_open_28 : decode cX3_open 28 = .ok (.getfield 26, 3) := by decide +kernel
theorem dX3_open_31 : decode cX3_open 31 = .ok (.getfield 85, 3) := by decide +kernel
theorem dX3_open_34 : decode cX3_open 34 = .ok (.bipush 40, 2) := by decide +kernel
theorem dX3_open_36 : decode cX3_open 36 = .ok (.if_icmp .lt 13, 3) := by decide +kernel
theorem dX3_open_39 : decode cX3_open 39 = .ok (.new 70, 3) := by decide +kernel
theorem dX3_open_42 : decode cX3_open 42 = .ok (.dup, 1) := by decide +kernel
theorem dX3_open_43 : decode cX3_open 43 = .ok (.ldc 86, 2) := by decide +kernel
theorem dX3_open_45 : decode cX3_open 45 = .ok (.invokespecial 74, 3) := by decide +kernel
theorem dX3_open_48 : decode cX3_open 48 = .ok (.athrow, 1) := by decide +kernel
theorem dX3_open_49 : decode cX3_open 49 = .ok (.aload_n 0, 1) := by decide +kernel
theorem dX3_open_50 : decode cX3_open 50 = .ok (.getfield 26, 3) := by decide +kernel
theorem dX3_open_53 : decode cX3_open 53 = .ok (.iload_n 1, 1) := by decide +kernel
theorem dX3_open_54 : decode cX3_open 54 = .ok (.aload_n 0, 1) := by decide +kernel
theorem dX3_open_55 : decode cX3_open 55 = .ok (.getfield 37, 3) := by decide +kernel
theorem dX3_open_58 : decode cX3_open 58 = .ok (.invokevirtual 88, 3) := by decide +kernel
theorem dX3_open_61 : decode cX3_open 61 = .ok (.ireturn, 1) := by decide +kernel
theorem dX3_count_0 : decode cX3_count 0 = .ok (.iload_n 1, 1) := by decide +kernel
theorem dX3_count_1 : decode cX3_count 1 = .ok (.aload_n 0, 1) := by decide +kernel
theorem dX3_count_2 : decode cX3_count 2 = .ok (.getfield 26, 3) := by decide +kernel
theorem dX3_count_5 : decode cX3_count 5 = .ok (.getfield 85, 3) := by decide +kernel
theorem dX3_count_8 : decode cX3_count 8 = .ok (.invokestatic 47, 3) := by decide +kernel
theorem dX3_count_11 : decode cX3_count 11 = .ok (.iload_n 2, 1) := by decide +kernel
theorem dX3_count_12 : decode cX3_count 12 = .ok (.bipush 6, 2) := by decide +kernel
theorem dX3_count_14 : decode cX3_count 14 = .ok (.invokestatic 47, 3) := by decide +kernel
theorem dX3_count_17 : decode cX3_count 17 = .ok (.iload_n 3, 1) := by decide +kernel
theorem dX3_count_18 : decode cX3_count 18 = .ok (.iconst 5, 1) := by decide +kernel
theorem dX3_count_19 : decode cX3_count 19 = .ok (.invokestatic 47, 3) := by decide +kernel
theorem dX3_count_22 : decode cX3_count 22 = .ok (.iload 4, 2) := by decide +kernel
theorem dX3_count_24 : decode cX3_count 24 = .ok (.iconst 0, 1) := by decide +kernel
theorem dX3_count_25 : decode cX3_count 25 = .ok (.ldc 91, 2) := by decide +kernel
theorem dX3_count_27 : decode cX3_count 27 = .ok (.invokestatic 51, 3) := by decide +kernel
theorem dX3_count_30 : decode cX3_count 30 = .ok (.iload_n 1, 1) := by decide +kernel
theorem dX3_count_31 : decode cX3_count 31 = .ok (.iload_n 3, 1) := by decide +kernel
theorem dX3_count_32 : decode cX3_count 32 = .ok (.invokestatic 92, 3) := by decide +kernel
theorem dX3_count_35 : decode cX3_count 35 = .ok (.istore 5, 2) := by decide +kernel
theorem dX3_count_37 : decode cX3_count 37 = .ok (.aload_n 0, 1) := by decide +kernel
theorem dX3_count_38 : decode cX3_count 38 = .ok (.getfield 26, 3) := by decide +kernel
theorem dX3_count_41 : decode cX3_count 41 = .ok (.getfield 95, 3) := by decide +kernel
theorem dX3_count_44 : decode cX3_count 44 = .ok (.iload_n 1, 1) := by decide +kernel
theorem dX3_count_45 : decode cX3_count 45 = .ok (.baload, 1) := by decide +kernel
theorem dX3_count_46 : decode cX3_count 46 = .ok (.ifCond .eq 13, 3) := by decide +kernel
theorem dX3_count_49 : decode cX3_count 49 = .ok (.new 70, 3) := by decide +kernel
theorem dX3_count_52 : decode cX3_count 52 = .ok (.dup, 1) := by decide +kernel
theorem dX3_count_53 : decode cX3_count 53 = .ok (.ldc 99, 2) := by decide +kernel
theorem dX3_count_55 : decode cX3_count 55 = .ok (.invokespecial 74, 3) := by decide +kernel
theorem dX3_count_58 : decode cX3_count 58 = .ok (.athrow, 1) := by decide +kernel
theorem dX3_count_59 : decode cX3_count 59 = .ok (.aload_n 0, 1) := by decide +kernel
theorem dX3_count_60 : decode cX3_count 60 = .ok (.getfield 33, 3) := by decide +kernel
theorem dX3_count_63 : decode cX3_count 63 = .ok (.iload 5, 2) := by decide +kernel
theorem dX3_count_65 : decode cX3_count 65 = .ok (.invokevirtual 101, 3) := by decide +kernel
theorem dX3_count_68 : decode cX3_count 68 = .ok (.ifCond .eq 13, 3) := by decide +kernel
theorem dX3_count_71 : decode cX3_count 71 = .ok (.new 70, 3) := by decide +kernel
theorem dX3_count_74 : decode cX3_count 74 = .ok (.dup, 1) := by decide +kernel
theorem dX3_count_75 : decode cX3_count 75 = .ok (.ldc 104, 2) := by decide +kernel
theorem dX3_count_77 : decode cX3_count 77 = .ok (.invokespecial 74, 3) := by decide +kernel
theorem dX3_count_80 : decode cX3_count 80 = .ok (.athrow, 1) := by decide +kernel
theorem dX3_count_81 : decode cX3_count 81 = .ok (.aload_n 0, 1) := by decide +kernel
theorem dX3_count_82 : decode cX3_count 82 = .ok (.getfield 33, 3) := by decide +kernel
theorem dX3_count_85 : decode cX3_count 85 = .ok (.iload 5, 2) := by decide +kernel
theorem dX3_count_87 : decode cX3_count 87 = .ok (.iload_n 2, 1) := by decide +kernel
theorem dX3_count_88 : decode cX3_count 88 = .ok (.invokevirtual 106, 3) := by decide +kernel
theorem dX3_count_91 : decode cX3_count 91 = .ok (.ifCond .eq 13, 3) := by decide +kernel
theorem dX3_count_94 : decode cX3_count 94 = .ok (.new 70, 3) := by decide +kernel
theorem dX3_count_97 : decode cX3_count 97 = .ok (.dup, 1) := by decide +kernel
theorem dX3_count_98 : decode cX3_count 98 = .ok (.ldc 110, 2) := by decide +kernel
theorem dX3_count_100 : decode cX3_count 100 = .ok (.invokespecial 74, 3) := by decide +kernel
theorem dX3_count_103 : decode cX3_count 103 = .ok (.athrow, 1) := by decide +kernel
theorem dX3_count_104 : decode cX3_count 104 = .ok (.aload_n 0, 1) := by decide +kernel
theorem dX3_count_105 : decode cX3_count 105 = .ok (.getfield 33, 3) := by decide +kernel
theorem dX3_count_108 : decode cX3_count 108 = .ok (.iload 5, 2) := by decide +kernel
theorem dX3_count_110 : decode cX3_count 110 = .ok (.iload_n 2, 1) := by decide +kernel
theorem dX3_count_111 : decode cX3_count 111 = .ok (.iload 4, 2) := by decide +kernel
theorem dX3_count_113 : decode cX3_count 113 = .ok (.invokevirtual 112, 3) := by decide +kernel
theorem dX3_count_116 : decode cX3_count 116 = .ok (.aload_n 0, 1) := by decide +kernel
theorem dX3_count_117 : decode cX3_count 117 = .ok (.getfield 33, 3) := by decide +kernel
theorem dX3_count_120 : decode cX3_count 120 = .ok (.iload 5, 2) := by decide +kernel
theorem dX3_count_122 : decode cX3_count 122 = .ok (.invokevirtual 101, 3) := by decide +kernel
theorem dX3_count_125 : decode cX3_count 125 = .ok (.ireturn, 1) := by decide +kernel
theorem dX3_close_0 : decode cX3_close 0 = .ok (.iload_n 1, 1) := by decide +kernel
theorem dX3_close_1 : decode cX3_close 1 = .ok (.aload_n 0, 1) := by decide +kernel
theorem dX3_close_2 : decode cX3_close 2 = .ok (.getfield 26, 3) := by decide +kernel
theorem dX3_close_5 : decode cX3_close 5 = .ok (.getfield 85, 3) := by decide +kernel
theorem dX3_close_8 : decode cX3_close 8 = .ok (.invokestatic 47, 3) := by decide +kernel
theorem dX3_close_11 : decode cX3_close 11 = .ok (.aload_n 0, 1) := by decide +kernel
theorem dX3_close_12 : decode cX3_close 12 = .ok (.getfield 26, 3) := by decide +kernel
theorem dX3_close_15 : decode cX3_close 15 = .ok (.getfield 95, 3) := by decide +kernel
theorem dX3_close_18 : decode cX3_close 18 = .ok (.iload_n 1, 1) := by decide +kernel
theorem dX3_close_19 : decode cX3_close 19 = .ok (.baload, 1) := by decide +kernel
theorem dX3_close_20 : decode cX3_close 20 = .ok (.ifCond .eq 13, 3) := by decide +kernel
theorem dX3_close_23 : decode cX3_close 23 = .ok (.new 70, 3) := by decide +kernel
theorem dX3_close_26 : decode cX3_close 26 = .ok (.dup, 1) := by decide +kernel
theorem dX3_close_27 : decode cX3_close 27 = .ok (.ldc 99, 2) := by decide +kernel
theorem dX3_close_29 : decode cX3_close 29 = .ok (.invokespecial 74, 3) := by decide +kernel
theorem dX3_close_32 : decode cX3_close 32 = .ok (.athrow, 1) := by decide +kernel
theorem dX3_close_33 : decode cX3_close 33 = .ok (.iconst 0, 1) := by decide +kernel
theorem dX3_close_34 : decode cX3_close 34 = .ok (.istore_n 2, 1) := by decide +kernel
theorem dX3_close_35 : decode cX3_close 35 = .ok (.iconst 0, 1) := by decide +kernel
theorem dX3_close_36 : decode cX3_close 36 = .ok (.istore_n 3, 1) := by decide +kernel
theorem dX3_close_37 : decode cX3_close 37 = .ok (.iload_n 3, 1) := by decide +kernel
theorem dX3_close_38 : decode cX3_close 38 = .ok (.iconst 5, 1) := by decide +kernel
theorem dX3_close_39 : decode cX3_close 39 = .ok (.if_icmp .ge 56, 3) := by decide +kernel
theorem dX3_close_42 : decode cX3_close 42 = .ok (.iload_n 1, 1) := by decide +kernel
theorem dX3_close_43 : decode cX3_close 43 = .ok (.iload_n 3, 1) := by decide +kernel
theorem dX3_close_44 : decode cX3_close 44 = .ok (.invokestatic 92, 3) := by decide +kernel
theorem dX3_close_47 : decode cX3_close 47 = .ok (.istore 4, 2) := by decide +kernel
theorem dX3_close_49 : decode cX3_close 49 = .ok (.aload_n 0, 1) := by decide +kernel
theorem dX3_close_50 : decode cX3_close 50 = .ok (.getfield 33, 3) := by decide +kernel
theorem dX3_close_53 : decode cX3_close 53 = .ok (.iload 4, 2) := by decide +kernel
theorem dX3_close_55 : decode cX3_close 55 = .ok (.invokevirtual 101, 3) := by decide +kernel
theorem dX3_close_58 : decode cX3_close 58 = .ok (.ifCond .eq 9, 3) := by decide +kernel
theorem dX3_close_61 : decode cX3_close 61 = .ok (.iinc 2 1, 3) := by decide +kernel
theorem dX3_close_64 : decode cX3_close 64 = .ok (.goto 25, 3) := by decide +kernel
theorem dX3_close_67 : decode cX3_close 67 = .ok (.aload_n 0, 1) := by decide +kernel
theorem dX3_close_68 : decode cX3_close 68 = .ok (.getfield 33, 3) := by decide +kernel
theorem dX3_close_71 : decode cX3_close 71 = .ok (.iload 4, 2) := by decide +kernel
theorem dX3_close_73 : decode cX3_close 73 = .ok (.invokevirtual 114, 3) := by decide +kernel
theorem dX3_close_76 : decode cX3_close 76 = .ok (.ifCond .le 13, 3) := by decide +kernel
theorem dX3_close_79 : decode cX3_close 79 = .ok (.new 70, 3) := by decide +kernel
theorem dX3_close_82 : decode cX3_close 82 = .ok (.dup, 1) := by decide +kernel
theorem dX3_close_83 : decode cX3_close 83 = .ok (.ldc 118, 2) := by decide +kernel
theorem dX3_close_85 : decode cX3_close 85 = .ok (.invokespecial 74, 3) := by decide +kernel
theorem dX3_close_88 : decode cX3_close 88 = .ok (.athrow, 1) := by decide +kernel
theorem dX3_close_89 : decode cX3_close 89 = .ok (.iinc 3 1, 3) := by decide +kernel
theorem dX3_close_92 : decode cX3_close 92 = .ok (.goto (-55), 3) := by decide +kernel
theorem dX3_close_95 : decode cX3_close 95 = .ok (.aload_n 0, 1) := by decide +kernel
theorem dX3_close_96 : decode cX3_close 96 = .ok (.getfield 26, 3) := by decide +kernel
theorem dX3_close_99 : decode cX3_close 99 = .ok (.getfield 95, 3) := by decide +kernel
theorem dX3_close_102 : decode cX3_close 102 = .ok (.iload_n 1, 1) := by decide +kernel
theorem dX3_close_103 : decode cX3_close 103 = .ok (.iconst 1, 1) := by decide +kernel
theorem dX3_close_104 : decode cX3_close 104 = .ok (.bastore, 1) := by decide +kernel
theorem dX3_close_105 : decode cX3_close 105 = .ok (.iload_n 2, 1) := by decide +kernel
theorem dX3_close_106 : decode cX3_close 106 = .ok (.ireturn, 1) := by decide +kernel
theorem dX3_sign_0 : decode cX3_sign 0 = .ok (.iload_n 1, 1) := by decide +kernel
theorem dX3_sign_1 : decode cX3_sign 1 = .ok (.aload_n 0, 1) := by decide +kernel
theorem dX3_sign_2 : decode cX3_sign 2 = .ok (.getfield 26, 3) := by decide +kernel
theorem dX3_sign_5 : decode cX3_sign 5 = .ok (.getfield 85, 3) := by decide +kernel
theorem dX3_sign_8 : decode cX3_sign 8 = .ok (.invokestatic 47, 3) := by decide +kernel
theorem dX3_sign_11 : decode cX3_sign 11 = .ok (.iload_n 2, 1) := by decide +kernel
theorem dX3_sign_12 : decode cX3_sign 12 = .ok (.iconst 5, 1) := by decide +kernel
theorem dX3_sign_13 : decode cX3_sign 13 = .ok (.invokestatic 47, 3) := by decide +kernel
theorem dX3_sign_16 : decode cX3_sign 16 = .ok (.iload_n 3, 1) := by decide +kernel
theorem dX3_sign_17 : decode cX3_sign 17 = .ok (.bipush 6, 2) := by decide +kernel
theorem dX3_sign_19 : decode cX3_sign 19 = .ok (.invokestatic 47, 3) := by decide +kernel
theorem dX3_sign_22 : decode cX3_sign 22 = .ok (.aload_n 0, 1) := by decide +kernel
theorem dX3_sign_23 : decode cX3_sign 23 = .ok (.iload_n 1, 1) := by decide +kernel
theorem dX3_sign_24 : decode cX3_sign 24 = .ok (.iload_n 2, 1) := by decide +kernel
theorem dX3_sign_25 : decode cX3_sign 25 = .ok (.invokevirtual 120, 3) := by decide +kernel
theorem dX3_sign_28 : decode cX3_sign 28 = .ok (.aload_n 0, 1) := by decide +kernel
theorem dX3_sign_29 : decode cX3_sign 29 = .ok (.iload_n 1, 1) := by decide +kernel
theorem dX3_sign_30 : decode cX3_sign 30 = .ok (.iload_n 2, 1) := by decide +kernel
theorem dX3_sign_31 : decode cX3_sign 31 = .ok (.invokevirtual 123, 3) := by decide +kernel
theorem dX3_sign_34 : decode cX3_sign 34 = .ok (.ifCond .ne 13, 3) := by decide +kernel
theorem dX3_sign_37 : decode cX3_sign 37 = .ok (.new 70, 3) := by decide +kernel
theorem dX3_sign_40 : decode cX3_sign 40 = .ok (.dup, 1) := by decide +kernel
theorem dX3_sign_41 : decode cX3_sign 41 = .ok (.ldc 126, 2) := by decide +kernel
theorem dX3_sign_43 : decode cX3_sign 43 = .ok (.invokespecial 74, 3) := by decide +kernel
theorem dX3_sign_46 : decode cX3_sign 46 = .ok (.athrow, 1) := by decide +kernel
theorem dX3_sign_47 : decode cX3_sign 47 = .ok (.aload_n 0, 1) := by decide +kernel
theorem dX3_sign_48 : decode cX3_sign 48 = .ok (.iload_n 1, 1) := by decide +kernel
theorem dX3_sign_49 : decode cX3_sign 49 = .ok (.iload_n 2, 1) := by decide +kernel
theorem dX3_sign_50 : decode cX3_sign 50 = .ok (.invokevirtual 128, 3) := by decide +kernel
theorem dX3_sign_53 : decode cX3_sign 53 = .ok (.istore 4, 2) := by decide +kernel
theorem dX3_sign_55 : decode cX3_sign 55 = .ok (.aload_n 0, 1) := by decide +kernel
theorem dX3_sign_56 : decode cX3_sign 56 = .ok (.getfield 13, 3) := by decide +kernel
theorem dX3_sign_59 : decode cX3_sign 59 = .ok (.iload_n 3, 1) := by decide +kernel
theorem dX3_sign_60 : decode cX3_sign 60 = .ok (.iaload, 1) := by decide +kernel
theorem dX3_sign_61 : decode cX3_sign 61 = .ok (.aload_n 0, 1) := by decide +kernel
theorem dX3_sign_62 : decode cX3_sign 62 = .ok (.getfield 9, 3) := by decide +kernel
theorem dX3_sign_65 : decode cX3_sign 65 = .ok (.iload_n 2, 1) := by decide +kernel
theorem dX3_sign_66 : decode cX3_sign 66 = .ok (.iaload, 1) := by decide +kernel
theorem dX3_sign_67 : decode cX3_sign 67 = .ok (.iload 4, 2) := by decide +kernel
theorem dX3_sign_69 : decode cX3_sign 69 = .ok (.invokestatic 131, 3) := by decide +kernel
theorem dX3_sign_72 : decode cX3_sign 72 = .ok (.imul, 1) := by decide +kernel
theorem dX3_sign_73 : decode cX3_sign 73 = .ok (.if_icmp .ge 13, 3) := by decide +kernel
theorem dX3_sign_76 : decode cX3_sign 76 = .ok (.new 70, 3) := by decide +kernel
theorem dX3_sign_79 : decode cX3_sign 79 = .ok (.dup, 1) := by decide +kernel
theorem dX3_sign_80 : decode cX3_sign 80 = .ok (.ldc 136, 2) := by decide +kernel
theorem dX3_sign_82 : decode cX3_sign 82 = .ok (.invokespecial 74, 3) := by decide +kernel
theorem dX3_sign_85 : decode cX3_sign 85 = .ok (.athrow, 1) := by decide +kernel
theorem dX3_sign_86 : decode cX3_sign 86 = .ok (.aload_n 0, 1) := by decide +kernel
theorem dX3_sign_87 : decode cX3_sign 87 = .ok (.getfield 33, 3) := by decide +kernel
theorem dX3_sign_90 : decode cX3_sign 90 = .ok (.iload_n 1, 1) := by decide +kernel
theorem dX3_sign_91 : decode cX3_sign 91 = .ok (.iload_n 2, 1) := by decide +kernel
theorem dX3_sign_92 : decode cX3_sign 92 = .ok (.invokestatic 92, 3) := by decide +kernel
theorem dX3_sign_95 : decode cX3_sign 95 = .ok (.iload 4, 2) := by decide +kernel
theorem dX3_sign_97 : decode cX3_sign 97 = .ok (.invokevirtual 138, 3) := by decide +kernel
theorem dX3_sign_100 : decode cX3_sign 100 = .ok (.iload 4, 2) := by decide +kernel
theorem dX3_sign_102 : decode cX3_sign 102 = .ok (.ireturn, 1) := by decide +kernel
theorem dX3_settle_0 : decode cX3_settle 0 = .ok (.iload_n 1, 1) := by decide +kernel
theorem dX3_settle_1 : decode cX3_settle 1 = .ok (.aload_n 0, 1) := by decide +kernel
theorem dX3_settle_2 : decode cX3_settle 2 = .ok (.getfield 26, 3) := by decide +kernel
theorem dX3_settle_5 : decode cX3_settle 5 = .ok (.getfield 85, 3) := by decide +kernel
theorem dX3_settle_8 : decode cX3_settle 8 = .ok (.invokestatic 47, 3) := by decide +kernel
theorem dX3_settle_11 : decode cX3_settle 11 = .ok (.iload_n 2, 1) := by decide +kernel
theorem dX3_settle_12 : decode cX3_settle 12 = .ok (.aload_n 0, 1) := by decide +kernel
theorem dX3_settle_13 : decode cX3_settle 13 = .ok (.getfield 26, 3) := by decide +kernel
theorem dX3_settle_16 : decode cX3_settle 16 = .ok (.getfield 85, 3) := by decide +kernel
theorem dX3_settle_19 : decode cX3_settle 19 = .ok (.invokestatic 47, 3) := by decide +kernel
theorem dX3_settle_22 : decode cX3_settle 22 = .ok (.iload_n 3, 1) := by decide +kernel
theorem dX3_settle_23 : decode cX3_settle 23 = .ok (.iconst 5, 1) := by decide +kernel
theorem dX3_settle_24 : decode cX3_settle 24 = .ok (.invokestatic 47, 3) := by decide +kernel
theorem dX3_settle_27 : decode cX3_settle 27 = .ok (.aload_n 0, 1) := by decide +kernel
theorem dX3_settle_28 : decode cX3_settle 28 = .ok (.iload_n 1, 1) := by decide +kernel
theorem dX3_settle_29 : decode cX3_settle 29 = .ok (.iload_n 3, 1) := by decide +kernel
theorem dX3_settle_30 : decode cX3_settle 30 = .ok (.invokevirtual 120, 3) := by decide +kernel
theorem dX3_settle_33 : decode cX3_settle 33 = .ok (.aload_n 0, 1) := by decide +kernel
theorem dX3_settle_34 : decode cX3_settle 34 = .ok (.iload_n 2, 1) := by decide +kernel
theorem dX3_settle_35 : decode cX3_settle 35 = .ok (.iload_n 3, 1) := by decide +kernel
theorem dX3_settle_36 : decode cX3_settle 36 = .ok (.invokevirtual 120, 3) := by decide +kernel
theorem dX3_settle_39 : decode cX3_settle 39 = .ok (.aload_n 0, 1) := by decide +kernel
theorem dX3_settle_40 : decode cX3_settle 40 = .ok (.iload_n 1, 1) := by decide +kernel
theorem dX3_settle_41 : decode cX3_settle 41 = .ok (.iload_n 2, 1) := by decide +kernel
theorem dX3_settle_42 : decode cX3_settle 42 = .ok (.iload_n 3, 1) := by decide +kernel
theorem dX3_settle_43 : decode cX3_settle 43 = .ok (.invokevirtual 141, 3) := by decide +kernel
theorem dX3_settle_46 : decode cX3_settle 46 = .ok (.ifCond .ne 13, 3) := by decide +kernel
theorem dX3_settle_49 : decode cX3_settle 49 = .ok (.new 70, 3) := by decide +kernel
theorem dX3_settle_52 : decode cX3_settle 52 = .ok (.dup, 1) := by decide +kernel
theorem dX3_settle_53 : decode cX3_settle 53 = .ok (.ldc 145, 2) := by decide +kernel
theorem dX3_settle_55 : decode cX3_settle 55 = .ok (.invokespecial 74, 3) := by decide +kernel
theorem dX3_settle_58 : decode cX3_settle 58 = .ok (.athrow, 1) := by decide +kernel
theorem dX3_settle_59 : decode cX3_settle 59 = .ok (.aload_n 0, 1) := by decide +kernel
theorem dX3_settle_60 : decode cX3_settle 60 = .ok (.iload_n 1, 1) := by decide +kernel
theorem dX3_settle_61 : decode cX3_settle 61 = .ok (.iload_n 3, 1) := by decide +kernel
theorem dX3_settle_62 : decode cX3_settle 62 = .ok (.invokevirtual 128, 3) := by decide +kernel
theorem dX3_settle_65 : decode cX3_settle 65 = .ok (.istore 4, 2) := by decide +kernel
theorem dX3_settle_67 : decode cX3_settle 67 = .ok (.aload_n 0, 1) := by decide +kernel
theorem dX3_settle_68 : decode cX3_settle 68 = .ok (.getfield 33, 3) := by decide +kernel
theorem dX3_settle_71 : decode cX3_settle 71 = .ok (.iload_n 1, 1) := by decide +kernel
theorem dX3_settle_72 : decode cX3_settle 72 = .ok (.iload_n 3, 1) := by decide +kernel
theorem dX3_settle_73 : decode cX3_settle 73 = .ok (.invokestatic 92, 3) := by decide +kernel
theorem dX3_settle_76 : decode cX3_settle 76 = .ok (.iload 4, 2) := by decide +kernel
theorem dX3_settle_78 : decode cX3_settle 78 = .ok (.invokevirtual 138, 3) := by decide +kernel
theorem dX3_settle_81 : decode cX3_settle 81 = .ok (.aload_n 0, 1) := by decide +kernel
theorem dX3_settle_82 : decode cX3_settle 82 = .ok (.getfield 33, 3) := by decide +kernel
theorem dX3_settle_85 : decode cX3_settle 85 = .ok (.iload_n 2, 1) := by decide +kernel
theorem dX3_settle_86 : decode cX3_settle 86 = .ok (.iload_n 3, 1) := by decide +kernel
theorem dX3_settle_87 : decode cX3_settle 87 = .ok (.invokestatic 92, 3) := by decide +kernel
theorem dX3_settle_90 : decode cX3_settle 90 = .ok (.iload 4, 2) := by decide +kernel
theorem dX3_settle_92 : decode cX3_settle 92 = .ok (.ineg, 1) := by decide +kernel
theorem dX3_settle_93 : decode cX3_settle 93 = .ok (.invokevirtual 138, 3) := by decide +kernel
theorem dX3_settle_96 : decode cX3_settle 96 = .ok (.iload 4, 2) := by decide +kernel
theorem dX3_settle_98 : decode cX3_settle 98 = .ok (.invokestatic 131, 3) := by decide +kernel
theorem dX3_settle_101 : decode cX3_settle 101 = .ok (.ireturn, 1) := by decide +kernel
theorem dX3_now_0 : decode cX3_now 0 = .ok (.aload_n 0, 1) := by decide +kernel
theorem dX3_now_1 : decode cX3_now 1 = .ok (.getfield 37, 3) := by decide +kernel
theorem dX3_now_4 : decode cX3_now 4 = .ok (.ireturn, 1) := by decide +kernel
theorem dX3_moves_0 : decode cX3_moves 0 = .ok (.aload_n 0, 1) := by decide +kernel
theorem dX3_moves_1 : decode cX3_moves 1 = .ok (.getfield 19, 3) := by decide +kernel
theorem dX3_moves_4 : decode cX3_moves 4 = .ok (.getfield 67, 3) := by decide +kernel
theorem dX3_moves_7 : decode cX3_moves 7 = .ok (.ireturn, 1) := by decide +kernel
theorem dX3_book_0 : decode cX3_book 0 = .ok (.iload_n 1, 1) := by decide +kernel
theorem dX3_book_1 : decode cX3_book 1 = .ok (.bipush 12, 2) := by decide +kernel
theorem dX3_book_3 : decode cX3_book 3 = .ok (.invokestatic 47, 3) := by decide +kernel
theorem dX3_book_6 : decode cX3_book 6 = .ok (.iload_n 2, 1) := by decide +kernel
theorem dX3_book_7 : decode cX3_book 7 = .ok (.iconst 5, 1) := by decide +kernel
theorem dX3_book_8 : decode cX3_book 8 = .ok (.invokestatic 47, 3) := by decide +kernel
theorem dX3_book_11 : decode cX3_book 11 = .ok (.aload_n 0, 1) := by decide +kernel
theorem dX3_book_12 : decode cX3_book 12 = .ok (.iload_n 1, 1) := by decide +kernel
theorem dX3_book_13 : decode cX3_book 13 = .ok (.iload_n 2, 1) := by decide +kernel
theorem dX3_book_14 : decode cX3_book 14 = .ok (.aload_n 0, 1) := by decide +kernel
theorem dX3_book_15 : decode cX3_book 15 = .ok (.getfield 37, 3) := by decide +kernel
theorem dX3_book_18 : decode cX3_book 18 = .ok (.invokevirtual 147, 3) := by decide +kernel
theorem dX3_book_21 : decode cX3_book 21 = .ok (.ireturn, 1) := by decide +kernel
theorem dX3_bookAt_0 : decode cX3_bookAt 0 = .ok (.iload_n 1, 1) := by decide +kernel
theorem dX3_bookAt_1 : decode cX3_bookAt 1 = .ok (.bipush 12, 2) := by decide +kernel
theorem dX3_bookAt_3 : decode cX3_bookAt 3 = .ok (.invokestatic 47, 3) := by decide +kernel
theorem dX3_bookAt_6 : decode cX3_bookAt 6 = .ok (.iload_n 2, 1) := by decide +kernel
theorem dX3_bookAt_7 : decode cX3_bookAt 7 = .ok (.iconst 5, 1) := by decide +kernel
theorem dX3_bookAt_8 : decode cX3_bookAt 8 = .ok (.invokestatic 47, 3) := by decide +kernel
theorem dX3_bookAt_11 : decode cX3_bookAt 11 = .ok (.iload_n 3, 1) := by decide +kernel
theorem dX3_bookAt_12 : decode cX3_bookAt 12 = .ok (.iconst 0, 1) := by decide +kernel
theorem dX3_bookAt_13 : decode cX3_bookAt 13 = .ok (.aload_n 0, 1) := by decide +kernel
theorem dX3_bookAt_14 : decode cX3_bookAt 14 = .ok (.getfield 37, 3) := by decide +kernel
theorem dX3_bookAt_17 : decode cX3_bookAt 17 = .ok (.invokestatic 51, 3) := by decide +kernel
theorem dX3_bookAt_20 : decode cX3_bookAt 20 = .ok (.aload_n 0, 1) := by decide +kernel
theorem dX3_bookAt_21 : decode cX3_bookAt 21 = .ok (.iload_n 1, 1) := by decide +kernel
theorem dX3_bookAt_22 : decode cX3_bookAt 22 = .ok (.iload_n 2, 1) := by decide +kernel
theorem dX3_bookAt_23 : decode cX3_bookAt 23 = .ok (.iload_n 3, 1) := by decide +kernel
theorem dX3_bookAt_24 : decode cX3_bookAt 24 = .ok (.invokevirtual 147, 3) := by decide +kernel
theorem dX3_bookAt_27 : decode cX3_bookAt 27 = .ok (.ireturn, 1) := by decide +kernel
theorem dX3_worth_0 : decode cX3_worth 0 = .ok (.iload_n 1, 1) := by decide +kernel
theorem dX3_worth_1 : decode cX3_worth 1 = .ok (.bipush 12, 2) := by decide +kernel
theorem dX3_worth_3 : decode cX3_worth 3 = .ok (.invokestatic 47, 3) := by decide +kernel
theorem dX3_worth_6 : decode cX3_worth 6 = .ok (.aload_n 0, 1) := by decide +kernel
theorem dX3_worth_7 : decode cX3_worth 7 = .ok (.iload_n 1, 1) := by decide +kernel
theorem dX3_worth_8 : decode cX3_worth 8 = .ok (.invokevirtual 151, 3) := by decide +kernel
theorem dX3_worth_11 : decode cX3_worth 11 = .ok (.ireturn, 1) := by decide +kernel
theorem dX3_suggested_0 : decode cX3_suggested 0 = .ok (.iconst (-1), 1) := by decide +kernel
theorem dX3_suggested_1 : decode cX3_suggested 1 = .ok (.istore_n 1, 1) := by decide +kernel
theorem dX3_suggested_2 : decode cX3_suggested 2 = .ok (.lconst 0, 1) := by decide +kernel
theorem dX3_suggested_3 : decode cX3_suggested 3 = .ok (.lstore_n 2, 1) := by decide +kernel
theorem dX3_suggested_4 : decode cX3_suggested 4 = .ok (.iconst 0, 1) := by decide +kernel
theorem dX3_suggested_5 : decode cX3_suggested 5 = .ok (.istore 4, 2) := by decide +kernel
theorem dX3_suggested_7 : decode cX3_suggested 7 = .ok (.iload 4, 2) := by decide +kernel
theorem dX3_suggested_9 : decode cX3_suggested 9 = .ok (.bipush 12, 2) := by decide +kernel
theorem dX3_suggested_11 : decode cX3_suggested 11 = .ok (.if_icmp .ge 47, 3) := by decide +kernel
theorem dX3_suggested_14 : decode cX3_suggested 14 = .ok (.aload_n 0, 1) := by decide +kernel
theorem dX3_suggested_15 : decode cX3_suggested 15 = .ok (.getfield 26, 3) := by decide +kernel
theorem dX3_suggested_18 : decode cX3_suggested 18 = .ok (.iload 4, 2) := by decide +kernel
theorem dX3_suggested_20 : decode cX3_suggested 20 = .ok (.invokevirtual 79, 3) := by decide +kernel
theorem dX3_suggested_23 : decode cX3_suggested 23 = .ok (.ifCond .ne 29, 3) := by decide +kernel
theorem dX3_suggested_26 : decode cX3_suggested 26 = .ok (.aload_n 0, 1) := by decide +kernel
theorem dX3_suggested_27 : decode cX3_suggested 27 = .ok (.iload 4, 2) := by decide +kernel
theorem dX3_suggested_29 : decode cX3_suggested 29 = .ok (.invokevirtual 154, 3) := by decide +kernel
theorem dX3_suggested_32 : decode cX3_suggested 32 = .ok (.lstore 5, 2) := by decide +kernel
theorem dX3_suggested_34 : decode cX3_suggested 34 = .ok (.iload_n 1, 1) := by decide +kernel
theorem dX3_suggested_35 : decode cX3_suggested 35 = .ok (.iconst (-1), 1) := by decide +kernel
theorem dX3_suggested_36 : decode cX3_suggested 36 = .ok (.if_icmp .eq 10, 3) := by decide +kernel
theorem dX3_suggested_39 : decode cX3_suggested 39 = .ok (.lload 5, 2) := by decide +kernel
theorem dX3_suggested_41 : decode cX3_suggested 41 = .ok (.lload_n 2, 1) := by decide +kernel
theorem dX3_suggested_42 : decode cX3_suggested 42 = .ok (.lcmp, 1) := by decide +kernel
theorem dX3_suggested_43 : decode cX3_suggested 43 = .ok (.ifCond .le 9, 3) := by decide +kernel
theorem dX3_suggested_46 : decode cX3_suggested 46 = .ok (.iload 4, 2) := by decide +kernel
theorem dX3_suggested_48 : decode cX3_suggested 48 = .ok (.istore_n 1, 1) := by decide +kernel
theorem dX3_suggested_49 : decode cX3_suggested 49 = .ok (.lload 5, 2) := by decide +kernel
theorem dX3_suggested_51 : decode cX3_suggested 51 = .ok (.lstore_n 2, 1) := by decide +kernel
theorem dX3_suggested_52 : decode cX3_suggested 52 = .ok (.iinc 4 1, 3) := by decide +kernel
theorem dX3_suggested_55 : decode cX3_suggested 55 = .ok (.goto (-48), 3) := by decide +kernel
theorem dX3_suggested_58 : decode cX3_suggested 58 = .ok (.iload_n 1, 1) := by decide +kernel
theorem dX3_suggested_59 : decode cX3_suggested 59 = .ok (.ireturn, 1) := by decide +kernel
theorem dX3_sheets_0 : decode cX3_sheets 0 = .ok (.aload_n 0, 1) := by decide +kernel
theorem dX3_sheets_1 : decode cX3_sheets 1 = .ok (.getfield 26, 3) := by decide +kernel
theorem dX3_sheets_4 : decode cX3_sheets 4 = .ok (.getfield 85, 3) := by decide +kernel
theorem dX3_sheets_7 : decode cX3_sheets 7 = .ok (.ireturn, 1) := by decide +kernel
theorem dX3_stateOf_0 : decode cX3_stateOf 0 = .ok (.iload_n 1, 1) := by decide +kernel
theorem dX3_stateOf_1 : decode cX3_stateOf 1 = .ok (.aload_n 0, 1) := by decide +kernel
theorem dX3_stateOf_2 : decode cX3_stateOf 2 = .ok (.getfield 26, 3) := by decide +kernel
theorem dX3_stateOf_5 : decode cX3_stateOf 5 = .ok (.getfield 85, 3) := by decide +kernel
theorem dX3_stateOf_8 : decode cX3_stateOf 8 = .ok (.invokestatic 47, 3) := by decide +kernel
theorem dX3_stateOf_11 : decode cX3_stateOf 11 = .ok (.aload_n 0, 1) := by decide +kernel
theorem dX3_stateOf_12 : decode cX3_stateOf 12 = .ok (.getfield 26, 3) := by decide +kernel
theorem dX3_stateOf_15 : decode cX3_stateOf 15 = .ok (.getfield 95, 3) := by decide +kernel
theorem dX3_stateOf_18 : decode cX3_stateOf 18 = .ok (.iload_n 1, 1) := by decide +kernel
theorem dX3_stateOf_19 : decode cX3_stateOf 19 = .ok (.baload, 1) := by decide +kernel
theorem dX3_stateOf_20 : decode cX3_stateOf 20 = .ok (.ifCond .eq 7, 3) := by decide +kernel
theorem dX3_stateOf_23 : decode cX3_stateOf 23 = .ok (.iconst 1, 1) := by decide +kernel
theorem dX3_stateOf_24 : decode cX3_stateOf 24 = .ok (.goto 4, 3) := by decide +kernel
theorem dX3_stateOf_27 : decode cX3_stateOf 27 = .ok (.iconst 0, 1) := by decide +kernel
theorem dX3_stateOf_28 : decode cX3_stateOf 28 = .ok (.ireturn, 1) := by decide +kernel
theorem dX3_cutOf_0 : decode cX3_cutOf 0 = .ok (.iload_n 1, 1) := by decide +kernel
theorem dX3_cutOf_1 : decode cX3_cutOf 1 = .ok (.aload_n 0, 1) := by decide +kernel
theorem dX3_cutOf_2 : decode cX3_cutOf 2 = .ok (.getfield 26, 3) := by decide +kernel
theorem dX3_cutOf_5 : decode cX3_cutOf 5 = .ok (.getfield 85, 3) := by decide +kernel
theorem dX3_cutOf_8 : decode cX3_cutOf 8 = .ok (.invokestatic 47, 3) := by decide +kernel
theorem dX3_cutOf_11 : decode cX3_cutOf 11 = .ok (.aload_n 0, 1) := by decide +kernel
theorem dX3_cutOf_12 : decode cX3_cutOf 12 = .ok (.getfield 26, 3) := by decide +kernel
theorem dX3_cutOf_15 : decode cX3_cutOf 15 = .ok (.getfield 158, 3) := by decide +kernel
theorem dX3_cutOf_18 : decode cX3_cutOf 18 = .ok (.iload_n 1, 1) := by decide +kernel
theorem dX3_cutOf_19 : decode cX3_cutOf 19 = .ok (.iaload, 1) := by decide +kernel
theorem dX3_cutOf_20 : decode cX3_cutOf 20 = .ok (.ireturn, 1) := by decide +kernel
theorem dX3_counts_0 : decode cX3_counts 0 = .ok (.aload_n 0, 1) := by decide +kernel
theorem dX3_counts_1 : decode cX3_counts 1 = .ok (.iload_n 1, 1) := by decide +kernel
theorem dX3_counts_2 : decode cX3_counts 2 = .ok (.iload_n 2, 1) := by decide +kernel
theorem dX3_counts_3 : decode cX3_counts 3 = .ok (.invokevirtual 161, 3) := by decide +kernel
theorem dX3_counts_6 : decode cX3_counts 6 = .ok (.aload_n 0, 1) := by decide +kernel
theorem dX3_counts_7 : decode cX3_counts 7 = .ok (.getfield 33, 3) := by decide +kernel
theorem dX3_counts_10 : decode cX3_counts 10 = .ok (.iload_n 1, 1) := by decide +kernel
theorem dX3_counts_11 : decode cX3_counts 11 = .ok (.iload_n 2, 1) := by decide +kernel
theorem dX3_counts_12 : decode cX3_counts 12 = .ok (.invokestatic 92, 3) := by decide +kernel
theorem dX3_counts_15 : decode cX3_counts 15 = .ok (.invokevirtual 114, 3) := by decide +kernel
theorem dX3_counts_18 : decode cX3_counts 18 = .ok (.ireturn, 1) := by decide +kernel
theorem dX3_agreed_0 : decode cX3_agreed 0 = .ok (.aload_n 0, 1) := by decide +kernel
theorem dX3_agreed_1 : decode cX3_agreed 1 = .ok (.iload_n 1, 1) := by decide +kernel
theorem dX3_agreed_2 : decode cX3_agreed 2 = .ok (.iload_n 2, 1) := by decide +kernel
theorem dX3_agreed_3 : decode cX3_agreed 3 = .ok (.invokevirtual 161, 3) := by decide +kernel
theorem dX3_agreed_6 : decode cX3_agreed 6 = .ok (.aload_n 0, 1) := by decide +kernel
theorem dX3_agreed_7 : decode cX3_agreed 7 = .ok (.getfield 33, 3) := by decide +kernel
theorem dX3_agreed_10 : decode cX3_agreed 10 = .ok (.getfield 164, 3) := by decide +kernel
theorem dX3_agreed_13 : decode cX3_agreed 13 = .ok (.iload_n 1, 1) := by decide +kernel
theorem dX3_agreed_14 : decode cX3_agreed 14 = .ok (.iload_n 2, 1) := by decide +kernel
theorem dX3_agreed_15 : decode cX3_agreed 15 = .ok (.invokestatic 92, 3) := by decide +kernel
theorem dX3_agreed_18 : decode cX3_agreed 18 = .ok (.iaload, 1) := by decide +kernel
theorem dX3_agreed_19 : decode cX3_agreed 19 = .ok (.ireturn, 1) := by decide +kernel
theorem dX3_gap_0 : decode cX3_gap 0 = .ok (.aload_n 0, 1) := by decide +kernel
theorem dX3_gap_1 : decode cX3_gap 1 = .ok (.iload_n 1, 1) := by decide +kernel
theorem dX3_gap_2 : decode cX3_gap 2 = .ok (.iload_n 2, 1) := by decide +kernel
theorem dX3_gap_3 : decode cX3_gap 3 = .ok (.invokevirtual 161, 3) := by decide +kernel
theorem dX3_gap_6 : decode cX3_gap 6 = .ok (.aload_n 0, 1) := by decide +kernel
theorem dX3_gap_7 : decode cX3_gap 7 = .ok (.iload_n 1, 1) := by decide +kernel
theorem dX3_gap_8 : decode cX3_gap 8 = .ok (.iload_n 2, 1) := by decide +kernel
theorem dX3_gap_9 : decode cX3_gap 9 = .ok (.invokevirtual 120, 3) := by decide +kernel
theorem dX3_gap_12 : decode cX3_gap 12 = .ok (.aload_n 0, 1) := by decide +kernel
theorem dX3_gap_13 : decode cX3_gap 13 = .ok (.iload_n 1, 1) := by decide +kernel
theorem dX3_gap_14 : decode cX3_gap 14 = .ok (.iload_n 2, 1) := by decide +kernel
theorem dX3_gap_15 : decode cX3_gap 15 = .ok (.invokevirtual 128, 3) := by decide +kernel
theorem dX3_gap_18 : decode cX3_gap 18 = .ok (.ireturn, 1) := by decide +kernel
theorem dX3_isSigned_0 : decode cX3_isSigned 0 = .ok (.aload_n 0, 1) := by decide +kernel
theorem dX3_isSigned_1 : decode cX3_isSigned 1 = .ok (.iload_n 1, 1) := by decide +kernel
theorem dX3_isSigned_2 : decode cX3_isSigned 2 = .ok (.iload_n 2, 1) := by decide +kernel
theorem dX3_isSigned_3 : decode cX3_isSigned 3 = .ok (.invokevirtual 161, 3) := by decide +kernel
theorem dX3_isSigned_6 : decode cX3_isSigned 6 = .ok (.aload_n 0, 1) := by decide +kernel
theorem dX3_isSigned_7 : decode cX3_isSigned 7 = .ok (.getfield 33, 3) := by decide +kernel
theorem dX3_isSigned_10 : decode cX3_isSigned 10 = .ok (.iload_n 1, 1) := by decide +kernel
theorem dX3_isSigned_11 : decode cX3_isSigned 11 = .ok (.iload_n 2, 1) := by decide +kernel
theorem dX3_isSigned_12 : decode cX3_isSigned 12 = .ok (.invokestatic 92, 3) := by decide +kernel
theorem dX3_isSigned_15 : decode cX3_isSigned 15 = .ok (.invokevirtual 167, 3) := by decide +kernel
theorem dX3_isSigned_18 : decode cX3_isSigned 18 = .ok (.ireturn, 1) := by decide +kernel
theorem dX3_likely_0 : decode cX3_likely 0 = .ok (.aload_n 0, 1) := by decide +kernel
theorem dX3_likely_1 : decode cX3_likely 1 = .ok (.iload_n 1, 1) := by decide +kernel
theorem dX3_likely_2 : decode cX3_likely 2 = .ok (.iload_n 2, 1) := by decide +kernel
theorem dX3_likely_3 : decode cX3_likely 3 = .ok (.invokevirtual 161, 3) := by decide +kernel
theorem dX3_likely_6 : decode cX3_likely 6 = .ok (.iconst 0, 1) := by decide +kernel
theorem dX3_likely_7 : decode cX3_likely 7 = .ok (.istore_n 3, 1) := by decide +kernel
theorem dX3_likely_8 : decode cX3_likely 8 = .ok (.iload_n 3, 1) := by decide +kernel
theorem dX3_likely_9 : decode cX3_likely 9 = .ok (.aload_n 0, 1) := by decide +kernel
theorem dX3_likely_10 : decode cX3_likely 10 = .ok (.getfield 26, 3) := by decide +kernel
theorem dX3_likely_13 : decode cX3_likely 13 = .ok (.getfield 85, 3) := by decide +kernel
theorem dX3_likely_16 : decode cX3_likely 16 = .ok (.if_icmp .ge 21, 3) := by decide +kernel
theorem dX3_likely_19 : decode cX3_likely 19 = .ok (.aload_n 0, 1) := by decide +kernel
theorem dX3_likely_20 : decode cX3_likely 20 = .ok (.iload_n 1, 1) := by decide +kernel
theorem dX3_likely_21 : decode cX3_likely 21 = .ok (.iload_n 3, 1) := by decide +kernel
theorem dX3_likely_22 : decode cX3_likely 22 = .ok (.iload_n 2, 1) := by decide +kernel
theorem dX3_likely_23 : decode cX3_likely 23 = .ok (.invokevirtual 141, 3) := by decide +kernel
theorem dX3_likely_26 : decode cX3_likely 26 = .ok (.ifCond .eq 5, 3) := by decide +kernel
theorem dX3_likely_29 : decode cX3_likely 29 = .ok (.iload_n 3, 1) := by decide +kernel
theorem dX3_likely_30 : decode cX3_likely 30 = .ok (.ireturn, 1) := by decide +kernel
theorem dX3_likely_31 : decode cX3_likely 31 = .ok (.iinc 3 1, 3) := by decide +kernel
theorem dX3_likely_34 : decode cX3_likely 34 = .ok (.goto (-26), 3) := by decide +kernel
theorem dX3_likely_37 : decode cX3_likely 37 = .ok (.iconst (-1), 1) := by decide +kernel
theorem dX3_likely_38 : decode cX3_likely 38 = .ok (.ireturn, 1) := by decide +kernel
theorem dX3_exact_0 : decode cX3_exact 0 = .ok (.iload_n 1, 1) := by decide +kernel
theorem dX3_exact_1 : decode cX3_exact 1 = .ok (.iconst 3, 1) := by decide +kernel
theorem dX3_exact_2 : decode cX3_exact 2 = .ok (.invokestatic 47, 3) := by decide +kernel
theorem dX3_exact_5 : decode cX3_exact 5 = .ok (.iconst 0, 1) := by decide +kernel
theorem dX3_exact_6 : decode cX3_exact 6 = .ok (.istore_n 2, 1) := by decide +kernel
theorem dX3_exact_7 : decode cX3_exact 7 = .ok (.iconst 0, 1) := by decide +kernel
theorem dX3_exact_8 : decode cX3_exact 8 = .ok (.istore_n 3, 1) := by decide +kernel
theorem dX3_exact_9 : decode cX3_exact 9 = .ok (.iconst 0, 1) := by decide +kernel
theorem dX3_exact_10 : decode cX3_exact 10 = .ok (.istore 4, 2) := by decide +kernel
theorem dX3_exact_12 : decode cX3_exact 12 = .ok (.iload 4, 2) := by decide +kernel
theorem dX3_exact_14 : decode cX3_exact 14 = .ok (.aload_n 0, 1) := by decide +kernel
theorem dX3_exact_15 : decode cX3_exact 15 = .ok (.getfield 26, 3) := by decide +kernel
theorem dX3_exact_18 : decode cX3_exact 18 = .ok (.getfield 85, 3) := by decide +kernel
theorem dX3_exact_21 : decode cX3_exact 21 = .ok (.if_icmp .ge 85, 3) := by decide +kernel
theorem dX3_exact_24 : decode cX3_exact 24 = .ok (.aload_n 0, 1) := by decide +kernel
theorem dX3_exact_25 : decode cX3_exact 25 = .ok (.getfield 26, 3) := by decide +kernel
theorem dX3_exact_28 : decode cX3_exact 28 = .ok (.getfield 170, 3) := by decide +kernel
theorem dX3_exact_31 : decode cX3_exact 31 = .ok (.iload 4, 2) := by decide +kernel
theorem dX3_exact_33 : decode cX3_exact 33 = .ok (.iaload, 1) := by decide +kernel
theorem dX3_exact_34 : decode cX3_exact 34 = .ok (.iconst 4, 1) := by decide +kernel
theorem dX3_exact_35 : decode cX3_exact 35 = .ok (.idiv, 1) := by decide +kernel
theorem dX3_exact_36 : decode cX3_exact 36 = .ok (.iload_n 1, 1) := by decide +kernel
theorem dX3_exact_37 : decode cX3_exact 37 = .ok (.if_icmp .ne 63, 3) := by decide +kernel
theorem dX3_exact_40 : decode cX3_exact 40 = .ok (.iconst 0, 1) := by decide +kernel
theorem dX3_exact_41 : decode cX3_exact 41 = .ok (.istore 5, 2) := by decide +kernel
theorem dX3_exact_43 : decode cX3_exact 43 = .ok (.iload 5, 2) := by decide +kernel
theorem dX3_exact_45 : decode cX3_exact 45 = .ok (.iconst 5, 1) := by decide +kernel
theorem dX3_exact_46 : decode cX3_exact 46 = .ok (.if_icmp .ge 54, 3) := by decide +kernel
theorem dX3_exact_49 : decode cX3_exact 49 = .ok (.iload 4, 2) := by decide +kernel
theorem dX3_exact_51 : decode cX3_exact 51 = .ok (.iload 5, 2) := by decide +kernel
theorem dX3_exact_53 : decode cX3_exact 53 = .ok (.invokestatic 92, 3) := by decide +kernel
theorem dX3_exact_56 : decode cX3_exact 56 = .ok (.istore 6, 2) := by decide +kernel
theorem dX3_exact_58 : decode cX3_exact 58 = .ok (.aload_n 0, 1) := by decide +kernel
theorem dX3_exact_59 : decode cX3_exact 59 = .ok (.getfield 33, 3) := by decide +kernel
theorem dX3_exact_62 : decode cX3_exact 62 = .ok (.iload 6, 2) := by decide +kernel
theorem dX3_exact_64 : decode cX3_exact 64 = .ok (.invokevirtual 167, 3) := by decide +kernel
theorem dX3_exact_67 : decode cX3_exact 67 = .ok (.ifCond .eq 27, 3) := by decide +kernel
theorem dX3_exact_70 : decode cX3_exact 70 = .ok (.iinc 2 1, 3) := by decide +kernel
theorem dX3_exact_73 : decode cX3_exact 73 = .ok (.iload_n 3, 1) := by decide +kernel
theorem dX3_exact_74 : decode cX3_exact 74 = .ok (.aload_n 0, 1) := by decide +kernel
theorem dX3_exact_75 : decode cX3_exact 75 = .ok (.getfield 33, 3) := by decide +kernel
theorem dX3_exact_78 : decode cX3_exact 78 = .ok (.getfield 173, 3) := by decide +kernel
theorem dX3_exact_81 : decode cX3_exact 81 = .ok (.iload 6, 2) := by decide +kernel
theorem dX3_exact_83 : decode cX3_exact 83 = .ok (.iaload, 1) := by decide +kernel
theorem dX3_exact_84 : decode cX3_exact 84 = .ok (.ifCond .ne 7, 3) := by decide +kernel
theorem dX3_exact_87 : decode cX3_exact 87 = .ok (.iconst 1, 1) := by decide +kernel
theorem dX3_exact_88 : decode cX3_exact 88 = .ok (.goto 4, 3) := by decide +kernel
theorem dX3_exact_91 : decode cX3_exact 91 = .ok (.iconst 0, 1) := by decide +kernel
theorem dX3_exact_92 : decode cX3_exact 92 = .ok (.iadd, 1) := by decide +kernel
theorem dX3_exact_93 : decode cX3_exact 93 = .ok (.istore_n 3, 1) := by decide +kernel
theorem dX3_exact_94 : decode cX3_exact 94 = .ok (.iinc 5 1, 3) := by decide +kernel
theorem dX3_exact_97 : decode cX3_exact 97 = .ok (.goto (-54), 3) := by decide +kernel
theorem dX3_exact_100 : decode cX3_exact 100 = .ok (.iinc 4 1, 3) := by decide +kernel
theorem dX3_exact_103 : decode cX3_exact 103 = .ok (.goto (-91), 3) := by decide +kernel
theorem dX3_exact_106 : decode cX3_exact 106 = .ok (.iload_n 2, 1) := by decide +kernel
theorem dX3_exact_107 : decode cX3_exact 107 = .ok (.ifCond .ne 7, 3) := by decide +kernel
theorem dX3_exact_110 : decode cX3_exact 110 = .ok (.iconst (-1), 1) := by decide +kernel
theorem dX3_exact_111 : decode cX3_exact 111 = .ok (.goto 10, 3) := by decide +kernel
theorem dX3_exact_114 : decode cX3_exact 114 = .ok (.sipush 1000, 3) := by decide +kernel
theorem dX3_exact_117 : decode cX3_exact 117 = .ok (.iload_n 3, 1) := by decide +kernel
theorem dX3_exact_118 : decode cX3_exact 118 = .ok (.imul, 1) := by decide +kernel
theorem dX3_exact_119 : decode cX3_exact 119 = .ok (.iload_n 2, 1) := by decide +kernel
theorem dX3_exact_120 : decode cX3_exact 120 = .ok (.idiv, 1) := by decide +kernel
theorem dX3_exact_121 : decode cX3_exact 121 = .ok (.ireturn, 1) := by decide +kernel
theorem dX3_checkIndex_0 : decode cX3_checkIndex 0 = .ok (.iload_n 0, 1) := by decide +kernel
theorem dX3_checkIndex_1 : decode cX3_checkIndex 1 = .ok (.ifCond .lt 8, 3) := by decide +kernel
theorem dX3_checkIndex_4 : decode cX3_checkIndex 4 = .ok (.iload_n 0, 1) := by decide +kernel
theorem dX3_checkIndex_5 : decode cX3_checkIndex 5 = .ok (.iload_n 1, 1) := by decide +kernel
theorem dX3_checkIndex_6 : decode cX3_checkIndex 6 = .ok (.if_icmp .lt 13, 3) := by decide +kernel
theorem dX3_checkIndex_9 : decode cX3_checkIndex 9 = .ok (.new 176, 3) := by decide +kernel
theorem dX3_checkIndex_12 : decode cX3_checkIndex 12 = .ok (.dup, 1) := by decide +kernel
theorem dX3_checkIndex_13 : decode cX3_checkIndex 13 = .ok (.ldc 178, 2) := by decide +kernel
theorem dX3_checkIndex_15 : decode cX3_checkIndex 15 = .ok (.invokespecial 180, 3) := by decide +kernel
theorem dX3_checkIndex_18 : decode cX3_checkIndex 18 = .ok (.athrow, 1) := by decide +kernel
theorem dX3_checkIndex_19 : decode cX3_checkIndex 19 = .ok (.return_, 1) := by decide +kernel
theorem dX3_checkPlaceOrOutside_0 : decode cX3_checkPlaceOrOutside 0 = .ok (.iload_n 0, 1) := by decide +kernel
theorem dX3_checkPlaceOrOutside_1 : decode cX3_checkPlaceOrOutside 1 = .ok (.iconst (-1), 1) := by decide +kernel
theorem dX3_checkPlaceOrOutside_2 : decode cX3_checkPlaceOrOutside 2 = .ok (.if_icmp .eq 9, 3) := by decide +kernel
theorem dX3_checkPlaceOrOutside_5 : decode cX3_checkPlaceOrOutside 5 = .ok (.iload_n 0, 1) := by decide +kernel
theorem dX3_checkPlaceOrOutside_6 : decode cX3_checkPlaceOrOutside 6 = .ok (.bipush 12, 2) := by decide +kernel
theorem dX3_checkPlaceOrOutside_8 : decode cX3_checkPlaceOrOutside 8 = .ok (.invokestatic 47, 3) := by decide +kernel
theorem dX3_checkPlaceOrOutside_11 : decode cX3_checkPlaceOrOutside 11 = .ok (.return_, 1) := by decide +kernel
theorem dX3_checkRange_0 : decode cX3_checkRange 0 = .ok (.iload_n 0, 1) := by decide +kernel
theorem dX3_checkRange_1 : decode cX3_checkRange 1 = .ok (.iload_n 1, 1) := by decide +kernel
theorem dX3_checkRange_2 : decode cX3_checkRange 2 = .ok (.if_icmp .lt 8, 3) := by decide +kernel
theorem dX3_checkRange_5 : decode cX3_checkRange 5 = .ok (.iload_n 0, 1) := by decide +kernel
theorem dX3_checkRange_6 : decode cX3_checkRange 6 = .ok (.iload_n 2, 1) := by decide +kernel
theorem dX3_checkRange_7 : decode cX3_checkRange 7 = .ok (.if_icmp .le 13, 3) := by decide +kernel
theorem dX3_checkRange_10 : decode cX3_checkRange 10 = .ok (.new 60, 3) := by decide +kernel
theorem dX3_checkRange_13 : decode cX3_checkRange 13 = .ok (.dup, 1) := by decide +kernel
theorem dX3_checkRange_14 : decode cX3_checkRange 14 = .ok (.ldc 181, 2) := by decide +kernel
theorem dX3_checkRange_16 : decode cX3_checkRange 16 = .ok (.invokespecial 64, 3) := by decide +kernel
theorem dX3_checkRange_19 : decode cX3_checkRange 19 = .ok (.athrow, 1) := by decide +kernel
theorem dX3_checkRange_20 : decode cX3_checkRange 20 = .ok (.return_, 1) := by decide +kernel
theorem dX3_checkLine_0 : decode cX3_checkLine 0 = .ok (.iload_n 1, 1) := by decide +kernel
theorem dX3_checkLine_1 : decode cX3_checkLine 1 = .ok (.aload_n 0, 1) := by decide +kernel
theorem dX3_checkLine_2 : decode cX3_checkLine 2 = .ok (.getfield 26, 3) := by decide +kernel
theorem dX3_checkLine_5 : decode cX3_checkLine 5 = .ok (.getfield 85, 3) := by decide +kernel
theorem dX3_checkLine_8 : decode cX3_checkLine 8 = .ok (.invokestatic 47, 3) := by decide +kernel
theorem dX3_checkLine_11 : decode cX3_checkLine 11 = .ok (.iload_n 2, 1) := by decide +kernel
theorem dX3_checkLine_12 : decode cX3_checkLine 12 = .ok (.iconst 5, 1) := by decide +kernel
theorem dX3_checkLine_13 : decode cX3_checkLine 13 = .ok (.invokestatic 47, 3) := by decide +kernel
theorem dX3_checkLine_16 : decode cX3_checkLine 16 = .ok (.return_, 1) := by decide +kernel
theorem dX3_checkAgrees_0 : decode cX3_checkAgrees 0 = .ok (.aload_n 0, 1) := by decide +kernel
theorem dX3_checkAgrees_1 : decode cX3_checkAgrees 1 = .ok (.getfield 33, 3) := by decide +kernel
theorem dX3_checkAgrees_4 : decode cX3_checkAgrees 4 = .ok (.iload_n 1, 1) := by decide +kernel
theorem dX3_checkAgrees_5 : decode cX3_checkAgrees 5 = .ok (.iload_n 2, 1) := by decide +kernel
theorem dX3_checkAgrees_6 : decode cX3_checkAgrees 6 = .ok (.invokestatic 92, 3) := by decide +kernel
theorem dX3_checkAgrees_9 : decode cX3_checkAgrees 9 = .ok (.invokevirtual 101, 3) := by decide +kernel
theorem dX3_checkAgrees_12 : decode cX3_checkAgrees 12 = .ok (.ifCond .ne 13, 3) := by decide +kernel
theorem dX3_checkAgrees_15 : decode cX3_checkAgrees 15 = .ok (.new 183, 3) := by decide +kernel
theorem dX3_checkAgrees_18 : decode cX3_checkAgrees 18 = .ok (.dup, 1) := by decide +kernel
theorem dX3_checkAgrees_19 : decode cX3_checkAgrees 19 = .ok (.ldc 185, 2) := by decide +kernel
theorem dX3_checkAgrees_21 : decode cX3_checkAgrees 21 = .ok (.invokespecial 187, 3) := by decide +kernel
theorem dX3_checkAgrees_24 : decode cX3_checkAgrees 24 = .ok (.athrow, 1) := by decide +kernel
theorem dX3_checkAgrees_25 : decode cX3_checkAgrees 25 = .ok (.return_, 1) := by decide +kernel
theorem dX3_lineOf_0 : decode cX3_lineOf 0 = .ok (.iload_n 0, 1) := by decide +kernel
theorem dX3_lineOf_1 : decode cX3_lineOf 1 = .ok (.iconst 5, 1) := by decide +kernel
theorem dX3_lineOf_2 : decode cX3_lineOf 2 = .ok (.imul, 1) := by decide +kernel
theorem dX3_lineOf_3 : decode cX3_lineOf 3 = .ok (.iload_n 1, 1) := by decide +kernel
theorem dX3_lineOf_4 : decode cX3_lineOf 4 = .ok (.iadd, 1) := by decide +kernel
theorem dX3_lineOf_5 : decode cX3_lineOf 5 = .ok (.ireturn, 1) := by decide +kernel
theorem dX3_bookOf_0 : decode cX3_bookOf 0 = .ok (.aload_n 0, 1) := by decide +kernel
theorem dX3_bookOf_1 : decode cX3_bookOf 1 = .ok (.iload_n 1, 1) := by decide +kernel
theorem dX3_bookOf_2 : decode cX3_bookOf 2 = .ok (.iload_n 2, 1) := by decide +kernel
theorem dX3_bookOf_3 : decode cX3_bookOf 3 = .ok (.iload_n 3, 1) := by decide +kernel
theorem dX3_bookOf_4 : decode cX3_bookOf 4 = .ok (.invokevirtual 188, 3) := by decide +kernel
theorem dX3_bookOf_7 : decode cX3_bookOf 7 = .ok (.istore 4, 2) := by decide +kernel
theorem dX3_bookOf_9 : decode cX3_bookOf 9 = .ok (.iload 4, 2) := by decide +kernel
theorem dX3_bookOf_11 : decode cX3_bookOf 11 = .ok (.iconst (-1), 1) := by decide +kernel
theorem dX3_bookOf_12 : decode cX3_bookOf 12 = .ok (.if_icmp .ne 15, 3) := by decide +kernel
theorem dX3_bookOf_15 : decode cX3_bookOf 15 = .ok (.aload_n 0, 1) := by decide +kernel
theorem dX3_bookOf_16 : decode cX3_bookOf 16 = .ok (.getfield 19, 3) := by decide +kernel
theorem dX3_bookOf_19 : decode cX3_bookOf 19 = .ok (.iload_n 1, 1) := by decide +kernel
theorem dX3_bookOf_20 : decode cX3_bookOf 20 = .ok (.iload_n 2, 1) := by decide +kernel
theorem dX3_bookOf_21 : decode cX3_bookOf 21 = .ok (.iconst (-1), 1) := by decide +kernel
theorem dX3_bookOf_22 : decode cX3_bookOf 22 = .ok (.iload_n 3, 1) := by decide +kernel
theorem dX3_bookOf_23 : decode cX3_bookOf 23 = .ok (.invokevirtual 191, 3) := by decide +kernel
theorem dX3_bookOf_26 : decode cX3_bookOf 26 = .ok (.ireturn, 1) := by decide +kernel
theorem dX3_bookOf_27 : decode cX3_bookOf 27 = .ok (.aload_n 0, 1) := by decide +kernel
theorem dX3_bookOf_28 : decode cX3_bookOf 28 = .ok (.getfield 33, 3) := by decide +kernel
theorem dX3_bookOf_31 : decode cX3_bookOf 31 = .ok (.getfield 164, 3) := by decide +kernel
theorem dX3_bookOf_34 : decode cX3_bookOf 34 = .ok (.iload 4, 2) := by decide +kernel
theorem dX3_bookOf_36 : decode cX3_bookOf 36 = .ok (.iload_n 2, 1) := by decide +kernel
theorem dX3_bookOf_37 : decode cX3_bookOf 37 = .ok (.invokestatic 92, 3) := by decide +kernel
theorem dX3_bookOf_40 : decode cX3_bookOf 40 = .ok (.iaload, 1) := by decide +kernel
theorem dX3_bookOf_41 : decode cX3_bookOf 41 = .ok (.istore 5, 2) := by decide +kernel
theorem dX3_bookOf_43 : decode cX3_bookOf 43 = .ok (.iload 5, 2) := by decide +kernel
theorem dX3_bookOf_45 : decode cX3_bookOf 45 = .ok (.aload_n 0, 1) := by decide +kernel
theorem dX3_bookOf_46 : decode cX3_bookOf 46 = .ok (.getfield 19, 3) := by decide +kernel
theorem dX3_bookOf_49 : decode cX3_bookOf 49 = .ok (.iload_n 1, 1) := by decide +kernel
theorem dX3_bookOf_50 : decode cX3_bookOf 50 = .ok (.iload_n 2, 1) := by decide +kernel
theorem dX3_bookOf_51 : decode cX3_bookOf 51 = .ok (.aload_n 0, 1) := by decide +kernel
theorem dX3_bookOf_52 : decode cX3_bookOf 52 = .ok (.getfield 26, 3) := by decide +kernel
theorem dX3_bookOf_55 : decode cX3_bookOf 55 = .ok (.getfield 158, 3) := by decide +kernel
theorem dX3_bookOf_58 : decode cX3_bookOf 58 = .ok (.iload 4, 2) := by decide +kernel
theorem dX3_bookOf_60 : decode cX3_bookOf 60 = .ok (.iaload, 1) := by decide +kernel
theorem dX3_bookOf_61 : decode cX3_bookOf 61 = .ok (.iload_n 3, 1) := by decide +kernel
theorem dX3_bookOf_62 : decode cX3_bookOf 62 = .ok (.invokevirtual 191, 3) := by decide +kernel
theorem dX3_bookOf_65 : decode cX3_bookOf 65 = .ok (.iadd, 1) := by decide +kernel
theorem dX3_bookOf_66 : decode cX3_bookOf 66 = .ok (.ireturn, 1) := by decide +kernel
theorem dX3_signedSheetFor_0 : decode cX3_signedSheetFor 0 = .ok (.iconst (-1), 1) := by decide +kernel
theorem dX3_signedSheetFor_1 : decode cX3_signedSheetFor 1 = .ok (.istore 4, 2) := by decide +kernel
theorem dX3_signedSheetFor_3 : decode cX3_signedSheetFor 3 = .ok (.iconst 0, 1) := by decide +kernel
theorem dX3_signedSheetFor_4 : decode cX3_signedSheetFor 4 = .ok (.istore 5, 2) := by decide +kernel
theorem dX3_signedSheetFor_6 : decode cX3_signedSheetFor 6 = .ok (.iload 5, 2) := by decide +kernel
theorem dX3_signedSheetFor_8 : decode cX3_signedSheetFor 8 = .ok (.aload_n 0, 1) := by decide +kernel
theorem dX3_signedSheetFor_9 : decode cX3_signedSheetFor 9 = .ok (.getfield 26, 3) := by decide +kernel
theorem dX3_signedSheetFor_12 : decode cX3_signedSheetFor 12 = .ok (.getfield 85, 3) := by decide +kernel
theorem dX3_signedSheetFor_15 : decode cX3_signedSheetFor 15 = .ok (.if_icmp .ge 75, 3) := by decide +kernel
theorem dX3_signedSheetFor_18 : decode cX3_signedSheetFor 18 = .ok (.aload_n 0, 1) := by decide +kernel
theorem dX3_signedSheetFor_19 : decode cX3_signedSheetFor 19 = .ok (.getfield 26, 3) := by decide +kernel
theorem dX3_signedSheetFor_22 : decode cX3_signedSheetFor 22 = .ok (.getfield 170, 3) := by decide +kernel
theorem dX3_signedSheetFor_25 : decode cX3_signedSheetFor 25 = .ok (.iload 5, 2) := by decide +kernel
theorem dX3_signedSheetFor_27 : decode cX3_signedSheetFor 27 = .ok (.iaload, 1) := by decide +kernel
theorem dX3_signedSheetFor_28 : decode cX3_signedSheetFor 28 = .ok (.iload_n 1, 1) := by decide +kernel
theorem dX3_signedSheetFor_29 : decode cX3_signedSheetFor 29 = .ok (.if_icmp .ne 55, 3) := by decide +kernel
theorem dX3_signedSheetFor_32 : decode cX3_signedSheetFor 32 = .ok (.aload_n 0, 1) := by decide +kernel
theorem dX3_signedSheetFor_33 : decode cX3_signedSheetFor 33 = .ok (.getfield 26, 3) := by decide +kernel
theorem dX3_signedSheetFor_36 : decode cX3_signedSheetFor 36 = .ok (.getfield 158, 3) := by decide +kernel
theorem dX3_signedSheetFor_39 : decode cX3_signedSheetFor 39 = .ok (.iload 5, 2) := by decide +kernel
theorem dX3_signedSheetFor_41 : decode cX3_signedSheetFor 41 = .ok (.iaload, 1) := by decide +kernel
theorem dX3_signedSheetFor_42 : decode cX3_signedSheetFor 42 = .ok (.iload_n 3, 1) := by decide +kernel
theorem dX3_signedSheetFor_43 : decode cX3_signedSheetFor 43 = .ok (.if_icmp .gt 41, 3) := by decide +kernel
theorem dX3_signedSheetFor_46 : decode cX3_signedSheetFor 46 = .ok (.aload_n 0, 1) := by decide +kernel
theorem dX3_signedSheetFor_47 : decode cX3_signedSheetFor 47 = .ok (.getfield 33, 3) := by decide +kernel
theorem dX3_signedSheetFor_50 : decode cX3_signedSheetFor 50 = .ok (.iload 5, 2) := by decide +kernel
theorem dX3_signedSheetFor_52 : decode cX3_signedSheetFor 52 = .ok (.iload_n 2, 1) := by decide +kernel
theorem dX3_signedSheetFor_53 : decode cX3_signedSheetFor 53 = .ok (.invokestatic 92, 3) := by decide +kernel
theorem dX3_signedSheetFor_56 : decode cX3_signedSheetFor 56 = .ok (.invokevirtual 167, 3) := by decide +kernel
theorem dX3_signedSheetFor_59 : decode cX3_signedSheetFor 59 = .ok (.ifCond .eq 25, 3) := by decide +kernel
theorem dX3_signedSheetFor_62 : decode cX3_signedSheetFor 62 = .ok (.iload 4, 2) := by decide +kernel
theorem dX3_signedSheetFor_64 : decode cX3_signedSheetFor 64 = .ok (.iconst (-1), 1) := by decide +kernel
theorem dX3_signedSheetFor_65 : decode cX3_signedSheetFor 65 = .ok (.if_icmp .eq 15, 3) := by decide +kernel
theorem dX3_signedSheetFor_68 : decode cX3_signedSheetFor 68 = .ok (.aload_n 0, 1) := by decide +kernel
theorem dX3_signedSheetFor_69 : decode cX3_signedSheetFor 69 = .ok (.iload 5, 2) := by decide +kernel
theorem dX3_signedSheetFor_71 : decode cX3_signedSheetFor 71 = .ok (.iload 4, 2) := by decide +kernel
theorem dX3_signedSheetFor_73 : decode cX3_signedSheetFor 73 = .ok (.iload_n 2, 1) := by decide +kernel
theorem dX3_signedSheetFor_74 : decode cX3_signedSheetFor 74 = .ok (.invokevirtual 195, 3) := by decide +kernel
theorem dX3_signedSheetFor_77 : decode cX3_signedSheetFor 77 = .ok (.ifCond .eq 7, 3) := by decide +kernel
theorem dX3_signedSheetFor_80 : decode cX3_signedSheetFor 80 = .ok (.iload 5, 2) := by decide +kernel
theorem dX3_signedSheetFor_82 : decode cX3_signedSheetFor 82 = .ok (.istore 4, 2) := by decide +kernel
theorem dX3_signedSheetFor_84 : decode cX3_signedSheetFor 84 = .ok (.iinc 5 1, 3) := by decide +kernel
theorem dX3_signedSheetFor_87 : decode cX3_signedSheetFor 87 = .ok (.goto (-81), 3) := by decide +kernel
theorem dX3_signedSheetFor_90 : decode cX3_signedSheetFor 90 = .ok (.iload 4, 2) := by decide +kernel
theorem dX3_signedSheetFor_92 : decode cX3_signedSheetFor 92 = .ok (.ireturn, 1) := by decide +kernel
theorem dX3_isStronger_0 : decode cX3_isStronger 0 = .ok (.aload_n 0, 1) := by decide +kernel
theorem dX3_isStronger_1 : decode cX3_isStronger 1 = .ok (.getfield 26, 3) := by decide +kernel
theorem dX3_isStronger_4 : decode cX3_isStronger 4 = .ok (.getfield 158, 3) := by decide +kernel
theorem dX3_isStronger_7 : decode cX3_isStronger 7 = .ok (.iload_n 1, 1) := by decide +kernel
theorem dX3_isStronger_8 : decode cX3_isStronger 8 = .ok (.iaload, 1) := by decide +kernel
theorem dX3_isStronger_9 : decode cX3_isStronger 9 = .ok (.aload_n 0, 1) := by decide +kernel
theorem dX3_isStronger_10 : decode cX3_isStronger 10 = .ok (.getfield 26, 3) := by decide +kernel
theorem dX3_isStronger_13 : decode cX3_isStronger 13 = .ok (.getfield 158, 3) := by decide +kernel
theorem dX3_isStronger_16 : decode cX3_isStronger 16 = .ok (.iload_n 2, 1) := by decide +kernel
theorem dX3_isStronger_17 : decode cX3_isStronger 17 = .ok (.iaload, 1) := by decide +kernel
theorem dX3_isStronger_18 : decode cX3_isStronger 18 = .ok (.if_icmp .eq 30, 3) := by decide +kernel
theorem dX3_isStronger_21 : decode cX3_isStronger 21 = .ok (.aload_n 0, 1) := by decide +kernel
theorem dX3_isStronger_22 : decode cX3_isStronger 22 = .ok (.getfield 26, 3) := by decide +kernel
theorem dX3_isStronger_25 : decode cX3_isStronger 25 = .ok (.getfield 158, 3) := by decide +kernel
theorem dX3_isStronger_28 : decode cX3_isStronger 28 = .ok (.iload_n 1, 1) := by decide +kernel
theorem dX3_isStronger_29 : decode cX3_isStronger 29 = .ok (.iaload, 1) := by decide +kernel
theorem dX3_isStronger_30 : decode cX3_isStronger 30 = .ok (.aload_n 0, 1) := by decide +kernel
theorem dX3_isStronger_31 : decode cX3_isStronger 31 = .ok (.getfield 26, 3) := by decide +kernel
theorem dX3_isStronger_34 : decode cX3_isStronger 34 = .ok (.getfield 158, 3) := by decide +kernel
theorem dX3_isStronger_37 : decode cX3_isStronger 37 = .ok (.iload_n 2, 1) := by decide +kernel
theorem dX3_isStronger_38 : decode cX3_isStronger 38 = .ok (.iaload, 1) := by decide +kernel
theorem dX3_isStronger_39 : decode cX3_isStronger 39 = .ok (.if_icmp .le 7, 3) := by decide +kernel
theorem dX3_isStronger_42 : decode cX3_isStronger 42 = .ok (.iconst 1, 1) := by decide +kernel
theorem dX3_isStronger_43 : decode cX3_isStronger 43 = .ok (.goto 4, 3) := by decide +kernel
theorem dX3_isStronger_46 : decode cX3_isStronger 46 = .ok (.iconst 0, 1) := by decide +kernel
theorem dX3_isStronger_47 : decode cX3_isStronger 47 = .ok (.ireturn, 1) := by decide +kernel
theorem dX3_isStronger_48 : decode cX3_isStronger 48 = .ok (.aload_n 0, 1) := by decide +kernel
theorem dX3_isStronger_49 : decode cX3_isStronger 49 = .ok (.getfield 33, 3) := by decide +kernel
theorem dX3_isStronger_52 : decode cX3_isStronger 52 = .ok (.getfield 198, 3) := by decide +kernel
theorem dX3_isStronger_55 : decode cX3_isStronger 55 = .ok (.iload_n 1, 1) := by decide +kernel
theorem dX3_isStronger_56 : decode cX3_isStronger 56 = .ok (.iload_n 3, 1) := by decide +kernel
theorem dX3_isStronger_57 : decode cX3_isStronger 57 = .ok (.invokestatic 92, 3) := by decide +kernel
theorem dX3_isStronger_60 : decode cX3_isStronger 60 = .ok (.iaload, 1) := by decide +kernel
theorem dX3_isStronger_61 : decode cX3_isStronger 61 = .ok (.aload_n 0, 1) := by decide +kernel
theorem dX3_isStronger_62 : decode cX3_isStronger 62 = .ok (.getfield 33, 3) := by decide +kernel
theorem dX3_isStronger_65 : decode cX3_isStronger 65 = .ok (.getfield 198, 3) := by decide +kernel
theorem dX3_isStronger_68 : decode cX3_isStronger 68 = .ok (.iload_n 2, 1) := by decide +kernel
theorem dX3_isStronger_69 : decode cX3_isStronger 69 = .ok (.iload_n 3, 1) := by decide +kernel
theorem dX3_isStronger_70 : decode cX3_isStronger 70 = .ok (.invokestatic 92, 3) := by decide +kernel
theorem dX3_isStronger_73 : decode cX3_isStronger 73 = .ok (.iaload, 1) := by decide +kernel
theorem dX3_isStronger_74 : decode cX3_isStronger 74 = .ok (.if_icmp .le 7, 3) := by decide +kernel
theorem dX3_isStronger_77 : decode cX3_isStronger 77 = .ok (.iconst 1, 1) := by decide +kernel
theorem dX3_isStronger_78 : decode cX3_isStronger 78 = .ok (.goto 4, 3) := by decide +kernel
theorem dX3_isStronger_81 : decode cX3_isStronger 81 = .ok (.iconst 0, 1) := by decide +kernel
theorem dX3_isStronger_82 : decode cX3_isStronger 82 = .ok (.ireturn, 1) := by decide +kernel
theorem dX3_worthOf_0 : decode cX3_worthOf 0 = .ok (.iconst 0, 1) := by decide +kernel
theorem dX3_worthOf_1 : decode cX3_worthOf 1 = .ok (.istore_n 2, 1) := by decide +kernel
theorem dX3_worthOf_2 : decode cX3_worthOf 2 = .ok (.iconst 0, 1) := by decide +kernel
theorem dX3_worthOf_3 : decode cX3_worthOf 3 = .ok (.istore_n 3, 1) := by decide +kernel
theorem dX3_worthOf_4 : decode cX3_worthOf 4 = .ok (.iload_n 3, 1) := by decide +kernel
theorem dX3_worthOf_5 : decode cX3_worthOf 5 = .ok (.iconst 5, 1) := by decide +kernel
theorem dX3_worthOf_6 : decode cX3_worthOf 6 = .ok (.if_icmp .ge 33, 3) := by decide +kernel
theorem dX3_worthOf_9 : decode cX3_worthOf 9 = .ok (.iload_n 2, 1) := by decide +kernel
theorem dX3_worthOf_10 : decode cX3_worthOf 10 = .ok (.aload_n 0, 1) := by decide +kernel
theorem dX3_worthOf_11 : decode cX3_worthOf 11 = .ok (.getfield 9, 3) := by decide +kernel
theorem dX3_worthOf_14 : decode cX3_worthOf 14 = .ok (.iload_n 3, 1) := by decide +kernel
theorem dX3_worthOf_15 : decode cX3_worthOf 15 = .ok (.iaload, 1) := by decide +kernel
theorem dX3_worthOf_16 : decode cX3_worthOf 16 = .ok (.iconst 0, 1) := by decide +kernel
theorem dX3_worthOf_17 : decode cX3_worthOf 17 = .ok (.aload_n 0, 1) := by decide +kernel
theorem dX3_worthOf_18 : decode cX3_worthOf 18 = .ok (.iload_n 1, 1) := by decide +kernel
theorem dX3_worthOf_19 : decode cX3_worthOf 19 = .ok (.iload_n 3, 1) := by decide +kernel
theorem dX3_worthOf_20 : decode cX3_worthOf 20 = .ok (.aload_n 0, 1) := by decide +kernel
theorem dX3_worthOf_21 : decode cX3_worthOf 21 = .ok (.getfield 37, 3) := by decide +kernel
theorem dX3_worthOf_24 : decode cX3_worthOf 24 = .ok (.invokevirtual 147, 3) := by decide +kernel
theorem dX3_worthOf_27 : decode cX3_worthOf 27 = .ok (.invokestatic 201, 3) := by decide +kernel
theorem dX3_worthOf_30 : decode cX3_worthOf 30 = .ok (.imul, 1) := by decide +kernel
theorem dX3_worthOf_31 : decode cX3_worthOf 31 = .ok (.iadd, 1) := by decide +kernel
theorem dX3_worthOf_32 : decode cX3_worthOf 32 = .ok (.istore_n 2, 1) := by decide +kernel
theorem dX3_worthOf_33 : decode cX3_worthOf 33 = .ok (.iinc 3 1, 3) := by decide +kernel
theorem dX3_worthOf_36 : decode cX3_worthOf 36 = .ok (.goto (-32), 3) := by decide +kernel
theorem dX3_worthOf_39 : decode cX3_worthOf 39 = .ok (.iload_n 2, 1) := by decide +kernel
theorem dX3_worthOf_40 : decode cX3_worthOf 40 = .ok (.ireturn, 1) := by decide +kernel
theorem dX3_urgencyOf_0 : decode cX3_urgencyOf 0 = .ok (.aload_n 0, 1) := by decide +kernel
theorem dX3_urgencyOf_1 : decode cX3_urgencyOf 1 = .ok (.getfield 26, 3) := by decide +kernel
theorem dX3_urgencyOf_4 : decode cX3_urgencyOf 4 = .ok (.iload_n 1, 1) := by decide +kernel
theorem dX3_urgencyOf_5 : decode cX3_urgencyOf 5 = .ok (.invokevirtual 204, 3) := by decide +kernel
theorem dX3_urgencyOf_8 : decode cX3_urgencyOf 8 = .ok (.istore_n 2, 1) := by decide +kernel
theorem dX3_urgencyOf_9 : decode cX3_urgencyOf 9 = .ok (.iload_n 2, 1) := by decide +kernel
theorem dX3_urgencyOf_10 : decode cX3_urgencyOf 10 = .ok (.iconst (-1), 1) := by decide +kernel
theorem dX3_urgencyOf_11 : decode cX3_urgencyOf 11 = .ok (.if_icmp .ne 13, 3) := by decide +kernel
theorem dX3_urgencyOf_14 : decode cX3_urgencyOf 14 = .ok (.aload_n 0, 1) := by decide +kernel
theorem dX3_urgencyOf_15 : decode cX3_urgencyOf 15 = .ok (.getfield 37, 3) := by decide +kernel
theorem dX3_urgencyOf_18 : decode cX3_urgencyOf 18 = .ok (.i2l, 1) := by decide +kernel
theorem dX3_urgencyOf_19 : decode cX3_urgencyOf 19 = .ok (.lconst 1, 1) := by decide +kernel
theorem dX3_urgencyOf_20 : decode cX3_urgencyOf 20 = .ok (.ladd, 1) := by decide +kernel
theorem dX3_urgencyOf_21 : decode cX3_urgencyOf 21 = .ok (.goto 18, 3) := by decide +kernel
theorem dX3_urgencyOf_24 : decode cX3_urgencyOf 24 = .ok (.aload_n 0, 1) := by decide +kernel
theorem dX3_urgencyOf_25 : decode cX3_urgencyOf 25 = .ok (.getfield 37, 3) := by decide +kernel
theorem dX3_urgencyOf_28 : decode cX3_urgencyOf 28 = .ok (.aload_n 0, 1) := by decide +kernel
theorem dX3_urgencyOf_29 : decode cX3_urgencyOf 29 = .ok (.getfield 26, 3) := by decide +kernel
theorem dX3_urgencyOf_32 : decode cX3_urgencyOf 32 = .ok (.getfield 158, 3) := by decide +kernel
theorem dX3_urgencyOf_35 : decode cX3_urgencyOf 35 = .ok (.iload_n 2, 1) := by decide +kernel
theorem dX3_urgencyOf_36 : decode cX3_urgencyOf 36 = .ok (.iaload, 1) := by decide +kernel
theorem dX3_urgencyOf_37 : decode cX3_urgencyOf 37 = .ok (.isub, 1) := by decide +kernel
theorem dX3_urgencyOf_38 : decode cX3_urgencyOf 38 = .ok (.i2l, 1) := by decide +kernel
theorem dX3_urgencyOf_39 : decode cX3_urgencyOf 39 = .ok (.lstore_n 3, 1) := by decide +kernel
theorem dX3_urgencyOf_40 : decode cX3_urgencyOf 40 = .ok (.aload_n 0, 1) := by decide +kernel
theorem dX3_urgencyOf_41 : decode cX3_urgencyOf 41 = .ok (.iload_n 1, 1) := by decide +kernel
theorem dX3_urgencyOf_42 : decode cX3_urgencyOf 42 = .ok (.invokevirtual 151, 3) := by decide +kernel
theorem dX3_urgencyOf_45 : decode cX3_urgencyOf 45 = .ok (.i2l, 1) := by decide +kernel
theorem dX3_urgencyOf_46 : decode cX3_urgencyOf 46 = .ok (.lconst 1, 1) := by decide +kernel
theorem dX3_urgencyOf_47 : decode cX3_urgencyOf 47 = .ok (.ladd, 1) := by decide +kernel
theorem dX3_urgencyOf_48 : decode cX3_urgencyOf 48 = .ok (.lload_n 3, 1) := by decide +kernel
theorem dX3_urgencyOf_49 : decode cX3_urgencyOf 49 = .ok (.lmul, 1) := by decide +kernel
theorem dX3_urgencyOf_50 : decode cX3_urgencyOf 50 = .ok (.lreturn, 1) := by decide +kernel
theorem dX3_gapOf_0 : decode cX3_gapOf 0 = .ok (.iload_n 1, 1) := by decide +kernel
theorem dX3_gapOf_1 : decode cX3_gapOf 1 = .ok (.iload_n 2, 1) := by decide +kernel
theorem dX3_gapOf_2 : decode cX3_gapOf 2 = .ok (.invokestatic 92, 3) := by decide +kernel
theorem dX3_gapOf_5 : decode cX3_gapOf 5 = .ok (.istore_n 3, 1) := by decide +kernel
theorem dX3_gapOf_6 : decode cX3_gapOf 6 = .ok (.aload_n 0, 1) := by decide +kernel
theorem dX3_gapOf_7 : decode cX3_gapOf 7 = .ok (.getfield 33, 3) := by decide +kernel
theorem dX3_gapOf_10 : decode cX3_gapOf 10 = .ok (.iload_n 3, 1) := by decide +kernel
theorem dX3_gapOf_11 : decode cX3_gapOf 11 = .ok (.invokevirtual 167, 3) := by decide +kernel
theorem dX3_gapOf_14 : decode cX3_gapOf 14 = .ok (.ifCond .eq 13, 3) := by decide +kernel
theorem dX3_gapOf_17 : decode cX3_gapOf 17 = .ok (.aload_n 0, 1) := by decide +kernel
theorem dX3_gapOf_18 : decode cX3_gapOf 18 = .ok (.getfield 33, 3) := by decide +kernel
theorem dX3_gapOf_21 : decode cX3_gapOf 21 = .ok (.getfield 173, 3) := by decide +kernel
theorem dX3_gapOf_24 : decode cX3_gapOf 24 = .ok (.iload_n 3, 1) := by decide +kernel
theorem dX3_gapOf_25 : decode cX3_gapOf 25 = .ok (.iaload, 1) := by decide +kernel
theorem dX3_gapOf_26 : decode cX3_gapOf 26 = .ok (.ireturn, 1) := by decide +kernel
theorem dX3_gapOf_27 : decode cX3_gapOf 27 = .ok (.aload_n 0, 1) := by decide +kernel
theorem dX3_gapOf_28 : decode cX3_gapOf 28 = .ok (.getfield 33, 3) := by decide +kernel
theorem dX3_gapOf_31 : decode cX3_gapOf 31 = .ok (.getfield 164, 3) := by decide +kernel
theorem dX3_gapOf_34 : decode cX3_gapOf 34 = .ok (.iload_n 3, 1) := by decide +kernel
theorem dX3_gapOf_35 : decode cX3_gapOf 35 = .ok (.iaload, 1) := by decide +kernel
theorem dX3_gapOf_36 : decode cX3_gapOf 36 = .ok (.aload_n 0, 1) := by decide +kernel
theorem dX3_gapOf_37 : decode cX3_gapOf 37 = .ok (.aload_n 0, 1) := by decide +kernel
theorem dX3_gapOf_38 : decode cX3_gapOf 38 = .ok (.getfield 26, 3) := by decide +kernel
theorem dX3_gapOf_41 : decode cX3_gapOf 41 = .ok (.getfield 170, 3) := by decide +kernel
theorem dX3_gapOf_44 : decode cX3_gapOf 44 = .ok (.iload_n 1, 1) := by decide +kernel
theorem dX3_gapOf_45 : decode cX3_gapOf 45 = .ok (.iaload, 1) := by decide +kernel
theorem dX3_gapOf_46 : decode cX3_gapOf 46 = .ok (.iload_n 2, 1) := by decide +kernel
theorem dX3_gapOf_47 : decode cX3_gapOf 47 = .ok (.aload_n 0, 1) := by decide +kernel
theorem dX3_gapOf_48 : decode cX3_gapOf 48 = .ok (.getfield 26, 3) := by decide +kernel
theorem dX3_gapOf_51 : decode cX3_gapOf 51 = .ok (.getfield 158, 3) := by decide +kernel
theorem dX3_gapOf_54 : decode cX3_gapOf 54 = .ok (.iload_n 1, 1) := by decide +kernel
theorem dX3_gapOf_55 : decode cX3_gapOf 55 = .ok (.iaload, 1) := by decide +kernel
theorem dX3_gapOf_56 : decode cX3_gapOf 56 = .ok (.invokevirtual 147, 3) := by decide +kernel
theorem dX3_gapOf_59 : decode cX3_gapOf 59 = .ok (.isub, 1) := by decide +kernel
theorem dX3_gapOf_60 : decode cX3_gapOf 60 = .ok (.ireturn, 1) := by decide +kernel
theorem dX3_isSignable_0 : decode cX3_isSignable 0 = .ok (.iload_n 1, 1) := by decide +kernel
theorem dX3_isSignable_1 : decode cX3_isSignable 1 = .ok (.iload_n 2, 1) := by decide +kernel
theorem dX3_isSignable_2 : decode cX3_isSignable 2 = .ok (.invokestatic 92, 3) := by decide +kernel
theorem dX3_isSignable_5 : decode cX3_isSignable 5 = .ok (.istore_n 3, 1) := by decide +kernel
theorem dX3_isSignable_6 : decode cX3_isSignable 6 = .ok (.aload_n 0, 1) := by decide +kernel
theorem dX3_isSignable_7 : decode cX3_isSignable 7 = .ok (.getfield 26, 3) := by decide +kernel
theorem dX3_isSignable_10 : decode cX3_isSignable 10 = .ok (.getfield 95, 3) := by decide +kernel
theorem dX3_isSignable_13 : decode cX3_isSignable 13 = .ok (.iload_n 1, 1) := by decide +kernel
theorem dX3_isSignable_14 : decode cX3_isSignable 14 = .ok (.baload, 1) := by decide +kernel
theorem dX3_isSignable_15 : decode cX3_isSignable 15 = .ok (.ifCond .eq 29, 3) := by decide +kernel
theorem dX3_isSignable_18 : decode cX3_isSignable 18 = .ok (.aload_n 0, 1) := by decide +kernel
theorem dX3_isSignable_19 : decode cX3_isSignable 19 = .ok (.getfield 33, 3) := by decide +kernel
theorem dX3_isSignable_22 : decode cX3_isSignable 22 = .ok (.iload_n 3, 1) := by decide +kernel
theorem dX3_isSignable_23 : decode cX3_isSignable 23 = .ok (.invokevirtual 101, 3) := by decide +kernel
theorem dX3_isSignable_26 : decode cX3_isSignable 26 = .ok (.ifCond .eq 18, 3) := by decide +kernel
theorem dX3_isSignable_29 : decode cX3_isSignable 29 = .ok (.aload_n 0, 1) := by decide +kernel
theorem dX3_isSignable_30 : decode cX3_isSignable 30 = .ok (.getfield 33, 3) := by decide +kernel
theorem dX3_isSignable_33 : decode cX3_isSignable 33 = .ok (.iload_n 3, 1) := by decide +kernel
theorem dX3_isSignable_34 : decode cX3_isSignable 34 = .ok (.invokevirtual 167, 3) := by decide +kernel
theorem dX3_isSignable_37 : decode cX3_isSignable 37 = .ok (.ifCond .ne 7, 3) := by decide +kernel
theorem dX3_isSignable_40 : decode cX3_isSignable 40 = .ok (.iconst 1, 1) := by decide +kernel
theorem dX3_isSignable_41 : decode cX3_isSignable 41 = .ok (.goto 4, 3) := by decide +kernel
theorem dX3_isSignable_44 : decode cX3_isSignable 44 = .ok (.iconst 0, 1) := by decide +kernel
theorem dX3_isSignable_45 : decode cX3_isSignable 45 = .ok (.ireturn, 1) := by decide +kernel
theorem dX3_canBeSettled_0 : decode cX3_canBeSettled 0 = .ok (.aload_n 0, 1) := by decide +kernel
theorem dX3_canBeSettled_1 : decode cX3_canBeSettled 1 = .ok (.getfield 26, 3) := by decide +kernel
theorem dX3_canBeSettled_4 : decode cX3_canBeSettled 4 = .ok (.getfield 170, 3) := by decide +kernel
theorem dX3_canBeSettled_7 : decode cX3_canBeSettled 7 = .ok (.iload_n 1, 1) := by decide +kernel
theorem dX3_canBeSettled_8 : decode cX3_canBeSettled 8 = .ok (.iaload, 1) := by decide +kernel
theorem dX3_canBeSettled_9 : decode cX3_canBeSettled 9 = .ok (.aload_n 0, 1) := by decide +kernel
theorem dX3_canBeSettled_10 : decode cX3_canBeSettled 10 = .ok (.getfield 26, 3) := by decide +kernel
theorem dX3_canBeSettled_13 : decode cX3_canBeSettled 13 = .ok (.getfield 170, 3) := by decide +kernel
theorem dX3_canBeSettled_16 : decode cX3_canBeSettled 16 = .ok (.iload_n 2, 1) := by decide +kernel
theorem dX3_canBeSettled_17 : decode cX3_canBeSettled 17 = .ok (.iaload, 1) := by decide +kernel
theorem dX3_canBeSettled_18 : decode cX3_canBeSettled 18 = .ok (.if_icmp .eq 21, 3) := by decide +kernel
theorem dX3_canBeSettled_21 : decode cX3_canBeSettled 21 = .ok (.aload_n 0, 1) := by decide +kernel
theorem dX3_canBeSettled_22 : decode cX3_canBeSettled 22 = .ok (.iload_n 1, 1) := by decide +kernel
theorem dX3_canBeSettled_23 : decode cX3_canBeSettled 23 = .ok (.iload_n 3, 1) := by decide +kernel
theorem dX3_canBeSettled_24 : decode cX3_canBeSettled 24 = .ok (.invokevirtual 123, 3) := by decide +kernel
theorem dX3_canBeSettled_27 : decode cX3_canBeSettled 27 = .ok (.ifCond .eq 12, 3) := by decide +kernel
theorem dX3_canBeSettled_30 : decode cX3_canBeSettled 30 = .ok (.aload_n 0, 1) := by decide +kernel
theorem dX3_canBeSettled_31 : decode cX3_canBeSettled 31 = .ok (.iload_n 2, 1) := by decide +kernel
theorem dX3_canBeSettled_32 : decode cX3_canBeSettled 32 = .ok (.iload_n 3, 1) := by decide +kernel
theorem dX3_canBeSettled_33 : decode cX3_canBeSettled 33 = .ok (.invokevirtual 123, 3) := by decide +kernel
theorem dX3_canBeSettled_36 : decode cX3_canBeSettled 36 = .ok (.ifCond .ne 5, 3) := by decide +kernel
theorem dX3_canBeSettled_39 : decode cX3_canBeSettled 39 = .ok (.iconst 0, 1) := by decide +kernel
theorem dX3_canBeSettled_40 : decode cX3_canBeSettled 40 = .ok (.ireturn, 1) := by decide +kernel
theorem dX3_canBeSettled_41 : decode cX3_canBeSettled 41 = .ok (.aload_n 0, 1) := by decide +kernel
theorem dX3_canBeSettled_42 : decode cX3_canBeSettled 42 = .ok (.iload_n 1, 1) := by decide +kernel
theorem dX3_canBeSettled_43 : decode cX3_canBeSettled 43 = .ok (.iload_n 3, 1) := by decide +kernel
theorem dX3_canBeSettled_44 : decode cX3_canBeSettled 44 = .ok (.invokevirtual 128, 3) := by decide +kernel
theorem dX3_canBeSettled_47 : decode cX3_canBeSettled 47 = .ok (.istore 4, 2) := by decide +kernel
theorem dX3_canBeSettled_49 : decode cX3_canBeSettled 49 = .ok (.iload 4, 2) := by decide +kernel
theorem dX3_canBeSettled_51 : decode cX3_canBeSettled 51 = .ok (.ifCond .eq 19, 3) := by decide +kernel
theorem dX3_canBeSettled_54 : decode cX3_canBeSettled 54 = .ok (.iload 4, 2) := by decide +kernel
theorem dX3_canBeSettled_56 : decode cX3_canBeSettled 56 = .ok (.aload_n 0, 1) := by decide +kernel
theorem dX3_canBeSettled_57 : decode cX3_canBeSettled 57 = .ok (.iload_n 2, 1) := by decide +kernel
theorem dX3_canBeSettled_58 : decode cX3_canBeSettled 58 = .ok (.iload_n 3, 1) := by decide +kernel
theorem dX3_canBeSettled_59 : decode cX3_canBeSettled 59 = .ok (.invokevirtual 128, 3) := by decide +kernel
theorem dX3_canBeSettled_62 : decode cX3_canBeSettled 62 = .ok (.iadd, 1) := by decide +kernel
theorem dX3_canBeSettled_63 : decode cX3_canBeSettled 63 = .ok (.ifCond .ne 7, 3) := by decide +kernel
theorem dX3_canBeSettled_66 : decode cX3_canBeSettled 66 = .ok (.iconst 1, 1) := by decide +kernel
theorem dX3_canBeSettled_67 : decode cX3_canBeSettled 67 = .ok (.goto 4, 3) := by decide +kernel
theorem dX3_canBeSettled_70 : decode cX3_canBeSettled 70 = .ok (.iconst 0, 1) := by decide +kernel
theorem dX3_canBeSettled_71 : decode cX3_canBeSettled 71 = .ok (.ireturn, 1) := by decide +kernel
theorem dJ6_bitCount_0f7a4_0 : decode cJ6_bitCount_0f7a4 0 = .ok (.iload_n 0, 1) := by decide +kernel
theorem dJ6_bitCount_0f7a4_1 : decode cJ6_bitCount_0f7a4 1 = .ok (.iload_n 0, 1) := by decide +kernel
theorem dJ6_bitCount_0f7a4_2 : decode cJ6_bitCount_0f7a4 2 = .ok (.iconst 1, 1) := by decide +kernel
theorem dJ6_bitCount_0f7a4_3 : decode cJ6_bitCount_0f7a4 3 = .ok (.iushr, 1) := by decide +kernel
theorem dJ6_bitCount_0f7a4_4 : decode cJ6_bitCount_0f7a4 4 = .ok (.ldc_w 265, 3) := by decide +kernel
theorem dJ6_bitCount_0f7a4_7 : decode cJ6_bitCount_0f7a4 7 = .ok (.iand, 1) := by decide +kernel
theorem dJ6_bitCount_0f7a4_8 : decode cJ6_bitCount_0f7a4 8 = .ok (.isub, 1) := by decide +kernel
theorem dJ6_bitCount_0f7a4_9 : decode cJ6_bitCount_0f7a4 9 = .ok (.istore_n 0, 1) := by decide +kernel
theorem dJ6_bitCount_0f7a4_10 : decode cJ6_bitCount_0f7a4 10 = .ok (.iload_n 0, 1) := by decide +kernel
theorem dJ6_bitCount_0f7a4_11 : decode cJ6_bitCount_0f7a4 11 = .ok (.ldc_w 266, 3) := by decide +kernel
theorem dJ6_bitCount_0f7a4_14 : decode cJ6_bitCount_0f7a4 14 = .ok (.iand, 1) := by decide +kernel
theorem dJ6_bitCount_0f7a4_15 : decode cJ6_bitCount_0f7a4 15 = .ok (.iload_n 0, 1) := by decide +kernel
theorem dJ6_bitCount_0f7a4_16 : decode cJ6_bitCount_0f7a4 16 = .ok (.iconst 2, 1) := by decide +kernel
theorem dJ6_bitCount_0f7a4_17 : decode cJ6_bitCount_0f7a4 17 = .ok (.iushr, 1) := by decide +kernel
theorem dJ6_bitCount_0f7a4_18 : decode cJ6_bitCount_0f7a4 18 = .ok (.ldc_w 266, 3) := by decide +kernel
theorem dJ6_bitCount_0f7a4_21 : decode cJ6_bitCount_0f7a4 21 = .ok (.iand, 1) := by decide +kernel
theorem dJ6_bitCount_0f7a4_22 : decode cJ6_bitCount_0f7a4 22 = .ok (.iadd, 1) := by decide +kernel
theorem dJ6_bitCount_0f7a4_23 : decode cJ6_bitCount_0f7a4 23 = .ok (.istore_n 0, 1) := by decide +kernel
theorem dJ6_bitCount_0f7a4_24 : decode cJ6_bitCount_0f7a4 24 = .ok (.iload_n 0, 1) := by decide +kernel
theorem dJ6_bitCount_0f7a4_25 : decode cJ6_bitCount_0f7a4 25 = .ok (.iload_n 0, 1) := by decide +kernel
theorem dJ6_bitCount_0f7a4_26 : decode cJ6_bitCount_0f7a4 26 = .ok (.iconst 4, 1) := by decide +kernel
theorem dJ6_bitCount_0f7a4_27 : decode cJ6_bitCount_0f7a4 27 = .ok (.iushr, 1) := by decide +kernel
theorem dJ6_bitCount_0f7a4_28 : decode cJ6_bitCount_0f7a4 28 = .ok (.iadd, 1) := by decide +kernel
theorem dJ6_bitCount_0f7a4_29 : decode cJ6_bitCount_0f7a4 29 = .ok (.ldc_w 267, 3) := by decide +kernel
theorem dJ6_bitCount_0f7a4_32 : decode cJ6_bitCount_0f7a4 32 = .ok (.iand, 1) := by decide +kernel
theorem dJ6_bitCount_0f7a4_33 : decode cJ6_bitCount_0f7a4 33 = .ok (.istore_n 0, 1) := by decide +kernel
theorem dJ6_bitCount_0f7a4_34 : decode cJ6_bitCount_0f7a4 34 = .ok (.iload_n 0, 1) := by decide +kernel
theorem dJ6_bitCount_0f7a4_35 : decode cJ6_bitCount_0f7a4 35 = .ok (.iload_n 0, 1) := by decide +kernel
theorem dJ6_bitCount_0f7a4_36 : decode cJ6_bitCount_0f7a4 36 = .ok (.bipush 8, 2) := by decide +kernel
theorem dJ6_bitCount_0f7a4_38 : decode cJ6_bitCount_0f7a4 38 = .ok (.iushr, 1) := by decide +kernel
theorem dJ6_bitCount_0f7a4_39 : decode cJ6_bitCount_0f7a4 39 = .ok (.iadd, 1) := by decide +kernel
theorem dJ6_bitCount_0f7a4_40 : decode cJ6_bitCount_0f7a4 40 = .ok (.istore_n 0, 1) := by decide +kernel
theorem dJ6_bitCount_0f7a4_41 : decode cJ6_bitCount_0f7a4 41 = .ok (.iload_n 0, 1) := by decide +kernel
theorem dJ6_bitCount_0f7a4_42 : decode cJ6_bitCount_0f7a4 42 = .ok (.iload_n 0, 1) := by decide +kernel
theorem dJ6_bitCount_0f7a4_43 : decode cJ6_bitCount_0f7a4 43 = .ok (.bipush 16, 2) := by decide +kernel
theorem dJ6_bitCount_0f7a4_45 : decode cJ6_bitCount_0f7a4 45 = .ok (.iushr, 1) := by decide +kernel
theorem dJ6_bitCount_0f7a4_46 : decode cJ6_bitCount_0f7a4 46 = .ok (.iadd, 1) := by decide +kernel
theorem dJ6_bitCount_0f7a4_47 : decode cJ6_bitCount_0f7a4 47 = .ok (.istore_n 0, 1) := by decide +kernel
theorem dJ6_bitCount_0f7a4_48 : decode cJ6_bitCount_0f7a4 48 = .ok (.iload_n 0, 1) := by decide +kernel
theorem dJ6_bitCount_0f7a4_49 : decode cJ6_bitCount_0f7a4 49 = .ok (.bipush 63, 2) := by decide +kernel
theorem dJ6_bitCount_0f7a4_51 : decode cJ6_bitCount_0f7a4 51 = .ok (.iand, 1) := by decide +kernel
theorem dJ6_bitCount_0f7a4_52 : decode cJ6_bitCount_0f7a4 52 = .ok (.ireturn, 1) := by decide +kernel
theorem dJ9_abs_0f7a4_0 : decode cJ9_abs_0f7a4 0 = .ok (.iload_n 0, 1) := by decide +kernel
theorem dJ9_abs_0f7a4_1 : decode cJ9_abs_0f7a4 1 = .ok (.ifCond .ge 8, 3) := by decide +kernel
theorem dJ9_abs_0f7a4_4 : decode cJ9_abs_0f7a4 4 = .ok (.iload_n 0, 1) := by decide +kernel
theorem dJ9_abs_0f7a4_5 : decode cJ9_abs_0f7a4 5 = .ok (.ineg, 1) := by decide +kernel
theorem dJ9_abs_0f7a4_6 : decode cJ9_abs_0f7a4 6 = .ok (.goto 4, 3) := by decide +kernel
theorem dJ9_abs_0f7a4_9 : decode cJ9_abs_0f7a4 9 = .ok (.iload_n 0, 1) := by decide +kernel
theorem dJ9_abs_0f7a4_10 : decode cJ9_abs_0f7a4 10 = .ok (.ireturn, 1) := by decide +kernel
theorem dJ9_max_7cf53_0 : decode cJ9_max_7cf53 0 = .ok (.iload_n 0, 1) := by decide +kernel
theorem dJ9_max_7cf53_1 : decode cJ9_max_7cf53 1 = .ok (.iload_n 1, 1) := by decide +kernel
theorem dJ9_max_7cf53_2 : decode cJ9_max_7cf53 2 = .ok (.if_icmp .lt 7, 3) := by decide +kernel
theorem dJ9_max_7cf53_5 : decode cJ9_max_7cf53 5 = .ok (.iload_n 0, 1) := by decide +kernel
theorem dJ9_max_7cf53_6 : decode cJ9_max_7cf53 6 = .ok (.goto 4, 3) := by decide +kernel
theorem dJ9_max_7cf53_9 : decode cJ9_max_7cf53 9 = .ok (.iload_n 1, 1) := by decide +kernel
theorem dJ9_max_7cf53_10 : decode cJ9_max_7cf53 10 = .ok (.ireturn, 1) := by decide +kernel
theorem dJ9_min_7cf53_0 : decode cJ9_min_7cf53 0 = .ok (.iload_n 0, 1) := by decide +kernel
theorem dJ9_min_7cf53_1 : decode cJ9_min_7cf53 1 = .ok (.iload_n 1, 1) := by decide +kernel
theorem dJ9_min_7cf53_2 : decode cJ9_min_7cf53 2 = .ok (.if_icmp .gt 7, 3) := by decide +kernel
theorem dJ9_min_7cf53_5 : decode cJ9_min_7cf53 5 = .ok (.iload_n 0, 1) := by decide +kernel
theorem dJ9_min_7cf53_6 : decode cJ9_min_7cf53 6 = .ok (.goto 4, 3) := by decide +kernel
theorem dJ9_min_7cf53_9 : decode cJ9_min_7cf53 9 = .ok (.iload_n 1, 1) := by decide +kernel
theorem dJ9_min_7cf53_10 : decode cJ9_min_7cf53 10 = .ok (.ireturn, 1) := by decide +kernel
theorem dJ7_fill_53178_0 : decode cJ7_fill_53178 0 = .ok (.iconst 0, 1) := by decide +kernel
theorem dJ7_fill_53178_1 : decode cJ7_fill_53178 1 = .ok (.istore_n 2, 1) := by decide +kernel
theorem dJ7_fill_53178_2 : decode cJ7_fill_53178 2 = .ok (.aload_n 0, 1) := by decide +kernel
theorem dJ7_fill_53178_3 : decode cJ7_fill_53178 3 = .ok (.arraylength, 1) := by decide +kernel
theorem dJ7_fill_53178_4 : decode cJ7_fill_53178 4 = .ok (.istore_n 3, 1) := by decide +kernel
theorem dJ7_fill_53178_5 : decode cJ7_fill_53178 5 = .ok (.iload_n 2, 1) := by decide +kernel
theorem dJ7_fill_53178_6 : decode cJ7_fill_53178 6 = .ok (.iload_n 3, 1) := by decide +kernel
theorem dJ7_fill_53178_7 : decode cJ7_fill_53178 7 = .ok (.if_icmp .ge 13, 3) := by decide +kernel
theorem dJ7_fill_53178_10 : decode cJ7_fill_53178 10 = .ok (.aload_n 0, 1) := by decide +kernel
theorem dJ7_fill_53178_11 : decode cJ7_fill_53178 11 = .ok (.iload_n 2, 1) := by decide +kernel
theorem dJ7_fill_53178_12 : decode cJ7_fill_53178 12 = .ok (.iload_n 1, 1) := by decide +kernel
theorem dJ7_fill_53178_13 : decode cJ7_fill_53178 13 = .ok (.iastore, 1) := by decide +kernel
theorem dJ7_fill_53178_14 : decode cJ7_fill_53178 14 = .ok (.iinc 2 1, 3) := by decide +kernel
theorem dJ7_fill_53178_17 : decode cJ7_fill_53178 17 = .ok (.goto (-12), 3) := by decide +kernel
theorem dJ7_fill_53178_20 : decode cJ7_fill_53178 20 = .ok (.return_, 1) := by decide +kernel
