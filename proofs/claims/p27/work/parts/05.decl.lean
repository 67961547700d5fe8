theorem dL_at_0 : decode cL_at 0 = .ok (.iload_n 1, 1) := by decide +kernel
theorem dL_at_1 : decode cL_at 1 = .ok (.aload_n 0, 1) := by decide +kernel
theorem dL_at_2 : decode cL_at 2 = .ok (.arraylength, 1) := by decide +kernel
theorem dL_at_3 : decode cL_at 3 = .ok (.if_icmp .ge 9, 3) := by decide +kernel
theorem dL_at_6 : decode cL_at 6 = .ok (.aload_n 0, 1) := by decide +kernel
theorem dL_at_7 : decode cL_at 7 = .ok (.iload_n 1, 1) := by decide +kernel
theorem dL_at_8 : decode cL_at 8 = .ok (.iaload, 1) := by decide +kernel
theorem dL_at_9 : decode cL_at 9 = .ok (.goto 12, 3) := by decide +kernel
theorem dL_at_12 : decode cL_at 12 = .ok (.ldc 7, 2) := by decide +kernel
theorem dL_at_14 : decode cL_at 14 = .ok (.iload_n 1, 1) := by decide +kernel
theorem dL_at_15 : decode cL_at 15 = .ok (.iconst 1, 1) := by decide +kernel
theorem dL_at_16 : decode cL_at 16 = .ok (.iadd, 1) := by decide +kernel
theorem dL_at_17 : decode cL_at 17 = .ok (.imul, 1) := by decide +kernel
theorem dL_at_18 : decode cL_at 18 = .ok (.ldc 8, 2) := by decide +kernel
theorem dL_at_20 : decode cL_at 20 = .ok (.iadd, 1) := by decide +kernel
theorem dL_at_21 : decode cL_at 21 = .ok (.ireturn, 1) := by decide +kernel
theorem dL_low_0 : decode cL_low 0 = .ok (.iload_n 0, 1) := by decide +kernel
theorem dL_low_1 : decode cL_low 1 = .ok (.ldc 9, 2) := by decide +kernel
theorem dL_low_3 : decode cL_low 3 = .ok (.iand, 1) := by decide +kernel
theorem dL_low_4 : decode cL_low 4 = .ok (.iload_n 1, 1) := by decide +kernel
theorem dL_low_5 : decode cL_low 5 = .ok (.irem, 1) := by decide +kernel
theorem dL_low_6 : decode cL_low 6 = .ok (.ireturn, 1) := by decide +kernel
theorem dL_setPrice_0 : decode cL_setPrice 0 = .ok (.aload_n 0, 1) := by decide +kernel
theorem dL_setPrice_1 : decode cL_setPrice 1 = .ok (.iload_n 1, 1) := by decide +kernel
theorem dL_setPrice_2 : decode cL_setPrice 2 = .ok (.iload_n 2, 1) := by decide +kernel
theorem dL_setPrice_3 : decode cL_setPrice 3 = .ok (.invokevirtual 10, 3) := by decide +kernel
theorem dL_setPrice_6 : decode cL_setPrice 6 = .ok (.ireturn, 1) := by decide +kernel
theorem dL_setPrice_7 : decode cL_setPrice 7 = .ok (.astore_n 3, 1) := by decide +kernel
theorem dL_setPrice_8 : decode cL_setPrice 8 = .ok (.ldc 18, 2) := by decide +kernel
theorem dL_setPrice_10 : decode cL_setPrice 10 = .ok (.ireturn, 1) := by decide +kernel
theorem dL_setPrice_11 : decode cL_setPrice 11 = .ok (.astore_n 3, 1) := by decide +kernel
theorem dL_setPrice_12 : decode cL_setPrice 12 = .ok (.ldc 21, 2) := by decide +kernel
theorem dL_setPrice_14 : decode cL_setPrice 14 = .ok (.ireturn, 1) := by decide +kernel
theorem dL_setBound_0 : decode cL_setBound 0 = .ok (.aload_n 0, 1) := by decide +kernel
theorem dL_setBound_1 : decode cL_setBound 1 = .ok (.iload_n 1, 1) := by decide +kernel
theorem dL_setBound_2 : decode cL_setBound 2 = .ok (.iload_n 2, 1) := by decide +kernel
theorem dL_setBound_3 : decode cL_setBound 3 = .ok (.invokevirtual 22, 3) := by decide +kernel
theorem dL_setBound_6 : decode cL_setBound 6 = .ok (.ireturn, 1) := by decide +kernel
theorem dL_setBound_7 : decode cL_setBound 7 = .ok (.astore_n 3, 1) := by decide +kernel
theorem dL_setBound_8 : decode cL_setBound 8 = .ok (.ldc 18, 2) := by decide +kernel
theorem dL_setBound_10 : decode cL_setBound 10 = .ok (.ireturn, 1) := by decide +kernel
theorem dL_setBound_11 : decode cL_setBound 11 = .ok (.astore_n 3, 1) := by decide +kernel
theorem dL_setBound_12 : decode cL_setBound 12 = .ok (.ldc 21, 2) := by decide +kernel
theorem dL_setBound_14 : decode cL_setBound 14 = .ok (.ireturn, 1) := by decide +kernel
theorem dL_move_0 : decode cL_move 0 = .ok (.aload_n 0, 1) := by decide +kernel
theorem dL_move_1 : decode cL_move 1 = .ok (.iload_n 1, 1) := by decide +kernel
theorem dL_move_2 : decode cL_move 2 = .ok (.iload_n 2, 1) := by decide +kernel
theorem dL_move_3 : decode cL_move 3 = .ok (.iload_n 3, 1) := by decide +kernel
theorem dL_move_4 : decode cL_move 4 = .ok (.iload 4, 2) := by decide +kernel
theorem dL_move_6 : decode cL_move 6 = .ok (.iload 5, 2) := by decide +kernel
theorem dL_move_8 : decode cL_move 8 = .ok (.invokevirtual 25, 3) := by decide +kernel
theorem dL_move_11 : decode cL_move 11 = .ok (.ireturn, 1) := by decide +kernel
theorem dL_move_12 : decode cL_move 12 = .ok (.astore 6, 2) := by decide +kernel
theorem dL_move_14 : decode cL_move 14 = .ok (.ldc 18, 2) := by decide +kernel
theorem dL_move_16 : decode cL_move 16 = .ok (.ireturn, 1) := by decide +kernel
theorem dL_move_17 : decode cL_move 17 = .ok (.astore 6, 2) := by decide +kernel
theorem dL_move_19 : decode cL_move 19 = .ok (.ldc 21, 2) := by decide +kernel
theorem dL_move_21 : decode cL_move 21 = .ok (.ireturn, 1) := by decide +kernel
theorem dL_move_22 : decode cL_move 22 = .ok (.astore 6, 2) := by decide +kernel
theorem dL_move_24 : decode cL_move 24 = .ok (.ldc 31, 2) := by decide +kernel
theorem dL_move_26 : decode cL_move 26 = .ok (.ireturn, 1) := by decide +kernel
theorem dL_pass_0 : decode cL_pass 0 = .ok (.aload_n 0, 1) := by decide +kernel
theorem dL_pass_1 : decode cL_pass 1 = .ok (.iload_n 1, 1) := by decide +kernel
theorem dL_pass_2 : decode cL_pass 2 = .ok (.invokevirtual 32, 3) := by decide +kernel
theorem dL_pass_5 : decode cL_pass 5 = .ok (.ireturn, 1) := by decide +kernel
theorem dL_pass_6 : decode cL_pass 6 = .ok (.astore_n 2, 1) := by decide +kernel
theorem dL_pass_7 : decode cL_pass 7 = .ok (.ldc 21, 2) := by decide +kernel
theorem dL_pass_9 : decode cL_pass 9 = .ok (.ireturn, 1) := by decide +kernel
theorem dL_open_0 : decode cL_open 0 = .ok (.aload_n 0, 1) := by decide +kernel
theorem dL_open_1 : decode cL_open 1 = .ok (.iload_n 1, 1) := by decide +kernel
theorem dL_open_2 : decode cL_open 2 = .ok (.invokevirtual 36, 3) := by decide +kernel
theorem dL_open_5 : decode cL_open 5 = .ok (.ireturn, 1) := by decide +kernel
theorem dL_open_6 : decode cL_open 6 = .ok (.astore_n 2, 1) := by decide +kernel
theorem dL_open_7 : decode cL_open 7 = .ok (.ldc 18, 2) := by decide +kernel
theorem dL_open_9 : decode cL_open 9 = .ok (.ireturn, 1) := by decide +kernel
theorem dL_open_10 : decode cL_open 10 = .ok (.astore_n 2, 1) := by decide +kernel
theorem dL_open_11 : decode cL_open 11 = .ok (.ldc 31, 2) := by decide +kernel
theorem dL_open_13 : decode cL_open 13 = .ok (.ireturn, 1) := by decide +kernel
theorem dL_count_0 : decode cL_count 0 = .ok (.aload_n 0, 1) := by decide +kernel
theorem dL_count_1 : decode cL_count 1 = .ok (.iload_n 1, 1) := by decide +kernel
theorem dL_count_2 : decode cL_count 2 = .ok (.iload_n 2, 1) := by decide +kernel
theorem dL_count_3 : decode cL_count 3 = .ok (.iload_n 3, 1) := by decide +kernel
theorem dL_count_4 : decode cL_count 4 = .ok (.iload 4, 2) := by decide +kernel
theorem dL_count_6 : decode cL_count 6 = .ok (.invokevirtual 39, 3) := by decide +kernel
theorem dL_count_9 : decode cL_count 9 = .ok (.ifCond .eq 7, 3) := by decide +kernel
theorem dL_count_12 : decode cL_count 12 = .ok (.iconst 1, 1) := by decide +kernel
theorem dL_count_13 : decode cL_count 13 = .ok (.goto 4, 3) := by decide +kernel
theorem dL_count_16 : decode cL_count 16 = .ok (.iconst 0, 1) := by decide +kernel
theorem dL_count_17 : decode cL_count 17 = .ok (.ireturn, 1) := by decide +kernel
theorem dL_count_18 : decode cL_count 18 = .ok (.astore 5, 2) := by decide +kernel
theorem dL_count_20 : decode cL_count 20 = .ok (.ldc 18, 2) := by decide +kernel
theorem dL_count_22 : decode cL_count 22 = .ok (.ireturn, 1) := by decide +kernel
theorem dL_count_23 : decode cL_count 23 = .ok (.astore 5, 2) := by decide +kernel
theorem dL_count_25 : decode cL_count 25 = .ok (.ldc 21, 2) := by decide +kernel
theorem dL_count_27 : decode cL_count 27 = .ok (.ireturn, 1) := by decide +kernel
theorem dL_count_28 : decode cL_count 28 = .ok (.astore 5, 2) := by decide +kernel
theorem dL_count_30 : decode cL_count 30 = .ok (.ldc 31, 2) := by decide +kernel
theorem dL_count_32 : decode cL_count 32 = .ok (.ireturn, 1) := by decide +kernel
theorem dL_close_0 : decode cL_close 0 = .ok (.aload_n 0, 1) := by decide +kernel
theorem dL_close_1 : decode cL_close 1 = .ok (.iload_n 1, 1) := by decide +kernel
theorem dL_close_2 : decode cL_close 2 = .ok (.invokevirtual 43, 3) := by decide +kernel
theorem dL_close_5 : decode cL_close 5 = .ok (.ireturn, 1) := by decide +kernel
theorem dL_close_6 : decode cL_close 6 = .ok (.astore_n 2, 1) := by decide +kernel
theorem dL_close_7 : decode cL_close 7 = .ok (.ldc 18, 2) := by decide +kernel
theorem dL_close_9 : decode cL_close 9 = .ok (.ireturn, 1) := by decide +kernel
theorem dL_close_10 : decode cL_close 10 = .ok (.astore_n 2, 1) := by decide +kernel
theorem dL_close_11 : decode cL_close 11 = .ok (.ldc 31, 2) := by decide +kernel
theorem dL_close_13 : decode cL_close 13 = .ok (.ireturn, 1) := by decide +kernel
theorem dL_sign_0 : decode cL_sign 0 = .ok (.aload_n 0, 1) := by decide +kernel
theorem dL_sign_1 : decode cL_sign 1 = .ok (.iload_n 1, 1) := by decide +kernel
theorem dL_sign_2 : decode cL_sign 2 = .ok (.iload_n 2, 1) := by decide +kernel
theorem dL_sign_3 : decode cL_sign 3 = .ok (.iload_n 3, 1) := by decide +kernel
theorem dL_sign_4 : decode cL_sign 4 = .ok (.invokevirtual 46, 3) := by decide +kernel
theorem dL_sign_7 : decode cL_sign 7 = .ok (.ireturn, 1) := by decide +kernel
theorem dL_sign_8 : decode cL_sign 8 = .ok (.astore 4, 2) := by decide +kernel
theorem dL_sign_10 : decode cL_sign 10 = .ok (.ldc 18, 2) := by decide +kernel
theorem dL_sign_12 : decode cL_sign 12 = .ok (.ireturn, 1) := by decide +kernel
theorem dL_sign_13 : decode cL_sign 13 = .ok (.astore 4, 2) := by decide +kernel
theorem dL_sign_15 : decode cL_sign 15 = .ok (.ldc 21, 2) := by decide +kernel
theorem dL_sign_17 : decode cL_sign 17 = .ok (.ireturn, 1) := by decide +kernel
theorem dL_sign_18 : decode cL_sign 18 = .ok (.astore 4, 2) := by decide +kernel
theorem dL_sign_20 : decode cL_sign 20 = .ok (.ldc 31, 2) := by decide +kernel
theorem dL_sign_22 : decode cL_sign 22 = .ok (.ireturn, 1) := by decide +kernel
theorem dL_settle_0 : decode cL_settle 0 = .ok (.aload_n 0, 1) := by decide +kernel
theorem dL_settle_1 : decode cL_settle 1 = .ok (.iload_n 1, 1) := by decide +kernel
theorem dL_settle_2 : decode cL_settle 2 = .ok (.iload_n 2, 1) := by decide +kernel
theorem dL_settle_3 : decode cL_settle 3 = .ok (.iload_n 3, 1) := by decide +kernel
theorem dL_settle_4 : decode cL_settle 4 = .ok (.invokevirtual 52, 3) := by decide +kernel
theorem dL_settle_7 : decode cL_settle 7 = .ok (.ireturn, 1) := by decide +kernel
theorem dL_settle_8 : decode cL_settle 8 = .ok (.astore 4, 2) := by decide +kernel
theorem dL_settle_10 : decode cL_settle 10 = .ok (.ldc 18, 2) := by decide +kernel
theorem dL_settle_12 : decode cL_settle 12 = .ok (.ireturn, 1) := by decide +kernel
theorem dL_settle_13 : decode cL_settle 13 = .ok (.astore 4, 2) := by decide +kernel
theorem dL_settle_15 : decode cL_settle 15 = .ok (.ldc 21, 2) := by decide +kernel
theorem dL_settle_17 : decode cL_settle 17 = .ok (.ireturn, 1) := by decide +kernel
theorem dL_settle_18 : decode cL_settle 18 = .ok (.astore 4, 2) := by decide +kernel
theorem dL_settle_20 : decode cL_settle 20 = .ok (.ldc 31, 2) := by decide +kernel
theorem dL_settle_22 : decode cL_settle 22 = .ok (.ireturn, 1) := by decide +kernel
theorem dL_book_0 : decode cL_book 0 = .ok (.aload_n 0, 1) := by decide +kernel
theorem dL_book_1 : decode cL_book 1 = .ok (.iload_n 1, 1) := by decide +kernel
theorem dL_book_2 : decode cL_book 2 = .ok (.iload_n 2, 1) := by decide +kernel
theorem dL_book_3 : decode cL_book 3 = .ok (.invokevirtual 55, 3) := by decide +kernel
theorem dL_book_6 : decode cL_book 6 = .ok (.ireturn, 1) := by decide +kernel
theorem dL_book_7 : decode cL_book 7 = .ok (.astore_n 3, 1) := by decide +kernel
theorem dL_book_8 : decode cL_book 8 = .ok (.ldc 18, 2) := by decide +kernel
theorem dL_book_10 : decode cL_book 10 = .ok (.ireturn, 1) := by decide +kernel
theorem dL_bookAt_0 : decode cL_bookAt 0 = .ok (.aload_n 0, 1) := by decide +kernel
theorem dL_bookAt_1 : decode cL_bookAt 1 = .ok (.iload_n 1, 1) := by decide +kernel
theorem dL_bookAt_2 : decode cL_bookAt 2 = .ok (.iload_n 2, 1) := by decide +kernel
theorem dL_bookAt_3 : decode cL_bookAt 3 = .ok (.iload_n 3, 1) := by decide +kernel
theorem dL_bookAt_4 : decode cL_bookAt 4 = .ok (.invokevirtual 58, 3) := by decide +kernel
theorem dL_bookAt_7 : decode cL_bookAt 7 = .ok (.ireturn, 1) := by decide +kernel
theorem dL_bookAt_8 : decode cL_bookAt 8 = .ok (.astore 4, 2) := by decide +kernel
theorem dL_bookAt_10 : decode cL_bookAt 10 = .ok (.ldc 18, 2) := by decide +kernel
theorem dL_bookAt_12 : decode cL_bookAt 12 = .ok (.ireturn, 1) := by decide +kernel
theorem dL_bookAt_13 : decode cL_bookAt 13 = .ok (.astore 4, 2) := by decide +kernel
theorem dL_bookAt_15 : decode cL_bookAt 15 = .ok (.ldc 21, 2) := by decide +kernel
theorem dL_bookAt_17 : decode cL_bookAt 17 = .ok (.ireturn, 1) := by decide +kernel
theorem dL_worth_0 : decode cL_worth 0 = .ok (.aload_n 0, 1) := by decide +kernel
theorem dL_worth_1 : decode cL_worth 1 = .ok (.iload_n 1, 1) := by decide +kernel
theorem dL_worth_2 : decode cL_worth 2 = .ok (.invokevirtual 61, 3) := by decide +kernel
theorem dL_worth_5 : decode cL_worth 5 = .ok (.ireturn, 1) := by decide +kernel
theorem dL_worth_6 : decode cL_worth 6 = .ok (.astore_n 2, 1) := by decide +kernel
theorem dL_worth_7 : decode cL_worth 7 = .ok (.ldc 18, 2) := by decide +kernel
theorem dL_worth_9 : decode cL_worth 9 = .ok (.ireturn, 1) := by decide +kernel
theorem dL_stateOf_0 : decode cL_stateOf 0 = .ok (.aload_n 0, 1) := by decide +kernel
theorem dL_stateOf_1 : decode cL_stateOf 1 = .ok (.iload_n 1, 1) := by decide +kernel
theorem dL_stateOf_2 : decode cL_stateOf 2 = .ok (.invokevirtual 64, 3) := by decide +kernel
theorem dL_stateOf_5 : decode cL_stateOf 5 = .ok (.ireturn, 1) := by decide +kernel
theorem dL_stateOf_6 : decode cL_stateOf 6 = .ok (.astore_n 2, 1) := by decide +kernel
theorem dL_stateOf_7 : decode cL_stateOf 7 = .ok (.ldc 18, 2) := by decide +kernel
theorem dL_stateOf_9 : decode cL_stateOf 9 = .ok (.ireturn, 1) := by decide +kernel
theorem dL_cutOf_0 : decode cL_cutOf 0 = .ok (.aload_n 0, 1) := by decide +kernel
theorem dL_cutOf_1 : decode cL_cutOf 1 = .ok (.iload_n 1, 1) := by decide +kernel
theorem dL_cutOf_2 : decode cL_cutOf 2 = .ok (.invokevirtual 67, 3) := by decide +kernel
theorem dL_cutOf_5 : decode cL_cutOf 5 = .ok (.ireturn, 1) := by decide +kernel
theorem dL_cutOf_6 : decode cL_cutOf 6 = .ok (.astore_n 2, 1) := by decide +kernel
theorem dL_cutOf_7 : decode cL_cutOf 7 = .ok (.ldc 18, 2) := by decide +kernel
theorem dL_cutOf_9 : decode cL_cutOf 9 = .ok (.ireturn, 1) := by decide +kernel
theorem dL_counts_0 : decode cL_counts 0 = .ok (.aload_n 0, 1) := by decide +kernel
theorem dL_counts_1 : decode cL_counts 1 = .ok (.iload_n 1, 1) := by decide +kernel
theorem dL_counts_2 : decode cL_counts 2 = .ok (.iload_n 2, 1) := by decide +kernel
theorem dL_counts_3 : decode cL_counts 3 = .ok (.invokevirtual 70, 3) := by decide +kernel
theorem dL_counts_6 : decode cL_counts 6 = .ok (.ireturn, 1) := by decide +kernel
theorem dL_counts_7 : decode cL_counts 7 = .ok (.astore_n 3, 1) := by decide +kernel
theorem dL_counts_8 : decode cL_counts 8 = .ok (.ldc 18, 2) := by decide +kernel
theorem dL_counts_10 : decode cL_counts 10 = .ok (.ireturn, 1) := by decide +kernel
theorem dL_agreed_0 : decode cL_agreed 0 = .ok (.aload_n 0, 1) := by decide +kernel
theorem dL_agreed_1 : decode cL_agreed 1 = .ok (.iload_n 1, 1) := by decide +kernel
theorem dL_agreed_2 : decode cL_agreed 2 = .ok (.iload_n 2, 1) := by decide +kernel
theorem dL_agreed_3 : decode cL_agreed 3 = .ok (.invokevirtual 73, 3) := by decide +kernel
theorem dL_agreed_6 : decode cL_agreed 6 = .ok (.ireturn, 1) := by decide +kernel
theorem dL_agreed_7 : decode cL_agreed 7 = .ok (.astore_n 3, 1) := by decide +kernel
theorem dL_agreed_8 : decode cL_agreed 8 = .ok (.ldc 18, 2) := by decide +kernel
theorem dL_agreed_10 : decode cL_agreed 10 = .ok (.ireturn, 1) := by decide +kernel
theorem dL_gap_0 : decode cL_gap 0 = .ok (.aload_n 0, 1) := by decide +kernel
theorem dL_gap_1 : decode cL_gap 1 = .ok (.iload_n 1, 1) := by decide +kernel
theorem dL_gap_2 : decode cL_gap 2 = .ok (.iload_n 2, 1) := by decide +kernel
theorem dL_gap_3 : decode cL_gap 3 = .ok (.invokevirtual 76, 3) := by decide +kernel
theorem dL_gap_6 : decode cL_gap 6 = .ok (.ireturn, 1) := by decide +kernel
theorem dL_gap_7 : decode cL_gap 7 = .ok (.astore_n 3, 1) := by decide +kernel
theorem dL_gap_8 : decode cL_gap 8 = .ok (.ldc 18, 2) := by decide +kernel
theorem dL_gap_10 : decode cL_gap 10 = .ok (.ireturn, 1) := by decide +kernel
theorem dL_gap_11 : decode cL_gap 11 = .ok (.astore_n 3, 1) := by decide +kernel
theorem dL_gap_12 : decode cL_gap 12 = .ok (.ldc 21, 2) := by decide +kernel
theorem dL_gap_14 : decode cL_gap 14 = .ok (.ireturn, 1) := by decide +kernel
theorem dL_isSigned_0 : decode cL_isSigned 0 = .ok (.aload_n 0, 1) := by decide +kernel
theorem dL_isSigned_1 : decode cL_isSigned 1 = .ok (.iload_n 1, 1) := by decide +kernel
theorem dL_isSigned_2 : decode cL_isSigned 2 = .ok (.iload_n 2, 1) := by decide +kernel
theorem dL_isSigned_3 : decode cL_isSigned 3 = .ok (.invokevirtual 79, 3) := by decide +kernel
theorem dL_isSigned_6 : decode cL_isSigned 6 = .ok (.ifCond .eq 7, 3) := by decide +kernel
theorem dL_isSigned_9 : decode cL_isSigned 9 = .ok (.iconst 1, 1) := by decide +kernel
theorem dL_isSigned_10 : decode cL_isSigned 10 = .ok (.goto 4, 3) := by decide +kernel
theorem dL_isSigned_13 : decode cL_isSigned 13 = .ok (.iconst 0, 1) := by decide +kernel
theorem dL_isSigned_14 : decode cL_isSigned 14 = .ok (.ireturn, 1) := by decide +kernel
theorem dL_isSigned_15 : decode cL_isSigned 15 = .ok (.astore_n 3, 1) := by decide +kernel
theorem dL_isSigned_16 : decode cL_isSigned 16 = .ok (.ldc 18, 2) := by decide +kernel
theorem dL_isSigned_18 : decode cL_isSigned 18 = .ok (.ireturn, 1) := by decide +kernel
theorem dL_likely_0 : decode cL_likely 0 = .ok (.aload_n 0, 1) := by decide +kernel
theorem dL_likely_1 : decode cL_likely 1 = .ok (.iload_n 1, 1) := by decide +kernel
theorem dL_likely_2 : decode cL_likely 2 = .ok (.iload_n 2, 1) := by decide +kernel
theorem dL_likely_3 : decode cL_likely 3 = .ok (.invokevirtual 83, 3) := by decide +kernel
theorem dL_likely_6 : decode cL_likely 6 = .ok (.ireturn, 1) := by decide +kernel
theorem dL_likely_7 : decode cL_likely 7 = .ok (.astore_n 3, 1) := by decide +kernel
theorem dL_likely_8 : decode cL_likely 8 = .ok (.ldc 18, 2) := by decide +kernel
theorem dL_likely_10 : decode cL_likely 10 = .ok (.ireturn, 1) := by decide +kernel
theorem dL_exact_0 : decode cL_exact 0 = .ok (.aload_n 0, 1) := by decide +kernel
theorem dL_exact_1 : decode cL_exact 1 = .ok (.iload_n 1, 1) := by decide +kernel
theorem dL_exact_2 : decode cL_exact 2 = .ok (.invokevirtual 86, 3) := by decide +kernel
theorem dL_exact_5 : decode cL_exact 5 = .ok (.ireturn, 1) := by decide +kernel
theorem dL_exact_6 : decode cL_exact 6 = .ok (.astore_n 2, 1) := by decide +kernel
theorem dL_exact_7 : decode cL_exact 7 = .ok (.ldc 18, 2) := by decide +kernel
theorem dL_exact_9 : decode cL_exact 9 = .ok (.ireturn, 1) := by decide +kernel
theorem dL_size_0 : decode cL_size 0 = .ok (.iload_n 0, 1) := by decide +kernel
theorem dL_size_1 : decode cL_size 1 = .ok (.ifCond .ge 8, 3) := by decide +kernel
theorem dL_size_4 : decode cL_size 4 = .ok (.iload_n 0, 1) := by decide +kernel
theorem dL_size_5 : decode cL_size 5 = .ok (.ineg, 1) := by decide +kernel
theorem dL_size_6 : decode cL_size 6 = .ok (.goto 4, 3) := by decide +kernel
theorem dL_size_9 : decode cL_size 9 = .ok (.iload_n 0, 1) := by decide +kernel
theorem dL_size_10 : decode cL_size 10 = .ok (.ireturn, 1) := by decide +kernel
theorem dL_print_0 : decode cL_print 0 = .ok (.aload_n 0, 1) := by decide +kernel
theorem dL_print_1 : decode cL_print 1 = .ok (.invokevirtual 89, 3) := by decide +kernel
theorem dL_print_4 : decode cL_print 4 = .ok (.i2l, 1) := by decide +kernel
theorem dL_print_5 : decode cL_print 5 = .ok (.lstore_n 1, 1) := by decide +kernel
theorem dL_print_6 : decode cL_print 6 = .ok (.iconst 0, 1) := by decide +kernel
theorem dL_print_7 : decode cL_print 7 = .ok (.istore_n 3, 1) := by decide +kernel
theorem dL_print_8 : decode cL_print 8 = .ok (.iload_n 3, 1) := by decide +kernel
theorem dL_print_9 : decode cL_print 9 = .ok (.bipush 60, 2) := by decide +kernel
theorem dL_print_11 : decode cL_print 11 = .ok (.if_icmp .ge 27, 3) := by decide +kernel
theorem dL_print_14 : decode cL_print 14 = .ok (.ldc2_w 93, 3) := by decide +kernel
theorem dL_print_17 : decode cL_print 17 = .ok (.lload_n 1, 1) := by decide +kernel
theorem dL_print_18 : decode cL_print 18 = .ok (.lmul, 1) := by decide +kernel
theorem dL_print_19 : decode cL_print 19 = .ok (.aload_n 0, 1) := by decide +kernel
theorem dL_print_20 : decode cL_print 20 = .ok (.iload_n 3, 1) := by decide +kernel
theorem dL_print_21 : decode cL_print 21 = .ok (.iconst 5, 1) := by decide +kernel
theorem dL_print_22 : decode cL_print 22 = .ok (.idiv, 1) := by decide +kernel
theorem dL_print_23 : decode cL_print 23 = .ok (.iload_n 3, 1) := by decide +kernel
theorem dL_print_24 : decode cL_print 24 = .ok (.iconst 5, 1) := by decide +kernel
theorem dL_print_25 : decode cL_print 25 = .ok (.irem, 1) := by decide +kernel
theorem dL_print_26 : decode cL_print 26 = .ok (.invokestatic 95, 3) := by decide +kernel
theorem dL_print_29 : decode cL_print 29 = .ok (.i2l, 1) := by decide +kernel
theorem dL_print_30 : decode cL_print 30 = .ok (.ladd, 1) := by decide +kernel
theorem dL_print_31 : decode cL_print 31 = .ok (.lstore_n 1, 1) := by decide +kernel
theorem dL_print_32 : decode cL_print 32 = .ok (.iinc 3 1, 3) := by decide +kernel
theorem dL_print_35 : decode cL_print 35 = .ok (.goto (-27), 3) := by decide +kernel
theorem dL_print_38 : decode cL_print 38 = .ok (.lload_n 1, 1) := by decide +kernel
theorem dL_print_39 : decode cL_print 39 = .ok (.lreturn, 1) := by decide +kernel
theorem dL_places_0 : decode cL_places 0 = .ok (.iconst (-1), 1) := by decide +kernel
theorem dL_places_1 : decode cL_places 1 = .ok (.istore 4, 2) := by decide +kernel
theorem dL_places_3 : decode cL_places 3 = .ok (.ldc2_w 100, 3) := by decide +kernel
theorem dL_places_6 : decode cL_places 6 = .ok (.lstore 5, 2) := by decide +kernel
theorem dL_places_8 : decode cL_places 8 = .ok (.iconst 0, 1) := by decide +kernel
theorem dL_places_9 : decode cL_places 9 = .ok (.istore 7, 2) := by decide +kernel
theorem dL_places_11 : decode cL_places 11 = .ok (.iload 7, 2) := by decide +kernel
theorem dL_places_13 : decode cL_places 13 = .ok (.bipush 12, 2) := by decide +kernel
theorem dL_places_15 : decode cL_places 15 = .ok (.if_icmp .ge 200, 3) := by decide +kernel
theorem dL_places_18 : decode cL_places 18 = .ok (.iconst 0, 1) := by decide +kernel
theorem dL_places_19 : decode cL_places 19 = .ok (.istore 8, 2) := by decide +kernel
theorem dL_places_21 : decode cL_places 21 = .ok (.iconst 0, 1) := by decide +kernel
theorem dL_places_22 : decode cL_places 22 = .ok (.istore 9, 2) := by decide +kernel
theorem dL_places_24 : decode cL_places 24 = .ok (.iload 9, 2) := by decide +kernel
theorem dL_places_26 : decode cL_places 26 = .ok (.iconst 5, 1) := by decide +kernel
theorem dL_places_27 : decode cL_places 27 = .ok (.if_icmp .ge 58, 3) := by decide +kernel
theorem dL_places_30 : decode cL_places 30 = .ok (.aload_n 0, 1) := by decide +kernel
theorem dL_places_31 : decode cL_places 31 = .ok (.iload 7, 2) := by decide +kernel
theorem dL_places_33 : decode cL_places 33 = .ok (.iload 9, 2) := by decide +kernel
theorem dL_places_35 : decode cL_places 35 = .ok (.invokestatic 95, 3) := by decide +kernel
theorem dL_places_38 : decode cL_places 38 = .ok (.istore 10, 2) := by decide +kernel
theorem dL_places_40 : decode cL_places 40 = .ok (.iload 8, 2) := by decide +kernel
theorem dL_places_42 : decode cL_places 42 = .ok (.iload 10, 2) := by decide +kernel
theorem dL_places_44 : decode cL_places 44 = .ok (.ifCond .le 13, 3) := by decide +kernel
theorem dL_places_47 : decode cL_places 47 = .ok (.iload 10, 2) := by decide +kernel
theorem dL_places_49 : decode cL_places 49 = .ok (.aload_n 1, 1) := by decide +kernel
theorem dL_places_50 : decode cL_places 50 = .ok (.iload 9, 2) := by decide +kernel
theorem dL_places_52 : decode cL_places 52 = .ok (.iaload, 1) := by decide +kernel
theorem dL_places_53 : decode cL_places 53 = .ok (.imul, 1) := by decide +kernel
theorem dL_places_54 : decode cL_places 54 = .ok (.goto 4, 3) := by decide +kernel
theorem dL_places_57 : decode cL_places 57 = .ok (.iconst 0, 1) := by decide +kernel
theorem dL_places_58 : decode cL_places 58 = .ok (.iadd, 1) := by decide +kernel
theorem dL_places_59 : decode cL_places 59 = .ok (.istore 8, 2) := by decide +kernel
theorem dL_places_61 : decode cL_places 61 = .ok (.aload_n 0, 1) := by decide +kernel
theorem dL_places_62 : decode cL_places 62 = .ok (.iload 7, 2) := by decide +kernel
theorem dL_places_64 : decode cL_places 64 = .ok (.iload 9, 2) := by decide +kernel
theorem dL_places_66 : decode cL_places 66 = .ok (.aload_n 3, 1) := by decide +kernel
theorem dL_places_67 : decode cL_places 67 = .ok (.iconst 0, 1) := by decide +kernel
theorem dL_places_68 : decode cL_places 68 = .ok (.iaload, 1) := by decide +kernel
theorem dL_places_69 : decode cL_places 69 = .ok (.invokestatic 102, 3) := by decide +kernel
theorem dL_places_72 : decode cL_places 72 = .ok (.iload 10, 2) := by decide +kernel
theorem dL_places_74 : decode cL_places 74 = .ok (.if_icmp .eq 5, 3) := by decide +kernel
theorem dL_places_77 : decode cL_places 77 = .ok (.iconst 0, 1) := by decide +kernel
theorem dL_places_78 : decode cL_places 78 = .ok (.ireturn, 1) := by decide +kernel
theorem dL_places_79 : decode cL_places 79 = .ok (.iinc 9 1, 3) := by decide +kernel
theorem dL_places_82 : decode cL_places 82 = .ok (.goto (-58), 3) := by decide +kernel
theorem dL_places_85 : decode cL_places 85 = .ok (.iconst (-1), 1) := by decide +kernel
theorem dL_places_86 : decode cL_places 86 = .ok (.istore 9, 2) := by decide +kernel
theorem dL_places_88 : decode cL_places 88 = .ok (.iconst 0, 1) := by decide +kernel
theorem dL_places_89 : decode cL_places 89 = .ok (.istore 10, 2) := by decide +kernel
theorem dL_places_91 : decode cL_places 91 = .ok (.iconst 0, 1) := by decide +kernel
theorem dL_places_92 : decode cL_places 92 = .ok (.istore 11, 2) := by decide +kernel
theorem dL_places_94 : decode cL_places 94 = .ok (.iload 11, 2) := by decide +kernel
theorem dL_places_96 : decode cL_places 96 = .ok (.aload_n 3, 1) := by decide +kernel
theorem dL_places_97 : decode cL_places 97 = .ok (.iconst 2, 1) := by decide +kernel
theorem dL_places_98 : decode cL_places 98 = .ok (.iaload, 1) := by decide +kernel
theorem dL_places_99 : decode cL_places 99 = .ok (.if_icmp .ge 61, 3) := by decide +kernel
theorem dL_places_102 : decode cL_places 102 = .ok (.aload_n 2, 1) := by decide +kernel
theorem dL_places_103 : decode cL_places 103 = .ok (.iload 11, 2) := by decide +kernel
theorem dL_places_105 : decode cL_places 105 = .ok (.iaload, 1) := by decide +kernel
theorem dL_places_106 : decode cL_places 106 = .ok (.iload 7, 2) := by decide +kernel
theorem dL_places_108 : decode cL_places 108 = .ok (.if_icmp .ne 12, 3) := by decide +kernel
theorem dL_places_111 : decode cL_places 111 = .ok (.aload_n 0, 1) := by decide +kernel
theorem dL_places_112 : decode cL_places 112 = .ok (.iload 11, 2) := by decide +kernel
theorem dL_places_114 : decode cL_places 114 = .ok (.invokestatic 105, 3) := by decide +kernel
theorem dL_places_117 : decode cL_places 117 = .ok (.goto 5, 3) := by decide +kernel
theorem dL_places_120 : decode cL_places 120 = .ok (.iload 9, 2) := by decide +kernel
theorem dL_places_122 : decode cL_places 122 = .ok (.istore 9, 2) := by decide +kernel
theorem dL_places_124 : decode cL_places 124 = .ok (.iload 10, 2) := by decide +kernel
theorem dL_places_126 : decode cL_places 126 = .ok (.ifCond .ne 21, 3) := by decide +kernel
theorem dL_places_129 : decode cL_places 129 = .ok (.aload_n 2, 1) := by decide +kernel
theorem dL_places_130 : decode cL_places 130 = .ok (.iload 11, 2) := by decide +kernel
theorem dL_places_132 : decode cL_places 132 = .ok (.iaload, 1) := by decide +kernel
theorem dL_places_133 : decode cL_places 133 = .ok (.iload 7, 2) := by decide +kernel
theorem dL_places_135 : decode cL_places 135 = .ok (.if_icmp .ne 16, 3) := by decide +kernel
theorem dL_places_138 : decode cL_places 138 = .ok (.aload_n 0, 1) := by decide +kernel
theorem dL_places_139 : decode cL_places 139 = .ok (.iload 11, 2) := by decide +kernel
theorem dL_places_141 : decode cL_places 141 = .ok (.invokestatic 108, 3) := by decide +kernel
theorem dL_places_144 : decode cL_places 144 = .ok (.ifCond .ne 7, 3) := by decide +kernel
theorem dL_places_147 : decode cL_places 147 = .ok (.iconst 1, 1) := by decide +kernel
theorem dL_places_148 : decode cL_places 148 = .ok (.goto 4, 3) := by decide +kernel
theorem dL_places_151 : decode cL_places 151 = .ok (.iconst 0, 1) := by decide +kernel
theorem dL_places_152 : decode cL_places 152 = .ok (.istore 10, 2) := by decide +kernel
theorem dL_places_154 : decode cL_places 154 = .ok (.iinc 11 1, 3) := by decide +kernel
theorem dL_places_157 : decode cL_places 157 = .ok (.goto (-63), 3) := by decide +kernel
theorem dL_places_160 : decode cL_places 160 = .ok (.lconst 1, 1) := by decide +kernel
theorem dL_places_161 : decode cL_places 161 = .ok (.iload 8, 2) := by decide +kernel
theorem dL_places_163 : decode cL_places 163 = .ok (.i2l, 1) := by decide +kernel
theorem dL_places_164 : decode cL_places 164 = .ok (.ladd, 1) := by decide +kernel
theorem dL_places_165 : decode cL_places 165 = .ok (.aload_n 3, 1) := by decide +kernel
theorem dL_places_166 : decode cL_places 166 = .ok (.iconst 0, 1) := by decide +kernel
theorem dL_places_167 : decode cL_places 167 = .ok (.iaload, 1) := by decide +kernel
theorem dL_places_168 : decode cL_places 168 = .ok (.iload 9, 2) := by decide +kernel
theorem dL_places_170 : decode cL_places 170 = .ok (.isub, 1) := by decide +kernel
theorem dL_places_171 : decode cL_places 171 = .ok (.i2l, 1) := by decide +kernel
theorem dL_places_172 : decode cL_places 172 = .ok (.lmul, 1) := by decide +kernel
theorem dL_places_173 : decode cL_places 173 = .ok (.lstore 11, 2) := by decide +kernel
theorem dL_places_175 : decode cL_places 175 = .ok (.aload_n 0, 1) := by decide +kernel
theorem dL_places_176 : decode cL_places 176 = .ok (.iload 7, 2) := by decide +kernel
theorem dL_places_178 : decode cL_places 178 = .ok (.invokestatic 110, 3) := by decide +kernel
theorem dL_places_181 : decode cL_places 181 = .ok (.iload 8, 2) := by decide +kernel
theorem dL_places_183 : decode cL_places 183 = .ok (.if_icmp .eq 5, 3) := by decide +kernel
theorem dL_places_186 : decode cL_places 186 = .ok (.iconst 0, 1) := by decide +kernel
theorem dL_places_187 : decode cL_places 187 = .ok (.ireturn, 1) := by decide +kernel
theorem dL_places_188 : decode cL_places 188 = .ok (.iload 10, 2) := by decide +kernel
theorem dL_places_190 : decode cL_places 190 = .ok (.ifCond .ne 19, 3) := by decide +kernel
theorem dL_places_193 : decode cL_places 193 = .ok (.lload 11, 2) := by decide +kernel
theorem dL_places_195 : decode cL_places 195 = .ok (.lload 5, 2) := by decide +kernel
theorem dL_places_197 : decode cL_places 197 = .ok (.lcmp, 1) := by decide +kernel
theorem dL_places_198 : decode cL_places 198 = .ok (.ifCond .le 11, 3) := by decide +kernel
theorem dL_places_201 : decode cL_places 201 = .ok (.lload 11, 2) := by decide +kernel
theorem dL_places_203 : decode cL_places 203 = .ok (.lstore 5, 2) := by decide +kernel
theorem dL_places_205 : decode cL_places 205 = .ok (.iload 7, 2) := by decide +kernel
theorem dL_places_207 : decode cL_places 207 = .ok (.istore 4, 2) := by decide +kernel
theorem dL_places_209 : decode cL_places 209 = .ok (.iinc 7 1, 3) := by decide +kernel
theorem dL_places_212 : decode cL_places 212 = .ok (.goto (-201), 3) := by decide +kernel
theorem dL_places_215 : decode cL_places 215 = .ok (.aload_n 0, 1) := by decide +kernel
theorem dL_places_216 : decode cL_places 216 = .ok (.invokevirtual 112, 3) := by decide +kernel
theorem dL_places_219 : decode cL_places 219 = .ok (.iload 4, 2) := by decide +kernel
theorem dL_places_221 : decode cL_places 221 = .ok (.if_icmp .ne 87, 3) := by decide +kernel
theorem dL_places_224 : decode cL_places 224 = .ok (.aload_n 0, 1) := by decide +kernel
theorem dL_places_225 : decode cL_places 225 = .ok (.invokevirtual 89, 3) := by decide +kernel
theorem dL_places_228 : decode cL_places 228 = .ok (.aload_n 3, 1) := by decide +kernel
theorem dL_places_229 : decode cL_places 229 = .ok (.iconst 0, 1) := by decide +kernel
theorem dL_places_230 : decode cL_places 230 = .ok (.iaload, 1) := by decide +kernel
theorem dL_places_231 : decode cL_places 231 = .ok (.if_icmp .ne 77, 3) := by decide +kernel
theorem dL_places_234 : decode cL_places 234 = .ok (.aload_n 0, 1) := by decide +kernel
theorem dL_places_235 : decode cL_places 235 = .ok (.invokevirtual 115, 3) := by decide +kernel
theorem dL_places_238 : decode cL_places 238 = .ok (.aload_n 3, 1) := by decide +kernel
theorem dL_places_239 : decode cL_places 239 = .ok (.iconst 1, 1) := by decide +kernel
theorem dL_places_240 : decode cL_places 240 = .ok (.iaload, 1) := by decide +kernel
theorem dL_places_241 : decode cL_places 241 = .ok (.if_icmp .ne 67, 3) := by decide +kernel
theorem dL_places_244 : decode cL_places 244 = .ok (.aload_n 0, 1) := by decide +kernel
theorem dL_places_245 : decode cL_places 245 = .ok (.invokevirtual 118, 3) := by decide +kernel
theorem dL_places_248 : decode cL_places 248 = .ok (.aload_n 3, 1) := by decide +kernel
theorem dL_places_249 : decode cL_places 249 = .ok (.iconst 2, 1) := by decide +kernel
theorem dL_places_250 : decode cL_places 250 = .ok (.iaload, 1) := by decide +kernel
theorem dL_places_251 : decode cL_places 251 = .ok (.if_icmp .ne 57, 3) := by decide +kernel
theorem dL_places_254 : decode cL_places 254 = .ok (.aload_n 0, 1) := by decide +kernel
theorem dL_places_255 : decode cL_places 255 = .ok (.bipush 12, 2) := by decide +kernel
theorem dL_places_257 : decode cL_places 257 = .ok (.invokestatic 110, 3) := by decide +kernel
theorem dL_places_260 : decode cL_places 260 = .ok (.ldc 18, 2) := by decide +kernel
theorem dL_places_262 : decode cL_places 262 = .ok (.if_icmp .ne 46, 3) := by decide +kernel
theorem dL_places_265 : decode cL_places 265 = .ok (.aload_n 0, 1) := by decide +kernel
theorem dL_places_266 : decode cL_places 266 = .ok (.iconst 0, 1) := by decide +kernel
theorem dL_places_267 : decode cL_places 267 = .ok (.iconst 5, 1) := by decide +kernel
theorem dL_places_268 : decode cL_places 268 = .ok (.invokestatic 95, 3) := by decide +kernel
theorem dL_places_271 : decode cL_places 271 = .ok (.ldc 18, 2) := by decide +kernel
theorem dL_places_273 : decode cL_places 273 = .ok (.if_icmp .ne 35, 3) := by decide +kernel
theorem dL_places_276 : decode cL_places 276 = .ok (.aload_n 0, 1) := by decide +kernel
theorem dL_places_277 : decode cL_places 277 = .ok (.iconst 0, 1) := by decide +kernel
theorem dL_places_278 : decode cL_places 278 = .ok (.iconst 0, 1) := by decide +kernel
theorem dL_places_279 : decode cL_places 279 = .ok (.iconst (-1), 1) := by decide +kernel
theorem dL_places_280 : decode cL_places 280 = .ok (.invokestatic 102, 3) := by decide +kernel
theorem dL_places_283 : decode cL_places 283 = .ok (.ldc 21, 2) := by decide +kernel
theorem dL_places_285 : decode cL_places 285 = .ok (.if_icmp .ne 23, 3) := by decide +kernel
theorem dL_places_288 : decode cL_places 288 = .ok (.aload_n 0, 1) := by decide +kernel
theorem dL_places_289 : decode cL_places 289 = .ok (.iconst 0, 1) := by decide +kernel
theorem dL_places_290 : decode cL_places 290 = .ok (.iconst 0, 1) := by decide +kernel
theorem dL_places_291 : decode cL_places 291 = .ok (.aload_n 3, 1) := by decide +kernel
theorem dL_places_292 : decode cL_places 292 = .ok (.iconst 0, 1) := by decide +kernel
theorem dL_places_293 : decode cL_places 293 = .ok (.iaload, 1) := by decide +kernel
theorem dL_places_294 : decode cL_places 294 = .ok (.iconst 1, 1) := by decide +kernel
theorem dL_places_295 : decode cL_places 295 = .ok (.iadd, 1) := by decide +kernel
theorem dL_places_296 : decode cL_places 296 = .ok (.invokestatic 102, 3) := by decide +kernel
theorem dL_places_299 : decode cL_places 299 = .ok (.ldc 21, 2) := by decide +kernel
theorem dL_places_301 : decode cL_places 301 = .ok (.if_icmp .ne 7, 3) := by decide +kernel
theorem dL_places_304 : decode cL_places 304 = .ok (.iconst 1, 1) := by decide +kernel
theorem dL_places_305 : decode cL_places 305 = .ok (.goto 4, 3) := by decide +kernel
theorem dL_places_308 : decode cL_places 308 = .ok (.iconst 0, 1) := by decide +kernel
theorem dL_places_309 : decode cL_places 309 = .ok (.ireturn, 1) := by decide +kernel
theorem dL_sheet_0 : decode cL_sheet 0 = .ok (.iconst 0, 1) := by decide +kernel
theorem dL_sheet_1 : decode cL_sheet 1 = .ok (.istore 5, 2) := by decide +kernel
theorem dL_sheet_3 : decode cL_sheet 3 = .ok (.iload 5, 2) := by decide +kernel
theorem dL_sheet_5 : decode cL_sheet 5 = .ok (.iconst 5, 1) := by decide +kernel
theorem dL_sheet_6 : decode cL_sheet 6 = .ok (.if_icmp .ge 280, 3) := by decide +kernel
theorem dL_sheet_9 : decode cL_sheet 9 = .ok (.aload_n 0, 1) := by decide +kernel
theorem dL_sheet_10 : decode cL_sheet 10 = .ok (.iload 4, 2) := by decide +kernel
theorem dL_sheet_12 : decode cL_sheet 12 = .ok (.iload 5, 2) := by decide +kernel
theorem dL_sheet_14 : decode cL_sheet 14 = .ok (.invokestatic 121, 3) := by decide +kernel
theorem dL_sheet_17 : decode cL_sheet 17 = .ok (.istore 6, 2) := by decide +kernel
theorem dL_sheet_19 : decode cL_sheet 19 = .ok (.aload_n 0, 1) := by decide +kernel
theorem dL_sheet_20 : decode cL_sheet 20 = .ok (.iload 4, 2) := by decide +kernel
theorem dL_sheet_22 : decode cL_sheet 22 = .ok (.iload 5, 2) := by decide +kernel
theorem dL_sheet_24 : decode cL_sheet 24 = .ok (.invokestatic 123, 3) := by decide +kernel
theorem dL_sheet_27 : decode cL_sheet 27 = .ok (.istore 7, 2) := by decide +kernel
theorem dL_sheet_29 : decode cL_sheet 29 = .ok (.aload_n 0, 1) := by decide +kernel
theorem dL_sheet_30 : decode cL_sheet 30 = .ok (.iload 4, 2) := by decide +kernel
theorem dL_sheet_32 : decode cL_sheet 32 = .ok (.iload 5, 2) := by decide +kernel
theorem dL_sheet_34 : decode cL_sheet 34 = .ok (.invokestatic 125, 3) := by decide +kernel
theorem dL_sheet_37 : decode cL_sheet 37 = .ok (.istore 8, 2) := by decide +kernel
theorem dL_sheet_39 : decode cL_sheet 39 = .ok (.aload_n 0, 1) := by decide +kernel
theorem dL_sheet_40 : decode cL_sheet 40 = .ok (.iload 4, 2) := by decide +kernel
theorem dL_sheet_42 : decode cL_sheet 42 = .ok (.iload 5, 2) := by decide +kernel
theorem dL_sheet_44 : decode cL_sheet 44 = .ok (.invokestatic 127, 3) := by decide +kernel
theorem dL_sheet_47 : decode cL_sheet 47 = .ok (.istore 9, 2) := by decide +kernel
theorem dL_sheet_49 : decode cL_sheet 49 = .ok (.iload 6, 2) := by decide +kernel
theorem dL_sheet_51 : decode cL_sheet 51 = .ok (.aload_n 2, 1) := by decide +kernel
theorem dL_sheet_52 : decode cL_sheet 52 = .ok (.iconst 5, 1) := by decide +kernel
theorem dL_sheet_53 : decode cL_sheet 53 = .ok (.iload 4, 2) := by decide +kernel
theorem dL_sheet_55 : decode cL_sheet 55 = .ok (.imul, 1) := by decide +kernel
theorem dL_sheet_56 : decode cL_sheet 56 = .ok (.iload 5, 2) := by decide +kernel
theorem dL_sheet_58 : decode cL_sheet 58 = .ok (.iadd, 1) := by decide +kernel
theorem dL_sheet_59 : decode cL_sheet 59 = .ok (.iaload, 1) := by decide +kernel
theorem dL_sheet_60 : decode cL_sheet 60 = .ok (.if_icmp .ne 36, 3) := by decide +kernel
theorem dL_sheet_63 : decode cL_sheet 63 = .ok (.iload 7, 2) := by decide +kernel
theorem dL_sheet_65 : decode cL_sheet 65 = .ok (.ifCond .lt 31, 3) := by decide +kernel
theorem dL_sheet_68 : decode cL_sheet 68 = .ok (.iload 7, 2) := by decide +kernel
theorem dL_sheet_70 : decode cL_sheet 70 = .ok (.iconst 3, 1) := by decide +kernel
theorem dL_sheet_71 : decode cL_sheet 71 = .ok (.if_icmp .gt 25, 3) := by decide +kernel
theorem dL_sheet_74 : decode cL_sheet 74 = .ok (.iload 7, 2) := by decide +kernel
theorem dL_sheet_76 : decode cL_sheet 76 = .ok (.iconst 3, 1) := by decide +kernel
theorem dL_sheet_77 : decode cL_sheet 77 = .ok (.if_icmp .ne 8, 3) := by decide +kernel
theorem dL_sheet_80 : decode cL_sheet 80 = .ok (.iload 6, 2) := by decide +kernel
theorem dL_sheet_82 : decode cL_sheet 82 = .ok (.ifCond .lt 14, 3) := by decide +kernel
theorem dL_sheet_85 : decode cL_sheet 85 = .ok (.iload 7, 2) := by decide +kernel
theorem dL_sheet_87 : decode cL_sheet 87 = .ok (.iconst 2, 1) := by decide +kernel
theorem dL_sheet_88 : decode cL_sheet 88 = .ok (.if_icmp .ge 10, 3) := by decide +kernel
theorem dL_sheet_91 : decode cL_sheet 91 = .ok (.iload 6, 2) := by decide +kernel
theorem dL_sheet_93 : decode cL_sheet 93 = .ok (.ifCond .lt 5, 3) := by decide +kernel
theorem dL_sheet_96 : decode cL_sheet 96 = .ok (.iconst 0, 1) := by decide +kernel
theorem dL_sheet_97 : decode cL_sheet 97 = .ok (.ireturn, 1) := by decide +kernel
theorem dL_sheet_98 : decode cL_sheet 98 = .ok (.aload_n 0, 1) := by decide +kernel
theorem dL_sheet_99 : decode cL_sheet 99 = .ok (.iload 4, 2) := by decide +kernel
theorem dL_sheet_101 : decode cL_sheet 101 = .ok (.iload 5, 2) := by decide +kernel
theorem dL_sheet_103 : decode cL_sheet 103 = .ok (.invokestatic 129, 3) := by decide +kernel
theorem dL_sheet_106 : decode cL_sheet 106 = .ok (.istore 10, 2) := by decide +kernel
theorem dL_sheet_108 : decode cL_sheet 108 = .ok (.iload 6, 2) := by decide +kernel
theorem dL_sheet_110 : decode cL_sheet 110 = .ok (.ifCond .ge 37, 3) := by decide +kernel
theorem dL_sheet_113 : decode cL_sheet 113 = .ok (.iload 10, 2) := by decide +kernel
theorem dL_sheet_115 : decode cL_sheet 115 = .ok (.ldc 21, 2) := by decide +kernel
theorem dL_sheet_117 : decode cL_sheet 117 = .ok (.if_icmp .ne 28, 3) := by decide +kernel
theorem dL_sheet_120 : decode cL_sheet 120 = .ok (.iload 8, 2) := by decide +kernel
theorem dL_sheet_122 : decode cL_sheet 122 = .ok (.ifCond .ne 23, 3) := by decide +kernel
theorem dL_sheet_125 : decode cL_sheet 125 = .ok (.iload 9, 2) := by decide +kernel
theorem dL_sheet_127 : decode cL_sheet 127 = .ok (.iconst (-1), 1) := by decide +kernel
theorem dL_sheet_128 : decode cL_sheet 128 = .ok (.if_icmp .ne 17, 3) := by decide +kernel
theorem dL_sheet_131 : decode cL_sheet 131 = .ok (.aload_n 0, 1) := by decide +kernel
theorem dL_sheet_132 : decode cL_sheet 132 = .ok (.iload 4, 2) := by decide +kernel
theorem dL_sheet_134 : decode cL_sheet 134 = .ok (.iload 5, 2) := by decide +kernel
theorem dL_sheet_136 : decode cL_sheet 136 = .ok (.iconst 0, 1) := by decide +kernel
theorem dL_sheet_137 : decode cL_sheet 137 = .ok (.invokestatic 131, 3) := by decide +kernel
theorem dL_sheet_140 : decode cL_sheet 140 = .ok (.ldc 21, 2) := by decide +kernel
theorem dL_sheet_142 : decode cL_sheet 142 = .ok (.if_icmp .eq 62, 3) := by decide +kernel
theorem dL_sheet_145 : decode cL_sheet 145 = .ok (.iconst 0, 1) := by decide +kernel
theorem dL_sheet_146 : decode cL_sheet 146 = .ok (.ireturn, 1) := by decide +kernel
theorem dL_sheet_147 : decode cL_sheet 147 = .ok (.iload 8, 2) := by decide +kernel
theorem dL_sheet_149 : decode cL_sheet 149 = .ok (.ifCond .ne 27, 3) := by decide +kernel
theorem dL_sheet_152 : decode cL_sheet 152 = .ok (.iload 10, 2) := by decide +kernel
theorem dL_sheet_154 : decode cL_sheet 154 = .ok (.iload 6, 2) := by decide +kernel
theorem dL_sheet_156 : decode cL_sheet 156 = .ok (.aload_n 0, 1) := by decide +kernel
theorem dL_sheet_157 : decode cL_sheet 157 = .ok (.aload_n 1, 1) := by decide +kernel
theorem dL_sheet_158 : decode cL_sheet 158 = .ok (.iload 4, 2) := by decide +kernel
theorem dL_sheet_160 : decode cL_sheet 160 = .ok (.iaload, 1) := by decide +kernel
theorem dL_sheet_161 : decode cL_sheet 161 = .ok (.iload 5, 2) := by decide +kernel
theorem dL_sheet_163 : decode cL_sheet 163 = .ok (.aload_n 0, 1) := by decide +kernel
theorem dL_sheet_164 : decode cL_sheet 164 = .ok (.iload 4, 2) := by decide +kernel
theorem dL_sheet_166 : decode cL_sheet 166 = .ok (.invokestatic 105, 3) := by decide +kernel
theorem dL_sheet_169 : decode cL_sheet 169 = .ok (.invokestatic 102, 3) := by decide +kernel
theorem dL_sheet_172 : decode cL_sheet 172 = .ok (.isub, 1) := by decide +kernel
theorem dL_sheet_173 : decode cL_sheet 173 = .ok (.if_icmp .ne 29, 3) := by decide +kernel
theorem dL_sheet_176 : decode cL_sheet 176 = .ok (.iload 8, 2) := by decide +kernel
theorem dL_sheet_178 : decode cL_sheet 178 = .ok (.iconst 1, 1) := by decide +kernel
theorem dL_sheet_179 : decode cL_sheet 179 = .ok (.if_icmp .ne 25, 3) := by decide +kernel
theorem dL_sheet_182 : decode cL_sheet 182 = .ok (.iload 9, 2) := by decide +kernel
theorem dL_sheet_184 : decode cL_sheet 184 = .ok (.iconst (-1), 1) := by decide +kernel
theorem dL_sheet_185 : decode cL_sheet 185 = .ok (.if_icmp .ne 17, 3) := by decide +kernel
theorem dL_sheet_188 : decode cL_sheet 188 = .ok (.aload_n 0, 1) := by decide +kernel
theorem dL_sheet_189 : decode cL_sheet 189 = .ok (.iload 4, 2) := by decide +kernel
theorem dL_sheet_191 : decode cL_sheet 191 = .ok (.iload 5, 2) := by decide +kernel
theorem dL_sheet_193 : decode cL_sheet 193 = .ok (.iconst 0, 1) := by decide +kernel
theorem dL_sheet_194 : decode cL_sheet 194 = .ok (.invokestatic 131, 3) := by decide +kernel
theorem dL_sheet_197 : decode cL_sheet 197 = .ok (.ldc 31, 2) := by decide +kernel
theorem dL_sheet_199 : decode cL_sheet 199 = .ok (.if_icmp .eq 5, 3) := by decide +kernel
theorem dL_sheet_202 : decode cL_sheet 202 = .ok (.iconst 0, 1) := by decide +kernel
theorem dL_sheet_203 : decode cL_sheet 203 = .ok (.ireturn, 1) := by decide +kernel
theorem dL_sheet_204 : decode cL_sheet 204 = .ok (.iload 9, 2) := by decide +kernel
theorem dL_sheet_206 : decode cL_sheet 206 = .ok (.ifCond .lt 74, 3) := by decide +kernel
theorem dL_sheet_209 : decode cL_sheet 209 = .ok (.iload 9, 2) := by decide +kernel
theorem dL_sheet_211 : decode cL_sheet 211 = .ok (.aload_n 3, 1) := by decide +kernel
theorem dL_sheet_212 : decode cL_sheet 212 = .ok (.iconst 2, 1) := by decide +kernel
theorem dL_sheet_213 : decode cL_sheet 213 = .ok (.iaload, 1) := by decide +kernel
theorem dL_sheet_214 : decode cL_sheet 214 = .ok (.if_icmp .ge 64, 3) := by decide +kernel
theorem dL_sheet_217 : decode cL_sheet 217 = .ok (.iload 10, 2) := by decide +kernel
theorem dL_sheet_219 : decode cL_sheet 219 = .ok (.ifCond .eq 59, 3) := by decide +kernel
theorem dL_sheet_222 : decode cL_sheet 222 = .ok (.iload 10, 2) := by decide +kernel
theorem dL_sheet_224 : decode cL_sheet 224 = .ok (.aload_n 0, 1) := by decide +kernel
theorem dL_sheet_225 : decode cL_sheet 225 = .ok (.iload 9, 2) := by decide +kernel
theorem dL_sheet_227 : decode cL_sheet 227 = .ok (.iload 5, 2) := by decide +kernel
theorem dL_sheet_229 : decode cL_sheet 229 = .ok (.invokestatic 129, 3) := by decide +kernel
theorem dL_sheet_232 : decode cL_sheet 232 = .ok (.iadd, 1) := by decide +kernel
theorem dL_sheet_233 : decode cL_sheet 233 = .ok (.ifCond .ne 45, 3) := by decide +kernel
theorem dL_sheet_236 : decode cL_sheet 236 = .ok (.aload_n 1, 1) := by decide +kernel
theorem dL_sheet_237 : decode cL_sheet 237 = .ok (.iload 9, 2) := by decide +kernel
theorem dL_sheet_239 : decode cL_sheet 239 = .ok (.iaload, 1) := by decide +kernel
theorem dL_sheet_240 : decode cL_sheet 240 = .ok (.aload_n 1, 1) := by decide +kernel
theorem dL_sheet_241 : decode cL_sheet 241 = .ok (.iload 4, 2) := by decide +kernel
theorem dL_sheet_243 : decode cL_sheet 243 = .ok (.iaload, 1) := by decide +kernel
theorem dL_sheet_244 : decode cL_sheet 244 = .ok (.if_icmp .eq 34, 3) := by decide +kernel
theorem dL_sheet_247 : decode cL_sheet 247 = .ok (.aload_n 0, 1) := by decide +kernel
theorem dL_sheet_248 : decode cL_sheet 248 = .ok (.iload 4, 2) := by decide +kernel
theorem dL_sheet_250 : decode cL_sheet 250 = .ok (.invokestatic 108, 3) := by decide +kernel
theorem dL_sheet_253 : decode cL_sheet 253 = .ok (.iconst 1, 1) := by decide +kernel
theorem dL_sheet_254 : decode cL_sheet 254 = .ok (.if_icmp .ne 24, 3) := by decide +kernel
theorem dL_sheet_257 : decode cL_sheet 257 = .ok (.aload_n 0, 1) := by decide +kernel
theorem dL_sheet_258 : decode cL_sheet 258 = .ok (.iload 9, 2) := by decide +kernel
theorem dL_sheet_260 : decode cL_sheet 260 = .ok (.invokestatic 108, 3) := by decide +kernel
theorem dL_sheet_263 : decode cL_sheet 263 = .ok (.iconst 1, 1) := by decide +kernel
theorem dL_sheet_264 : decode cL_sheet 264 = .ok (.if_icmp .ne 14, 3) := by decide +kernel
theorem dL_sheet_267 : decode cL_sheet 267 = .ok (.aload_n 0, 1) := by decide +kernel
theorem dL_sheet_268 : decode cL_sheet 268 = .ok (.iload 9, 2) := by decide +kernel
theorem dL_sheet_270 : decode cL_sheet 270 = .ok (.iload 5, 2) := by decide +kernel
theorem dL_sheet_272 : decode cL_sheet 272 = .ok (.invokestatic 127, 3) := by decide +kernel
theorem dL_sheet_275 : decode cL_sheet 275 = .ok (.ifCond .ge 5, 3) := by decide +kernel
theorem dL_sheet_278 : decode cL_sheet 278 = .ok (.iconst 0, 1) := by decide +kernel
theorem dL_sheet_279 : decode cL_sheet 279 = .ok (.ireturn, 1) := by decide +kernel
theorem dL_sheet_280 : decode cL_sheet 280 = .ok (.iinc 5 1, 3) := by decide +kernel
theorem dL_sheet_283 : decode cL_sheet 283 = .ok (.goto (-280), 3) := by decide +kernel
theorem dL_sheet_286 : decode cL_sheet 286 = .ok (.aload_n 0, 1) := by decide +kernel
theorem dL_sheet_287 : decode cL_sheet 287 = .ok (.iload 4, 2) := by decide +kernel
theorem dL_sheet_289 : decode cL_sheet 289 = .ok (.invokestatic 105, 3) := by decide +kernel
theorem dL_sheet_292 : decode cL_sheet 292 = .ok (.ifCond .lt 76, 3) := by decide +kernel
theorem dL_sheet_295 : decode cL_sheet 295 = .ok (.aload_n 0, 1) := by decide +kernel
theorem dL_sheet_296 : decode cL_sheet 296 = .ok (.iload 4, 2) := by decide +kernel
theorem dL_sheet_298 : decode cL_sheet 298 = .ok (.invokestatic 105, 3) := by decide +kernel
theorem dL_sheet_301 : decode cL_sheet 301 = .ok (.aload_n 3, 1) := by decide +kernel
theorem dL_sheet_302 : decode cL_sheet 302 = .ok (.iconst 0, 1) := by decide +kernel
theorem dL_sheet_303 : decode cL_sheet 303 = .ok (.iaload, 1) := by decide +kernel
theorem dL_sheet_304 : decode cL_sheet 304 = .ok (.if_icmp .gt 64, 3) := by decide +kernel
theorem dL_sheet_307 : decode cL_sheet 307 = .ok (.aload_n 0, 1) := by decide +kernel
theorem dL_sheet_308 : decode cL_sheet 308 = .ok (.iload 4, 2) := by decide +kernel
theorem dL_sheet_310 : decode cL_sheet 310 = .ok (.invokestatic 108, 3) := by decide +kernel
theorem dL_sheet_313 : decode cL_sheet 313 = .ok (.ifCond .eq 13, 3) := by decide +kernel
theorem dL_sheet_316 : decode cL_sheet 316 = .ok (.aload_n 0, 1) := by decide +kernel
theorem dL_sheet_317 : decode cL_sheet 317 = .ok (.iload 4, 2) := by decide +kernel
theorem dL_sheet_319 : decode cL_sheet 319 = .ok (.invokestatic 108, 3) := by decide +kernel
theorem dL_sheet_322 : decode cL_sheet 322 = .ok (.iconst 1, 1) := by decide +kernel
theorem dL_sheet_323 : decode cL_sheet 323 = .ok (.if_icmp .ne 45, 3) := by decide +kernel
theorem dL_sheet_326 : decode cL_sheet 326 = .ok (.aload_n 0, 1) := by decide +kernel
theorem dL_sheet_327 : decode cL_sheet 327 = .ok (.iload 4, 2) := by decide +kernel
theorem dL_sheet_329 : decode cL_sheet 329 = .ok (.iconst 5, 1) := by decide +kernel
theorem dL_sheet_330 : decode cL_sheet 330 = .ok (.invokestatic 123, 3) := by decide +kernel
theorem dL_sheet_333 : decode cL_sheet 333 = .ok (.ldc 18, 2) := by decide +kernel
theorem dL_sheet_335 : decode cL_sheet 335 = .ok (.if_icmp .ne 33, 3) := by decide +kernel
theorem dL_sheet_338 : decode cL_sheet 338 = .ok (.aload_n 0, 1) := by decide +kernel
theorem dL_sheet_339 : decode cL_sheet 339 = .ok (.aload_n 3, 1) := by decide +kernel
theorem dL_sheet_340 : decode cL_sheet 340 = .ok (.iconst 2, 1) := by decide +kernel
theorem dL_sheet_341 : decode cL_sheet 341 = .ok (.iaload, 1) := by decide +kernel
theorem dL_sheet_342 : decode cL_sheet 342 = .ok (.iconst 0, 1) := by decide +kernel
theorem dL_sheet_343 : decode cL_sheet 343 = .ok (.invokestatic 121, 3) := by decide +kernel
theorem dL_sheet_346 : decode cL_sheet 346 = .ok (.ldc 18, 2) := by decide +kernel
theorem dL_sheet_348 : decode cL_sheet 348 = .ok (.if_icmp .ne 20, 3) := by decide +kernel
theorem dL_sheet_351 : decode cL_sheet 351 = .ok (.aload_n 0, 1) := by decide +kernel
theorem dL_sheet_352 : decode cL_sheet 352 = .ok (.aload_n 3, 1) := by decide +kernel
theorem dL_sheet_353 : decode cL_sheet 353 = .ok (.iconst 2, 1) := by decide +kernel
theorem dL_sheet_354 : decode cL_sheet 354 = .ok (.iaload, 1) := by decide +kernel
theorem dL_sheet_355 : decode cL_sheet 355 = .ok (.iconst 0, 1) := by decide +kernel
theorem dL_sheet_356 : decode cL_sheet 356 = .ok (.invokestatic 129, 3) := by decide +kernel
theorem dL_sheet_359 : decode cL_sheet 359 = .ok (.ldc 18, 2) := by decide +kernel
theorem dL_sheet_361 : decode cL_sheet 361 = .ok (.if_icmp .ne 7, 3) := by decide +kernel
theorem dL_sheet_364 : decode cL_sheet 364 = .ok (.iconst 1, 1) := by decide +kernel
theorem dL_sheet_365 : decode cL_sheet 365 = .ok (.goto 4, 3) := by decide +kernel
theorem dL_sheet_368 : decode cL_sheet 368 = .ok (.iconst 0, 1) := by decide +kernel
theorem dL_sheet_369 : decode cL_sheet 369 = .ok (.ireturn, 1) := by decide +kernel
theorem dL_isSo_0 : decode cL_isSo 0 = .ok (.iconst 0, 1) := by decide +kernel
theorem dL_isSo_1 : decode cL_isSo 1 = .ok (.istore 6, 2) := by decide +kernel
theorem dL_isSo_3 : decode cL_isSo 3 = .ok (.iload 6, 2) := by decide +kernel
theorem dL_isSo_5 : decode cL_isSo 5 = .ok (.aload 5, 2) := by decide +kernel
theorem dL_isSo_7 : decode cL_isSo 7 = .ok (.iconst 2, 1) := by decide +kernel
theorem dL_isSo_8 : decode cL_isSo 8 = .ok (.iaload, 1) := by decide +kernel
theorem dL_isSo_9 : decode cL_isSo 9 = .ok (.if_icmp .ge 24, 3) := by decide +kernel
theorem dL_isSo_12 : decode cL_isSo 12 = .ok (.aload_n 0, 1) := by decide +kernel
theorem dL_isSo_13 : decode cL_isSo 13 = .ok (.aload_n 2, 1) := by decide +kernel
theorem dL_isSo_14 : decode cL_isSo 14 = .ok (.aload_n 3, 1) := by decide +kernel
theorem dL_isSo_15 : decode cL_isSo 15 = .ok (.aload 5, 2) := by decide +kernel
theorem dL_isSo_17 : decode cL_isSo 17 = .ok (.iload 6, 2) := by decide +kernel
theorem dL_isSo_19 : decode cL_isSo 19 = .ok (.invokestatic 133, 3) := by decide +kernel
theorem dL_isSo_22 : decode cL_isSo 22 = .ok (.ifCond .ne 5, 3) := by decide +kernel
theorem dL_isSo_25 : decode cL_isSo 25 = .ok (.iconst 0, 1) := by decide +kernel
theorem dL_isSo_26 : decode cL_isSo 26 = .ok (.ireturn, 1) := by decide +kernel
theorem dL_isSo_27 : decode cL_isSo 27 = .ok (.iinc 6 1, 3) := by decide +kernel
theorem dL_isSo_30 : decode cL_isSo 30 = .ok (.goto (-27), 3) := by decide +kernel
theorem dL_isSo_33 : decode cL_isSo 33 = .ok (.iconst 0, 1) := by decide +kernel
theorem dL_isSo_34 : decode cL_isSo 34 = .ok (.istore 6, 2) := by decide +kernel
theorem dL_isSo_36 : decode cL_isSo 36 = .ok (.iload 6, 2) := by decide +kernel
theorem dL_isSo_38 : decode cL_isSo 38 = .ok (.iconst 3, 1) := by decide +kernel
theorem dL_isSo_39 : decode cL_isSo 39 = .ok (.if_icmp .ge 55, 3) := by decide +kernel
theorem dL_isSo_42 : decode cL_isSo 42 = .ok (.aload_n 0, 1) := by decide +kernel
theorem dL_isSo_43 : decode cL_isSo 43 = .ok (.iload 6, 2) := by decide +kernel
theorem dL_isSo_45 : decode cL_isSo 45 = .ok (.invokestatic 137, 3) := by decide +kernel
theorem dL_isSo_48 : decode cL_isSo 48 = .ok (.aload 4, 2) := by decide +kernel
theorem dL_isSo_50 : decode cL_isSo 50 = .ok (.iconst 2, 1) := by decide +kernel
theorem dL_isSo_51 : decode cL_isSo 51 = .ok (.iload 6, 2) := by decide +kernel
theorem dL_isSo_53 : decode cL_isSo 53 = .ok (.imul, 1) := by decide +kernel
theorem dL_isSo_54 : decode cL_isSo 54 = .ok (.iaload, 1) := by decide +kernel
theorem dL_isSo_55 : decode cL_isSo 55 = .ok (.ifCond .ne 7, 3) := by decide +kernel
theorem dL_isSo_58 : decode cL_isSo 58 = .ok (.iconst (-1), 1) := by decide +kernel
theorem dL_isSo_59 : decode cL_isSo 59 = .ok (.goto 24, 3) := by decide +kernel
theorem dL_isSo_62 : decode cL_isSo 62 = .ok (.sipush 1000, 3) := by decide +kernel
theorem dL_isSo_65 : decode cL_isSo 65 = .ok (.aload 4, 2) := by decide +kernel
theorem dL_isSo_67 : decode cL_isSo 67 = .ok (.iconst 2, 1) := by decide +kernel
theorem dL_isSo_68 : decode cL_isSo 68 = .ok (.iload 6, 2) := by decide +kernel
theorem dL_isSo_70 : decode cL_isSo 70 = .ok (.imul, 1) := by decide +kernel
theorem dL_isSo_71 : decode cL_isSo 71 = .ok (.iconst 1, 1) := by decide +kernel
theorem dL_isSo_72 : decode cL_isSo 72 = .ok (.iadd, 1) := by decide +kernel
theorem dL_isSo_73 : decode cL_isSo 73 = .ok (.iaload, 1) := by decide +kernel
theorem dL_isSo_74 : decode cL_isSo 74 = .ok (.imul, 1) := by decide +kernel
theorem dL_isSo_75 : decode cL_isSo 75 = .ok (.aload 4, 2) := by decide +kernel
theorem dL_isSo_77 : decode cL_isSo 77 = .ok (.iconst 2, 1) := by decide +kernel
theorem dL_isSo_78 : decode cL_isSo 78 = .ok (.iload 6, 2) := by decide +kernel
theorem dL_isSo_80 : decode cL_isSo 80 = .ok (.imul, 1) := by decide +kernel
theorem dL_isSo_81 : decode cL_isSo 81 = .ok (.iaload, 1) := by decide +kernel
theorem dL_isSo_82 : decode cL_isSo 82 = .ok (.idiv, 1) := by decide +kernel
theorem dL_isSo_83 : decode cL_isSo 83 = .ok (.if_icmp .eq 5, 3) := by decide +kernel
theorem dL_isSo_86 : decode cL_isSo 86 = .ok (.iconst 0, 1) := by decide +kernel
theorem dL_isSo_87 : decode cL_isSo 87 = .ok (.ireturn, 1) := by decide +kernel
theorem dL_isSo_88 : decode cL_isSo 88 = .ok (.iinc 6 1, 3) := by decide +kernel
theorem dL_isSo_91 : decode cL_isSo 91 = .ok (.goto (-55), 3) := by decide +kernel
theorem dL_isSo_94 : decode cL_isSo 94 = .ok (.aload_n 0, 1) := by decide +kernel
theorem dL_isSo_95 : decode cL_isSo 95 = .ok (.aload_n 1, 1) := by decide +kernel
theorem dL_isSo_96 : decode cL_isSo 96 = .ok (.aload_n 2, 1) := by decide +kernel
theorem dL_isSo_97 : decode cL_isSo 97 = .ok (.aload 5, 2) := by decide +kernel
theorem dL_isSo_99 : decode cL_isSo 99 = .ok (.invokestatic 139, 3) := by decide +kernel
theorem dL_isSo_102 : decode cL_isSo 102 = .ok (.ifCond .eq 27, 3) := by decide +kernel
theorem dL_isSo_105 : decode cL_isSo 105 = .ok (.aload_n 0, 1) := by decide +kernel
theorem dL_isSo_106 : decode cL_isSo 106 = .ok (.iconst 3, 1) := by decide +kernel
theorem dL_isSo_107 : decode cL_isSo 107 = .ok (.invokestatic 137, 3) := by decide +kernel
theorem dL_isSo_110 : decode cL_isSo 110 = .ok (.ldc 18, 2) := by decide +kernel
theorem dL_isSo_112 : decode cL_isSo 112 = .ok (.if_icmp .ne 17, 3) := by decide +kernel
theorem dL_isSo_115 : decode cL_isSo 115 = .ok (.aload_n 0, 1) := by decide +kernel
theorem dL_isSo_116 : decode cL_isSo 116 = .ok (.iconst (-1), 1) := by decide +kernel
theorem dL_isSo_117 : decode cL_isSo 117 = .ok (.invokestatic 137, 3) := by decide +kernel
theorem dL_isSo_120 : decode cL_isSo 120 = .ok (.ldc 18, 2) := by decide +kernel
theorem dL_isSo_122 : decode cL_isSo 122 = .ok (.if_icmp .ne 7, 3) := by decide +kernel
theorem dL_isSo_125 : decode cL_isSo 125 = .ok (.iconst 1, 1) := by decide +kernel
theorem dL_isSo_126 : decode cL_isSo 126 = .ok (.goto 4, 3) := by decide +kernel
theorem dL_isSo_129 : decode cL_isSo 129 = .ok (.iconst 0, 1) := by decide +kernel
theorem dL_isSo_130 : decode cL_isSo 130 = .ok (.ireturn, 1) := by decide +kernel
theorem dL_moves_0 : decode cL_moves 0 = .ok (.iload 4, 2) := by decide +kernel
theorem dL_moves_2 : decode cL_moves 2 = .ok (.bipush 13, 2) := by decide +kernel
theorem dL_moves_4 : decode cL_moves 4 = .ok (.invokestatic 143, 3) := by decide +kernel
theorem dL_moves_7 : decode cL_moves 7 = .ok (.iconst 1, 1) := by decide +kernel
theorem dL_moves_8 : decode cL_moves 8 = .ok (.isub, 1) := by decide +kernel
theorem dL_moves_9 : decode cL_moves 9 = .ok (.istore 5, 2) := by decide +kernel
theorem dL_moves_11 : decode cL_moves 11 = .ok (.iload 4, 2) := by decide +kernel
theorem dL_moves_13 : decode cL_moves 13 = .ok (.iconst 4, 1) := by decide +kernel
theorem dL_moves_14 : decode cL_moves 14 = .ok (.ishr, 1) := by decide +kernel
theorem dL_moves_15 : decode cL_moves 15 = .ok (.bipush 13, 2) := by decide +kernel
theorem dL_moves_17 : decode cL_moves 17 = .ok (.invokestatic 143, 3) := by decide +kernel
theorem dL_moves_20 : decode cL_moves 20 = .ok (.iconst 1, 1) := by decide +kernel
theorem dL_moves_21 : decode cL_moves 21 = .ok (.isub, 1) := by decide +kernel
theorem dL_moves_22 : decode cL_moves 22 = .ok (.istore 6, 2) := by decide +kernel
theorem dL_moves_24 : decode cL_moves 24 = .ok (.iload_n 3, 1) := by decide +kernel
theorem dL_moves_25 : decode cL_moves 25 = .ok (.iconst 5, 1) := by decide +kernel
theorem dL_moves_26 : decode cL_moves 26 = .ok (.ishr, 1) := by decide +kernel
theorem dL_moves_27 : decode cL_moves 27 = .ok (.iconst 5, 1) := by decide +kernel
theorem dL_moves_28 : decode cL_moves 28 = .ok (.invokestatic 143, 3) := by decide +kernel
theorem dL_moves_31 : decode cL_moves 31 = .ok (.istore 7, 2) := by decide +kernel
theorem dL_moves_33 : decode cL_moves 33 = .ok (.iconst 1, 1) := by decide +kernel
theorem dL_moves_34 : decode cL_moves 34 = .ok (.iload 4, 2) := by decide +kernel
theorem dL_moves_36 : decode cL_moves 36 = .ok (.bipush 8, 2) := by decide +kernel
theorem dL_moves_38 : decode cL_moves 38 = .ok (.ishr, 1) := by decide +kernel
theorem dL_moves_39 : decode cL_moves 39 = .ok (.iload_n 3, 1) := by decide +kernel
theorem dL_moves_40 : decode cL_moves 40 = .ok (.bipush 8, 2) := by decide +kernel
theorem dL_moves_42 : decode cL_moves 42 = .ok (.ishr, 1) := by decide +kernel
theorem dL_moves_43 : decode cL_moves 43 = .ok (.iconst 4, 1) := by decide +kernel
theorem dL_moves_44 : decode cL_moves 44 = .ok (.invokestatic 143, 3) := by decide +kernel
theorem dL_moves_47 : decode cL_moves 47 = .ok (.ifCond .ne 9, 3) := by decide +kernel
theorem dL_moves_50 : decode cL_moves 50 = .ok (.sipush 1000, 3) := by decide +kernel
theorem dL_moves_53 : decode cL_moves 53 = .ok (.goto 5, 3) := by decide +kernel
theorem dL_moves_56 : decode cL_moves 56 = .ok (.bipush 30, 2) := by decide +kernel
theorem dL_moves_58 : decode cL_moves 58 = .ok (.invokestatic 143, 3) := by decide +kernel
theorem dL_moves_61 : decode cL_moves 61 = .ok (.iadd, 1) := by decide +kernel
theorem dL_moves_62 : decode cL_moves 62 = .ok (.istore 8, 2) := by decide +kernel
theorem dL_moves_64 : decode cL_moves 64 = .ok (.iload_n 3, 1) := by decide +kernel
theorem dL_moves_65 : decode cL_moves 65 = .ok (.bipush 10, 2) := by decide +kernel
theorem dL_moves_67 : decode cL_moves 67 = .ok (.ishr, 1) := by decide +kernel
theorem dL_moves_68 : decode cL_moves 68 = .ok (.iconst 3, 1) := by decide +kernel
theorem dL_moves_69 : decode cL_moves 69 = .ok (.invokestatic 143, 3) := by decide +kernel
theorem dL_moves_72 : decode cL_moves 72 = .ok (.ifCond .le 9, 3) := by decide +kernel
theorem dL_moves_75 : decode cL_moves 75 = .ok (.aload_n 2, 1) := by decide +kernel
theorem dL_moves_76 : decode cL_moves 76 = .ok (.iconst 0, 1) := by decide +kernel
theorem dL_moves_77 : decode cL_moves 77 = .ok (.iaload, 1) := by decide +kernel
theorem dL_moves_78 : decode cL_moves 78 = .ok (.goto 16, 3) := by decide +kernel
theorem dL_moves_81 : decode cL_moves 81 = .ok (.iload 4, 2) := by decide +kernel
theorem dL_moves_83 : decode cL_moves 83 = .ok (.bipush 13, 2) := by decide +kernel
theorem dL_moves_85 : decode cL_moves 85 = .ok (.ishr, 1) := by decide +kernel
theorem dL_moves_86 : decode cL_moves 86 = .ok (.aload_n 2, 1) := by decide +kernel
theorem dL_moves_87 : decode cL_moves 87 = .ok (.iconst 0, 1) := by decide +kernel
theorem dL_moves_88 : decode cL_moves 88 = .ok (.iaload, 1) := by decide +kernel
theorem dL_moves_89 : decode cL_moves 89 = .ok (.iconst 1, 1) := by decide +kernel
theorem dL_moves_90 : decode cL_moves 90 = .ok (.iadd, 1) := by decide +kernel
theorem dL_moves_91 : decode cL_moves 91 = .ok (.invokestatic 143, 3) := by decide +kernel
theorem dL_moves_94 : decode cL_moves 94 = .ok (.istore 9, 2) := by decide +kernel
theorem dL_moves_96 : decode cL_moves 96 = .ok (.iload 5, 2) := by decide +kernel
theorem dL_moves_98 : decode cL_moves 98 = .ok (.ifCond .ge 7, 3) := by decide +kernel
theorem dL_moves_101 : decode cL_moves 101 = .ok (.iconst 0, 1) := by decide +kernel
theorem dL_moves_102 : decode cL_moves 102 = .ok (.goto 11, 3) := by decide +kernel
theorem dL_moves_105 : decode cL_moves 105 = .ok (.aload_n 0, 1) := by decide +kernel
theorem dL_moves_106 : decode cL_moves 106 = .ok (.iload 5, 2) := by decide +kernel
theorem dL_moves_108 : decode cL_moves 108 = .ok (.iload 7, 2) := by decide +kernel
theorem dL_moves_110 : decode cL_moves 110 = .ok (.invokestatic 95, 3) := by decide +kernel
theorem dL_moves_113 : decode cL_moves 113 = .ok (.istore 10, 2) := by decide +kernel
theorem dL_moves_115 : decode cL_moves 115 = .ok (.iload 6, 2) := by decide +kernel
theorem dL_moves_117 : decode cL_moves 117 = .ok (.ifCond .ge 7, 3) := by decide +kernel
theorem dL_moves_120 : decode cL_moves 120 = .ok (.iconst 0, 1) := by decide +kernel
theorem dL_moves_121 : decode cL_moves 121 = .ok (.goto 11, 3) := by decide +kernel
theorem dL_moves_124 : decode cL_moves 124 = .ok (.aload_n 0, 1) := by decide +kernel
theorem dL_moves_125 : decode cL_moves 125 = .ok (.iload 6, 2) := by decide +kernel
theorem dL_moves_127 : decode cL_moves 127 = .ok (.iload 7, 2) := by decide +kernel
theorem dL_moves_129 : decode cL_moves 129 = .ok (.invokestatic 95, 3) := by decide +kernel
theorem dL_moves_132 : decode cL_moves 132 = .ok (.istore 11, 2) := by decide +kernel
theorem dL_moves_134 : decode cL_moves 134 = .ok (.iload 4, 2) := by decide +kernel
theorem dL_moves_136 : decode cL_moves 136 = .ok (.bipush 18, 2) := by decide +kernel
theorem dL_moves_138 : decode cL_moves 138 = .ok (.ishr, 1) := by decide +kernel
theorem dL_moves_139 : decode cL_moves 139 = .ok (.bipush 12, 2) := by decide +kernel
theorem dL_moves_141 : decode cL_moves 141 = .ok (.invokestatic 143, 3) := by decide +kernel
theorem dL_moves_144 : decode cL_moves 144 = .ok (.istore 12, 2) := by decide +kernel
theorem dL_moves_146 : decode cL_moves 146 = .ok (.aload_n 0, 1) := by decide +kernel
theorem dL_moves_147 : decode cL_moves 147 = .ok (.iload 12, 2) := by decide +kernel
theorem dL_moves_149 : decode cL_moves 149 = .ok (.iload 7, 2) := by decide +kernel
theorem dL_moves_151 : decode cL_moves 151 = .ok (.invokestatic 95, 3) := by decide +kernel
theorem dL_moves_154 : decode cL_moves 154 = .ok (.istore 13, 2) := by decide +kernel
theorem dL_moves_156 : decode cL_moves 156 = .ok (.iload 5, 2) := by decide +kernel
theorem dL_moves_158 : decode cL_moves 158 = .ok (.iload 6, 2) := by decide +kernel
theorem dL_moves_160 : decode cL_moves 160 = .ok (.if_icmp .ne 8, 3) := by decide +kernel
theorem dL_moves_163 : decode cL_moves 163 = .ok (.ldc 21, 2) := by decide +kernel
theorem dL_moves_165 : decode cL_moves 165 = .ok (.goto 20, 3) := by decide +kernel
theorem dL_moves_168 : decode cL_moves 168 = .ok (.aload_n 2, 1) := by decide +kernel
theorem dL_moves_169 : decode cL_moves 169 = .ok (.iconst 1, 1) := by decide +kernel
theorem dL_moves_170 : decode cL_moves 170 = .ok (.iaload, 1) := by decide +kernel
theorem dL_moves_171 : decode cL_moves 171 = .ok (.sipush 200, 3) := by decide +kernel
theorem dL_moves_174 : decode cL_moves 174 = .ok (.if_icmp .ge 9, 3) := by decide +kernel
theorem dL_moves_177 : decode cL_moves 177 = .ok (.aload_n 2, 1) := by decide +kernel
theorem dL_moves_178 : decode cL_moves 178 = .ok (.iconst 1, 1) := by decide +kernel
theorem dL_moves_179 : decode cL_moves 179 = .ok (.iaload, 1) := by decide +kernel
theorem dL_moves_180 : decode cL_moves 180 = .ok (.goto 5, 3) := by decide +kernel
theorem dL_moves_183 : decode cL_moves 183 = .ok (.ldc 31, 2) := by decide +kernel
theorem dL_moves_185 : decode cL_moves 185 = .ok (.istore 14, 2) := by decide +kernel
theorem dL_moves_187 : decode cL_moves 187 = .ok (.aload_n 0, 1) := by decide +kernel
theorem dL_moves_188 : decode cL_moves 188 = .ok (.iload 5, 2) := by decide +kernel
theorem dL_moves_190 : decode cL_moves 190 = .ok (.iload 6, 2) := by decide +kernel
theorem dL_moves_192 : decode cL_moves 192 = .ok (.iload 7, 2) := by decide +kernel
theorem dL_moves_194 : decode cL_moves 194 = .ok (.iload 8, 2) := by decide +kernel
theorem dL_moves_196 : decode cL_moves 196 = .ok (.iload 9, 2) := by decide +kernel
theorem dL_moves_198 : decode cL_moves 198 = .ok (.invokestatic 146, 3) := by decide +kernel
theorem dL_moves_201 : decode cL_moves 201 = .ok (.iload 14, 2) := by decide +kernel
theorem dL_moves_203 : decode cL_moves 203 = .ok (.if_icmp .ne 26, 3) := by decide +kernel
theorem dL_moves_206 : decode cL_moves 206 = .ok (.aload_n 1, 1) := by decide +kernel
theorem dL_moves_207 : decode cL_moves 207 = .ok (.iload 5, 2) := by decide +kernel
theorem dL_moves_209 : decode cL_moves 209 = .ok (.iload 6, 2) := by decide +kernel
theorem dL_moves_211 : decode cL_moves 211 = .ok (.iload 7, 2) := by decide +kernel
theorem dL_moves_213 : decode cL_moves 213 = .ok (.iload 8, 2) := by decide +kernel
theorem dL_moves_215 : decode cL_moves 215 = .ok (.iload 9, 2) := by decide +kernel
theorem dL_moves_217 : decode cL_moves 217 = .ok (.invokestatic 146, 3) := by decide +kernel
theorem dL_moves_220 : decode cL_moves 220 = .ok (.iload 14, 2) := by decide +kernel
theorem dL_moves_222 : decode cL_moves 222 = .ok (.if_icmp .ne 7, 3) := by decide +kernel
theorem dL_moves_225 : decode cL_moves 225 = .ok (.iconst 1, 1) := by decide +kernel
theorem dL_moves_226 : decode cL_moves 226 = .ok (.goto 4, 3) := by decide +kernel
theorem dL_moves_229 : decode cL_moves 229 = .ok (.iconst 0, 1) := by decide +kernel
theorem dL_moves_230 : decode cL_moves 230 = .ok (.istore 15, 2) := by decide +kernel
theorem dL_moves_232 : decode cL_moves 232 = .ok (.iload 15, 2) := by decide +kernel
theorem dL_moves_234 : decode cL_moves 234 = .ok (.ifCond .eq 70, 3) := by decide +kernel
theorem dL_moves_237 : decode cL_moves 237 = .ok (.aload_n 0, 1) := by decide +kernel
theorem dL_moves_238 : decode cL_moves 238 = .ok (.bipush 12, 2) := by decide +kernel
theorem dL_moves_240 : decode cL_moves 240 = .ok (.iconst 0, 1) := by decide +kernel
theorem dL_moves_241 : decode cL_moves 241 = .ok (.iconst 0, 1) := by decide +kernel
theorem dL_moves_242 : decode cL_moves 242 = .ok (.iconst 0, 1) := by decide +kernel
theorem dL_moves_243 : decode cL_moves 243 = .ok (.iconst 0, 1) := by decide +kernel
theorem dL_moves_244 : decode cL_moves 244 = .ok (.invokestatic 146, 3) := by decide +kernel
theorem dL_moves_247 : decode cL_moves 247 = .ok (.ldc 18, 2) := by decide +kernel
theorem dL_moves_249 : decode cL_moves 249 = .ok (.if_icmp .ne 55, 3) := by decide +kernel
theorem dL_moves_252 : decode cL_moves 252 = .ok (.aload_n 0, 1) := by decide +kernel
theorem dL_moves_253 : decode cL_moves 253 = .ok (.iconst 0, 1) := by decide +kernel
theorem dL_moves_254 : decode cL_moves 254 = .ok (.iconst 1, 1) := by decide +kernel
theorem dL_moves_255 : decode cL_moves 255 = .ok (.iconst 5, 1) := by decide +kernel
theorem dL_moves_256 : decode cL_moves 256 = .ok (.iconst 1, 1) := by decide +kernel
theorem dL_moves_257 : decode cL_moves 257 = .ok (.iconst 0, 1) := by decide +kernel
theorem dL_moves_258 : decode cL_moves 258 = .ok (.invokestatic 146, 3) := by decide +kernel
theorem dL_moves_261 : decode cL_moves 261 = .ok (.ldc 18, 2) := by decide +kernel
theorem dL_moves_263 : decode cL_moves 263 = .ok (.if_icmp .ne 41, 3) := by decide +kernel
theorem dL_moves_266 : decode cL_moves 266 = .ok (.aload_n 0, 1) := by decide +kernel
theorem dL_moves_267 : decode cL_moves 267 = .ok (.iconst 0, 1) := by decide +kernel
theorem dL_moves_268 : decode cL_moves 268 = .ok (.iconst 1, 1) := by decide +kernel
theorem dL_moves_269 : decode cL_moves 269 = .ok (.iconst 0, 1) := by decide +kernel
theorem dL_moves_270 : decode cL_moves 270 = .ok (.sipush 1001, 3) := by decide +kernel
theorem dL_moves_273 : decode cL_moves 273 = .ok (.iconst 0, 1) := by decide +kernel
theorem dL_moves_274 : decode cL_moves 274 = .ok (.invokestatic 146, 3) := by decide +kernel
theorem dL_moves_277 : decode cL_moves 277 = .ok (.ldc 21, 2) := by decide +kernel
theorem dL_moves_279 : decode cL_moves 279 = .ok (.if_icmp .ne 25, 3) := by decide +kernel
theorem dL_moves_282 : decode cL_moves 282 = .ok (.aload_n 0, 1) := by decide +kernel
theorem dL_moves_283 : decode cL_moves 283 = .ok (.iconst 0, 1) := by decide +kernel
theorem dL_moves_284 : decode cL_moves 284 = .ok (.iconst 1, 1) := by decide +kernel
theorem dL_moves_285 : decode cL_moves 285 = .ok (.iconst 0, 1) := by decide +kernel
theorem dL_moves_286 : decode cL_moves 286 = .ok (.iconst 1, 1) := by decide +kernel
theorem dL_moves_287 : decode cL_moves 287 = .ok (.aload_n 2, 1) := by decide +kernel
theorem dL_moves_288 : decode cL_moves 288 = .ok (.iconst 0, 1) := by decide +kernel
theorem dL_moves_289 : decode cL_moves 289 = .ok (.iaload, 1) := by decide +kernel
theorem dL_moves_290 : decode cL_moves 290 = .ok (.iconst 1, 1) := by decide +kernel
theorem dL_moves_291 : decode cL_moves 291 = .ok (.iadd, 1) := by decide +kernel
theorem dL_moves_292 : decode cL_moves 292 = .ok (.invokestatic 146, 3) := by decide +kernel
theorem dL_moves_295 : decode cL_moves 295 = .ok (.ldc 21, 2) := by decide +kernel
theorem dL_moves_297 : decode cL_moves 297 = .ok (.if_icmp .ne 7, 3) := by decide +kernel
theorem dL_moves_300 : decode cL_moves 300 = .ok (.iconst 1, 1) := by decide +kernel
theorem dL_moves_301 : decode cL_moves 301 = .ok (.goto 4, 3) := by decide +kernel
theorem dL_moves_304 : decode cL_moves 304 = .ok (.iconst 0, 1) := by decide +kernel
theorem dL_moves_305 : decode cL_moves 305 = .ok (.istore 15, 2) := by decide +kernel
theorem dL_moves_307 : decode cL_moves 307 = .ok (.iload 14, 2) := by decide +kernel
theorem dL_moves_309 : decode cL_moves 309 = .ok (.ifCond .ge 6, 3) := by decide +kernel
theorem dL_moves_312 : decode cL_moves 312 = .ok (.iload 15, 2) := by decide +kernel
theorem dL_moves_314 : decode cL_moves 314 = .ok (.ireturn, 1) := by decide +kernel
theorem dL_moves_315 : decode cL_moves 315 = .ok (.aload_n 2, 1) := by decide +kernel
theorem dL_moves_316 : decode cL_moves 316 = .ok (.iconst 1, 1) := by decide +kernel
theorem dL_moves_317 : decode cL_moves 317 = .ok (.dup2, 1) := by decide +kernel
theorem dL_moves_318 : decode cL_moves 318 = .ok (.iaload, 1) := by decide +kernel
theorem dL_moves_319 : decode cL_moves 319 = .ok (.iconst 1, 1) := by decide +kernel
theorem dL_moves_320 : decode cL_moves 320 = .ok (.iadd, 1) := by decide +kernel
theorem dL_moves_321 : decode cL_moves 321 = .ok (.iastore, 1) := by decide +kernel
theorem dL_moves_322 : decode cL_moves 322 = .ok (.iload 5, 2) := by decide +kernel
theorem dL_moves_324 : decode cL_moves 324 = .ok (.ifCond .ge 7, 3) := by decide +kernel
theorem dL_moves_327 : decode cL_moves 327 = .ok (.iconst 0, 1) := by decide +kernel
theorem dL_moves_328 : decode cL_moves 328 = .ok (.goto 14, 3) := by decide +kernel
theorem dL_moves_331 : decode cL_moves 331 = .ok (.iload 10, 2) := by decide +kernel
theorem dL_moves_333 : decode cL_moves 333 = .ok (.aload_n 0, 1) := by decide +kernel
theorem dL_moves_334 : decode cL_moves 334 = .ok (.iload 5, 2) := by decide +kernel
theorem dL_moves_336 : decode cL_moves 336 = .ok (.iload 7, 2) := by decide +kernel
theorem dL_moves_338 : decode cL_moves 338 = .ok (.invokestatic 95, 3) := by decide +kernel
theorem dL_moves_341 : decode cL_moves 341 = .ok (.isub, 1) := by decide +kernel
theorem dL_moves_342 : decode cL_moves 342 = .ok (.istore 16, 2) := by decide +kernel
theorem dL_moves_344 : decode cL_moves 344 = .ok (.iload 6, 2) := by decide +kernel
theorem dL_moves_346 : decode cL_moves 346 = .ok (.ifCond .ge 7, 3) := by decide +kernel
theorem dL_moves_349 : decode cL_moves 349 = .ok (.iconst 0, 1) := by decide +kernel
theorem dL_moves_350 : decode cL_moves 350 = .ok (.goto 14, 3) := by decide +kernel
theorem dL_moves_353 : decode cL_moves 353 = .ok (.aload_n 0, 1) := by decide +kernel
theorem dL_moves_354 : decode cL_moves 354 = .ok (.iload 6, 2) := by decide +kernel
theorem dL_moves_356 : decode cL_moves 356 = .ok (.iload 7, 2) := by decide +kernel
theorem dL_moves_358 : decode cL_moves 358 = .ok (.invokestatic 95, 3) := by decide +kernel
theorem dL_moves_361 : decode cL_moves 361 = .ok (.iload 11, 2) := by decide +kernel
theorem dL_moves_363 : decode cL_moves 363 = .ok (.isub, 1) := by decide +kernel
theorem dL_moves_364 : decode cL_moves 364 = .ok (.istore 17, 2) := by decide +kernel
theorem dL_moves_366 : decode cL_moves 366 = .ok (.iload 15, 2) := by decide +kernel
theorem dL_moves_368 : decode cL_moves 368 = .ok (.ifCond .eq 58, 3) := by decide +kernel
theorem dL_moves_371 : decode cL_moves 371 = .ok (.iload 16, 2) := by decide +kernel
theorem dL_moves_373 : decode cL_moves 373 = .ok (.ifCond .eq 10, 3) := by decide +kernel
theorem dL_moves_376 : decode cL_moves 376 = .ok (.iload 16, 2) := by decide +kernel
theorem dL_moves_378 : decode cL_moves 378 = .ok (.iload 8, 2) := by decide +kernel
theorem dL_moves_380 : decode cL_moves 380 = .ok (.if_icmp .ne 46, 3) := by decide +kernel
theorem dL_moves_383 : decode cL_moves 383 = .ok (.iload 17, 2) := by decide +kernel
theorem dL_moves_385 : decode cL_moves 385 = .ok (.ifCond .eq 10, 3) := by decide +kernel
theorem dL_moves_388 : decode cL_moves 388 = .ok (.iload 17, 2) := by decide +kernel
theorem dL_moves_390 : decode cL_moves 390 = .ok (.iload 8, 2) := by decide +kernel
theorem dL_moves_392 : decode cL_moves 392 = .ok (.if_icmp .ne 34, 3) := by decide +kernel
theorem dL_moves_395 : decode cL_moves 395 = .ok (.iload 12, 2) := by decide +kernel
theorem dL_moves_397 : decode cL_moves 397 = .ok (.iload 5, 2) := by decide +kernel
theorem dL_moves_399 : decode cL_moves 399 = .ok (.if_icmp .eq 23, 3) := by decide +kernel
theorem dL_moves_402 : decode cL_moves 402 = .ok (.iload 12, 2) := by decide +kernel
theorem dL_moves_404 : decode cL_moves 404 = .ok (.iload 6, 2) := by decide +kernel
theorem dL_moves_406 : decode cL_moves 406 = .ok (.if_icmp .eq 16, 3) := by decide +kernel
theorem dL_moves_409 : decode cL_moves 409 = .ok (.aload_n 0, 1) := by decide +kernel
theorem dL_moves_410 : decode cL_moves 410 = .ok (.iload 12, 2) := by decide +kernel
theorem dL_moves_412 : decode cL_moves 412 = .ok (.iload 7, 2) := by decide +kernel
theorem dL_moves_414 : decode cL_moves 414 = .ok (.invokestatic 95, 3) := by decide +kernel
theorem dL_moves_417 : decode cL_moves 417 = .ok (.iload 13, 2) := by decide +kernel
theorem dL_moves_419 : decode cL_moves 419 = .ok (.if_icmp .ne 7, 3) := by decide +kernel
theorem dL_moves_422 : decode cL_moves 422 = .ok (.iconst 1, 1) := by decide +kernel
theorem dL_moves_423 : decode cL_moves 423 = .ok (.goto 4, 3) := by decide +kernel
theorem dL_moves_426 : decode cL_moves 426 = .ok (.iconst 0, 1) := by decide +kernel
theorem dL_moves_427 : decode cL_moves 427 = .ok (.ireturn, 1) := by decide +kernel
theorem dL_signs_0 : decode cL_signs 0 = .ok (.aload_n 0, 1) := by decide +kernel
theorem dL_signs_1 : decode cL_signs 1 = .ok (.iload 6, 2) := by decide +kernel
theorem dL_signs_3 : decode cL_signs 3 = .ok (.iload 7, 2) := by decide +kernel
theorem dL_signs_5 : decode cL_signs 5 = .ok (.invokestatic 129, 3) := by decide +kernel
theorem dL_signs_8 : decode cL_signs 8 = .ok (.istore 9, 2) := by decide +kernel
theorem dL_signs_10 : decode cL_signs 10 = .ok (.aload 4, 2) := by decide +kernel
theorem dL_signs_12 : decode cL_signs 12 = .ok (.iconst 5, 1) := by decide +kernel
theorem dL_signs_13 : decode cL_signs 13 = .ok (.iload 6, 2) := by decide +kernel
theorem dL_signs_15 : decode cL_signs 15 = .ok (.imul, 1) := by decide +kernel
theorem dL_signs_16 : decode cL_signs 16 = .ok (.iload 7, 2) := by decide +kernel
theorem dL_signs_18 : decode cL_signs 18 = .ok (.iadd, 1) := by decide +kernel
theorem dL_signs_19 : decode cL_signs 19 = .ok (.iaload, 1) := by decide +kernel
theorem dL_signs_20 : decode cL_signs 20 = .ok (.ifCond .lt 51, 3) := by decide +kernel
theorem dL_signs_23 : decode cL_signs 23 = .ok (.aload_n 0, 1) := by decide +kernel
theorem dL_signs_24 : decode cL_signs 24 = .ok (.iload 6, 2) := by decide +kernel
theorem dL_signs_26 : decode cL_signs 26 = .ok (.invokestatic 108, 3) := by decide +kernel
theorem dL_signs_29 : decode cL_signs 29 = .ok (.iconst 1, 1) := by decide +kernel
theorem dL_signs_30 : decode cL_signs 30 = .ok (.if_icmp .ne 41, 3) := by decide +kernel
theorem dL_signs_33 : decode cL_signs 33 = .ok (.aload_n 0, 1) := by decide +kernel
theorem dL_signs_34 : decode cL_signs 34 = .ok (.iload 6, 2) := by decide +kernel
theorem dL_signs_36 : decode cL_signs 36 = .ok (.iload 7, 2) := by decide +kernel
theorem dL_signs_38 : decode cL_signs 38 = .ok (.invokestatic 125, 3) := by decide +kernel
theorem dL_signs_41 : decode cL_signs 41 = .ok (.ifCond .ne 30, 3) := by decide +kernel
theorem dL_signs_44 : decode cL_signs 44 = .ok (.aload_n 2, 1) := by decide +kernel
theorem dL_signs_45 : decode cL_signs 45 = .ok (.iload 7, 2) := by decide +kernel
theorem dL_signs_47 : decode cL_signs 47 = .ok (.iaload, 1) := by decide +kernel
theorem dL_signs_48 : decode cL_signs 48 = .ok (.i2l, 1) := by decide +kernel
theorem dL_signs_49 : decode cL_signs 49 = .ok (.iload 9, 2) := by decide +kernel
theorem dL_signs_51 : decode cL_signs 51 = .ok (.invokestatic 149, 3) := by decide +kernel
theorem dL_signs_54 : decode cL_signs 54 = .ok (.i2l, 1) := by decide +kernel
theorem dL_signs_55 : decode cL_signs 55 = .ok (.lmul, 1) := by decide +kernel
theorem dL_signs_56 : decode cL_signs 56 = .ok (.aload_n 2, 1) := by decide +kernel
theorem dL_signs_57 : decode cL_signs 57 = .ok (.iconst 5, 1) := by decide +kernel
theorem dL_signs_58 : decode cL_signs 58 = .ok (.iload 8, 2) := by decide +kernel
theorem dL_signs_60 : decode cL_signs 60 = .ok (.iadd, 1) := by decide +kernel
theorem dL_signs_61 : decode cL_signs 61 = .ok (.iaload, 1) := by decide +kernel
theorem dL_signs_62 : decode cL_signs 62 = .ok (.i2l, 1) := by decide +kernel
theorem dL_signs_63 : decode cL_signs 63 = .ok (.lcmp, 1) := by decide +kernel
theorem dL_signs_64 : decode cL_signs 64 = .ok (.ifCond .gt 7, 3) := by decide +kernel
theorem dL_signs_67 : decode cL_signs 67 = .ok (.iconst 1, 1) := by decide +kernel
theorem dL_signs_68 : decode cL_signs 68 = .ok (.goto 4, 3) := by decide +kernel
theorem dL_signs_71 : decode cL_signs 71 = .ok (.iconst 0, 1) := by decide +kernel
theorem dL_signs_72 : decode cL_signs 72 = .ok (.istore 10, 2) := by decide +kernel
theorem dL_signs_74 : decode cL_signs 74 = .ok (.aload 4, 2) := by decide +kernel
theorem dL_signs_76 : decode cL_signs 76 = .ok (.iconst 5, 1) := by decide +kernel
theorem dL_signs_77 : decode cL_signs 77 = .ok (.iload 6, 2) := by decide +kernel
theorem dL_signs_79 : decode cL_signs 79 = .ok (.imul, 1) := by decide +kernel
theorem dL_signs_80 : decode cL_signs 80 = .ok (.iload 7, 2) := by decide +kernel
theorem dL_signs_82 : decode cL_signs 82 = .ok (.iadd, 1) := by decide +kernel
theorem dL_signs_83 : decode cL_signs 83 = .ok (.iaload, 1) := by decide +kernel
theorem dL_signs_84 : decode cL_signs 84 = .ok (.ifCond .ge 8, 3) := by decide +kernel
theorem dL_signs_87 : decode cL_signs 87 = .ok (.ldc 21, 2) := by decide +kernel
theorem dL_signs_89 : decode cL_signs 89 = .ok (.goto 15, 3) := by decide +kernel
theorem dL_signs_92 : decode cL_signs 92 = .ok (.iload 10, 2) := by decide +kernel
theorem dL_signs_94 : decode cL_signs 94 = .ok (.ifCond .eq 8, 3) := by decide +kernel
theorem dL_signs_97 : decode cL_signs 97 = .ok (.iload 9, 2) := by decide +kernel
theorem dL_signs_99 : decode cL_signs 99 = .ok (.goto 5, 3) := by decide +kernel
theorem dL_signs_102 : decode cL_signs 102 = .ok (.ldc 31, 2) := by decide +kernel
theorem dL_signs_104 : decode cL_signs 104 = .ok (.istore 11, 2) := by decide +kernel
theorem dL_signs_106 : decode cL_signs 106 = .ok (.aload_n 0, 1) := by decide +kernel
theorem dL_signs_107 : decode cL_signs 107 = .ok (.iload 6, 2) := by decide +kernel
theorem dL_signs_109 : decode cL_signs 109 = .ok (.iload 7, 2) := by decide +kernel
theorem dL_signs_111 : decode cL_signs 111 = .ok (.iload 8, 2) := by decide +kernel
theorem dL_signs_113 : decode cL_signs 113 = .ok (.invokestatic 131, 3) := by decide +kernel
theorem dL_signs_116 : decode cL_signs 116 = .ok (.iload 11, 2) := by decide +kernel
theorem dL_signs_118 : decode cL_signs 118 = .ok (.if_icmp .ne 37, 3) := by decide +kernel
theorem dL_signs_121 : decode cL_signs 121 = .ok (.aload_n 1, 1) := by decide +kernel
theorem dL_signs_122 : decode cL_signs 122 = .ok (.iload 6, 2) := by decide +kernel
theorem dL_signs_124 : decode cL_signs 124 = .ok (.iload 7, 2) := by decide +kernel
theorem dL_signs_126 : decode cL_signs 126 = .ok (.iload 8, 2) := by decide +kernel
theorem dL_signs_128 : decode cL_signs 128 = .ok (.invokestatic 131, 3) := by decide +kernel
theorem dL_signs_131 : decode cL_signs 131 = .ok (.iload 11, 2) := by decide +kernel
theorem dL_signs_133 : decode cL_signs 133 = .ok (.if_icmp .ne 22, 3) := by decide +kernel
theorem dL_signs_136 : decode cL_signs 136 = .ok (.aload_n 0, 1) := by decide +kernel
theorem dL_signs_137 : decode cL_signs 137 = .ok (.iload 6, 2) := by decide +kernel
theorem dL_signs_139 : decode cL_signs 139 = .ok (.iload 7, 2) := by decide +kernel
theorem dL_signs_141 : decode cL_signs 141 = .ok (.bipush 6, 2) := by decide +kernel
theorem dL_signs_143 : decode cL_signs 143 = .ok (.invokestatic 131, 3) := by decide +kernel
theorem dL_signs_146 : decode cL_signs 146 = .ok (.ldc 18, 2) := by decide +kernel
theorem dL_signs_148 : decode cL_signs 148 = .ok (.if_icmp .ne 7, 3) := by decide +kernel
theorem dL_signs_151 : decode cL_signs 151 = .ok (.iconst 1, 1) := by decide +kernel
theorem dL_signs_152 : decode cL_signs 152 = .ok (.goto 4, 3) := by decide +kernel
theorem dL_signs_155 : decode cL_signs 155 = .ok (.iconst 0, 1) := by decide +kernel
theorem dL_signs_156 : decode cL_signs 156 = .ok (.istore 12, 2) := by decide +kernel
theorem dL_signs_158 : decode cL_signs 158 = .ok (.iload 10, 2) := by decide +kernel
theorem dL_signs_160 : decode cL_signs 160 = .ok (.ifCond .ne 6, 3) := by decide +kernel
theorem dL_signs_163 : decode cL_signs 163 = .ok (.iload 12, 2) := by decide +kernel
theorem dL_signs_165 : decode cL_signs 165 = .ok (.ireturn, 1) := by decide +kernel
theorem dL_signs_166 : decode cL_signs 166 = .ok (.aload 5, 2) := by decide +kernel
theorem dL_signs_168 : decode cL_signs 168 = .ok (.iconst 2, 1) := by decide +kernel
theorem dL_signs_169 : decode cL_signs 169 = .ok (.aload_n 3, 1) := by decide +kernel
theorem dL_signs_170 : decode cL_signs 170 = .ok (.iload 6, 2) := by decide +kernel
theorem dL_signs_172 : decode cL_signs 172 = .ok (.iaload, 1) := by decide +kernel
theorem dL_signs_173 : decode cL_signs 173 = .ok (.iconst 4, 1) := by decide +kernel
theorem dL_signs_174 : decode cL_signs 174 = .ok (.idiv, 1) := by decide +kernel
theorem dL_signs_175 : decode cL_signs 175 = .ok (.imul, 1) := by decide +kernel
theorem dL_signs_176 : decode cL_signs 176 = .ok (.dup2, 1) := by decide +kernel
theorem dL_signs_177 : decode cL_signs 177 = .ok (.iaload, 1) := by decide +kernel
theorem dL_signs_178 : decode cL_signs 178 = .ok (.iconst 1, 1) := by decide +kernel
theorem dL_signs_179 : decode cL_signs 179 = .ok (.iadd, 1) := by decide +kernel
theorem dL_signs_180 : decode cL_signs 180 = .ok (.iastore, 1) := by decide +kernel
theorem dL_signs_181 : decode cL_signs 181 = .ok (.aload 5, 2) := by decide +kernel
theorem dL_signs_183 : decode cL_signs 183 = .ok (.iconst 2, 1) := by decide +kernel
theorem dL_signs_184 : decode cL_signs 184 = .ok (.aload_n 3, 1) := by decide +kernel
theorem dL_signs_185 : decode cL_signs 185 = .ok (.iload 6, 2) := by decide +kernel
theorem dL_signs_187 : decode cL_signs 187 = .ok (.iaload, 1) := by decide +kernel
theorem dL_signs_188 : decode cL_signs 188 = .ok (.iconst 4, 1) := by decide +kernel
theorem dL_signs_189 : decode cL_signs 189 = .ok (.idiv, 1) := by decide +kernel
theorem dL_signs_190 : decode cL_signs 190 = .ok (.imul, 1) := by decide +kernel
theorem dL_signs_191 : decode cL_signs 191 = .ok (.iconst 1, 1) := by decide +kernel
theorem dL_signs_192 : decode cL_signs 192 = .ok (.iadd, 1) := by decide +kernel
theorem dL_signs_193 : decode cL_signs 193 = .ok (.dup2, 1) := by decide +kernel
theorem dL_signs_194 : decode cL_signs 194 = .ok (.iaload, 1) := by decide +kernel
theorem dL_signs_195 : decode cL_signs 195 = .ok (.iload 9, 2) := by decide +kernel
theorem dL_signs_197 : decode cL_signs 197 = .ok (.ifCond .ne 7, 3) := by decide +kernel
theorem dL_signs_200 : decode cL_signs 200 = .ok (.iconst 1, 1) := by decide +kernel
theorem dL_signs_201 : decode cL_signs 201 = .ok (.goto 4, 3) := by decide +kernel
theorem dL_signs_204 : decode cL_signs 204 = .ok (.iconst 0, 1) := by decide +kernel
theorem dL_signs_205 : decode cL_signs 205 = .ok (.iadd, 1) := by decide +kernel
theorem dL_signs_206 : decode cL_signs 206 = .ok (.iastore, 1) := by decide +kernel
theorem dL_signs_207 : decode cL_signs 207 = .ok (.iload 12, 2) := by decide +kernel
theorem dL_signs_209 : decode cL_signs 209 = .ok (.ifCond .eq 61, 3) := by decide +kernel
theorem dL_signs_212 : decode cL_signs 212 = .ok (.aload_n 0, 1) := by decide +kernel
theorem dL_signs_213 : decode cL_signs 213 = .ok (.iload 6, 2) := by decide +kernel
theorem dL_signs_215 : decode cL_signs 215 = .ok (.iload 7, 2) := by decide +kernel
theorem dL_signs_217 : decode cL_signs 217 = .ok (.invokestatic 125, 3) := by decide +kernel
theorem dL_signs_220 : decode cL_signs 220 = .ok (.iconst 1, 1) := by decide +kernel
theorem dL_signs_221 : decode cL_signs 221 = .ok (.if_icmp .ne 49, 3) := by decide +kernel
theorem dL_signs_224 : decode cL_signs 224 = .ok (.aload_n 0, 1) := by decide +kernel
theorem dL_signs_225 : decode cL_signs 225 = .ok (.iload 6, 2) := by decide +kernel
theorem dL_signs_227 : decode cL_signs 227 = .ok (.iload 7, 2) := by decide +kernel
theorem dL_signs_229 : decode cL_signs 229 = .ok (.invokestatic 129, 3) := by decide +kernel
theorem dL_signs_232 : decode cL_signs 232 = .ok (.iload 9, 2) := by decide +kernel
theorem dL_signs_234 : decode cL_signs 234 = .ok (.if_icmp .ne 36, 3) := by decide +kernel
theorem dL_signs_237 : decode cL_signs 237 = .ok (.aload_n 0, 1) := by decide +kernel
theorem dL_signs_238 : decode cL_signs 238 = .ok (.aload_n 3, 1) := by decide +kernel
theorem dL_signs_239 : decode cL_signs 239 = .ok (.iload 6, 2) := by decide +kernel
theorem dL_signs_241 : decode cL_signs 241 = .ok (.iaload, 1) := by decide +kernel
theorem dL_signs_242 : decode cL_signs 242 = .ok (.iload 7, 2) := by decide +kernel
theorem dL_signs_244 : decode cL_signs 244 = .ok (.aload_n 0, 1) := by decide +kernel
theorem dL_signs_245 : decode cL_signs 245 = .ok (.iload 6, 2) := by decide +kernel
theorem dL_signs_247 : decode cL_signs 247 = .ok (.invokestatic 105, 3) := by decide +kernel
theorem dL_signs_250 : decode cL_signs 250 = .ok (.invokestatic 102, 3) := by decide +kernel
theorem dL_signs_253 : decode cL_signs 253 = .ok (.aload 4, 2) := by decide +kernel
theorem dL_signs_255 : decode cL_signs 255 = .ok (.iconst 5, 1) := by decide +kernel
theorem dL_signs_256 : decode cL_signs 256 = .ok (.iload 6, 2) := by decide +kernel
theorem dL_signs_258 : decode cL_signs 258 = .ok (.imul, 1) := by decide +kernel
theorem dL_signs_259 : decode cL_signs 259 = .ok (.iload 7, 2) := by decide +kernel
theorem dL_signs_261 : decode cL_signs 261 = .ok (.iadd, 1) := by decide +kernel
theorem dL_signs_262 : decode cL_signs 262 = .ok (.iaload, 1) := by decide +kernel
theorem dL_signs_263 : decode cL_signs 263 = .ok (.if_icmp .ne 7, 3) := by decide +kernel
theorem dL_signs_266 : decode cL_signs 266 = .ok (.iconst 1, 1) := by decide +kernel
theorem dL_signs_267 : decode cL_signs 267 = .ok (.goto 4, 3) := by decide +kernel
theorem dL_signs_270 : decode cL_signs 270 = .ok (.iconst 0, 1) := by decide +kernel
theorem dL_signs_271 : decode cL_signs 271 = .ok (.ireturn, 1) := by decide +kernel
theorem dL_settles_0 : decode cL_settles 0 = .ok (.aload_n 0, 1) := by decide +kernel
theorem dL_settles_1 : decode cL_settles 1 = .ok (.iload 6, 2) := by decide +kernel
theorem dL_settles_3 : decode cL_settles 3 = .ok (.iload 7, 2) := by decide +kernel
theorem dL_settles_5 : decode cL_settles 5 = .ok (.invokestatic 127, 3) := by decide +kernel
theorem dL_settles_8 : decode cL_settles 8 = .ok (.istore 9, 2) := by decide +kernel
theorem dL_settles_10 : decode cL_settles 10 = .ok (.iload 9, 2) := by decide +kernel
theorem dL_settles_12 : decode cL_settles 12 = .ok (.ifCond .ge 100, 3) := by decide +kernel
theorem dL_settles_15 : decode cL_settles 15 = .ok (.iload 8, 2) := by decide +kernel
theorem dL_settles_17 : decode cL_settles 17 = .ok (.aload 5, 2) := by decide +kernel
theorem dL_settles_19 : decode cL_settles 19 = .ok (.iconst 2, 1) := by decide +kernel
theorem dL_settles_20 : decode cL_settles 20 = .ok (.iaload, 1) := by decide +kernel
theorem dL_settles_21 : decode cL_settles 21 = .ok (.invokestatic 143, 3) := by decide +kernel
theorem dL_settles_24 : decode cL_settles 24 = .ok (.istore 9, 2) := by decide +kernel
theorem dL_settles_26 : decode cL_settles 26 = .ok (.aload_n 3, 1) := by decide +kernel
theorem dL_settles_27 : decode cL_settles 27 = .ok (.iconst 5, 1) := by decide +kernel
theorem dL_settles_28 : decode cL_settles 28 = .ok (.iload 6, 2) := by decide +kernel
theorem dL_settles_30 : decode cL_settles 30 = .ok (.imul, 1) := by decide +kernel
theorem dL_settles_31 : decode cL_settles 31 = .ok (.iload 7, 2) := by decide +kernel
theorem dL_settles_33 : decode cL_settles 33 = .ok (.iadd, 1) := by decide +kernel
theorem dL_settles_34 : decode cL_settles 34 = .ok (.iaload, 1) := by decide +kernel
theorem dL_settles_35 : decode cL_settles 35 = .ok (.ifCond .lt 15, 3) := by decide +kernel
theorem dL_settles_38 : decode cL_settles 38 = .ok (.aload_n 3, 1) := by decide +kernel
theorem dL_settles_39 : decode cL_settles 39 = .ok (.iconst 5, 1) := by decide +kernel
theorem dL_settles_40 : decode cL_settles 40 = .ok (.iload 9, 2) := by decide +kernel
theorem dL_settles_42 : decode cL_settles 42 = .ok (.imul, 1) := by decide +kernel
theorem dL_settles_43 : decode cL_settles 43 = .ok (.iload 7, 2) := by decide +kernel
theorem dL_settles_45 : decode cL_settles 45 = .ok (.iadd, 1) := by decide +kernel
theorem dL_settles_46 : decode cL_settles 46 = .ok (.iaload, 1) := by decide +kernel
theorem dL_settles_47 : decode cL_settles 47 = .ok (.ifCond .ge 8, 3) := by decide +kernel
theorem dL_settles_50 : decode cL_settles 50 = .ok (.ldc 21, 2) := by decide +kernel
theorem dL_settles_52 : decode cL_settles 52 = .ok (.goto 5, 3) := by decide +kernel
theorem dL_settles_55 : decode cL_settles 55 = .ok (.ldc 31, 2) := by decide +kernel
theorem dL_settles_57 : decode cL_settles 57 = .ok (.istore 10, 2) := by decide +kernel
theorem dL_settles_59 : decode cL_settles 59 = .ok (.aload_n 0, 1) := by decide +kernel
theorem dL_settles_60 : decode cL_settles 60 = .ok (.iload 6, 2) := by decide +kernel
theorem dL_settles_62 : decode cL_settles 62 = .ok (.iload 9, 2) := by decide +kernel
theorem dL_settles_64 : decode cL_settles 64 = .ok (.iload 7, 2) := by decide +kernel
theorem dL_settles_66 : decode cL_settles 66 = .ok (.invokestatic 152, 3) := by decide +kernel
theorem dL_settles_69 : decode cL_settles 69 = .ok (.iload 10, 2) := by decide +kernel
theorem dL_settles_71 : decode cL_settles 71 = .ok (.if_icmp .ne 39, 3) := by decide +kernel
theorem dL_settles_74 : decode cL_settles 74 = .ok (.aload_n 1, 1) := by decide +kernel
theorem dL_settles_75 : decode cL_settles 75 = .ok (.iload 6, 2) := by decide +kernel
theorem dL_settles_77 : decode cL_settles 77 = .ok (.iload 9, 2) := by decide +kernel
theorem dL_settles_79 : decode cL_settles 79 = .ok (.iload 7, 2) := by decide +kernel
theorem dL_settles_81 : decode cL_settles 81 = .ok (.invokestatic 152, 3) := by decide +kernel
theorem dL_settles_84 : decode cL_settles 84 = .ok (.iload 10, 2) := by decide +kernel
theorem dL_settles_86 : decode cL_settles 86 = .ok (.if_icmp .ne 24, 3) := by decide +kernel
theorem dL_settles_89 : decode cL_settles 89 = .ok (.aload_n 0, 1) := by decide +kernel
theorem dL_settles_90 : decode cL_settles 90 = .ok (.iload 6, 2) := by decide +kernel
theorem dL_settles_92 : decode cL_settles 92 = .ok (.aload 5, 2) := by decide +kernel
theorem dL_settles_94 : decode cL_settles 94 = .ok (.iconst 2, 1) := by decide +kernel
theorem dL_settles_95 : decode cL_settles 95 = .ok (.iaload, 1) := by decide +kernel
theorem dL_settles_96 : decode cL_settles 96 = .ok (.iload 7, 2) := by decide +kernel
theorem dL_settles_98 : decode cL_settles 98 = .ok (.invokestatic 152, 3) := by decide +kernel
theorem dL_settles_101 : decode cL_settles 101 = .ok (.ldc 18, 2) := by decide +kernel
theorem dL_settles_103 : decode cL_settles 103 = .ok (.if_icmp .ne 7, 3) := by decide +kernel
theorem dL_settles_106 : decode cL_settles 106 = .ok (.iconst 1, 1) := by decide +kernel
theorem dL_settles_107 : decode cL_settles 107 = .ok (.goto 4, 3) := by decide +kernel
theorem dL_settles_110 : decode cL_settles 110 = .ok (.iconst 0, 1) := by decide +kernel
theorem dL_settles_111 : decode cL_settles 111 = .ok (.ireturn, 1) := by decide +kernel
theorem dL_settles_112 : decode cL_settles 112 = .ok (.aload_n 0, 1) := by decide +kernel
theorem dL_settles_113 : decode cL_settles 113 = .ok (.iload 6, 2) := by decide +kernel
theorem dL_settles_115 : decode cL_settles 115 = .ok (.iload 7, 2) := by decide +kernel
theorem dL_settles_117 : decode cL_settles 117 = .ok (.invokestatic 129, 3) := by decide +kernel
theorem dL_settles_120 : decode cL_settles 120 = .ok (.invokestatic 149, 3) := by decide +kernel
theorem dL_settles_123 : decode cL_settles 123 = .ok (.istore 10, 2) := by decide +kernel
theorem dL_settles_125 : decode cL_settles 125 = .ok (.aload_n 0, 1) := by decide +kernel
theorem dL_settles_126 : decode cL_settles 126 = .ok (.iload 6, 2) := by decide +kernel
theorem dL_settles_128 : decode cL_settles 128 = .ok (.iload 9, 2) := by decide +kernel
theorem dL_settles_130 : decode cL_settles 130 = .ok (.iload 7, 2) := by decide +kernel
theorem dL_settles_132 : decode cL_settles 132 = .ok (.invokestatic 152, 3) := by decide +kernel
theorem dL_settles_135 : decode cL_settles 135 = .ok (.iload 10, 2) := by decide +kernel
theorem dL_settles_137 : decode cL_settles 137 = .ok (.if_icmp .ne 66, 3) := by decide +kernel
theorem dL_settles_140 : decode cL_settles 140 = .ok (.aload_n 1, 1) := by decide +kernel
theorem dL_settles_141 : decode cL_settles 141 = .ok (.iload 6, 2) := by decide +kernel
theorem dL_settles_143 : decode cL_settles 143 = .ok (.iload 9, 2) := by decide +kernel
theorem dL_settles_145 : decode cL_settles 145 = .ok (.iload 7, 2) := by decide +kernel
theorem dL_settles_147 : decode cL_settles 147 = .ok (.invokestatic 152, 3) := by decide +kernel
theorem dL_settles_150 : decode cL_settles 150 = .ok (.iload 10, 2) := by decide +kernel
theorem dL_settles_152 : decode cL_settles 152 = .ok (.if_icmp .ne 51, 3) := by decide +kernel
theorem dL_settles_155 : decode cL_settles 155 = .ok (.iload 10, 2) := by decide +kernel
theorem dL_settles_157 : decode cL_settles 157 = .ok (.ifCond .le 46, 3) := by decide +kernel
theorem dL_settles_160 : decode cL_settles 160 = .ok (.aload_n 0, 1) := by decide +kernel
theorem dL_settles_161 : decode cL_settles 161 = .ok (.iload 6, 2) := by decide +kernel
theorem dL_settles_163 : decode cL_settles 163 = .ok (.iload 7, 2) := by decide +kernel
theorem dL_settles_165 : decode cL_settles 165 = .ok (.invokestatic 125, 3) := by decide +kernel
theorem dL_settles_168 : decode cL_settles 168 = .ok (.iconst 1, 1) := by decide +kernel
theorem dL_settles_169 : decode cL_settles 169 = .ok (.if_icmp .ne 34, 3) := by decide +kernel
theorem dL_settles_172 : decode cL_settles 172 = .ok (.aload_n 0, 1) := by decide +kernel
theorem dL_settles_173 : decode cL_settles 173 = .ok (.iload 9, 2) := by decide +kernel
theorem dL_settles_175 : decode cL_settles 175 = .ok (.iload 7, 2) := by decide +kernel
theorem dL_settles_177 : decode cL_settles 177 = .ok (.invokestatic 125, 3) := by decide +kernel
theorem dL_settles_180 : decode cL_settles 180 = .ok (.iconst 1, 1) := by decide +kernel
theorem dL_settles_181 : decode cL_settles 181 = .ok (.if_icmp .ne 22, 3) := by decide +kernel
theorem dL_settles_184 : decode cL_settles 184 = .ok (.aload_n 0, 1) := by decide +kernel
theorem dL_settles_185 : decode cL_settles 185 = .ok (.iload 9, 2) := by decide +kernel
theorem dL_settles_187 : decode cL_settles 187 = .ok (.iload 6, 2) := by decide +kernel
theorem dL_settles_189 : decode cL_settles 189 = .ok (.iload 7, 2) := by decide +kernel
theorem dL_settles_191 : decode cL_settles 191 = .ok (.invokestatic 152, 3) := by decide +kernel
theorem dL_settles_194 : decode cL_settles 194 = .ok (.ldc 31, 2) := by decide +kernel
theorem dL_settles_196 : decode cL_settles 196 = .ok (.if_icmp .ne 7, 3) := by decide +kernel
theorem dL_settles_199 : decode cL_settles 199 = .ok (.iconst 1, 1) := by decide +kernel
theorem dL_settles_200 : decode cL_settles 200 = .ok (.goto 4, 3) := by decide +kernel
theorem dL_settles_203 : decode cL_settles 203 = .ok (.iconst 0, 1) := by decide +kernel
theorem dL_settles_204 : decode cL_settles 204 = .ok (.istore 11, 2) := by decide +kernel
theorem dL_settles_206 : decode cL_settles 206 = .ok (.aload 4, 2) := by decide +kernel
theorem dL_settles_208 : decode cL_settles 208 = .ok (.iconst 2, 1) := by decide +kernel
theorem dL_settles_209 : decode cL_settles 209 = .ok (.aload_n 2, 1) := by decide +kernel
theorem dL_settles_210 : decode cL_settles 210 = .ok (.iload 6, 2) := by decide +kernel
theorem dL_settles_212 : decode cL_settles 212 = .ok (.iaload, 1) := by decide +kernel
theorem dL_settles_213 : decode cL_settles 213 = .ok (.iconst 4, 1) := by decide +kernel
theorem dL_settles_214 : decode cL_settles 214 = .ok (.idiv, 1) := by decide +kernel
theorem dL_settles_215 : decode cL_settles 215 = .ok (.imul, 1) := by decide +kernel
theorem dL_settles_216 : decode cL_settles 216 = .ok (.dup2, 1) := by decide +kernel
theorem dL_settles_217 : decode cL_settles 217 = .ok (.iaload, 1) := by decide +kernel
theorem dL_settles_218 : decode cL_settles 218 = .ok (.iconst 1, 1) := by decide +kernel
theorem dL_settles_219 : decode cL_settles 219 = .ok (.iadd, 1) := by decide +kernel
theorem dL_settles_220 : decode cL_settles 220 = .ok (.iastore, 1) := by decide +kernel
theorem dL_settles_221 : decode cL_settles 221 = .ok (.aload 4, 2) := by decide +kernel
theorem dL_settles_223 : decode cL_settles 223 = .ok (.iconst 2, 1) := by decide +kernel
theorem dL_settles_224 : decode cL_settles 224 = .ok (.aload_n 2, 1) := by decide +kernel
theorem dL_settles_225 : decode cL_settles 225 = .ok (.iload 9, 2) := by decide +kernel
theorem dL_settles_227 : decode cL_settles 227 = .ok (.iaload, 1) := by decide +kernel
theorem dL_settles_228 : decode cL_settles 228 = .ok (.iconst 4, 1) := by decide +kernel
theorem dL_settles_229 : decode cL_settles 229 = .ok (.idiv, 1) := by decide +kernel
theorem dL_settles_230 : decode cL_settles 230 = .ok (.imul, 1) := by decide +kernel
theorem dL_settles_231 : decode cL_settles 231 = .ok (.dup2, 1) := by decide +kernel
theorem dL_settles_232 : decode cL_settles 232 = .ok (.iaload, 1) := by decide +kernel
theorem dL_settles_233 : decode cL_settles 233 = .ok (.iconst 1, 1) := by decide +kernel
theorem dL_settles_234 : decode cL_settles 234 = .ok (.iadd, 1) := by decide +kernel
theorem dL_settles_235 : decode cL_settles 235 = .ok (.iastore, 1) := by decide +kernel
theorem dL_settles_236 : decode cL_settles 236 = .ok (.iload 11, 2) := by decide +kernel
theorem dL_settles_238 : decode cL_settles 238 = .ok (.ifCond .eq 63, 3) := by decide +kernel
theorem dL_settles_241 : decode cL_settles 241 = .ok (.aload_n 0, 1) := by decide +kernel
theorem dL_settles_242 : decode cL_settles 242 = .ok (.aload_n 2, 1) := by decide +kernel
theorem dL_settles_243 : decode cL_settles 243 = .ok (.iload 6, 2) := by decide +kernel
theorem dL_settles_245 : decode cL_settles 245 = .ok (.iaload, 1) := by decide +kernel
theorem dL_settles_246 : decode cL_settles 246 = .ok (.iload 7, 2) := by decide +kernel
theorem dL_settles_248 : decode cL_settles 248 = .ok (.aload_n 0, 1) := by decide +kernel
theorem dL_settles_249 : decode cL_settles 249 = .ok (.iload 6, 2) := by decide +kernel
theorem dL_settles_251 : decode cL_settles 251 = .ok (.invokestatic 105, 3) := by decide +kernel
theorem dL_settles_254 : decode cL_settles 254 = .ok (.invokestatic 102, 3) := by decide +kernel
theorem dL_settles_257 : decode cL_settles 257 = .ok (.aload_n 3, 1) := by decide +kernel
theorem dL_settles_258 : decode cL_settles 258 = .ok (.iconst 5, 1) := by decide +kernel
theorem dL_settles_259 : decode cL_settles 259 = .ok (.iload 6, 2) := by decide +kernel
theorem dL_settles_261 : decode cL_settles 261 = .ok (.imul, 1) := by decide +kernel
theorem dL_settles_262 : decode cL_settles 262 = .ok (.iload 7, 2) := by decide +kernel
theorem dL_settles_264 : decode cL_settles 264 = .ok (.iadd, 1) := by decide +kernel
theorem dL_settles_265 : decode cL_settles 265 = .ok (.iaload, 1) := by decide +kernel
theorem dL_settles_266 : decode cL_settles 266 = .ok (.if_icmp .ne 35, 3) := by decide +kernel
theorem dL_settles_269 : decode cL_settles 269 = .ok (.aload_n 0, 1) := by decide +kernel
theorem dL_settles_270 : decode cL_settles 270 = .ok (.aload_n 2, 1) := by decide +kernel
theorem dL_settles_271 : decode cL_settles 271 = .ok (.iload 9, 2) := by decide +kernel
theorem dL_settles_273 : decode cL_settles 273 = .ok (.iaload, 1) := by decide +kernel
theorem dL_settles_274 : decode cL_settles 274 = .ok (.iload 7, 2) := by decide +kernel
theorem dL_settles_276 : decode cL_settles 276 = .ok (.aload_n 0, 1) := by decide +kernel
theorem dL_settles_277 : decode cL_settles 277 = .ok (.iload 9, 2) := by decide +kernel
theorem dL_settles_279 : decode cL_settles 279 = .ok (.invokestatic 105, 3) := by decide +kernel
theorem dL_settles_282 : decode cL_settles 282 = .ok (.invokestatic 102, 3) := by decide +kernel
theorem dL_settles_285 : decode cL_settles 285 = .ok (.aload_n 3, 1) := by decide +kernel
theorem dL_settles_286 : decode cL_settles 286 = .ok (.iconst 5, 1) := by decide +kernel
theorem dL_settles_287 : decode cL_settles 287 = .ok (.iload 9, 2) := by decide +kernel
theorem dL_settles_289 : decode cL_settles 289 = .ok (.imul, 1) := by decide +kernel
theorem dL_settles_290 : decode cL_settles 290 = .ok (.iload 7, 2) := by decide +kernel
theorem dL_settles_292 : decode cL_settles 292 = .ok (.iadd, 1) := by decide +kernel
theorem dL_settles_293 : decode cL_settles 293 = .ok (.iaload, 1) := by decide +kernel
theorem dL_settles_294 : decode cL_settles 294 = .ok (.if_icmp .ne 7, 3) := by decide +kernel
theorem dL_settles_297 : decode cL_settles 297 = .ok (.iconst 1, 1) := by decide +kernel
theorem dL_settles_298 : decode cL_settles 298 = .ok (.goto 4, 3) := by decide +kernel
theorem dL_settles_301 : decode cL_settles 301 = .ok (.iconst 0, 1) := by decide +kernel
theorem dL_settles_302 : decode cL_settles 302 = .ok (.ireturn, 1) := by decide +kernel
