theorem dL_settles_1 : decode cL_settles 1 = .ok (.iload_n 1, 1) := by decide +kernel
theorem dL_settles_2 : decode cL_settles 2 = .ok (.iload_n 2, 1) := by decide +kernel
theorem dL_settles_3 : decode cL_settles 3 = .ok (.invokevirtual 44, 3) := by decide +kernel
theorem dL_settles_6 : decode cL_settles 6 = .ok (.ireturn, 1) := by decide +kernel
theorem dL_settles_7 : decode cL_settles 7 = .ok (.astore_n 3, 1) := by decide +kernel
theorem dL_settles_8 : decode cL_settles 8 = .ok (.ldc 30, 2) := by decide +kernel
theorem dL_settles_10 : decode cL_settles 10 = .ok (.ireturn, 1) := by decide +kernel
theorem dL_settles_11 : decode cL_settles 11 = .ok (.astore_n 3, 1) := by decide +kernel
theorem dL_settles_12 : decode cL_settles 12 = .ok (.ldc 20, 2) := by decide +kernel
theorem dL_settles_14 : decode cL_settles 14 = .ok (.ireturn, 1) := by decide +kernel
theorem dL_credits_0 : decode cL_credits 0 = .ok (.aload_n 0, 1) := by decide +kernel
theorem dL_credits_1 : decode cL_credits 1 = .ok (.iload_n 1, 1) := by decide +kernel
theorem dL_credits_2 : decode cL_credits 2 = .ok (.iload_n 2, 1) := by decide +kernel
theorem dL_credits_3 : decode cL_credits 3 = .ok (.iload_n 3, 1) := by decide +kernel
theorem dL_credits_4 : decode cL_credits 4 = .ok (.invokevirtual 48, 3) := by decide +kernel
theorem dL_credits_7 : decode cL_credits 7 = .ok (.ireturn, 1) := by decide +kernel
theorem dL_credits_8 : decode cL_credits 8 = .ok (.astore 4, 2) := by decide +kernel
theorem dL_credits_10 : decode cL_credits 10 = .ok (.ldc 30, 2) := by decide +kernel
theorem dL_credits_12 : decode cL_credits 12 = .ok (.ireturn, 1) := by decide +kernel
theorem dL_credits_13 : decode cL_credits 13 = .ok (.astore 4, 2) := by decide +kernel
theorem dL_credits_15 : decode cL_credits 15 = .ok (.ldc 17, 2) := by decide +kernel
theorem dL_credits_17 : decode cL_credits 17 = .ok (.ireturn, 1) := by decide +kernel
theorem dL_credits_18 : decode cL_credits 18 = .ok (.astore 4, 2) := by decide +kernel
theorem dL_credits_20 : decode cL_credits 20 = .ok (.ldc 20, 2) := by decide +kernel
theorem dL_credits_22 : decode cL_credits 22 = .ok (.ireturn, 1) := by decide +kernel
theorem dL_ends_0 : decode cL_ends 0 = .ok (.aload_n 0, 1) := by decide +kernel
theorem dL_ends_1 : decode cL_ends 1 = .ok (.invokevirtual 51, 3) := by decide +kernel
theorem dL_ends_4 : decode cL_ends 4 = .ok (.ireturn, 1) := by decide +kernel
theorem dL_ends_5 : decode cL_ends 5 = .ok (.astore_n 1, 1) := by decide +kernel
theorem dL_ends_6 : decode cL_ends 6 = .ok (.ldc 20, 2) := by decide +kernel
theorem dL_ends_8 : decode cL_ends 8 = .ok (.ireturn, 1) := by decide +kernel
theorem dL_moves_0 : decode cL_moves 0 = .ok (.aload_n 0, 1) := by decide +kernel
theorem dL_moves_1 : decode cL_moves 1 = .ok (.iload_n 1, 1) := by decide +kernel
theorem dL_moves_2 : decode cL_moves 2 = .ok (.iload_n 2, 1) := by decide +kernel
theorem dL_moves_3 : decode cL_moves 3 = .ok (.invokevirtual 55, 3) := by decide +kernel
theorem dL_moves_6 : decode cL_moves 6 = .ok (.ireturn, 1) := by decide +kernel
theorem dL_moves_7 : decode cL_moves 7 = .ok (.astore_n 3, 1) := by decide +kernel
theorem dL_moves_8 : decode cL_moves 8 = .ok (.ldc 30, 2) := by decide +kernel
theorem dL_moves_10 : decode cL_moves 10 = .ok (.ireturn, 1) := by decide +kernel
theorem dL_moves_11 : decode cL_moves 11 = .ok (.astore_n 3, 1) := by decide +kernel
theorem dL_moves_12 : decode cL_moves 12 = .ok (.ldc 20, 2) := by decide +kernel
theorem dL_moves_14 : decode cL_moves 14 = .ok (.ireturn, 1) := by decide +kernel
theorem dL_leaves_0 : decode cL_leaves 0 = .ok (.aload_n 0, 1) := by decide +kernel
theorem dL_leaves_1 : decode cL_leaves 1 = .ok (.iload_n 1, 1) := by decide +kernel
theorem dL_leaves_2 : decode cL_leaves 2 = .ok (.invokevirtual 58, 3) := by decide +kernel
theorem dL_leaves_5 : decode cL_leaves 5 = .ok (.ireturn, 1) := by decide +kernel
theorem dL_leaves_6 : decode cL_leaves 6 = .ok (.astore_n 2, 1) := by decide +kernel
theorem dL_leaves_7 : decode cL_leaves 7 = .ok (.ldc 30, 2) := by decide +kernel
theorem dL_leaves_9 : decode cL_leaves 9 = .ok (.ireturn, 1) := by decide +kernel
theorem dL_leaves_10 : decode cL_leaves 10 = .ok (.astore_n 2, 1) := by decide +kernel
theorem dL_leaves_11 : decode cL_leaves 11 = .ok (.ldc 20, 2) := by decide +kernel
theorem dL_leaves_13 : decode cL_leaves 13 = .ok (.ireturn, 1) := by decide +kernel
theorem dL_swaps_0 : decode cL_swaps 0 = .ok (.aload_n 0, 1) := by decide +kernel
theorem dL_swaps_1 : decode cL_swaps 1 = .ok (.iload_n 1, 1) := by decide +kernel
theorem dL_swaps_2 : decode cL_swaps 2 = .ok (.iload_n 2, 1) := by decide +kernel
theorem dL_swaps_3 : decode cL_swaps 3 = .ok (.invokevirtual 61, 3) := by decide +kernel
theorem dL_swaps_6 : decode cL_swaps 6 = .ok (.ireturn, 1) := by decide +kernel
theorem dL_swaps_7 : decode cL_swaps 7 = .ok (.astore_n 3, 1) := by decide +kernel
theorem dL_swaps_8 : decode cL_swaps 8 = .ok (.ldc 30, 2) := by decide +kernel
theorem dL_swaps_10 : decode cL_swaps 10 = .ok (.ireturn, 1) := by decide +kernel
theorem dL_swaps_11 : decode cL_swaps 11 = .ok (.astore_n 3, 1) := by decide +kernel
theorem dL_swaps_12 : decode cL_swaps 12 = .ok (.ldc 17, 2) := by decide +kernel
theorem dL_swaps_14 : decode cL_swaps 14 = .ok (.ireturn, 1) := by decide +kernel
theorem dL_swaps_15 : decode cL_swaps 15 = .ok (.astore_n 3, 1) := by decide +kernel
theorem dL_swaps_16 : decode cL_swaps 16 = .ok (.ldc 20, 2) := by decide +kernel
theorem dL_swaps_18 : decode cL_swaps 18 = .ok (.ireturn, 1) := by decide +kernel
theorem dL_why_0 : decode cL_why 0 = .ok (.aload_n 0, 1) := by decide +kernel
theorem dL_why_1 : decode cL_why 1 = .ok (.iload_n 1, 1) := by decide +kernel
theorem dL_why_2 : decode cL_why 2 = .ok (.iload_n 2, 1) := by decide +kernel
theorem dL_why_3 : decode cL_why 3 = .ok (.invokevirtual 64, 3) := by decide +kernel
theorem dL_why_6 : decode cL_why 6 = .ok (.ireturn, 1) := by decide +kernel
theorem dL_why_7 : decode cL_why 7 = .ok (.astore_n 3, 1) := by decide +kernel
theorem dL_why_8 : decode cL_why 8 = .ok (.ldc 30, 2) := by decide +kernel
theorem dL_why_10 : decode cL_why 10 = .ok (.ireturn, 1) := by decide +kernel
theorem dL_mentor_0 : decode cL_mentor 0 = .ok (.aload_n 0, 1) := by decide +kernel
theorem dL_mentor_1 : decode cL_mentor 1 = .ok (.iload_n 1, 1) := by decide +kernel
theorem dL_mentor_2 : decode cL_mentor 2 = .ok (.iload_n 2, 1) := by decide +kernel
theorem dL_mentor_3 : decode cL_mentor 3 = .ok (.invokevirtual 67, 3) := by decide +kernel
theorem dL_mentor_6 : decode cL_mentor 6 = .ok (.ireturn, 1) := by decide +kernel
theorem dL_mentor_7 : decode cL_mentor 7 = .ok (.astore_n 3, 1) := by decide +kernel
theorem dL_mentor_8 : decode cL_mentor 8 = .ok (.ldc 30, 2) := by decide +kernel
theorem dL_mentor_10 : decode cL_mentor 10 = .ok (.ireturn, 1) := by decide +kernel
theorem dL_mentor_11 : decode cL_mentor 11 = .ok (.astore_n 3, 1) := by decide +kernel
theorem dL_mentor_12 : decode cL_mentor 12 = .ok (.ldc 17, 2) := by decide +kernel
theorem dL_mentor_14 : decode cL_mentor 14 = .ok (.ireturn, 1) := by decide +kernel
theorem dL_one_0 : decode cL_one 0 = .ok (.aload_n 0, 1) := by decide +kernel
theorem dL_one_1 : decode cL_one 1 = .ok (.iload_n 1, 1) := by decide +kernel
theorem dL_one_2 : decode cL_one 2 = .ok (.iload_n 2, 1) := by decide +kernel
theorem dL_one_3 : decode cL_one 3 = .ok (.invokevirtual 70, 3) := by decide +kernel
theorem dL_one_6 : decode cL_one 6 = .ok (.ireturn, 1) := by decide +kernel
theorem dL_one_7 : decode cL_one 7 = .ok (.astore_n 3, 1) := by decide +kernel
theorem dL_one_8 : decode cL_one 8 = .ok (.ldc 30, 2) := by decide +kernel
theorem dL_one_10 : decode cL_one 10 = .ok (.ireturn, 1) := by decide +kernel
theorem dL_one_11 : decode cL_one 11 = .ok (.astore_n 3, 1) := by decide +kernel
theorem dL_one_12 : decode cL_one 12 = .ok (.ldc 17, 2) := by decide +kernel
theorem dL_one_14 : decode cL_one 14 = .ok (.ireturn, 1) := by decide +kernel
theorem dL_part_0 : decode cL_part 0 = .ok (.aload_n 0, 1) := by decide +kernel
theorem dL_part_1 : decode cL_part 1 = .ok (.iload_n 1, 1) := by decide +kernel
theorem dL_part_2 : decode cL_part 2 = .ok (.iload_n 2, 1) := by decide +kernel
theorem dL_part_3 : decode cL_part 3 = .ok (.iload_n 3, 1) := by decide +kernel
theorem dL_part_4 : decode cL_part 4 = .ok (.invokevirtual 73, 3) := by decide +kernel
theorem dL_part_7 : decode cL_part 7 = .ok (.ireturn, 1) := by decide +kernel
theorem dL_part_8 : decode cL_part 8 = .ok (.astore 4, 2) := by decide +kernel
theorem dL_part_10 : decode cL_part 10 = .ok (.ldc 30, 2) := by decide +kernel
theorem dL_part_12 : decode cL_part 12 = .ok (.ireturn, 1) := by decide +kernel
theorem dL_part_13 : decode cL_part 13 = .ok (.astore 4, 2) := by decide +kernel
theorem dL_part_15 : decode cL_part 15 = .ok (.ldc 17, 2) := by decide +kernel
theorem dL_part_17 : decode cL_part 17 = .ok (.ireturn, 1) := by decide +kernel
theorem dL_entry_0 : decode cL_entry 0 = .ok (.aload_n 0, 1) := by decide +kernel
theorem dL_entry_1 : decode cL_entry 1 = .ok (.iload_n 1, 1) := by decide +kernel
theorem dL_entry_2 : decode cL_entry 2 = .ok (.iload_n 2, 1) := by decide +kernel
theorem dL_entry_3 : decode cL_entry 3 = .ok (.iload_n 3, 1) := by decide +kernel
theorem dL_entry_4 : decode cL_entry 4 = .ok (.iload 4, 2) := by decide +kernel
theorem dL_entry_6 : decode cL_entry 6 = .ok (.invokevirtual 76, 3) := by decide +kernel
theorem dL_entry_9 : decode cL_entry 9 = .ok (.ireturn, 1) := by decide +kernel
theorem dL_entry_10 : decode cL_entry 10 = .ok (.astore 5, 2) := by decide +kernel
theorem dL_entry_12 : decode cL_entry 12 = .ok (.ldc 30, 2) := by decide +kernel
theorem dL_entry_14 : decode cL_entry 14 = .ok (.ireturn, 1) := by decide +kernel
theorem dL_entry_15 : decode cL_entry 15 = .ok (.astore 5, 2) := by decide +kernel
theorem dL_entry_17 : decode cL_entry 17 = .ok (.ldc 17, 2) := by decide +kernel
theorem dL_entry_19 : decode cL_entry 19 = .ok (.ireturn, 1) := by decide +kernel
theorem dL_whole_0 : decode cL_whole 0 = .ok (.aload_n 0, 1) := by decide +kernel
theorem dL_whole_1 : decode cL_whole 1 = .ok (.iload_n 1, 1) := by decide +kernel
theorem dL_whole_2 : decode cL_whole 2 = .ok (.invokevirtual 80, 3) := by decide +kernel
theorem dL_whole_5 : decode cL_whole 5 = .ok (.ireturn, 1) := by decide +kernel
theorem dL_whole_6 : decode cL_whole 6 = .ok (.astore_n 2, 1) := by decide +kernel
theorem dL_whole_7 : decode cL_whole 7 = .ok (.ldc 17, 2) := by decide +kernel
theorem dL_whole_9 : decode cL_whole 9 = .ok (.ireturn, 1) := by decide +kernel
theorem dL_full_0 : decode cL_full 0 = .ok (.aload_n 0, 1) := by decide +kernel
theorem dL_full_1 : decode cL_full 1 = .ok (.iload_n 1, 1) := by decide +kernel
theorem dL_full_2 : decode cL_full 2 = .ok (.iload_n 2, 1) := by decide +kernel
theorem dL_full_3 : decode cL_full 3 = .ok (.invokevirtual 83, 3) := by decide +kernel
theorem dL_full_6 : decode cL_full 6 = .ok (.ireturn, 1) := by decide +kernel
theorem dL_full_7 : decode cL_full 7 = .ok (.astore_n 3, 1) := by decide +kernel
theorem dL_full_8 : decode cL_full 8 = .ok (.ldc 30, 2) := by decide +kernel
theorem dL_full_10 : decode cL_full 10 = .ok (.ireturn, 1) := by decide +kernel
theorem dL_full_11 : decode cL_full 11 = .ok (.astore_n 3, 1) := by decide +kernel
theorem dL_full_12 : decode cL_full 12 = .ok (.ldc 17, 2) := by decide +kernel
theorem dL_full_14 : decode cL_full 14 = .ok (.ireturn, 1) := by decide +kernel
theorem dL_best_0 : decode cL_best 0 = .ok (.aload_n 0, 1) := by decide +kernel
theorem dL_best_1 : decode cL_best 1 = .ok (.iload_n 1, 1) := by decide +kernel
theorem dL_best_2 : decode cL_best 2 = .ok (.invokevirtual 86, 3) := by decide +kernel
theorem dL_best_5 : decode cL_best 5 = .ok (.ireturn, 1) := by decide +kernel
theorem dL_best_6 : decode cL_best 6 = .ok (.astore_n 2, 1) := by decide +kernel
theorem dL_best_7 : decode cL_best 7 = .ok (.ldc 30, 2) := by decide +kernel
theorem dL_best_9 : decode cL_best 9 = .ok (.ireturn, 1) := by decide +kernel
theorem dL_doubted_0 : decode cL_doubted 0 = .ok (.aload_n 0, 1) := by decide +kernel
theorem dL_doubted_1 : decode cL_doubted 1 = .ok (.iload_n 1, 1) := by decide +kernel
theorem dL_doubted_2 : decode cL_doubted 2 = .ok (.iload_n 2, 1) := by decide +kernel
theorem dL_doubted_3 : decode cL_doubted 3 = .ok (.invokevirtual 89, 3) := by decide +kernel
theorem dL_doubted_6 : decode cL_doubted 6 = .ok (.ireturn, 1) := by decide +kernel
theorem dL_doubted_7 : decode cL_doubted 7 = .ok (.astore_n 3, 1) := by decide +kernel
theorem dL_doubted_8 : decode cL_doubted 8 = .ok (.ldc 30, 2) := by decide +kernel
theorem dL_doubted_10 : decode cL_doubted 10 = .ok (.ireturn, 1) := by decide +kernel
theorem dL_next_0 : decode cL_next 0 = .ok (.aload_n 0, 1) := by decide +kernel
theorem dL_next_1 : decode cL_next 1 = .ok (.iload_n 1, 1) := by decide +kernel
theorem dL_next_2 : decode cL_next 2 = .ok (.iload_n 2, 1) := by decide +kernel
theorem dL_next_3 : decode cL_next 3 = .ok (.invokevirtual 92, 3) := by decide +kernel
theorem dL_next_6 : decode cL_next 6 = .ok (.ireturn, 1) := by decide +kernel
theorem dL_next_7 : decode cL_next 7 = .ok (.astore_n 3, 1) := by decide +kernel
theorem dL_next_8 : decode cL_next 8 = .ok (.ldc 30, 2) := by decide +kernel
theorem dL_next_10 : decode cL_next 10 = .ok (.ireturn, 1) := by decide +kernel
theorem dL_next_11 : decode cL_next 11 = .ok (.astore_n 3, 1) := by decide +kernel
theorem dL_next_12 : decode cL_next 12 = .ok (.ldc 17, 2) := by decide +kernel
theorem dL_next_14 : decode cL_next 14 = .ok (.ireturn, 1) := by decide +kernel
theorem dL_types_0 : decode cL_types 0 = .ok (.aload_n 0, 1) := by decide +kernel
theorem dL_types_1 : decode cL_types 1 = .ok (.iload_n 1, 1) := by decide +kernel
theorem dL_types_2 : decode cL_types 2 = .ok (.invokevirtual 95, 3) := by decide +kernel
theorem dL_types_5 : decode cL_types 5 = .ok (.ireturn, 1) := by decide +kernel
theorem dL_types_6 : decode cL_types 6 = .ok (.astore_n 2, 1) := by decide +kernel
theorem dL_types_7 : decode cL_types 7 = .ok (.ldc 17, 2) := by decide +kernel
theorem dL_types_9 : decode cL_types 9 = .ok (.ireturn, 1) := by decide +kernel
theorem dL_types_10 : decode cL_types 10 = .ok (.astore_n 2, 1) := by decide +kernel
theorem dL_types_11 : decode cL_types 11 = .ok (.ldc 20, 2) := by decide +kernel
theorem dL_types_13 : decode cL_types 13 = .ok (.ireturn, 1) := by decide +kernel
theorem dL_back_0 : decode cL_back 0 = .ok (.aload_n 0, 1) := by decide +kernel
theorem dL_back_1 : decode cL_back 1 = .ok (.invokevirtual 98, 3) := by decide +kernel
theorem dL_back_4 : decode cL_back 4 = .ok (.ireturn, 1) := by decide +kernel
theorem dL_back_5 : decode cL_back 5 = .ok (.astore_n 1, 1) := by decide +kernel
theorem dL_back_6 : decode cL_back 6 = .ok (.ldc 20, 2) := by decide +kernel
theorem dL_back_8 : decode cL_back 8 = .ok (.ireturn, 1) := by decide +kernel
theorem dL_sum_0 : decode cL_sum 0 = .ok (.ldc2_w 101, 3) := by decide +kernel
theorem dL_sum_3 : decode cL_sum 3 = .ok (.lstore_n 1, 1) := by decide +kernel
theorem dL_sum_4 : decode cL_sum 4 = .ok (.iconst 0, 1) := by decide +kernel
theorem dL_sum_5 : decode cL_sum 5 = .ok (.istore_n 3, 1) := by decide +kernel
theorem dL_sum_6 : decode cL_sum 6 = .ok (.iload_n 3, 1) := by decide +kernel
theorem dL_sum_7 : decode cL_sum 7 = .ok (.bipush 10, 2) := by decide +kernel
theorem dL_sum_9 : decode cL_sum 9 = .ok (.if_icmp .ge 22, 3) := by decide +kernel
theorem dL_sum_12 : decode cL_sum 12 = .ok (.ldc2_w 103, 3) := by decide +kernel
theorem dL_sum_15 : decode cL_sum 15 = .ok (.lload_n 1, 1) := by decide +kernel
theorem dL_sum_16 : decode cL_sum 16 = .ok (.lmul, 1) := by decide +kernel
theorem dL_sum_17 : decode cL_sum 17 = .ok (.aload_n 0, 1) := by decide +kernel
theorem dL_sum_18 : decode cL_sum 18 = .ok (.iload_n 3, 1) := by decide +kernel
theorem dL_sum_19 : decode cL_sum 19 = .ok (.invokestatic 105, 3) := by decide +kernel
theorem dL_sum_22 : decode cL_sum 22 = .ok (.i2l, 1) := by decide +kernel
theorem dL_sum_23 : decode cL_sum 23 = .ok (.ladd, 1) := by decide +kernel
theorem dL_sum_24 : decode cL_sum 24 = .ok (.lstore_n 1, 1) := by decide +kernel
theorem dL_sum_25 : decode cL_sum 25 = .ok (.iinc 3 1, 3) := by decide +kernel
theorem dL_sum_28 : decode cL_sum 28 = .ok (.goto (-22), 3) := by decide +kernel
theorem dL_sum_31 : decode cL_sum 31 = .ok (.iconst 0, 1) := by decide +kernel
theorem dL_sum_32 : decode cL_sum 32 = .ok (.istore_n 3, 1) := by decide +kernel
theorem dL_sum_33 : decode cL_sum 33 = .ok (.iload_n 3, 1) := by decide +kernel
theorem dL_sum_34 : decode cL_sum 34 = .ok (.iconst 5, 1) := by decide +kernel
theorem dL_sum_35 : decode cL_sum 35 = .ok (.aload_n 0, 1) := by decide +kernel
theorem dL_sum_36 : decode cL_sum 36 = .ok (.iconst 1, 1) := by decide +kernel
theorem dL_sum_37 : decode cL_sum 37 = .ok (.invokestatic 105, 3) := by decide +kernel
theorem dL_sum_40 : decode cL_sum 40 = .ok (.imul, 1) := by decide +kernel
theorem dL_sum_41 : decode cL_sum 41 = .ok (.if_icmp .ge 27, 3) := by decide +kernel
theorem dL_sum_44 : decode cL_sum 44 = .ok (.ldc2_w 103, 3) := by decide +kernel
theorem dL_sum_47 : decode cL_sum 47 = .ok (.lload_n 1, 1) := by decide +kernel
theorem dL_sum_48 : decode cL_sum 48 = .ok (.lmul, 1) := by decide +kernel
theorem dL_sum_49 : decode cL_sum 49 = .ok (.aload_n 0, 1) := by decide +kernel
theorem dL_sum_50 : decode cL_sum 50 = .ok (.iload_n 3, 1) := by decide +kernel
theorem dL_sum_51 : decode cL_sum 51 = .ok (.iconst 5, 1) := by decide +kernel
theorem dL_sum_52 : decode cL_sum 52 = .ok (.idiv, 1) := by decide +kernel
theorem dL_sum_53 : decode cL_sum 53 = .ok (.iload_n 3, 1) := by decide +kernel
theorem dL_sum_54 : decode cL_sum 54 = .ok (.iconst 5, 1) := by decide +kernel
theorem dL_sum_55 : decode cL_sum 55 = .ok (.irem, 1) := by decide +kernel
theorem dL_sum_56 : decode cL_sum 56 = .ok (.invokestatic 110, 3) := by decide +kernel
theorem dL_sum_59 : decode cL_sum 59 = .ok (.i2l, 1) := by decide +kernel
theorem dL_sum_60 : decode cL_sum 60 = .ok (.ladd, 1) := by decide +kernel
theorem dL_sum_61 : decode cL_sum 61 = .ok (.lstore_n 1, 1) := by decide +kernel
theorem dL_sum_62 : decode cL_sum 62 = .ok (.iinc 3 1, 3) := by decide +kernel
theorem dL_sum_65 : decode cL_sum 65 = .ok (.goto (-32), 3) := by decide +kernel
theorem dL_sum_68 : decode cL_sum 68 = .ok (.iconst 0, 1) := by decide +kernel
theorem dL_sum_69 : decode cL_sum 69 = .ok (.istore_n 3, 1) := by decide +kernel
theorem dL_sum_70 : decode cL_sum 70 = .ok (.iload_n 3, 1) := by decide +kernel
theorem dL_sum_71 : decode cL_sum 71 = .ok (.aload_n 0, 1) := by decide +kernel
theorem dL_sum_72 : decode cL_sum 72 = .ok (.iconst 2, 1) := by decide +kernel
theorem dL_sum_73 : decode cL_sum 73 = .ok (.invokestatic 105, 3) := by decide +kernel
theorem dL_sum_76 : decode cL_sum 76 = .ok (.if_icmp .ge 179, 3) := by decide +kernel
theorem dL_sum_79 : decode cL_sum 79 = .ok (.iconst 0, 1) := by decide +kernel
theorem dL_sum_80 : decode cL_sum 80 = .ok (.istore 4, 2) := by decide +kernel
theorem dL_sum_82 : decode cL_sum 82 = .ok (.iload 4, 2) := by decide +kernel
theorem dL_sum_84 : decode cL_sum 84 = .ok (.bipush 12, 2) := by decide +kernel
theorem dL_sum_86 : decode cL_sum 86 = .ok (.if_icmp .ge 24, 3) := by decide +kernel
theorem dL_sum_89 : decode cL_sum 89 = .ok (.ldc2_w 103, 3) := by decide +kernel
theorem dL_sum_92 : decode cL_sum 92 = .ok (.lload_n 1, 1) := by decide +kernel
theorem dL_sum_93 : decode cL_sum 93 = .ok (.lmul, 1) := by decide +kernel
theorem dL_sum_94 : decode cL_sum 94 = .ok (.aload_n 0, 1) := by decide +kernel
theorem dL_sum_95 : decode cL_sum 95 = .ok (.iload_n 3, 1) := by decide +kernel
theorem dL_sum_96 : decode cL_sum 96 = .ok (.iload 4, 2) := by decide +kernel
theorem dL_sum_98 : decode cL_sum 98 = .ok (.invokestatic 113, 3) := by decide +kernel
theorem dL_sum_101 : decode cL_sum 101 = .ok (.i2l, 1) := by decide +kernel
theorem dL_sum_102 : decode cL_sum 102 = .ok (.ladd, 1) := by decide +kernel
theorem dL_sum_103 : decode cL_sum 103 = .ok (.lstore_n 1, 1) := by decide +kernel
theorem dL_sum_104 : decode cL_sum 104 = .ok (.iinc 4 1, 3) := by decide +kernel
theorem dL_sum_107 : decode cL_sum 107 = .ok (.goto (-25), 3) := by decide +kernel
theorem dL_sum_110 : decode cL_sum 110 = .ok (.iconst 0, 1) := by decide +kernel
theorem dL_sum_111 : decode cL_sum 111 = .ok (.istore 4, 2) := by decide +kernel
theorem dL_sum_113 : decode cL_sum 113 = .ok (.iload 4, 2) := by decide +kernel
theorem dL_sum_115 : decode cL_sum 115 = .ok (.bipush 15, 2) := by decide +kernel
theorem dL_sum_117 : decode cL_sum 117 = .ok (.if_icmp .ge 30, 3) := by decide +kernel
theorem dL_sum_120 : decode cL_sum 120 = .ok (.ldc2_w 103, 3) := by decide +kernel
theorem dL_sum_123 : decode cL_sum 123 = .ok (.lload_n 1, 1) := by decide +kernel
theorem dL_sum_124 : decode cL_sum 124 = .ok (.lmul, 1) := by decide +kernel
theorem dL_sum_125 : decode cL_sum 125 = .ok (.aload_n 0, 1) := by decide +kernel
theorem dL_sum_126 : decode cL_sum 126 = .ok (.iload_n 3, 1) := by decide +kernel
theorem dL_sum_127 : decode cL_sum 127 = .ok (.iload 4, 2) := by decide +kernel
theorem dL_sum_129 : decode cL_sum 129 = .ok (.iconst 5, 1) := by decide +kernel
theorem dL_sum_130 : decode cL_sum 130 = .ok (.idiv, 1) := by decide +kernel
theorem dL_sum_131 : decode cL_sum 131 = .ok (.iload 4, 2) := by decide +kernel
theorem dL_sum_133 : decode cL_sum 133 = .ok (.iconst 5, 1) := by decide +kernel
theorem dL_sum_134 : decode cL_sum 134 = .ok (.irem, 1) := by decide +kernel
theorem dL_sum_135 : decode cL_sum 135 = .ok (.invokestatic 116, 3) := by decide +kernel
theorem dL_sum_138 : decode cL_sum 138 = .ok (.i2l, 1) := by decide +kernel
theorem dL_sum_139 : decode cL_sum 139 = .ok (.ladd, 1) := by decide +kernel
theorem dL_sum_140 : decode cL_sum 140 = .ok (.lstore_n 1, 1) := by decide +kernel
theorem dL_sum_141 : decode cL_sum 141 = .ok (.iinc 4 1, 3) := by decide +kernel
theorem dL_sum_144 : decode cL_sum 144 = .ok (.goto (-31), 3) := by decide +kernel
theorem dL_sum_147 : decode cL_sum 147 = .ok (.iconst 0, 1) := by decide +kernel
theorem dL_sum_148 : decode cL_sum 148 = .ok (.istore 4, 2) := by decide +kernel
theorem dL_sum_150 : decode cL_sum 150 = .ok (.iload 4, 2) := by decide +kernel
theorem dL_sum_152 : decode cL_sum 152 = .ok (.iconst 4, 1) := by decide +kernel
theorem dL_sum_153 : decode cL_sum 153 = .ok (.aload_n 0, 1) := by decide +kernel
theorem dL_sum_154 : decode cL_sum 154 = .ok (.iload_n 3, 1) := by decide +kernel
theorem dL_sum_155 : decode cL_sum 155 = .ok (.iconst 2, 1) := by decide +kernel
theorem dL_sum_156 : decode cL_sum 156 = .ok (.invokestatic 113, 3) := by decide +kernel
theorem dL_sum_159 : decode cL_sum 159 = .ok (.imul, 1) := by decide +kernel
theorem dL_sum_160 : decode cL_sum 160 = .ok (.if_icmp .ge 31, 3) := by decide +kernel
theorem dL_sum_163 : decode cL_sum 163 = .ok (.ldc2_w 103, 3) := by decide +kernel
theorem dL_sum_166 : decode cL_sum 166 = .ok (.lload_n 1, 1) := by decide +kernel
theorem dL_sum_167 : decode cL_sum 167 = .ok (.lmul, 1) := by decide +kernel
theorem dL_sum_168 : decode cL_sum 168 = .ok (.aload_n 0, 1) := by decide +kernel
theorem dL_sum_169 : decode cL_sum 169 = .ok (.iload_n 3, 1) := by decide +kernel
theorem dL_sum_170 : decode cL_sum 170 = .ok (.iconst 0, 1) := by decide +kernel
theorem dL_sum_171 : decode cL_sum 171 = .ok (.iload 4, 2) := by decide +kernel
theorem dL_sum_173 : decode cL_sum 173 = .ok (.iconst 4, 1) := by decide +kernel
theorem dL_sum_174 : decode cL_sum 174 = .ok (.idiv, 1) := by decide +kernel
theorem dL_sum_175 : decode cL_sum 175 = .ok (.iload 4, 2) := by decide +kernel
theorem dL_sum_177 : decode cL_sum 177 = .ok (.iconst 4, 1) := by decide +kernel
theorem dL_sum_178 : decode cL_sum 178 = .ok (.irem, 1) := by decide +kernel
theorem dL_sum_179 : decode cL_sum 179 = .ok (.invokestatic 119, 3) := by decide +kernel
theorem dL_sum_182 : decode cL_sum 182 = .ok (.i2l, 1) := by decide +kernel
theorem dL_sum_183 : decode cL_sum 183 = .ok (.ladd, 1) := by decide +kernel
theorem dL_sum_184 : decode cL_sum 184 = .ok (.lstore_n 1, 1) := by decide +kernel
theorem dL_sum_185 : decode cL_sum 185 = .ok (.iinc 4 1, 3) := by decide +kernel
theorem dL_sum_188 : decode cL_sum 188 = .ok (.goto (-38), 3) := by decide +kernel
theorem dL_sum_191 : decode cL_sum 191 = .ok (.iconst 0, 1) := by decide +kernel
theorem dL_sum_192 : decode cL_sum 192 = .ok (.istore 4, 2) := by decide +kernel
theorem dL_sum_194 : decode cL_sum 194 = .ok (.iload 4, 2) := by decide +kernel
theorem dL_sum_196 : decode cL_sum 196 = .ok (.iconst 4, 1) := by decide +kernel
theorem dL_sum_197 : decode cL_sum 197 = .ok (.aload_n 0, 1) := by decide +kernel
theorem dL_sum_198 : decode cL_sum 198 = .ok (.iload_n 3, 1) := by decide +kernel
theorem dL_sum_199 : decode cL_sum 199 = .ok (.iconst 3, 1) := by decide +kernel
theorem dL_sum_200 : decode cL_sum 200 = .ok (.invokestatic 113, 3) := by decide +kernel
theorem dL_sum_203 : decode cL_sum 203 = .ok (.imul, 1) := by decide +kernel
theorem dL_sum_204 : decode cL_sum 204 = .ok (.if_icmp .ge 31, 3) := by decide +kernel
theorem dL_sum_207 : decode cL_sum 207 = .ok (.ldc2_w 103, 3) := by decide +kernel
theorem dL_sum_210 : decode cL_sum 210 = .ok (.lload_n 1, 1) := by decide +kernel
theorem dL_sum_211 : decode cL_sum 211 = .ok (.lmul, 1) := by decide +kernel
theorem dL_sum_212 : decode cL_sum 212 = .ok (.aload_n 0, 1) := by decide +kernel
theorem dL_sum_213 : decode cL_sum 213 = .ok (.iload_n 3, 1) := by decide +kernel
theorem dL_sum_214 : decode cL_sum 214 = .ok (.iconst 1, 1) := by decide +kernel
theorem dL_sum_215 : decode cL_sum 215 = .ok (.iload 4, 2) := by decide +kernel
theorem dL_sum_217 : decode cL_sum 217 = .ok (.iconst 4, 1) := by decide +kernel
theorem dL_sum_218 : decode cL_sum 218 = .ok (.idiv, 1) := by decide +kernel
theorem dL_sum_219 : decode cL_sum 219 = .ok (.iload 4, 2) := by decide +kernel
theorem dL_sum_221 : decode cL_sum 221 = .ok (.iconst 4, 1) := by decide +kernel
theorem dL_sum_222 : decode cL_sum 222 = .ok (.irem, 1) := by decide +kernel
theorem dL_sum_223 : decode cL_sum 223 = .ok (.invokestatic 119, 3) := by decide +kernel
theorem dL_sum_226 : decode cL_sum 226 = .ok (.i2l, 1) := by decide +kernel
theorem dL_sum_227 : decode cL_sum 227 = .ok (.ladd, 1) := by decide +kernel
theorem dL_sum_228 : decode cL_sum 228 = .ok (.lstore_n 1, 1) := by decide +kernel
theorem dL_sum_229 : decode cL_sum 229 = .ok (.iinc 4 1, 3) := by decide +kernel
theorem dL_sum_232 : decode cL_sum 232 = .ok (.goto (-38), 3) := by decide +kernel
theorem dL_sum_235 : decode cL_sum 235 = .ok (.ldc2_w 103, 3) := by decide +kernel
theorem dL_sum_238 : decode cL_sum 238 = .ok (.lload_n 1, 1) := by decide +kernel
theorem dL_sum_239 : decode cL_sum 239 = .ok (.lmul, 1) := by decide +kernel
theorem dL_sum_240 : decode cL_sum 240 = .ok (.aload_n 0, 1) := by decide +kernel
theorem dL_sum_241 : decode cL_sum 241 = .ok (.iload_n 3, 1) := by decide +kernel
theorem dL_sum_242 : decode cL_sum 242 = .ok (.iconst 0, 1) := by decide +kernel
theorem dL_sum_243 : decode cL_sum 243 = .ok (.invokestatic 122, 3) := by decide +kernel
theorem dL_sum_246 : decode cL_sum 246 = .ok (.i2l, 1) := by decide +kernel
theorem dL_sum_247 : decode cL_sum 247 = .ok (.ladd, 1) := by decide +kernel
theorem dL_sum_248 : decode cL_sum 248 = .ok (.lstore_n 1, 1) := by decide +kernel
theorem dL_sum_249 : decode cL_sum 249 = .ok (.iinc 3 1, 3) := by decide +kernel
theorem dL_sum_252 : decode cL_sum 252 = .ok (.goto (-182), 3) := by decide +kernel
theorem dL_sum_255 : decode cL_sum 255 = .ok (.lload_n 1, 1) := by decide +kernel
theorem dL_sum_256 : decode cL_sum 256 = .ok (.lreturn, 1) := by decide +kernel
theorem dL_refused_0 : decode cL_refused 0 = .ok (.aload_n 0, 1) := by decide +kernel
theorem dL_refused_1 : decode cL_refused 1 = .ok (.invokestatic 125, 3) := by decide +kernel
theorem dL_refused_4 : decode cL_refused 4 = .ok (.lstore_n 1, 1) := by decide +kernel
theorem dL_refused_5 : decode cL_refused 5 = .ok (.aload_n 0, 1) := by decide +kernel
theorem dL_refused_6 : decode cL_refused 6 = .ok (.iconst 0, 1) := by decide +kernel
theorem dL_refused_7 : decode cL_refused 7 = .ok (.sipush 2001, 3) := by decide +kernel
theorem dL_refused_10 : decode cL_refused 10 = .ok (.iconst 0, 1) := by decide +kernel
theorem dL_refused_11 : decode cL_refused 11 = .ok (.invokestatic 129, 3) := by decide +kernel
theorem dL_refused_14 : decode cL_refused 14 = .ok (.ldc 17, 2) := by decide +kernel
theorem dL_refused_16 : decode cL_refused 16 = .ok (.if_icmp .ne 252, 3) := by decide +kernel
theorem dL_refused_19 : decode cL_refused 19 = .ok (.aload_n 0, 1) := by decide +kernel
theorem dL_refused_20 : decode cL_refused 20 = .ok (.bipush 7, 2) := by decide +kernel
theorem dL_refused_22 : decode cL_refused 22 = .ok (.iconst 0, 1) := by decide +kernel
theorem dL_refused_23 : decode cL_refused 23 = .ok (.invokestatic 132, 3) := by decide +kernel
theorem dL_refused_26 : decode cL_refused 26 = .ok (.ldc 17, 2) := by decide +kernel
theorem dL_refused_28 : decode cL_refused 28 = .ok (.if_icmp .ne 240, 3) := by decide +kernel
theorem dL_refused_31 : decode cL_refused 31 = .ok (.aload_n 0, 1) := by decide +kernel
theorem dL_refused_32 : decode cL_refused 32 = .ok (.iconst 5, 1) := by decide +kernel
theorem dL_refused_33 : decode cL_refused 33 = .ok (.iconst (-1), 1) := by decide +kernel
theorem dL_refused_34 : decode cL_refused 34 = .ok (.invokestatic 135, 3) := by decide +kernel
theorem dL_refused_37 : decode cL_refused 37 = .ok (.ldc 30, 2) := by decide +kernel
theorem dL_refused_39 : decode cL_refused 39 = .ok (.if_icmp .ne 229, 3) := by decide +kernel
theorem dL_refused_42 : decode cL_refused 42 = .ok (.aload_n 0, 1) := by decide +kernel
theorem dL_refused_43 : decode cL_refused 43 = .ok (.iconst 0, 1) := by decide +kernel
theorem dL_refused_44 : decode cL_refused 44 = .ok (.bipush (-2), 2) := by decide +kernel
theorem dL_refused_46 : decode cL_refused 46 = .ok (.invokestatic 135, 3) := by decide +kernel
theorem dL_refused_49 : decode cL_refused 49 = .ok (.ldc 30, 2) := by decide +kernel
theorem dL_refused_51 : decode cL_refused 51 = .ok (.if_icmp .ne 217, 3) := by decide +kernel
theorem dL_refused_54 : decode cL_refused 54 = .ok (.aload_n 0, 1) := by decide +kernel
theorem dL_refused_55 : decode cL_refused 55 = .ok (.bipush 10, 2) := by decide +kernel
theorem dL_refused_57 : decode cL_refused 57 = .ok (.iconst 0, 1) := by decide +kernel
theorem dL_refused_58 : decode cL_refused 58 = .ok (.invokestatic 138, 3) := by decide +kernel
theorem dL_refused_61 : decode cL_refused 61 = .ok (.ldc 30, 2) := by decide +kernel
theorem dL_refused_63 : decode cL_refused 63 = .ok (.if_icmp .ne 205, 3) := by decide +kernel
theorem dL_refused_66 : decode cL_refused 66 = .ok (.aload_n 0, 1) := by decide +kernel
theorem dL_refused_67 : decode cL_refused 67 = .ok (.iconst 0, 1) := by decide +kernel
theorem dL_refused_68 : decode cL_refused 68 = .ok (.iconst 3, 1) := by decide +kernel
theorem dL_refused_69 : decode cL_refused 69 = .ok (.iconst 1, 1) := by decide +kernel
theorem dL_refused_70 : decode cL_refused 70 = .ok (.invokestatic 141, 3) := by decide +kernel
theorem dL_refused_73 : decode cL_refused 73 = .ok (.aload_n 0, 1) := by decide +kernel
theorem dL_refused_74 : decode cL_refused 74 = .ok (.iconst 2, 1) := by decide +kernel
theorem dL_refused_75 : decode cL_refused 75 = .ok (.invokestatic 105, 3) := by decide +kernel
theorem dL_refused_78 : decode cL_refused 78 = .ok (.ifCond .le 8, 3) := by decide +kernel
theorem dL_refused_81 : decode cL_refused 81 = .ok (.ldc 17, 2) := by decide +kernel
theorem dL_refused_83 : decode cL_refused 83 = .ok (.goto 5, 3) := by decide +kernel
theorem dL_refused_86 : decode cL_refused 86 = .ok (.ldc 30, 2) := by decide +kernel
theorem dL_refused_88 : decode cL_refused 88 = .ok (.if_icmp .ne 180, 3) := by decide +kernel
theorem dL_refused_91 : decode cL_refused 91 = .ok (.aload_n 0, 1) := by decide +kernel
theorem dL_refused_92 : decode cL_refused 92 = .ok (.bipush 6, 2) := by decide +kernel
theorem dL_refused_94 : decode cL_refused 94 = .ok (.iconst 1, 1) := by decide +kernel
theorem dL_refused_95 : decode cL_refused 95 = .ok (.invokestatic 144, 3) := by decide +kernel
theorem dL_refused_98 : decode cL_refused 98 = .ok (.ldc 30, 2) := by decide +kernel
theorem dL_refused_100 : decode cL_refused 100 = .ok (.if_icmp .ne 168, 3) := by decide +kernel
theorem dL_refused_103 : decode cL_refused 103 = .ok (.aload_n 0, 1) := by decide +kernel
theorem dL_refused_104 : decode cL_refused 104 = .ok (.iconst (-1), 1) := by decide +kernel
theorem dL_refused_105 : decode cL_refused 105 = .ok (.invokestatic 147, 3) := by decide +kernel
theorem dL_refused_108 : decode cL_refused 108 = .ok (.ldc 30, 2) := by decide +kernel
theorem dL_refused_110 : decode cL_refused 110 = .ok (.if_icmp .ne 158, 3) := by decide +kernel
theorem dL_refused_113 : decode cL_refused 113 = .ok (.aload_n 0, 1) := by decide +kernel
theorem dL_refused_114 : decode cL_refused 114 = .ok (.bipush 10, 2) := by decide +kernel
theorem dL_refused_116 : decode cL_refused 116 = .ok (.iconst 1, 1) := by decide +kernel
theorem dL_refused_117 : decode cL_refused 117 = .ok (.invokestatic 150, 3) := by decide +kernel
theorem dL_refused_120 : decode cL_refused 120 = .ok (.ldc 30, 2) := by decide +kernel
theorem dL_refused_122 : decode cL_refused 122 = .ok (.if_icmp .ne 146, 3) := by decide +kernel
theorem dL_refused_125 : decode cL_refused 125 = .ok (.aload_n 0, 1) := by decide +kernel
theorem dL_refused_126 : decode cL_refused 126 = .ok (.iconst 0, 1) := by decide +kernel
theorem dL_refused_127 : decode cL_refused 127 = .ok (.iconst (-1), 1) := by decide +kernel
theorem dL_refused_128 : decode cL_refused 128 = .ok (.iconst 5, 1) := by decide +kernel
theorem dL_refused_129 : decode cL_refused 129 = .ok (.invokestatic 154, 3) := by decide +kernel
theorem dL_refused_132 : decode cL_refused 132 = .ok (.aload_n 0, 1) := by decide +kernel
theorem dL_refused_133 : decode cL_refused 133 = .ok (.iconst 2, 1) := by decide +kernel
theorem dL_refused_134 : decode cL_refused 134 = .ok (.invokestatic 105, 3) := by decide +kernel
theorem dL_refused_137 : decode cL_refused 137 = .ok (.ifCond .le 8, 3) := by decide +kernel
theorem dL_refused_140 : decode cL_refused 140 = .ok (.ldc 17, 2) := by decide +kernel
theorem dL_refused_142 : decode cL_refused 142 = .ok (.goto 5, 3) := by decide +kernel
theorem dL_refused_145 : decode cL_refused 145 = .ok (.ldc 30, 2) := by decide +kernel
theorem dL_refused_147 : decode cL_refused 147 = .ok (.if_icmp .ne 121, 3) := by decide +kernel
theorem dL_refused_150 : decode cL_refused 150 = .ok (.aload_n 0, 1) := by decide +kernel
theorem dL_refused_151 : decode cL_refused 151 = .ok (.iconst 0, 1) := by decide +kernel
theorem dL_refused_152 : decode cL_refused 152 = .ok (.bipush 6, 2) := by decide +kernel
theorem dL_refused_154 : decode cL_refused 154 = .ok (.invokestatic 157, 3) := by decide +kernel
theorem dL_refused_157 : decode cL_refused 157 = .ok (.ldc 30, 2) := by decide +kernel
theorem dL_refused_159 : decode cL_refused 159 = .ok (.if_icmp .ne 109, 3) := by decide +kernel
theorem dL_refused_162 : decode cL_refused 162 = .ok (.aload_n 0, 1) := by decide +kernel
theorem dL_refused_163 : decode cL_refused 163 = .ok (.bipush 10, 2) := by decide +kernel
theorem dL_refused_165 : decode cL_refused 165 = .ok (.invokestatic 160, 3) := by decide +kernel
theorem dL_refused_168 : decode cL_refused 168 = .ok (.ldc 30, 2) := by decide +kernel
theorem dL_refused_170 : decode cL_refused 170 = .ok (.if_icmp .ne 98, 3) := by decide +kernel
theorem dL_refused_173 : decode cL_refused 173 = .ok (.aload_n 0, 1) := by decide +kernel
theorem dL_refused_174 : decode cL_refused 174 = .ok (.iconst 0, 1) := by decide +kernel
theorem dL_refused_175 : decode cL_refused 175 = .ok (.bipush 10, 2) := by decide +kernel
theorem dL_refused_177 : decode cL_refused 177 = .ok (.invokestatic 163, 3) := by decide +kernel
theorem dL_refused_180 : decode cL_refused 180 = .ok (.ldc 30, 2) := by decide +kernel
theorem dL_refused_182 : decode cL_refused 182 = .ok (.if_icmp .ne 86, 3) := by decide +kernel
theorem dL_refused_185 : decode cL_refused 185 = .ok (.aload_n 0, 1) := by decide +kernel
theorem dL_refused_186 : decode cL_refused 186 = .ok (.iconst 0, 1) := by decide +kernel
theorem dL_refused_187 : decode cL_refused 187 = .ok (.iconst (-1), 1) := by decide +kernel
theorem dL_refused_188 : decode cL_refused 188 = .ok (.invokestatic 166, 3) := by decide +kernel
theorem dL_refused_191 : decode cL_refused 191 = .ok (.ldc 30, 2) := by decide +kernel
theorem dL_refused_193 : decode cL_refused 193 = .ok (.if_icmp .ne 75, 3) := by decide +kernel
theorem dL_refused_196 : decode cL_refused 196 = .ok (.aload_n 0, 1) := by decide +kernel
theorem dL_refused_197 : decode cL_refused 197 = .ok (.bipush 6, 2) := by decide +kernel
theorem dL_refused_199 : decode cL_refused 199 = .ok (.iconst 0, 1) := by decide +kernel
theorem dL_refused_200 : decode cL_refused 200 = .ok (.invokestatic 110, 3) := by decide +kernel
theorem dL_refused_203 : decode cL_refused 203 = .ok (.ldc 30, 2) := by decide +kernel
theorem dL_refused_205 : decode cL_refused 205 = .ok (.if_icmp .ne 63, 3) := by decide +kernel
theorem dL_refused_208 : decode cL_refused 208 = .ok (.aload_n 0, 1) := by decide +kernel
theorem dL_refused_209 : decode cL_refused 209 = .ok (.bipush 10, 2) := by decide +kernel
theorem dL_refused_211 : decode cL_refused 211 = .ok (.iconst 0, 1) := by decide +kernel
theorem dL_refused_212 : decode cL_refused 212 = .ok (.invokestatic 113, 3) := by decide +kernel
theorem dL_refused_215 : decode cL_refused 215 = .ok (.ldc 30, 2) := by decide +kernel
theorem dL_refused_217 : decode cL_refused 217 = .ok (.if_icmp .ne 51, 3) := by decide +kernel
theorem dL_refused_220 : decode cL_refused 220 = .ok (.aload_n 0, 1) := by decide +kernel
theorem dL_refused_221 : decode cL_refused 221 = .ok (.bipush 10, 2) := by decide +kernel
theorem dL_refused_223 : decode cL_refused 223 = .ok (.invokestatic 105, 3) := by decide +kernel
theorem dL_refused_226 : decode cL_refused 226 = .ok (.ldc 17, 2) := by decide +kernel
theorem dL_refused_228 : decode cL_refused 228 = .ok (.if_icmp .ne 40, 3) := by decide +kernel
theorem dL_refused_231 : decode cL_refused 231 = .ok (.aload_n 0, 1) := by decide +kernel
theorem dL_refused_232 : decode cL_refused 232 = .ok (.bipush 10, 2) := by decide +kernel
theorem dL_refused_234 : decode cL_refused 234 = .ok (.invokestatic 169, 3) := by decide +kernel
theorem dL_refused_237 : decode cL_refused 237 = .ok (.ldc 30, 2) := by decide +kernel
theorem dL_refused_239 : decode cL_refused 239 = .ok (.if_icmp .ne 29, 3) := by decide +kernel
theorem dL_refused_242 : decode cL_refused 242 = .ok (.aload_n 0, 1) := by decide +kernel
theorem dL_refused_243 : decode cL_refused 243 = .ok (.bipush 10, 2) := by decide +kernel
theorem dL_refused_245 : decode cL_refused 245 = .ok (.iconst 0, 1) := by decide +kernel
theorem dL_refused_246 : decode cL_refused 246 = .ok (.invokestatic 172, 3) := by decide +kernel
theorem dL_refused_249 : decode cL_refused 249 = .ok (.ldc 30, 2) := by decide +kernel
theorem dL_refused_251 : decode cL_refused 251 = .ok (.if_icmp .ne 17, 3) := by decide +kernel
theorem dL_refused_254 : decode cL_refused 254 = .ok (.aload_n 0, 1) := by decide +kernel
theorem dL_refused_255 : decode cL_refused 255 = .ok (.iconst (-1), 1) := by decide +kernel
theorem dL_refused_256 : decode cL_refused 256 = .ok (.invokestatic 175, 3) := by decide +kernel
theorem dL_refused_259 : decode cL_refused 259 = .ok (.ldc 17, 2) := by decide +kernel
theorem dL_refused_261 : decode cL_refused 261 = .ok (.if_icmp .ne 7, 3) := by decide +kernel
theorem dL_refused_264 : decode cL_refused 264 = .ok (.iconst 1, 1) := by decide +kernel
theorem dL_refused_265 : decode cL_refused 265 = .ok (.goto 4, 3) := by decide +kernel
theorem dL_refused_268 : decode cL_refused 268 = .ok (.iconst 0, 1) := by decide +kernel
theorem dL_refused_269 : decode cL_refused 269 = .ok (.istore_n 3, 1) := by decide +kernel
theorem dL_refused_270 : decode cL_refused 270 = .ok (.iload_n 3, 1) := by decide +kernel
theorem dL_refused_271 : decode cL_refused 271 = .ok (.ifCond .eq 70, 3) := by decide +kernel
theorem dL_refused_274 : decode cL_refused 274 = .ok (.aload_n 0, 1) := by decide +kernel
theorem dL_refused_275 : decode cL_refused 275 = .ok (.iconst 0, 1) := by decide +kernel
theorem dL_refused_276 : decode cL_refused 276 = .ok (.invokestatic 105, 3) := by decide +kernel
theorem dL_refused_279 : decode cL_refused 279 = .ok (.iconst 5, 1) := by decide +kernel
theorem dL_refused_280 : decode cL_refused 280 = .ok (.if_icmp .lt 15, 3) := by decide +kernel
theorem dL_refused_283 : decode cL_refused 283 = .ok (.aload_n 0, 1) := by decide +kernel
theorem dL_refused_284 : decode cL_refused 284 = .ok (.iconst 0, 1) := by decide +kernel
theorem dL_refused_285 : decode cL_refused 285 = .ok (.iconst 0, 1) := by decide +kernel
theorem dL_refused_286 : decode cL_refused 286 = .ok (.iconst 0, 1) := by decide +kernel
theorem dL_refused_287 : decode cL_refused 287 = .ok (.invokestatic 129, 3) := by decide +kernel
theorem dL_refused_290 : decode cL_refused 290 = .ok (.ldc 20, 2) := by decide +kernel
theorem dL_refused_292 : decode cL_refused 292 = .ok (.if_icmp .ne 49, 3) := by decide +kernel
theorem dL_refused_295 : decode cL_refused 295 = .ok (.aload_n 0, 1) := by decide +kernel
theorem dL_refused_296 : decode cL_refused 296 = .ok (.iconst 1, 1) := by decide +kernel
theorem dL_refused_297 : decode cL_refused 297 = .ok (.invokestatic 105, 3) := by decide +kernel
theorem dL_refused_300 : decode cL_refused 300 = .ok (.bipush 6, 2) := by decide +kernel
theorem dL_refused_302 : decode cL_refused 302 = .ok (.if_icmp .lt 14, 3) := by decide +kernel
theorem dL_refused_305 : decode cL_refused 305 = .ok (.aload_n 0, 1) := by decide +kernel
theorem dL_refused_306 : decode cL_refused 306 = .ok (.iconst 1, 1) := by decide +kernel
theorem dL_refused_307 : decode cL_refused 307 = .ok (.iconst 0, 1) := by decide +kernel
theorem dL_refused_308 : decode cL_refused 308 = .ok (.invokestatic 132, 3) := by decide +kernel
theorem dL_refused_311 : decode cL_refused 311 = .ok (.ldc 20, 2) := by decide +kernel
theorem dL_refused_313 : decode cL_refused 313 = .ok (.if_icmp .ne 28, 3) := by decide +kernel
theorem dL_refused_316 : decode cL_refused 316 = .ok (.aload_n 0, 1) := by decide +kernel
theorem dL_refused_317 : decode cL_refused 317 = .ok (.iconst 2, 1) := by decide +kernel
theorem dL_refused_318 : decode cL_refused 318 = .ok (.invokestatic 105, 3) := by decide +kernel
theorem dL_refused_321 : decode cL_refused 321 = .ok (.bipush 10, 2) := by decide +kernel
theorem dL_refused_323 : decode cL_refused 323 = .ok (.if_icmp .lt 14, 3) := by decide +kernel
theorem dL_refused_326 : decode cL_refused 326 = .ok (.aload_n 0, 1) := by decide +kernel
theorem dL_refused_327 : decode cL_refused 327 = .ok (.iconst 0, 1) := by decide +kernel
theorem dL_refused_328 : decode cL_refused 328 = .ok (.iconst (-1), 1) := by decide +kernel
theorem dL_refused_329 : decode cL_refused 329 = .ok (.invokestatic 135, 3) := by decide +kernel
theorem dL_refused_332 : decode cL_refused 332 = .ok (.ldc 20, 2) := by decide +kernel
theorem dL_refused_334 : decode cL_refused 334 = .ok (.if_icmp .ne 7, 3) := by decide +kernel
theorem dL_refused_337 : decode cL_refused 337 = .ok (.iconst 1, 1) := by decide +kernel
theorem dL_refused_338 : decode cL_refused 338 = .ok (.goto 4, 3) := by decide +kernel
theorem dL_refused_341 : decode cL_refused 341 = .ok (.iconst 0, 1) := by decide +kernel
theorem dL_refused_342 : decode cL_refused 342 = .ok (.istore_n 3, 1) := by decide +kernel
theorem dL_refused_343 : decode cL_refused 343 = .ok (.iload_n 3, 1) := by decide +kernel
theorem dL_refused_344 : decode cL_refused 344 = .ok (.ifCond .eq 16, 3) := by decide +kernel
theorem dL_refused_347 : decode cL_refused 347 = .ok (.aload_n 0, 1) := by decide +kernel
theorem dL_refused_348 : decode cL_refused 348 = .ok (.invokestatic 125, 3) := by decide +kernel
theorem dL_refused_351 : decode cL_refused 351 = .ok (.lload_n 1, 1) := by decide +kernel
theorem dL_refused_352 : decode cL_refused 352 = .ok (.lcmp, 1) := by decide +kernel
theorem dL_refused_353 : decode cL_refused 353 = .ok (.ifCond .ne 7, 3) := by decide +kernel
theorem dL_refused_356 : decode cL_refused 356 = .ok (.iconst 1, 1) := by decide +kernel
theorem dL_refused_357 : decode cL_refused 357 = .ok (.goto 4, 3) := by decide +kernel
theorem dL_refused_360 : decode cL_refused 360 = .ok (.iconst 0, 1) := by decide +kernel
theorem dL_refused_361 : decode cL_refused 361 = .ok (.ireturn, 1) := by decide +kernel
theorem dL_isFit_0 : decode cL_isFit 0 = .ok (.aload_n 0, 1) := by decide +kernel
theorem dL_isFit_1 : decode cL_isFit 1 = .ok (.iload_n 1, 1) := by decide +kernel
theorem dL_isFit_2 : decode cL_isFit 2 = .ok (.iconst 0, 1) := by decide +kernel
theorem dL_isFit_3 : decode cL_isFit 3 = .ok (.invokestatic 113, 3) := by decide +kernel
theorem dL_isFit_6 : decode cL_isFit 6 = .ok (.istore_n 2, 1) := by decide +kernel
theorem dL_isFit_7 : decode cL_isFit 7 = .ok (.aload_n 0, 1) := by decide +kernel
theorem dL_isFit_8 : decode cL_isFit 8 = .ok (.iload_n 1, 1) := by decide +kernel
theorem dL_isFit_9 : decode cL_isFit 9 = .ok (.iconst 1, 1) := by decide +kernel
theorem dL_isFit_10 : decode cL_isFit 10 = .ok (.invokestatic 113, 3) := by decide +kernel
theorem dL_isFit_13 : decode cL_isFit 13 = .ok (.istore_n 3, 1) := by decide +kernel
theorem dL_isFit_14 : decode cL_isFit 14 = .ok (.aload_n 0, 1) := by decide +kernel
theorem dL_isFit_15 : decode cL_isFit 15 = .ok (.iload_n 1, 1) := by decide +kernel
theorem dL_isFit_16 : decode cL_isFit 16 = .ok (.iconst 2, 1) := by decide +kernel
theorem dL_isFit_17 : decode cL_isFit 17 = .ok (.invokestatic 113, 3) := by decide +kernel
theorem dL_isFit_20 : decode cL_isFit 20 = .ok (.istore 4, 2) := by decide +kernel
theorem dL_isFit_22 : decode cL_isFit 22 = .ok (.aload_n 0, 1) := by decide +kernel
theorem dL_isFit_23 : decode cL_isFit 23 = .ok (.iload_n 1, 1) := by decide +kernel
theorem dL_isFit_24 : decode cL_isFit 24 = .ok (.iconst 3, 1) := by decide +kernel
theorem dL_isFit_25 : decode cL_isFit 25 = .ok (.invokestatic 113, 3) := by decide +kernel
theorem dL_isFit_28 : decode cL_isFit 28 = .ok (.istore 5, 2) := by decide +kernel
theorem dL_isFit_30 : decode cL_isFit 30 = .ok (.iload_n 2, 1) := by decide +kernel
theorem dL_isFit_31 : decode cL_isFit 31 = .ok (.ifCond .lt 89, 3) := by decide +kernel
theorem dL_isFit_34 : decode cL_isFit 34 = .ok (.iload_n 2, 1) := by decide +kernel
theorem dL_isFit_35 : decode cL_isFit 35 = .ok (.aload_n 0, 1) := by decide +kernel
theorem dL_isFit_36 : decode cL_isFit 36 = .ok (.iconst 0, 1) := by decide +kernel
theorem dL_isFit_37 : decode cL_isFit 37 = .ok (.invokestatic 105, 3) := by decide +kernel
theorem dL_isFit_40 : decode cL_isFit 40 = .ok (.if_icmp .ge 80, 3) := by decide +kernel
theorem dL_isFit_43 : decode cL_isFit 43 = .ok (.iload_n 3, 1) := by decide +kernel
theorem dL_isFit_44 : decode cL_isFit 44 = .ok (.iconst (-1), 1) := by decide +kernel
theorem dL_isFit_45 : decode cL_isFit 45 = .ok (.if_icmp .lt 75, 3) := by decide +kernel
theorem dL_isFit_48 : decode cL_isFit 48 = .ok (.iload_n 3, 1) := by decide +kernel
theorem dL_isFit_49 : decode cL_isFit 49 = .ok (.aload_n 0, 1) := by decide +kernel
theorem dL_isFit_50 : decode cL_isFit 50 = .ok (.iconst 1, 1) := by decide +kernel
theorem dL_isFit_51 : decode cL_isFit 51 = .ok (.invokestatic 105, 3) := by decide +kernel
theorem dL_isFit_54 : decode cL_isFit 54 = .ok (.if_icmp .ge 66, 3) := by decide +kernel
theorem dL_isFit_57 : decode cL_isFit 57 = .ok (.iload 4, 2) := by decide +kernel
theorem dL_isFit_59 : decode cL_isFit 59 = .ok (.ifCond .lt 61, 3) := by decide +kernel
theorem dL_isFit_62 : decode cL_isFit 62 = .ok (.iload 5, 2) := by decide +kernel
theorem dL_isFit_64 : decode cL_isFit 64 = .ok (.ifCond .lt 56, 3) := by decide +kernel
theorem dL_isFit_67 : decode cL_isFit 67 = .ok (.iload 4, 2) := by decide +kernel
theorem dL_isFit_69 : decode cL_isFit 69 = .ok (.iload 5, 2) := by decide +kernel
theorem dL_isFit_71 : decode cL_isFit 71 = .ok (.iadd, 1) := by decide +kernel
theorem dL_isFit_72 : decode cL_isFit 72 = .ok (.bipush 20, 2) := by decide +kernel
theorem dL_isFit_74 : decode cL_isFit 74 = .ok (.if_icmp .gt 46, 3) := by decide +kernel
theorem dL_isFit_77 : decode cL_isFit 77 = .ok (.aload_n 0, 1) := by decide +kernel
theorem dL_isFit_78 : decode cL_isFit 78 = .ok (.iload_n 1, 1) := by decide +kernel
theorem dL_isFit_79 : decode cL_isFit 79 = .ok (.bipush 9, 2) := by decide +kernel
theorem dL_isFit_81 : decode cL_isFit 81 = .ok (.invokestatic 113, 3) := by decide +kernel
theorem dL_isFit_84 : decode cL_isFit 84 = .ok (.ifCond .lt 36, 3) := by decide +kernel
theorem dL_isFit_87 : decode cL_isFit 87 = .ok (.aload_n 0, 1) := by decide +kernel
theorem dL_isFit_88 : decode cL_isFit 88 = .ok (.iload_n 1, 1) := by decide +kernel
theorem dL_isFit_89 : decode cL_isFit 89 = .ok (.bipush 9, 2) := by decide +kernel
theorem dL_isFit_91 : decode cL_isFit 91 = .ok (.invokestatic 113, 3) := by decide +kernel
theorem dL_isFit_94 : decode cL_isFit 94 = .ok (.bipush 12, 2) := by decide +kernel
theorem dL_isFit_96 : decode cL_isFit 96 = .ok (.if_icmp .gt 24, 3) := by decide +kernel
theorem dL_isFit_99 : decode cL_isFit 99 = .ok (.aload_n 0, 1) := by decide +kernel
theorem dL_isFit_100 : decode cL_isFit 100 = .ok (.iload_n 1, 1) := by decide +kernel
theorem dL_isFit_101 : decode cL_isFit 101 = .ok (.bipush 8, 2) := by decide +kernel
theorem dL_isFit_103 : decode cL_isFit 103 = .ok (.invokestatic 113, 3) := by decide +kernel
theorem dL_isFit_106 : decode cL_isFit 106 = .ok (.aload_n 0, 1) := by decide +kernel
theorem dL_isFit_107 : decode cL_isFit 107 = .ok (.iconst 3, 1) := by decide +kernel
theorem dL_isFit_108 : decode cL_isFit 108 = .ok (.invokestatic 105, 3) := by decide +kernel
theorem dL_isFit_111 : decode cL_isFit 111 = .ok (.iconst 1, 1) := by decide +kernel
theorem dL_isFit_112 : decode cL_isFit 112 = .ok (.iadd, 1) := by decide +kernel
theorem dL_isFit_113 : decode cL_isFit 113 = .ok (.if_icmp .gt 7, 3) := by decide +kernel
theorem dL_isFit_116 : decode cL_isFit 116 = .ok (.iconst 1, 1) := by decide +kernel
theorem dL_isFit_117 : decode cL_isFit 117 = .ok (.goto 4, 3) := by decide +kernel
theorem dL_isFit_120 : decode cL_isFit 120 = .ok (.iconst 0, 1) := by decide +kernel
theorem dL_isFit_121 : decode cL_isFit 121 = .ok (.istore 6, 2) := by decide +kernel
theorem dL_isFit_123 : decode cL_isFit 123 = .ok (.iconst 1, 1) := by decide +kernel
theorem dL_isFit_124 : decode cL_isFit 124 = .ok (.istore 7, 2) := by decide +kernel
theorem dL_isFit_126 : decode cL_isFit 126 = .ok (.iconst 0, 1) := by decide +kernel
theorem dL_isFit_127 : decode cL_isFit 127 = .ok (.istore 8, 2) := by decide +kernel
theorem dL_isFit_129 : decode cL_isFit 129 = .ok (.iconst 0, 1) := by decide +kernel
theorem dL_isFit_130 : decode cL_isFit 130 = .ok (.istore 9, 2) := by decide +kernel
theorem dL_isFit_132 : decode cL_isFit 132 = .ok (.iconst 0, 1) := by decide +kernel
theorem dL_isFit_133 : decode cL_isFit 133 = .ok (.istore 10, 2) := by decide +kernel
theorem dL_isFit_135 : decode cL_isFit 135 = .ok (.iload 10, 2) := by decide +kernel
theorem dL_isFit_137 : decode cL_isFit 137 = .ok (.iconst 3, 1) := by decide +kernel
theorem dL_isFit_138 : decode cL_isFit 138 = .ok (.if_icmp .ge 120, 3) := by decide +kernel
theorem dL_isFit_141 : decode cL_isFit 141 = .ok (.aload_n 0, 1) := by decide +kernel
theorem dL_isFit_142 : decode cL_isFit 142 = .ok (.iload_n 1, 1) := by decide +kernel
theorem dL_isFit_143 : decode cL_isFit 143 = .ok (.iload 10, 2) := by decide +kernel
theorem dL_isFit_145 : decode cL_isFit 145 = .ok (.iconst 0, 1) := by decide +kernel
theorem dL_isFit_146 : decode cL_isFit 146 = .ok (.invokestatic 116, 3) := by decide +kernel
theorem dL_isFit_149 : decode cL_isFit 149 = .ok (.istore 11, 2) := by decide +kernel
theorem dL_isFit_151 : decode cL_isFit 151 = .ok (.aload_n 0, 1) := by decide +kernel
theorem dL_isFit_152 : decode cL_isFit 152 = .ok (.iload_n 1, 1) := by decide +kernel
theorem dL_isFit_153 : decode cL_isFit 153 = .ok (.iload 10, 2) := by decide +kernel
theorem dL_isFit_155 : decode cL_isFit 155 = .ok (.iconst 1, 1) := by decide +kernel
theorem dL_isFit_156 : decode cL_isFit 156 = .ok (.invokestatic 116, 3) := by decide +kernel
theorem dL_isFit_159 : decode cL_isFit 159 = .ok (.istore 12, 2) := by decide +kernel
theorem dL_isFit_161 : decode cL_isFit 161 = .ok (.iload 11, 2) := by decide +kernel
theorem dL_isFit_163 : decode cL_isFit 163 = .ok (.iload 12, 2) := by decide +kernel
theorem dL_isFit_165 : decode cL_isFit 165 = .ok (.if_icmp .le 11, 3) := by decide +kernel
theorem dL_isFit_168 : decode cL_isFit 168 = .ok (.iload 11, 2) := by decide +kernel
theorem dL_isFit_170 : decode cL_isFit 170 = .ok (.iload 12, 2) := by decide +kernel
theorem dL_isFit_172 : decode cL_isFit 172 = .ok (.isub, 1) := by decide +kernel
theorem dL_isFit_173 : decode cL_isFit 173 = .ok (.goto 4, 3) := by decide +kernel
theorem dL_isFit_176 : decode cL_isFit 176 = .ok (.iconst 0, 1) := by decide +kernel
theorem dL_isFit_177 : decode cL_isFit 177 = .ok (.istore 13, 2) := by decide +kernel
theorem dL_isFit_179 : decode cL_isFit 179 = .ok (.iload 6, 2) := by decide +kernel
theorem dL_isFit_181 : decode cL_isFit 181 = .ok (.ifCond .eq 25, 3) := by decide +kernel
theorem dL_isFit_184 : decode cL_isFit 184 = .ok (.iload 12, 2) := by decide +kernel
theorem dL_isFit_186 : decode cL_isFit 186 = .ok (.ifCond .lt 20, 3) := by decide +kernel
theorem dL_isFit_189 : decode cL_isFit 189 = .ok (.aload_n 0, 1) := by decide +kernel
theorem dL_isFit_190 : decode cL_isFit 190 = .ok (.iload_n 1, 1) := by decide +kernel
theorem dL_isFit_191 : decode cL_isFit 191 = .ok (.iload 10, 2) := by decide +kernel
theorem dL_isFit_193 : decode cL_isFit 193 = .ok (.iconst 2, 1) := by decide +kernel
theorem dL_isFit_194 : decode cL_isFit 194 = .ok (.invokestatic 116, 3) := by decide +kernel
theorem dL_isFit_197 : decode cL_isFit 197 = .ok (.iload 13, 2) := by decide +kernel
theorem dL_isFit_199 : decode cL_isFit 199 = .ok (.if_icmp .ne 7, 3) := by decide +kernel
theorem dL_isFit_202 : decode cL_isFit 202 = .ok (.iconst 1, 1) := by decide +kernel
theorem dL_isFit_203 : decode cL_isFit 203 = .ok (.goto 4, 3) := by decide +kernel
theorem dL_isFit_206 : decode cL_isFit 206 = .ok (.iconst 0, 1) := by decide +kernel
theorem dL_isFit_207 : decode cL_isFit 207 = .ok (.istore 6, 2) := by decide +kernel
theorem dL_isFit_209 : decode cL_isFit 209 = .ok (.iload 7, 2) := by decide +kernel
theorem dL_isFit_211 : decode cL_isFit 211 = .ok (.ifCond .eq 12, 3) := by decide +kernel
theorem dL_isFit_214 : decode cL_isFit 214 = .ok (.iload 13, 2) := by decide +kernel
theorem dL_isFit_216 : decode cL_isFit 216 = .ok (.ifCond .ne 7, 3) := by decide +kernel
theorem dL_isFit_219 : decode cL_isFit 219 = .ok (.iconst 1, 1) := by decide +kernel
theorem dL_isFit_220 : decode cL_isFit 220 = .ok (.goto 4, 3) := by decide +kernel
theorem dL_isFit_223 : decode cL_isFit 223 = .ok (.iconst 0, 1) := by decide +kernel
theorem dL_isFit_224 : decode cL_isFit 224 = .ok (.istore 7, 2) := by decide +kernel
theorem dL_isFit_226 : decode cL_isFit 226 = .ok (.iload 8, 2) := by decide +kernel
theorem dL_isFit_228 : decode cL_isFit 228 = .ok (.aload_n 0, 1) := by decide +kernel
theorem dL_isFit_229 : decode cL_isFit 229 = .ok (.iload_n 1, 1) := by decide +kernel
theorem dL_isFit_230 : decode cL_isFit 230 = .ok (.iload 10, 2) := by decide +kernel
theorem dL_isFit_232 : decode cL_isFit 232 = .ok (.iconst 3, 1) := by decide +kernel
theorem dL_isFit_233 : decode cL_isFit 233 = .ok (.invokestatic 116, 3) := by decide +kernel
theorem dL_isFit_236 : decode cL_isFit 236 = .ok (.iadd, 1) := by decide +kernel
theorem dL_isFit_237 : decode cL_isFit 237 = .ok (.istore 8, 2) := by decide +kernel
theorem dL_isFit_239 : decode cL_isFit 239 = .ok (.iload 9, 2) := by decide +kernel
theorem dL_isFit_241 : decode cL_isFit 241 = .ok (.aload_n 0, 1) := by decide +kernel
theorem dL_isFit_242 : decode cL_isFit 242 = .ok (.iload_n 1, 1) := by decide +kernel
theorem dL_isFit_243 : decode cL_isFit 243 = .ok (.iload 10, 2) := by decide +kernel
theorem dL_isFit_245 : decode cL_isFit 245 = .ok (.iconst 4, 1) := by decide +kernel
theorem dL_isFit_246 : decode cL_isFit 246 = .ok (.invokestatic 116, 3) := by decide +kernel
theorem dL_isFit_249 : decode cL_isFit 249 = .ok (.iadd, 1) := by decide +kernel
theorem dL_isFit_250 : decode cL_isFit 250 = .ok (.istore 9, 2) := by decide +kernel
theorem dL_isFit_252 : decode cL_isFit 252 = .ok (.iinc 10 1, 3) := by decide +kernel
theorem dL_isFit_255 : decode cL_isFit 255 = .ok (.goto (-120), 3) := by decide +kernel
theorem dL_isFit_258 : decode cL_isFit 258 = .ok (.iconst 0, 1) := by decide +kernel
theorem dL_isFit_259 : decode cL_isFit 259 = .ok (.istore 10, 2) := by decide +kernel
theorem dL_isFit_261 : decode cL_isFit 261 = .ok (.iconst 0, 1) := by decide +kernel
theorem dL_isFit_262 : decode cL_isFit 262 = .ok (.istore 11, 2) := by decide +kernel
theorem dL_isFit_264 : decode cL_isFit 264 = .ok (.iconst 0, 1) := by decide +kernel
theorem dL_isFit_265 : decode cL_isFit 265 = .ok (.istore 12, 2) := by decide +kernel
theorem dL_isFit_267 : decode cL_isFit 267 = .ok (.iload 12, 2) := by decide +kernel
theorem dL_isFit_269 : decode cL_isFit 269 = .ok (.iload 4, 2) := by decide +kernel
theorem dL_isFit_271 : decode cL_isFit 271 = .ok (.if_icmp .ge 123, 3) := by decide +kernel
theorem dL_isFit_274 : decode cL_isFit 274 = .ok (.iload 6, 2) := by decide +kernel
theorem dL_isFit_276 : decode cL_isFit 276 = .ok (.ifCond .eq 118, 3) := by decide +kernel
theorem dL_isFit_279 : decode cL_isFit 279 = .ok (.aload_n 0, 1) := by decide +kernel
theorem dL_isFit_280 : decode cL_isFit 280 = .ok (.iload_n 1, 1) := by decide +kernel
theorem dL_isFit_281 : decode cL_isFit 281 = .ok (.iconst 0, 1) := by decide +kernel
theorem dL_isFit_282 : decode cL_isFit 282 = .ok (.iload 12, 2) := by decide +kernel
theorem dL_isFit_284 : decode cL_isFit 284 = .ok (.iconst 2, 1) := by decide +kernel
theorem dL_isFit_285 : decode cL_isFit 285 = .ok (.invokestatic 119, 3) := by decide +kernel
theorem dL_isFit_288 : decode cL_isFit 288 = .ok (.istore 13, 2) := by decide +kernel
theorem dL_isFit_290 : decode cL_isFit 290 = .ok (.iload 13, 2) := by decide +kernel
theorem dL_isFit_292 : decode cL_isFit 292 = .ok (.iload 10, 2) := by decide +kernel
theorem dL_isFit_294 : decode cL_isFit 294 = .ok (.if_icmp .lt 73, 3) := by decide +kernel
theorem dL_isFit_297 : decode cL_isFit 297 = .ok (.iload 13, 2) := by decide +kernel
theorem dL_isFit_299 : decode cL_isFit 299 = .ok (.aload_n 0, 1) := by decide +kernel
theorem dL_isFit_300 : decode cL_isFit 300 = .ok (.iconst 3, 1) := by decide +kernel
theorem dL_isFit_301 : decode cL_isFit 301 = .ok (.invokestatic 105, 3) := by decide +kernel
theorem dL_isFit_304 : decode cL_isFit 304 = .ok (.if_icmp .gt 63, 3) := by decide +kernel
theorem dL_isFit_307 : decode cL_isFit 307 = .ok (.aload_n 0, 1) := by decide +kernel
theorem dL_isFit_308 : decode cL_isFit 308 = .ok (.iconst 3, 1) := by decide +kernel
theorem dL_isFit_309 : decode cL_isFit 309 = .ok (.invokestatic 105, 3) := by decide +kernel
theorem dL_isFit_312 : decode cL_isFit 312 = .ok (.iload 13, 2) := by decide +kernel
theorem dL_isFit_314 : decode cL_isFit 314 = .ok (.isub, 1) := by decide +kernel
theorem dL_isFit_315 : decode cL_isFit 315 = .ok (.bipush 14, 2) := by decide +kernel
theorem dL_isFit_317 : decode cL_isFit 317 = .ok (.if_icmp .gt 50, 3) := by decide +kernel
theorem dL_isFit_320 : decode cL_isFit 320 = .ok (.aload_n 0, 1) := by decide +kernel
theorem dL_isFit_321 : decode cL_isFit 321 = .ok (.iload_n 1, 1) := by decide +kernel
theorem dL_isFit_322 : decode cL_isFit 322 = .ok (.iconst 0, 1) := by decide +kernel
theorem dL_isFit_323 : decode cL_isFit 323 = .ok (.iload 12, 2) := by decide +kernel
theorem dL_isFit_325 : decode cL_isFit 325 = .ok (.iconst 1, 1) := by decide +kernel
theorem dL_isFit_326 : decode cL_isFit 326 = .ok (.invokestatic 119, 3) := by decide +kernel
theorem dL_isFit_329 : decode cL_isFit 329 = .ok (.ifCond .le 38, 3) := by decide +kernel
theorem dL_isFit_332 : decode cL_isFit 332 = .ok (.aload_n 0, 1) := by decide +kernel
theorem dL_isFit_333 : decode cL_isFit 333 = .ok (.iload_n 1, 1) := by decide +kernel
theorem dL_isFit_334 : decode cL_isFit 334 = .ok (.iconst 0, 1) := by decide +kernel
theorem dL_isFit_335 : decode cL_isFit 335 = .ok (.iload 12, 2) := by decide +kernel
theorem dL_isFit_337 : decode cL_isFit 337 = .ok (.iconst 1, 1) := by decide +kernel
theorem dL_isFit_338 : decode cL_isFit 338 = .ok (.invokestatic 119, 3) := by decide +kernel
theorem dL_isFit_341 : decode cL_isFit 341 = .ok (.bipush 13, 2) := by decide +kernel
theorem dL_isFit_343 : decode cL_isFit 343 = .ok (.if_icmp .ge 24, 3) := by decide +kernel
theorem dL_isFit_346 : decode cL_isFit 346 = .ok (.iload_n 3, 1) := by decide +kernel
theorem dL_isFit_347 : decode cL_isFit 347 = .ok (.ifCond .lt 16, 3) := by decide +kernel
theorem dL_isFit_350 : decode cL_isFit 350 = .ok (.aload_n 0, 1) := by decide +kernel
theorem dL_isFit_351 : decode cL_isFit 351 = .ok (.iload_n 1, 1) := by decide +kernel
theorem dL_isFit_352 : decode cL_isFit 352 = .ok (.iconst 0, 1) := by decide +kernel
theorem dL_isFit_353 : decode cL_isFit 353 = .ok (.iload 12, 2) := by decide +kernel
theorem dL_isFit_355 : decode cL_isFit 355 = .ok (.iconst 3, 1) := by decide +kernel
theorem dL_isFit_356 : decode cL_isFit 356 = .ok (.invokestatic 119, 3) := by decide +kernel
theorem dL_isFit_359 : decode cL_isFit 359 = .ok (.iload_n 3, 1) := by decide +kernel
theorem dL_isFit_360 : decode cL_isFit 360 = .ok (.if_icmp .ne 7, 3) := by decide +kernel
theorem dL_isFit_363 : decode cL_isFit 363 = .ok (.iconst 1, 1) := by decide +kernel
theorem dL_isFit_364 : decode cL_isFit 364 = .ok (.goto 4, 3) := by decide +kernel
theorem dL_isFit_367 : decode cL_isFit 367 = .ok (.iconst 0, 1) := by decide +kernel
theorem dL_isFit_368 : decode cL_isFit 368 = .ok (.istore 6, 2) := by decide +kernel
theorem dL_isFit_370 : decode cL_isFit 370 = .ok (.iload 13, 2) := by decide +kernel
theorem dL_isFit_372 : decode cL_isFit 372 = .ok (.istore 10, 2) := by decide +kernel
theorem dL_isFit_374 : decode cL_isFit 374 = .ok (.iload 11, 2) := by decide +kernel
theorem dL_isFit_376 : decode cL_isFit 376 = .ok (.aload_n 0, 1) := by decide +kernel
theorem dL_isFit_377 : decode cL_isFit 377 = .ok (.iload_n 1, 1) := by decide +kernel
theorem dL_isFit_378 : decode cL_isFit 378 = .ok (.iconst 0, 1) := by decide +kernel
theorem dL_isFit_379 : decode cL_isFit 379 = .ok (.iload 12, 2) := by decide +kernel
theorem dL_isFit_381 : decode cL_isFit 381 = .ok (.iconst 1, 1) := by decide +kernel
theorem dL_isFit_382 : decode cL_isFit 382 = .ok (.invokestatic 119, 3) := by decide +kernel
theorem dL_isFit_385 : decode cL_isFit 385 = .ok (.iadd, 1) := by decide +kernel
theorem dL_isFit_386 : decode cL_isFit 386 = .ok (.istore 11, 2) := by decide +kernel
theorem dL_isFit_388 : decode cL_isFit 388 = .ok (.iinc 12 1, 3) := by decide +kernel
theorem dL_isFit_391 : decode cL_isFit 391 = .ok (.goto (-124), 3) := by decide +kernel
theorem dL_isFit_394 : decode cL_isFit 394 = .ok (.iconst 0, 1) := by decide +kernel
theorem dL_isFit_395 : decode cL_isFit 395 = .ok (.istore 12, 2) := by decide +kernel
theorem dL_isFit_397 : decode cL_isFit 397 = .ok (.iload 12, 2) := by decide +kernel
theorem dL_isFit_399 : decode cL_isFit 399 = .ok (.iload 5, 2) := by decide +kernel
theorem dL_isFit_401 : decode cL_isFit 401 = .ok (.if_icmp .ge 75, 3) := by decide +kernel
theorem dL_isFit_404 : decode cL_isFit 404 = .ok (.iload 6, 2) := by decide +kernel
theorem dL_isFit_406 : decode cL_isFit 406 = .ok (.ifCond .eq 70, 3) := by decide +kernel
theorem dL_isFit_409 : decode cL_isFit 409 = .ok (.aload_n 0, 1) := by decide +kernel
theorem dL_isFit_410 : decode cL_isFit 410 = .ok (.iload_n 1, 1) := by decide +kernel
theorem dL_isFit_411 : decode cL_isFit 411 = .ok (.iconst 1, 1) := by decide +kernel
theorem dL_isFit_412 : decode cL_isFit 412 = .ok (.iload 12, 2) := by decide +kernel
theorem dL_isFit_414 : decode cL_isFit 414 = .ok (.iconst 0, 1) := by decide +kernel
theorem dL_isFit_415 : decode cL_isFit 415 = .ok (.invokestatic 119, 3) := by decide +kernel
theorem dL_isFit_418 : decode cL_isFit 418 = .ok (.ifCond .lt 49, 3) := by decide +kernel
theorem dL_isFit_421 : decode cL_isFit 421 = .ok (.aload_n 0, 1) := by decide +kernel
theorem dL_isFit_422 : decode cL_isFit 422 = .ok (.iload_n 1, 1) := by decide +kernel
theorem dL_isFit_423 : decode cL_isFit 423 = .ok (.iconst 1, 1) := by decide +kernel
theorem dL_isFit_424 : decode cL_isFit 424 = .ok (.iload 12, 2) := by decide +kernel
theorem dL_isFit_426 : decode cL_isFit 426 = .ok (.iconst 0, 1) := by decide +kernel
theorem dL_isFit_427 : decode cL_isFit 427 = .ok (.invokestatic 119, 3) := by decide +kernel
theorem dL_isFit_430 : decode cL_isFit 430 = .ok (.iconst 3, 1) := by decide +kernel
theorem dL_isFit_431 : decode cL_isFit 431 = .ok (.if_icmp .ge 36, 3) := by decide +kernel
theorem dL_isFit_434 : decode cL_isFit 434 = .ok (.aload_n 0, 1) := by decide +kernel
theorem dL_isFit_435 : decode cL_isFit 435 = .ok (.iload_n 1, 1) := by decide +kernel
theorem dL_isFit_436 : decode cL_isFit 436 = .ok (.iconst 1, 1) := by decide +kernel
theorem dL_isFit_437 : decode cL_isFit 437 = .ok (.iload 12, 2) := by decide +kernel
theorem dL_isFit_439 : decode cL_isFit 439 = .ok (.iconst 2, 1) := by decide +kernel
theorem dL_isFit_440 : decode cL_isFit 440 = .ok (.invokestatic 119, 3) := by decide +kernel
theorem dL_isFit_443 : decode cL_isFit 443 = .ok (.aload_n 0, 1) := by decide +kernel
theorem dL_isFit_444 : decode cL_isFit 444 = .ok (.iconst 3, 1) := by decide +kernel
theorem dL_isFit_445 : decode cL_isFit 445 = .ok (.invokestatic 105, 3) := by decide +kernel
theorem dL_isFit_448 : decode cL_isFit 448 = .ok (.if_icmp .gt 19, 3) := by decide +kernel
theorem dL_isFit_451 : decode cL_isFit 451 = .ok (.aload_n 0, 1) := by decide +kernel
theorem dL_isFit_452 : decode cL_isFit 452 = .ok (.iload_n 1, 1) := by decide +kernel
theorem dL_isFit_453 : decode cL_isFit 453 = .ok (.iconst 1, 1) := by decide +kernel
theorem dL_isFit_454 : decode cL_isFit 454 = .ok (.iload 12, 2) := by decide +kernel
theorem dL_isFit_456 : decode cL_isFit 456 = .ok (.iconst 3, 1) := by decide +kernel
theorem dL_isFit_457 : decode cL_isFit 457 = .ok (.invokestatic 119, 3) := by decide +kernel
theorem dL_isFit_460 : decode cL_isFit 460 = .ok (.ifCond .lt 7, 3) := by decide +kernel
theorem dL_isFit_463 : decode cL_isFit 463 = .ok (.iconst 1, 1) := by decide +kernel
theorem dL_isFit_464 : decode cL_isFit 464 = .ok (.goto 4, 3) := by decide +kernel
theorem dL_isFit_467 : decode cL_isFit 467 = .ok (.iconst 0, 1) := by decide +kernel
theorem dL_isFit_468 : decode cL_isFit 468 = .ok (.istore 6, 2) := by decide +kernel
theorem dL_isFit_470 : decode cL_isFit 470 = .ok (.iinc 12 1, 3) := by decide +kernel
theorem dL_isFit_473 : decode cL_isFit 473 = .ok (.goto (-76), 3) := by decide +kernel
theorem dL_isFit_476 : decode cL_isFit 476 = .ok (.iload 6, 2) := by decide +kernel
theorem dL_isFit_478 : decode cL_isFit 478 = .ok (.ifCond .eq 82, 3) := by decide +kernel
theorem dL_isFit_481 : decode cL_isFit 481 = .ok (.iload 11, 2) := by decide +kernel
theorem dL_isFit_483 : decode cL_isFit 483 = .ok (.iload 8, 2) := by decide +kernel
theorem dL_isFit_485 : decode cL_isFit 485 = .ok (.if_icmp .ne 75, 3) := by decide +kernel
theorem dL_isFit_488 : decode cL_isFit 488 = .ok (.aload_n 0, 1) := by decide +kernel
theorem dL_isFit_489 : decode cL_isFit 489 = .ok (.iload_n 1, 1) := by decide +kernel
theorem dL_isFit_490 : decode cL_isFit 490 = .ok (.iconst 4, 1) := by decide +kernel
theorem dL_isFit_491 : decode cL_isFit 491 = .ok (.invokestatic 113, 3) := by decide +kernel
theorem dL_isFit_494 : decode cL_isFit 494 = .ok (.iload 8, 2) := by decide +kernel
theorem dL_isFit_496 : decode cL_isFit 496 = .ok (.if_icmp .ne 64, 3) := by decide +kernel
theorem dL_isFit_499 : decode cL_isFit 499 = .ok (.aload_n 0, 1) := by decide +kernel
theorem dL_isFit_500 : decode cL_isFit 500 = .ok (.iload_n 1, 1) := by decide +kernel
theorem dL_isFit_501 : decode cL_isFit 501 = .ok (.iconst 5, 1) := by decide +kernel
theorem dL_isFit_502 : decode cL_isFit 502 = .ok (.invokestatic 113, 3) := by decide +kernel
theorem dL_isFit_505 : decode cL_isFit 505 = .ok (.iload 9, 2) := by decide +kernel
theorem dL_isFit_507 : decode cL_isFit 507 = .ok (.if_icmp .ne 53, 3) := by decide +kernel
theorem dL_isFit_510 : decode cL_isFit 510 = .ok (.aload_n 0, 1) := by decide +kernel
theorem dL_isFit_511 : decode cL_isFit 511 = .ok (.iload_n 1, 1) := by decide +kernel
theorem dL_isFit_512 : decode cL_isFit 512 = .ok (.bipush 11, 2) := by decide +kernel
theorem dL_isFit_514 : decode cL_isFit 514 = .ok (.invokestatic 113, 3) := by decide +kernel
theorem dL_isFit_517 : decode cL_isFit 517 = .ok (.iload 7, 2) := by decide +kernel
theorem dL_isFit_519 : decode cL_isFit 519 = .ok (.ifCond .eq 7, 3) := by decide +kernel
theorem dL_isFit_522 : decode cL_isFit 522 = .ok (.iconst 1, 1) := by decide +kernel
theorem dL_isFit_523 : decode cL_isFit 523 = .ok (.goto 4, 3) := by decide +kernel
theorem dL_isFit_526 : decode cL_isFit 526 = .ok (.iconst 0, 1) := by decide +kernel
theorem dL_isFit_527 : decode cL_isFit 527 = .ok (.if_icmp .ne 33, 3) := by decide +kernel
theorem dL_isFit_530 : decode cL_isFit 530 = .ok (.aload_n 0, 1) := by decide +kernel
theorem dL_isFit_531 : decode cL_isFit 531 = .ok (.iload_n 1, 1) := by decide +kernel
theorem dL_isFit_532 : decode cL_isFit 532 = .ok (.iconst 0, 1) := by decide +kernel
theorem dL_isFit_533 : decode cL_isFit 533 = .ok (.iload 4, 2) := by decide +kernel
theorem dL_isFit_535 : decode cL_isFit 535 = .ok (.iconst 0, 1) := by decide +kernel
theorem dL_isFit_536 : decode cL_isFit 536 = .ok (.invokestatic 119, 3) := by decide +kernel
theorem dL_isFit_539 : decode cL_isFit 539 = .ok (.iconst (-1), 1) := by decide +kernel
theorem dL_isFit_540 : decode cL_isFit 540 = .ok (.if_icmp .ne 20, 3) := by decide +kernel
theorem dL_isFit_543 : decode cL_isFit 543 = .ok (.aload_n 0, 1) := by decide +kernel
theorem dL_isFit_544 : decode cL_isFit 544 = .ok (.iload_n 1, 1) := by decide +kernel
theorem dL_isFit_545 : decode cL_isFit 545 = .ok (.iconst 1, 1) := by decide +kernel
theorem dL_isFit_546 : decode cL_isFit 546 = .ok (.iload 5, 2) := by decide +kernel
theorem dL_isFit_548 : decode cL_isFit 548 = .ok (.iconst 0, 1) := by decide +kernel
theorem dL_isFit_549 : decode cL_isFit 549 = .ok (.invokestatic 119, 3) := by decide +kernel
theorem dL_isFit_552 : decode cL_isFit 552 = .ok (.iconst (-1), 1) := by decide +kernel
theorem dL_isFit_553 : decode cL_isFit 553 = .ok (.if_icmp .ne 7, 3) := by decide +kernel
theorem dL_isFit_556 : decode cL_isFit 556 = .ok (.iconst 1, 1) := by decide +kernel
theorem dL_isFit_557 : decode cL_isFit 557 = .ok (.goto 4, 3) := by decide +kernel
theorem dL_isFit_560 : decode cL_isFit 560 = .ok (.iconst 0, 1) := by decide +kernel
theorem dL_isFit_561 : decode cL_isFit 561 = .ok (.ireturn, 1) := by decide +kernel
theorem dL_fits_0 : decode cL_fits 0 = .ok (.iconst 0, 1) := by decide +kernel
theorem dL_fits_1 : decode cL_fits 1 = .ok (.istore_n 1, 1) := by decide +kernel
theorem dL_fits_2 : decode cL_fits 2 = .ok (.iconst 0, 1) := by decide +kernel
theorem dL_fits_3 : decode cL_fits 3 = .ok (.istore_n 2, 1) := by decide +kernel
theorem dL_fits_4 : decode cL_fits 4 = .ok (.iconst 0, 1) := by decide +kernel
theorem dL_fits_5 : decode cL_fits 5 = .ok (.istore_n 3, 1) := by decide +kernel
theorem dL_fits_6 : decode cL_fits 6 = .ok (.iconst 0, 1) := by decide +kernel
theorem dL_fits_7 : decode cL_fits 7 = .ok (.istore 4, 2) := by decide +kernel
theorem dL_fits_9 : decode cL_fits 9 = .ok (.iconst 0, 1) := by decide +kernel
theorem dL_fits_10 : decode cL_fits 10 = .ok (.istore 5, 2) := by decide +kernel
theorem dL_fits_12 : decode cL_fits 12 = .ok (.iconst 1, 1) := by decide +kernel
theorem dL_fits_13 : decode cL_fits 13 = .ok (.istore 6, 2) := by decide +kernel
theorem dL_fits_15 : decode cL_fits 15 = .ok (.iconst 0, 1) := by decide +kernel
theorem dL_fits_16 : decode cL_fits 16 = .ok (.istore 7, 2) := by decide +kernel
theorem dL_fits_18 : decode cL_fits 18 = .ok (.iload 7, 2) := by decide +kernel
theorem dL_fits_20 : decode cL_fits 20 = .ok (.aload_n 0, 1) := by decide +kernel
theorem dL_fits_21 : decode cL_fits 21 = .ok (.iconst 2, 1) := by decide +kernel
theorem dL_fits_22 : decode cL_fits 22 = .ok (.invokestatic 105, 3) := by decide +kernel
theorem dL_fits_25 : decode cL_fits 25 = .ok (.if_icmp .ge 86, 3) := by decide +kernel
theorem dL_fits_28 : decode cL_fits 28 = .ok (.iload 6, 2) := by decide +kernel
theorem dL_fits_30 : decode cL_fits 30 = .ok (.ifCond .eq 81, 3) := by decide +kernel
theorem dL_fits_33 : decode cL_fits 33 = .ok (.aload_n 0, 1) := by decide +kernel
theorem dL_fits_34 : decode cL_fits 34 = .ok (.iload 7, 2) := by decide +kernel
theorem dL_fits_36 : decode cL_fits 36 = .ok (.invokestatic 178, 3) := by decide +kernel
theorem dL_fits_39 : decode cL_fits 39 = .ok (.istore 6, 2) := by decide +kernel
theorem dL_fits_41 : decode cL_fits 41 = .ok (.iload_n 1, 1) := by decide +kernel
theorem dL_fits_42 : decode cL_fits 42 = .ok (.aload_n 0, 1) := by decide +kernel
theorem dL_fits_43 : decode cL_fits 43 = .ok (.iload 7, 2) := by decide +kernel
theorem dL_fits_45 : decode cL_fits 45 = .ok (.iconst 2, 1) := by decide +kernel
theorem dL_fits_46 : decode cL_fits 46 = .ok (.invokestatic 113, 3) := by decide +kernel
theorem dL_fits_49 : decode cL_fits 49 = .ok (.iadd, 1) := by decide +kernel
theorem dL_fits_50 : decode cL_fits 50 = .ok (.istore_n 1, 1) := by decide +kernel
theorem dL_fits_51 : decode cL_fits 51 = .ok (.iload_n 2, 1) := by decide +kernel
theorem dL_fits_52 : decode cL_fits 52 = .ok (.aload_n 0, 1) := by decide +kernel
theorem dL_fits_53 : decode cL_fits 53 = .ok (.iload 7, 2) := by decide +kernel
theorem dL_fits_55 : decode cL_fits 55 = .ok (.iconst 3, 1) := by decide +kernel
theorem dL_fits_56 : decode cL_fits 56 = .ok (.invokestatic 113, 3) := by decide +kernel
theorem dL_fits_59 : decode cL_fits 59 = .ok (.iadd, 1) := by decide +kernel
theorem dL_fits_60 : decode cL_fits 60 = .ok (.istore_n 2, 1) := by decide +kernel
theorem dL_fits_61 : decode cL_fits 61 = .ok (.iload_n 3, 1) := by decide +kernel
theorem dL_fits_62 : decode cL_fits 62 = .ok (.aload_n 0, 1) := by decide +kernel
theorem dL_fits_63 : decode cL_fits 63 = .ok (.iload 7, 2) := by decide +kernel
theorem dL_fits_65 : decode cL_fits 65 = .ok (.bipush 11, 2) := by decide +kernel
theorem dL_fits_67 : decode cL_fits 67 = .ok (.invokestatic 113, 3) := by decide +kernel
theorem dL_fits_70 : decode cL_fits 70 = .ok (.iadd, 1) := by decide +kernel
theorem dL_fits_71 : decode cL_fits 71 = .ok (.istore_n 3, 1) := by decide +kernel
theorem dL_fits_72 : decode cL_fits 72 = .ok (.iload 4, 2) := by decide +kernel
theorem dL_fits_74 : decode cL_fits 74 = .ok (.aload_n 0, 1) := by decide +kernel
theorem dL_fits_75 : decode cL_fits 75 = .ok (.iload 7, 2) := by decide +kernel
theorem dL_fits_77 : decode cL_fits 77 = .ok (.iconst 1, 1) := by decide +kernel
theorem dL_fits_78 : decode cL_fits 78 = .ok (.invokestatic 113, 3) := by decide +kernel
theorem dL_fits_81 : decode cL_fits 81 = .ok (.ifCond .ge 7, 3) := by decide +kernel
theorem dL_fits_84 : decode cL_fits 84 = .ok (.iconst 1, 1) := by decide +kernel
theorem dL_fits_85 : decode cL_fits 85 = .ok (.goto 4, 3) := by decide +kernel
theorem dL_fits_88 : decode cL_fits 88 = .ok (.iconst 0, 1) := by decide +kernel
theorem dL_fits_89 : decode cL_fits 89 = .ok (.iadd, 1) := by decide +kernel
theorem dL_fits_90 : decode cL_fits 90 = .ok (.istore 4, 2) := by decide +kernel
theorem dL_fits_92 : decode cL_fits 92 = .ok (.iload 5, 2) := by decide +kernel
theorem dL_fits_94 : decode cL_fits 94 = .ok (.aload_n 0, 1) := by decide +kernel
theorem dL_fits_95 : decode cL_fits 95 = .ok (.iload 7, 2) := by decide +kernel
theorem dL_fits_97 : decode cL_fits 97 = .ok (.bipush 6, 2) := by decide +kernel
theorem dL_fits_99 : decode cL_fits 99 = .ok (.invokestatic 113, 3) := by decide +kernel
theorem dL_fits_102 : decode cL_fits 102 = .ok (.iadd, 1) := by decide +kernel
theorem dL_fits_103 : decode cL_fits 103 = .ok (.istore 5, 2) := by decide +kernel
theorem dL_fits_105 : decode cL_fits 105 = .ok (.iinc 7 1, 3) := by decide +kernel
theorem dL_fits_108 : decode cL_fits 108 = .ok (.goto (-90), 3) := by decide +kernel
theorem dL_fits_111 : decode cL_fits 111 = .ok (.iconst 0, 1) := by decide +kernel
theorem dL_fits_112 : decode cL_fits 112 = .ok (.istore 7, 2) := by decide +kernel
theorem dL_fits_114 : decode cL_fits 114 = .ok (.iconst 0, 1) := by decide +kernel
theorem dL_fits_115 : decode cL_fits 115 = .ok (.istore 8, 2) := by decide +kernel
theorem dL_fits_117 : decode cL_fits 117 = .ok (.iconst 0, 1) := by decide +kernel
theorem dL_fits_118 : decode cL_fits 118 = .ok (.istore 9, 2) := by decide +kernel
theorem dL_fits_120 : decode cL_fits 120 = .ok (.iload 9, 2) := by decide +kernel
theorem dL_fits_122 : decode cL_fits 122 = .ok (.aload_n 0, 1) := by decide +kernel
theorem dL_fits_123 : decode cL_fits 123 = .ok (.iconst 1, 1) := by decide +kernel
theorem dL_fits_124 : decode cL_fits 124 = .ok (.invokestatic 105, 3) := by decide +kernel
theorem dL_fits_127 : decode cL_fits 127 = .ok (.if_icmp .ge 33, 3) := by decide +kernel
theorem dL_fits_130 : decode cL_fits 130 = .ok (.iload 7, 2) := by decide +kernel
theorem dL_fits_132 : decode cL_fits 132 = .ok (.aload_n 0, 1) := by decide +kernel
theorem dL_fits_133 : decode cL_fits 133 = .ok (.iload 9, 2) := by decide +kernel
theorem dL_fits_135 : decode cL_fits 135 = .ok (.iconst 2, 1) := by decide +kernel
theorem dL_fits_136 : decode cL_fits 136 = .ok (.invokestatic 110, 3) := by decide +kernel
theorem dL_fits_139 : decode cL_fits 139 = .ok (.iadd, 1) := by decide +kernel
theorem dL_fits_140 : decode cL_fits 140 = .ok (.istore 7, 2) := by decide +kernel
theorem dL_fits_142 : decode cL_fits 142 = .ok (.iload 8, 2) := by decide +kernel
theorem dL_fits_144 : decode cL_fits 144 = .ok (.aload_n 0, 1) := by decide +kernel
theorem dL_fits_145 : decode cL_fits 145 = .ok (.iload 9, 2) := by decide +kernel
theorem dL_fits_147 : decode cL_fits 147 = .ok (.iconst 3, 1) := by decide +kernel
theorem dL_fits_148 : decode cL_fits 148 = .ok (.invokestatic 110, 3) := by decide +kernel
theorem dL_fits_151 : decode cL_fits 151 = .ok (.iadd, 1) := by decide +kernel
theorem dL_fits_152 : decode cL_fits 152 = .ok (.istore 8, 2) := by decide +kernel
theorem dL_fits_154 : decode cL_fits 154 = .ok (.iinc 9 1, 3) := by decide +kernel
theorem dL_fits_157 : decode cL_fits 157 = .ok (.goto (-37), 3) := by decide +kernel
theorem dL_fits_160 : decode cL_fits 160 = .ok (.iload 6, 2) := by decide +kernel
theorem dL_fits_162 : decode cL_fits 162 = .ok (.ifCond .eq 76, 3) := by decide +kernel
theorem dL_fits_165 : decode cL_fits 165 = .ok (.aload_n 0, 1) := by decide +kernel
theorem dL_fits_166 : decode cL_fits 166 = .ok (.iconst 4, 1) := by decide +kernel
theorem dL_fits_167 : decode cL_fits 167 = .ok (.invokestatic 105, 3) := by decide +kernel
theorem dL_fits_170 : decode cL_fits 170 = .ok (.iload_n 1, 1) := by decide +kernel
theorem dL_fits_171 : decode cL_fits 171 = .ok (.if_icmp .ne 67, 3) := by decide +kernel
theorem dL_fits_174 : decode cL_fits 174 = .ok (.aload_n 0, 1) := by decide +kernel
theorem dL_fits_175 : decode cL_fits 175 = .ok (.iconst 5, 1) := by decide +kernel
theorem dL_fits_176 : decode cL_fits 176 = .ok (.invokestatic 105, 3) := by decide +kernel
theorem dL_fits_179 : decode cL_fits 179 = .ok (.iload_n 2, 1) := by decide +kernel
theorem dL_fits_180 : decode cL_fits 180 = .ok (.if_icmp .ne 58, 3) := by decide +kernel
theorem dL_fits_183 : decode cL_fits 183 = .ok (.aload_n 0, 1) := by decide +kernel
theorem dL_fits_184 : decode cL_fits 184 = .ok (.bipush 6, 2) := by decide +kernel
theorem dL_fits_186 : decode cL_fits 186 = .ok (.invokestatic 105, 3) := by decide +kernel
theorem dL_fits_189 : decode cL_fits 189 = .ok (.iload_n 3, 1) := by decide +kernel
theorem dL_fits_190 : decode cL_fits 190 = .ok (.if_icmp .ne 48, 3) := by decide +kernel
theorem dL_fits_193 : decode cL_fits 193 = .ok (.aload_n 0, 1) := by decide +kernel
theorem dL_fits_194 : decode cL_fits 194 = .ok (.bipush 7, 2) := by decide +kernel
theorem dL_fits_196 : decode cL_fits 196 = .ok (.invokestatic 105, 3) := by decide +kernel
theorem dL_fits_199 : decode cL_fits 199 = .ok (.iload 4, 2) := by decide +kernel
theorem dL_fits_201 : decode cL_fits 201 = .ok (.if_icmp .ne 37, 3) := by decide +kernel
theorem dL_fits_204 : decode cL_fits 204 = .ok (.aload_n 0, 1) := by decide +kernel
theorem dL_fits_205 : decode cL_fits 205 = .ok (.bipush 8, 2) := by decide +kernel
theorem dL_fits_207 : decode cL_fits 207 = .ok (.invokestatic 105, 3) := by decide +kernel
theorem dL_fits_210 : decode cL_fits 210 = .ok (.iload 5, 2) := by decide +kernel
theorem dL_fits_212 : decode cL_fits 212 = .ok (.if_icmp .ne 26, 3) := by decide +kernel
theorem dL_fits_215 : decode cL_fits 215 = .ok (.iload 7, 2) := by decide +kernel
theorem dL_fits_217 : decode cL_fits 217 = .ok (.iload 4, 2) := by decide +kernel
theorem dL_fits_219 : decode cL_fits 219 = .ok (.iadd, 1) := by decide +kernel
theorem dL_fits_220 : decode cL_fits 220 = .ok (.aload_n 0, 1) := by decide +kernel
theorem dL_fits_221 : decode cL_fits 221 = .ok (.iconst 2, 1) := by decide +kernel
theorem dL_fits_222 : decode cL_fits 222 = .ok (.invokestatic 105, 3) := by decide +kernel
theorem dL_fits_225 : decode cL_fits 225 = .ok (.if_icmp .ne 13, 3) := by decide +kernel
theorem dL_fits_228 : decode cL_fits 228 = .ok (.iload 8, 2) := by decide +kernel
theorem dL_fits_230 : decode cL_fits 230 = .ok (.iload_n 1, 1) := by decide +kernel
theorem dL_fits_231 : decode cL_fits 231 = .ok (.if_icmp .gt 7, 3) := by decide +kernel
theorem dL_fits_234 : decode cL_fits 234 = .ok (.iconst 1, 1) := by decide +kernel
theorem dL_fits_235 : decode cL_fits 235 = .ok (.goto 4, 3) := by decide +kernel
theorem dL_fits_238 : decode cL_fits 238 = .ok (.iconst 0, 1) := by decide +kernel
theorem dL_fits_239 : decode cL_fits 239 = .ok (.ireturn, 1) := by decide +kernel
theorem dL_hoursOf_0 : decode cL_hoursOf 0 = .ok (.aload_n 0, 1) := by decide +kernel
theorem dL_hoursOf_1 : decode cL_hoursOf 1 = .ok (.iload_n 1, 1) := by decide +kernel
theorem dL_hoursOf_2 : decode cL_hoursOf 2 = .ok (.iconst 4, 1) := by decide +kernel
theorem dL_hoursOf_3 : decode cL_hoursOf 3 = .ok (.invokestatic 113, 3) := by decide +kernel
theorem dL_hoursOf_6 : decode cL_hoursOf 6 = .ok (.aload_n 0, 1) := by decide +kernel
theorem dL_hoursOf_7 : decode cL_hoursOf 7 = .ok (.iload_n 1, 1) := by decide +kernel
theorem dL_hoursOf_8 : decode cL_hoursOf 8 = .ok (.iconst 5, 1) := by decide +kernel
theorem dL_hoursOf_9 : decode cL_hoursOf 9 = .ok (.invokestatic 113, 3) := by decide +kernel
theorem dL_hoursOf_12 : decode cL_hoursOf 12 = .ok (.iadd, 1) := by decide +kernel
theorem dL_hoursOf_13 : decode cL_hoursOf 13 = .ok (.aload_n 0, 1) := by decide +kernel
theorem dL_hoursOf_14 : decode cL_hoursOf 14 = .ok (.iload_n 1, 1) := by decide +kernel
theorem dL_hoursOf_15 : decode cL_hoursOf 15 = .ok (.bipush 6, 2) := by decide +kernel
theorem dL_hoursOf_17 : decode cL_hoursOf 17 = .ok (.invokestatic 113, 3) := by decide +kernel
theorem dL_hoursOf_20 : decode cL_hoursOf 20 = .ok (.iadd, 1) := by decide +kernel
theorem dL_hoursOf_21 : decode cL_hoursOf 21 = .ok (.i2l, 1) := by decide +kernel
theorem dL_hoursOf_22 : decode cL_hoursOf 22 = .ok (.lstore_n 2, 1) := by decide +kernel
theorem dL_hoursOf_23 : decode cL_hoursOf 23 = .ok (.iconst 0, 1) := by decide +kernel
theorem dL_hoursOf_24 : decode cL_hoursOf 24 = .ok (.istore 4, 2) := by decide +kernel
theorem dL_hoursOf_26 : decode cL_hoursOf 26 = .ok (.iload 4, 2) := by decide +kernel
theorem dL_hoursOf_28 : decode cL_hoursOf 28 = .ok (.iconst 3, 1) := by decide +kernel
theorem dL_hoursOf_29 : decode cL_hoursOf 29 = .ok (.if_icmp .ge 21, 3) := by decide +kernel
theorem dL_hoursOf_32 : decode cL_hoursOf 32 = .ok (.lload_n 2, 1) := by decide +kernel
theorem dL_hoursOf_33 : decode cL_hoursOf 33 = .ok (.aload_n 0, 1) := by decide +kernel
theorem dL_hoursOf_34 : decode cL_hoursOf 34 = .ok (.iload_n 1, 1) := by decide +kernel
theorem dL_hoursOf_35 : decode cL_hoursOf 35 = .ok (.iload 4, 2) := by decide +kernel
theorem dL_hoursOf_37 : decode cL_hoursOf 37 = .ok (.iconst 1, 1) := by decide +kernel
theorem dL_hoursOf_38 : decode cL_hoursOf 38 = .ok (.invokestatic 116, 3) := by decide +kernel
theorem dL_hoursOf_41 : decode cL_hoursOf 41 = .ok (.i2l, 1) := by decide +kernel
theorem dL_hoursOf_42 : decode cL_hoursOf 42 = .ok (.ladd, 1) := by decide +kernel
theorem dL_hoursOf_43 : decode cL_hoursOf 43 = .ok (.lstore_n 2, 1) := by decide +kernel
theorem dL_hoursOf_44 : decode cL_hoursOf 44 = .ok (.iinc 4 1, 3) := by decide +kernel
theorem dL_hoursOf_47 : decode cL_hoursOf 47 = .ok (.goto (-21), 3) := by decide +kernel
theorem dL_hoursOf_50 : decode cL_hoursOf 50 = .ok (.lload_n 2, 1) := by decide +kernel
theorem dL_hoursOf_51 : decode cL_hoursOf 51 = .ok (.lreturn, 1) := by decide +kernel
theorem dL_hours_0 : decode cL_hours 0 = .ok (.lconst 0, 1) := by decide +kernel
theorem dL_hours_1 : decode cL_hours 1 = .ok (.lstore_n 1, 1) := by decide +kernel
theorem dL_hours_2 : decode cL_hours 2 = .ok (.iconst 0, 1) := by decide +kernel
theorem dL_hours_3 : decode cL_hours 3 = .ok (.istore_n 3, 1) := by decide +kernel
theorem dL_hours_4 : decode cL_hours 4 = .ok (.iload_n 3, 1) := by decide +kernel
theorem dL_hours_5 : decode cL_hours 5 = .ok (.aload_n 0, 1) := by decide +kernel
theorem dL_hours_6 : decode cL_hours 6 = .ok (.iconst 2, 1) := by decide +kernel
theorem dL_hours_7 : decode cL_hours 7 = .ok (.invokestatic 105, 3) := by decide +kernel
theorem dL_hours_10 : decode cL_hours 10 = .ok (.if_icmp .ge 17, 3) := by decide +kernel
theorem dL_hours_13 : decode cL_hours 13 = .ok (.lload_n 1, 1) := by decide +kernel
theorem dL_hours_14 : decode cL_hours 14 = .ok (.aload_n 0, 1) := by decide +kernel
theorem dL_hours_15 : decode cL_hours 15 = .ok (.iload_n 3, 1) := by decide +kernel
theorem dL_hours_16 : decode cL_hours 16 = .ok (.invokestatic 182, 3) := by decide +kernel
theorem dL_hours_19 : decode cL_hours 19 = .ok (.ladd, 1) := by decide +kernel
theorem dL_hours_20 : decode cL_hours 20 = .ok (.lstore_n 1, 1) := by decide +kernel
theorem dL_hours_21 : decode cL_hours 21 = .ok (.iinc 3 1, 3) := by decide +kernel
theorem dL_hours_24 : decode cL_hours 24 = .ok (.goto (-20), 3) := by decide +kernel
theorem dL_hours_27 : decode cL_hours 27 = .ok (.lload_n 1, 1) := by decide +kernel
theorem dL_hours_28 : decode cL_hours 28 = .ok (.lreturn, 1) := by decide +kernel
theorem dL_isForetold_0 : decode cL_isForetold 0 = .ok (.iconst 1, 1) := by decide +kernel
theorem dL_isForetold_1 : decode cL_isForetold 1 = .ok (.iload_n 2, 1) := by decide +kernel
theorem dL_isForetold_2 : decode cL_isForetold 2 = .ok (.bipush 12, 2) := by decide +kernel
theorem dL_isForetold_4 : decode cL_isForetold 4 = .ok (.invokestatic 186, 3) := by decide +kernel
theorem dL_isForetold_7 : decode cL_isForetold 7 = .ok (.iadd, 1) := by decide +kernel
theorem dL_isForetold_8 : decode cL_isForetold 8 = .ok (.istore_n 3, 1) := by decide +kernel
theorem dL_isForetold_9 : decode cL_isForetold 9 = .ok (.aload_n 0, 1) := by decide +kernel
theorem dL_isForetold_10 : decode cL_isForetold 10 = .ok (.iload_n 1, 1) := by decide +kernel
theorem dL_isForetold_11 : decode cL_isForetold 11 = .ok (.iload_n 3, 1) := by decide +kernel
theorem dL_isForetold_12 : decode cL_isForetold 12 = .ok (.invokestatic 189, 3) := by decide +kernel
theorem dL_isForetold_15 : decode cL_isForetold 15 = .ok (.istore 4, 2) := by decide +kernel
theorem dL_isForetold_17 : decode cL_isForetold 17 = .ok (.aload_n 0, 1) := by decide +kernel
theorem dL_isForetold_18 : decode cL_isForetold 18 = .ok (.iconst 3, 1) := by decide +kernel
theorem dL_isForetold_19 : decode cL_isForetold 19 = .ok (.invokestatic 105, 3) := by decide +kernel
theorem dL_isForetold_22 : decode cL_isForetold 22 = .ok (.istore 5, 2) := by decide +kernel
theorem dL_isForetold_24 : decode cL_isForetold 24 = .ok (.iconst 0, 1) := by decide +kernel
theorem dL_isForetold_25 : decode cL_isForetold 25 = .ok (.istore 6, 2) := by decide +kernel
theorem dL_isForetold_27 : decode cL_isForetold 27 = .ok (.iconst 0, 1) := by decide +kernel
theorem dL_isForetold_28 : decode cL_isForetold 28 = .ok (.istore 7, 2) := by decide +kernel
theorem dL_isForetold_30 : decode cL_isForetold 30 = .ok (.iload 7, 2) := by decide +kernel
theorem dL_isForetold_32 : decode cL_isForetold 32 = .ok (.iconst 3, 1) := by decide +kernel
theorem dL_isForetold_33 : decode cL_isForetold 33 = .ok (.if_icmp .ge 44, 3) := by decide +kernel
theorem dL_isForetold_36 : decode cL_isForetold 36 = .ok (.aload_n 0, 1) := by decide +kernel
theorem dL_isForetold_37 : decode cL_isForetold 37 = .ok (.iload_n 1, 1) := by decide +kernel
theorem dL_isForetold_38 : decode cL_isForetold 38 = .ok (.iload 7, 2) := by decide +kernel
theorem dL_isForetold_40 : decode cL_isForetold 40 = .ok (.iconst 2, 1) := by decide +kernel
theorem dL_isForetold_41 : decode cL_isForetold 41 = .ok (.invokestatic 116, 3) := by decide +kernel
theorem dL_isForetold_44 : decode cL_isForetold 44 = .ok (.aload_n 0, 1) := by decide +kernel
theorem dL_isForetold_45 : decode cL_isForetold 45 = .ok (.iload_n 1, 1) := by decide +kernel
theorem dL_isForetold_46 : decode cL_isForetold 46 = .ok (.iload 7, 2) := by decide +kernel
theorem dL_isForetold_48 : decode cL_isForetold 48 = .ok (.iconst 3, 1) := by decide +kernel
theorem dL_isForetold_49 : decode cL_isForetold 49 = .ok (.invokestatic 116, 3) := by decide +kernel
theorem dL_isForetold_52 : decode cL_isForetold 52 = .ok (.isub, 1) := by decide +kernel
theorem dL_isForetold_53 : decode cL_isForetold 53 = .ok (.istore 8, 2) := by decide +kernel
theorem dL_isForetold_55 : decode cL_isForetold 55 = .ok (.iload 6, 2) := by decide +kernel
theorem dL_isForetold_57 : decode cL_isForetold 57 = .ok (.iload 8, 2) := by decide +kernel
theorem dL_isForetold_59 : decode cL_isForetold 59 = .ok (.ifCond .le 8, 3) := by decide +kernel
theorem dL_isForetold_62 : decode cL_isForetold 62 = .ok (.iload 8, 2) := by decide +kernel
theorem dL_isForetold_64 : decode cL_isForetold 64 = .ok (.goto 4, 3) := by decide +kernel
theorem dL_isForetold_67 : decode cL_isForetold 67 = .ok (.iconst 0, 1) := by decide +kernel
theorem dL_isForetold_68 : decode cL_isForetold 68 = .ok (.iadd, 1) := by decide +kernel
theorem dL_isForetold_69 : decode cL_isForetold 69 = .ok (.istore 6, 2) := by decide +kernel
theorem dL_isForetold_71 : decode cL_isForetold 71 = .ok (.iinc 7 1, 3) := by decide +kernel
theorem dL_isForetold_74 : decode cL_isForetold 74 = .ok (.goto (-44), 3) := by decide +kernel
theorem dL_isForetold_77 : decode cL_isForetold 77 = .ok (.iload 6, 2) := by decide +kernel
theorem dL_isForetold_79 : decode cL_isForetold 79 = .ok (.ifCond .ne 16, 3) := by decide +kernel
theorem dL_isForetold_82 : decode cL_isForetold 82 = .ok (.iload 4, 2) := by decide +kernel
theorem dL_isForetold_84 : decode cL_isForetold 84 = .ok (.iload 5, 2) := by decide +kernel
theorem dL_isForetold_86 : decode cL_isForetold 86 = .ok (.if_icmp .ne 7, 3) := by decide +kernel
theorem dL_isForetold_89 : decode cL_isForetold 89 = .ok (.iconst 1, 1) := by decide +kernel
theorem dL_isForetold_90 : decode cL_isForetold 90 = .ok (.goto 4, 3) := by decide +kernel
theorem dL_isForetold_93 : decode cL_isForetold 93 = .ok (.iconst 0, 1) := by decide +kernel
theorem dL_isForetold_94 : decode cL_isForetold 94 = .ok (.ireturn, 1) := by decide +kernel
theorem dL_isForetold_95 : decode cL_isForetold 95 = .ok (.iconst 0, 1) := by decide +kernel
theorem dL_isForetold_96 : decode cL_isForetold 96 = .ok (.istore 7, 2) := by decide +kernel
theorem dL_isForetold_98 : decode cL_isForetold 98 = .ok (.iload 5, 2) := by decide +kernel
theorem dL_isForetold_100 : decode cL_isForetold 100 = .ok (.istore 8, 2) := by decide +kernel
theorem dL_isForetold_102 : decode cL_isForetold 102 = .ok (.iload 7, 2) := by decide +kernel
theorem dL_isForetold_104 : decode cL_isForetold 104 = .ok (.iload_n 3, 1) := by decide +kernel
theorem dL_isForetold_105 : decode cL_isForetold 105 = .ok (.imul, 1) := by decide +kernel
theorem dL_isForetold_106 : decode cL_isForetold 106 = .ok (.iload 6, 2) := by decide +kernel
theorem dL_isForetold_108 : decode cL_isForetold 108 = .ok (.if_icmp .ge 42, 3) := by decide +kernel
theorem dL_isForetold_111 : decode cL_isForetold 111 = .ok (.iload 8, 2) := by decide +kernel
theorem dL_isForetold_113 : decode cL_isForetold 113 = .ok (.iload 5, 2) := by decide +kernel
theorem dL_isForetold_115 : decode cL_isForetold 115 = .ok (.sipush 2000, 3) := by decide +kernel
theorem dL_isForetold_118 : decode cL_isForetold 118 = .ok (.iadd, 1) := by decide +kernel
theorem dL_isForetold_119 : decode cL_isForetold 119 = .ok (.if_icmp .ge 31, 3) := by decide +kernel
theorem dL_isForetold_122 : decode cL_isForetold 122 = .ok (.iload 7, 2) := by decide +kernel
theorem dL_isForetold_124 : decode cL_isForetold 124 = .ok (.aload_n 0, 1) := by decide +kernel
theorem dL_isForetold_125 : decode cL_isForetold 125 = .ok (.iload_n 1, 1) := by decide +kernel
theorem dL_isForetold_126 : decode cL_isForetold 126 = .ok (.iload 8, 2) := by decide +kernel
theorem dL_isForetold_128 : decode cL_isForetold 128 = .ok (.invokestatic 122, 3) := by decide +kernel
theorem dL_isForetold_131 : decode cL_isForetold 131 = .ok (.iload 8, 2) := by decide +kernel
theorem dL_isForetold_133 : decode cL_isForetold 133 = .ok (.if_icmp .ne 7, 3) := by decide +kernel
theorem dL_isForetold_136 : decode cL_isForetold 136 = .ok (.iconst 0, 1) := by decide +kernel
theorem dL_isForetold_137 : decode cL_isForetold 137 = .ok (.goto 4, 3) := by decide +kernel
theorem dL_isForetold_140 : decode cL_isForetold 140 = .ok (.iconst 1, 1) := by decide +kernel
theorem dL_isForetold_141 : decode cL_isForetold 141 = .ok (.iadd, 1) := by decide +kernel
theorem dL_isForetold_142 : decode cL_isForetold 142 = .ok (.istore 7, 2) := by decide +kernel
theorem dL_isForetold_144 : decode cL_isForetold 144 = .ok (.iinc 8 1, 3) := by decide +kernel
theorem dL_isForetold_147 : decode cL_isForetold 147 = .ok (.goto (-45), 3) := by decide +kernel
theorem dL_isForetold_150 : decode cL_isForetold 150 = .ok (.iload 4, 2) := by decide +kernel
theorem dL_isForetold_152 : decode cL_isForetold 152 = .ok (.iload 7, 2) := by decide +kernel
theorem dL_isForetold_154 : decode cL_isForetold 154 = .ok (.iload_n 3, 1) := by decide +kernel
theorem dL_isForetold_155 : decode cL_isForetold 155 = .ok (.imul, 1) := by decide +kernel
theorem dL_isForetold_156 : decode cL_isForetold 156 = .ok (.iload 6, 2) := by decide +kernel
theorem dL_isForetold_158 : decode cL_isForetold 158 = .ok (.if_icmp .ge 7, 3) := by decide +kernel
theorem dL_isForetold_161 : decode cL_isForetold 161 = .ok (.iconst (-1), 1) := by decide +kernel
theorem dL_isForetold_162 : decode cL_isForetold 162 = .ok (.goto 7, 3) := by decide +kernel
theorem dL_isForetold_165 : decode cL_isForetold 165 = .ok (.iload 8, 2) := by decide +kernel
theorem dL_isForetold_167 : decode cL_isForetold 167 = .ok (.iconst 1, 1) := by decide +kernel
theorem dL_isForetold_168 : decode cL_isForetold 168 = .ok (.isub, 1) := by decide +kernel
theorem dL_isForetold_169 : decode cL_isForetold 169 = .ok (.if_icmp .ne 7, 3) := by decide +kernel
theorem dL_isForetold_172 : decode cL_isForetold 172 = .ok (.iconst 1, 1) := by decide +kernel
theorem dL_isForetold_173 : decode cL_isForetold 173 = .ok (.goto 4, 3) := by decide +kernel
theorem dL_isForetold_176 : decode cL_isForetold 176 = .ok (.iconst 0, 1) := by decide +kernel
theorem dL_isForetold_177 : decode cL_isForetold 177 = .ok (.ireturn, 1) := by decide +kernel
theorem dL_comesTrue_0 : decode cL_comesTrue 0 = .ok (.aload_n 0, 1) := by decide +kernel
theorem dL_comesTrue_1 : decode cL_comesTrue 1 = .ok (.invokestatic 125, 3) := by decide +kernel
theorem dL_comesTrue_4 : decode cL_comesTrue 4 = .ok (.lstore 4, 2) := by decide +kernel
theorem dL_comesTrue_6 : decode cL_comesTrue 6 = .ok (.aload_n 0, 1) := by decide +kernel
theorem dL_comesTrue_7 : decode cL_comesTrue 7 = .ok (.iload_n 1, 1) := by decide +kernel
theorem dL_comesTrue_8 : decode cL_comesTrue 8 = .ok (.iload_n 3, 1) := by decide +kernel
theorem dL_comesTrue_9 : decode cL_comesTrue 9 = .ok (.invokestatic 166, 3) := by decide +kernel
theorem dL_comesTrue_12 : decode cL_comesTrue 12 = .ok (.istore 6, 2) := by decide +kernel
theorem dL_comesTrue_14 : decode cL_comesTrue 14 = .ok (.aload_n 0, 1) := by decide +kernel
theorem dL_comesTrue_15 : decode cL_comesTrue 15 = .ok (.iload_n 1, 1) := by decide +kernel
theorem dL_comesTrue_16 : decode cL_comesTrue 16 = .ok (.iconst 3, 1) := by decide +kernel
theorem dL_comesTrue_17 : decode cL_comesTrue 17 = .ok (.invokestatic 113, 3) := by decide +kernel
theorem dL_comesTrue_20 : decode cL_comesTrue 20 = .ok (.istore 7, 2) := by decide +kernel
theorem dL_comesTrue_22 : decode cL_comesTrue 22 = .ok (.aload_n 0, 1) := by decide +kernel
theorem dL_comesTrue_23 : decode cL_comesTrue 23 = .ok (.iload_n 1, 1) := by decide +kernel
theorem dL_comesTrue_24 : decode cL_comesTrue 24 = .ok (.iload_n 3, 1) := by decide +kernel
theorem dL_comesTrue_25 : decode cL_comesTrue 25 = .ok (.invokestatic 157, 3) := by decide +kernel
theorem dL_comesTrue_28 : decode cL_comesTrue 28 = .ok (.istore 8, 2) := by decide +kernel
theorem dL_comesTrue_30 : decode cL_comesTrue 30 = .ok (.iload 8, 2) := by decide +kernel
theorem dL_comesTrue_32 : decode cL_comesTrue 32 = .ok (.ldc 20, 2) := by decide +kernel
theorem dL_comesTrue_34 : decode cL_comesTrue 34 = .ok (.if_icmp .ne 7, 3) := by decide +kernel
theorem dL_comesTrue_37 : decode cL_comesTrue 37 = .ok (.iconst 1, 1) := by decide +kernel
theorem dL_comesTrue_38 : decode cL_comesTrue 38 = .ok (.goto 4, 3) := by decide +kernel
theorem dL_comesTrue_41 : decode cL_comesTrue 41 = .ok (.iconst 0, 1) := by decide +kernel
theorem dL_comesTrue_42 : decode cL_comesTrue 42 = .ok (.iload 6, 2) := by decide +kernel
theorem dL_comesTrue_44 : decode cL_comesTrue 44 = .ok (.ifCond .eq 7, 3) := by decide +kernel
theorem dL_comesTrue_47 : decode cL_comesTrue 47 = .ok (.iconst 1, 1) := by decide +kernel
theorem dL_comesTrue_48 : decode cL_comesTrue 48 = .ok (.goto 4, 3) := by decide +kernel
theorem dL_comesTrue_51 : decode cL_comesTrue 51 = .ok (.iconst 0, 1) := by decide +kernel
theorem dL_comesTrue_52 : decode cL_comesTrue 52 = .ok (.if_icmp .ne 41, 3) := by decide +kernel
theorem dL_comesTrue_55 : decode cL_comesTrue 55 = .ok (.iload 6, 2) := by decide +kernel
theorem dL_comesTrue_57 : decode cL_comesTrue 57 = .ok (.iconst 1, 1) := by decide +kernel
theorem dL_comesTrue_58 : decode cL_comesTrue 58 = .ok (.if_icmp .ne 7, 3) := by decide +kernel
theorem dL_comesTrue_61 : decode cL_comesTrue 61 = .ok (.iconst 1, 1) := by decide +kernel
theorem dL_comesTrue_62 : decode cL_comesTrue 62 = .ok (.goto 4, 3) := by decide +kernel
theorem dL_comesTrue_65 : decode cL_comesTrue 65 = .ok (.iconst 0, 1) := by decide +kernel
theorem dL_comesTrue_66 : decode cL_comesTrue 66 = .ok (.iload 6, 2) := by decide +kernel
theorem dL_comesTrue_68 : decode cL_comesTrue 68 = .ok (.ifCond .eq 17, 3) := by decide +kernel
theorem dL_comesTrue_71 : decode cL_comesTrue 71 = .ok (.aload_n 0, 1) := by decide +kernel
theorem dL_comesTrue_72 : decode cL_comesTrue 72 = .ok (.iload_n 1, 1) := by decide +kernel
theorem dL_comesTrue_73 : decode cL_comesTrue 73 = .ok (.iconst 1, 1) := by decide +kernel
theorem dL_comesTrue_74 : decode cL_comesTrue 74 = .ok (.invokestatic 113, 3) := by decide +kernel
theorem dL_comesTrue_77 : decode cL_comesTrue 77 = .ok (.iload_n 3, 1) := by decide +kernel
theorem dL_comesTrue_78 : decode cL_comesTrue 78 = .ok (.if_icmp .ne 7, 3) := by decide +kernel
theorem dL_comesTrue_81 : decode cL_comesTrue 81 = .ok (.iconst 1, 1) := by decide +kernel
theorem dL_comesTrue_82 : decode cL_comesTrue 82 = .ok (.goto 4, 3) := by decide +kernel
theorem dL_comesTrue_85 : decode cL_comesTrue 85 = .ok (.iconst 0, 1) := by decide +kernel
theorem dL_comesTrue_86 : decode cL_comesTrue 86 = .ok (.if_icmp .ne 7, 3) := by decide +kernel
theorem dL_comesTrue_89 : decode cL_comesTrue 89 = .ok (.iconst 1, 1) := by decide +kernel
theorem dL_comesTrue_90 : decode cL_comesTrue 90 = .ok (.goto 4, 3) := by decide +kernel
theorem dL_comesTrue_93 : decode cL_comesTrue 93 = .ok (.iconst 0, 1) := by decide +kernel
theorem dL_comesTrue_94 : decode cL_comesTrue 94 = .ok (.istore 9, 2) := by decide +kernel
theorem dL_comesTrue_96 : decode cL_comesTrue 96 = .ok (.iload 6, 2) := by decide +kernel
theorem dL_comesTrue_98 : decode cL_comesTrue 98 = .ok (.ifCond .ne 46, 3) := by decide +kernel
theorem dL_comesTrue_101 : decode cL_comesTrue 101 = .ok (.iload 9, 2) := by decide +kernel
theorem dL_comesTrue_103 : decode cL_comesTrue 103 = .ok (.ifCond .eq 38, 3) := by decide +kernel
theorem dL_comesTrue_106 : decode cL_comesTrue 106 = .ok (.iload 8, 2) := by decide +kernel
theorem dL_comesTrue_108 : decode cL_comesTrue 108 = .ok (.aload_n 0, 1) := by decide +kernel
theorem dL_comesTrue_109 : decode cL_comesTrue 109 = .ok (.iload_n 1, 1) := by decide +kernel
theorem dL_comesTrue_110 : decode cL_comesTrue 110 = .ok (.iconst 3, 1) := by decide +kernel
theorem dL_comesTrue_111 : decode cL_comesTrue 111 = .ok (.invokestatic 113, 3) := by decide +kernel
theorem dL_comesTrue_114 : decode cL_comesTrue 114 = .ok (.iload 7, 2) := by decide +kernel
theorem dL_comesTrue_116 : decode cL_comesTrue 116 = .ok (.isub, 1) := by decide +kernel
theorem dL_comesTrue_117 : decode cL_comesTrue 117 = .ok (.if_icmp .ne 24, 3) := by decide +kernel
theorem dL_comesTrue_120 : decode cL_comesTrue 120 = .ok (.aload_n 0, 1) := by decide +kernel
theorem dL_comesTrue_121 : decode cL_comesTrue 121 = .ok (.iload_n 1, 1) := by decide +kernel
theorem dL_comesTrue_122 : decode cL_comesTrue 122 = .ok (.iconst 1, 1) := by decide +kernel
theorem dL_comesTrue_123 : decode cL_comesTrue 123 = .ok (.invokestatic 113, 3) := by decide +kernel
theorem dL_comesTrue_126 : decode cL_comesTrue 126 = .ok (.iload_n 3, 1) := by decide +kernel
theorem dL_comesTrue_127 : decode cL_comesTrue 127 = .ok (.if_icmp .ne 14, 3) := by decide +kernel
theorem dL_comesTrue_130 : decode cL_comesTrue 130 = .ok (.aload_n 0, 1) := by decide +kernel
theorem dL_comesTrue_131 : decode cL_comesTrue 131 = .ok (.invokestatic 192, 3) := by decide +kernel
theorem dL_comesTrue_134 : decode cL_comesTrue 134 = .ok (.ifCond .lt 7, 3) := by decide +kernel
theorem dL_comesTrue_137 : decode cL_comesTrue 137 = .ok (.iconst 1, 1) := by decide +kernel
theorem dL_comesTrue_138 : decode cL_comesTrue 138 = .ok (.goto 4, 3) := by decide +kernel
theorem dL_comesTrue_141 : decode cL_comesTrue 141 = .ok (.iconst 0, 1) := by decide +kernel
theorem dL_comesTrue_142 : decode cL_comesTrue 142 = .ok (.istore 9, 2) := by decide +kernel
theorem dL_comesTrue_144 : decode cL_comesTrue 144 = .ok (.aload_n 0, 1) := by decide +kernel
theorem dL_comesTrue_145 : decode cL_comesTrue 145 = .ok (.iload_n 1, 1) := by decide +kernel
theorem dL_comesTrue_146 : decode cL_comesTrue 146 = .ok (.invokestatic 169, 3) := by decide +kernel
theorem dL_comesTrue_149 : decode cL_comesTrue 149 = .ok (.istore 10, 2) := by decide +kernel
theorem dL_comesTrue_151 : decode cL_comesTrue 151 = .ok (.iload 9, 2) := by decide +kernel
theorem dL_comesTrue_153 : decode cL_comesTrue 153 = .ok (.ifCond .eq 23, 3) := by decide +kernel
theorem dL_comesTrue_156 : decode cL_comesTrue 156 = .ok (.iload 10, 2) := by decide +kernel
theorem dL_comesTrue_158 : decode cL_comesTrue 158 = .ok (.iconst (-1), 1) := by decide +kernel
theorem dL_comesTrue_159 : decode cL_comesTrue 159 = .ok (.if_icmp .eq 13, 3) := by decide +kernel
theorem dL_comesTrue_162 : decode cL_comesTrue 162 = .ok (.aload_n 0, 1) := by decide +kernel
theorem dL_comesTrue_163 : decode cL_comesTrue 163 = .ok (.iload_n 1, 1) := by decide +kernel
theorem dL_comesTrue_164 : decode cL_comesTrue 164 = .ok (.iload 10, 2) := by decide +kernel
theorem dL_comesTrue_166 : decode cL_comesTrue 166 = .ok (.invokestatic 166, 3) := by decide +kernel
theorem dL_comesTrue_169 : decode cL_comesTrue 169 = .ok (.ifCond .ne 7, 3) := by decide +kernel
theorem dL_comesTrue_172 : decode cL_comesTrue 172 = .ok (.iconst 1, 1) := by decide +kernel
theorem dL_comesTrue_173 : decode cL_comesTrue 173 = .ok (.goto 4, 3) := by decide +kernel
theorem dL_comesTrue_176 : decode cL_comesTrue 176 = .ok (.iconst 0, 1) := by decide +kernel
theorem dL_comesTrue_177 : decode cL_comesTrue 177 = .ok (.istore 9, 2) := by decide +kernel
theorem dL_comesTrue_179 : decode cL_comesTrue 179 = .ok (.aload_n 0, 1) := by decide +kernel
theorem dL_comesTrue_180 : decode cL_comesTrue 180 = .ok (.iload_n 1, 1) := by decide +kernel
theorem dL_comesTrue_181 : decode cL_comesTrue 181 = .ok (.iload_n 2, 1) := by decide +kernel
theorem dL_comesTrue_182 : decode cL_comesTrue 182 = .ok (.invokestatic 172, 3) := by decide +kernel
theorem dL_comesTrue_185 : decode cL_comesTrue 185 = .ok (.istore 11, 2) := by decide +kernel
theorem dL_comesTrue_187 : decode cL_comesTrue 187 = .ok (.aload_n 0, 1) := by decide +kernel
theorem dL_comesTrue_188 : decode cL_comesTrue 188 = .ok (.iload_n 1, 1) := by decide +kernel
theorem dL_comesTrue_189 : decode cL_comesTrue 189 = .ok (.iload_n 2, 1) := by decide +kernel
theorem dL_comesTrue_190 : decode cL_comesTrue 190 = .ok (.invokestatic 163, 3) := by decide +kernel
theorem dL_comesTrue_193 : decode cL_comesTrue 193 = .ok (.istore 12, 2) := by decide +kernel
theorem dL_comesTrue_195 : decode cL_comesTrue 195 = .ok (.iload 9, 2) := by decide +kernel
theorem dL_comesTrue_197 : decode cL_comesTrue 197 = .ok (.ifCond .eq 46, 3) := by decide +kernel
theorem dL_comesTrue_200 : decode cL_comesTrue 200 = .ok (.iload_n 1, 1) := by decide +kernel
theorem dL_comesTrue_201 : decode cL_comesTrue 201 = .ok (.iload_n 2, 1) := by decide +kernel
theorem dL_comesTrue_202 : decode cL_comesTrue 202 = .ok (.if_icmp .ne 19, 3) := by decide +kernel
theorem dL_comesTrue_205 : decode cL_comesTrue 205 = .ok (.iload 12, 2) := by decide +kernel
theorem dL_comesTrue_207 : decode cL_comesTrue 207 = .ok (.ldc 17, 2) := by decide +kernel
theorem dL_comesTrue_209 : decode cL_comesTrue 209 = .ok (.if_icmp .ne 34, 3) := by decide +kernel
theorem dL_comesTrue_212 : decode cL_comesTrue 212 = .ok (.iload 11, 2) := by decide +kernel
theorem dL_comesTrue_214 : decode cL_comesTrue 214 = .ok (.iconst (-1), 1) := by decide +kernel
theorem dL_comesTrue_215 : decode cL_comesTrue 215 = .ok (.if_icmp .ne 28, 3) := by decide +kernel
theorem dL_comesTrue_218 : decode cL_comesTrue 218 = .ok (.goto 21, 3) := by decide +kernel
theorem dL_comesTrue_221 : decode cL_comesTrue 221 = .ok (.iload 12, 2) := by decide +kernel
theorem dL_comesTrue_223 : decode cL_comesTrue 223 = .ok (.iload 11, 2) := by decide +kernel
theorem dL_comesTrue_225 : decode cL_comesTrue 225 = .ok (.iconst (-1), 1) := by decide +kernel
theorem dL_comesTrue_226 : decode cL_comesTrue 226 = .ok (.if_icmp .ne 8, 3) := by decide +kernel
theorem dL_comesTrue_229 : decode cL_comesTrue 229 = .ok (.ldc 20, 2) := by decide +kernel
theorem dL_comesTrue_231 : decode cL_comesTrue 231 = .ok (.goto 5, 3) := by decide +kernel
theorem dL_comesTrue_234 : decode cL_comesTrue 234 = .ok (.iload 11, 2) := by decide +kernel
theorem dL_comesTrue_236 : decode cL_comesTrue 236 = .ok (.if_icmp .ne 7, 3) := by decide +kernel
theorem dL_comesTrue_239 : decode cL_comesTrue 239 = .ok (.iconst 1, 1) := by decide +kernel
theorem dL_comesTrue_240 : decode cL_comesTrue 240 = .ok (.goto 4, 3) := by decide +kernel
theorem dL_comesTrue_243 : decode cL_comesTrue 243 = .ok (.iconst 0, 1) := by decide +kernel
theorem dL_comesTrue_244 : decode cL_comesTrue 244 = .ok (.istore 9, 2) := by decide +kernel
theorem dL_comesTrue_246 : decode cL_comesTrue 246 = .ok (.iload 9, 2) := by decide +kernel
theorem dL_comesTrue_248 : decode cL_comesTrue 248 = .ok (.ifCond .eq 29, 3) := by decide +kernel
theorem dL_comesTrue_251 : decode cL_comesTrue 251 = .ok (.iload 12, 2) := by decide +kernel
theorem dL_comesTrue_253 : decode cL_comesTrue 253 = .ok (.ifCond .lt 10, 3) := by decide +kernel
theorem dL_comesTrue_256 : decode cL_comesTrue 256 = .ok (.aload_n 0, 1) := by decide +kernel
theorem dL_comesTrue_257 : decode cL_comesTrue 257 = .ok (.invokestatic 192, 3) := by decide +kernel
theorem dL_comesTrue_260 : decode cL_comesTrue 260 = .ok (.ifCond .lt 17, 3) := by decide +kernel
theorem dL_comesTrue_263 : decode cL_comesTrue 263 = .ok (.aload_n 0, 1) := by decide +kernel
theorem dL_comesTrue_264 : decode cL_comesTrue 264 = .ok (.invokestatic 125, 3) := by decide +kernel
theorem dL_comesTrue_267 : decode cL_comesTrue 267 = .ok (.lload 4, 2) := by decide +kernel
theorem dL_comesTrue_269 : decode cL_comesTrue 269 = .ok (.lcmp, 1) := by decide +kernel
theorem dL_comesTrue_270 : decode cL_comesTrue 270 = .ok (.ifCond .ne 7, 3) := by decide +kernel
theorem dL_comesTrue_273 : decode cL_comesTrue 273 = .ok (.iconst 1, 1) := by decide +kernel
theorem dL_comesTrue_274 : decode cL_comesTrue 274 = .ok (.goto 4, 3) := by decide +kernel
theorem dL_comesTrue_277 : decode cL_comesTrue 277 = .ok (.iconst 0, 1) := by decide +kernel
theorem dL_comesTrue_278 : decode cL_comesTrue 278 = .ok (.ireturn, 1) := by decide +kernel
theorem dL_acts_0 : decode cL_acts 0 = .ok (.iload_n 1, 1) := by decide +kernel
theorem dL_acts_1 : decode cL_acts 1 = .ok (.aload_n 0, 1) := by decide +kernel
theorem dL_acts_2 : decode cL_acts 2 = .ok (.iconst 2, 1) := by decide +kernel
theorem dL_acts_3 : decode cL_acts 3 = .ok (.invokestatic 105, 3) := by decide +kernel
theorem dL_acts_6 : decode cL_acts 6 = .ok (.invokestatic 186, 3) := by decide +kernel
theorem dL_acts_9 : decode cL_acts 9 = .ok (.istore_n 3, 1) := by decide +kernel
theorem dL_acts_10 : decode cL_acts 10 = .ok (.iload_n 1, 1) := by decide +kernel
theorem dL_acts_11 : decode cL_acts 11 = .ok (.iconst 4, 1) := by decide +kernel
theorem dL_acts_12 : decode cL_acts 12 = .ok (.ishr, 1) := by decide +kernel
theorem dL_acts_13 : decode cL_acts 13 = .ok (.aload_n 0, 1) := by decide +kernel
theorem dL_acts_14 : decode cL_acts 14 = .ok (.iconst 1, 1) := by decide +kernel
theorem dL_acts_15 : decode cL_acts 15 = .ok (.invokestatic 105, 3) := by decide +kernel
theorem dL_acts_18 : decode cL_acts 18 = .ok (.invokestatic 186, 3) := by decide +kernel
theorem dL_acts_21 : decode cL_acts 21 = .ok (.istore 4, 2) := by decide +kernel
theorem dL_acts_23 : decode cL_acts 23 = .ok (.aload_n 0, 1) := by decide +kernel
theorem dL_acts_24 : decode cL_acts 24 = .ok (.invokestatic 196, 3) := by decide +kernel
theorem dL_acts_27 : decode cL_acts 27 = .ok (.lstore 5, 2) := by decide +kernel
theorem dL_acts_29 : decode cL_acts 29 = .ok (.iload_n 2, 1) := by decide +kernel
theorem dL_acts_30 : decode cL_acts 30 = .ok (.bipush 13, 2) := by decide +kernel
theorem dL_acts_32 : decode cL_acts 32 = .ok (.invokestatic 186, 3) := by decide +kernel
theorem dL_acts_35 : decode cL_acts 35 = .ok (.tableswitch 715 0 11 #[61, 61, 61, 61, 229, 229, 271, 382, 448, 507, 550, 617], 61) := by decide +kernel
theorem dL_acts_96 : decode cL_acts 96 = .ok (.iconst 1, 1) := by decide +kernel
theorem dL_acts_97 : decode cL_acts 97 = .ok (.iload_n 1, 1) := by decide +kernel
theorem dL_acts_98 : decode cL_acts 98 = .ok (.bipush 7, 2) := by decide +kernel
theorem dL_acts_100 : decode cL_acts 100 = .ok (.ishr, 1) := by decide +kernel
theorem dL_acts_101 : decode cL_acts 101 = .ok (.bipush 6, 2) := by decide +kernel
theorem dL_acts_103 : decode cL_acts 103 = .ok (.invokestatic 186, 3) := by decide +kernel
theorem dL_acts_106 : decode cL_acts 106 = .ok (.iadd, 1) := by decide +kernel
theorem dL_acts_107 : decode cL_acts 107 = .ok (.istore 7, 2) := by decide +kernel
theorem dL_acts_109 : decode cL_acts 109 = .ok (.aload_n 0, 1) := by decide +kernel
theorem dL_acts_110 : decode cL_acts 110 = .ok (.iload_n 3, 1) := by decide +kernel
theorem dL_acts_111 : decode cL_acts 111 = .ok (.iconst 2, 1) := by decide +kernel
theorem dL_acts_112 : decode cL_acts 112 = .ok (.invokestatic 113, 3) := by decide +kernel
theorem dL_acts_115 : decode cL_acts 115 = .ok (.istore 8, 2) := by decide +kernel
theorem dL_acts_117 : decode cL_acts 117 = .ok (.aload_n 0, 1) := by decide +kernel
theorem dL_acts_118 : decode cL_acts 118 = .ok (.iload_n 3, 1) := by decide +kernel
theorem dL_acts_119 : decode cL_acts 119 = .ok (.iconst 1, 1) := by decide +kernel
theorem dL_acts_120 : decode cL_acts 120 = .ok (.invokestatic 113, 3) := by decide +kernel
theorem dL_acts_123 : decode cL_acts 123 = .ok (.ifCond .lt 54, 3) := by decide +kernel
theorem dL_acts_126 : decode cL_acts 126 = .ok (.aload_n 0, 1) := by decide +kernel
theorem dL_acts_127 : decode cL_acts 127 = .ok (.iload_n 3, 1) := by decide +kernel
theorem dL_acts_128 : decode cL_acts 128 = .ok (.aload_n 0, 1) := by decide +kernel
theorem dL_acts_129 : decode cL_acts 129 = .ok (.iconst 3, 1) := by decide +kernel
theorem dL_acts_130 : decode cL_acts 130 = .ok (.invokestatic 105, 3) := by decide +kernel
theorem dL_acts_133 : decode cL_acts 133 = .ok (.invokestatic 122, 3) := by decide +kernel
theorem dL_acts_136 : decode cL_acts 136 = .ok (.aload_n 0, 1) := by decide +kernel
theorem dL_acts_137 : decode cL_acts 137 = .ok (.iconst 3, 1) := by decide +kernel
theorem dL_acts_138 : decode cL_acts 138 = .ok (.invokestatic 105, 3) := by decide +kernel
theorem dL_acts_141 : decode cL_acts 141 = .ok (.if_icmp .eq 36, 3) := by decide +kernel
theorem dL_acts_144 : decode cL_acts 144 = .ok (.aload_n 0, 1) := by decide +kernel
theorem dL_acts_145 : decode cL_acts 145 = .ok (.iload_n 3, 1) := by decide +kernel
theorem dL_acts_146 : decode cL_acts 146 = .ok (.bipush 9, 2) := by decide +kernel
theorem dL_acts_148 : decode cL_acts 148 = .ok (.invokestatic 113, 3) := by decide +kernel
theorem dL_acts_151 : decode cL_acts 151 = .ok (.iload 7, 2) := by decide +kernel
theorem dL_acts_153 : decode cL_acts 153 = .ok (.iadd, 1) := by decide +kernel
theorem dL_acts_154 : decode cL_acts 154 = .ok (.bipush 13, 2) := by decide +kernel
theorem dL_acts_156 : decode cL_acts 156 = .ok (.if_icmp .ge 21, 3) := by decide +kernel
theorem dL_acts_159 : decode cL_acts 159 = .ok (.iload 8, 2) := by decide +kernel
theorem dL_acts_161 : decode cL_acts 161 = .ok (.aload_n 0, 1) := by decide +kernel
theorem dL_acts_162 : decode cL_acts 162 = .ok (.iload_n 3, 1) := by decide +kernel
theorem dL_acts_163 : decode cL_acts 163 = .ok (.iconst 3, 1) := by decide +kernel
theorem dL_acts_164 : decode cL_acts 164 = .ok (.invokestatic 113, 3) := by decide +kernel
theorem dL_acts_167 : decode cL_acts 167 = .ok (.iadd, 1) := by decide +kernel
theorem dL_acts_168 : decode cL_acts 168 = .ok (.bipush 20, 2) := by decide +kernel
theorem dL_acts_170 : decode cL_acts 170 = .ok (.if_icmp .ge 7, 3) := by decide +kernel
theorem dL_acts_173 : decode cL_acts 173 = .ok (.iconst 1, 1) := by decide +kernel
theorem dL_acts_174 : decode cL_acts 174 = .ok (.goto 4, 3) := by decide +kernel
theorem dL_acts_177 : decode cL_acts 177 = .ok (.iconst 0, 1) := by decide +kernel
theorem dL_acts_178 : decode cL_acts 178 = .ok (.istore 9, 2) := by decide +kernel
theorem dL_acts_180 : decode cL_acts 180 = .ok (.aload_n 0, 1) := by decide +kernel
theorem dL_acts_181 : decode cL_acts 181 = .ok (.iload_n 3, 1) := by decide +kernel
theorem dL_acts_182 : decode cL_acts 182 = .ok (.iload_n 1, 1) := by decide +kernel
theorem dL_acts_183 : decode cL_acts 183 = .ok (.bipush 10, 2) := by decide +kernel
theorem dL_acts_185 : decode cL_acts 185 = .ok (.ishr, 1) := by decide +kernel
theorem dL_acts_186 : decode cL_acts 186 = .ok (.iconst 3, 1) := by decide +kernel
theorem dL_acts_187 : decode cL_acts 187 = .ok (.invokestatic 186, 3) := by decide +kernel
theorem dL_acts_190 : decode cL_acts 190 = .ok (.iload 7, 2) := by decide +kernel
theorem dL_acts_192 : decode cL_acts 192 = .ok (.invokestatic 141, 3) := by decide +kernel
theorem dL_acts_195 : decode cL_acts 195 = .ok (.istore 10, 2) := by decide +kernel
theorem dL_acts_197 : decode cL_acts 197 = .ok (.iload 9, 2) := by decide +kernel
theorem dL_acts_199 : decode cL_acts 199 = .ok (.ifCond .eq 52, 3) := by decide +kernel
theorem dL_acts_202 : decode cL_acts 202 = .ok (.iload 10, 2) := by decide +kernel
theorem dL_acts_204 : decode cL_acts 204 = .ok (.iload 8, 2) := by decide +kernel
theorem dL_acts_206 : decode cL_acts 206 = .ok (.iconst 1, 1) := by decide +kernel
theorem dL_acts_207 : decode cL_acts 207 = .ok (.iadd, 1) := by decide +kernel
theorem dL_acts_208 : decode cL_acts 208 = .ok (.if_icmp .ne 39, 3) := by decide +kernel
theorem dL_acts_211 : decode cL_acts 211 = .ok (.aload_n 0, 1) := by decide +kernel
theorem dL_acts_212 : decode cL_acts 212 = .ok (.invokestatic 196, 3) := by decide +kernel
theorem dL_acts_215 : decode cL_acts 215 = .ok (.lload 5, 2) := by decide +kernel
theorem dL_acts_217 : decode cL_acts 217 = .ok (.iload 7, 2) := by decide +kernel
theorem dL_acts_219 : decode cL_acts 219 = .ok (.i2l, 1) := by decide +kernel
theorem dL_acts_220 : decode cL_acts 220 = .ok (.ladd, 1) := by decide +kernel
theorem dL_acts_221 : decode cL_acts 221 = .ok (.lcmp, 1) := by decide +kernel
theorem dL_acts_222 : decode cL_acts 222 = .ok (.ifCond .ne 25, 3) := by decide +kernel
theorem dL_acts_225 : decode cL_acts 225 = .ok (.aload_n 0, 1) := by decide +kernel
theorem dL_acts_226 : decode cL_acts 226 = .ok (.iload_n 3, 1) := by decide +kernel
theorem dL_acts_227 : decode cL_acts 227 = .ok (.iconst 0, 1) := by decide +kernel
theorem dL_acts_228 : decode cL_acts 228 = .ok (.iload 8, 2) := by decide +kernel
theorem dL_acts_230 : decode cL_acts 230 = .ok (.iconst 3, 1) := by decide +kernel
theorem dL_acts_231 : decode cL_acts 231 = .ok (.invokestatic 119, 3) := by decide +kernel
theorem dL_acts_234 : decode cL_acts 234 = .ok (.aload_n 0, 1) := by decide +kernel
theorem dL_acts_235 : decode cL_acts 235 = .ok (.iload_n 3, 1) := by decide +kernel
theorem dL_acts_236 : decode cL_acts 236 = .ok (.iconst 1, 1) := by decide +kernel
theorem dL_acts_237 : decode cL_acts 237 = .ok (.invokestatic 113, 3) := by decide +kernel
theorem dL_acts_240 : decode cL_acts 240 = .ok (.if_icmp .ne 7, 3) := by decide +kernel
theorem dL_acts_243 : decode cL_acts 243 = .ok (.iconst 1, 1) := by decide +kernel
theorem dL_acts_244 : decode cL_acts 244 = .ok (.goto 19, 3) := by decide +kernel
theorem dL_acts_247 : decode cL_acts 247 = .ok (.iconst 0, 1) := by decide +kernel
theorem dL_acts_248 : decode cL_acts 248 = .ok (.goto 15, 3) := by decide +kernel
theorem dL_acts_251 : decode cL_acts 251 = .ok (.iload 10, 2) := by decide +kernel
theorem dL_acts_253 : decode cL_acts 253 = .ok (.ldc 20, 2) := by decide +kernel
theorem dL_acts_255 : decode cL_acts 255 = .ok (.if_icmp .ne 7, 3) := by decide +kernel
theorem dL_acts_258 : decode cL_acts 258 = .ok (.iconst 1, 1) := by decide +kernel
theorem dL_acts_259 : decode cL_acts 259 = .ok (.goto 4, 3) := by decide +kernel
theorem dL_acts_262 : decode cL_acts 262 = .ok (.iconst 0, 1) := by decide +kernel
theorem dL_acts_263 : decode cL_acts 263 = .ok (.ireturn, 1) := by decide +kernel
theorem dL_acts_264 : decode cL_acts 264 = .ok (.aload_n 0, 1) := by decide +kernel
theorem dL_acts_265 : decode cL_acts 265 = .ok (.iconst 5, 1) := by decide +kernel
theorem dL_acts_266 : decode cL_acts 266 = .ok (.invokestatic 105, 3) := by decide +kernel
theorem dL_acts_269 : decode cL_acts 269 = .ok (.istore 7, 2) := by decide +kernel
theorem dL_acts_271 : decode cL_acts 271 = .ok (.aload_n 0, 1) := by decide +kernel
theorem dL_acts_272 : decode cL_acts 272 = .ok (.invokestatic 199, 3) := by decide +kernel
theorem dL_acts_275 : decode cL_acts 275 = .ok (.istore 8, 2) := by decide +kernel
theorem dL_acts_277 : decode cL_acts 277 = .ok (.iload 8, 2) := by decide +kernel
theorem dL_acts_279 : decode cL_acts 279 = .ok (.aload_n 0, 1) := by decide +kernel
theorem dL_acts_280 : decode cL_acts 280 = .ok (.iconst 5, 1) := by decide +kernel
theorem dL_acts_281 : decode cL_acts 281 = .ok (.invokestatic 105, 3) := by decide +kernel
theorem dL_acts_284 : decode cL_acts 284 = .ok (.iload 7, 2) := by decide +kernel
theorem dL_acts_286 : decode cL_acts 286 = .ok (.isub, 1) := by decide +kernel
theorem dL_acts_287 : decode cL_acts 287 = .ok (.if_icmp .ne 17, 3) := by decide +kernel
theorem dL_acts_290 : decode cL_acts 290 = .ok (.aload_n 0, 1) := by decide +kernel
theorem dL_acts_291 : decode cL_acts 291 = .ok (.invokestatic 196, 3) := by decide +kernel
theorem dL_acts_294 : decode cL_acts 294 = .ok (.lload 5, 2) := by decide +kernel
theorem dL_acts_296 : decode cL_acts 296 = .ok (.lcmp, 1) := by decide +kernel
theorem dL_acts_297 : decode cL_acts 297 = .ok (.ifCond .ne 7, 3) := by decide +kernel
theorem dL_acts_300 : decode cL_acts 300 = .ok (.iconst 1, 1) := by decide +kernel
theorem dL_acts_301 : decode cL_acts 301 = .ok (.goto 4, 3) := by decide +kernel
theorem dL_acts_304 : decode cL_acts 304 = .ok (.iconst 0, 1) := by decide +kernel
theorem dL_acts_305 : decode cL_acts 305 = .ok (.ireturn, 1) := by decide +kernel
theorem dL_acts_306 : decode cL_acts 306 = .ok (.aload_n 0, 1) := by decide +kernel
theorem dL_acts_307 : decode cL_acts 307 = .ok (.iconst 4, 1) := by decide +kernel
theorem dL_acts_308 : decode cL_acts 308 = .ok (.invokestatic 105, 3) := by decide +kernel
theorem dL_acts_311 : decode cL_acts 311 = .ok (.istore 7, 2) := by decide +kernel
theorem dL_acts_313 : decode cL_acts 313 = .ok (.aload_n 0, 1) := by decide +kernel
theorem dL_acts_314 : decode cL_acts 314 = .ok (.iload 4, 2) := by decide +kernel
theorem dL_acts_316 : decode cL_acts 316 = .ok (.iconst 4, 1) := by decide +kernel
theorem dL_acts_317 : decode cL_acts 317 = .ok (.invokestatic 110, 3) := by decide +kernel
theorem dL_acts_320 : decode cL_acts 320 = .ok (.istore 8, 2) := by decide +kernel
theorem dL_acts_322 : decode cL_acts 322 = .ok (.aload_n 0, 1) := by decide +kernel
theorem dL_acts_323 : decode cL_acts 323 = .ok (.iload 4, 2) := by decide +kernel
theorem dL_acts_325 : decode cL_acts 325 = .ok (.iconst 3, 1) := by decide +kernel
theorem dL_acts_326 : decode cL_acts 326 = .ok (.invokestatic 110, 3) := by decide +kernel
theorem dL_acts_329 : decode cL_acts 329 = .ok (.istore 9, 2) := by decide +kernel
theorem dL_acts_331 : decode cL_acts 331 = .ok (.iconst 1, 1) := by decide +kernel
theorem dL_acts_332 : decode cL_acts 332 = .ok (.iload_n 1, 1) := by decide +kernel
theorem dL_acts_333 : decode cL_acts 333 = .ok (.bipush 7, 2) := by decide +kernel
theorem dL_acts_335 : decode cL_acts 335 = .ok (.ishr, 1) := by decide +kernel
theorem dL_acts_336 : decode cL_acts 336 = .ok (.bipush 9, 2) := by decide +kernel
theorem dL_acts_338 : decode cL_acts 338 = .ok (.invokestatic 186, 3) := by decide +kernel
theorem dL_acts_341 : decode cL_acts 341 = .ok (.iadd, 1) := by decide +kernel
theorem dL_acts_342 : decode cL_acts 342 = .ok (.istore 10, 2) := by decide +kernel
theorem dL_acts_344 : decode cL_acts 344 = .ok (.aload_n 0, 1) := by decide +kernel
theorem dL_acts_345 : decode cL_acts 345 = .ok (.iload 4, 2) := by decide +kernel
theorem dL_acts_347 : decode cL_acts 347 = .ok (.iload 10, 2) := by decide +kernel
theorem dL_acts_349 : decode cL_acts 349 = .ok (.invokestatic 144, 3) := by decide +kernel
theorem dL_acts_352 : decode cL_acts 352 = .ok (.istore 11, 2) := by decide +kernel
theorem dL_acts_354 : decode cL_acts 354 = .ok (.iload 11, 2) := by decide +kernel
theorem dL_acts_356 : decode cL_acts 356 = .ok (.iload 9, 2) := by decide +kernel
theorem dL_acts_358 : decode cL_acts 358 = .ok (.iload 10, 2) := by decide +kernel
theorem dL_acts_360 : decode cL_acts 360 = .ok (.if_icmp .ge 8, 3) := by decide +kernel
theorem dL_acts_363 : decode cL_acts 363 = .ok (.iload 9, 2) := by decide +kernel
theorem dL_acts_365 : decode cL_acts 365 = .ok (.goto 5, 3) := by decide +kernel
theorem dL_acts_368 : decode cL_acts 368 = .ok (.iload 10, 2) := by decide +kernel
theorem dL_acts_370 : decode cL_acts 370 = .ok (.if_icmp .ne 45, 3) := by decide +kernel
theorem dL_acts_373 : decode cL_acts 373 = .ok (.aload_n 0, 1) := by decide +kernel
theorem dL_acts_374 : decode cL_acts 374 = .ok (.iconst 4, 1) := by decide +kernel
theorem dL_acts_375 : decode cL_acts 375 = .ok (.invokestatic 105, 3) := by decide +kernel
theorem dL_acts_378 : decode cL_acts 378 = .ok (.iload 7, 2) := by decide +kernel
theorem dL_acts_380 : decode cL_acts 380 = .ok (.iload 11, 2) := by decide +kernel
theorem dL_acts_382 : decode cL_acts 382 = .ok (.isub, 1) := by decide +kernel
theorem dL_acts_383 : decode cL_acts 383 = .ok (.if_icmp .ne 32, 3) := by decide +kernel
theorem dL_acts_386 : decode cL_acts 386 = .ok (.aload_n 0, 1) := by decide +kernel
theorem dL_acts_387 : decode cL_acts 387 = .ok (.iload 4, 2) := by decide +kernel
theorem dL_acts_389 : decode cL_acts 389 = .ok (.iconst 4, 1) := by decide +kernel
theorem dL_acts_390 : decode cL_acts 390 = .ok (.invokestatic 110, 3) := by decide +kernel
theorem dL_acts_393 : decode cL_acts 393 = .ok (.iload 8, 2) := by decide +kernel
theorem dL_acts_395 : decode cL_acts 395 = .ok (.iload 11, 2) := by decide +kernel
theorem dL_acts_397 : decode cL_acts 397 = .ok (.iadd, 1) := by decide +kernel
theorem dL_acts_398 : decode cL_acts 398 = .ok (.if_icmp .ne 17, 3) := by decide +kernel
theorem dL_acts_401 : decode cL_acts 401 = .ok (.aload_n 0, 1) := by decide +kernel
theorem dL_acts_402 : decode cL_acts 402 = .ok (.invokestatic 196, 3) := by decide +kernel
theorem dL_acts_405 : decode cL_acts 405 = .ok (.lload 5, 2) := by decide +kernel
theorem dL_acts_407 : decode cL_acts 407 = .ok (.lcmp, 1) := by decide +kernel
theorem dL_acts_408 : decode cL_acts 408 = .ok (.ifCond .ne 7, 3) := by decide +kernel
theorem dL_acts_411 : decode cL_acts 411 = .ok (.iconst 1, 1) := by decide +kernel
theorem dL_acts_412 : decode cL_acts 412 = .ok (.goto 4, 3) := by decide +kernel
theorem dL_acts_415 : decode cL_acts 415 = .ok (.iconst 0, 1) := by decide +kernel
theorem dL_acts_416 : decode cL_acts 416 = .ok (.ireturn, 1) := by decide +kernel
theorem dL_acts_417 : decode cL_acts 417 = .ok (.aload_n 0, 1) := by decide +kernel
theorem dL_acts_418 : decode cL_acts 418 = .ok (.iload_n 3, 1) := by decide +kernel
theorem dL_acts_419 : decode cL_acts 419 = .ok (.iconst 3, 1) := by decide +kernel
theorem dL_acts_420 : decode cL_acts 420 = .ok (.invokestatic 113, 3) := by decide +kernel
theorem dL_acts_423 : decode cL_acts 423 = .ok (.ifCond .ne 8, 3) := by decide +kernel
theorem dL_acts_426 : decode cL_acts 426 = .ok (.ldc 20, 2) := by decide +kernel
theorem dL_acts_428 : decode cL_acts 428 = .ok (.goto 11, 3) := by decide +kernel
theorem dL_acts_431 : decode cL_acts 431 = .ok (.aload_n 0, 1) := by decide +kernel
theorem dL_acts_432 : decode cL_acts 432 = .ok (.iload_n 3, 1) := by decide +kernel
theorem dL_acts_433 : decode cL_acts 433 = .ok (.iconst 1, 1) := by decide +kernel
theorem dL_acts_434 : decode cL_acts 434 = .ok (.iconst 0, 1) := by decide +kernel
theorem dL_acts_435 : decode cL_acts 435 = .ok (.iconst 1, 1) := by decide +kernel
theorem dL_acts_436 : decode cL_acts 436 = .ok (.invokestatic 119, 3) := by decide +kernel
theorem dL_acts_439 : decode cL_acts 439 = .ok (.istore 7, 2) := by decide +kernel
theorem dL_acts_441 : decode cL_acts 441 = .ok (.aload_n 0, 1) := by decide +kernel
theorem dL_acts_442 : decode cL_acts 442 = .ok (.iload_n 3, 1) := by decide +kernel
theorem dL_acts_443 : decode cL_acts 443 = .ok (.iload_n 1, 1) := by decide +kernel
theorem dL_acts_444 : decode cL_acts 444 = .ok (.bipush 7, 2) := by decide +kernel
theorem dL_acts_446 : decode cL_acts 446 = .ok (.ishr, 1) := by decide +kernel
theorem dL_acts_447 : decode cL_acts 447 = .ok (.iconst 2, 1) := by decide +kernel
theorem dL_acts_448 : decode cL_acts 448 = .ok (.invokestatic 186, 3) := by decide +kernel
theorem dL_acts_451 : decode cL_acts 451 = .ok (.ifCond .ne 7, 3) := by decide +kernel
theorem dL_acts_454 : decode cL_acts 454 = .ok (.iconst 1, 1) := by decide +kernel
theorem dL_acts_455 : decode cL_acts 455 = .ok (.goto 4, 3) := by decide +kernel
theorem dL_acts_458 : decode cL_acts 458 = .ok (.iconst 0, 1) := by decide +kernel
theorem dL_acts_459 : decode cL_acts 459 = .ok (.invokestatic 150, 3) := by decide +kernel
theorem dL_acts_462 : decode cL_acts 462 = .ok (.iload 7, 2) := by decide +kernel
theorem dL_acts_464 : decode cL_acts 464 = .ok (.if_icmp .ne 17, 3) := by decide +kernel
theorem dL_acts_467 : decode cL_acts 467 = .ok (.aload_n 0, 1) := by decide +kernel
theorem dL_acts_468 : decode cL_acts 468 = .ok (.invokestatic 196, 3) := by decide +kernel
theorem dL_acts_471 : decode cL_acts 471 = .ok (.lload 5, 2) := by decide +kernel
theorem dL_acts_473 : decode cL_acts 473 = .ok (.lcmp, 1) := by decide +kernel
theorem dL_acts_474 : decode cL_acts 474 = .ok (.ifCond .ne 7, 3) := by decide +kernel
theorem dL_acts_477 : decode cL_acts 477 = .ok (.iconst 1, 1) := by decide +kernel
theorem dL_acts_478 : decode cL_acts 478 = .ok (.goto 4, 3) := by decide +kernel
theorem dL_acts_481 : decode cL_acts 481 = .ok (.iconst 0, 1) := by decide +kernel
