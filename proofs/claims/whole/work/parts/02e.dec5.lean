theorem dX10_best_34 : decode cX10_best 34 = .ok (.aload_n 0, 1) := by decide +kernel
theorem dX10_best_35 : decode cX10_best 35 = .ok (.iload 7, 2) := by decide +kernel
theorem dX10_best_37 : decode cX10_best 37 = .ok (.iconst 0, 1) := by decide +kernel
theorem dX10_best_38 : decode cX10_best 38 = .ok (.invokevirtual 86, 3) := by decide +kernel
theorem dX10_best_41 : decode cX10_best 41 = .ok (.lstore 10, 2) := by decide +kernel
theorem dX10_best_43 : decode cX10_best 43 = .ok (.aload_n 0, 1) := by decide +kernel
theorem dX10_best_44 : decode cX10_best 44 = .ok (.iload_n 1, 1) := by decide +kernel
theorem dX10_best_45 : decode cX10_best 45 = .ok (.iload 7, 2) := by decide +kernel
theorem dX10_best_47 : decode cX10_best 47 = .ok (.invokevirtual 157, 3) := by decide +kernel
theorem dX10_best_50 : decode cX10_best 50 = .ok (.ifCond .ne 25, 3) := by decide +kernel
theorem dX10_best_53 : decode cX10_best 53 = .ok (.iload_n 2, 1) := by decide +kernel
theorem dX10_best_54 : decode cX10_best 54 = .ok (.iconst (-1), 1) := by decide +kernel
theorem dX10_best_55 : decode cX10_best 55 = .ok (.if_icmp .eq 16, 3) := by decide +kernel
theorem dX10_best_58 : decode cX10_best 58 = .ok (.lload 8, 2) := by decide +kernel
theorem dX10_best_60 : decode cX10_best 60 = .ok (.lload 5, 2) := by decide +kernel
theorem dX10_best_62 : decode cX10_best 62 = .ok (.lmul, 1) := by decide +kernel
theorem dX10_best_63 : decode cX10_best 63 = .ok (.lload_n 3, 1) := by decide +kernel
theorem dX10_best_64 : decode cX10_best 64 = .ok (.lload 10, 2) := by decide +kernel
theorem dX10_best_66 : decode cX10_best 66 = .ok (.lmul, 1) := by decide +kernel
theorem dX10_best_67 : decode cX10_best 67 = .ok (.lcmp, 1) := by decide +kernel
theorem dX10_best_68 : decode cX10_best 68 = .ok (.ifCond .ge 7, 3) := by decide +kernel
theorem dX10_best_71 : decode cX10_best 71 = .ok (.iconst 1, 1) := by decide +kernel
theorem dX10_best_72 : decode cX10_best 72 = .ok (.goto 4, 3) := by decide +kernel
theorem dX10_best_75 : decode cX10_best 75 = .ok (.iconst 0, 1) := by decide +kernel
theorem dX10_best_76 : decode cX10_best 76 = .ok (.istore 12, 2) := by decide +kernel
theorem dX10_best_78 : decode cX10_best 78 = .ok (.iload 12, 2) := by decide +kernel
theorem dX10_best_80 : decode cX10_best 80 = .ok (.ifCond .eq 8, 3) := by decide +kernel
theorem dX10_best_83 : decode cX10_best 83 = .ok (.lload 8, 2) := by decide +kernel
theorem dX10_best_85 : decode cX10_best 85 = .ok (.goto 4, 3) := by decide +kernel
theorem dX10_best_88 : decode cX10_best 88 = .ok (.lload_n 3, 1) := by decide +kernel
theorem dX10_best_89 : decode cX10_best 89 = .ok (.lstore_n 3, 1) := by decide +kernel
theorem dX10_best_90 : decode cX10_best 90 = .ok (.iload 12, 2) := by decide +kernel
theorem dX10_best_92 : decode cX10_best 92 = .ok (.ifCond .eq 8, 3) := by decide +kernel
theorem dX10_best_95 : decode cX10_best 95 = .ok (.lload 10, 2) := by decide +kernel
theorem dX10_best_97 : decode cX10_best 97 = .ok (.goto 5, 3) := by decide +kernel
theorem dX10_best_100 : decode cX10_best 100 = .ok (.lload 5, 2) := by decide +kernel
theorem dX10_best_102 : decode cX10_best 102 = .ok (.lstore 5, 2) := by decide +kernel
theorem dX10_best_104 : decode cX10_best 104 = .ok (.iload 12, 2) := by decide +kernel
theorem dX10_best_106 : decode cX10_best 106 = .ok (.ifCond .eq 8, 3) := by decide +kernel
theorem dX10_best_109 : decode cX10_best 109 = .ok (.iload 7, 2) := by decide +kernel
theorem dX10_best_111 : decode cX10_best 111 = .ok (.goto 4, 3) := by decide +kernel
theorem dX10_best_114 : decode cX10_best 114 = .ok (.iload_n 2, 1) := by decide +kernel
theorem dX10_best_115 : decode cX10_best 115 = .ok (.istore_n 2, 1) := by decide +kernel
theorem dX10_best_116 : decode cX10_best 116 = .ok (.iinc 7 1, 3) := by decide +kernel
theorem dX10_best_119 : decode cX10_best 119 = .ok (.goto (-109), 3) := by decide +kernel
theorem dX10_best_122 : decode cX10_best 122 = .ok (.iload_n 2, 1) := by decide +kernel
theorem dX10_best_123 : decode cX10_best 123 = .ok (.ireturn, 1) := by decide +kernel
theorem dX10_bestMentor_0 : decode cX10_bestMentor 0 = .ok (.aload_n 0, 1) := by decide +kernel
theorem dX10_bestMentor_1 : decode cX10_bestMentor 1 = .ok (.iload_n 1, 1) := by decide +kernel
theorem dX10_bestMentor_2 : decode cX10_bestMentor 2 = .ok (.invokevirtual 128, 3) := by decide +kernel
theorem dX10_bestMentor_5 : decode cX10_bestMentor 5 = .ok (.ifCond .eq 16, 3) := by decide +kernel
theorem dX10_bestMentor_8 : decode cX10_bestMentor 8 = .ok (.aload_n 0, 1) := by decide +kernel
theorem dX10_bestMentor_9 : decode cX10_bestMentor 9 = .ok (.aload_n 0, 1) := by decide +kernel
theorem dX10_bestMentor_10 : decode cX10_bestMentor 10 = .ok (.iload_n 1, 1) := by decide +kernel
theorem dX10_bestMentor_11 : decode cX10_bestMentor 11 = .ok (.invokevirtual 247, 3) := by decide +kernel
theorem dX10_bestMentor_14 : decode cX10_bestMentor 14 = .ok (.i2l, 1) := by decide +kernel
theorem dX10_bestMentor_15 : decode cX10_bestMentor 15 = .ok (.invokevirtual 46, 3) := by decide +kernel
theorem dX10_bestMentor_18 : decode cX10_bestMentor 18 = .ok (.goto 8, 3) := by decide +kernel
theorem dX10_bestMentor_21 : decode cX10_bestMentor 21 = .ok (.aload_n 0, 1) := by decide +kernel
theorem dX10_bestMentor_22 : decode cX10_bestMentor 22 = .ok (.iconst 1, 1) := by decide +kernel
theorem dX10_bestMentor_23 : decode cX10_bestMentor 23 = .ok (.invokevirtual 39, 3) := by decide +kernel
theorem dX10_bestMentor_26 : decode cX10_bestMentor 26 = .ok (.ireturn, 1) := by decide +kernel
theorem dX10_doubtsBy_0 : decode cX10_doubtsBy 0 = .ok (.aload_n 0, 1) := by decide +kernel
theorem dX10_doubtsBy_1 : decode cX10_doubtsBy 1 = .ok (.iload_n 1, 1) := by decide +kernel
theorem dX10_doubtsBy_2 : decode cX10_doubtsBy 2 = .ok (.invokevirtual 128, 3) := by decide +kernel
theorem dX10_doubtsBy_5 : decode cX10_doubtsBy 5 = .ok (.ifCond .eq 11, 3) := by decide +kernel
theorem dX10_doubtsBy_8 : decode cX10_doubtsBy 8 = .ok (.aload_n 0, 1) := by decide +kernel
theorem dX10_doubtsBy_9 : decode cX10_doubtsBy 9 = .ok (.iload_n 2, 1) := by decide +kernel
theorem dX10_doubtsBy_10 : decode cX10_doubtsBy 10 = .ok (.invokevirtual 128, 3) := by decide +kernel
theorem dX10_doubtsBy_13 : decode cX10_doubtsBy 13 = .ok (.ifCond .ne 9, 3) := by decide +kernel
theorem dX10_doubtsBy_16 : decode cX10_doubtsBy 16 = .ok (.aload_n 0, 1) := by decide +kernel
theorem dX10_doubtsBy_17 : decode cX10_doubtsBy 17 = .ok (.iconst 1, 1) := by decide +kernel
theorem dX10_doubtsBy_18 : decode cX10_doubtsBy 18 = .ok (.invokevirtual 39, 3) := by decide +kernel
theorem dX10_doubtsBy_21 : decode cX10_doubtsBy 21 = .ok (.ireturn, 1) := by decide +kernel
theorem dX10_doubtsBy_22 : decode cX10_doubtsBy 22 = .ok (.aload_n 0, 1) := by decide +kernel
theorem dX10_doubtsBy_23 : decode cX10_doubtsBy 23 = .ok (.iload_n 1, 1) := by decide +kernel
theorem dX10_doubtsBy_24 : decode cX10_doubtsBy 24 = .ok (.iload_n 2, 1) := by decide +kernel
theorem dX10_doubtsBy_25 : decode cX10_doubtsBy 25 = .ok (.if_icmp .eq 37, 3) := by decide +kernel
theorem dX10_doubtsBy_28 : decode cX10_doubtsBy 28 = .ok (.aload_n 0, 1) := by decide +kernel
theorem dX10_doubtsBy_29 : decode cX10_doubtsBy 29 = .ok (.iload_n 1, 1) := by decide +kernel
theorem dX10_doubtsBy_30 : decode cX10_doubtsBy 30 = .ok (.iload_n 2, 1) := by decide +kernel
theorem dX10_doubtsBy_31 : decode cX10_doubtsBy 31 = .ok (.invokevirtual 163, 3) := by decide +kernel
theorem dX10_doubtsBy_34 : decode cX10_doubtsBy 34 = .ok (.ifCond .eq 28, 3) := by decide +kernel
theorem dX10_doubtsBy_37 : decode cX10_doubtsBy 37 = .ok (.aload_n 0, 1) := by decide +kernel
theorem dX10_doubtsBy_38 : decode cX10_doubtsBy 38 = .ok (.iload_n 1, 1) := by decide +kernel
theorem dX10_doubtsBy_39 : decode cX10_doubtsBy 39 = .ok (.aload_n 0, 1) := by decide +kernel
theorem dX10_doubtsBy_40 : decode cX10_doubtsBy 40 = .ok (.iload_n 2, 1) := by decide +kernel
theorem dX10_doubtsBy_41 : decode cX10_doubtsBy 41 = .ok (.invokevirtual 83, 3) := by decide +kernel
theorem dX10_doubtsBy_44 : decode cX10_doubtsBy 44 = .ok (.invokevirtual 100, 3) := by decide +kernel
theorem dX10_doubtsBy_47 : decode cX10_doubtsBy 47 = .ok (.aload_n 0, 1) := by decide +kernel
theorem dX10_doubtsBy_48 : decode cX10_doubtsBy 48 = .ok (.iload_n 2, 1) := by decide +kernel
theorem dX10_doubtsBy_49 : decode cX10_doubtsBy 49 = .ok (.aload_n 0, 1) := by decide +kernel
theorem dX10_doubtsBy_50 : decode cX10_doubtsBy 50 = .ok (.iload_n 1, 1) := by decide +kernel
theorem dX10_doubtsBy_51 : decode cX10_doubtsBy 51 = .ok (.invokevirtual 83, 3) := by decide +kernel
theorem dX10_doubtsBy_54 : decode cX10_doubtsBy 54 = .ok (.invokevirtual 100, 3) := by decide +kernel
theorem dX10_doubtsBy_57 : decode cX10_doubtsBy 57 = .ok (.iadd, 1) := by decide +kernel
theorem dX10_doubtsBy_58 : decode cX10_doubtsBy 58 = .ok (.i2l, 1) := by decide +kernel
theorem dX10_doubtsBy_59 : decode cX10_doubtsBy 59 = .ok (.goto 6, 3) := by decide +kernel
theorem dX10_doubtsBy_62 : decode cX10_doubtsBy 62 = .ok (.ldc2_w 74, 3) := by decide +kernel
theorem dX10_doubtsBy_65 : decode cX10_doubtsBy 65 = .ok (.invokevirtual 46, 3) := by decide +kernel
theorem dX10_doubtsBy_68 : decode cX10_doubtsBy 68 = .ok (.ireturn, 1) := by decide +kernel
theorem dX10_next_0 : decode cX10_next 0 = .ok (.iload_n 2, 1) := by decide +kernel
theorem dX10_next_1 : decode cX10_next 1 = .ok (.istore_n 3, 1) := by decide +kernel
theorem dX10_next_2 : decode cX10_next 2 = .ok (.iload_n 3, 1) := by decide +kernel
theorem dX10_next_3 : decode cX10_next 3 = .ok (.sipush 200, 3) := by decide +kernel
theorem dX10_next_6 : decode cX10_next 6 = .ok (.if_icmp .ge 22, 3) := by decide +kernel
theorem dX10_next_9 : decode cX10_next 9 = .ok (.aload_n 0, 1) := by decide +kernel
theorem dX10_next_10 : decode cX10_next 10 = .ok (.iload_n 1, 1) := by decide +kernel
theorem dX10_next_11 : decode cX10_next 11 = .ok (.bipush 11, 2) := by decide +kernel
theorem dX10_next_13 : decode cX10_next 13 = .ok (.iload_n 3, 1) := by decide +kernel
theorem dX10_next_14 : decode cX10_next 14 = .ok (.invokevirtual 64, 3) := by decide +kernel
theorem dX10_next_17 : decode cX10_next 17 = .ok (.ifCond .eq 5, 3) := by decide +kernel
theorem dX10_next_20 : decode cX10_next 20 = .ok (.iload_n 3, 1) := by decide +kernel
theorem dX10_next_21 : decode cX10_next 21 = .ok (.ireturn, 1) := by decide +kernel
theorem dX10_next_22 : decode cX10_next 22 = .ok (.iinc 3 1, 3) := by decide +kernel
theorem dX10_next_25 : decode cX10_next 25 = .ok (.goto (-23), 3) := by decide +kernel
theorem dX10_next_28 : decode cX10_next 28 = .ok (.iconst (-1), 1) := by decide +kernel
theorem dX10_next_29 : decode cX10_next 29 = .ok (.ireturn, 1) := by decide +kernel
theorem dX10_nextRelease_0 : decode cX10_nextRelease 0 = .ok (.aload_n 0, 1) := by decide +kernel
theorem dX10_nextRelease_1 : decode cX10_nextRelease 1 = .ok (.iload_n 1, 1) := by decide +kernel
theorem dX10_nextRelease_2 : decode cX10_nextRelease 2 = .ok (.invokevirtual 128, 3) := by decide +kernel
theorem dX10_nextRelease_5 : decode cX10_nextRelease 5 = .ok (.ifCond .ne 9, 3) := by decide +kernel
theorem dX10_nextRelease_8 : decode cX10_nextRelease 8 = .ok (.aload_n 0, 1) := by decide +kernel
theorem dX10_nextRelease_9 : decode cX10_nextRelease 9 = .ok (.iconst 1, 1) := by decide +kernel
theorem dX10_nextRelease_10 : decode cX10_nextRelease 10 = .ok (.invokevirtual 39, 3) := by decide +kernel
theorem dX10_nextRelease_13 : decode cX10_nextRelease 13 = .ok (.ireturn, 1) := by decide +kernel
theorem dX10_nextRelease_14 : decode cX10_nextRelease 14 = .ok (.iload_n 2, 1) := by decide +kernel
theorem dX10_nextRelease_15 : decode cX10_nextRelease 15 = .ok (.i2l, 1) := by decide +kernel
theorem dX10_nextRelease_16 : decode cX10_nextRelease 16 = .ok (.lconst 0, 1) := by decide +kernel
theorem dX10_nextRelease_17 : decode cX10_nextRelease 17 = .ok (.ldc2_w 155, 3) := by decide +kernel
theorem dX10_nextRelease_20 : decode cX10_nextRelease 20 = .ok (.invokestatic 50, 3) := by decide +kernel
theorem dX10_nextRelease_23 : decode cX10_nextRelease 23 = .ok (.ifCond .eq 17, 3) := by decide +kernel
theorem dX10_nextRelease_26 : decode cX10_nextRelease 26 = .ok (.aload_n 0, 1) := by decide +kernel
theorem dX10_nextRelease_27 : decode cX10_nextRelease 27 = .ok (.aload_n 0, 1) := by decide +kernel
theorem dX10_nextRelease_28 : decode cX10_nextRelease 28 = .ok (.iload_n 1, 1) := by decide +kernel
theorem dX10_nextRelease_29 : decode cX10_nextRelease 29 = .ok (.iload_n 2, 1) := by decide +kernel
theorem dX10_nextRelease_30 : decode cX10_nextRelease 30 = .ok (.invokevirtual 250, 3) := by decide +kernel
theorem dX10_nextRelease_33 : decode cX10_nextRelease 33 = .ok (.i2l, 1) := by decide +kernel
theorem dX10_nextRelease_34 : decode cX10_nextRelease 34 = .ok (.invokevirtual 46, 3) := by decide +kernel
theorem dX10_nextRelease_37 : decode cX10_nextRelease 37 = .ok (.goto 8, 3) := by decide +kernel
theorem dX10_nextRelease_40 : decode cX10_nextRelease 40 = .ok (.aload_n 0, 1) := by decide +kernel
theorem dX10_nextRelease_41 : decode cX10_nextRelease 41 = .ok (.iconst 2, 1) := by decide +kernel
theorem dX10_nextRelease_42 : decode cX10_nextRelease 42 = .ok (.invokevirtual 39, 3) := by decide +kernel
theorem dX10_nextRelease_45 : decode cX10_nextRelease 45 = .ok (.ireturn, 1) := by decide +kernel
theorem dX10_type_0 : decode cX10_type 0 = .ok (.iload_n 1, 1) := by decide +kernel
theorem dX10_type_1 : decode cX10_type 1 = .ok (.i2l, 1) := by decide +kernel
theorem dX10_type_2 : decode cX10_type 2 = .ok (.lconst 0, 1) := by decide +kernel
theorem dX10_type_3 : decode cX10_type 3 = .ok (.ldc2_w 253, 3) := by decide +kernel
theorem dX10_type_6 : decode cX10_type 6 = .ok (.invokestatic 50, 3) := by decide +kernel
theorem dX10_type_9 : decode cX10_type 9 = .ok (.ifCond .ne 9, 3) := by decide +kernel
theorem dX10_type_12 : decode cX10_type 12 = .ok (.aload_n 0, 1) := by decide +kernel
theorem dX10_type_13 : decode cX10_type 13 = .ok (.iconst 1, 1) := by decide +kernel
theorem dX10_type_14 : decode cX10_type 14 = .ok (.invokevirtual 39, 3) := by decide +kernel
theorem dX10_type_17 : decode cX10_type 17 = .ok (.ireturn, 1) := by decide +kernel
theorem dX10_type_18 : decode cX10_type 18 = .ok (.aload_n 0, 1) := by decide +kernel
theorem dX10_type_19 : decode cX10_type 19 = .ok (.getfield 238, 3) := by decide +kernel
theorem dX10_type_22 : decode cX10_type 22 = .ok (.sipush 150, 3) := by decide +kernel
theorem dX10_type_25 : decode cX10_type 25 = .ok (.if_icmp .ne 9, 3) := by decide +kernel
theorem dX10_type_28 : decode cX10_type 28 = .ok (.aload_n 0, 1) := by decide +kernel
theorem dX10_type_29 : decode cX10_type 29 = .ok (.iconst 2, 1) := by decide +kernel
theorem dX10_type_30 : decode cX10_type 30 = .ok (.invokevirtual 39, 3) := by decide +kernel
theorem dX10_type_33 : decode cX10_type 33 = .ok (.ireturn, 1) := by decide +kernel
theorem dX10_type_34 : decode cX10_type 34 = .ok (.aload_n 0, 1) := by decide +kernel
theorem dX10_type_35 : decode cX10_type 35 = .ok (.getfield 19, 3) := by decide +kernel
theorem dX10_type_38 : decode cX10_type 38 = .ok (.aload_n 0, 1) := by decide +kernel
theorem dX10_type_39 : decode cX10_type 39 = .ok (.getfield 238, 3) := by decide +kernel
theorem dX10_type_42 : decode cX10_type 42 = .ok (.iload_n 1, 1) := by decide +kernel
theorem dX10_type_43 : decode cX10_type 43 = .ok (.iastore, 1) := by decide +kernel
theorem dX10_type_44 : decode cX10_type 44 = .ok (.aload_n 0, 1) := by decide +kernel
theorem dX10_type_45 : decode cX10_type 45 = .ok (.dup, 1) := by decide +kernel
theorem dX10_type_46 : decode cX10_type 46 = .ok (.getfield 238, 3) := by decide +kernel
theorem dX10_type_49 : decode cX10_type 49 = .ok (.iconst 1, 1) := by decide +kernel
theorem dX10_type_50 : decode cX10_type 50 = .ok (.iadd, 1) := by decide +kernel
theorem dX10_type_51 : decode cX10_type 51 = .ok (.putfield 238, 3) := by decide +kernel
theorem dX10_type_54 : decode cX10_type 54 = .ok (.aload_n 0, 1) := by decide +kernel
theorem dX10_type_55 : decode cX10_type 55 = .ok (.aload_n 0, 1) := by decide +kernel
theorem dX10_type_56 : decode cX10_type 56 = .ok (.getfield 238, 3) := by decide +kernel
theorem dX10_type_59 : decode cX10_type 59 = .ok (.i2l, 1) := by decide +kernel
theorem dX10_type_60 : decode cX10_type 60 = .ok (.invokevirtual 46, 3) := by decide +kernel
theorem dX10_type_63 : decode cX10_type 63 = .ok (.ireturn, 1) := by decide +kernel
theorem dX10_clearCommands_0 : decode cX10_clearCommands 0 = .ok (.aload_n 0, 1) := by decide +kernel
theorem dX10_clearCommands_1 : decode cX10_clearCommands 1 = .ok (.getfield 238, 3) := by decide +kernel
theorem dX10_clearCommands_4 : decode cX10_clearCommands 4 = .ok (.istore_n 1, 1) := by decide +kernel
theorem dX10_clearCommands_5 : decode cX10_clearCommands 5 = .ok (.aload_n 0, 1) := by decide +kernel
theorem dX10_clearCommands_6 : decode cX10_clearCommands 6 = .ok (.iconst 0, 1) := by decide +kernel
theorem dX10_clearCommands_7 : decode cX10_clearCommands 7 = .ok (.putfield 238, 3) := by decide +kernel
theorem dX10_clearCommands_10 : decode cX10_clearCommands 10 = .ok (.aload_n 0, 1) := by decide +kernel
theorem dX10_clearCommands_11 : decode cX10_clearCommands 11 = .ok (.iload_n 1, 1) := by decide +kernel
theorem dX10_clearCommands_12 : decode cX10_clearCommands 12 = .ok (.i2l, 1) := by decide +kernel
theorem dX10_clearCommands_13 : decode cX10_clearCommands 13 = .ok (.invokevirtual 46, 3) := by decide +kernel
theorem dX10_clearCommands_16 : decode cX10_clearCommands 16 = .ok (.ireturn, 1) := by decide +kernel
theorem dX10_isAt_0 : decode cX10_isAt 0 = .ok (.aload_n 0, 1) := by decide +kernel
theorem dX10_isAt_1 : decode cX10_isAt 1 = .ok (.getfield 255, 3) := by decide +kernel
theorem dX10_isAt_4 : decode cX10_isAt 4 = .ok (.aload_n 0, 1) := by decide +kernel
theorem dX10_isAt_5 : decode cX10_isAt 5 = .ok (.getfield 238, 3) := by decide +kernel
theorem dX10_isAt_8 : decode cX10_isAt 8 = .ok (.if_icmp .ge 27, 3) := by decide +kernel
theorem dX10_isAt_11 : decode cX10_isAt 11 = .ok (.aload_n 0, 1) := by decide +kernel
theorem dX10_isAt_12 : decode cX10_isAt 12 = .ok (.getfield 19, 3) := by decide +kernel
theorem dX10_isAt_15 : decode cX10_isAt 15 = .ok (.aload_n 0, 1) := by decide +kernel
theorem dX10_isAt_16 : decode cX10_isAt 16 = .ok (.getfield 255, 3) := by decide +kernel
theorem dX10_isAt_19 : decode cX10_isAt 19 = .ok (.iaload, 1) := by decide +kernel
theorem dX10_isAt_20 : decode cX10_isAt 20 = .ok (.i2l, 1) := by decide +kernel
theorem dX10_isAt_21 : decode cX10_isAt 21 = .ok (.iload_n 1, 1) := by decide +kernel
theorem dX10_isAt_22 : decode cX10_isAt 22 = .ok (.i2l, 1) := by decide +kernel
theorem dX10_isAt_23 : decode cX10_isAt 23 = .ok (.iload_n 2, 1) := by decide +kernel
theorem dX10_isAt_24 : decode cX10_isAt 24 = .ok (.i2l, 1) := by decide +kernel
theorem dX10_isAt_25 : decode cX10_isAt 25 = .ok (.invokestatic 50, 3) := by decide +kernel
theorem dX10_isAt_28 : decode cX10_isAt 28 = .ok (.ifCond .eq 7, 3) := by decide +kernel
theorem dX10_isAt_31 : decode cX10_isAt 31 = .ok (.iconst 1, 1) := by decide +kernel
theorem dX10_isAt_32 : decode cX10_isAt 32 = .ok (.goto 4, 3) := by decide +kernel
theorem dX10_isAt_35 : decode cX10_isAt 35 = .ok (.iconst 0, 1) := by decide +kernel
theorem dX10_isAt_36 : decode cX10_isAt 36 = .ok (.ireturn, 1) := by decide +kernel
theorem dX10_skips_0 : decode cX10_skips 0 = .ok (.aload_n 0, 1) := by decide +kernel
theorem dX10_skips_1 : decode cX10_skips 1 = .ok (.bipush 32, 2) := by decide +kernel
theorem dX10_skips_3 : decode cX10_skips 3 = .ok (.bipush 32, 2) := by decide +kernel
theorem dX10_skips_5 : decode cX10_skips 5 = .ok (.invokevirtual 258, 3) := by decide +kernel
theorem dX10_skips_8 : decode cX10_skips 8 = .ok (.ifCond .eq 16, 3) := by decide +kernel
theorem dX10_skips_11 : decode cX10_skips 11 = .ok (.aload_n 0, 1) := by decide +kernel
theorem dX10_skips_12 : decode cX10_skips 12 = .ok (.dup, 1) := by decide +kernel
theorem dX10_skips_13 : decode cX10_skips 13 = .ok (.getfield 255, 3) := by decide +kernel
theorem dX10_skips_16 : decode cX10_skips 16 = .ok (.iconst 1, 1) := by decide +kernel
theorem dX10_skips_17 : decode cX10_skips 17 = .ok (.iadd, 1) := by decide +kernel
theorem dX10_skips_18 : decode cX10_skips 18 = .ok (.putfield 255, 3) := by decide +kernel
theorem dX10_skips_21 : decode cX10_skips 21 = .ok (.goto (-21), 3) := by decide +kernel
theorem dX10_skips_24 : decode cX10_skips 24 = .ok (.return_, 1) := by decide +kernel
theorem dX10_wordOf_0 : decode cX10_wordOf 0 = .ok (.lload_n 0, 1) := by decide +kernel
theorem dX10_wordOf_1 : decode cX10_wordOf 1 = .ok (.ldc2_w 261, 3) := by decide +kernel
theorem dX10_wordOf_4 : decode cX10_wordOf 4 = .ok (.lcmp, 1) := by decide +kernel
theorem dX10_wordOf_5 : decode cX10_wordOf 5 = .ok (.ifCond .eq 11, 3) := by decide +kernel
theorem dX10_wordOf_8 : decode cX10_wordOf 8 = .ok (.lload_n 0, 1) := by decide +kernel
theorem dX10_wordOf_9 : decode cX10_wordOf 9 = .ok (.ldc2_w 263, 3) := by decide +kernel
theorem dX10_wordOf_12 : decode cX10_wordOf 12 = .ok (.lcmp, 1) := by decide +kernel
theorem dX10_wordOf_13 : decode cX10_wordOf 13 = .ok (.ifCond .ne 17, 3) := by decide +kernel
theorem dX10_wordOf_16 : decode cX10_wordOf 16 = .ok (.lload_n 0, 1) := by decide +kernel
theorem dX10_wordOf_17 : decode cX10_wordOf 17 = .ok (.ldc2_w 263, 3) := by decide +kernel
theorem dX10_wordOf_20 : decode cX10_wordOf 20 = .ok (.lcmp, 1) := by decide +kernel
theorem dX10_wordOf_21 : decode cX10_wordOf 21 = .ok (.ifCond .ne 7, 3) := by decide +kernel
theorem dX10_wordOf_24 : decode cX10_wordOf 24 = .ok (.iconst 1, 1) := by decide +kernel
theorem dX10_wordOf_25 : decode cX10_wordOf 25 = .ok (.goto 4, 3) := by decide +kernel
theorem dX10_wordOf_28 : decode cX10_wordOf 28 = .ok (.iconst 0, 1) := by decide +kernel
theorem dX10_wordOf_29 : decode cX10_wordOf 29 = .ok (.ireturn, 1) := by decide +kernel
theorem dX10_wordOf_30 : decode cX10_wordOf 30 = .ok (.lload_n 0, 1) := by decide +kernel
theorem dX10_wordOf_31 : decode cX10_wordOf 31 = .ok (.ldc2_w 265, 3) := by decide +kernel
theorem dX10_wordOf_34 : decode cX10_wordOf 34 = .ok (.lcmp, 1) := by decide +kernel
theorem dX10_wordOf_35 : decode cX10_wordOf 35 = .ok (.ifCond .eq 11, 3) := by decide +kernel
theorem dX10_wordOf_38 : decode cX10_wordOf 38 = .ok (.lload_n 0, 1) := by decide +kernel
theorem dX10_wordOf_39 : decode cX10_wordOf 39 = .ok (.ldc2_w 267, 3) := by decide +kernel
theorem dX10_wordOf_42 : decode cX10_wordOf 42 = .ok (.lcmp, 1) := by decide +kernel
theorem dX10_wordOf_43 : decode cX10_wordOf 43 = .ok (.ifCond .ne 17, 3) := by decide +kernel
theorem dX10_wordOf_46 : decode cX10_wordOf 46 = .ok (.lload_n 0, 1) := by decide +kernel
theorem dX10_wordOf_47 : decode cX10_wordOf 47 = .ok (.ldc2_w 265, 3) := by decide +kernel
theorem dX10_wordOf_50 : decode cX10_wordOf 50 = .ok (.lcmp, 1) := by decide +kernel
theorem dX10_wordOf_51 : decode cX10_wordOf 51 = .ok (.ifCond .ne 7, 3) := by decide +kernel
theorem dX10_wordOf_54 : decode cX10_wordOf 54 = .ok (.iconst 2, 1) := by decide +kernel
theorem dX10_wordOf_55 : decode cX10_wordOf 55 = .ok (.goto 4, 3) := by decide +kernel
theorem dX10_wordOf_58 : decode cX10_wordOf 58 = .ok (.iconst 3, 1) := by decide +kernel
theorem dX10_wordOf_59 : decode cX10_wordOf 59 = .ok (.ireturn, 1) := by decide +kernel
theorem dX10_wordOf_60 : decode cX10_wordOf 60 = .ok (.lload_n 0, 1) := by decide +kernel
theorem dX10_wordOf_61 : decode cX10_wordOf 61 = .ok (.ldc2_w 269, 3) := by decide +kernel
theorem dX10_wordOf_64 : decode cX10_wordOf 64 = .ok (.lcmp, 1) := by decide +kernel
theorem dX10_wordOf_65 : decode cX10_wordOf 65 = .ok (.ifCond .eq 11, 3) := by decide +kernel
theorem dX10_wordOf_68 : decode cX10_wordOf 68 = .ok (.lload_n 0, 1) := by decide +kernel
theorem dX10_wordOf_69 : decode cX10_wordOf 69 = .ok (.ldc2_w 271, 3) := by decide +kernel
theorem dX10_wordOf_72 : decode cX10_wordOf 72 = .ok (.lcmp, 1) := by decide +kernel
theorem dX10_wordOf_73 : decode cX10_wordOf 73 = .ok (.ifCond .ne 17, 3) := by decide +kernel
theorem dX10_wordOf_76 : decode cX10_wordOf 76 = .ok (.lload_n 0, 1) := by decide +kernel
theorem dX10_wordOf_77 : decode cX10_wordOf 77 = .ok (.ldc2_w 269, 3) := by decide +kernel
theorem dX10_wordOf_80 : decode cX10_wordOf 80 = .ok (.lcmp, 1) := by decide +kernel
theorem dX10_wordOf_81 : decode cX10_wordOf 81 = .ok (.ifCond .ne 7, 3) := by decide +kernel
theorem dX10_wordOf_84 : decode cX10_wordOf 84 = .ok (.iconst 4, 1) := by decide +kernel
theorem dX10_wordOf_85 : decode cX10_wordOf 85 = .ok (.goto 4, 3) := by decide +kernel
theorem dX10_wordOf_88 : decode cX10_wordOf 88 = .ok (.iconst 5, 1) := by decide +kernel
theorem dX10_wordOf_89 : decode cX10_wordOf 89 = .ok (.ireturn, 1) := by decide +kernel
theorem dX10_wordOf_90 : decode cX10_wordOf 90 = .ok (.lload_n 0, 1) := by decide +kernel
theorem dX10_wordOf_91 : decode cX10_wordOf 91 = .ok (.ldc2_w 273, 3) := by decide +kernel
theorem dX10_wordOf_94 : decode cX10_wordOf 94 = .ok (.lcmp, 1) := by decide +kernel
theorem dX10_wordOf_95 : decode cX10_wordOf 95 = .ok (.ifCond .eq 11, 3) := by decide +kernel
theorem dX10_wordOf_98 : decode cX10_wordOf 98 = .ok (.lload_n 0, 1) := by decide +kernel
theorem dX10_wordOf_99 : decode cX10_wordOf 99 = .ok (.ldc2_w 275, 3) := by decide +kernel
theorem dX10_wordOf_102 : decode cX10_wordOf 102 = .ok (.lcmp, 1) := by decide +kernel
theorem dX10_wordOf_103 : decode cX10_wordOf 103 = .ok (.ifCond .ne 19, 3) := by decide +kernel
theorem dX10_wordOf_106 : decode cX10_wordOf 106 = .ok (.lload_n 0, 1) := by decide +kernel
theorem dX10_wordOf_107 : decode cX10_wordOf 107 = .ok (.ldc2_w 273, 3) := by decide +kernel
theorem dX10_wordOf_110 : decode cX10_wordOf 110 = .ok (.lcmp, 1) := by decide +kernel
theorem dX10_wordOf_111 : decode cX10_wordOf 111 = .ok (.ifCond .ne 8, 3) := by decide +kernel
theorem dX10_wordOf_114 : decode cX10_wordOf 114 = .ok (.bipush 6, 2) := by decide +kernel
theorem dX10_wordOf_116 : decode cX10_wordOf 116 = .ok (.goto 5, 3) := by decide +kernel
theorem dX10_wordOf_119 : decode cX10_wordOf 119 = .ok (.bipush 7, 2) := by decide +kernel
theorem dX10_wordOf_121 : decode cX10_wordOf 121 = .ok (.ireturn, 1) := by decide +kernel
theorem dX10_wordOf_122 : decode cX10_wordOf 122 = .ok (.lload_n 0, 1) := by decide +kernel
theorem dX10_wordOf_123 : decode cX10_wordOf 123 = .ok (.ldc2_w 277, 3) := by decide +kernel
theorem dX10_wordOf_126 : decode cX10_wordOf 126 = .ok (.lcmp, 1) := by decide +kernel
theorem dX10_wordOf_127 : decode cX10_wordOf 127 = .ok (.ifCond .eq 11, 3) := by decide +kernel
theorem dX10_wordOf_130 : decode cX10_wordOf 130 = .ok (.lload_n 0, 1) := by decide +kernel
theorem dX10_wordOf_131 : decode cX10_wordOf 131 = .ok (.ldc2_w 279, 3) := by decide +kernel
theorem dX10_wordOf_134 : decode cX10_wordOf 134 = .ok (.lcmp, 1) := by decide +kernel
theorem dX10_wordOf_135 : decode cX10_wordOf 135 = .ok (.ifCond .ne 19, 3) := by decide +kernel
theorem dX10_wordOf_138 : decode cX10_wordOf 138 = .ok (.lload_n 0, 1) := by decide +kernel
theorem dX10_wordOf_139 : decode cX10_wordOf 139 = .ok (.ldc2_w 277, 3) := by decide +kernel
theorem dX10_wordOf_142 : decode cX10_wordOf 142 = .ok (.lcmp, 1) := by decide +kernel
theorem dX10_wordOf_143 : decode cX10_wordOf 143 = .ok (.ifCond .ne 8, 3) := by decide +kernel
theorem dX10_wordOf_146 : decode cX10_wordOf 146 = .ok (.bipush 8, 2) := by decide +kernel
theorem dX10_wordOf_148 : decode cX10_wordOf 148 = .ok (.goto 5, 3) := by decide +kernel
theorem dX10_wordOf_151 : decode cX10_wordOf 151 = .ok (.bipush 9, 2) := by decide +kernel
theorem dX10_wordOf_153 : decode cX10_wordOf 153 = .ok (.ireturn, 1) := by decide +kernel
theorem dX10_wordOf_154 : decode cX10_wordOf 154 = .ok (.lload_n 0, 1) := by decide +kernel
theorem dX10_wordOf_155 : decode cX10_wordOf 155 = .ok (.ldc2_w 281, 3) := by decide +kernel
theorem dX10_wordOf_158 : decode cX10_wordOf 158 = .ok (.lcmp, 1) := by decide +kernel
theorem dX10_wordOf_159 : decode cX10_wordOf 159 = .ok (.ifCond .ne 8, 3) := by decide +kernel
theorem dX10_wordOf_162 : decode cX10_wordOf 162 = .ok (.bipush 10, 2) := by decide +kernel
theorem dX10_wordOf_164 : decode cX10_wordOf 164 = .ok (.goto 17, 3) := by decide +kernel
theorem dX10_wordOf_167 : decode cX10_wordOf 167 = .ok (.lload_n 0, 1) := by decide +kernel
theorem dX10_wordOf_168 : decode cX10_wordOf 168 = .ok (.ldc2_w 283, 3) := by decide +kernel
theorem dX10_wordOf_171 : decode cX10_wordOf 171 = .ok (.lcmp, 1) := by decide +kernel
theorem dX10_wordOf_172 : decode cX10_wordOf 172 = .ok (.ifCond .ne 8, 3) := by decide +kernel
theorem dX10_wordOf_175 : decode cX10_wordOf 175 = .ok (.bipush 11, 2) := by decide +kernel
theorem dX10_wordOf_177 : decode cX10_wordOf 177 = .ok (.goto 4, 3) := by decide +kernel
theorem dX10_wordOf_180 : decode cX10_wordOf 180 = .ok (.iconst (-1), 1) := by decide +kernel
theorem dX10_wordOf_181 : decode cX10_wordOf 181 = .ok (.ireturn, 1) := by decide +kernel
theorem dX10_takesNumber_0 : decode cX10_takesNumber 0 = .ok (.aload_n 0, 1) := by decide +kernel
theorem dX10_takesNumber_1 : decode cX10_takesNumber 1 = .ok (.bipush 32, 2) := by decide +kernel
theorem dX10_takesNumber_3 : decode cX10_takesNumber 3 = .ok (.bipush 32, 2) := by decide +kernel
theorem dX10_takesNumber_5 : decode cX10_takesNumber 5 = .ok (.invokevirtual 258, 3) := by decide +kernel
theorem dX10_takesNumber_8 : decode cX10_takesNumber 8 = .ok (.ifCond .ne 5, 3) := by decide +kernel
theorem dX10_takesNumber_11 : decode cX10_takesNumber 11 = .ok (.iconst 0, 1) := by decide +kernel
theorem dX10_takesNumber_12 : decode cX10_takesNumber 12 = .ok (.ireturn, 1) := by decide +kernel
theorem dX10_takesNumber_13 : decode cX10_takesNumber 13 = .ok (.aload_n 0, 1) := by decide +kernel
theorem dX10_takesNumber_14 : decode cX10_takesNumber 14 = .ok (.invokevirtual 285, 3) := by decide +kernel
theorem dX10_takesNumber_17 : decode cX10_takesNumber 17 = .ok (.aload_n 0, 1) := by decide +kernel
theorem dX10_takesNumber_18 : decode cX10_takesNumber 18 = .ok (.getfield 255, 3) := by decide +kernel
theorem dX10_takesNumber_21 : decode cX10_takesNumber 21 = .ok (.istore_n 2, 1) := by decide +kernel
theorem dX10_takesNumber_22 : decode cX10_takesNumber 22 = .ok (.aload_n 0, 1) := by decide +kernel
theorem dX10_takesNumber_23 : decode cX10_takesNumber 23 = .ok (.getfield 23, 3) := by decide +kernel
theorem dX10_takesNumber_26 : decode cX10_takesNumber 26 = .ok (.iload_n 1, 1) := by decide +kernel
theorem dX10_takesNumber_27 : decode cX10_takesNumber 27 = .ok (.iconst 0, 1) := by decide +kernel
theorem dX10_takesNumber_28 : decode cX10_takesNumber 28 = .ok (.iastore, 1) := by decide +kernel
theorem dX10_takesNumber_29 : decode cX10_takesNumber 29 = .ok (.aload_n 0, 1) := by decide +kernel
theorem dX10_takesNumber_30 : decode cX10_takesNumber 30 = .ok (.bipush 48, 2) := by decide +kernel
theorem dX10_takesNumber_32 : decode cX10_takesNumber 32 = .ok (.bipush 57, 2) := by decide +kernel
theorem dX10_takesNumber_34 : decode cX10_takesNumber 34 = .ok (.invokevirtual 258, 3) := by decide +kernel
theorem dX10_takesNumber_37 : decode cX10_takesNumber 37 = .ok (.ifCond .eq 54, 3) := by decide +kernel
theorem dX10_takesNumber_40 : decode cX10_takesNumber 40 = .ok (.aload_n 0, 1) := by decide +kernel
theorem dX10_takesNumber_41 : decode cX10_takesNumber 41 = .ok (.getfield 255, 3) := by decide +kernel
theorem dX10_takesNumber_44 : decode cX10_takesNumber 44 = .ok (.iload_n 2, 1) := by decide +kernel
theorem dX10_takesNumber_45 : decode cX10_takesNumber 45 = .ok (.iconst 4, 1) := by decide +kernel
theorem dX10_takesNumber_46 : decode cX10_takesNumber 46 = .ok (.iadd, 1) := by decide +kernel
theorem dX10_takesNumber_47 : decode cX10_takesNumber 47 = .ok (.if_icmp .ge 44, 3) := by decide +kernel
theorem dX10_takesNumber_50 : decode cX10_takesNumber 50 = .ok (.aload_n 0, 1) := by decide +kernel
theorem dX10_takesNumber_51 : decode cX10_takesNumber 51 = .ok (.getfield 23, 3) := by decide +kernel
theorem dX10_takesNumber_54 : decode cX10_takesNumber 54 = .ok (.iload_n 1, 1) := by decide +kernel
theorem dX10_takesNumber_55 : decode cX10_takesNumber 55 = .ok (.bipush 10, 2) := by decide +kernel
theorem dX10_takesNumber_57 : decode cX10_takesNumber 57 = .ok (.aload_n 0, 1) := by decide +kernel
theorem dX10_takesNumber_58 : decode cX10_takesNumber 58 = .ok (.getfield 23, 3) := by decide +kernel
theorem dX10_takesNumber_61 : decode cX10_takesNumber 61 = .ok (.iload_n 1, 1) := by decide +kernel
theorem dX10_takesNumber_62 : decode cX10_takesNumber 62 = .ok (.iaload, 1) := by decide +kernel
theorem dX10_takesNumber_63 : decode cX10_takesNumber 63 = .ok (.imul, 1) := by decide +kernel
theorem dX10_takesNumber_64 : decode cX10_takesNumber 64 = .ok (.aload_n 0, 1) := by decide +kernel
theorem dX10_takesNumber_65 : decode cX10_takesNumber 65 = .ok (.getfield 19, 3) := by decide +kernel
theorem dX10_takesNumber_68 : decode cX10_takesNumber 68 = .ok (.aload_n 0, 1) := by decide +kernel
theorem dX10_takesNumber_69 : decode cX10_takesNumber 69 = .ok (.getfield 255, 3) := by decide +kernel
theorem dX10_takesNumber_72 : decode cX10_takesNumber 72 = .ok (.iaload, 1) := by decide +kernel
theorem dX10_takesNumber_73 : decode cX10_takesNumber 73 = .ok (.iadd, 1) := by decide +kernel
theorem dX10_takesNumber_74 : decode cX10_takesNumber 74 = .ok (.bipush 48, 2) := by decide +kernel
theorem dX10_takesNumber_76 : decode cX10_takesNumber 76 = .ok (.isub, 1) := by decide +kernel
theorem dX10_takesNumber_77 : decode cX10_takesNumber 77 = .ok (.iastore, 1) := by decide +kernel
theorem dX10_takesNumber_78 : decode cX10_takesNumber 78 = .ok (.aload_n 0, 1) := by decide +kernel
theorem dX10_takesNumber_79 : decode cX10_takesNumber 79 = .ok (.dup, 1) := by decide +kernel
theorem dX10_takesNumber_80 : decode cX10_takesNumber 80 = .ok (.getfield 255, 3) := by decide +kernel
theorem dX10_takesNumber_83 : decode cX10_takesNumber 83 = .ok (.iconst 1, 1) := by decide +kernel
theorem dX10_takesNumber_84 : decode cX10_takesNumber 84 = .ok (.iadd, 1) := by decide +kernel
theorem dX10_takesNumber_85 : decode cX10_takesNumber 85 = .ok (.putfield 255, 3) := by decide +kernel
theorem dX10_takesNumber_88 : decode cX10_takesNumber 88 = .ok (.goto (-59), 3) := by decide +kernel
theorem dX10_takesNumber_91 : decode cX10_takesNumber 91 = .ok (.aload_n 0, 1) := by decide +kernel
theorem dX10_takesNumber_92 : decode cX10_takesNumber 92 = .ok (.getfield 255, 3) := by decide +kernel
theorem dX10_takesNumber_95 : decode cX10_takesNumber 95 = .ok (.iload_n 2, 1) := by decide +kernel
theorem dX10_takesNumber_96 : decode cX10_takesNumber 96 = .ok (.if_icmp .le 18, 3) := by decide +kernel
theorem dX10_takesNumber_99 : decode cX10_takesNumber 99 = .ok (.aload_n 0, 1) := by decide +kernel
theorem dX10_takesNumber_100 : decode cX10_takesNumber 100 = .ok (.bipush 48, 2) := by decide +kernel
theorem dX10_takesNumber_102 : decode cX10_takesNumber 102 = .ok (.bipush 57, 2) := by decide +kernel
theorem dX10_takesNumber_104 : decode cX10_takesNumber 104 = .ok (.invokevirtual 258, 3) := by decide +kernel
theorem dX10_takesNumber_107 : decode cX10_takesNumber 107 = .ok (.ifCond .ne 7, 3) := by decide +kernel
theorem dX10_takesNumber_110 : decode cX10_takesNumber 110 = .ok (.iconst 1, 1) := by decide +kernel
theorem dX10_takesNumber_111 : decode cX10_takesNumber 111 = .ok (.goto 4, 3) := by decide +kernel
theorem dX10_takesNumber_114 : decode cX10_takesNumber 114 = .ok (.iconst 0, 1) := by decide +kernel
theorem dX10_takesNumber_115 : decode cX10_takesNumber 115 = .ok (.ireturn, 1) := by decide +kernel
theorem dX10_takesCommand_0 : decode cX10_takesCommand 0 = .ok (.aload_n 0, 1) := by decide +kernel
theorem dX10_takesCommand_1 : decode cX10_takesCommand 1 = .ok (.getfield 255, 3) := by decide +kernel
theorem dX10_takesCommand_4 : decode cX10_takesCommand 4 = .ok (.istore_n 1, 1) := by decide +kernel
theorem dX10_takesCommand_5 : decode cX10_takesCommand 5 = .ok (.lconst 0, 1) := by decide +kernel
theorem dX10_takesCommand_6 : decode cX10_takesCommand 6 = .ok (.lstore_n 2, 1) := by decide +kernel
theorem dX10_takesCommand_7 : decode cX10_takesCommand 7 = .ok (.aload_n 0, 1) := by decide +kernel
theorem dX10_takesCommand_8 : decode cX10_takesCommand 8 = .ok (.bipush 97, 2) := by decide +kernel
theorem dX10_takesCommand_10 : decode cX10_takesCommand 10 = .ok (.bipush 122, 2) := by decide +kernel
theorem dX10_takesCommand_12 : decode cX10_takesCommand 12 = .ok (.invokevirtual 258, 3) := by decide +kernel
theorem dX10_takesCommand_15 : decode cX10_takesCommand 15 = .ok (.ifCond .eq 52, 3) := by decide +kernel
theorem dX10_takesCommand_18 : decode cX10_takesCommand 18 = .ok (.aload_n 0, 1) := by decide +kernel
theorem dX10_takesCommand_19 : decode cX10_takesCommand 19 = .ok (.getfield 255, 3) := by decide +kernel
theorem dX10_takesCommand_22 : decode cX10_takesCommand 22 = .ok (.iload_n 1, 1) := by decide +kernel
theorem dX10_takesCommand_23 : decode cX10_takesCommand 23 = .ok (.isub, 1) := by decide +kernel
theorem dX10_takesCommand_24 : decode cX10_takesCommand 24 = .ok (.bipush 8, 2) := by decide +kernel
theorem dX10_takesCommand_26 : decode cX10_takesCommand 26 = .ok (.if_icmp .ge 26, 3) := by decide +kernel
theorem dX10_takesCommand_29 : decode cX10_takesCommand 29 = .ok (.ldc2_w 288, 3) := by decide +kernel
theorem dX10_takesCommand_32 : decode cX10_takesCommand 32 = .ok (.lload_n 2, 1) := by decide +kernel
theorem dX10_takesCommand_33 : decode cX10_takesCommand 33 = .ok (.lmul, 1) := by decide +kernel
theorem dX10_takesCommand_34 : decode cX10_takesCommand 34 = .ok (.aload_n 0, 1) := by decide +kernel
theorem dX10_takesCommand_35 : decode cX10_takesCommand 35 = .ok (.getfield 19, 3) := by decide +kernel
theorem dX10_takesCommand_38 : decode cX10_takesCommand 38 = .ok (.aload_n 0, 1) := by decide +kernel
theorem dX10_takesCommand_39 : decode cX10_takesCommand 39 = .ok (.getfield 255, 3) := by decide +kernel
theorem dX10_takesCommand_42 : decode cX10_takesCommand 42 = .ok (.iaload, 1) := by decide +kernel
theorem dX10_takesCommand_43 : decode cX10_takesCommand 43 = .ok (.i2l, 1) := by decide +kernel
theorem dX10_takesCommand_44 : decode cX10_takesCommand 44 = .ok (.ladd, 1) := by decide +kernel
theorem dX10_takesCommand_45 : decode cX10_takesCommand 45 = .ok (.ldc2_w 290, 3) := by decide +kernel
theorem dX10_takesCommand_48 : decode cX10_takesCommand 48 = .ok (.lsub, 1) := by decide +kernel
theorem dX10_takesCommand_49 : decode cX10_takesCommand 49 = .ok (.goto 4, 3) := by decide +kernel
theorem dX10_takesCommand_52 : decode cX10_takesCommand 52 = .ok (.lconst 0, 1) := by decide +kernel
theorem dX10_takesCommand_53 : decode cX10_takesCommand 53 = .ok (.lstore_n 2, 1) := by decide +kernel
theorem dX10_takesCommand_54 : decode cX10_takesCommand 54 = .ok (.aload_n 0, 1) := by decide +kernel
theorem dX10_takesCommand_55 : decode cX10_takesCommand 55 = .ok (.dup, 1) := by decide +kernel
theorem dX10_takesCommand_56 : decode cX10_takesCommand 56 = .ok (.getfield 255, 3) := by decide +kernel
theorem dX10_takesCommand_59 : decode cX10_takesCommand 59 = .ok (.iconst 1, 1) := by decide +kernel
theorem dX10_takesCommand_60 : decode cX10_takesCommand 60 = .ok (.iadd, 1) := by decide +kernel
theorem dX10_takesCommand_61 : decode cX10_takesCommand 61 = .ok (.putfield 255, 3) := by decide +kernel
theorem dX10_takesCommand_64 : decode cX10_takesCommand 64 = .ok (.goto (-57), 3) := by decide +kernel
theorem dX10_takesCommand_67 : decode cX10_takesCommand 67 = .ok (.aload_n 0, 1) := by decide +kernel
theorem dX10_takesCommand_68 : decode cX10_takesCommand 68 = .ok (.aload_n 0, 1) := by decide +kernel
theorem dX10_takesCommand_69 : decode cX10_takesCommand 69 = .ok (.getfield 255, 3) := by decide +kernel
theorem dX10_takesCommand_72 : decode cX10_takesCommand 72 = .ok (.iload_n 1, 1) := by decide +kernel
theorem dX10_takesCommand_73 : decode cX10_takesCommand 73 = .ok (.isub, 1) := by decide +kernel
theorem dX10_takesCommand_74 : decode cX10_takesCommand 74 = .ok (.bipush 8, 2) := by decide +kernel
theorem dX10_takesCommand_76 : decode cX10_takesCommand 76 = .ok (.if_icmp .le 7, 3) := by decide +kernel
theorem dX10_takesCommand_79 : decode cX10_takesCommand 79 = .ok (.iconst (-1), 1) := by decide +kernel
theorem dX10_takesCommand_80 : decode cX10_takesCommand 80 = .ok (.goto 7, 3) := by decide +kernel
theorem dX10_takesCommand_83 : decode cX10_takesCommand 83 = .ok (.lload_n 2, 1) := by decide +kernel
theorem dX10_takesCommand_84 : decode cX10_takesCommand 84 = .ok (.invokestatic 292, 3) := by decide +kernel
theorem dX10_takesCommand_87 : decode cX10_takesCommand 87 = .ok (.putfield 295, 3) := by decide +kernel
theorem dX10_takesCommand_90 : decode cX10_takesCommand 90 = .ok (.aload_n 0, 1) := by decide +kernel
theorem dX10_takesCommand_91 : decode cX10_takesCommand 91 = .ok (.getfield 295, 3) := by decide +kernel
theorem dX10_takesCommand_94 : decode cX10_takesCommand 94 = .ok (.iconst (-1), 1) := by decide +kernel
theorem dX10_takesCommand_95 : decode cX10_takesCommand 95 = .ok (.if_icmp .ne 10, 3) := by decide +kernel
theorem dX10_takesCommand_98 : decode cX10_takesCommand 98 = .ok (.aload_n 0, 1) := by decide +kernel
theorem dX10_takesCommand_99 : decode cX10_takesCommand 99 = .ok (.iload_n 1, 1) := by decide +kernel
theorem dX10_takesCommand_100 : decode cX10_takesCommand 100 = .ok (.putfield 255, 3) := by decide +kernel
theorem dX10_takesCommand_103 : decode cX10_takesCommand 103 = .ok (.iconst 0, 1) := by decide +kernel
theorem dX10_takesCommand_104 : decode cX10_takesCommand 104 = .ok (.ireturn, 1) := by decide +kernel
theorem dX10_takesCommand_105 : decode cX10_takesCommand 105 = .ok (.aload_n 0, 1) := by decide +kernel
theorem dX10_takesCommand_106 : decode cX10_takesCommand 106 = .ok (.getfield 295, 3) := by decide +kernel
theorem dX10_takesCommand_109 : decode cX10_takesCommand 109 = .ok (.iconst 2, 1) := by decide +kernel
theorem dX10_takesCommand_110 : decode cX10_takesCommand 110 = .ok (.if_icmp .ge 7, 3) := by decide +kernel
theorem dX10_takesCommand_113 : decode cX10_takesCommand 113 = .ok (.iconst 3, 1) := by decide +kernel
theorem dX10_takesCommand_114 : decode cX10_takesCommand 114 = .ok (.goto 17, 3) := by decide +kernel
theorem dX10_takesCommand_117 : decode cX10_takesCommand 117 = .ok (.aload_n 0, 1) := by decide +kernel
theorem dX10_takesCommand_118 : decode cX10_takesCommand 118 = .ok (.getfield 295, 3) := by decide +kernel
theorem dX10_takesCommand_121 : decode cX10_takesCommand 121 = .ok (.bipush 7, 2) := by decide +kernel
theorem dX10_takesCommand_123 : decode cX10_takesCommand 123 = .ok (.if_icmp .ge 7, 3) := by decide +kernel
theorem dX10_takesCommand_126 : decode cX10_takesCommand 126 = .ok (.iconst 2, 1) := by decide +kernel
theorem dX10_takesCommand_127 : decode cX10_takesCommand 127 = .ok (.goto 4, 3) := by decide +kernel
theorem dX10_takesCommand_130 : decode cX10_takesCommand 130 = .ok (.iconst 1, 1) := by decide +kernel
theorem dX10_takesCommand_131 : decode cX10_takesCommand 131 = .ok (.istore 4, 2) := by decide +kernel
theorem dX10_takesCommand_133 : decode cX10_takesCommand 133 = .ok (.iconst 0, 1) := by decide +kernel
theorem dX10_takesCommand_134 : decode cX10_takesCommand 134 = .ok (.istore 5, 2) := by decide +kernel
theorem dX10_takesCommand_136 : decode cX10_takesCommand 136 = .ok (.iload 5, 2) := by decide +kernel
theorem dX10_takesCommand_138 : decode cX10_takesCommand 138 = .ok (.iload 4, 2) := by decide +kernel
theorem dX10_takesCommand_140 : decode cX10_takesCommand 140 = .ok (.if_icmp .ge 20, 3) := by decide +kernel
theorem dX10_takesCommand_143 : decode cX10_takesCommand 143 = .ok (.aload_n 0, 1) := by decide +kernel
theorem dX10_takesCommand_144 : decode cX10_takesCommand 144 = .ok (.iload 5, 2) := by decide +kernel
theorem dX10_takesCommand_146 : decode cX10_takesCommand 146 = .ok (.invokevirtual 298, 3) := by decide +kernel
theorem dX10_takesCommand_149 : decode cX10_takesCommand 149 = .ok (.ifCond .ne 5, 3) := by decide +kernel
theorem dX10_takesCommand_152 : decode cX10_takesCommand 152 = .ok (.iconst 0, 1) := by decide +kernel
theorem dX10_takesCommand_153 : decode cX10_takesCommand 153 = .ok (.ireturn, 1) := by decide +kernel
theorem dX10_takesCommand_154 : decode cX10_takesCommand 154 = .ok (.iinc 5 1, 3) := by decide +kernel
theorem dX10_takesCommand_157 : decode cX10_takesCommand 157 = .ok (.goto (-21), 3) := by decide +kernel
theorem dX10_takesCommand_160 : decode cX10_takesCommand 160 = .ok (.aload_n 0, 1) := by decide +kernel
theorem dX10_takesCommand_161 : decode cX10_takesCommand 161 = .ok (.invokevirtual 285, 3) := by decide +kernel
theorem dX10_takesCommand_164 : decode cX10_takesCommand 164 = .ok (.aload_n 0, 1) := by decide +kernel
theorem dX10_takesCommand_165 : decode cX10_takesCommand 165 = .ok (.bipush 59, 2) := by decide +kernel
theorem dX10_takesCommand_167 : decode cX10_takesCommand 167 = .ok (.bipush 59, 2) := by decide +kernel
theorem dX10_takesCommand_169 : decode cX10_takesCommand 169 = .ok (.invokevirtual 258, 3) := by decide +kernel
theorem dX10_takesCommand_172 : decode cX10_takesCommand 172 = .ok (.ifCond .ne 5, 3) := by decide +kernel
theorem dX10_takesCommand_175 : decode cX10_takesCommand 175 = .ok (.iconst 0, 1) := by decide +kernel
theorem dX10_takesCommand_176 : decode cX10_takesCommand 176 = .ok (.ireturn, 1) := by decide +kernel
theorem dX10_takesCommand_177 : decode cX10_takesCommand 177 = .ok (.aload_n 0, 1) := by decide +kernel
theorem dX10_takesCommand_178 : decode cX10_takesCommand 178 = .ok (.dup, 1) := by decide +kernel
theorem dX10_takesCommand_179 : decode cX10_takesCommand 179 = .ok (.getfield 255, 3) := by decide +kernel
theorem dX10_takesCommand_182 : decode cX10_takesCommand 182 = .ok (.iconst 1, 1) := by decide +kernel
theorem dX10_takesCommand_183 : decode cX10_takesCommand 183 = .ok (.iadd, 1) := by decide +kernel
theorem dX10_takesCommand_184 : decode cX10_takesCommand 184 = .ok (.putfield 255, 3) := by decide +kernel
theorem dX10_takesCommand_187 : decode cX10_takesCommand 187 = .ok (.aload_n 0, 1) := by decide +kernel
theorem dX10_takesCommand_188 : decode cX10_takesCommand 188 = .ok (.invokevirtual 285, 3) := by decide +kernel
theorem dX10_takesCommand_191 : decode cX10_takesCommand 191 = .ok (.iconst 1, 1) := by decide +kernel
theorem dX10_takesCommand_192 : decode cX10_takesCommand 192 = .ok (.ireturn, 1) := by decide +kernel
theorem dX10_carriesOut_0 : decode cX10_carriesOut 0 = .ok (.aload_n 0, 1) := by decide +kernel
theorem dX10_carriesOut_1 : decode cX10_carriesOut 1 = .ok (.getfield 23, 3) := by decide +kernel
theorem dX10_carriesOut_4 : decode cX10_carriesOut 4 = .ok (.iconst 0, 1) := by decide +kernel
theorem dX10_carriesOut_5 : decode cX10_carriesOut 5 = .ok (.iaload, 1) := by decide +kernel
theorem dX10_carriesOut_6 : decode cX10_carriesOut 6 = .ok (.istore_n 1, 1) := by decide +kernel
theorem dX10_carriesOut_7 : decode cX10_carriesOut 7 = .ok (.aload_n 0, 1) := by decide +kernel
theorem dX10_carriesOut_8 : decode cX10_carriesOut 8 = .ok (.getfield 23, 3) := by decide +kernel
theorem dX10_carriesOut_11 : decode cX10_carriesOut 11 = .ok (.iconst 1, 1) := by decide +kernel
theorem dX10_carriesOut_12 : decode cX10_carriesOut 12 = .ok (.iaload, 1) := by decide +kernel
theorem dX10_carriesOut_13 : decode cX10_carriesOut 13 = .ok (.istore_n 2, 1) := by decide +kernel
theorem dX10_carriesOut_14 : decode cX10_carriesOut 14 = .ok (.aload_n 0, 1) := by decide +kernel
theorem dX10_carriesOut_15 : decode cX10_carriesOut 15 = .ok (.getfield 23, 3) := by decide +kernel
theorem dX10_carriesOut_18 : decode cX10_carriesOut 18 = .ok (.iconst 2, 1) := by decide +kernel
theorem dX10_carriesOut_19 : decode cX10_carriesOut 19 = .ok (.iaload, 1) := by decide +kernel
theorem dX10_carriesOut_20 : decode cX10_carriesOut 20 = .ok (.istore_n 3, 1) := by decide +kernel
theorem dX10_carriesOut_21 : decode cX10_carriesOut 21 = .ok (.aload_n 0, 1) := by decide +kernel
theorem dX10_carriesOut_22 : decode cX10_carriesOut 22 = .ok (.getfield 295, 3) := by decide +kernel
theorem dX10_carriesOut_25 : decode cX10_carriesOut 25 = .ok (.tableswitch 138 0 10 #[59, 67, 75, 82, 89, 96, 103, 110, 118, 124, 131], 59) := by decide +kernel
theorem dX10_carriesOut_84 : decode cX10_carriesOut 84 = .ok (.aload_n 0, 1) := by decide +kernel
theorem dX10_carriesOut_85 : decode cX10_carriesOut 85 = .ok (.iload_n 1, 1) := by decide +kernel
theorem dX10_carriesOut_86 : decode cX10_carriesOut 86 = .ok (.iload_n 2, 1) := by decide +kernel
theorem dX10_carriesOut_87 : decode cX10_carriesOut 87 = .ok (.iload_n 3, 1) := by decide +kernel
theorem dX10_carriesOut_88 : decode cX10_carriesOut 88 = .ok (.invokevirtual 176, 3) := by decide +kernel
theorem dX10_carriesOut_91 : decode cX10_carriesOut 91 = .ok (.ireturn, 1) := by decide +kernel
theorem dX10_carriesOut_92 : decode cX10_carriesOut 92 = .ok (.aload_n 0, 1) := by decide +kernel
theorem dX10_carriesOut_93 : decode cX10_carriesOut 93 = .ok (.iload_n 1, 1) := by decide +kernel
theorem dX10_carriesOut_94 : decode cX10_carriesOut 94 = .ok (.iload_n 2, 1) := by decide +kernel
theorem dX10_carriesOut_95 : decode cX10_carriesOut 95 = .ok (.iload_n 3, 1) := by decide +kernel
theorem dX10_carriesOut_96 : decode cX10_carriesOut 96 = .ok (.invokevirtual 192, 3) := by decide +kernel
theorem dX10_carriesOut_99 : decode cX10_carriesOut 99 = .ok (.ireturn, 1) := by decide +kernel
theorem dX10_carriesOut_100 : decode cX10_carriesOut 100 = .ok (.aload_n 0, 1) := by decide +kernel
theorem dX10_carriesOut_101 : decode cX10_carriesOut 101 = .ok (.iload_n 1, 1) := by decide +kernel
theorem dX10_carriesOut_102 : decode cX10_carriesOut 102 = .ok (.iload_n 2, 1) := by decide +kernel
theorem dX10_carriesOut_103 : decode cX10_carriesOut 103 = .ok (.invokevirtual 183, 3) := by decide +kernel
theorem dX10_carriesOut_106 : decode cX10_carriesOut 106 = .ok (.ireturn, 1) := by decide +kernel
theorem dX10_carriesOut_107 : decode cX10_carriesOut 107 = .ok (.aload_n 0, 1) := by decide +kernel
theorem dX10_carriesOut_108 : decode cX10_carriesOut 108 = .ok (.iload_n 1, 1) := by decide +kernel
theorem dX10_carriesOut_109 : decode cX10_carriesOut 109 = .ok (.iload_n 2, 1) := by decide +kernel
theorem dX10_carriesOut_110 : decode cX10_carriesOut 110 = .ok (.invokevirtual 186, 3) := by decide +kernel
theorem dX10_carriesOut_113 : decode cX10_carriesOut 113 = .ok (.ireturn, 1) := by decide +kernel
theorem dX10_carriesOut_114 : decode cX10_carriesOut 114 = .ok (.aload_n 0, 1) := by decide +kernel
theorem dX10_carriesOut_115 : decode cX10_carriesOut 115 = .ok (.iload_n 1, 1) := by decide +kernel
theorem dX10_carriesOut_116 : decode cX10_carriesOut 116 = .ok (.iload_n 2, 1) := by decide +kernel
theorem dX10_carriesOut_117 : decode cX10_carriesOut 117 = .ok (.invokevirtual 205, 3) := by decide +kernel
theorem dX10_carriesOut_120 : decode cX10_carriesOut 120 = .ok (.ireturn, 1) := by decide +kernel
theorem dX10_carriesOut_121 : decode cX10_carriesOut 121 = .ok (.aload_n 0, 1) := by decide +kernel
theorem dX10_carriesOut_122 : decode cX10_carriesOut 122 = .ok (.iload_n 1, 1) := by decide +kernel
theorem dX10_carriesOut_123 : decode cX10_carriesOut 123 = .ok (.iload_n 2, 1) := by decide +kernel
theorem dX10_carriesOut_124 : decode cX10_carriesOut 124 = .ok (.invokevirtual 208, 3) := by decide +kernel
theorem dX10_carriesOut_127 : decode cX10_carriesOut 127 = .ok (.ireturn, 1) := by decide +kernel
theorem dX10_carriesOut_128 : decode cX10_carriesOut 128 = .ok (.aload_n 0, 1) := by decide +kernel
theorem dX10_carriesOut_129 : decode cX10_carriesOut 129 = .ok (.iload_n 1, 1) := by decide +kernel
theorem dX10_carriesOut_130 : decode cX10_carriesOut 130 = .ok (.iload_n 2, 1) := by decide +kernel
theorem dX10_carriesOut_131 : decode cX10_carriesOut 131 = .ok (.invokevirtual 189, 3) := by decide +kernel
theorem dX10_carriesOut_134 : decode cX10_carriesOut 134 = .ok (.ireturn, 1) := by decide +kernel
theorem dX10_carriesOut_135 : decode cX10_carriesOut 135 = .ok (.aload_n 0, 1) := by decide +kernel
theorem dX10_carriesOut_136 : decode cX10_carriesOut 136 = .ok (.iload_n 1, 1) := by decide +kernel
theorem dX10_carriesOut_137 : decode cX10_carriesOut 137 = .ok (.bipush 99, 2) := by decide +kernel
theorem dX10_carriesOut_139 : decode cX10_carriesOut 139 = .ok (.invokevirtual 195, 3) := by decide +kernel
theorem dX10_carriesOut_142 : decode cX10_carriesOut 142 = .ok (.ireturn, 1) := by decide +kernel
theorem dX10_carriesOut_143 : decode cX10_carriesOut 143 = .ok (.aload_n 0, 1) := by decide +kernel
theorem dX10_carriesOut_144 : decode cX10_carriesOut 144 = .ok (.iload_n 1, 1) := by decide +kernel
theorem dX10_carriesOut_145 : decode cX10_carriesOut 145 = .ok (.invokevirtual 198, 3) := by decide +kernel
theorem dX10_carriesOut_148 : decode cX10_carriesOut 148 = .ok (.ireturn, 1) := by decide +kernel
theorem dX10_carriesOut_149 : decode cX10_carriesOut 149 = .ok (.aload_n 0, 1) := by decide +kernel
theorem dX10_carriesOut_150 : decode cX10_carriesOut 150 = .ok (.iload_n 1, 1) := by decide +kernel
theorem dX10_carriesOut_151 : decode cX10_carriesOut 151 = .ok (.iconst 1, 1) := by decide +kernel
theorem dX10_carriesOut_152 : decode cX10_carriesOut 152 = .ok (.invokevirtual 201, 3) := by decide +kernel
theorem dX10_carriesOut_155 : decode cX10_carriesOut 155 = .ok (.ireturn, 1) := by decide +kernel
theorem dX10_carriesOut_156 : decode cX10_carriesOut 156 = .ok (.aload_n 0, 1) := by decide +kernel
theorem dX10_carriesOut_157 : decode cX10_carriesOut 157 = .ok (.iload_n 1, 1) := by decide +kernel
theorem dX10_carriesOut_158 : decode cX10_carriesOut 158 = .ok (.iconst 0, 1) := by decide +kernel
theorem dX10_carriesOut_159 : decode cX10_carriesOut 159 = .ok (.invokevirtual 201, 3) := by decide +kernel
theorem dX10_carriesOut_162 : decode cX10_carriesOut 162 = .ok (.ireturn, 1) := by decide +kernel
theorem dX10_carriesOut_163 : decode cX10_carriesOut 163 = .ok (.aload_n 0, 1) := by decide +kernel
theorem dX10_carriesOut_164 : decode cX10_carriesOut 164 = .ok (.iload_n 1, 1) := by decide +kernel
theorem dX10_carriesOut_165 : decode cX10_carriesOut 165 = .ok (.invokevirtual 301, 3) := by decide +kernel
theorem dX10_carriesOut_168 : decode cX10_carriesOut 168 = .ok (.ireturn, 1) := by decide +kernel
theorem dX10_does_0 : decode cX10_does 0 = .ok (.iconst 0, 1) := by decide +kernel
theorem dX10_does_1 : decode cX10_does 1 = .ok (.istore_n 1, 1) := by decide +kernel
theorem dX10_does_2 : decode cX10_does 2 = .ok (.iload_n 1, 1) := by decide +kernel
theorem dX10_does_3 : decode cX10_does 3 = .ok (.sipush 427, 3) := by decide +kernel
theorem dX10_does_6 : decode cX10_does 6 = .ok (.if_icmp .ge 21, 3) := by decide +kernel
theorem dX10_does_9 : decode cX10_does 9 = .ok (.aload_n 0, 1) := by decide +kernel
theorem dX10_does_10 : decode cX10_does 10 = .ok (.getfield 26, 3) := by decide +kernel
theorem dX10_does_13 : decode cX10_does 13 = .ok (.iload_n 1, 1) := by decide +kernel
theorem dX10_does_14 : decode cX10_does 14 = .ok (.aload_n 0, 1) := by decide +kernel
theorem dX10_does_15 : decode cX10_does 15 = .ok (.getfield 7, 3) := by decide +kernel
theorem dX10_does_18 : decode cX10_does 18 = .ok (.iload_n 1, 1) := by decide +kernel
theorem dX10_does_19 : decode cX10_does 19 = .ok (.laload, 1) := by decide +kernel
theorem dX10_does_20 : decode cX10_does 20 = .ok (.lastore, 1) := by decide +kernel
theorem dX10_does_21 : decode cX10_does 21 = .ok (.iinc 1 1, 3) := by decide +kernel
theorem dX10_does_24 : decode cX10_does 24 = .ok (.goto (-22), 3) := by decide +kernel
theorem dX10_does_27 : decode cX10_does 27 = .ok (.aload_n 0, 1) := by decide +kernel
theorem dX10_does_28 : decode cX10_does 28 = .ok (.invokevirtual 304, 3) := by decide +kernel
theorem dX10_does_31 : decode cX10_does 31 = .ok (.ifCond .ne 5, 3) := by decide +kernel
theorem dX10_does_34 : decode cX10_does 34 = .ok (.iconst 1, 1) := by decide +kernel
theorem dX10_does_35 : decode cX10_does 35 = .ok (.ireturn, 1) := by decide +kernel
theorem dX10_does_36 : decode cX10_does 36 = .ok (.iconst 0, 1) := by decide +kernel
theorem dX10_does_37 : decode cX10_does 37 = .ok (.istore_n 1, 1) := by decide +kernel
theorem dX10_does_38 : decode cX10_does 38 = .ok (.iload_n 1, 1) := by decide +kernel
theorem dX10_does_39 : decode cX10_does 39 = .ok (.sipush 427, 3) := by decide +kernel
theorem dX10_does_42 : decode cX10_does 42 = .ok (.if_icmp .ge 21, 3) := by decide +kernel
theorem dX10_does_45 : decode cX10_does 45 = .ok (.aload_n 0, 1) := by decide +kernel
theorem dX10_does_46 : decode cX10_does 46 = .ok (.getfield 7, 3) := by decide +kernel
theorem dX10_does_49 : decode cX10_does 49 = .ok (.iload_n 1, 1) := by decide +kernel
theorem dX10_does_50 : decode cX10_does 50 = .ok (.aload_n 0, 1) := by decide +kernel
theorem dX10_does_51 : decode cX10_does 51 = .ok (.getfield 26, 3) := by decide +kernel
theorem dX10_does_54 : decode cX10_does 54 = .ok (.iload_n 1, 1) := by decide +kernel
theorem dX10_does_55 : decode cX10_does 55 = .ok (.laload, 1) := by decide +kernel
theorem dX10_does_56 : decode cX10_does 56 = .ok (.lastore, 1) := by decide +kernel
theorem dX10_does_57 : decode cX10_does 57 = .ok (.iinc 1 1, 3) := by decide +kernel
theorem dX10_does_60 : decode cX10_does 60 = .ok (.goto (-22), 3) := by decide +kernel
theorem dX10_does_63 : decode cX10_does 63 = .ok (.iconst 0, 1) := by decide +kernel
theorem dX10_does_64 : decode cX10_does 64 = .ok (.ireturn, 1) := by decide +kernel
theorem dX10_runCommands_0 : decode cX10_runCommands 0 = .ok (.aload_n 0, 1) := by decide +kernel
theorem dX10_runCommands_1 : decode cX10_runCommands 1 = .ok (.iconst 0, 1) := by decide +kernel
theorem dX10_runCommands_2 : decode cX10_runCommands 2 = .ok (.putfield 255, 3) := by decide +kernel
theorem dX10_runCommands_5 : decode cX10_runCommands 5 = .ok (.aload_n 0, 1) := by decide +kernel
theorem dX10_runCommands_6 : decode cX10_runCommands 6 = .ok (.invokevirtual 285, 3) := by decide +kernel
theorem dX10_runCommands_9 : decode cX10_runCommands 9 = .ok (.aload_n 0, 1) := by decide +kernel
theorem dX10_runCommands_10 : decode cX10_runCommands 10 = .ok (.getfield 255, 3) := by decide +kernel
theorem dX10_runCommands_13 : decode cX10_runCommands 13 = .ok (.aload_n 0, 1) := by decide +kernel
theorem dX10_runCommands_14 : decode cX10_runCommands 14 = .ok (.getfield 238, 3) := by decide +kernel
theorem dX10_runCommands_17 : decode cX10_runCommands 17 = .ok (.if_icmp .ge 23, 3) := by decide +kernel
theorem dX10_runCommands_20 : decode cX10_runCommands 20 = .ok (.aload_n 0, 1) := by decide +kernel
theorem dX10_runCommands_21 : decode cX10_runCommands 21 = .ok (.invokevirtual 307, 3) := by decide +kernel
theorem dX10_runCommands_24 : decode cX10_runCommands 24 = .ok (.ifCond .ne (-15), 3) := by decide +kernel
theorem dX10_runCommands_27 : decode cX10_runCommands 27 = .ok (.aload_n 0, 1) := by decide +kernel
theorem dX10_runCommands_28 : decode cX10_runCommands 28 = .ok (.bipush (-10), 2) := by decide +kernel
theorem dX10_runCommands_30 : decode cX10_runCommands 30 = .ok (.aload_n 0, 1) := by decide +kernel
theorem dX10_runCommands_31 : decode cX10_runCommands 31 = .ok (.getfield 255, 3) := by decide +kernel
theorem dX10_runCommands_34 : decode cX10_runCommands 34 = .ok (.isub, 1) := by decide +kernel
theorem dX10_runCommands_35 : decode cX10_runCommands 35 = .ok (.i2l, 1) := by decide +kernel
theorem dX10_runCommands_36 : decode cX10_runCommands 36 = .ok (.invokevirtual 46, 3) := by decide +kernel
theorem dX10_runCommands_39 : decode cX10_runCommands 39 = .ok (.ireturn, 1) := by decide +kernel
theorem dX10_runCommands_40 : decode cX10_runCommands 40 = .ok (.aload_n 0, 1) := by decide +kernel
theorem dX10_runCommands_41 : decode cX10_runCommands 41 = .ok (.invokevirtual 173, 3) := by decide +kernel
theorem dX10_runCommands_44 : decode cX10_runCommands 44 = .ok (.aload_n 0, 1) := by decide +kernel
theorem dX10_runCommands_45 : decode cX10_runCommands 45 = .ok (.iconst 0, 1) := by decide +kernel
theorem dX10_runCommands_46 : decode cX10_runCommands 46 = .ok (.putfield 255, 3) := by decide +kernel
theorem dX10_runCommands_49 : decode cX10_runCommands 49 = .ok (.aload_n 0, 1) := by decide +kernel
theorem dX10_runCommands_50 : decode cX10_runCommands 50 = .ok (.invokevirtual 285, 3) := by decide +kernel
theorem dX10_runCommands_53 : decode cX10_runCommands 53 = .ok (.iconst 0, 1) := by decide +kernel
theorem dX10_runCommands_54 : decode cX10_runCommands 54 = .ok (.istore_n 1, 1) := by decide +kernel
theorem dX10_runCommands_55 : decode cX10_runCommands 55 = .ok (.iconst 1, 1) := by decide +kernel
theorem dX10_runCommands_56 : decode cX10_runCommands 56 = .ok (.istore_n 2, 1) := by decide +kernel
theorem dX10_runCommands_57 : decode cX10_runCommands 57 = .ok (.iload_n 2, 1) := by decide +kernel
theorem dX10_runCommands_58 : decode cX10_runCommands 58 = .ok (.ifCond .eq 49, 3) := by decide +kernel
theorem dX10_runCommands_61 : decode cX10_runCommands 61 = .ok (.aload_n 0, 1) := by decide +kernel
theorem dX10_runCommands_62 : decode cX10_runCommands 62 = .ok (.getfield 255, 3) := by decide +kernel
theorem dX10_runCommands_65 : decode cX10_runCommands 65 = .ok (.aload_n 0, 1) := by decide +kernel
theorem dX10_runCommands_66 : decode cX10_runCommands 66 = .ok (.getfield 238, 3) := by decide +kernel
theorem dX10_runCommands_69 : decode cX10_runCommands 69 = .ok (.if_icmp .ge 38, 3) := by decide +kernel
theorem dX10_runCommands_72 : decode cX10_runCommands 72 = .ok (.aload_n 0, 1) := by decide +kernel
theorem dX10_runCommands_73 : decode cX10_runCommands 73 = .ok (.invokevirtual 307, 3) := by decide +kernel
theorem dX10_runCommands_76 : decode cX10_runCommands 76 = .ok (.ifCond .eq 14, 3) := by decide +kernel
theorem dX10_runCommands_79 : decode cX10_runCommands 79 = .ok (.aload_n 0, 1) := by decide +kernel
theorem dX10_runCommands_80 : decode cX10_runCommands 80 = .ok (.invokevirtual 311, 3) := by decide +kernel
theorem dX10_runCommands_83 : decode cX10_runCommands 83 = .ok (.ifCond .eq 7, 3) := by decide +kernel
theorem dX10_runCommands_86 : decode cX10_runCommands 86 = .ok (.iconst 1, 1) := by decide +kernel
theorem dX10_runCommands_87 : decode cX10_runCommands 87 = .ok (.goto 4, 3) := by decide +kernel
theorem dX10_runCommands_90 : decode cX10_runCommands 90 = .ok (.iconst 0, 1) := by decide +kernel
theorem dX10_runCommands_91 : decode cX10_runCommands 91 = .ok (.istore_n 2, 1) := by decide +kernel
theorem dX10_runCommands_92 : decode cX10_runCommands 92 = .ok (.iload_n 1, 1) := by decide +kernel
theorem dX10_runCommands_93 : decode cX10_runCommands 93 = .ok (.iload_n 2, 1) := by decide +kernel
theorem dX10_runCommands_94 : decode cX10_runCommands 94 = .ok (.ifCond .eq 7, 3) := by decide +kernel
theorem dX10_runCommands_97 : decode cX10_runCommands 97 = .ok (.iconst 1, 1) := by decide +kernel
theorem dX10_runCommands_98 : decode cX10_runCommands 98 = .ok (.goto 4, 3) := by decide +kernel
theorem dX10_runCommands_101 : decode cX10_runCommands 101 = .ok (.iconst 0, 1) := by decide +kernel
theorem dX10_runCommands_102 : decode cX10_runCommands 102 = .ok (.iadd, 1) := by decide +kernel
theorem dX10_runCommands_103 : decode cX10_runCommands 103 = .ok (.istore_n 1, 1) := by decide +kernel
theorem dX10_runCommands_104 : decode cX10_runCommands 104 = .ok (.goto (-47), 3) := by decide +kernel
theorem dX10_runCommands_107 : decode cX10_runCommands 107 = .ok (.aload_n 0, 1) := by decide +kernel
theorem dX10_runCommands_108 : decode cX10_runCommands 108 = .ok (.iload_n 1, 1) := by decide +kernel
theorem dX10_runCommands_109 : decode cX10_runCommands 109 = .ok (.i2l, 1) := by decide +kernel
theorem dX10_runCommands_110 : decode cX10_runCommands 110 = .ok (.iconst 0, 1) := by decide +kernel
theorem dX10_runCommands_111 : decode cX10_runCommands 111 = .ok (.invokevirtual 179, 3) := by decide +kernel
theorem dX10_runCommands_114 : decode cX10_runCommands 114 = .ok (.ireturn, 1) := by decide +kernel
theorem dX10_undo_0 : decode cX10_undo 0 = .ok (.aload_n 0, 1) := by decide +kernel
theorem dX10_undo_1 : decode cX10_undo 1 = .ok (.getfield 33, 3) := by decide +kernel
theorem dX10_undo_4 : decode cX10_undo 4 = .ok (.ifCond .ne 9, 3) := by decide +kernel
theorem dX10_undo_7 : decode cX10_undo 7 = .ok (.aload_n 0, 1) := by decide +kernel
theorem dX10_undo_8 : decode cX10_undo 8 = .ok (.iconst 1, 1) := by decide +kernel
theorem dX10_undo_9 : decode cX10_undo 9 = .ok (.invokevirtual 39, 3) := by decide +kernel
theorem dX10_undo_12 : decode cX10_undo 12 = .ok (.ireturn, 1) := by decide +kernel
theorem dX10_undo_13 : decode cX10_undo 13 = .ok (.aload_n 0, 1) := by decide +kernel
theorem dX10_undo_14 : decode cX10_undo 14 = .ok (.dup, 1) := by decide +kernel
theorem dX10_undo_15 : decode cX10_undo 15 = .ok (.getfield 33, 3) := by decide +kernel
theorem dX10_undo_18 : decode cX10_undo 18 = .ok (.iconst 1, 1) := by decide +kernel
theorem dX10_undo_19 : decode cX10_undo 19 = .ok (.isub, 1) := by decide +kernel
theorem dX10_undo_20 : decode cX10_undo 20 = .ok (.putfield 33, 3) := by decide +kernel
theorem dX10_undo_23 : decode cX10_undo 23 = .ok (.iconst 0, 1) := by decide +kernel
theorem dX10_undo_24 : decode cX10_undo 24 = .ok (.istore_n 1, 1) := by decide +kernel
theorem dX10_undo_25 : decode cX10_undo 25 = .ok (.iload_n 1, 1) := by decide +kernel
theorem dX10_undo_26 : decode cX10_undo 26 = .ok (.sipush 427, 3) := by decide +kernel
theorem dX10_undo_29 : decode cX10_undo 29 = .ok (.if_icmp .ge 30, 3) := by decide +kernel
theorem dX10_undo_32 : decode cX10_undo 32 = .ok (.aload_n 0, 1) := by decide +kernel
theorem dX10_undo_33 : decode cX10_undo 33 = .ok (.getfield 7, 3) := by decide +kernel
theorem dX10_undo_36 : decode cX10_undo 36 = .ok (.iload_n 1, 1) := by decide +kernel
theorem dX10_undo_37 : decode cX10_undo 37 = .ok (.aload_n 0, 1) := by decide +kernel
theorem dX10_undo_38 : decode cX10_undo 38 = .ok (.getfield 13, 3) := by decide +kernel
theorem dX10_undo_41 : decode cX10_undo 41 = .ok (.sipush 427, 3) := by decide +kernel
theorem dX10_undo_44 : decode cX10_undo 44 = .ok (.aload_n 0, 1) := by decide +kernel
theorem dX10_undo_45 : decode cX10_undo 45 = .ok (.getfield 33, 3) := by decide +kernel
theorem dX10_undo_48 : decode cX10_undo 48 = .ok (.imul, 1) := by decide +kernel
theorem dX10_undo_49 : decode cX10_undo 49 = .ok (.iload_n 1, 1) := by decide +kernel
theorem dX10_undo_50 : decode cX10_undo 50 = .ok (.iadd, 1) := by decide +kernel
theorem dX10_undo_51 : decode cX10_undo 51 = .ok (.laload, 1) := by decide +kernel
theorem dX10_undo_52 : decode cX10_undo 52 = .ok (.lastore, 1) := by decide +kernel
theorem dX10_undo_53 : decode cX10_undo 53 = .ok (.iinc 1 1, 3) := by decide +kernel
theorem dX10_undo_56 : decode cX10_undo 56 = .ok (.goto (-31), 3) := by decide +kernel
theorem dX10_undo_59 : decode cX10_undo 59 = .ok (.aload_n 0, 1) := by decide +kernel
theorem dX10_undo_60 : decode cX10_undo 60 = .ok (.aload_n 0, 1) := by decide +kernel
theorem dX10_undo_61 : decode cX10_undo 61 = .ok (.getfield 33, 3) := by decide +kernel
theorem dX10_undo_64 : decode cX10_undo 64 = .ok (.i2l, 1) := by decide +kernel
theorem dX10_undo_65 : decode cX10_undo 65 = .ok (.invokevirtual 46, 3) := by decide +kernel
theorem dX10_undo_68 : decode cX10_undo 68 = .ok (.ireturn, 1) := by decide +kernel
theorem dX10_mix_0 : decode cX10_mix 0 = .ok (.aload_n 0, 1) := by decide +kernel
theorem dX10_mix_1 : decode cX10_mix 1 = .ok (.ldc2_w 118, 3) := by decide +kernel
theorem dX10_mix_4 : decode cX10_mix 4 = .ok (.aload_n 0, 1) := by decide +kernel
theorem dX10_mix_5 : decode cX10_mix 5 = .ok (.getfield 314, 3) := by decide +kernel
theorem dX10_mix_8 : decode cX10_mix 8 = .ok (.lmul, 1) := by decide +kernel
theorem dX10_mix_9 : decode cX10_mix 9 = .ok (.lload_n 1, 1) := by decide +kernel
theorem dX10_mix_10 : decode cX10_mix 10 = .ok (.ladd, 1) := by decide +kernel
theorem dX10_mix_11 : decode cX10_mix 11 = .ok (.putfield 314, 3) := by decide +kernel
theorem dX10_mix_14 : decode cX10_mix 14 = .ok (.return_, 1) := by decide +kernel
theorem dX10_mixApprentice_0 : decode cX10_mixApprentice 0 = .ok (.iconst 0, 1) := by decide +kernel
theorem dX10_mixApprentice_1 : decode cX10_mixApprentice 1 = .ok (.istore_n 2, 1) := by decide +kernel
theorem dX10_mixApprentice_2 : decode cX10_mixApprentice 2 = .ok (.iload_n 2, 1) := by decide +kernel
theorem dX10_mixApprentice_3 : decode cX10_mixApprentice 3 = .ok (.bipush 12, 2) := by decide +kernel
theorem dX10_mixApprentice_5 : decode cX10_mixApprentice 5 = .ok (.if_icmp .ge 19, 3) := by decide +kernel
theorem dX10_mixApprentice_8 : decode cX10_mixApprentice 8 = .ok (.aload_n 0, 1) := by decide +kernel
theorem dX10_mixApprentice_9 : decode cX10_mixApprentice 9 = .ok (.aload_n 0, 1) := by decide +kernel
theorem dX10_mixApprentice_10 : decode cX10_mixApprentice 10 = .ok (.iload_n 1, 1) := by decide +kernel
theorem dX10_mixApprentice_11 : decode cX10_mixApprentice 11 = .ok (.iload_n 2, 1) := by decide +kernel
theorem dX10_mixApprentice_12 : decode cX10_mixApprentice 12 = .ok (.invokevirtual 229, 3) := by decide +kernel
theorem dX10_mixApprentice_15 : decode cX10_mixApprentice 15 = .ok (.invokevirtual 317, 3) := by decide +kernel
theorem dX10_mixApprentice_18 : decode cX10_mixApprentice 18 = .ok (.iinc 2 1, 3) := by decide +kernel
theorem dX10_mixApprentice_21 : decode cX10_mixApprentice 21 = .ok (.goto (-19), 3) := by decide +kernel
theorem dX10_mixApprentice_24 : decode cX10_mixApprentice 24 = .ok (.iconst 0, 1) := by decide +kernel
theorem dX10_mixApprentice_25 : decode cX10_mixApprentice 25 = .ok (.istore_n 2, 1) := by decide +kernel
theorem dX10_mixApprentice_26 : decode cX10_mixApprentice 26 = .ok (.iload_n 2, 1) := by decide +kernel
theorem dX10_mixApprentice_27 : decode cX10_mixApprentice 27 = .ok (.bipush 15, 2) := by decide +kernel
theorem dX10_mixApprentice_29 : decode cX10_mixApprentice 29 = .ok (.if_icmp .ge 24, 3) := by decide +kernel
theorem dX10_mixApprentice_32 : decode cX10_mixApprentice 32 = .ok (.aload_n 0, 1) := by decide +kernel
theorem dX10_mixApprentice_33 : decode cX10_mixApprentice 33 = .ok (.aload_n 0, 1) := by decide +kernel
theorem dX10_mixApprentice_34 : decode cX10_mixApprentice 34 = .ok (.iload_n 1, 1) := by decide +kernel
theorem dX10_mixApprentice_35 : decode cX10_mixApprentice 35 = .ok (.iload_n 2, 1) := by decide +kernel
theorem dX10_mixApprentice_36 : decode cX10_mixApprentice 36 = .ok (.iconst 5, 1) := by decide +kernel
theorem dX10_mixApprentice_37 : decode cX10_mixApprentice 37 = .ok (.idiv, 1) := by decide +kernel
theorem dX10_mixApprentice_38 : decode cX10_mixApprentice 38 = .ok (.iload_n 2, 1) := by decide +kernel
theorem dX10_mixApprentice_39 : decode cX10_mixApprentice 39 = .ok (.iconst 5, 1) := by decide +kernel
theorem dX10_mixApprentice_40 : decode cX10_mixApprentice 40 = .ok (.irem, 1) := by decide +kernel
theorem dX10_mixApprentice_41 : decode cX10_mixApprentice 41 = .ok (.invokevirtual 232, 3) := by decide +kernel
theorem dX10_mixApprentice_44 : decode cX10_mixApprentice 44 = .ok (.invokevirtual 317, 3) := by decide +kernel
theorem dX10_mixApprentice_47 : decode cX10_mixApprentice 47 = .ok (.iinc 2 1, 3) := by decide +kernel
theorem dX10_mixApprentice_50 : decode cX10_mixApprentice 50 = .ok (.goto (-24), 3) := by decide +kernel
theorem dX10_mixApprentice_53 : decode cX10_mixApprentice 53 = .ok (.iconst 0, 1) := by decide +kernel
theorem dX10_mixApprentice_54 : decode cX10_mixApprentice 54 = .ok (.istore_n 2, 1) := by decide +kernel
theorem dX10_mixApprentice_55 : decode cX10_mixApprentice 55 = .ok (.iload_n 2, 1) := by decide +kernel
theorem dX10_mixApprentice_56 : decode cX10_mixApprentice 56 = .ok (.iconst 4, 1) := by decide +kernel
theorem dX10_mixApprentice_57 : decode cX10_mixApprentice 57 = .ok (.aload_n 0, 1) := by decide +kernel
theorem dX10_mixApprentice_58 : decode cX10_mixApprentice 58 = .ok (.iload_n 1, 1) := by decide +kernel
theorem dX10_mixApprentice_59 : decode cX10_mixApprentice 59 = .ok (.invokevirtual 68, 3) := by decide +kernel
theorem dX10_mixApprentice_62 : decode cX10_mixApprentice 62 = .ok (.imul, 1) := by decide +kernel
theorem dX10_mixApprentice_63 : decode cX10_mixApprentice 63 = .ok (.if_icmp .ge 25, 3) := by decide +kernel
theorem dX10_mixApprentice_66 : decode cX10_mixApprentice 66 = .ok (.aload_n 0, 1) := by decide +kernel
theorem dX10_mixApprentice_67 : decode cX10_mixApprentice 67 = .ok (.aload_n 0, 1) := by decide +kernel
theorem dX10_mixApprentice_68 : decode cX10_mixApprentice 68 = .ok (.iload_n 1, 1) := by decide +kernel
theorem dX10_mixApprentice_69 : decode cX10_mixApprentice 69 = .ok (.iload_n 2, 1) := by decide +kernel
theorem dX10_mixApprentice_70 : decode cX10_mixApprentice 70 = .ok (.iconst 4, 1) := by decide +kernel
theorem dX10_mixApprentice_71 : decode cX10_mixApprentice 71 = .ok (.idiv, 1) := by decide +kernel
theorem dX10_mixApprentice_72 : decode cX10_mixApprentice 72 = .ok (.iload_n 2, 1) := by decide +kernel
theorem dX10_mixApprentice_73 : decode cX10_mixApprentice 73 = .ok (.iconst 4, 1) := by decide +kernel
theorem dX10_mixApprentice_74 : decode cX10_mixApprentice 74 = .ok (.irem, 1) := by decide +kernel
theorem dX10_mixApprentice_75 : decode cX10_mixApprentice 75 = .ok (.invokevirtual 79, 3) := by decide +kernel
theorem dX10_mixApprentice_78 : decode cX10_mixApprentice 78 = .ok (.i2l, 1) := by decide +kernel
theorem dX10_mixApprentice_79 : decode cX10_mixApprentice 79 = .ok (.invokevirtual 317, 3) := by decide +kernel
theorem dX10_mixApprentice_82 : decode cX10_mixApprentice 82 = .ok (.iinc 2 1, 3) := by decide +kernel
theorem dX10_mixApprentice_85 : decode cX10_mixApprentice 85 = .ok (.goto (-30), 3) := by decide +kernel
theorem dX10_mixApprentice_88 : decode cX10_mixApprentice 88 = .ok (.aload_n 0, 1) := by decide +kernel
theorem dX10_mixApprentice_89 : decode cX10_mixApprentice 89 = .ok (.aload_n 0, 1) := by decide +kernel
theorem dX10_mixApprentice_90 : decode cX10_mixApprentice 90 = .ok (.iload_n 1, 1) := by decide +kernel
theorem dX10_mixApprentice_91 : decode cX10_mixApprentice 91 = .ok (.invokevirtual 247, 3) := by decide +kernel
theorem dX10_mixApprentice_94 : decode cX10_mixApprentice 94 = .ok (.i2l, 1) := by decide +kernel
theorem dX10_mixApprentice_95 : decode cX10_mixApprentice 95 = .ok (.invokevirtual 317, 3) := by decide +kernel
theorem dX10_mixApprentice_98 : decode cX10_mixApprentice 98 = .ok (.aload_n 0, 1) := by decide +kernel
theorem dX10_mixApprentice_99 : decode cX10_mixApprentice 99 = .ok (.aload_n 0, 1) := by decide +kernel
theorem dX10_mixApprentice_100 : decode cX10_mixApprentice 100 = .ok (.iload_n 1, 1) := by decide +kernel
theorem dX10_mixApprentice_101 : decode cX10_mixApprentice 101 = .ok (.iconst 0, 1) := by decide +kernel
theorem dX10_mixApprentice_102 : decode cX10_mixApprentice 102 = .ok (.invokevirtual 250, 3) := by decide +kernel
theorem dX10_mixApprentice_105 : decode cX10_mixApprentice 105 = .ok (.i2l, 1) := by decide +kernel
theorem dX10_mixApprentice_106 : decode cX10_mixApprentice 106 = .ok (.invokevirtual 317, 3) := by decide +kernel
theorem dX10_mixApprentice_109 : decode cX10_mixApprentice 109 = .ok (.return_, 1) := by decide +kernel
theorem dX10_digest_0 : decode cX10_digest 0 = .ok (.aload_n 0, 1) := by decide +kernel
theorem dX10_digest_1 : decode cX10_digest 1 = .ok (.iconst 0, 1) := by decide +kernel
theorem dX10_digest_2 : decode cX10_digest 2 = .ok (.putfield 29, 3) := by decide +kernel
theorem dX10_digest_5 : decode cX10_digest 5 = .ok (.aload_n 0, 1) := by decide +kernel
theorem dX10_digest_6 : decode cX10_digest 6 = .ok (.ldc2_w 321, 3) := by decide +kernel
theorem dX10_digest_9 : decode cX10_digest 9 = .ok (.putfield 314, 3) := by decide +kernel
theorem dX10_digest_12 : decode cX10_digest 12 = .ok (.aload_n 0, 1) := by decide +kernel
theorem dX10_digest_13 : decode cX10_digest 13 = .ok (.aload_n 0, 1) := by decide +kernel
theorem dX10_digest_14 : decode cX10_digest 14 = .ok (.getfield 33, 3) := by decide +kernel
theorem dX10_digest_17 : decode cX10_digest 17 = .ok (.i2l, 1) := by decide +kernel
theorem dX10_digest_18 : decode cX10_digest 18 = .ok (.invokevirtual 317, 3) := by decide +kernel
theorem dX10_digest_21 : decode cX10_digest 21 = .ok (.iconst 0, 1) := by decide +kernel
theorem dX10_digest_22 : decode cX10_digest 22 = .ok (.istore_n 1, 1) := by decide +kernel
theorem dX10_digest_23 : decode cX10_digest 23 = .ok (.iload_n 1, 1) := by decide +kernel
theorem dX10_digest_24 : decode cX10_digest 24 = .ok (.bipush 10, 2) := by decide +kernel
theorem dX10_digest_26 : decode cX10_digest 26 = .ok (.if_icmp .ge 18, 3) := by decide +kernel
theorem dX10_digest_29 : decode cX10_digest 29 = .ok (.aload_n 0, 1) := by decide +kernel
theorem dX10_digest_30 : decode cX10_digest 30 = .ok (.aload_n 0, 1) := by decide +kernel
theorem dX10_digest_31 : decode cX10_digest 31 = .ok (.iload_n 1, 1) := by decide +kernel
theorem dX10_digest_32 : decode cX10_digest 32 = .ok (.invokevirtual 243, 3) := by decide +kernel
theorem dX10_digest_35 : decode cX10_digest 35 = .ok (.invokevirtual 317, 3) := by decide +kernel
theorem dX10_digest_38 : decode cX10_digest 38 = .ok (.iinc 1 1, 3) := by decide +kernel
theorem dX10_digest_41 : decode cX10_digest 41 = .ok (.goto (-18), 3) := by decide +kernel
theorem dX10_digest_44 : decode cX10_digest 44 = .ok (.iconst 0, 1) := by decide +kernel
theorem dX10_digest_45 : decode cX10_digest 45 = .ok (.istore_n 1, 1) := by decide +kernel
theorem dX10_digest_46 : decode cX10_digest 46 = .ok (.iload_n 1, 1) := by decide +kernel
theorem dX10_digest_47 : decode cX10_digest 47 = .ok (.i2l, 1) := by decide +kernel
theorem dX10_digest_48 : decode cX10_digest 48 = .ok (.ldc2_w 110, 3) := by decide +kernel
theorem dX10_digest_51 : decode cX10_digest 51 = .ok (.aload_n 0, 1) := by decide +kernel
theorem dX10_digest_52 : decode cX10_digest 52 = .ok (.getfield 7, 3) := by decide +kernel
theorem dX10_digest_55 : decode cX10_digest 55 = .ok (.iconst 1, 1) := by decide +kernel
theorem dX10_digest_56 : decode cX10_digest 56 = .ok (.laload, 1) := by decide +kernel
theorem dX10_digest_57 : decode cX10_digest 57 = .ok (.lmul, 1) := by decide +kernel
theorem dX10_digest_58 : decode cX10_digest 58 = .ok (.lcmp, 1) := by decide +kernel
theorem dX10_digest_59 : decode cX10_digest 59 = .ok (.ifCond .ge 23, 3) := by decide +kernel
theorem dX10_digest_62 : decode cX10_digest 62 = .ok (.aload_n 0, 1) := by decide +kernel
theorem dX10_digest_63 : decode cX10_digest 63 = .ok (.aload_n 0, 1) := by decide +kernel
theorem dX10_digest_64 : decode cX10_digest 64 = .ok (.iload_n 1, 1) := by decide +kernel
theorem dX10_digest_65 : decode cX10_digest 65 = .ok (.iconst 5, 1) := by decide +kernel
theorem dX10_digest_66 : decode cX10_digest 66 = .ok (.idiv, 1) := by decide +kernel
theorem dX10_digest_67 : decode cX10_digest 67 = .ok (.iload_n 1, 1) := by decide +kernel
theorem dX10_digest_68 : decode cX10_digest 68 = .ok (.iconst 5, 1) := by decide +kernel
theorem dX10_digest_69 : decode cX10_digest 69 = .ok (.irem, 1) := by decide +kernel
theorem dX10_digest_70 : decode cX10_digest 70 = .ok (.invokevirtual 211, 3) := by decide +kernel
theorem dX10_digest_73 : decode cX10_digest 73 = .ok (.invokevirtual 317, 3) := by decide +kernel
theorem dX10_digest_76 : decode cX10_digest 76 = .ok (.iinc 1 1, 3) := by decide +kernel
theorem dX10_digest_79 : decode cX10_digest 79 = .ok (.goto (-33), 3) := by decide +kernel
theorem dX10_digest_82 : decode cX10_digest 82 = .ok (.iconst 0, 1) := by decide +kernel
theorem dX10_digest_83 : decode cX10_digest 83 = .ok (.istore_n 1, 1) := by decide +kernel
theorem dX10_digest_84 : decode cX10_digest 84 = .ok (.iload_n 1, 1) := by decide +kernel
theorem dX10_digest_85 : decode cX10_digest 85 = .ok (.i2l, 1) := by decide +kernel
theorem dX10_digest_86 : decode cX10_digest 86 = .ok (.aload_n 0, 1) := by decide +kernel
theorem dX10_digest_87 : decode cX10_digest 87 = .ok (.getfield 7, 3) := by decide +kernel
theorem dX10_digest_90 : decode cX10_digest 90 = .ok (.iconst 2, 1) := by decide +kernel
theorem dX10_digest_91 : decode cX10_digest 91 = .ok (.laload, 1) := by decide +kernel
theorem dX10_digest_92 : decode cX10_digest 92 = .ok (.lcmp, 1) := by decide +kernel
theorem dX10_digest_93 : decode cX10_digest 93 = .ok (.ifCond .ge 14, 3) := by decide +kernel
theorem dX10_digest_96 : decode cX10_digest 96 = .ok (.aload_n 0, 1) := by decide +kernel
theorem dX10_digest_97 : decode cX10_digest 97 = .ok (.iload_n 1, 1) := by decide +kernel
theorem dX10_digest_98 : decode cX10_digest 98 = .ok (.invokevirtual 323, 3) := by decide +kernel
theorem dX10_digest_101 : decode cX10_digest 101 = .ok (.iinc 1 1, 3) := by decide +kernel
theorem dX10_digest_104 : decode cX10_digest 104 = .ok (.goto (-20), 3) := by decide +kernel
theorem dX10_digest_107 : decode cX10_digest 107 = .ok (.aload_n 0, 1) := by decide +kernel
theorem dX10_digest_108 : decode cX10_digest 108 = .ok (.getfield 314, 3) := by decide +kernel
theorem dX10_digest_111 : decode cX10_digest 111 = .ok (.lreturn, 1) := by decide +kernel
theorem dJx29ce0_ordinal_8abf5_0 : decode cJx29ce0_ordinal_8abf5 0 = .ok (.aload_n 0, 1) := by decide +kernel
theorem dJx29ce0_ordinal_8abf5_1 : decode cJx29ce0_ordinal_8abf5 1 = .ok (.getfield 7, 3) := by decide +kernel
theorem dJx29ce0_ordinal_8abf5_4 : decode cJx29ce0_ordinal_8abf5 4 = .ok (.ireturn, 1) := by decide +kernel
theorem dJ9_max_7cf53_0 : decode cJ9_max_7cf53 0 = .ok (.iload_n 0, 1) := by decide +kernel
theorem dJ9_max_7cf53_1 : decode cJ9_max_7cf53 1 = .ok (.iload_n 1, 1) := by decide +kernel
theorem dJ9_max_7cf53_2 : decode cJ9_max_7cf53 2 = .ok (.if_icmp .lt 7, 3) := by decide +kernel
theorem dJ9_max_7cf53_5 : decode cJ9_max_7cf53 5 = .ok (.iload_n 0, 1) := by decide +kernel
theorem dJ9_max_7cf53_6 : decode cJ9_max_7cf53 6 = .ok (.goto 4, 3) := by decide +kernel
theorem dJ9_max_7cf53_9 : decode cJ9_max_7cf53 9 = .ok (.iload_n 1, 1) := by decide +kernel
theorem dJ9_max_7cf53_10 : decode cJ9_max_7cf53 10 = .ok (.ireturn, 1) := by decide +kernel
theorem dJ9_min_7cf53_0 : decode cJ9_min_7cf53 0 = .ok (.iload_n 0, 1) := by decide +kernel
theorem dJ9_min_7cf53_1 : decode cJ9_min_7cf53 1 = .ok (.iload_n 1, 1) := by decide +kernel
theorem dJ9_min_7cf53_2 : decode cJ9_min_7cf53 2 = .ok (.if_icmp .gt 7, 3) := by decide +kernel
theorem dJ9_min_7cf53_5 : decode cJ9_min_7cf53 5 = .ok (.iload_n 0, 1) := by decide +kernel
theorem dJ9_min_7cf53_6 : decode cJ9_min_7cf53 6 = .ok (.goto 4, 3) := by decide +kernel
theorem dJ9_min_7cf53_9 : decode cJ9_min_7cf53 9 = .ok (.iload_n 1, 1) := by decide +kernel
theorem dJ9_min_7cf53_10 : decode cJ9_min_7cf53 10 = .ok (.ireturn, 1) := by decide +kernel
theorem dJ0_length_8abf5_0 : decode cJ0_length_8abf5 0 = .ok (.aload_n 0, 1) := by decide +kernel
theorem dJ0_length_8abf5_1 : decode cJ0_length_8abf5 1 = .ok (.getfield 9, 3) := by decide +kernel
theorem dJ0_length_8abf5_4 : decode cJ0_length_8abf5 4 = .ok (.arraylength, 1) := by decide +kernel
theorem dJ0_length_8abf5_5 : decode cJ0_length_8abf5 5 = .ok (.aload_n 0, 1) := by decide +kernel
theorem dJ0_length_8abf5_6 : decode cJ0_length_8abf5 6 = .ok (.invokevirtual 335, 3) := by decide +kernel
theorem dJ0_length_8abf5_9 : decode cJ0_length_8abf5 9 = .ok (.ishr, 1) := by decide +kernel
theorem dJ0_length_8abf5_10 : decode cJ0_length_8abf5 10 = .ok (.ireturn, 1) := by decide +kernel
theorem dJ0_charAt_5068e_0 : decode cJ0_charAt_5068e 0 = .ok (.aload_n 0, 1) := by decide +kernel
theorem dJ0_charAt_5068e_1 : decode cJ0_charAt_5068e 1 = .ok (.invokevirtual 492, 3) := by decide +kernel
theorem dJ0_charAt_5068e_4 : decode cJ0_charAt_5068e 4 = .ok (.ifCond .eq 12, 3) := by decide +kernel
theorem dJ0_charAt_5068e_7 : decode cJ0_charAt_5068e 7 = .ok (.aload_n 0, 1) := by decide +kernel
theorem dJ0_charAt_5068e_8 : decode cJ0_charAt_5068e 8 = .ok (.getfield 9, 3) := by decide +kernel
theorem dJ0_charAt_5068e_11 : decode cJ0_charAt_5068e 11 = .ok (.iload_n 1, 1) := by decide +kernel
theorem dJ0_charAt_5068e_12 : decode cJ0_charAt_5068e 12 = .ok (.invokestatic 495, 3) := by decide +kernel
theorem dJ0_charAt_5068e_15 : decode cJ0_charAt_5068e 15 = .ok (.ireturn, 1) := by decide +kernel
theorem dJ0_charAt_5068e_16 : decode cJ0_charAt_5068e 16 = .ok (.aload_n 0, 1) := by decide +kernel
theorem dJ0_charAt_5068e_17 : decode cJ0_charAt_5068e 17 = .ok (.getfield 9, 3) := by decide +kernel
theorem dJ0_charAt_5068e_20 : decode cJ0_charAt_5068e 20 = .ok (.iload_n 1, 1) := by decide +kernel
theorem dJ0_charAt_5068e_21 : decode cJ0_charAt_5068e 21 = .ok (.invokestatic 498, 3) := by decide +kernel
theorem dJ0_charAt_5068e_24 : decode cJ0_charAt_5068e 24 = .ok (.ireturn, 1) := by decide +kernel
theorem dJ0_coder_7d493_0 : decode cJ0_coder_7d493 0 = .ok (.getstatic 38, 3) := by decide +kernel
theorem dJ0_coder_7d493_3 : decode cJ0_coder_7d493 3 = .ok (.ifCond .eq 10, 3) := by decide +kernel
theorem dJ0_coder_7d493_6 : decode cJ0_coder_7d493 6 = .ok (.aload_n 0, 1) := by decide +kernel
theorem dJ0_coder_7d493_7 : decode cJ0_coder_7d493 7 = .ok (.getfield 15, 3) := by decide +kernel
theorem dJ0_coder_7d493_10 : decode cJ0_coder_7d493 10 = .ok (.goto 4, 3) := by decide +kernel
theorem dJ0_coder_7d493_13 : decode cJ0_coder_7d493 13 = .ok (.iconst 1, 1) := by decide +kernel
theorem dJ0_coder_7d493_14 : decode cJ0_coder_7d493 14 = .ok (.ireturn, 1) := by decide +kernel
theorem dJ0_isLatin1_aae02_0 : decode cJ0_isLatin1_aae02 0 = .ok (.getstatic 38, 3) := by decide +kernel
theorem dJ0_isLatin1_aae02_3 : decode cJ0_isLatin1_aae02 3 = .ok (.ifCond .eq 14, 3) := by decide +kernel
theorem dJ0_isLatin1_aae02_6 : decode cJ0_isLatin1_aae02 6 = .ok (.aload_n 0, 1) := by decide +kernel
theorem dJ0_isLatin1_aae02_7 : decode cJ0_isLatin1_aae02 7 = .ok (.getfield 15, 3) := by decide +kernel
theorem dJ0_isLatin1_aae02_10 : decode cJ0_isLatin1_aae02 10 = .ok (.ifCond .ne 7, 3) := by decide +kernel
theorem dJ0_isLatin1_aae02_13 : decode cJ0_isLatin1_aae02 13 = .ok (.iconst 1, 1) := by decide +kernel
theorem dJ0_isLatin1_aae02_14 : decode cJ0_isLatin1_aae02 14 = .ok (.goto 4, 3) := by decide +kernel
theorem dJ0_isLatin1_aae02_17 : decode cJ0_isLatin1_aae02 17 = .ok (.iconst 0, 1) := by decide +kernel
theorem dJ0_isLatin1_aae02_18 : decode cJ0_isLatin1_aae02 18 = .ok (.ireturn, 1) := by decide +kernel
theorem dJ0_checkIndex_df160_0 : decode cJ0_checkIndex_df160 0 = .ok (.iload_n 0, 1) := by decide +kernel
theorem dJ0_checkIndex_df160_1 : decode cJ0_checkIndex_df160 1 = .ok (.iload_n 1, 1) := by decide +kernel
theorem dJ0_checkIndex_df160_2 : decode cJ0_checkIndex_df160 2 = .ok (.getstatic 1053, 3) := by decide +kernel
theorem dJ0_checkIndex_df160_5 : decode cJ0_checkIndex_df160 5 = .ok (.invokestatic 1059, 3) := by decide +kernel
theorem dJ0_checkIndex_df160_8 : decode cJ0_checkIndex_df160 8 = .ok (.pop, 1) := by decide +kernel
theorem dJ0_checkIndex_df160_9 : decode cJ0_checkIndex_df160 9 = .ok (.return_, 1) := by decide +kernel
theorem dJ1_charAt_3b067_0 : decode cJ1_charAt_3b067 0 = .ok (.iload_n 1, 1) := by decide +kernel
theorem dJ1_charAt_3b067_1 : decode cJ1_charAt_3b067 1 = .ok (.aload_n 0, 1) := by decide +kernel
theorem dJ1_charAt_3b067_2 : decode cJ1_charAt_3b067 2 = .ok (.arraylength, 1) := by decide +kernel
theorem dJ1_charAt_3b067_3 : decode cJ1_charAt_3b067 3 = .ok (.invokestatic 9, 3) := by decide +kernel
theorem dJ1_charAt_3b067_6 : decode cJ1_charAt_3b067 6 = .ok (.aload_n 0, 1) := by decide +kernel
theorem dJ1_charAt_3b067_7 : decode cJ1_charAt_3b067 7 = .ok (.iload_n 1, 1) := by decide +kernel
theorem dJ1_charAt_3b067_8 : decode cJ1_charAt_3b067 8 = .ok (.baload, 1) := by decide +kernel
theorem dJ1_charAt_3b067_9 : decode cJ1_charAt_3b067 9 = .ok (.sipush 255, 3) := by decide +kernel
theorem dJ1_charAt_3b067_12 : decode cJ1_charAt_3b067 12 = .ok (.iand, 1) := by decide +kernel
theorem dJ1_charAt_3b067_13 : decode cJ1_charAt_3b067 13 = .ok (.i2c, 1) := by decide +kernel
theorem dJ1_charAt_3b067_14 : decode cJ1_charAt_3b067 14 = .ok (.ireturn, 1) := by decide +kernel
theorem dJ2_getChar_3b067_0 : decode cJ2_getChar_3b067 0 = .ok (.getstatic 44, 3) := by decide +kernel
theorem dJ2_getChar_3b067_3 : decode cJ2_getChar_3b067 3 = .ok (.ifCond .ne 25, 3) := by decide +kernel
theorem dJ2_getChar_3b067_6 : decode cJ2_getChar_3b067 6 = .ok (.iload_n 1, 1) := by decide +kernel
theorem dJ2_getChar_3b067_7 : decode cJ2_getChar_3b067 7 = .ok (.ifCond .lt 11, 3) := by decide +kernel
theorem dJ2_getChar_3b067_10 : decode cJ2_getChar_3b067 10 = .ok (.iload_n 1, 1) := by decide +kernel
theorem dJ2_getChar_3b067_11 : decode cJ2_getChar_3b067 11 = .ok (.aload_n 0, 1) := by decide +kernel
theorem dJ2_getChar_3b067_12 : decode cJ2_getChar_3b067 12 = .ok (.invokestatic 48, 3) := by decide +kernel
theorem dJ2_getChar_3b067_15 : decode cJ2_getChar_3b067 15 = .ok (.if_icmp .lt 13, 3) := by decide +kernel
theorem dJ2_getChar_3b067_18 : decode cJ2_getChar_3b067 18 = .ok (.new 52, 3) := by decide +kernel
theorem dJ2_getChar_3b067_21 : decode cJ2_getChar_3b067 21 = .ok (.dup, 1) := by decide +kernel
theorem dJ2_getChar_3b067_22 : decode cJ2_getChar_3b067 22 = .ok (.ldc 54, 2) := by decide +kernel
theorem dJ2_getChar_3b067_24 : decode cJ2_getChar_3b067 24 = .ok (.invokespecial 56, 3) := by decide +kernel
theorem dJ2_getChar_3b067_27 : decode cJ2_getChar_3b067 27 = .ok (.athrow, 1) := by decide +kernel
theorem dJ2_getChar_3b067_28 : decode cJ2_getChar_3b067 28 = .ok (.iload_n 1, 1) := by decide +kernel
theorem dJ2_getChar_3b067_29 : decode cJ2_getChar_3b067 29 = .ok (.iconst 1, 1) := by decide +kernel
theorem dJ2_getChar_3b067_30 : decode cJ2_getChar_3b067 30 = .ok (.ishl, 1) := by decide +kernel
theorem dJ2_getChar_3b067_31 : decode cJ2_getChar_3b067 31 = .ok (.istore_n 1, 1) := by decide +kernel
theorem dJ2_getChar_3b067_32 : decode cJ2_getChar_3b067 32 = .ok (.aload_n 0, 1) := by decide +kernel
theorem dJ2_getChar_3b067_33 : decode cJ2_getChar_3b067 33 = .ok (.iload_n 1, 1) := by decide +kernel
theorem dJ2_getChar_3b067_34 : decode cJ2_getChar_3b067 34 = .ok (.iinc 1 1, 3) := by decide +kernel
theorem dJ2_getChar_3b067_37 : decode cJ2_getChar_3b067 37 = .ok (.baload, 1) := by decide +kernel
theorem dJ2_getChar_3b067_38 : decode cJ2_getChar_3b067 38 = .ok (.sipush 255, 3) := by decide +kernel
theorem dJ2_getChar_3b067_41 : decode cJ2_getChar_3b067 41 = .ok (.iand, 1) := by decide +kernel
theorem dJ2_getChar_3b067_42 : decode cJ2_getChar_3b067 42 = .ok (.getstatic 59, 3) := by decide +kernel
theorem dJ2_getChar_3b067_45 : decode cJ2_getChar_3b067 45 = .ok (.ishl, 1) := by decide +kernel
theorem dJ2_getChar_3b067_46 : decode cJ2_getChar_3b067 46 = .ok (.aload_n 0, 1) := by decide +kernel
theorem dJ2_getChar_3b067_47 : decode cJ2_getChar_3b067 47 = .ok (.iload_n 1, 1) := by decide +kernel
theorem dJ2_getChar_3b067_48 : decode cJ2_getChar_3b067 48 = .ok (.baload, 1) := by decide +kernel
theorem dJ2_getChar_3b067_49 : decode cJ2_getChar_3b067 49 = .ok (.sipush 255, 3) := by decide +kernel
theorem dJ2_getChar_3b067_52 : decode cJ2_getChar_3b067 52 = .ok (.iand, 1) := by decide +kernel
theorem dJ2_getChar_3b067_53 : decode cJ2_getChar_3b067 53 = .ok (.getstatic 63, 3) := by decide +kernel
theorem dJ2_getChar_3b067_56 : decode cJ2_getChar_3b067 56 = .ok (.ishl, 1) := by decide +kernel
theorem dJ2_getChar_3b067_57 : decode cJ2_getChar_3b067 57 = .ok (.ior, 1) := by decide +kernel
theorem dJ2_getChar_3b067_58 : decode cJ2_getChar_3b067 58 = .ok (.i2c, 1) := by decide +kernel
theorem dJ2_getChar_3b067_59 : decode cJ2_getChar_3b067 59 = .ok (.ireturn, 1) := by decide +kernel
theorem dJ2_length_9d52b_0 : decode cJ2_length_9d52b 0 = .ok (.aload_n 0, 1) := by decide +kernel
theorem dJ2_length_9d52b_1 : decode cJ2_length_9d52b 1 = .ok (.arraylength, 1) := by decide +kernel
theorem dJ2_length_9d52b_2 : decode cJ2_length_9d52b 2 = .ok (.iconst 1, 1) := by decide +kernel
theorem dJ2_length_9d52b_3 : decode cJ2_length_9d52b 3 = .ok (.ishr, 1) := by decide +kernel
theorem dJ2_length_9d52b_4 : decode cJ2_length_9d52b 4 = .ok (.ireturn, 1) := by decide +kernel
theorem dJ2_charAt_3b067_0 : decode cJ2_charAt_3b067 0 = .ok (.iload_n 1, 1) := by decide +kernel
theorem dJ2_charAt_3b067_1 : decode cJ2_charAt_3b067 1 = .ok (.aload_n 0, 1) := by decide +kernel
theorem dJ2_charAt_3b067_2 : decode cJ2_charAt_3b067 2 = .ok (.invokestatic 67, 3) := by decide +kernel
theorem dJ2_charAt_3b067_5 : decode cJ2_charAt_3b067 5 = .ok (.aload_n 0, 1) := by decide +kernel
theorem dJ2_charAt_3b067_6 : decode cJ2_charAt_3b067 6 = .ok (.iload_n 1, 1) := by decide +kernel
theorem dJ2_charAt_3b067_7 : decode cJ2_charAt_3b067 7 = .ok (.invokestatic 71, 3) := by decide +kernel
theorem dJ2_charAt_3b067_10 : decode cJ2_charAt_3b067 10 = .ok (.ireturn, 1) := by decide +kernel
theorem dJ2_checkIndex_2214a_0 : decode cJ2_checkIndex_2214a 0 = .ok (.iload_n 0, 1) := by decide +kernel
theorem dJ2_checkIndex_2214a_1 : decode cJ2_checkIndex_2214a 1 = .ok (.aload_n 1, 1) := by decide +kernel
theorem dJ2_checkIndex_2214a_2 : decode cJ2_checkIndex_2214a 2 = .ok (.invokestatic 48, 3) := by decide +kernel
theorem dJ2_checkIndex_2214a_5 : decode cJ2_checkIndex_2214a 5 = .ok (.invokestatic 414, 3) := by decide +kernel
theorem dJ2_checkIndex_2214a_8 : decode cJ2_checkIndex_2214a 8 = .ok (.return_, 1) := by decide +kernel
theorem dJ3_checkIndex_8e157_0 : decode cJ3_checkIndex_8e157 0 = .ok (.iload_n 0, 1) := by decide +kernel
theorem dJ3_checkIndex_8e157_1 : decode cJ3_checkIndex_8e157 1 = .ok (.ifCond .lt 8, 3) := by decide +kernel
theorem dJ3_checkIndex_8e157_4 : decode cJ3_checkIndex_8e157 4 = .ok (.iload_n 0, 1) := by decide +kernel
theorem dJ3_checkIndex_8e157_5 : decode cJ3_checkIndex_8e157 5 = .ok (.iload_n 1, 1) := by decide +kernel
theorem dJ3_checkIndex_8e157_6 : decode cJ3_checkIndex_8e157 6 = .ok (.if_icmp .lt 10, 3) := by decide +kernel
theorem dJ3_checkIndex_8e157_9 : decode cJ3_checkIndex_8e157 9 = .ok (.aload_n 2, 1) := by decide +kernel
theorem dJ3_checkIndex_8e157_10 : decode cJ3_checkIndex_8e157 10 = .ok (.iload_n 0, 1) := by decide +kernel
theorem dJ3_checkIndex_8e157_11 : decode cJ3_checkIndex_8e157 11 = .ok (.iload_n 1, 1) := by decide +kernel
theorem dJ3_checkIndex_8e157_12 : decode cJ3_checkIndex_8e157 12 = .ok (.invokestatic 95, 3) := by decide +kernel
theorem dJ3_checkIndex_8e157_15 : decode cJ3_checkIndex_8e157 15 = .ok (.athrow, 1) := by decide +kernel
theorem dJ3_checkIndex_8e157_16 : decode cJ3_checkIndex_8e157 16 = .ok (.iload_n 0, 1) := by decide +kernel
theorem dJ3_checkIndex_8e157_17 : decode cJ3_checkIndex_8e157 17 = .ok (.ireturn, 1) := by decide +kernel
theorem dL_addTrade_0 : decode cL_addTrade 0 = .ok (.aload 4, 2) := by decide +kernel
theorem dL_addTrade_2 : decode cL_addTrade 2 = .ok (.iconst 0, 1) := by decide +kernel
theorem dL_addTrade_3 : decode cL_addTrade 3 = .ok (.aload_n 0, 1) := by decide +kernel
theorem dL_addTrade_4 : decode cL_addTrade 4 = .ok (.iload_n 1, 1) := by decide +kernel
theorem dL_addTrade_5 : decode cL_addTrade 5 = .ok (.iload_n 2, 1) := by decide +kernel
theorem dL_addTrade_6 : decode cL_addTrade 6 = .ok (.iload_n 3, 1) := by decide +kernel
theorem dL_addTrade_7 : decode cL_addTrade 7 = .ok (.invokevirtual 7, 3) := by decide +kernel
theorem dL_addTrade_10 : decode cL_addTrade 10 = .ok (.i2l, 1) := by decide +kernel
theorem dL_addTrade_11 : decode cL_addTrade 11 = .ok (.lastore, 1) := by decide +kernel
theorem dL_addTrade_12 : decode cL_addTrade 12 = .ok (.goto 11, 3) := by decide +kernel
theorem dL_addTrade_15 : decode cL_addTrade 15 = .ok (.astore 5, 2) := by decide +kernel
theorem dL_addTrade_17 : decode cL_addTrade 17 = .ok (.iconst 1, 1) := by decide +kernel
theorem dL_addTrade_18 : decode cL_addTrade 18 = .ok (.ireturn, 1) := by decide +kernel
theorem dL_addTrade_19 : decode cL_addTrade 19 = .ok (.astore 5, 2) := by decide +kernel
theorem dL_addTrade_21 : decode cL_addTrade 21 = .ok (.iconst 2, 1) := by decide +kernel
theorem dL_addTrade_22 : decode cL_addTrade 22 = .ok (.ireturn, 1) := by decide +kernel
theorem dL_addTrade_23 : decode cL_addTrade 23 = .ok (.iconst 0, 1) := by decide +kernel
theorem dL_addTrade_24 : decode cL_addTrade 24 = .ok (.ireturn, 1) := by decide +kernel
theorem dL_addMentor_0 : decode cL_addMentor 0 = .ok (.aload_n 3, 1) := by decide +kernel
theorem dL_addMentor_1 : decode cL_addMentor 1 = .ok (.iconst 0, 1) := by decide +kernel
theorem dL_addMentor_2 : decode cL_addMentor 2 = .ok (.aload_n 0, 1) := by decide +kernel
theorem dL_addMentor_3 : decode cL_addMentor 3 = .ok (.iload_n 1, 1) := by decide +kernel
theorem dL_addMentor_4 : decode cL_addMentor 4 = .ok (.iload_n 2, 1) := by decide +kernel
theorem dL_addMentor_5 : decode cL_addMentor 5 = .ok (.invokevirtual 17, 3) := by decide +kernel
theorem dL_addMentor_8 : decode cL_addMentor 8 = .ok (.i2l, 1) := by decide +kernel
theorem dL_addMentor_9 : decode cL_addMentor 9 = .ok (.lastore, 1) := by decide +kernel
theorem dL_addMentor_10 : decode cL_addMentor 10 = .ok (.goto 11, 3) := by decide +kernel
theorem dL_addMentor_13 : decode cL_addMentor 13 = .ok (.astore 4, 2) := by decide +kernel
theorem dL_addMentor_15 : decode cL_addMentor 15 = .ok (.iconst 1, 1) := by decide +kernel
theorem dL_addMentor_16 : decode cL_addMentor 16 = .ok (.ireturn, 1) := by decide +kernel
theorem dL_addMentor_17 : decode cL_addMentor 17 = .ok (.astore 4, 2) := by decide +kernel
theorem dL_addMentor_19 : decode cL_addMentor 19 = .ok (.iconst 2, 1) := by decide +kernel
theorem dL_addMentor_20 : decode cL_addMentor 20 = .ok (.ireturn, 1) := by decide +kernel
theorem dL_addMentor_21 : decode cL_addMentor 21 = .ok (.iconst 0, 1) := by decide +kernel
theorem dL_addMentor_22 : decode cL_addMentor 22 = .ok (.ireturn, 1) := by decide +kernel
theorem dL_addApprentice_0 : decode cL_addApprentice 0 = .ok (.aload_n 3, 1) := by decide +kernel
theorem dL_addApprentice_1 : decode cL_addApprentice 1 = .ok (.iconst 0, 1) := by decide +kernel
theorem dL_addApprentice_2 : decode cL_addApprentice 2 = .ok (.aload_n 0, 1) := by decide +kernel
theorem dL_addApprentice_3 : decode cL_addApprentice 3 = .ok (.iload_n 1, 1) := by decide +kernel
theorem dL_addApprentice_4 : decode cL_addApprentice 4 = .ok (.iload_n 2, 1) := by decide +kernel
theorem dL_addApprentice_5 : decode cL_addApprentice 5 = .ok (.invokevirtual 21, 3) := by decide +kernel
theorem dL_addApprentice_8 : decode cL_addApprentice 8 = .ok (.i2l, 1) := by decide +kernel
theorem dL_addApprentice_9 : decode cL_addApprentice 9 = .ok (.lastore, 1) := by decide +kernel
theorem dL_addApprentice_10 : decode cL_addApprentice 10 = .ok (.goto 11, 3) := by decide +kernel
theorem dL_addApprentice_13 : decode cL_addApprentice 13 = .ok (.astore 4, 2) := by decide +kernel
theorem dL_addApprentice_15 : decode cL_addApprentice 15 = .ok (.iconst 1, 1) := by decide +kernel
theorem dL_addApprentice_16 : decode cL_addApprentice 16 = .ok (.ireturn, 1) := by decide +kernel
theorem dL_addApprentice_17 : decode cL_addApprentice 17 = .ok (.astore 4, 2) := by decide +kernel
theorem dL_addApprentice_19 : decode cL_addApprentice 19 = .ok (.iconst 2, 1) := by decide +kernel
theorem dL_addApprentice_20 : decode cL_addApprentice 20 = .ok (.ireturn, 1) := by decide +kernel
theorem dL_addApprentice_21 : decode cL_addApprentice 21 = .ok (.iconst 0, 1) := by decide +kernel
theorem dL_addApprentice_22 : decode cL_addApprentice 22 = .ok (.ireturn, 1) := by decide +kernel
theorem dL_release_0 : decode cL_release 0 = .ok (.aload_n 3, 1) := by decide +kernel
theorem dL_release_1 : decode cL_release 1 = .ok (.iconst 0, 1) := by decide +kernel
theorem dL_release_2 : decode cL_release 2 = .ok (.aload_n 0, 1) := by decide +kernel
theorem dL_release_3 : decode cL_release 3 = .ok (.iload_n 1, 1) := by decide +kernel
theorem dL_release_4 : decode cL_release 4 = .ok (.iload_n 2, 1) := by decide +kernel
theorem dL_release_5 : decode cL_release 5 = .ok (.invokevirtual 26, 3) := by decide +kernel
theorem dL_release_8 : decode cL_release 8 = .ok (.i2l, 1) := by decide +kernel
theorem dL_release_9 : decode cL_release 9 = .ok (.lastore, 1) := by decide +kernel
theorem dL_release_10 : decode cL_release 10 = .ok (.goto 15, 3) := by decide +kernel
theorem dL_release_13 : decode cL_release 13 = .ok (.astore 4, 2) := by decide +kernel
theorem dL_release_15 : decode cL_release 15 = .ok (.iconst 1, 1) := by decide +kernel
theorem dL_release_16 : decode cL_release 16 = .ok (.ireturn, 1) := by decide +kernel
theorem dL_release_17 : decode cL_release 17 = .ok (.astore 4, 2) := by decide +kernel
theorem dL_release_19 : decode cL_release 19 = .ok (.iconst 2, 1) := by decide +kernel
theorem dL_release_20 : decode cL_release 20 = .ok (.ireturn, 1) := by decide +kernel
theorem dL_release_21 : decode cL_release 21 = .ok (.astore 4, 2) := by decide +kernel
theorem dL_release_23 : decode cL_release 23 = .ok (.iconst 3, 1) := by decide +kernel
theorem dL_release_24 : decode cL_release 24 = .ok (.ireturn, 1) := by decide +kernel
theorem dL_release_25 : decode cL_release 25 = .ok (.iconst 0, 1) := by decide +kernel
theorem dL_release_26 : decode cL_release 26 = .ok (.ireturn, 1) := by decide +kernel
theorem dL_log_0 : decode cL_log 0 = .ok (.aload 4, 2) := by decide +kernel
theorem dL_log_2 : decode cL_log 2 = .ok (.iconst 0, 1) := by decide +kernel
theorem dL_log_3 : decode cL_log 3 = .ok (.aload_n 0, 1) := by decide +kernel
theorem dL_log_4 : decode cL_log 4 = .ok (.iload_n 1, 1) := by decide +kernel
theorem dL_log_5 : decode cL_log 5 = .ok (.iload_n 2, 1) := by decide +kernel
theorem dL_log_6 : decode cL_log 6 = .ok (.iload_n 3, 1) := by decide +kernel
theorem dL_log_7 : decode cL_log 7 = .ok (.invokevirtual 29, 3) := by decide +kernel
theorem dL_log_10 : decode cL_log 10 = .ok (.i2l, 1) := by decide +kernel
theorem dL_log_11 : decode cL_log 11 = .ok (.lastore, 1) := by decide +kernel
theorem dL_log_12 : decode cL_log 12 = .ok (.goto 15, 3) := by decide +kernel
theorem dL_log_15 : decode cL_log 15 = .ok (.astore 5, 2) := by decide +kernel
theorem dL_log_17 : decode cL_log 17 = .ok (.iconst 1, 1) := by decide +kernel
theorem dL_log_18 : decode cL_log 18 = .ok (.ireturn, 1) := by decide +kernel
theorem dL_log_19 : decode cL_log 19 = .ok (.astore 5, 2) := by decide +kernel
theorem dL_log_21 : decode cL_log 21 = .ok (.iconst 2, 1) := by decide +kernel
theorem dL_log_22 : decode cL_log 22 = .ok (.ireturn, 1) := by decide +kernel
theorem dL_log_23 : decode cL_log 23 = .ok (.astore 5, 2) := by decide +kernel
theorem dL_log_25 : decode cL_log 25 = .ok (.iconst 3, 1) := by decide +kernel
theorem dL_log_26 : decode cL_log 26 = .ok (.ireturn, 1) := by decide +kernel
theorem dL_log_27 : decode cL_log 27 = .ok (.iconst 0, 1) := by decide +kernel
theorem dL_log_28 : decode cL_log 28 = .ok (.ireturn, 1) := by decide +kernel
theorem dL_confirm_0 : decode cL_confirm 0 = .ok (.aload_n 3, 1) := by decide +kernel
theorem dL_confirm_1 : decode cL_confirm 1 = .ok (.iconst 0, 1) := by decide +kernel
theorem dL_confirm_2 : decode cL_confirm 2 = .ok (.aload_n 0, 1) := by decide +kernel
theorem dL_confirm_3 : decode cL_confirm 3 = .ok (.iload_n 1, 1) := by decide +kernel
theorem dL_confirm_4 : decode cL_confirm 4 = .ok (.iload_n 2, 1) := by decide +kernel
theorem dL_confirm_5 : decode cL_confirm 5 = .ok (.invokevirtual 32, 3) := by decide +kernel
theorem dL_confirm_8 : decode cL_confirm 8 = .ok (.i2l, 1) := by decide +kernel
theorem dL_confirm_9 : decode cL_confirm 9 = .ok (.lastore, 1) := by decide +kernel
theorem dL_confirm_10 : decode cL_confirm 10 = .ok (.goto 15, 3) := by decide +kernel
theorem dL_confirm_13 : decode cL_confirm 13 = .ok (.astore 4, 2) := by decide +kernel
theorem dL_confirm_15 : decode cL_confirm 15 = .ok (.iconst 1, 1) := by decide +kernel
theorem dL_confirm_16 : decode cL_confirm 16 = .ok (.ireturn, 1) := by decide +kernel
theorem dL_confirm_17 : decode cL_confirm 17 = .ok (.astore 4, 2) := by decide +kernel
theorem dL_confirm_19 : decode cL_confirm 19 = .ok (.iconst 2, 1) := by decide +kernel
theorem dL_confirm_20 : decode cL_confirm 20 = .ok (.ireturn, 1) := by decide +kernel
theorem dL_confirm_21 : decode cL_confirm 21 = .ok (.astore 4, 2) := by decide +kernel
theorem dL_confirm_23 : decode cL_confirm 23 = .ok (.iconst 3, 1) := by decide +kernel
theorem dL_confirm_24 : decode cL_confirm 24 = .ok (.ireturn, 1) := by decide +kernel
theorem dL_confirm_25 : decode cL_confirm 25 = .ok (.iconst 0, 1) := by decide +kernel
theorem dL_confirm_26 : decode cL_confirm 26 = .ok (.ireturn, 1) := by decide +kernel
theorem dL_doubt_0 : decode cL_doubt 0 = .ok (.aload_n 2, 1) := by decide +kernel
theorem dL_doubt_1 : decode cL_doubt 1 = .ok (.iconst 0, 1) := by decide +kernel
theorem dL_doubt_2 : decode cL_doubt 2 = .ok (.aload_n 0, 1) := by decide +kernel
theorem dL_doubt_3 : decode cL_doubt 3 = .ok (.iload_n 1, 1) := by decide +kernel
theorem dL_doubt_4 : decode cL_doubt 4 = .ok (.invokevirtual 35, 3) := by decide +kernel
theorem dL_doubt_7 : decode cL_doubt 7 = .ok (.i2l, 1) := by decide +kernel
theorem dL_doubt_8 : decode cL_doubt 8 = .ok (.lastore, 1) := by decide +kernel
theorem dL_doubt_9 : decode cL_doubt 9 = .ok (.goto 9, 3) := by decide +kernel
theorem dL_doubt_12 : decode cL_doubt 12 = .ok (.astore_n 3, 1) := by decide +kernel
theorem dL_doubt_13 : decode cL_doubt 13 = .ok (.iconst 1, 1) := by decide +kernel
theorem dL_doubt_14 : decode cL_doubt 14 = .ok (.ireturn, 1) := by decide +kernel
theorem dL_doubt_15 : decode cL_doubt 15 = .ok (.astore_n 3, 1) := by decide +kernel
theorem dL_doubt_16 : decode cL_doubt 16 = .ok (.iconst 2, 1) := by decide +kernel
theorem dL_doubt_17 : decode cL_doubt 17 = .ok (.ireturn, 1) := by decide +kernel
theorem dL_doubt_18 : decode cL_doubt 18 = .ok (.iconst 0, 1) := by decide +kernel
theorem dL_doubt_19 : decode cL_doubt 19 = .ok (.ireturn, 1) := by decide +kernel
theorem dL_settle_0 : decode cL_settle 0 = .ok (.aload_n 3, 1) := by decide +kernel
theorem dL_settle_1 : decode cL_settle 1 = .ok (.iconst 0, 1) := by decide +kernel
theorem dL_settle_2 : decode cL_settle 2 = .ok (.aload_n 0, 1) := by decide +kernel
theorem dL_settle_3 : decode cL_settle 3 = .ok (.iload_n 1, 1) := by decide +kernel
theorem dL_settle_4 : decode cL_settle 4 = .ok (.iload_n 2, 1) := by decide +kernel
theorem dL_settle_5 : decode cL_settle 5 = .ok (.invokevirtual 39, 3) := by decide +kernel
theorem dL_settle_8 : decode cL_settle 8 = .ok (.i2l, 1) := by decide +kernel
theorem dL_settle_9 : decode cL_settle 9 = .ok (.lastore, 1) := by decide +kernel
theorem dL_settle_10 : decode cL_settle 10 = .ok (.goto 11, 3) := by decide +kernel
theorem dL_settle_13 : decode cL_settle 13 = .ok (.astore 4, 2) := by decide +kernel
theorem dL_settle_15 : decode cL_settle 15 = .ok (.iconst 1, 1) := by decide +kernel
theorem dL_settle_16 : decode cL_settle 16 = .ok (.ireturn, 1) := by decide +kernel
theorem dL_settle_17 : decode cL_settle 17 = .ok (.astore 4, 2) := by decide +kernel
theorem dL_settle_19 : decode cL_settle 19 = .ok (.iconst 2, 1) := by decide +kernel
theorem dL_settle_20 : decode cL_settle 20 = .ok (.ireturn, 1) := by decide +kernel
theorem dL_settle_21 : decode cL_settle 21 = .ok (.iconst 0, 1) := by decide +kernel
theorem dL_settle_22 : decode cL_settle 22 = .ok (.ireturn, 1) := by decide +kernel
theorem dL_credit_0 : decode cL_credit 0 = .ok (.aload 4, 2) := by decide +kernel
theorem dL_credit_2 : decode cL_credit 2 = .ok (.iconst 0, 1) := by decide +kernel
theorem dL_credit_3 : decode cL_credit 3 = .ok (.aload_n 0, 1) := by decide +kernel
theorem dL_credit_4 : decode cL_credit 4 = .ok (.iload_n 1, 1) := by decide +kernel
theorem dL_credit_5 : decode cL_credit 5 = .ok (.iload_n 2, 1) := by decide +kernel
theorem dL_credit_6 : decode cL_credit 6 = .ok (.iload_n 3, 1) := by decide +kernel
theorem dL_credit_7 : decode cL_credit 7 = .ok (.invokevirtual 43, 3) := by decide +kernel
theorem dL_credit_10 : decode cL_credit 10 = .ok (.i2l, 1) := by decide +kernel
theorem dL_credit_11 : decode cL_credit 11 = .ok (.lastore, 1) := by decide +kernel
theorem dL_credit_12 : decode cL_credit 12 = .ok (.goto 15, 3) := by decide +kernel
theorem dL_credit_15 : decode cL_credit 15 = .ok (.astore 5, 2) := by decide +kernel
theorem dL_credit_17 : decode cL_credit 17 = .ok (.iconst 1, 1) := by decide +kernel
theorem dL_credit_18 : decode cL_credit 18 = .ok (.ireturn, 1) := by decide +kernel
theorem dL_credit_19 : decode cL_credit 19 = .ok (.astore 5, 2) := by decide +kernel
theorem dL_credit_21 : decode cL_credit 21 = .ok (.iconst 2, 1) := by decide +kernel
theorem dL_credit_22 : decode cL_credit 22 = .ok (.ireturn, 1) := by decide +kernel
theorem dL_credit_23 : decode cL_credit 23 = .ok (.astore 5, 2) := by decide +kernel
theorem dL_credit_25 : decode cL_credit 25 = .ok (.iconst 3, 1) := by decide +kernel
theorem dL_credit_26 : decode cL_credit 26 = .ok (.ireturn, 1) := by decide +kernel
theorem dL_credit_27 : decode cL_credit 27 = .ok (.iconst 0, 1) := by decide +kernel
theorem dL_credit_28 : decode cL_credit 28 = .ok (.ireturn, 1) := by decide +kernel
theorem dL_endDay_0 : decode cL_endDay 0 = .ok (.aload_n 1, 1) := by decide +kernel
theorem dL_endDay_1 : decode cL_endDay 1 = .ok (.iconst 0, 1) := by decide +kernel
theorem dL_endDay_2 : decode cL_endDay 2 = .ok (.aload_n 0, 1) := by decide +kernel
theorem dL_endDay_3 : decode cL_endDay 3 = .ok (.invokevirtual 46, 3) := by decide +kernel
theorem dL_endDay_6 : decode cL_endDay 6 = .ok (.i2l, 1) := by decide +kernel
theorem dL_endDay_7 : decode cL_endDay 7 = .ok (.lastore, 1) := by decide +kernel
theorem dL_endDay_8 : decode cL_endDay 8 = .ok (.goto 6, 3) := by decide +kernel
theorem dL_endDay_11 : decode cL_endDay 11 = .ok (.astore_n 2, 1) := by decide +kernel
theorem dL_endDay_12 : decode cL_endDay 12 = .ok (.iconst 1, 1) := by decide +kernel
theorem dL_endDay_13 : decode cL_endDay 13 = .ok (.ireturn, 1) := by decide +kernel
theorem dL_endDay_14 : decode cL_endDay 14 = .ok (.iconst 0, 1) := by decide +kernel
theorem dL_endDay_15 : decode cL_endDay 15 = .ok (.ireturn, 1) := by decide +kernel
theorem dL_move_0 : decode cL_move 0 = .ok (.aload_n 3, 1) := by decide +kernel
theorem dL_move_1 : decode cL_move 1 = .ok (.iconst 0, 1) := by decide +kernel
theorem dL_move_2 : decode cL_move 2 = .ok (.aload_n 0, 1) := by decide +kernel
theorem dL_move_3 : decode cL_move 3 = .ok (.iload_n 1, 1) := by decide +kernel
theorem dL_move_4 : decode cL_move 4 = .ok (.iload_n 2, 1) := by decide +kernel
theorem dL_move_5 : decode cL_move 5 = .ok (.invokevirtual 50, 3) := by decide +kernel
theorem dL_move_8 : decode cL_move 8 = .ok (.i2l, 1) := by decide +kernel
theorem dL_move_9 : decode cL_move 9 = .ok (.lastore, 1) := by decide +kernel
theorem dL_move_10 : decode cL_move 10 = .ok (.goto 11, 3) := by decide +kernel
theorem dL_move_13 : decode cL_move 13 = .ok (.astore 4, 2) := by decide +kernel
theorem dL_move_15 : decode cL_move 15 = .ok (.iconst 1, 1) := by decide +kernel
theorem dL_move_16 : decode cL_move 16 = .ok (.ireturn, 1) := by decide +kernel
theorem dL_move_17 : decode cL_move 17 = .ok (.astore 4, 2) := by decide +kernel
theorem dL_move_19 : decode cL_move 19 = .ok (.iconst 2, 1) := by decide +kernel
theorem dL_move_20 : decode cL_move 20 = .ok (.ireturn, 1) := by decide +kernel
theorem dL_move_21 : decode cL_move 21 = .ok (.iconst 0, 1) := by decide +kernel
theorem dL_move_22 : decode cL_move 22 = .ok (.ireturn, 1) := by decide +kernel
theorem dL_leave_0 : decode cL_leave 0 = .ok (.aload_n 2, 1) := by decide +kernel
theorem dL_leave_1 : decode cL_leave 1 = .ok (.iconst 0, 1) := by decide +kernel
theorem dL_leave_2 : decode cL_leave 2 = .ok (.aload_n 0, 1) := by decide +kernel
theorem dL_leave_3 : decode cL_leave 3 = .ok (.iload_n 1, 1) := by decide +kernel
theorem dL_leave_4 : decode cL_leave 4 = .ok (.invokevirtual 53, 3) := by decide +kernel
theorem dL_leave_7 : decode cL_leave 7 = .ok (.i2l, 1) := by decide +kernel
theorem dL_leave_8 : decode cL_leave 8 = .ok (.lastore, 1) := by decide +kernel
theorem dL_leave_9 : decode cL_leave 9 = .ok (.goto 9, 3) := by decide +kernel
theorem dL_leave_12 : decode cL_leave 12 = .ok (.astore_n 3, 1) := by decide +kernel
theorem dL_leave_13 : decode cL_leave 13 = .ok (.iconst 1, 1) := by decide +kernel
theorem dL_leave_14 : decode cL_leave 14 = .ok (.ireturn, 1) := by decide +kernel
theorem dL_leave_15 : decode cL_leave 15 = .ok (.astore_n 3, 1) := by decide +kernel
theorem dL_leave_16 : decode cL_leave 16 = .ok (.iconst 2, 1) := by decide +kernel
theorem dL_leave_17 : decode cL_leave 17 = .ok (.ireturn, 1) := by decide +kernel
theorem dL_leave_18 : decode cL_leave 18 = .ok (.iconst 0, 1) := by decide +kernel
theorem dL_leave_19 : decode cL_leave 19 = .ok (.ireturn, 1) := by decide +kernel
theorem dL_exchange_0 : decode cL_exchange 0 = .ok (.aload_n 3, 1) := by decide +kernel
theorem dL_exchange_1 : decode cL_exchange 1 = .ok (.iconst 0, 1) := by decide +kernel
theorem dL_exchange_2 : decode cL_exchange 2 = .ok (.aload_n 0, 1) := by decide +kernel
theorem dL_exchange_3 : decode cL_exchange 3 = .ok (.iload_n 1, 1) := by decide +kernel
theorem dL_exchange_4 : decode cL_exchange 4 = .ok (.iload_n 2, 1) := by decide +kernel
theorem dL_exchange_5 : decode cL_exchange 5 = .ok (.invokevirtual 56, 3) := by decide +kernel
theorem dL_exchange_8 : decode cL_exchange 8 = .ok (.i2l, 1) := by decide +kernel
theorem dL_exchange_9 : decode cL_exchange 9 = .ok (.lastore, 1) := by decide +kernel
theorem dL_exchange_10 : decode cL_exchange 10 = .ok (.goto 15, 3) := by decide +kernel
theorem dL_exchange_13 : decode cL_exchange 13 = .ok (.astore 4, 2) := by decide +kernel
theorem dL_exchange_15 : decode cL_exchange 15 = .ok (.iconst 1, 1) := by decide +kernel
theorem dL_exchange_16 : decode cL_exchange 16 = .ok (.ireturn, 1) := by decide +kernel
theorem dL_exchange_17 : decode cL_exchange 17 = .ok (.astore 4, 2) := by decide +kernel
theorem dL_exchange_19 : decode cL_exchange 19 = .ok (.iconst 2, 1) := by decide +kernel
theorem dL_exchange_20 : decode cL_exchange 20 = .ok (.ireturn, 1) := by decide +kernel
theorem dL_exchange_21 : decode cL_exchange 21 = .ok (.astore 4, 2) := by decide +kernel
theorem dL_exchange_23 : decode cL_exchange 23 = .ok (.iconst 3, 1) := by decide +kernel
theorem dL_exchange_24 : decode cL_exchange 24 = .ok (.ireturn, 1) := by decide +kernel
theorem dL_exchange_25 : decode cL_exchange 25 = .ok (.iconst 0, 1) := by decide +kernel
theorem dL_exchange_26 : decode cL_exchange 26 = .ok (.ireturn, 1) := by decide +kernel
theorem dL_reason_0 : decode cL_reason 0 = .ok (.aload_n 3, 1) := by decide +kernel
theorem dL_reason_1 : decode cL_reason 1 = .ok (.iconst 0, 1) := by decide +kernel
theorem dL_reason_2 : decode cL_reason 2 = .ok (.aload_n 0, 1) := by decide +kernel
theorem dL_reason_3 : decode cL_reason 3 = .ok (.iload_n 1, 1) := by decide +kernel
theorem dL_reason_4 : decode cL_reason 4 = .ok (.iload_n 2, 1) := by decide +kernel
theorem dL_reason_5 : decode cL_reason 5 = .ok (.invokevirtual 59, 3) := by decide +kernel
theorem dL_reason_8 : decode cL_reason 8 = .ok (.i2l, 1) := by decide +kernel
theorem dL_reason_9 : decode cL_reason 9 = .ok (.lastore, 1) := by decide +kernel
theorem dL_reason_10 : decode cL_reason 10 = .ok (.goto 7, 3) := by decide +kernel
theorem dL_reason_13 : decode cL_reason 13 = .ok (.astore 4, 2) := by decide +kernel
theorem dL_reason_15 : decode cL_reason 15 = .ok (.iconst 1, 1) := by decide +kernel
theorem dL_reason_16 : decode cL_reason 16 = .ok (.ireturn, 1) := by decide +kernel
theorem dL_reason_17 : decode cL_reason 17 = .ok (.iconst 0, 1) := by decide +kernel
theorem dL_reason_18 : decode cL_reason 18 = .ok (.ireturn, 1) := by decide +kernel
theorem dL_mentor_0 : decode cL_mentor 0 = .ok (.aload_n 3, 1) := by decide +kernel
theorem dL_mentor_1 : decode cL_mentor 1 = .ok (.iconst 0, 1) := by decide +kernel
theorem dL_mentor_2 : decode cL_mentor 2 = .ok (.aload_n 0, 1) := by decide +kernel
theorem dL_mentor_3 : decode cL_mentor 3 = .ok (.iload_n 1, 1) := by decide +kernel
theorem dL_mentor_4 : decode cL_mentor 4 = .ok (.iload_n 2, 1) := by decide +kernel
theorem dL_mentor_5 : decode cL_mentor 5 = .ok (.invokevirtual 62, 3) := by decide +kernel
theorem dL_mentor_8 : decode cL_mentor 8 = .ok (.i2l, 1) := by decide +kernel
theorem dL_mentor_9 : decode cL_mentor 9 = .ok (.lastore, 1) := by decide +kernel
theorem dL_mentor_10 : decode cL_mentor 10 = .ok (.goto 11, 3) := by decide +kernel
theorem dL_mentor_13 : decode cL_mentor 13 = .ok (.astore 4, 2) := by decide +kernel
theorem dL_mentor_15 : decode cL_mentor 15 = .ok (.iconst 1, 1) := by decide +kernel
theorem dL_mentor_16 : decode cL_mentor 16 = .ok (.ireturn, 1) := by decide +kernel
theorem dL_mentor_17 : decode cL_mentor 17 = .ok (.astore 4, 2) := by decide +kernel
theorem dL_mentor_19 : decode cL_mentor 19 = .ok (.iconst 2, 1) := by decide +kernel
theorem dL_mentor_20 : decode cL_mentor 20 = .ok (.ireturn, 1) := by decide +kernel
theorem dL_mentor_21 : decode cL_mentor 21 = .ok (.iconst 0, 1) := by decide +kernel
theorem dL_mentor_22 : decode cL_mentor 22 = .ok (.ireturn, 1) := by decide +kernel
theorem dL_apprentice_0 : decode cL_apprentice 0 = .ok (.aload_n 3, 1) := by decide +kernel
theorem dL_apprentice_1 : decode cL_apprentice 1 = .ok (.iconst 0, 1) := by decide +kernel
theorem dL_apprentice_2 : decode cL_apprentice 2 = .ok (.aload_n 0, 1) := by decide +kernel
theorem dL_apprentice_3 : decode cL_apprentice 3 = .ok (.iload_n 1, 1) := by decide +kernel
theorem dL_apprentice_4 : decode cL_apprentice 4 = .ok (.iload_n 2, 1) := by decide +kernel
theorem dL_apprentice_5 : decode cL_apprentice 5 = .ok (.invokevirtual 65, 3) := by decide +kernel
theorem dL_apprentice_8 : decode cL_apprentice 8 = .ok (.i2l, 1) := by decide +kernel
theorem dL_apprentice_9 : decode cL_apprentice 9 = .ok (.lastore, 1) := by decide +kernel
theorem dL_apprentice_10 : decode cL_apprentice 10 = .ok (.goto 11, 3) := by decide +kernel
theorem dL_apprentice_13 : decode cL_apprentice 13 = .ok (.astore 4, 2) := by decide +kernel
theorem dL_apprentice_15 : decode cL_apprentice 15 = .ok (.iconst 1, 1) := by decide +kernel
theorem dL_apprentice_16 : decode cL_apprentice 16 = .ok (.ireturn, 1) := by decide +kernel
theorem dL_apprentice_17 : decode cL_apprentice 17 = .ok (.astore 4, 2) := by decide +kernel
theorem dL_apprentice_19 : decode cL_apprentice 19 = .ok (.iconst 2, 1) := by decide +kernel
theorem dL_apprentice_20 : decode cL_apprentice 20 = .ok (.ireturn, 1) := by decide +kernel
theorem dL_apprentice_21 : decode cL_apprentice 21 = .ok (.iconst 0, 1) := by decide +kernel
theorem dL_apprentice_22 : decode cL_apprentice 22 = .ok (.ireturn, 1) := by decide +kernel
theorem dL_part_0 : decode cL_part 0 = .ok (.aload 4, 2) := by decide +kernel
theorem dL_part_2 : decode cL_part 2 = .ok (.iconst 0, 1) := by decide +kernel
theorem dL_part_3 : decode cL_part 3 = .ok (.aload_n 0, 1) := by decide +kernel
theorem dL_part_4 : decode cL_part 4 = .ok (.iload_n 1, 1) := by decide +kernel
theorem dL_part_5 : decode cL_part 5 = .ok (.iload_n 2, 1) := by decide +kernel
theorem dL_part_6 : decode cL_part 6 = .ok (.iload_n 3, 1) := by decide +kernel
theorem dL_part_7 : decode cL_part 7 = .ok (.invokevirtual 68, 3) := by decide +kernel
theorem dL_part_10 : decode cL_part 10 = .ok (.i2l, 1) := by decide +kernel
theorem dL_part_11 : decode cL_part 11 = .ok (.lastore, 1) := by decide +kernel
theorem dL_part_12 : decode cL_part 12 = .ok (.goto 11, 3) := by decide +kernel
theorem dL_part_15 : decode cL_part 15 = .ok (.astore 5, 2) := by decide +kernel
theorem dL_part_17 : decode cL_part 17 = .ok (.iconst 1, 1) := by decide +kernel
theorem dL_part_18 : decode cL_part 18 = .ok (.ireturn, 1) := by decide +kernel
theorem dL_part_19 : decode cL_part 19 = .ok (.astore 5, 2) := by decide +kernel
theorem dL_part_21 : decode cL_part 21 = .ok (.iconst 2, 1) := by decide +kernel
theorem dL_part_22 : decode cL_part 22 = .ok (.ireturn, 1) := by decide +kernel
theorem dL_part_23 : decode cL_part 23 = .ok (.iconst 0, 1) := by decide +kernel
theorem dL_part_24 : decode cL_part 24 = .ok (.ireturn, 1) := by decide +kernel
theorem dL_entry_0 : decode cL_entry 0 = .ok (.aload 5, 2) := by decide +kernel
theorem dL_entry_2 : decode cL_entry 2 = .ok (.iconst 0, 1) := by decide +kernel
theorem dL_entry_3 : decode cL_entry 3 = .ok (.aload_n 0, 1) := by decide +kernel
theorem dL_entry_4 : decode cL_entry 4 = .ok (.iload_n 1, 1) := by decide +kernel
theorem dL_entry_5 : decode cL_entry 5 = .ok (.iload_n 2, 1) := by decide +kernel
theorem dL_entry_6 : decode cL_entry 6 = .ok (.iload_n 3, 1) := by decide +kernel
theorem dL_entry_7 : decode cL_entry 7 = .ok (.iload 4, 2) := by decide +kernel
theorem dL_entry_9 : decode cL_entry 9 = .ok (.invokevirtual 71, 3) := by decide +kernel
theorem dL_entry_12 : decode cL_entry 12 = .ok (.i2l, 1) := by decide +kernel
theorem dL_entry_13 : decode cL_entry 13 = .ok (.lastore, 1) := by decide +kernel
theorem dL_entry_14 : decode cL_entry 14 = .ok (.goto 11, 3) := by decide +kernel
theorem dL_entry_17 : decode cL_entry 17 = .ok (.astore 6, 2) := by decide +kernel
theorem dL_entry_19 : decode cL_entry 19 = .ok (.iconst 1, 1) := by decide +kernel
theorem dL_entry_20 : decode cL_entry 20 = .ok (.ireturn, 1) := by decide +kernel
theorem dL_entry_21 : decode cL_entry 21 = .ok (.astore 6, 2) := by decide +kernel
theorem dL_entry_23 : decode cL_entry 23 = .ok (.iconst 2, 1) := by decide +kernel
theorem dL_entry_24 : decode cL_entry 24 = .ok (.ireturn, 1) := by decide +kernel
theorem dL_entry_25 : decode cL_entry 25 = .ok (.iconst 0, 1) := by decide +kernel
theorem dL_entry_26 : decode cL_entry 26 = .ok (.ireturn, 1) := by decide +kernel
theorem dL_whole_0 : decode cL_whole 0 = .ok (.aload_n 2, 1) := by decide +kernel
theorem dL_whole_1 : decode cL_whole 1 = .ok (.iconst 0, 1) := by decide +kernel
theorem dL_whole_2 : decode cL_whole 2 = .ok (.aload_n 0, 1) := by decide +kernel
theorem dL_whole_3 : decode cL_whole 3 = .ok (.iload_n 1, 1) := by decide +kernel
theorem dL_whole_4 : decode cL_whole 4 = .ok (.invokevirtual 75, 3) := by decide +kernel
theorem dL_whole_7 : decode cL_whole 7 = .ok (.i2l, 1) := by decide +kernel
theorem dL_whole_8 : decode cL_whole 8 = .ok (.lastore, 1) := by decide +kernel
theorem dL_whole_9 : decode cL_whole 9 = .ok (.goto 6, 3) := by decide +kernel
theorem dL_whole_12 : decode cL_whole 12 = .ok (.astore_n 3, 1) := by decide +kernel
theorem dL_whole_13 : decode cL_whole 13 = .ok (.iconst 1, 1) := by decide +kernel
theorem dL_whole_14 : decode cL_whole 14 = .ok (.ireturn, 1) := by decide +kernel
theorem dL_whole_15 : decode cL_whole 15 = .ok (.iconst 0, 1) := by decide +kernel
theorem dL_whole_16 : decode cL_whole 16 = .ok (.ireturn, 1) := by decide +kernel
theorem dL_completeOn_0 : decode cL_completeOn 0 = .ok (.aload_n 3, 1) := by decide +kernel
theorem dL_completeOn_1 : decode cL_completeOn 1 = .ok (.iconst 0, 1) := by decide +kernel
theorem dL_completeOn_2 : decode cL_completeOn 2 = .ok (.aload_n 0, 1) := by decide +kernel
theorem dL_completeOn_3 : decode cL_completeOn 3 = .ok (.iload_n 1, 1) := by decide +kernel
theorem dL_completeOn_4 : decode cL_completeOn 4 = .ok (.iload_n 2, 1) := by decide +kernel
theorem dL_completeOn_5 : decode cL_completeOn 5 = .ok (.invokevirtual 78, 3) := by decide +kernel
theorem dL_completeOn_8 : decode cL_completeOn 8 = .ok (.i2l, 1) := by decide +kernel
theorem dL_completeOn_9 : decode cL_completeOn 9 = .ok (.lastore, 1) := by decide +kernel
theorem dL_completeOn_10 : decode cL_completeOn 10 = .ok (.goto 11, 3) := by decide +kernel
theorem dL_completeOn_13 : decode cL_completeOn 13 = .ok (.astore 4, 2) := by decide +kernel
theorem dL_completeOn_15 : decode cL_completeOn 15 = .ok (.iconst 1, 1) := by decide +kernel
theorem dL_completeOn_16 : decode cL_completeOn 16 = .ok (.ireturn, 1) := by decide +kernel
theorem dL_completeOn_17 : decode cL_completeOn 17 = .ok (.astore 4, 2) := by decide +kernel
theorem dL_completeOn_19 : decode cL_completeOn 19 = .ok (.iconst 2, 1) := by decide +kernel
theorem dL_completeOn_20 : decode cL_completeOn 20 = .ok (.ireturn, 1) := by decide +kernel
theorem dL_completeOn_21 : decode cL_completeOn 21 = .ok (.iconst 0, 1) := by decide +kernel
theorem dL_completeOn_22 : decode cL_completeOn 22 = .ok (.ireturn, 1) := by decide +kernel
theorem dL_bestMentor_0 : decode cL_bestMentor 0 = .ok (.aload_n 2, 1) := by decide +kernel
theorem dL_bestMentor_1 : decode cL_bestMentor 1 = .ok (.iconst 0, 1) := by decide +kernel
theorem dL_bestMentor_2 : decode cL_bestMentor 2 = .ok (.aload_n 0, 1) := by decide +kernel
theorem dL_bestMentor_3 : decode cL_bestMentor 3 = .ok (.iload_n 1, 1) := by decide +kernel
theorem dL_bestMentor_4 : decode cL_bestMentor 4 = .ok (.invokevirtual 81, 3) := by decide +kernel
theorem dL_bestMentor_7 : decode cL_bestMentor 7 = .ok (.i2l, 1) := by decide +kernel
theorem dL_bestMentor_8 : decode cL_bestMentor 8 = .ok (.lastore, 1) := by decide +kernel
theorem dL_bestMentor_9 : decode cL_bestMentor 9 = .ok (.goto 6, 3) := by decide +kernel
theorem dL_bestMentor_12 : decode cL_bestMentor 12 = .ok (.astore_n 3, 1) := by decide +kernel
theorem dL_bestMentor_13 : decode cL_bestMentor 13 = .ok (.iconst 1, 1) := by decide +kernel
theorem dL_bestMentor_14 : decode cL_bestMentor 14 = .ok (.ireturn, 1) := by decide +kernel
theorem dL_bestMentor_15 : decode cL_bestMentor 15 = .ok (.iconst 0, 1) := by decide +kernel
theorem dL_bestMentor_16 : decode cL_bestMentor 16 = .ok (.ireturn, 1) := by decide +kernel
theorem dL_doubtsBy_0 : decode cL_doubtsBy 0 = .ok (.aload_n 3, 1) := by decide +kernel
theorem dL_doubtsBy_1 : decode cL_doubtsBy 1 = .ok (.iconst 0, 1) := by decide +kernel
theorem dL_doubtsBy_2 : decode cL_doubtsBy 2 = .ok (.aload_n 0, 1) := by decide +kernel
theorem dL_doubtsBy_3 : decode cL_doubtsBy 3 = .ok (.iload_n 1, 1) := by decide +kernel
theorem dL_doubtsBy_4 : decode cL_doubtsBy 4 = .ok (.iload_n 2, 1) := by decide +kernel
theorem dL_doubtsBy_5 : decode cL_doubtsBy 5 = .ok (.invokevirtual 84, 3) := by decide +kernel
theorem dL_doubtsBy_8 : decode cL_doubtsBy 8 = .ok (.i2l, 1) := by decide +kernel
theorem dL_doubtsBy_9 : decode cL_doubtsBy 9 = .ok (.lastore, 1) := by decide +kernel
theorem dL_doubtsBy_10 : decode cL_doubtsBy 10 = .ok (.goto 7, 3) := by decide +kernel
theorem dL_doubtsBy_13 : decode cL_doubtsBy 13 = .ok (.astore 4, 2) := by decide +kernel
theorem dL_doubtsBy_15 : decode cL_doubtsBy 15 = .ok (.iconst 1, 1) := by decide +kernel
theorem dL_doubtsBy_16 : decode cL_doubtsBy 16 = .ok (.ireturn, 1) := by decide +kernel
theorem dL_doubtsBy_17 : decode cL_doubtsBy 17 = .ok (.iconst 0, 1) := by decide +kernel
theorem dL_doubtsBy_18 : decode cL_doubtsBy 18 = .ok (.ireturn, 1) := by decide +kernel
theorem dL_nextRelease_0 : decode cL_nextRelease 0 = .ok (.aload_n 3, 1) := by decide +kernel
theorem dL_nextRelease_1 : decode cL_nextRelease 1 = .ok (.iconst 0, 1) := by decide +kernel
theorem dL_nextRelease_2 : decode cL_nextRelease 2 = .ok (.aload_n 0, 1) := by decide +kernel
theorem dL_nextRelease_3 : decode cL_nextRelease 3 = .ok (.iload_n 1, 1) := by decide +kernel
theorem dL_nextRelease_4 : decode cL_nextRelease 4 = .ok (.iload_n 2, 1) := by decide +kernel
theorem dL_nextRelease_5 : decode cL_nextRelease 5 = .ok (.invokevirtual 87, 3) := by decide +kernel
theorem dL_nextRelease_8 : decode cL_nextRelease 8 = .ok (.i2l, 1) := by decide +kernel
theorem dL_nextRelease_9 : decode cL_nextRelease 9 = .ok (.lastore, 1) := by decide +kernel
theorem dL_nextRelease_10 : decode cL_nextRelease 10 = .ok (.goto 11, 3) := by decide +kernel
theorem dL_nextRelease_13 : decode cL_nextRelease 13 = .ok (.astore 4, 2) := by decide +kernel
theorem dL_nextRelease_15 : decode cL_nextRelease 15 = .ok (.iconst 1, 1) := by decide +kernel
theorem dL_nextRelease_16 : decode cL_nextRelease 16 = .ok (.ireturn, 1) := by decide +kernel
theorem dL_nextRelease_17 : decode cL_nextRelease 17 = .ok (.astore 4, 2) := by decide +kernel
theorem dL_nextRelease_19 : decode cL_nextRelease 19 = .ok (.iconst 2, 1) := by decide +kernel
theorem dL_nextRelease_20 : decode cL_nextRelease 20 = .ok (.ireturn, 1) := by decide +kernel
theorem dL_nextRelease_21 : decode cL_nextRelease 21 = .ok (.iconst 0, 1) := by decide +kernel
theorem dL_nextRelease_22 : decode cL_nextRelease 22 = .ok (.ireturn, 1) := by decide +kernel
theorem dL_type_0 : decode cL_type 0 = .ok (.aload_n 2, 1) := by decide +kernel
theorem dL_type_1 : decode cL_type 1 = .ok (.iconst 0, 1) := by decide +kernel
theorem dL_type_2 : decode cL_type 2 = .ok (.aload_n 0, 1) := by decide +kernel
theorem dL_type_3 : decode cL_type 3 = .ok (.iload_n 1, 1) := by decide +kernel
theorem dL_type_4 : decode cL_type 4 = .ok (.invokevirtual 90, 3) := by decide +kernel
theorem dL_type_7 : decode cL_type 7 = .ok (.i2l, 1) := by decide +kernel
theorem dL_type_8 : decode cL_type 8 = .ok (.lastore, 1) := by decide +kernel
theorem dL_type_9 : decode cL_type 9 = .ok (.goto 9, 3) := by decide +kernel
theorem dL_type_12 : decode cL_type 12 = .ok (.astore_n 3, 1) := by decide +kernel
theorem dL_type_13 : decode cL_type 13 = .ok (.iconst 1, 1) := by decide +kernel
theorem dL_type_14 : decode cL_type 14 = .ok (.ireturn, 1) := by decide +kernel
theorem dL_type_15 : decode cL_type 15 = .ok (.astore_n 3, 1) := by decide +kernel
theorem dL_type_16 : decode cL_type 16 = .ok (.iconst 2, 1) := by decide +kernel
theorem dL_type_17 : decode cL_type 17 = .ok (.ireturn, 1) := by decide +kernel
theorem dL_type_18 : decode cL_type 18 = .ok (.iconst 0, 1) := by decide +kernel
theorem dL_type_19 : decode cL_type 19 = .ok (.ireturn, 1) := by decide +kernel
theorem dL_undo_0 : decode cL_undo 0 = .ok (.aload_n 1, 1) := by decide +kernel
theorem dL_undo_1 : decode cL_undo 1 = .ok (.iconst 0, 1) := by decide +kernel
theorem dL_undo_2 : decode cL_undo 2 = .ok (.aload_n 0, 1) := by decide +kernel
theorem dL_undo_3 : decode cL_undo 3 = .ok (.invokevirtual 93, 3) := by decide +kernel
theorem dL_undo_6 : decode cL_undo 6 = .ok (.i2l, 1) := by decide +kernel
theorem dL_undo_7 : decode cL_undo 7 = .ok (.lastore, 1) := by decide +kernel
theorem dL_undo_8 : decode cL_undo 8 = .ok (.goto 6, 3) := by decide +kernel
theorem dL_undo_11 : decode cL_undo 11 = .ok (.astore_n 2, 1) := by decide +kernel
theorem dL_undo_12 : decode cL_undo 12 = .ok (.iconst 1, 1) := by decide +kernel
theorem dL_undo_13 : decode cL_undo 13 = .ok (.ireturn, 1) := by decide +kernel
theorem dL_undo_14 : decode cL_undo 14 = .ok (.iconst 0, 1) := by decide +kernel
theorem dL_undo_15 : decode cL_undo 15 = .ok (.ireturn, 1) := by decide +kernel
theorem dL_law_0 : decode cL_law 0 = .ok (.new 8, 3) := by decide +kernel
theorem dL_law_3 : decode cL_law 3 = .ok (.dup, 1) := by decide +kernel
theorem dL_law_4 : decode cL_law 4 = .ok (.invokespecial 96, 3) := by decide +kernel
theorem dL_law_7 : decode cL_law 7 = .ok (.astore_n 1, 1) := by decide +kernel
theorem dL_law_8 : decode cL_law 8 = .ok (.new 97, 3) := by decide +kernel
theorem dL_law_11 : decode cL_law 11 = .ok (.dup, 1) := by decide +kernel
theorem dL_law_12 : decode cL_law 12 = .ok (.invokespecial 99, 3) := by decide +kernel
theorem dL_law_15 : decode cL_law 15 = .ok (.astore_n 2, 1) := by decide +kernel
theorem dL_law_16 : decode cL_law 16 = .ok (.iconst 1, 1) := by decide +kernel
theorem dL_law_17 : decode cL_law 17 = .ok (.newarray .long, 2) := by decide +kernel
theorem dL_law_19 : decode cL_law 19 = .ok (.astore_n 3, 1) := by decide +kernel
theorem dL_law_20 : decode cL_law 20 = .ok (.iconst 0, 1) := by decide +kernel
theorem dL_law_21 : decode cL_law 21 = .ok (.istore 4, 2) := by decide +kernel
theorem dL_law_23 : decode cL_law 23 = .ok (.iload 4, 2) := by decide +kernel
theorem dL_law_25 : decode cL_law 25 = .ok (.aload_n 0, 1) := by decide +kernel
theorem dL_law_26 : decode cL_law 26 = .ok (.arraylength, 1) := by decide +kernel
theorem dL_law_27 : decode cL_law 27 = .ok (.iconst 5, 1) := by decide +kernel
theorem dL_law_28 : decode cL_law 28 = .ok (.isub, 1) := by decide +kernel
theorem dL_law_29 : decode cL_law 29 = .ok (.if_icmp .gt 1877, 3) := by decide +kernel
theorem dL_law_32 : decode cL_law 32 = .ok (.aload_n 0, 1) := by decide +kernel
theorem dL_law_33 : decode cL_law 33 = .ok (.iload 4, 2) := by decide +kernel
theorem dL_law_35 : decode cL_law 35 = .ok (.iaload, 1) := by decide +kernel
theorem dL_law_36 : decode cL_law 36 = .ok (.bipush 31, 2) := by decide +kernel
theorem dL_law_38 : decode cL_law 38 = .ok (.iand, 1) := by decide +kernel
theorem dL_law_39 : decode cL_law 39 = .ok (.tableswitch 1861 0 27 #[125, 205, 273, 341, 409, 489, 557, 613, 697, 777, 821, 889, 945, 1013, 1081, 1149, 1217, 1297, 1405, 1461, 1529, 1585, 1653, 1721, 1777, 1790, 1803, 1847], 125) := by decide +kernel
theorem dL_law_164 : decode cL_law 164 = .ok (.aload_n 1, 1) := by decide +kernel
theorem dL_law_165 : decode cL_law 165 = .ok (.aload_n 0, 1) := by decide +kernel
theorem dL_law_166 : decode cL_law 166 = .ok (.iload 4, 2) := by decide +kernel
theorem dL_law_168 : decode cL_law 168 = .ok (.iconst 1, 1) := by decide +kernel
theorem dL_law_169 : decode cL_law 169 = .ok (.iadd, 1) := by decide +kernel
theorem dL_law_170 : decode cL_law 170 = .ok (.iaload, 1) := by decide +kernel
theorem dL_law_171 : decode cL_law 171 = .ok (.aload_n 0, 1) := by decide +kernel
theorem dL_law_172 : decode cL_law 172 = .ok (.iload 4, 2) := by decide +kernel
theorem dL_law_174 : decode cL_law 174 = .ok (.iconst 2, 1) := by decide +kernel
theorem dL_law_175 : decode cL_law 175 = .ok (.iadd, 1) := by decide +kernel
theorem dL_law_176 : decode cL_law 176 = .ok (.iaload, 1) := by decide +kernel
theorem dL_law_177 : decode cL_law 177 = .ok (.aload_n 0, 1) := by decide +kernel
theorem dL_law_178 : decode cL_law 178 = .ok (.iload 4, 2) := by decide +kernel
theorem dL_law_180 : decode cL_law 180 = .ok (.iconst 3, 1) := by decide +kernel
theorem dL_law_181 : decode cL_law 181 = .ok (.iadd, 1) := by decide +kernel
theorem dL_law_182 : decode cL_law 182 = .ok (.iaload, 1) := by decide +kernel
theorem dL_law_183 : decode cL_law 183 = .ok (.aload_n 3, 1) := by decide +kernel
theorem dL_law_184 : decode cL_law 184 = .ok (.invokestatic 100, 3) := by decide +kernel
theorem dL_law_187 : decode cL_law 187 = .ok (.istore 5, 2) := by decide +kernel
theorem dL_law_189 : decode cL_law 189 = .ok (.aload_n 2, 1) := by decide +kernel
theorem dL_law_190 : decode cL_law 190 = .ok (.aload_n 0, 1) := by decide +kernel
theorem dL_law_191 : decode cL_law 191 = .ok (.iload 4, 2) := by decide +kernel
theorem dL_law_193 : decode cL_law 193 = .ok (.iconst 1, 1) := by decide +kernel
theorem dL_law_194 : decode cL_law 194 = .ok (.iadd, 1) := by decide +kernel
theorem dL_law_195 : decode cL_law 195 = .ok (.iaload, 1) := by decide +kernel
theorem dL_law_196 : decode cL_law 196 = .ok (.aload_n 0, 1) := by decide +kernel
theorem dL_law_197 : decode cL_law 197 = .ok (.iload 4, 2) := by decide +kernel
theorem dL_law_199 : decode cL_law 199 = .ok (.iconst 2, 1) := by decide +kernel
theorem dL_law_200 : decode cL_law 200 = .ok (.iadd, 1) := by decide +kernel
theorem dL_law_201 : decode cL_law 201 = .ok (.iaload, 1) := by decide +kernel
theorem dL_law_202 : decode cL_law 202 = .ok (.aload_n 0, 1) := by decide +kernel
theorem dL_law_203 : decode cL_law 203 = .ok (.iload 4, 2) := by decide +kernel
theorem dL_law_205 : decode cL_law 205 = .ok (.iconst 3, 1) := by decide +kernel
theorem dL_law_206 : decode cL_law 206 = .ok (.iadd, 1) := by decide +kernel
theorem dL_law_207 : decode cL_law 207 = .ok (.iaload, 1) := by decide +kernel
theorem dL_law_208 : decode cL_law 208 = .ok (.invokevirtual 105, 3) := by decide +kernel
theorem dL_law_211 : decode cL_law 211 = .ok (.istore 6, 2) := by decide +kernel
theorem dL_law_213 : decode cL_law 213 = .ok (.aload_n 2, 1) := by decide +kernel
theorem dL_law_214 : decode cL_law 214 = .ok (.invokevirtual 106, 3) := by decide +kernel
theorem dL_law_217 : decode cL_law 217 = .ok (.iload 5, 2) := by decide +kernel
theorem dL_law_219 : decode cL_law 219 = .ok (.if_icmp .eq 5, 3) := by decide +kernel
theorem dL_law_222 : decode cL_law 222 = .ok (.iconst 0, 1) := by decide +kernel
theorem dL_law_223 : decode cL_law 223 = .ok (.ireturn, 1) := by decide +kernel
theorem dL_law_224 : decode cL_law 224 = .ok (.iload 5, 2) := by decide +kernel
theorem dL_law_226 : decode cL_law 226 = .ok (.ifCond .ne 15, 3) := by decide +kernel
theorem dL_law_229 : decode cL_law 229 = .ok (.aload_n 3, 1) := by decide +kernel
theorem dL_law_230 : decode cL_law 230 = .ok (.iconst 0, 1) := by decide +kernel
theorem dL_law_231 : decode cL_law 231 = .ok (.laload, 1) := by decide +kernel
theorem dL_law_232 : decode cL_law 232 = .ok (.iload 6, 2) := by decide +kernel
theorem dL_law_234 : decode cL_law 234 = .ok (.i2l, 1) := by decide +kernel
theorem dL_law_235 : decode cL_law 235 = .ok (.lcmp, 1) := by decide +kernel
theorem dL_law_236 : decode cL_law 236 = .ok (.ifCond .eq 5, 3) := by decide +kernel
theorem dL_law_239 : decode cL_law 239 = .ok (.iconst 0, 1) := by decide +kernel
theorem dL_law_240 : decode cL_law 240 = .ok (.ireturn, 1) := by decide +kernel
theorem dL_law_241 : decode cL_law 241 = .ok (.goto 1659, 3) := by decide +kernel
theorem dL_law_244 : decode cL_law 244 = .ok (.aload_n 1, 1) := by decide +kernel
theorem dL_law_245 : decode cL_law 245 = .ok (.aload_n 0, 1) := by decide +kernel
theorem dL_law_246 : decode cL_law 246 = .ok (.iload 4, 2) := by decide +kernel
theorem dL_law_248 : decode cL_law 248 = .ok (.iconst 1, 1) := by decide +kernel
theorem dL_law_249 : decode cL_law 249 = .ok (.iadd, 1) := by decide +kernel
theorem dL_law_250 : decode cL_law 250 = .ok (.iaload, 1) := by decide +kernel
theorem dL_law_251 : decode cL_law 251 = .ok (.aload_n 0, 1) := by decide +kernel
theorem dL_law_252 : decode cL_law 252 = .ok (.iload 4, 2) := by decide +kernel
theorem dL_law_254 : decode cL_law 254 = .ok (.iconst 2, 1) := by decide +kernel
theorem dL_law_255 : decode cL_law 255 = .ok (.iadd, 1) := by decide +kernel
theorem dL_law_256 : decode cL_law 256 = .ok (.iaload, 1) := by decide +kernel
theorem dL_law_257 : decode cL_law 257 = .ok (.aload_n 3, 1) := by decide +kernel
theorem dL_law_258 : decode cL_law 258 = .ok (.invokestatic 109, 3) := by decide +kernel
theorem dL_law_261 : decode cL_law 261 = .ok (.istore 5, 2) := by decide +kernel
theorem dL_law_263 : decode cL_law 263 = .ok (.aload_n 2, 1) := by decide +kernel
theorem dL_law_264 : decode cL_law 264 = .ok (.aload_n 0, 1) := by decide +kernel
theorem dL_law_265 : decode cL_law 265 = .ok (.iload 4, 2) := by decide +kernel
