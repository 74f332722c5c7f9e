theorem dX10_mentors_75 : decode cX10_mentors 75 = .ok (.getfield 7, 3) := by decide +kernel
theorem dX10_mentors_78 : decode cX10_mentors 78 = .ok (.iload_n 3, 1) := by decide +kernel
theorem dX10_mentors_79 : decode cX10_mentors 79 = .ok (.iconst 2, 1) := by decide +kernel
theorem dX10_mentors_80 : decode cX10_mentors 80 = .ok (.iadd, 1) := by decide +kernel
theorem dX10_mentors_81 : decode cX10_mentors 81 = .ok (.lconst 0, 1) := by decide +kernel
theorem dX10_mentors_82 : decode cX10_mentors 82 = .ok (.lastore, 1) := by decide +kernel
theorem dX10_mentors_83 : decode cX10_mentors 83 = .ok (.aload_n 0, 1) := by decide +kernel
theorem dX10_mentors_84 : decode cX10_mentors 84 = .ok (.aload_n 0, 1) := by decide +kernel
theorem dX10_mentors_85 : decode cX10_mentors 85 = .ok (.getfield 7, 3) := by decide +kernel
theorem dX10_mentors_88 : decode cX10_mentors 88 = .ok (.iconst 1, 1) := by decide +kernel
theorem dX10_mentors_89 : decode cX10_mentors 89 = .ok (.laload, 1) := by decide +kernel
theorem dX10_mentors_90 : decode cX10_mentors 90 = .ok (.putfield 112, 3) := by decide +kernel
theorem dX10_mentors_93 : decode cX10_mentors 93 = .ok (.aload_n 0, 1) := by decide +kernel
theorem dX10_mentors_94 : decode cX10_mentors 94 = .ok (.getfield 7, 3) := by decide +kernel
theorem dX10_mentors_97 : decode cX10_mentors 97 = .ok (.iconst 1, 1) := by decide +kernel
theorem dX10_mentors_98 : decode cX10_mentors 98 = .ok (.dup2, 1) := by decide +kernel
theorem dX10_mentors_99 : decode cX10_mentors 99 = .ok (.laload, 1) := by decide +kernel
theorem dX10_mentors_100 : decode cX10_mentors 100 = .ok (.lconst 1, 1) := by decide +kernel
theorem dX10_mentors_101 : decode cX10_mentors 101 = .ok (.ladd, 1) := by decide +kernel
theorem dX10_mentors_102 : decode cX10_mentors 102 = .ok (.lastore, 1) := by decide +kernel
theorem dX10_mentors_103 : decode cX10_mentors 103 = .ok (.iconst 0, 1) := by decide +kernel
theorem dX10_mentors_104 : decode cX10_mentors 104 = .ok (.ireturn, 1) := by decide +kernel
theorem dX10_apprentices_0 : decode cX10_apprentices 0 = .ok (.aload_n 0, 1) := by decide +kernel
theorem dX10_apprentices_1 : decode cX10_apprentices 1 = .ok (.iload_n 1, 1) := by decide +kernel
theorem dX10_apprentices_2 : decode cX10_apprentices 2 = .ok (.invokevirtual 120, 3) := by decide +kernel
theorem dX10_apprentices_5 : decode cX10_apprentices 5 = .ok (.ifCond .eq 16, 3) := by decide +kernel
theorem dX10_apprentices_8 : decode cX10_apprentices 8 = .ok (.iload_n 2, 1) := by decide +kernel
theorem dX10_apprentices_9 : decode cX10_apprentices 9 = .ok (.iconst (-1), 1) := by decide +kernel
theorem dX10_apprentices_10 : decode cX10_apprentices 10 = .ok (.if_icmp .eq 13, 3) := by decide +kernel
theorem dX10_apprentices_13 : decode cX10_apprentices 13 = .ok (.aload_n 0, 1) := by decide +kernel
theorem dX10_apprentices_14 : decode cX10_apprentices 14 = .ok (.iload_n 2, 1) := by decide +kernel
theorem dX10_apprentices_15 : decode cX10_apprentices 15 = .ok (.invokevirtual 123, 3) := by decide +kernel
theorem dX10_apprentices_18 : decode cX10_apprentices 18 = .ok (.ifCond .ne 5, 3) := by decide +kernel
theorem dX10_apprentices_21 : decode cX10_apprentices 21 = .ok (.iconst 1, 1) := by decide +kernel
theorem dX10_apprentices_22 : decode cX10_apprentices 22 = .ok (.ireturn, 1) := by decide +kernel
theorem dX10_apprentices_23 : decode cX10_apprentices 23 = .ok (.aload_n 0, 1) := by decide +kernel
theorem dX10_apprentices_24 : decode cX10_apprentices 24 = .ok (.getfield 7, 3) := by decide +kernel
theorem dX10_apprentices_27 : decode cX10_apprentices 27 = .ok (.iconst 2, 1) := by decide +kernel
theorem dX10_apprentices_28 : decode cX10_apprentices 28 = .ok (.laload, 1) := by decide +kernel
theorem dX10_apprentices_29 : decode cX10_apprentices 29 = .ok (.ldc2_w 126, 3) := by decide +kernel
theorem dX10_apprentices_32 : decode cX10_apprentices 32 = .ok (.lcmp, 1) := by decide +kernel
theorem dX10_apprentices_33 : decode cX10_apprentices 33 = .ok (.ifCond .eq 26, 3) := by decide +kernel
theorem dX10_apprentices_36 : decode cX10_apprentices 36 = .ok (.iload_n 2, 1) := by decide +kernel
theorem dX10_apprentices_37 : decode cX10_apprentices 37 = .ok (.iconst (-1), 1) := by decide +kernel
theorem dX10_apprentices_38 : decode cX10_apprentices 38 = .ok (.if_icmp .eq 23, 3) := by decide +kernel
theorem dX10_apprentices_41 : decode cX10_apprentices 41 = .ok (.aload_n 0, 1) := by decide +kernel
theorem dX10_apprentices_42 : decode cX10_apprentices 42 = .ok (.iload_n 2, 1) := by decide +kernel
theorem dX10_apprentices_43 : decode cX10_apprentices 43 = .ok (.iload_n 1, 1) := by decide +kernel
theorem dX10_apprentices_44 : decode cX10_apprentices 44 = .ok (.i2l, 1) := by decide +kernel
theorem dX10_apprentices_45 : decode cX10_apprentices 45 = .ok (.invokevirtual 92, 3) := by decide +kernel
theorem dX10_apprentices_48 : decode cX10_apprentices 48 = .ok (.ifCond .eq 11, 3) := by decide +kernel
theorem dX10_apprentices_51 : decode cX10_apprentices 51 = .ok (.aload_n 0, 1) := by decide +kernel
theorem dX10_apprentices_52 : decode cX10_apprentices 52 = .ok (.iload_n 2, 1) := by decide +kernel
theorem dX10_apprentices_53 : decode cX10_apprentices 53 = .ok (.invokevirtual 96, 3) := by decide +kernel
theorem dX10_apprentices_56 : decode cX10_apprentices 56 = .ok (.ifCond .eq 5, 3) := by decide +kernel
theorem dX10_apprentices_59 : decode cX10_apprentices 59 = .ok (.iconst 2, 1) := by decide +kernel
theorem dX10_apprentices_60 : decode cX10_apprentices 60 = .ok (.ireturn, 1) := by decide +kernel
theorem dX10_apprentices_61 : decode cX10_apprentices 61 = .ok (.aload_n 0, 1) := by decide +kernel
theorem dX10_apprentices_62 : decode cX10_apprentices 62 = .ok (.getfield 7, 3) := by decide +kernel
theorem dX10_apprentices_65 : decode cX10_apprentices 65 = .ok (.iconst 2, 1) := by decide +kernel
theorem dX10_apprentices_66 : decode cX10_apprentices 66 = .ok (.laload, 1) := by decide +kernel
theorem dX10_apprentices_67 : decode cX10_apprentices 67 = .ok (.l2i, 1) := by decide +kernel
theorem dX10_apprentices_68 : decode cX10_apprentices 68 = .ok (.istore_n 3, 1) := by decide +kernel
theorem dX10_apprentices_69 : decode cX10_apprentices 69 = .ok (.iconst 0, 1) := by decide +kernel
theorem dX10_apprentices_70 : decode cX10_apprentices 70 = .ok (.istore 4, 2) := by decide +kernel
theorem dX10_apprentices_72 : decode cX10_apprentices 72 = .ok (.iload 4, 2) := by decide +kernel
theorem dX10_apprentices_74 : decode cX10_apprentices 74 = .ok (.bipush 39, 2) := by decide +kernel
theorem dX10_apprentices_76 : decode cX10_apprentices 76 = .ok (.if_icmp .ge 17, 3) := by decide +kernel
theorem dX10_apprentices_79 : decode cX10_apprentices 79 = .ok (.aload_n 0, 1) := by decide +kernel
theorem dX10_apprentices_80 : decode cX10_apprentices 80 = .ok (.iload_n 3, 1) := by decide +kernel
theorem dX10_apprentices_81 : decode cX10_apprentices 81 = .ok (.iload 4, 2) := by decide +kernel
theorem dX10_apprentices_83 : decode cX10_apprentices 83 = .ok (.lconst 0, 1) := by decide +kernel
theorem dX10_apprentices_84 : decode cX10_apprentices 84 = .ok (.invokevirtual 60, 3) := by decide +kernel
theorem dX10_apprentices_87 : decode cX10_apprentices 87 = .ok (.iinc 4 1, 3) := by decide +kernel
theorem dX10_apprentices_90 : decode cX10_apprentices 90 = .ok (.goto (-18), 3) := by decide +kernel
theorem dX10_apprentices_93 : decode cX10_apprentices 93 = .ok (.aload_n 0, 1) := by decide +kernel
theorem dX10_apprentices_94 : decode cX10_apprentices 94 = .ok (.iload_n 3, 1) := by decide +kernel
theorem dX10_apprentices_95 : decode cX10_apprentices 95 = .ok (.iconst 0, 1) := by decide +kernel
theorem dX10_apprentices_96 : decode cX10_apprentices 96 = .ok (.iload_n 1, 1) := by decide +kernel
theorem dX10_apprentices_97 : decode cX10_apprentices 97 = .ok (.i2l, 1) := by decide +kernel
theorem dX10_apprentices_98 : decode cX10_apprentices 98 = .ok (.invokevirtual 60, 3) := by decide +kernel
theorem dX10_apprentices_101 : decode cX10_apprentices 101 = .ok (.aload_n 0, 1) := by decide +kernel
theorem dX10_apprentices_102 : decode cX10_apprentices 102 = .ok (.iload_n 3, 1) := by decide +kernel
theorem dX10_apprentices_103 : decode cX10_apprentices 103 = .ok (.iconst 1, 1) := by decide +kernel
theorem dX10_apprentices_104 : decode cX10_apprentices 104 = .ok (.iload_n 2, 1) := by decide +kernel
theorem dX10_apprentices_105 : decode cX10_apprentices 105 = .ok (.i2l, 1) := by decide +kernel
theorem dX10_apprentices_106 : decode cX10_apprentices 106 = .ok (.invokevirtual 60, 3) := by decide +kernel
theorem dX10_apprentices_109 : decode cX10_apprentices 109 = .ok (.aload_n 0, 1) := by decide +kernel
theorem dX10_apprentices_110 : decode cX10_apprentices 110 = .ok (.iload_n 3, 1) := by decide +kernel
theorem dX10_apprentices_111 : decode cX10_apprentices 111 = .ok (.i2l, 1) := by decide +kernel
theorem dX10_apprentices_112 : decode cX10_apprentices 112 = .ok (.putfield 112, 3) := by decide +kernel
theorem dX10_apprentices_115 : decode cX10_apprentices 115 = .ok (.aload_n 0, 1) := by decide +kernel
theorem dX10_apprentices_116 : decode cX10_apprentices 116 = .ok (.getfield 7, 3) := by decide +kernel
theorem dX10_apprentices_119 : decode cX10_apprentices 119 = .ok (.iconst 2, 1) := by decide +kernel
theorem dX10_apprentices_120 : decode cX10_apprentices 120 = .ok (.dup2, 1) := by decide +kernel
theorem dX10_apprentices_121 : decode cX10_apprentices 121 = .ok (.laload, 1) := by decide +kernel
theorem dX10_apprentices_122 : decode cX10_apprentices 122 = .ok (.lconst 1, 1) := by decide +kernel
theorem dX10_apprentices_123 : decode cX10_apprentices 123 = .ok (.ladd, 1) := by decide +kernel
theorem dX10_apprentices_124 : decode cX10_apprentices 124 = .ok (.lastore, 1) := by decide +kernel
theorem dX10_apprentices_125 : decode cX10_apprentices 125 = .ok (.iconst 0, 1) := by decide +kernel
theorem dX10_apprentices_126 : decode cX10_apprentices 126 = .ok (.ireturn, 1) := by decide +kernel
theorem dX10_frees_0 : decode cX10_frees 0 = .ok (.aload_n 0, 1) := by decide +kernel
theorem dX10_frees_1 : decode cX10_frees 1 = .ok (.iload_n 1, 1) := by decide +kernel
theorem dX10_frees_2 : decode cX10_frees 2 = .ok (.invokevirtual 128, 3) := by decide +kernel
theorem dX10_frees_5 : decode cX10_frees 5 = .ok (.ifCond .ne 5, 3) := by decide +kernel
theorem dX10_frees_8 : decode cX10_frees 8 = .ok (.iconst 1, 1) := by decide +kernel
theorem dX10_frees_9 : decode cX10_frees 9 = .ok (.ireturn, 1) := by decide +kernel
theorem dX10_frees_10 : decode cX10_frees 10 = .ok (.iload_n 2, 1) := by decide +kernel
theorem dX10_frees_11 : decode cX10_frees 11 = .ok (.i2l, 1) := by decide +kernel
theorem dX10_frees_12 : decode cX10_frees 12 = .ok (.lconst 0, 1) := by decide +kernel
theorem dX10_frees_13 : decode cX10_frees 13 = .ok (.ldc2_w 131, 3) := by decide +kernel
theorem dX10_frees_16 : decode cX10_frees 16 = .ok (.invokestatic 50, 3) := by decide +kernel
theorem dX10_frees_19 : decode cX10_frees 19 = .ok (.ifCond .ne 5, 3) := by decide +kernel
theorem dX10_frees_22 : decode cX10_frees 22 = .ok (.iconst 2, 1) := by decide +kernel
theorem dX10_frees_23 : decode cX10_frees 23 = .ok (.ireturn, 1) := by decide +kernel
theorem dX10_frees_24 : decode cX10_frees 24 = .ok (.aload_n 0, 1) := by decide +kernel
theorem dX10_frees_25 : decode cX10_frees 25 = .ok (.iload_n 1, 1) := by decide +kernel
theorem dX10_frees_26 : decode cX10_frees 26 = .ok (.bipush 15, 2) := by decide +kernel
theorem dX10_frees_28 : decode cX10_frees 28 = .ok (.iload_n 2, 1) := by decide +kernel
theorem dX10_frees_29 : decode cX10_frees 29 = .ok (.invokevirtual 64, 3) := by decide +kernel
theorem dX10_frees_32 : decode cX10_frees 32 = .ok (.ifCond .eq 5, 3) := by decide +kernel
theorem dX10_frees_35 : decode cX10_frees 35 = .ok (.iconst 3, 1) := by decide +kernel
theorem dX10_frees_36 : decode cX10_frees 36 = .ok (.ireturn, 1) := by decide +kernel
theorem dX10_frees_37 : decode cX10_frees 37 = .ok (.aload_n 0, 1) := by decide +kernel
theorem dX10_frees_38 : decode cX10_frees 38 = .ok (.iload_n 1, 1) := by decide +kernel
theorem dX10_frees_39 : decode cX10_frees 39 = .ok (.bipush 11, 2) := by decide +kernel
theorem dX10_frees_41 : decode cX10_frees 41 = .ok (.iload_n 2, 1) := by decide +kernel
theorem dX10_frees_42 : decode cX10_frees 42 = .ok (.invokevirtual 133, 3) := by decide +kernel
theorem dX10_frees_45 : decode cX10_frees 45 = .ok (.aload_n 0, 1) := by decide +kernel
theorem dX10_frees_46 : decode cX10_frees 46 = .ok (.aload_n 0, 1) := by decide +kernel
theorem dX10_frees_47 : decode cX10_frees 47 = .ok (.iload_n 1, 1) := by decide +kernel
theorem dX10_frees_48 : decode cX10_frees 48 = .ok (.invokevirtual 137, 3) := by decide +kernel
theorem dX10_frees_51 : decode cX10_frees 51 = .ok (.i2l, 1) := by decide +kernel
theorem dX10_frees_52 : decode cX10_frees 52 = .ok (.putfield 112, 3) := by decide +kernel
theorem dX10_frees_55 : decode cX10_frees 55 = .ok (.iconst 0, 1) := by decide +kernel
theorem dX10_frees_56 : decode cX10_frees 56 = .ok (.ireturn, 1) := by decide +kernel
theorem dX10_logs_0 : decode cX10_logs 0 = .ok (.aload_n 0, 1) := by decide +kernel
theorem dX10_logs_1 : decode cX10_logs 1 = .ok (.iload_n 1, 1) := by decide +kernel
theorem dX10_logs_2 : decode cX10_logs 2 = .ok (.invokevirtual 128, 3) := by decide +kernel
theorem dX10_logs_5 : decode cX10_logs 5 = .ok (.ifCond .ne 5, 3) := by decide +kernel
theorem dX10_logs_8 : decode cX10_logs 8 = .ok (.iconst 1, 1) := by decide +kernel
theorem dX10_logs_9 : decode cX10_logs 9 = .ok (.ireturn, 1) := by decide +kernel
theorem dX10_logs_10 : decode cX10_logs 10 = .ok (.iload_n 2, 1) := by decide +kernel
theorem dX10_logs_11 : decode cX10_logs 11 = .ok (.invokestatic 140, 3) := by decide +kernel
theorem dX10_logs_14 : decode cX10_logs 14 = .ok (.ifCond .eq 15, 3) := by decide +kernel
theorem dX10_logs_17 : decode cX10_logs 17 = .ok (.iload_n 3, 1) := by decide +kernel
theorem dX10_logs_18 : decode cX10_logs 18 = .ok (.i2l, 1) := by decide +kernel
theorem dX10_logs_19 : decode cX10_logs 19 = .ok (.lconst 1, 1) := by decide +kernel
theorem dX10_logs_20 : decode cX10_logs 20 = .ok (.ldc2_w 143, 3) := by decide +kernel
theorem dX10_logs_23 : decode cX10_logs 23 = .ok (.invokestatic 50, 3) := by decide +kernel
theorem dX10_logs_26 : decode cX10_logs 26 = .ok (.ifCond .ne 5, 3) := by decide +kernel
theorem dX10_logs_29 : decode cX10_logs 29 = .ok (.iconst 2, 1) := by decide +kernel
theorem dX10_logs_30 : decode cX10_logs 30 = .ok (.ireturn, 1) := by decide +kernel
theorem dX10_logs_31 : decode cX10_logs 31 = .ok (.aload_n 0, 1) := by decide +kernel
theorem dX10_logs_32 : decode cX10_logs 32 = .ok (.getfield 7, 3) := by decide +kernel
theorem dX10_logs_35 : decode cX10_logs 35 = .ok (.iconst 3, 1) := by decide +kernel
theorem dX10_logs_36 : decode cX10_logs 36 = .ok (.laload, 1) := by decide +kernel
theorem dX10_logs_37 : decode cX10_logs 37 = .ok (.l2i, 1) := by decide +kernel
theorem dX10_logs_38 : decode cX10_logs 38 = .ok (.istore 4, 2) := by decide +kernel
theorem dX10_logs_40 : decode cX10_logs 40 = .ok (.aload_n 0, 1) := by decide +kernel
theorem dX10_logs_41 : decode cX10_logs 41 = .ok (.iload_n 1, 1) := by decide +kernel
theorem dX10_logs_42 : decode cX10_logs 42 = .ok (.invokevirtual 83, 3) := by decide +kernel
theorem dX10_logs_45 : decode cX10_logs 45 = .ok (.iconst (-1), 1) := by decide +kernel
theorem dX10_logs_46 : decode cX10_logs 46 = .ok (.if_icmp .eq 42, 3) := by decide +kernel
theorem dX10_logs_49 : decode cX10_logs 49 = .ok (.aload_n 0, 1) := by decide +kernel
theorem dX10_logs_50 : decode cX10_logs 50 = .ok (.iload_n 1, 1) := by decide +kernel
theorem dX10_logs_51 : decode cX10_logs 51 = .ok (.bipush 11, 2) := by decide +kernel
theorem dX10_logs_53 : decode cX10_logs 53 = .ok (.iload 4, 2) := by decide +kernel
theorem dX10_logs_55 : decode cX10_logs 55 = .ok (.invokevirtual 64, 3) := by decide +kernel
theorem dX10_logs_58 : decode cX10_logs 58 = .ok (.ifCond .ne 30, 3) := by decide +kernel
theorem dX10_logs_61 : decode cX10_logs 61 = .ok (.aload_n 0, 1) := by decide +kernel
theorem dX10_logs_62 : decode cX10_logs 62 = .ok (.iload_n 1, 1) := by decide +kernel
theorem dX10_logs_63 : decode cX10_logs 63 = .ok (.bipush 8, 2) := by decide +kernel
theorem dX10_logs_65 : decode cX10_logs 65 = .ok (.invokevirtual 56, 3) := by decide +kernel
theorem dX10_logs_68 : decode cX10_logs 68 = .ok (.iload_n 3, 1) := by decide +kernel
theorem dX10_logs_69 : decode cX10_logs 69 = .ok (.i2l, 1) := by decide +kernel
theorem dX10_logs_70 : decode cX10_logs 70 = .ok (.ladd, 1) := by decide +kernel
theorem dX10_logs_71 : decode cX10_logs 71 = .ok (.ldc2_w 143, 3) := by decide +kernel
theorem dX10_logs_74 : decode cX10_logs 74 = .ok (.lcmp, 1) := by decide +kernel
theorem dX10_logs_75 : decode cX10_logs 75 = .ok (.ifCond .gt 13, 3) := by decide +kernel
theorem dX10_logs_78 : decode cX10_logs 78 = .ok (.aload_n 0, 1) := by decide +kernel
theorem dX10_logs_79 : decode cX10_logs 79 = .ok (.iload_n 1, 1) := by decide +kernel
theorem dX10_logs_80 : decode cX10_logs 80 = .ok (.invokevirtual 68, 3) := by decide +kernel
theorem dX10_logs_83 : decode cX10_logs 83 = .ok (.bipush 20, 2) := by decide +kernel
theorem dX10_logs_85 : decode cX10_logs 85 = .ok (.if_icmp .ne 5, 3) := by decide +kernel
theorem dX10_logs_88 : decode cX10_logs 88 = .ok (.iconst 3, 1) := by decide +kernel
theorem dX10_logs_89 : decode cX10_logs 89 = .ok (.ireturn, 1) := by decide +kernel
theorem dX10_logs_90 : decode cX10_logs 90 = .ok (.aload_n 0, 1) := by decide +kernel
theorem dX10_logs_91 : decode cX10_logs 91 = .ok (.iload_n 1, 1) := by decide +kernel
theorem dX10_logs_92 : decode cX10_logs 92 = .ok (.invokevirtual 68, 3) := by decide +kernel
theorem dX10_logs_95 : decode cX10_logs 95 = .ok (.istore 5, 2) := by decide +kernel
theorem dX10_logs_97 : decode cX10_logs 97 = .ok (.iload 5, 2) := by decide +kernel
theorem dX10_logs_99 : decode cX10_logs 99 = .ok (.i2l, 1) := by decide +kernel
theorem dX10_logs_100 : decode cX10_logs 100 = .ok (.aload_n 0, 1) := by decide +kernel
theorem dX10_logs_101 : decode cX10_logs 101 = .ok (.iload_n 1, 1) := by decide +kernel
theorem dX10_logs_102 : decode cX10_logs 102 = .ok (.bipush 9, 2) := by decide +kernel
theorem dX10_logs_104 : decode cX10_logs 104 = .ok (.invokevirtual 56, 3) := by decide +kernel
theorem dX10_logs_107 : decode cX10_logs 107 = .ok (.lcmp, 1) := by decide +kernel
theorem dX10_logs_108 : decode cX10_logs 108 = .ok (.ifCond .le 31, 3) := by decide +kernel
theorem dX10_logs_111 : decode cX10_logs 111 = .ok (.aload_n 0, 1) := by decide +kernel
theorem dX10_logs_112 : decode cX10_logs 112 = .ok (.iload_n 1, 1) := by decide +kernel
theorem dX10_logs_113 : decode cX10_logs 113 = .ok (.bipush 19, 2) := by decide +kernel
theorem dX10_logs_115 : decode cX10_logs 115 = .ok (.iload 5, 2) := by decide +kernel
theorem dX10_logs_117 : decode cX10_logs 117 = .ok (.iadd, 1) := by decide +kernel
theorem dX10_logs_118 : decode cX10_logs 118 = .ok (.aload_n 0, 1) := by decide +kernel
theorem dX10_logs_119 : decode cX10_logs 119 = .ok (.iload_n 1, 1) := by decide +kernel
theorem dX10_logs_120 : decode cX10_logs 120 = .ok (.bipush 19, 2) := by decide +kernel
theorem dX10_logs_122 : decode cX10_logs 122 = .ok (.iload 5, 2) := by decide +kernel
theorem dX10_logs_124 : decode cX10_logs 124 = .ok (.iadd, 1) := by decide +kernel
theorem dX10_logs_125 : decode cX10_logs 125 = .ok (.iconst 1, 1) := by decide +kernel
theorem dX10_logs_126 : decode cX10_logs 126 = .ok (.isub, 1) := by decide +kernel
theorem dX10_logs_127 : decode cX10_logs 127 = .ok (.invokevirtual 56, 3) := by decide +kernel
theorem dX10_logs_130 : decode cX10_logs 130 = .ok (.invokevirtual 60, 3) := by decide +kernel
theorem dX10_logs_133 : decode cX10_logs 133 = .ok (.iinc 5 (-1), 3) := by decide +kernel
theorem dX10_logs_136 : decode cX10_logs 136 = .ok (.goto (-39), 3) := by decide +kernel
theorem dX10_logs_139 : decode cX10_logs 139 = .ok (.aload_n 0, 1) := by decide +kernel
theorem dX10_logs_140 : decode cX10_logs 140 = .ok (.iload_n 1, 1) := by decide +kernel
theorem dX10_logs_141 : decode cX10_logs 141 = .ok (.bipush 19, 2) := by decide +kernel
theorem dX10_logs_143 : decode cX10_logs 143 = .ok (.aload_n 0, 1) := by decide +kernel
theorem dX10_logs_144 : decode cX10_logs 144 = .ok (.iload_n 1, 1) := by decide +kernel
theorem dX10_logs_145 : decode cX10_logs 145 = .ok (.bipush 9, 2) := by decide +kernel
theorem dX10_logs_147 : decode cX10_logs 147 = .ok (.invokevirtual 56, 3) := by decide +kernel
theorem dX10_logs_150 : decode cX10_logs 150 = .ok (.l2i, 1) := by decide +kernel
theorem dX10_logs_151 : decode cX10_logs 151 = .ok (.iadd, 1) := by decide +kernel
theorem dX10_logs_152 : decode cX10_logs 152 = .ok (.iload_n 2, 1) := by decide +kernel
theorem dX10_logs_153 : decode cX10_logs 153 = .ok (.i2l, 1) := by decide +kernel
theorem dX10_logs_154 : decode cX10_logs 154 = .ok (.ldc2_w 145, 3) := by decide +kernel
theorem dX10_logs_157 : decode cX10_logs 157 = .ok (.iload_n 3, 1) := by decide +kernel
theorem dX10_logs_158 : decode cX10_logs 158 = .ok (.i2l, 1) := by decide +kernel
theorem dX10_logs_159 : decode cX10_logs 159 = .ok (.lmul, 1) := by decide +kernel
theorem dX10_logs_160 : decode cX10_logs 160 = .ok (.ladd, 1) := by decide +kernel
theorem dX10_logs_161 : decode cX10_logs 161 = .ok (.ldc2_w 147, 3) := by decide +kernel
theorem dX10_logs_164 : decode cX10_logs 164 = .ok (.aload_n 0, 1) := by decide +kernel
theorem dX10_logs_165 : decode cX10_logs 165 = .ok (.iload_n 1, 1) := by decide +kernel
theorem dX10_logs_166 : decode cX10_logs 166 = .ok (.invokevirtual 83, 3) := by decide +kernel
theorem dX10_logs_169 : decode cX10_logs 169 = .ok (.i2l, 1) := by decide +kernel
theorem dX10_logs_170 : decode cX10_logs 170 = .ok (.lmul, 1) := by decide +kernel
theorem dX10_logs_171 : decode cX10_logs 171 = .ok (.ladd, 1) := by decide +kernel
theorem dX10_logs_172 : decode cX10_logs 172 = .ok (.ldc2_w 149, 3) := by decide +kernel
theorem dX10_logs_175 : decode cX10_logs 175 = .ok (.iload 4, 2) := by decide +kernel
theorem dX10_logs_177 : decode cX10_logs 177 = .ok (.i2l, 1) := by decide +kernel
theorem dX10_logs_178 : decode cX10_logs 178 = .ok (.lmul, 1) := by decide +kernel
theorem dX10_logs_179 : decode cX10_logs 179 = .ok (.ladd, 1) := by decide +kernel
theorem dX10_logs_180 : decode cX10_logs 180 = .ok (.invokevirtual 60, 3) := by decide +kernel
theorem dX10_logs_183 : decode cX10_logs 183 = .ok (.aload_n 0, 1) := by decide +kernel
theorem dX10_logs_184 : decode cX10_logs 184 = .ok (.iload_n 1, 1) := by decide +kernel
theorem dX10_logs_185 : decode cX10_logs 185 = .ok (.bipush 9, 2) := by decide +kernel
theorem dX10_logs_187 : decode cX10_logs 187 = .ok (.lconst 1, 1) := by decide +kernel
theorem dX10_logs_188 : decode cX10_logs 188 = .ok (.invokevirtual 76, 3) := by decide +kernel
theorem dX10_logs_191 : decode cX10_logs 191 = .ok (.aload_n 0, 1) := by decide +kernel
theorem dX10_logs_192 : decode cX10_logs 192 = .ok (.iload_n 1, 1) := by decide +kernel
theorem dX10_logs_193 : decode cX10_logs 193 = .ok (.bipush 7, 2) := by decide +kernel
theorem dX10_logs_195 : decode cX10_logs 195 = .ok (.aload_n 0, 1) := by decide +kernel
theorem dX10_logs_196 : decode cX10_logs 196 = .ok (.iload_n 1, 1) := by decide +kernel
theorem dX10_logs_197 : decode cX10_logs 197 = .ok (.bipush 8, 2) := by decide +kernel
theorem dX10_logs_199 : decode cX10_logs 199 = .ok (.invokevirtual 56, 3) := by decide +kernel
theorem dX10_logs_202 : decode cX10_logs 202 = .ok (.lconst 0, 1) := by decide +kernel
theorem dX10_logs_203 : decode cX10_logs 203 = .ok (.lcmp, 1) := by decide +kernel
theorem dX10_logs_204 : decode cX10_logs 204 = .ok (.ifCond .ne 7, 3) := by decide +kernel
theorem dX10_logs_207 : decode cX10_logs 207 = .ok (.lconst 1, 1) := by decide +kernel
theorem dX10_logs_208 : decode cX10_logs 208 = .ok (.goto 4, 3) := by decide +kernel
theorem dX10_logs_211 : decode cX10_logs 211 = .ok (.lconst 0, 1) := by decide +kernel
theorem dX10_logs_212 : decode cX10_logs 212 = .ok (.invokevirtual 76, 3) := by decide +kernel
theorem dX10_logs_215 : decode cX10_logs 215 = .ok (.aload_n 0, 1) := by decide +kernel
theorem dX10_logs_216 : decode cX10_logs 216 = .ok (.iload_n 1, 1) := by decide +kernel
theorem dX10_logs_217 : decode cX10_logs 217 = .ok (.bipush 8, 2) := by decide +kernel
theorem dX10_logs_219 : decode cX10_logs 219 = .ok (.iload_n 3, 1) := by decide +kernel
theorem dX10_logs_220 : decode cX10_logs 220 = .ok (.i2l, 1) := by decide +kernel
theorem dX10_logs_221 : decode cX10_logs 221 = .ok (.invokevirtual 76, 3) := by decide +kernel
theorem dX10_logs_224 : decode cX10_logs 224 = .ok (.aload_n 0, 1) := by decide +kernel
theorem dX10_logs_225 : decode cX10_logs 225 = .ok (.iload_n 1, 1) := by decide +kernel
theorem dX10_logs_226 : decode cX10_logs 226 = .ok (.bipush 15, 2) := by decide +kernel
theorem dX10_logs_228 : decode cX10_logs 228 = .ok (.iload 4, 2) := by decide +kernel
theorem dX10_logs_230 : decode cX10_logs 230 = .ok (.invokevirtual 133, 3) := by decide +kernel
theorem dX10_logs_233 : decode cX10_logs 233 = .ok (.aload_n 0, 1) := by decide +kernel
theorem dX10_logs_234 : decode cX10_logs 234 = .ok (.aload_n 0, 1) := by decide +kernel
theorem dX10_logs_235 : decode cX10_logs 235 = .ok (.iload_n 1, 1) := by decide +kernel
theorem dX10_logs_236 : decode cX10_logs 236 = .ok (.bipush 9, 2) := by decide +kernel
theorem dX10_logs_238 : decode cX10_logs 238 = .ok (.invokevirtual 56, 3) := by decide +kernel
theorem dX10_logs_241 : decode cX10_logs 241 = .ok (.putfield 112, 3) := by decide +kernel
theorem dX10_logs_244 : decode cX10_logs 244 = .ok (.iconst 0, 1) := by decide +kernel
theorem dX10_logs_245 : decode cX10_logs 245 = .ok (.ireturn, 1) := by decide +kernel
theorem dX10_confirms_0 : decode cX10_confirms 0 = .ok (.aload_n 0, 1) := by decide +kernel
theorem dX10_confirms_1 : decode cX10_confirms 1 = .ok (.iload_n 1, 1) := by decide +kernel
theorem dX10_confirms_2 : decode cX10_confirms 2 = .ok (.invokevirtual 123, 3) := by decide +kernel
theorem dX10_confirms_5 : decode cX10_confirms 5 = .ok (.ifCond .ne 5, 3) := by decide +kernel
theorem dX10_confirms_8 : decode cX10_confirms 8 = .ok (.iconst 1, 1) := by decide +kernel
theorem dX10_confirms_9 : decode cX10_confirms 9 = .ok (.ireturn, 1) := by decide +kernel
theorem dX10_confirms_10 : decode cX10_confirms 10 = .ok (.iload_n 2, 1) := by decide +kernel
theorem dX10_confirms_11 : decode cX10_confirms 11 = .ok (.i2l, 1) := by decide +kernel
theorem dX10_confirms_12 : decode cX10_confirms 12 = .ok (.lconst 1, 1) := by decide +kernel
theorem dX10_confirms_13 : decode cX10_confirms 13 = .ok (.ldc2_w 151, 3) := by decide +kernel
theorem dX10_confirms_16 : decode cX10_confirms 16 = .ok (.invokestatic 50, 3) := by decide +kernel
theorem dX10_confirms_19 : decode cX10_confirms 19 = .ok (.ifCond .ne 5, 3) := by decide +kernel
theorem dX10_confirms_22 : decode cX10_confirms 22 = .ok (.iconst 2, 1) := by decide +kernel
theorem dX10_confirms_23 : decode cX10_confirms 23 = .ok (.ireturn, 1) := by decide +kernel
theorem dX10_confirms_24 : decode cX10_confirms 24 = .ok (.iconst 0, 1) := by decide +kernel
theorem dX10_confirms_25 : decode cX10_confirms 25 = .ok (.istore_n 3, 1) := by decide +kernel
theorem dX10_confirms_26 : decode cX10_confirms 26 = .ok (.iconst 0, 1) := by decide +kernel
theorem dX10_confirms_27 : decode cX10_confirms 27 = .ok (.istore 4, 2) := by decide +kernel
theorem dX10_confirms_29 : decode cX10_confirms 29 = .ok (.iload 4, 2) := by decide +kernel
theorem dX10_confirms_31 : decode cX10_confirms 31 = .ok (.i2l, 1) := by decide +kernel
theorem dX10_confirms_32 : decode cX10_confirms 32 = .ok (.aload_n 0, 1) := by decide +kernel
theorem dX10_confirms_33 : decode cX10_confirms 33 = .ok (.getfield 7, 3) := by decide +kernel
theorem dX10_confirms_36 : decode cX10_confirms 36 = .ok (.iconst 2, 1) := by decide +kernel
theorem dX10_confirms_37 : decode cX10_confirms 37 = .ok (.laload, 1) := by decide +kernel
theorem dX10_confirms_38 : decode cX10_confirms 38 = .ok (.lcmp, 1) := by decide +kernel
theorem dX10_confirms_39 : decode cX10_confirms 39 = .ok (.ifCond .ge 147, 3) := by decide +kernel
theorem dX10_confirms_42 : decode cX10_confirms 42 = .ok (.iconst 0, 1) := by decide +kernel
theorem dX10_confirms_43 : decode cX10_confirms 43 = .ok (.istore 5, 2) := by decide +kernel
theorem dX10_confirms_45 : decode cX10_confirms 45 = .ok (.aload_n 0, 1) := by decide +kernel
theorem dX10_confirms_46 : decode cX10_confirms 46 = .ok (.iload 4, 2) := by decide +kernel
theorem dX10_confirms_48 : decode cX10_confirms 48 = .ok (.invokevirtual 83, 3) := by decide +kernel
theorem dX10_confirms_51 : decode cX10_confirms 51 = .ok (.iload_n 1, 1) := by decide +kernel
theorem dX10_confirms_52 : decode cX10_confirms 52 = .ok (.if_icmp .ne 128, 3) := by decide +kernel
theorem dX10_confirms_55 : decode cX10_confirms 55 = .ok (.iload 5, 2) := by decide +kernel
theorem dX10_confirms_57 : decode cX10_confirms 57 = .ok (.i2l, 1) := by decide +kernel
theorem dX10_confirms_58 : decode cX10_confirms 58 = .ok (.aload_n 0, 1) := by decide +kernel
theorem dX10_confirms_59 : decode cX10_confirms 59 = .ok (.iload 4, 2) := by decide +kernel
theorem dX10_confirms_61 : decode cX10_confirms 61 = .ok (.bipush 9, 2) := by decide +kernel
theorem dX10_confirms_63 : decode cX10_confirms 63 = .ok (.invokevirtual 56, 3) := by decide +kernel
theorem dX10_confirms_66 : decode cX10_confirms 66 = .ok (.lcmp, 1) := by decide +kernel
theorem dX10_confirms_67 : decode cX10_confirms 67 = .ok (.ifCond .ge 113, 3) := by decide +kernel
theorem dX10_confirms_70 : decode cX10_confirms 70 = .ok (.iload_n 3, 1) := by decide +kernel
theorem dX10_confirms_71 : decode cX10_confirms 71 = .ok (.iload_n 2, 1) := by decide +kernel
theorem dX10_confirms_72 : decode cX10_confirms 72 = .ok (.if_icmp .ge 108, 3) := by decide +kernel
theorem dX10_confirms_75 : decode cX10_confirms 75 = .ok (.aload_n 0, 1) := by decide +kernel
theorem dX10_confirms_76 : decode cX10_confirms 76 = .ok (.iload 4, 2) := by decide +kernel
theorem dX10_confirms_78 : decode cX10_confirms 78 = .ok (.iload 5, 2) := by decide +kernel
theorem dX10_confirms_80 : decode cX10_confirms 80 = .ok (.iconst 3, 1) := by decide +kernel
theorem dX10_confirms_81 : decode cX10_confirms 81 = .ok (.invokevirtual 79, 3) := by decide +kernel
theorem dX10_confirms_84 : decode cX10_confirms 84 = .ok (.iload_n 1, 1) := by decide +kernel
theorem dX10_confirms_85 : decode cX10_confirms 85 = .ok (.if_icmp .ne 89, 3) := by decide +kernel
theorem dX10_confirms_88 : decode cX10_confirms 88 = .ok (.iconst 2, 1) := by decide +kernel
theorem dX10_confirms_89 : decode cX10_confirms 89 = .ok (.aload_n 0, 1) := by decide +kernel
theorem dX10_confirms_90 : decode cX10_confirms 90 = .ok (.iload 4, 2) := by decide +kernel
theorem dX10_confirms_92 : decode cX10_confirms 92 = .ok (.iload 5, 2) := by decide +kernel
theorem dX10_confirms_94 : decode cX10_confirms 94 = .ok (.iconst 0, 1) := by decide +kernel
theorem dX10_confirms_95 : decode cX10_confirms 95 = .ok (.invokevirtual 79, 3) := by decide +kernel
theorem dX10_confirms_98 : decode cX10_confirms 98 = .ok (.iadd, 1) := by decide +kernel
theorem dX10_confirms_99 : decode cX10_confirms 99 = .ok (.istore 6, 2) := by decide +kernel
theorem dX10_confirms_101 : decode cX10_confirms 101 = .ok (.aload_n 0, 1) := by decide +kernel
theorem dX10_confirms_102 : decode cX10_confirms 102 = .ok (.iload 4, 2) := by decide +kernel
theorem dX10_confirms_104 : decode cX10_confirms 104 = .ok (.iload 6, 2) := by decide +kernel
theorem dX10_confirms_106 : decode cX10_confirms 106 = .ok (.aload_n 0, 1) := by decide +kernel
theorem dX10_confirms_107 : decode cX10_confirms 107 = .ok (.iload 4, 2) := by decide +kernel
theorem dX10_confirms_109 : decode cX10_confirms 109 = .ok (.iload 5, 2) := by decide +kernel
theorem dX10_confirms_111 : decode cX10_confirms 111 = .ok (.iconst 1, 1) := by decide +kernel
theorem dX10_confirms_112 : decode cX10_confirms 112 = .ok (.invokevirtual 79, 3) := by decide +kernel
theorem dX10_confirms_115 : decode cX10_confirms 115 = .ok (.i2l, 1) := by decide +kernel
theorem dX10_confirms_116 : decode cX10_confirms 116 = .ok (.invokevirtual 76, 3) := by decide +kernel
theorem dX10_confirms_119 : decode cX10_confirms 119 = .ok (.aload_n 0, 1) := by decide +kernel
theorem dX10_confirms_120 : decode cX10_confirms 120 = .ok (.iload 4, 2) := by decide +kernel
theorem dX10_confirms_122 : decode cX10_confirms 122 = .ok (.iload 6, 2) := by decide +kernel
theorem dX10_confirms_124 : decode cX10_confirms 124 = .ok (.invokevirtual 56, 3) := by decide +kernel
theorem dX10_confirms_127 : decode cX10_confirms 127 = .ok (.ldc2_w 153, 3) := by decide +kernel
theorem dX10_confirms_130 : decode cX10_confirms 130 = .ok (.lcmp, 1) := by decide +kernel
theorem dX10_confirms_131 : decode cX10_confirms 131 = .ok (.ifCond .le 5, 3) := by decide +kernel
theorem dX10_confirms_134 : decode cX10_confirms 134 = .ok (.iconst 3, 1) := by decide +kernel
theorem dX10_confirms_135 : decode cX10_confirms 135 = .ok (.ireturn, 1) := by decide +kernel
theorem dX10_confirms_136 : decode cX10_confirms 136 = .ok (.aload_n 0, 1) := by decide +kernel
theorem dX10_confirms_137 : decode cX10_confirms 137 = .ok (.iload 4, 2) := by decide +kernel
theorem dX10_confirms_139 : decode cX10_confirms 139 = .ok (.iload 5, 2) := by decide +kernel
theorem dX10_confirms_141 : decode cX10_confirms 141 = .ok (.invokevirtual 71, 3) := by decide +kernel
theorem dX10_confirms_144 : decode cX10_confirms 144 = .ok (.lstore 7, 2) := by decide +kernel
theorem dX10_confirms_146 : decode cX10_confirms 146 = .ok (.aload_n 0, 1) := by decide +kernel
theorem dX10_confirms_147 : decode cX10_confirms 147 = .ok (.iload 4, 2) := by decide +kernel
theorem dX10_confirms_149 : decode cX10_confirms 149 = .ok (.bipush 9, 2) := by decide +kernel
theorem dX10_confirms_151 : decode cX10_confirms 151 = .ok (.lload 7, 2) := by decide +kernel
theorem dX10_confirms_153 : decode cX10_confirms 153 = .ok (.lconst 0, 1) := by decide +kernel
theorem dX10_confirms_154 : decode cX10_confirms 154 = .ok (.lcmp, 1) := by decide +kernel
theorem dX10_confirms_155 : decode cX10_confirms 155 = .ok (.ifCond .ge 7, 3) := by decide +kernel
theorem dX10_confirms_158 : decode cX10_confirms 158 = .ok (.lconst 0, 1) := by decide +kernel
theorem dX10_confirms_159 : decode cX10_confirms 159 = .ok (.goto 6, 3) := by decide +kernel
theorem dX10_confirms_162 : decode cX10_confirms 162 = .ok (.ldc2_w 74, 3) := by decide +kernel
theorem dX10_confirms_165 : decode cX10_confirms 165 = .ok (.invokevirtual 76, 3) := by decide +kernel
theorem dX10_confirms_168 : decode cX10_confirms 168 = .ok (.iinc 3 1, 3) := by decide +kernel
theorem dX10_confirms_171 : decode cX10_confirms 171 = .ok (.goto (-126), 3) := by decide +kernel
theorem dX10_confirms_174 : decode cX10_confirms 174 = .ok (.iinc 5 1, 3) := by decide +kernel
theorem dX10_confirms_177 : decode cX10_confirms 177 = .ok (.goto (-132), 3) := by decide +kernel
theorem dX10_confirms_180 : decode cX10_confirms 180 = .ok (.iinc 4 1, 3) := by decide +kernel
theorem dX10_confirms_183 : decode cX10_confirms 183 = .ok (.goto (-154), 3) := by decide +kernel
theorem dX10_confirms_186 : decode cX10_confirms 186 = .ok (.aload_n 0, 1) := by decide +kernel
theorem dX10_confirms_187 : decode cX10_confirms 187 = .ok (.getfield 7, 3) := by decide +kernel
theorem dX10_confirms_190 : decode cX10_confirms 190 = .ok (.bipush 19, 2) := by decide +kernel
theorem dX10_confirms_192 : decode cX10_confirms 192 = .ok (.iconst 3, 1) := by decide +kernel
theorem dX10_confirms_193 : decode cX10_confirms 193 = .ok (.iload_n 1, 1) := by decide +kernel
theorem dX10_confirms_194 : decode cX10_confirms 194 = .ok (.imul, 1) := by decide +kernel
theorem dX10_confirms_195 : decode cX10_confirms 195 = .ok (.iadd, 1) := by decide +kernel
theorem dX10_confirms_196 : decode cX10_confirms 196 = .ok (.iconst 2, 1) := by decide +kernel
theorem dX10_confirms_197 : decode cX10_confirms 197 = .ok (.iadd, 1) := by decide +kernel
theorem dX10_confirms_198 : decode cX10_confirms 198 = .ok (.dup2, 1) := by decide +kernel
theorem dX10_confirms_199 : decode cX10_confirms 199 = .ok (.laload, 1) := by decide +kernel
theorem dX10_confirms_200 : decode cX10_confirms 200 = .ok (.iload_n 3, 1) := by decide +kernel
theorem dX10_confirms_201 : decode cX10_confirms 201 = .ok (.i2l, 1) := by decide +kernel
theorem dX10_confirms_202 : decode cX10_confirms 202 = .ok (.ladd, 1) := by decide +kernel
theorem dX10_confirms_203 : decode cX10_confirms 203 = .ok (.lastore, 1) := by decide +kernel
theorem dX10_confirms_204 : decode cX10_confirms 204 = .ok (.aload_n 0, 1) := by decide +kernel
theorem dX10_confirms_205 : decode cX10_confirms 205 = .ok (.iload_n 3, 1) := by decide +kernel
theorem dX10_confirms_206 : decode cX10_confirms 206 = .ok (.i2l, 1) := by decide +kernel
theorem dX10_confirms_207 : decode cX10_confirms 207 = .ok (.putfield 112, 3) := by decide +kernel
theorem dX10_confirms_210 : decode cX10_confirms 210 = .ok (.iconst 0, 1) := by decide +kernel
theorem dX10_confirms_211 : decode cX10_confirms 211 = .ok (.ireturn, 1) := by decide +kernel
theorem dX10_doubtsOldest_0 : decode cX10_doubtsOldest 0 = .ok (.aload_n 0, 1) := by decide +kernel
theorem dX10_doubtsOldest_1 : decode cX10_doubtsOldest 1 = .ok (.iload_n 1, 1) := by decide +kernel
theorem dX10_doubtsOldest_2 : decode cX10_doubtsOldest 2 = .ok (.invokevirtual 128, 3) := by decide +kernel
theorem dX10_doubtsOldest_5 : decode cX10_doubtsOldest 5 = .ok (.ifCond .ne 5, 3) := by decide +kernel
theorem dX10_doubtsOldest_8 : decode cX10_doubtsOldest 8 = .ok (.iconst 1, 1) := by decide +kernel
theorem dX10_doubtsOldest_9 : decode cX10_doubtsOldest 9 = .ok (.ireturn, 1) := by decide +kernel
theorem dX10_doubtsOldest_10 : decode cX10_doubtsOldest 10 = .ok (.aload_n 0, 1) := by decide +kernel
theorem dX10_doubtsOldest_11 : decode cX10_doubtsOldest 11 = .ok (.iload_n 1, 1) := by decide +kernel
theorem dX10_doubtsOldest_12 : decode cX10_doubtsOldest 12 = .ok (.invokevirtual 83, 3) := by decide +kernel
theorem dX10_doubtsOldest_15 : decode cX10_doubtsOldest 15 = .ok (.iconst (-1), 1) := by decide +kernel
theorem dX10_doubtsOldest_16 : decode cX10_doubtsOldest 16 = .ok (.if_icmp .eq 15, 3) := by decide +kernel
theorem dX10_doubtsOldest_19 : decode cX10_doubtsOldest 19 = .ok (.aload_n 0, 1) := by decide +kernel
theorem dX10_doubtsOldest_20 : decode cX10_doubtsOldest 20 = .ok (.iload_n 1, 1) := by decide +kernel
theorem dX10_doubtsOldest_21 : decode cX10_doubtsOldest 21 = .ok (.bipush 9, 2) := by decide +kernel
theorem dX10_doubtsOldest_23 : decode cX10_doubtsOldest 23 = .ok (.invokevirtual 56, 3) := by decide +kernel
theorem dX10_doubtsOldest_26 : decode cX10_doubtsOldest 26 = .ok (.lconst 0, 1) := by decide +kernel
theorem dX10_doubtsOldest_27 : decode cX10_doubtsOldest 27 = .ok (.lcmp, 1) := by decide +kernel
theorem dX10_doubtsOldest_28 : decode cX10_doubtsOldest 28 = .ok (.ifCond .ne 5, 3) := by decide +kernel
theorem dX10_doubtsOldest_31 : decode cX10_doubtsOldest 31 = .ok (.iconst 2, 1) := by decide +kernel
theorem dX10_doubtsOldest_32 : decode cX10_doubtsOldest 32 = .ok (.ireturn, 1) := by decide +kernel
theorem dX10_doubtsOldest_33 : decode cX10_doubtsOldest 33 = .ok (.aload_n 0, 1) := by decide +kernel
theorem dX10_doubtsOldest_34 : decode cX10_doubtsOldest 34 = .ok (.aload_n 0, 1) := by decide +kernel
theorem dX10_doubtsOldest_35 : decode cX10_doubtsOldest 35 = .ok (.iload_n 1, 1) := by decide +kernel
theorem dX10_doubtsOldest_36 : decode cX10_doubtsOldest 36 = .ok (.iconst 0, 1) := by decide +kernel
theorem dX10_doubtsOldest_37 : decode cX10_doubtsOldest 37 = .ok (.iconst 1, 1) := by decide +kernel
theorem dX10_doubtsOldest_38 : decode cX10_doubtsOldest 38 = .ok (.invokevirtual 79, 3) := by decide +kernel
theorem dX10_doubtsOldest_41 : decode cX10_doubtsOldest 41 = .ok (.i2l, 1) := by decide +kernel
theorem dX10_doubtsOldest_42 : decode cX10_doubtsOldest 42 = .ok (.putfield 112, 3) := by decide +kernel
theorem dX10_doubtsOldest_45 : decode cX10_doubtsOldest 45 = .ok (.aload_n 0, 1) := by decide +kernel
theorem dX10_doubtsOldest_46 : decode cX10_doubtsOldest 46 = .ok (.iload_n 1, 1) := by decide +kernel
theorem dX10_doubtsOldest_47 : decode cX10_doubtsOldest 47 = .ok (.iconst 0, 1) := by decide +kernel
theorem dX10_doubtsOldest_48 : decode cX10_doubtsOldest 48 = .ok (.invokevirtual 104, 3) := by decide +kernel
theorem dX10_doubtsOldest_51 : decode cX10_doubtsOldest 51 = .ok (.iconst 0, 1) := by decide +kernel
theorem dX10_doubtsOldest_52 : decode cX10_doubtsOldest 52 = .ok (.ireturn, 1) := by decide +kernel
theorem dX10_settles_0 : decode cX10_settles 0 = .ok (.aload_n 0, 1) := by decide +kernel
theorem dX10_settles_1 : decode cX10_settles 1 = .ok (.iload_n 1, 1) := by decide +kernel
theorem dX10_settles_2 : decode cX10_settles 2 = .ok (.invokevirtual 128, 3) := by decide +kernel
theorem dX10_settles_5 : decode cX10_settles 5 = .ok (.ifCond .ne 5, 3) := by decide +kernel
theorem dX10_settles_8 : decode cX10_settles 8 = .ok (.iconst 1, 1) := by decide +kernel
theorem dX10_settles_9 : decode cX10_settles 9 = .ok (.ireturn, 1) := by decide +kernel
theorem dX10_settles_10 : decode cX10_settles 10 = .ok (.aload_n 0, 1) := by decide +kernel
theorem dX10_settles_11 : decode cX10_settles 11 = .ok (.iload_n 1, 1) := by decide +kernel
theorem dX10_settles_12 : decode cX10_settles 12 = .ok (.bipush 10, 2) := by decide +kernel
theorem dX10_settles_14 : decode cX10_settles 14 = .ok (.invokevirtual 56, 3) := by decide +kernel
theorem dX10_settles_17 : decode cX10_settles 17 = .ok (.lconst 0, 1) := by decide +kernel
theorem dX10_settles_18 : decode cX10_settles 18 = .ok (.lcmp, 1) := by decide +kernel
theorem dX10_settles_19 : decode cX10_settles 19 = .ok (.ifCond .ne 5, 3) := by decide +kernel
theorem dX10_settles_22 : decode cX10_settles 22 = .ok (.iconst 2, 1) := by decide +kernel
theorem dX10_settles_23 : decode cX10_settles 23 = .ok (.ireturn, 1) := by decide +kernel
theorem dX10_settles_24 : decode cX10_settles 24 = .ok (.aload_n 0, 1) := by decide +kernel
theorem dX10_settles_25 : decode cX10_settles 25 = .ok (.iload_n 1, 1) := by decide +kernel
theorem dX10_settles_26 : decode cX10_settles 26 = .ok (.bipush 9, 2) := by decide +kernel
theorem dX10_settles_28 : decode cX10_settles 28 = .ok (.invokevirtual 56, 3) := by decide +kernel
theorem dX10_settles_31 : decode cX10_settles 31 = .ok (.l2i, 1) := by decide +kernel
theorem dX10_settles_32 : decode cX10_settles 32 = .ok (.istore_n 3, 1) := by decide +kernel
theorem dX10_settles_33 : decode cX10_settles 33 = .ok (.aload_n 0, 1) := by decide +kernel
theorem dX10_settles_34 : decode cX10_settles 34 = .ok (.iload_n 1, 1) := by decide +kernel
theorem dX10_settles_35 : decode cX10_settles 35 = .ok (.iload_n 3, 1) := by decide +kernel
theorem dX10_settles_36 : decode cX10_settles 36 = .ok (.iconst 1, 1) := by decide +kernel
theorem dX10_settles_37 : decode cX10_settles 37 = .ok (.invokevirtual 79, 3) := by decide +kernel
theorem dX10_settles_40 : decode cX10_settles 40 = .ok (.istore 4, 2) := by decide +kernel
theorem dX10_settles_42 : decode cX10_settles 42 = .ok (.iload_n 2, 1) := by decide +kernel
theorem dX10_settles_43 : decode cX10_settles 43 = .ok (.ifCond .eq 15, 3) := by decide +kernel
theorem dX10_settles_46 : decode cX10_settles 46 = .ok (.iconst 2, 1) := by decide +kernel
theorem dX10_settles_47 : decode cX10_settles 47 = .ok (.aload_n 0, 1) := by decide +kernel
theorem dX10_settles_48 : decode cX10_settles 48 = .ok (.iload_n 1, 1) := by decide +kernel
theorem dX10_settles_49 : decode cX10_settles 49 = .ok (.iload_n 3, 1) := by decide +kernel
theorem dX10_settles_50 : decode cX10_settles 50 = .ok (.iconst 0, 1) := by decide +kernel
theorem dX10_settles_51 : decode cX10_settles 51 = .ok (.invokevirtual 79, 3) := by decide +kernel
theorem dX10_settles_54 : decode cX10_settles 54 = .ok (.iadd, 1) := by decide +kernel
theorem dX10_settles_55 : decode cX10_settles 55 = .ok (.goto 4, 3) := by decide +kernel
theorem dX10_settles_58 : decode cX10_settles 58 = .ok (.iconst 5, 1) := by decide +kernel
theorem dX10_settles_59 : decode cX10_settles 59 = .ok (.istore 5, 2) := by decide +kernel
theorem dX10_settles_61 : decode cX10_settles 61 = .ok (.iload_n 2, 1) := by decide +kernel
theorem dX10_settles_62 : decode cX10_settles 62 = .ok (.ifCond .eq 23, 3) := by decide +kernel
theorem dX10_settles_65 : decode cX10_settles 65 = .ok (.aload_n 0, 1) := by decide +kernel
theorem dX10_settles_66 : decode cX10_settles 66 = .ok (.iload_n 1, 1) := by decide +kernel
theorem dX10_settles_67 : decode cX10_settles 67 = .ok (.iload 5, 2) := by decide +kernel
theorem dX10_settles_69 : decode cX10_settles 69 = .ok (.invokevirtual 56, 3) := by decide +kernel
theorem dX10_settles_72 : decode cX10_settles 72 = .ok (.iload 4, 2) := by decide +kernel
theorem dX10_settles_74 : decode cX10_settles 74 = .ok (.i2l, 1) := by decide +kernel
theorem dX10_settles_75 : decode cX10_settles 75 = .ok (.ladd, 1) := by decide +kernel
theorem dX10_settles_76 : decode cX10_settles 76 = .ok (.ldc2_w 153, 3) := by decide +kernel
theorem dX10_settles_79 : decode cX10_settles 79 = .ok (.lcmp, 1) := by decide +kernel
theorem dX10_settles_80 : decode cX10_settles 80 = .ok (.ifCond .le 5, 3) := by decide +kernel
theorem dX10_settles_83 : decode cX10_settles 83 = .ok (.iconst 2, 1) := by decide +kernel
theorem dX10_settles_84 : decode cX10_settles 84 = .ok (.ireturn, 1) := by decide +kernel
theorem dX10_settles_85 : decode cX10_settles 85 = .ok (.aload_n 0, 1) := by decide +kernel
theorem dX10_settles_86 : decode cX10_settles 86 = .ok (.iload_n 1, 1) := by decide +kernel
theorem dX10_settles_87 : decode cX10_settles 87 = .ok (.iload_n 3, 1) := by decide +kernel
theorem dX10_settles_88 : decode cX10_settles 88 = .ok (.invokevirtual 71, 3) := by decide +kernel
theorem dX10_settles_91 : decode cX10_settles 91 = .ok (.lstore 6, 2) := by decide +kernel
theorem dX10_settles_93 : decode cX10_settles 93 = .ok (.aload_n 0, 1) := by decide +kernel
theorem dX10_settles_94 : decode cX10_settles 94 = .ok (.iload_n 1, 1) := by decide +kernel
theorem dX10_settles_95 : decode cX10_settles 95 = .ok (.bipush 10, 2) := by decide +kernel
theorem dX10_settles_97 : decode cX10_settles 97 = .ok (.lload 6, 2) := by decide +kernel
theorem dX10_settles_99 : decode cX10_settles 99 = .ok (.lconst 0, 1) := by decide +kernel
theorem dX10_settles_100 : decode cX10_settles 100 = .ok (.lcmp, 1) := by decide +kernel
theorem dX10_settles_101 : decode cX10_settles 101 = .ok (.ifCond .ge 7, 3) := by decide +kernel
theorem dX10_settles_104 : decode cX10_settles 104 = .ok (.lconst 0, 1) := by decide +kernel
theorem dX10_settles_105 : decode cX10_settles 105 = .ok (.goto 6, 3) := by decide +kernel
theorem dX10_settles_108 : decode cX10_settles 108 = .ok (.ldc2_w 74, 3) := by decide +kernel
theorem dX10_settles_111 : decode cX10_settles 111 = .ok (.invokevirtual 76, 3) := by decide +kernel
theorem dX10_settles_114 : decode cX10_settles 114 = .ok (.aload_n 0, 1) := by decide +kernel
theorem dX10_settles_115 : decode cX10_settles 115 = .ok (.iload_n 1, 1) := by decide +kernel
theorem dX10_settles_116 : decode cX10_settles 116 = .ok (.iload 5, 2) := by decide +kernel
theorem dX10_settles_118 : decode cX10_settles 118 = .ok (.iload 4, 2) := by decide +kernel
theorem dX10_settles_120 : decode cX10_settles 120 = .ok (.i2l, 1) := by decide +kernel
theorem dX10_settles_121 : decode cX10_settles 121 = .ok (.invokevirtual 76, 3) := by decide +kernel
theorem dX10_settles_124 : decode cX10_settles 124 = .ok (.aload_n 0, 1) := by decide +kernel
theorem dX10_settles_125 : decode cX10_settles 125 = .ok (.iload 4, 2) := by decide +kernel
theorem dX10_settles_127 : decode cX10_settles 127 = .ok (.i2l, 1) := by decide +kernel
theorem dX10_settles_128 : decode cX10_settles 128 = .ok (.putfield 112, 3) := by decide +kernel
theorem dX10_settles_131 : decode cX10_settles 131 = .ok (.iconst 0, 1) := by decide +kernel
theorem dX10_settles_132 : decode cX10_settles 132 = .ok (.ireturn, 1) := by decide +kernel
theorem dX10_endsDay_0 : decode cX10_endsDay 0 = .ok (.aload_n 0, 1) := by decide +kernel
theorem dX10_endsDay_1 : decode cX10_endsDay 1 = .ok (.getfield 7, 3) := by decide +kernel
theorem dX10_endsDay_4 : decode cX10_endsDay 4 = .ok (.iconst 3, 1) := by decide +kernel
theorem dX10_endsDay_5 : decode cX10_endsDay 5 = .ok (.laload, 1) := by decide +kernel
theorem dX10_endsDay_6 : decode cX10_endsDay 6 = .ok (.ldc2_w 155, 3) := by decide +kernel
theorem dX10_endsDay_9 : decode cX10_endsDay 9 = .ok (.lcmp, 1) := by decide +kernel
theorem dX10_endsDay_10 : decode cX10_endsDay 10 = .ok (.ifCond .ne 5, 3) := by decide +kernel
theorem dX10_endsDay_13 : decode cX10_endsDay 13 = .ok (.iconst 1, 1) := by decide +kernel
theorem dX10_endsDay_14 : decode cX10_endsDay 14 = .ok (.ireturn, 1) := by decide +kernel
theorem dX10_endsDay_15 : decode cX10_endsDay 15 = .ok (.iconst 0, 1) := by decide +kernel
theorem dX10_endsDay_16 : decode cX10_endsDay 16 = .ok (.istore_n 1, 1) := by decide +kernel
theorem dX10_endsDay_17 : decode cX10_endsDay 17 = .ok (.iconst 0, 1) := by decide +kernel
theorem dX10_endsDay_18 : decode cX10_endsDay 18 = .ok (.istore_n 2, 1) := by decide +kernel
theorem dX10_endsDay_19 : decode cX10_endsDay 19 = .ok (.iload_n 2, 1) := by decide +kernel
theorem dX10_endsDay_20 : decode cX10_endsDay 20 = .ok (.i2l, 1) := by decide +kernel
theorem dX10_endsDay_21 : decode cX10_endsDay 21 = .ok (.aload_n 0, 1) := by decide +kernel
theorem dX10_endsDay_22 : decode cX10_endsDay 22 = .ok (.getfield 7, 3) := by decide +kernel
theorem dX10_endsDay_25 : decode cX10_endsDay 25 = .ok (.iconst 2, 1) := by decide +kernel
theorem dX10_endsDay_26 : decode cX10_endsDay 26 = .ok (.laload, 1) := by decide +kernel
theorem dX10_endsDay_27 : decode cX10_endsDay 27 = .ok (.lcmp, 1) := by decide +kernel
theorem dX10_endsDay_28 : decode cX10_endsDay 28 = .ok (.ifCond .ge 71, 3) := by decide +kernel
theorem dX10_endsDay_31 : decode cX10_endsDay 31 = .ok (.iconst 0, 1) := by decide +kernel
theorem dX10_endsDay_32 : decode cX10_endsDay 32 = .ok (.istore_n 3, 1) := by decide +kernel
theorem dX10_endsDay_33 : decode cX10_endsDay 33 = .ok (.iload_n 3, 1) := by decide +kernel
theorem dX10_endsDay_34 : decode cX10_endsDay 34 = .ok (.i2l, 1) := by decide +kernel
theorem dX10_endsDay_35 : decode cX10_endsDay 35 = .ok (.aload_n 0, 1) := by decide +kernel
theorem dX10_endsDay_36 : decode cX10_endsDay 36 = .ok (.iload_n 2, 1) := by decide +kernel
theorem dX10_endsDay_37 : decode cX10_endsDay 37 = .ok (.bipush 9, 2) := by decide +kernel
theorem dX10_endsDay_39 : decode cX10_endsDay 39 = .ok (.invokevirtual 56, 3) := by decide +kernel
theorem dX10_endsDay_42 : decode cX10_endsDay 42 = .ok (.lcmp, 1) := by decide +kernel
theorem dX10_endsDay_43 : decode cX10_endsDay 43 = .ok (.ifCond .ge 42, 3) := by decide +kernel
theorem dX10_endsDay_46 : decode cX10_endsDay 46 = .ok (.aload_n 0, 1) := by decide +kernel
theorem dX10_endsDay_47 : decode cX10_endsDay 47 = .ok (.iload_n 2, 1) := by decide +kernel
theorem dX10_endsDay_48 : decode cX10_endsDay 48 = .ok (.iload_n 3, 1) := by decide +kernel
theorem dX10_endsDay_49 : decode cX10_endsDay 49 = .ok (.iconst 2, 1) := by decide +kernel
theorem dX10_endsDay_50 : decode cX10_endsDay 50 = .ok (.invokevirtual 79, 3) := by decide +kernel
theorem dX10_endsDay_53 : decode cX10_endsDay 53 = .ok (.bipush 14, 2) := by decide +kernel
theorem dX10_endsDay_55 : decode cX10_endsDay 55 = .ok (.iadd, 1) := by decide +kernel
theorem dX10_endsDay_56 : decode cX10_endsDay 56 = .ok (.i2l, 1) := by decide +kernel
theorem dX10_endsDay_57 : decode cX10_endsDay 57 = .ok (.aload_n 0, 1) := by decide +kernel
theorem dX10_endsDay_58 : decode cX10_endsDay 58 = .ok (.getfield 7, 3) := by decide +kernel
theorem dX10_endsDay_61 : decode cX10_endsDay 61 = .ok (.iconst 3, 1) := by decide +kernel
theorem dX10_endsDay_62 : decode cX10_endsDay 62 = .ok (.laload, 1) := by decide +kernel
theorem dX10_endsDay_63 : decode cX10_endsDay 63 = .ok (.lcmp, 1) := by decide +kernel
theorem dX10_endsDay_64 : decode cX10_endsDay 64 = .ok (.ifCond .gt 15, 3) := by decide +kernel
theorem dX10_endsDay_67 : decode cX10_endsDay 67 = .ok (.aload_n 0, 1) := by decide +kernel
theorem dX10_endsDay_68 : decode cX10_endsDay 68 = .ok (.iload_n 2, 1) := by decide +kernel
theorem dX10_endsDay_69 : decode cX10_endsDay 69 = .ok (.iload_n 3, 1) := by decide +kernel
theorem dX10_endsDay_70 : decode cX10_endsDay 70 = .ok (.invokevirtual 104, 3) := by decide +kernel
theorem dX10_endsDay_73 : decode cX10_endsDay 73 = .ok (.iinc 1 1, 3) := by decide +kernel
theorem dX10_endsDay_76 : decode cX10_endsDay 76 = .ok (.goto (-43), 3) := by decide +kernel
theorem dX10_endsDay_79 : decode cX10_endsDay 79 = .ok (.iinc 3 1, 3) := by decide +kernel
theorem dX10_endsDay_82 : decode cX10_endsDay 82 = .ok (.goto (-49), 3) := by decide +kernel
theorem dX10_endsDay_85 : decode cX10_endsDay 85 = .ok (.aload_n 0, 1) := by decide +kernel
theorem dX10_endsDay_86 : decode cX10_endsDay 86 = .ok (.iload_n 2, 1) := by decide +kernel
theorem dX10_endsDay_87 : decode cX10_endsDay 87 = .ok (.bipush 8, 2) := by decide +kernel
theorem dX10_endsDay_89 : decode cX10_endsDay 89 = .ok (.lconst 0, 1) := by decide +kernel
theorem dX10_endsDay_90 : decode cX10_endsDay 90 = .ok (.invokevirtual 60, 3) := by decide +kernel
theorem dX10_endsDay_93 : decode cX10_endsDay 93 = .ok (.iinc 2 1, 3) := by decide +kernel
theorem dX10_endsDay_96 : decode cX10_endsDay 96 = .ok (.goto (-77), 3) := by decide +kernel
theorem dX10_endsDay_99 : decode cX10_endsDay 99 = .ok (.aload_n 0, 1) := by decide +kernel
theorem dX10_endsDay_100 : decode cX10_endsDay 100 = .ok (.getfield 7, 3) := by decide +kernel
theorem dX10_endsDay_103 : decode cX10_endsDay 103 = .ok (.iconst 3, 1) := by decide +kernel
theorem dX10_endsDay_104 : decode cX10_endsDay 104 = .ok (.dup2, 1) := by decide +kernel
theorem dX10_endsDay_105 : decode cX10_endsDay 105 = .ok (.laload, 1) := by decide +kernel
theorem dX10_endsDay_106 : decode cX10_endsDay 106 = .ok (.lconst 1, 1) := by decide +kernel
theorem dX10_endsDay_107 : decode cX10_endsDay 107 = .ok (.ladd, 1) := by decide +kernel
theorem dX10_endsDay_108 : decode cX10_endsDay 108 = .ok (.lastore, 1) := by decide +kernel
theorem dX10_endsDay_109 : decode cX10_endsDay 109 = .ok (.aload_n 0, 1) := by decide +kernel
theorem dX10_endsDay_110 : decode cX10_endsDay 110 = .ok (.iload_n 1, 1) := by decide +kernel
theorem dX10_endsDay_111 : decode cX10_endsDay 111 = .ok (.i2l, 1) := by decide +kernel
theorem dX10_endsDay_112 : decode cX10_endsDay 112 = .ok (.putfield 112, 3) := by decide +kernel
theorem dX10_endsDay_115 : decode cX10_endsDay 115 = .ok (.iconst 0, 1) := by decide +kernel
theorem dX10_endsDay_116 : decode cX10_endsDay 116 = .ok (.ireturn, 1) := by decide +kernel
theorem dX10_moves_0 : decode cX10_moves 0 = .ok (.aload_n 0, 1) := by decide +kernel
theorem dX10_moves_1 : decode cX10_moves 1 = .ok (.iload_n 1, 1) := by decide +kernel
theorem dX10_moves_2 : decode cX10_moves 2 = .ok (.invokevirtual 128, 3) := by decide +kernel
theorem dX10_moves_5 : decode cX10_moves 5 = .ok (.ifCond .eq 11, 3) := by decide +kernel
theorem dX10_moves_8 : decode cX10_moves 8 = .ok (.aload_n 0, 1) := by decide +kernel
theorem dX10_moves_9 : decode cX10_moves 9 = .ok (.iload_n 2, 1) := by decide +kernel
theorem dX10_moves_10 : decode cX10_moves 10 = .ok (.invokevirtual 123, 3) := by decide +kernel
theorem dX10_moves_13 : decode cX10_moves 13 = .ok (.ifCond .ne 5, 3) := by decide +kernel
theorem dX10_moves_16 : decode cX10_moves 16 = .ok (.iconst 1, 1) := by decide +kernel
theorem dX10_moves_17 : decode cX10_moves 17 = .ok (.ireturn, 1) := by decide +kernel
theorem dX10_moves_18 : decode cX10_moves 18 = .ok (.aload_n 0, 1) := by decide +kernel
theorem dX10_moves_19 : decode cX10_moves 19 = .ok (.iload_n 1, 1) := by decide +kernel
theorem dX10_moves_20 : decode cX10_moves 20 = .ok (.iload_n 2, 1) := by decide +kernel
theorem dX10_moves_21 : decode cX10_moves 21 = .ok (.invokevirtual 157, 3) := by decide +kernel
theorem dX10_moves_24 : decode cX10_moves 24 = .ok (.ifCond .eq 5, 3) := by decide +kernel
theorem dX10_moves_27 : decode cX10_moves 27 = .ok (.iconst 2, 1) := by decide +kernel
theorem dX10_moves_28 : decode cX10_moves 28 = .ok (.ireturn, 1) := by decide +kernel
theorem dX10_moves_29 : decode cX10_moves 29 = .ok (.aload_n 0, 1) := by decide +kernel
theorem dX10_moves_30 : decode cX10_moves 30 = .ok (.aload_n 0, 1) := by decide +kernel
theorem dX10_moves_31 : decode cX10_moves 31 = .ok (.iload_n 1, 1) := by decide +kernel
theorem dX10_moves_32 : decode cX10_moves 32 = .ok (.iload_n 2, 1) := by decide +kernel
theorem dX10_moves_33 : decode cX10_moves 33 = .ok (.invokevirtual 160, 3) := by decide +kernel
theorem dX10_moves_36 : decode cX10_moves 36 = .ok (.i2l, 1) := by decide +kernel
theorem dX10_moves_37 : decode cX10_moves 37 = .ok (.putfield 112, 3) := by decide +kernel
theorem dX10_moves_40 : decode cX10_moves 40 = .ok (.iconst 0, 1) := by decide +kernel
theorem dX10_moves_41 : decode cX10_moves 41 = .ok (.ireturn, 1) := by decide +kernel
theorem dX10_swaps_0 : decode cX10_swaps 0 = .ok (.aload_n 0, 1) := by decide +kernel
theorem dX10_swaps_1 : decode cX10_swaps 1 = .ok (.iload_n 1, 1) := by decide +kernel
theorem dX10_swaps_2 : decode cX10_swaps 2 = .ok (.invokevirtual 128, 3) := by decide +kernel
theorem dX10_swaps_5 : decode cX10_swaps 5 = .ok (.ifCond .eq 11, 3) := by decide +kernel
theorem dX10_swaps_8 : decode cX10_swaps 8 = .ok (.aload_n 0, 1) := by decide +kernel
theorem dX10_swaps_9 : decode cX10_swaps 9 = .ok (.iload_n 2, 1) := by decide +kernel
theorem dX10_swaps_10 : decode cX10_swaps 10 = .ok (.invokevirtual 128, 3) := by decide +kernel
theorem dX10_swaps_13 : decode cX10_swaps 13 = .ok (.ifCond .ne 5, 3) := by decide +kernel
theorem dX10_swaps_16 : decode cX10_swaps 16 = .ok (.iconst 1, 1) := by decide +kernel
theorem dX10_swaps_17 : decode cX10_swaps 17 = .ok (.ireturn, 1) := by decide +kernel
theorem dX10_swaps_18 : decode cX10_swaps 18 = .ok (.iload_n 1, 1) := by decide +kernel
theorem dX10_swaps_19 : decode cX10_swaps 19 = .ok (.iload_n 2, 1) := by decide +kernel
theorem dX10_swaps_20 : decode cX10_swaps 20 = .ok (.if_icmp .ne 5, 3) := by decide +kernel
theorem dX10_swaps_23 : decode cX10_swaps 23 = .ok (.iconst 2, 1) := by decide +kernel
theorem dX10_swaps_24 : decode cX10_swaps 24 = .ok (.ireturn, 1) := by decide +kernel
theorem dX10_swaps_25 : decode cX10_swaps 25 = .ok (.aload_n 0, 1) := by decide +kernel
theorem dX10_swaps_26 : decode cX10_swaps 26 = .ok (.iload_n 1, 1) := by decide +kernel
theorem dX10_swaps_27 : decode cX10_swaps 27 = .ok (.iload_n 2, 1) := by decide +kernel
theorem dX10_swaps_28 : decode cX10_swaps 28 = .ok (.invokevirtual 163, 3) := by decide +kernel
theorem dX10_swaps_31 : decode cX10_swaps 31 = .ok (.ifCond .ne 5, 3) := by decide +kernel
theorem dX10_swaps_34 : decode cX10_swaps 34 = .ok (.iconst 3, 1) := by decide +kernel
theorem dX10_swaps_35 : decode cX10_swaps 35 = .ok (.ireturn, 1) := by decide +kernel
theorem dX10_swaps_36 : decode cX10_swaps 36 = .ok (.aload_n 0, 1) := by decide +kernel
theorem dX10_swaps_37 : decode cX10_swaps 37 = .ok (.iload_n 1, 1) := by decide +kernel
theorem dX10_swaps_38 : decode cX10_swaps 38 = .ok (.invokevirtual 83, 3) := by decide +kernel
theorem dX10_swaps_41 : decode cX10_swaps 41 = .ok (.istore_n 3, 1) := by decide +kernel
theorem dX10_swaps_42 : decode cX10_swaps 42 = .ok (.aload_n 0, 1) := by decide +kernel
theorem dX10_swaps_43 : decode cX10_swaps 43 = .ok (.aload_n 0, 1) := by decide +kernel
theorem dX10_swaps_44 : decode cX10_swaps 44 = .ok (.iload_n 1, 1) := by decide +kernel
theorem dX10_swaps_45 : decode cX10_swaps 45 = .ok (.aload_n 0, 1) := by decide +kernel
theorem dX10_swaps_46 : decode cX10_swaps 46 = .ok (.iload_n 2, 1) := by decide +kernel
theorem dX10_swaps_47 : decode cX10_swaps 47 = .ok (.invokevirtual 83, 3) := by decide +kernel
theorem dX10_swaps_50 : decode cX10_swaps 50 = .ok (.invokevirtual 160, 3) := by decide +kernel
theorem dX10_swaps_53 : decode cX10_swaps 53 = .ok (.i2l, 1) := by decide +kernel
theorem dX10_swaps_54 : decode cX10_swaps 54 = .ok (.putfield 112, 3) := by decide +kernel
theorem dX10_swaps_57 : decode cX10_swaps 57 = .ok (.aload_n 0, 1) := by decide +kernel
theorem dX10_swaps_58 : decode cX10_swaps 58 = .ok (.dup, 1) := by decide +kernel
theorem dX10_swaps_59 : decode cX10_swaps 59 = .ok (.getfield 112, 3) := by decide +kernel
theorem dX10_swaps_62 : decode cX10_swaps 62 = .ok (.aload_n 0, 1) := by decide +kernel
theorem dX10_swaps_63 : decode cX10_swaps 63 = .ok (.iload_n 2, 1) := by decide +kernel
theorem dX10_swaps_64 : decode cX10_swaps 64 = .ok (.iload_n 3, 1) := by decide +kernel
theorem dX10_swaps_65 : decode cX10_swaps 65 = .ok (.invokevirtual 160, 3) := by decide +kernel
theorem dX10_swaps_68 : decode cX10_swaps 68 = .ok (.i2l, 1) := by decide +kernel
theorem dX10_swaps_69 : decode cX10_swaps 69 = .ok (.ladd, 1) := by decide +kernel
theorem dX10_swaps_70 : decode cX10_swaps 70 = .ok (.putfield 112, 3) := by decide +kernel
theorem dX10_swaps_73 : decode cX10_swaps 73 = .ok (.iconst 0, 1) := by decide +kernel
theorem dX10_swaps_74 : decode cX10_swaps 74 = .ok (.ireturn, 1) := by decide +kernel
theorem dX10_passes_0 : decode cX10_passes 0 = .ok (.iload_n 1, 1) := by decide +kernel
theorem dX10_passes_1 : decode cX10_passes 1 = .ok (.i2l, 1) := by decide +kernel
theorem dX10_passes_2 : decode cX10_passes 2 = .ok (.lconst 1, 1) := by decide +kernel
theorem dX10_passes_3 : decode cX10_passes 3 = .ok (.ldc2_w 167, 3) := by decide +kernel
theorem dX10_passes_6 : decode cX10_passes 6 = .ok (.invokestatic 50, 3) := by decide +kernel
theorem dX10_passes_9 : decode cX10_passes 9 = .ok (.ifCond .ne 5, 3) := by decide +kernel
theorem dX10_passes_12 : decode cX10_passes 12 = .ok (.iconst 1, 1) := by decide +kernel
theorem dX10_passes_13 : decode cX10_passes 13 = .ok (.ireturn, 1) := by decide +kernel
theorem dX10_passes_14 : decode cX10_passes 14 = .ok (.aload_n 0, 1) := by decide +kernel
theorem dX10_passes_15 : decode cX10_passes 15 = .ok (.getfield 7, 3) := by decide +kernel
theorem dX10_passes_18 : decode cX10_passes 18 = .ok (.iconst 3, 1) := by decide +kernel
theorem dX10_passes_19 : decode cX10_passes 19 = .ok (.laload, 1) := by decide +kernel
theorem dX10_passes_20 : decode cX10_passes 20 = .ok (.iload_n 1, 1) := by decide +kernel
theorem dX10_passes_21 : decode cX10_passes 21 = .ok (.i2l, 1) := by decide +kernel
theorem dX10_passes_22 : decode cX10_passes 22 = .ok (.ladd, 1) := by decide +kernel
theorem dX10_passes_23 : decode cX10_passes 23 = .ok (.ldc2_w 155, 3) := by decide +kernel
theorem dX10_passes_26 : decode cX10_passes 26 = .ok (.lcmp, 1) := by decide +kernel
theorem dX10_passes_27 : decode cX10_passes 27 = .ok (.ifCond .le 5, 3) := by decide +kernel
theorem dX10_passes_30 : decode cX10_passes 30 = .ok (.iconst 2, 1) := by decide +kernel
theorem dX10_passes_31 : decode cX10_passes 31 = .ok (.ireturn, 1) := by decide +kernel
theorem dX10_passes_32 : decode cX10_passes 32 = .ok (.iconst 0, 1) := by decide +kernel
theorem dX10_passes_33 : decode cX10_passes 33 = .ok (.istore_n 2, 1) := by decide +kernel
theorem dX10_passes_34 : decode cX10_passes 34 = .ok (.iconst 0, 1) := by decide +kernel
theorem dX10_passes_35 : decode cX10_passes 35 = .ok (.istore_n 3, 1) := by decide +kernel
theorem dX10_passes_36 : decode cX10_passes 36 = .ok (.iload_n 3, 1) := by decide +kernel
theorem dX10_passes_37 : decode cX10_passes 37 = .ok (.iload_n 1, 1) := by decide +kernel
theorem dX10_passes_38 : decode cX10_passes 38 = .ok (.if_icmp .ge 16, 3) := by decide +kernel
theorem dX10_passes_41 : decode cX10_passes 41 = .ok (.iload_n 2, 1) := by decide +kernel
theorem dX10_passes_42 : decode cX10_passes 42 = .ok (.aload_n 0, 1) := by decide +kernel
theorem dX10_passes_43 : decode cX10_passes 43 = .ok (.invokevirtual 169, 3) := by decide +kernel
theorem dX10_passes_46 : decode cX10_passes 46 = .ok (.iadd, 1) := by decide +kernel
theorem dX10_passes_47 : decode cX10_passes 47 = .ok (.istore_n 2, 1) := by decide +kernel
theorem dX10_passes_48 : decode cX10_passes 48 = .ok (.iinc 3 1, 3) := by decide +kernel
theorem dX10_passes_51 : decode cX10_passes 51 = .ok (.goto (-15), 3) := by decide +kernel
theorem dX10_passes_54 : decode cX10_passes 54 = .ok (.iload_n 2, 1) := by decide +kernel
theorem dX10_passes_55 : decode cX10_passes 55 = .ok (.ireturn, 1) := by decide +kernel
theorem dX10_addTrade_0 : decode cX10_addTrade 0 = .ok (.aload_n 0, 1) := by decide +kernel
theorem dX10_addTrade_1 : decode cX10_addTrade 1 = .ok (.invokevirtual 173, 3) := by decide +kernel
theorem dX10_addTrade_4 : decode cX10_addTrade 4 = .ok (.aload_n 0, 1) := by decide +kernel
theorem dX10_addTrade_5 : decode cX10_addTrade 5 = .ok (.iload_n 1, 1) := by decide +kernel
theorem dX10_addTrade_6 : decode cX10_addTrade 6 = .ok (.iload_n 2, 1) := by decide +kernel
theorem dX10_addTrade_7 : decode cX10_addTrade 7 = .ok (.iload_n 3, 1) := by decide +kernel
theorem dX10_addTrade_8 : decode cX10_addTrade 8 = .ok (.invokevirtual 176, 3) := by decide +kernel
theorem dX10_addTrade_11 : decode cX10_addTrade 11 = .ok (.istore 4, 2) := by decide +kernel
theorem dX10_addTrade_13 : decode cX10_addTrade 13 = .ok (.aload_n 0, 1) := by decide +kernel
theorem dX10_addTrade_14 : decode cX10_addTrade 14 = .ok (.aload_n 0, 1) := by decide +kernel
theorem dX10_addTrade_15 : decode cX10_addTrade 15 = .ok (.getfield 112, 3) := by decide +kernel
theorem dX10_addTrade_18 : decode cX10_addTrade 18 = .ok (.iload 4, 2) := by decide +kernel
theorem dX10_addTrade_20 : decode cX10_addTrade 20 = .ok (.invokevirtual 179, 3) := by decide +kernel
theorem dX10_addTrade_23 : decode cX10_addTrade 23 = .ok (.ireturn, 1) := by decide +kernel
theorem dX10_addMentor_0 : decode cX10_addMentor 0 = .ok (.aload_n 0, 1) := by decide +kernel
theorem dX10_addMentor_1 : decode cX10_addMentor 1 = .ok (.invokevirtual 173, 3) := by decide +kernel
theorem dX10_addMentor_4 : decode cX10_addMentor 4 = .ok (.aload_n 0, 1) := by decide +kernel
theorem dX10_addMentor_5 : decode cX10_addMentor 5 = .ok (.iload_n 1, 1) := by decide +kernel
theorem dX10_addMentor_6 : decode cX10_addMentor 6 = .ok (.iload_n 2, 1) := by decide +kernel
theorem dX10_addMentor_7 : decode cX10_addMentor 7 = .ok (.invokevirtual 183, 3) := by decide +kernel
theorem dX10_addMentor_10 : decode cX10_addMentor 10 = .ok (.istore_n 3, 1) := by decide +kernel
theorem dX10_addMentor_11 : decode cX10_addMentor 11 = .ok (.aload_n 0, 1) := by decide +kernel
theorem dX10_addMentor_12 : decode cX10_addMentor 12 = .ok (.aload_n 0, 1) := by decide +kernel
theorem dX10_addMentor_13 : decode cX10_addMentor 13 = .ok (.getfield 112, 3) := by decide +kernel
theorem dX10_addMentor_16 : decode cX10_addMentor 16 = .ok (.iload_n 3, 1) := by decide +kernel
theorem dX10_addMentor_17 : decode cX10_addMentor 17 = .ok (.invokevirtual 179, 3) := by decide +kernel
theorem dX10_addMentor_20 : decode cX10_addMentor 20 = .ok (.ireturn, 1) := by decide +kernel
theorem dX10_addApprentice_0 : decode cX10_addApprentice 0 = .ok (.aload_n 0, 1) := by decide +kernel
theorem dX10_addApprentice_1 : decode cX10_addApprentice 1 = .ok (.invokevirtual 173, 3) := by decide +kernel
theorem dX10_addApprentice_4 : decode cX10_addApprentice 4 = .ok (.aload_n 0, 1) := by decide +kernel
theorem dX10_addApprentice_5 : decode cX10_addApprentice 5 = .ok (.iload_n 1, 1) := by decide +kernel
theorem dX10_addApprentice_6 : decode cX10_addApprentice 6 = .ok (.iload_n 2, 1) := by decide +kernel
theorem dX10_addApprentice_7 : decode cX10_addApprentice 7 = .ok (.invokevirtual 186, 3) := by decide +kernel
theorem dX10_addApprentice_10 : decode cX10_addApprentice 10 = .ok (.istore_n 3, 1) := by decide +kernel
theorem dX10_addApprentice_11 : decode cX10_addApprentice 11 = .ok (.aload_n 0, 1) := by decide +kernel
theorem dX10_addApprentice_12 : decode cX10_addApprentice 12 = .ok (.aload_n 0, 1) := by decide +kernel
theorem dX10_addApprentice_13 : decode cX10_addApprentice 13 = .ok (.getfield 112, 3) := by decide +kernel
theorem dX10_addApprentice_16 : decode cX10_addApprentice 16 = .ok (.iload_n 3, 1) := by decide +kernel
theorem dX10_addApprentice_17 : decode cX10_addApprentice 17 = .ok (.invokevirtual 179, 3) := by decide +kernel
theorem dX10_addApprentice_20 : decode cX10_addApprentice 20 = .ok (.ireturn, 1) := by decide +kernel
theorem dX10_release_0 : decode cX10_release 0 = .ok (.aload_n 0, 1) := by decide +kernel
theorem dX10_release_1 : decode cX10_release 1 = .ok (.invokevirtual 173, 3) := by decide +kernel
theorem dX10_release_4 : decode cX10_release 4 = .ok (.aload_n 0, 1) := by decide +kernel
theorem dX10_release_5 : decode cX10_release 5 = .ok (.iload_n 1, 1) := by decide +kernel
theorem dX10_release_6 : decode cX10_release 6 = .ok (.iload_n 2, 1) := by decide +kernel
theorem dX10_release_7 : decode cX10_release 7 = .ok (.invokevirtual 189, 3) := by decide +kernel
theorem dX10_release_10 : decode cX10_release 10 = .ok (.istore_n 3, 1) := by decide +kernel
theorem dX10_release_11 : decode cX10_release 11 = .ok (.aload_n 0, 1) := by decide +kernel
theorem dX10_release_12 : decode cX10_release 12 = .ok (.aload_n 0, 1) := by decide +kernel
theorem dX10_release_13 : decode cX10_release 13 = .ok (.getfield 112, 3) := by decide +kernel
theorem dX10_release_16 : decode cX10_release 16 = .ok (.iload_n 3, 1) := by decide +kernel
theorem dX10_release_17 : decode cX10_release 17 = .ok (.invokevirtual 179, 3) := by decide +kernel
theorem dX10_release_20 : decode cX10_release 20 = .ok (.ireturn, 1) := by decide +kernel
theorem dX10_log_0 : decode cX10_log 0 = .ok (.aload_n 0, 1) := by decide +kernel
theorem dX10_log_1 : decode cX10_log 1 = .ok (.invokevirtual 173, 3) := by decide +kernel
theorem dX10_log_4 : decode cX10_log 4 = .ok (.aload_n 0, 1) := by decide +kernel
theorem dX10_log_5 : decode cX10_log 5 = .ok (.iload_n 1, 1) := by decide +kernel
theorem dX10_log_6 : decode cX10_log 6 = .ok (.iload_n 2, 1) := by decide +kernel
theorem dX10_log_7 : decode cX10_log 7 = .ok (.iload_n 3, 1) := by decide +kernel
theorem dX10_log_8 : decode cX10_log 8 = .ok (.invokevirtual 192, 3) := by decide +kernel
theorem dX10_log_11 : decode cX10_log 11 = .ok (.istore 4, 2) := by decide +kernel
theorem dX10_log_13 : decode cX10_log 13 = .ok (.aload_n 0, 1) := by decide +kernel
theorem dX10_log_14 : decode cX10_log 14 = .ok (.aload_n 0, 1) := by decide +kernel
theorem dX10_log_15 : decode cX10_log 15 = .ok (.getfield 112, 3) := by decide +kernel
theorem dX10_log_18 : decode cX10_log 18 = .ok (.iload 4, 2) := by decide +kernel
theorem dX10_log_20 : decode cX10_log 20 = .ok (.invokevirtual 179, 3) := by decide +kernel
theorem dX10_log_23 : decode cX10_log 23 = .ok (.ireturn, 1) := by decide +kernel
theorem dX10_confirm_0 : decode cX10_confirm 0 = .ok (.aload_n 0, 1) := by decide +kernel
theorem dX10_confirm_1 : decode cX10_confirm 1 = .ok (.invokevirtual 173, 3) := by decide +kernel
theorem dX10_confirm_4 : decode cX10_confirm 4 = .ok (.aload_n 0, 1) := by decide +kernel
theorem dX10_confirm_5 : decode cX10_confirm 5 = .ok (.iload_n 1, 1) := by decide +kernel
theorem dX10_confirm_6 : decode cX10_confirm 6 = .ok (.iload_n 2, 1) := by decide +kernel
theorem dX10_confirm_7 : decode cX10_confirm 7 = .ok (.invokevirtual 195, 3) := by decide +kernel
theorem dX10_confirm_10 : decode cX10_confirm 10 = .ok (.istore_n 3, 1) := by decide +kernel
theorem dX10_confirm_11 : decode cX10_confirm 11 = .ok (.aload_n 0, 1) := by decide +kernel
theorem dX10_confirm_12 : decode cX10_confirm 12 = .ok (.aload_n 0, 1) := by decide +kernel
theorem dX10_confirm_13 : decode cX10_confirm 13 = .ok (.getfield 112, 3) := by decide +kernel
theorem dX10_confirm_16 : decode cX10_confirm 16 = .ok (.iload_n 3, 1) := by decide +kernel
theorem dX10_confirm_17 : decode cX10_confirm 17 = .ok (.invokevirtual 179, 3) := by decide +kernel
theorem dX10_confirm_20 : decode cX10_confirm 20 = .ok (.ireturn, 1) := by decide +kernel
theorem dX10_doubt_0 : decode cX10_doubt 0 = .ok (.aload_n 0, 1) := by decide +kernel
theorem dX10_doubt_1 : decode cX10_doubt 1 = .ok (.invokevirtual 173, 3) := by decide +kernel
theorem dX10_doubt_4 : decode cX10_doubt 4 = .ok (.aload_n 0, 1) := by decide +kernel
theorem dX10_doubt_5 : decode cX10_doubt 5 = .ok (.iload_n 1, 1) := by decide +kernel
theorem dX10_doubt_6 : decode cX10_doubt 6 = .ok (.invokevirtual 198, 3) := by decide +kernel
theorem dX10_doubt_9 : decode cX10_doubt 9 = .ok (.istore_n 2, 1) := by decide +kernel
theorem dX10_doubt_10 : decode cX10_doubt 10 = .ok (.aload_n 0, 1) := by decide +kernel
theorem dX10_doubt_11 : decode cX10_doubt 11 = .ok (.aload_n 0, 1) := by decide +kernel
theorem dX10_doubt_12 : decode cX10_doubt 12 = .ok (.getfield 112, 3) := by decide +kernel
theorem dX10_doubt_15 : decode cX10_doubt 15 = .ok (.iload_n 2, 1) := by decide +kernel
theorem dX10_doubt_16 : decode cX10_doubt 16 = .ok (.invokevirtual 179, 3) := by decide +kernel
theorem dX10_doubt_19 : decode cX10_doubt 19 = .ok (.ireturn, 1) := by decide +kernel
theorem dX10_settle_0 : decode cX10_settle 0 = .ok (.aload_n 0, 1) := by decide +kernel
theorem dX10_settle_1 : decode cX10_settle 1 = .ok (.invokevirtual 173, 3) := by decide +kernel
theorem dX10_settle_4 : decode cX10_settle 4 = .ok (.aload_n 0, 1) := by decide +kernel
theorem dX10_settle_5 : decode cX10_settle 5 = .ok (.iload_n 1, 1) := by decide +kernel
theorem dX10_settle_6 : decode cX10_settle 6 = .ok (.iload_n 2, 1) := by decide +kernel
theorem dX10_settle_7 : decode cX10_settle 7 = .ok (.invokevirtual 201, 3) := by decide +kernel
theorem dX10_settle_10 : decode cX10_settle 10 = .ok (.istore_n 3, 1) := by decide +kernel
theorem dX10_settle_11 : decode cX10_settle 11 = .ok (.aload_n 0, 1) := by decide +kernel
theorem dX10_settle_12 : decode cX10_settle 12 = .ok (.aload_n 0, 1) := by decide +kernel
theorem dX10_settle_13 : decode cX10_settle 13 = .ok (.getfield 112, 3) := by decide +kernel
theorem dX10_settle_16 : decode cX10_settle 16 = .ok (.iload_n 3, 1) := by decide +kernel
theorem dX10_settle_17 : decode cX10_settle 17 = .ok (.invokevirtual 179, 3) := by decide +kernel
theorem dX10_settle_20 : decode cX10_settle 20 = .ok (.ireturn, 1) := by decide +kernel
theorem dX10_credit_0 : decode cX10_credit 0 = .ok (.aload_n 0, 1) := by decide +kernel
theorem dX10_credit_1 : decode cX10_credit 1 = .ok (.iload_n 1, 1) := by decide +kernel
theorem dX10_credit_2 : decode cX10_credit 2 = .ok (.invokevirtual 128, 3) := by decide +kernel
theorem dX10_credit_5 : decode cX10_credit 5 = .ok (.ifCond .ne 9, 3) := by decide +kernel
theorem dX10_credit_8 : decode cX10_credit 8 = .ok (.aload_n 0, 1) := by decide +kernel
theorem dX10_credit_9 : decode cX10_credit 9 = .ok (.iconst 1, 1) := by decide +kernel
theorem dX10_credit_10 : decode cX10_credit 10 = .ok (.invokevirtual 39, 3) := by decide +kernel
theorem dX10_credit_13 : decode cX10_credit 13 = .ok (.ireturn, 1) := by decide +kernel
theorem dX10_credit_14 : decode cX10_credit 14 = .ok (.iload_n 2, 1) := by decide +kernel
theorem dX10_credit_15 : decode cX10_credit 15 = .ok (.invokestatic 140, 3) := by decide +kernel
theorem dX10_credit_18 : decode cX10_credit 18 = .ok (.ifCond .ne 9, 3) := by decide +kernel
theorem dX10_credit_21 : decode cX10_credit 21 = .ok (.aload_n 0, 1) := by decide +kernel
theorem dX10_credit_22 : decode cX10_credit 22 = .ok (.iconst 2, 1) := by decide +kernel
theorem dX10_credit_23 : decode cX10_credit 23 = .ok (.invokevirtual 39, 3) := by decide +kernel
theorem dX10_credit_26 : decode cX10_credit 26 = .ok (.ireturn, 1) := by decide +kernel
theorem dX10_credit_27 : decode cX10_credit 27 = .ok (.aload_n 0, 1) := by decide +kernel
theorem dX10_credit_28 : decode cX10_credit 28 = .ok (.iload_n 1, 1) := by decide +kernel
theorem dX10_credit_29 : decode cX10_credit 29 = .ok (.iconst 2, 1) := by decide +kernel
theorem dX10_credit_30 : decode cX10_credit 30 = .ok (.iload_n 2, 1) := by decide +kernel
theorem dX10_credit_31 : decode cX10_credit 31 = .ok (.iadd, 1) := by decide +kernel
theorem dX10_credit_32 : decode cX10_credit 32 = .ok (.invokevirtual 56, 3) := by decide +kernel
theorem dX10_credit_35 : decode cX10_credit 35 = .ok (.iload_n 3, 1) := by decide +kernel
theorem dX10_credit_36 : decode cX10_credit 36 = .ok (.i2l, 1) := by decide +kernel
theorem dX10_credit_37 : decode cX10_credit 37 = .ok (.ladd, 1) := by decide +kernel
theorem dX10_credit_38 : decode cX10_credit 38 = .ok (.lstore 4, 2) := by decide +kernel
theorem dX10_credit_40 : decode cX10_credit 40 = .ok (.lload 4, 2) := by decide +kernel
theorem dX10_credit_42 : decode cX10_credit 42 = .ok (.lconst 0, 1) := by decide +kernel
theorem dX10_credit_43 : decode cX10_credit 43 = .ok (.ldc2_w 153, 3) := by decide +kernel
theorem dX10_credit_46 : decode cX10_credit 46 = .ok (.invokestatic 50, 3) := by decide +kernel
theorem dX10_credit_49 : decode cX10_credit 49 = .ok (.ifCond .ne 9, 3) := by decide +kernel
theorem dX10_credit_52 : decode cX10_credit 52 = .ok (.aload_n 0, 1) := by decide +kernel
theorem dX10_credit_53 : decode cX10_credit 53 = .ok (.iconst 3, 1) := by decide +kernel
theorem dX10_credit_54 : decode cX10_credit 54 = .ok (.invokevirtual 39, 3) := by decide +kernel
theorem dX10_credit_57 : decode cX10_credit 57 = .ok (.ireturn, 1) := by decide +kernel
theorem dX10_credit_58 : decode cX10_credit 58 = .ok (.aload_n 0, 1) := by decide +kernel
theorem dX10_credit_59 : decode cX10_credit 59 = .ok (.invokevirtual 173, 3) := by decide +kernel
theorem dX10_credit_62 : decode cX10_credit 62 = .ok (.aload_n 0, 1) := by decide +kernel
theorem dX10_credit_63 : decode cX10_credit 63 = .ok (.iload_n 1, 1) := by decide +kernel
theorem dX10_credit_64 : decode cX10_credit 64 = .ok (.iconst 2, 1) := by decide +kernel
theorem dX10_credit_65 : decode cX10_credit 65 = .ok (.iload_n 2, 1) := by decide +kernel
theorem dX10_credit_66 : decode cX10_credit 66 = .ok (.iadd, 1) := by decide +kernel
theorem dX10_credit_67 : decode cX10_credit 67 = .ok (.lload 4, 2) := by decide +kernel
theorem dX10_credit_69 : decode cX10_credit 69 = .ok (.invokevirtual 60, 3) := by decide +kernel
theorem dX10_credit_72 : decode cX10_credit 72 = .ok (.aload_n 0, 1) := by decide +kernel
theorem dX10_credit_73 : decode cX10_credit 73 = .ok (.lload 4, 2) := by decide +kernel
theorem dX10_credit_75 : decode cX10_credit 75 = .ok (.iconst 0, 1) := by decide +kernel
theorem dX10_credit_76 : decode cX10_credit 76 = .ok (.invokevirtual 179, 3) := by decide +kernel
theorem dX10_credit_79 : decode cX10_credit 79 = .ok (.ireturn, 1) := by decide +kernel
theorem dX10_endDay_0 : decode cX10_endDay 0 = .ok (.aload_n 0, 1) := by decide +kernel
theorem dX10_endDay_1 : decode cX10_endDay 1 = .ok (.invokevirtual 173, 3) := by decide +kernel
theorem dX10_endDay_4 : decode cX10_endDay 4 = .ok (.aload_n 0, 1) := by decide +kernel
theorem dX10_endDay_5 : decode cX10_endDay 5 = .ok (.invokevirtual 169, 3) := by decide +kernel
theorem dX10_endDay_8 : decode cX10_endDay 8 = .ok (.istore_n 1, 1) := by decide +kernel
theorem dX10_endDay_9 : decode cX10_endDay 9 = .ok (.aload_n 0, 1) := by decide +kernel
theorem dX10_endDay_10 : decode cX10_endDay 10 = .ok (.aload_n 0, 1) := by decide +kernel
theorem dX10_endDay_11 : decode cX10_endDay 11 = .ok (.getfield 112, 3) := by decide +kernel
theorem dX10_endDay_14 : decode cX10_endDay 14 = .ok (.iload_n 1, 1) := by decide +kernel
theorem dX10_endDay_15 : decode cX10_endDay 15 = .ok (.invokevirtual 179, 3) := by decide +kernel
theorem dX10_endDay_18 : decode cX10_endDay 18 = .ok (.ireturn, 1) := by decide +kernel
theorem dX10_move_0 : decode cX10_move 0 = .ok (.aload_n 0, 1) := by decide +kernel
theorem dX10_move_1 : decode cX10_move 1 = .ok (.invokevirtual 173, 3) := by decide +kernel
theorem dX10_move_4 : decode cX10_move 4 = .ok (.aload_n 0, 1) := by decide +kernel
theorem dX10_move_5 : decode cX10_move 5 = .ok (.iload_n 1, 1) := by decide +kernel
theorem dX10_move_6 : decode cX10_move 6 = .ok (.iload_n 2, 1) := by decide +kernel
theorem dX10_move_7 : decode cX10_move 7 = .ok (.invokevirtual 205, 3) := by decide +kernel
theorem dX10_move_10 : decode cX10_move 10 = .ok (.istore_n 3, 1) := by decide +kernel
theorem dX10_move_11 : decode cX10_move 11 = .ok (.aload_n 0, 1) := by decide +kernel
theorem dX10_move_12 : decode cX10_move 12 = .ok (.aload_n 0, 1) := by decide +kernel
theorem dX10_move_13 : decode cX10_move 13 = .ok (.getfield 112, 3) := by decide +kernel
theorem dX10_move_16 : decode cX10_move 16 = .ok (.iload_n 3, 1) := by decide +kernel
theorem dX10_move_17 : decode cX10_move 17 = .ok (.invokevirtual 179, 3) := by decide +kernel
theorem dX10_move_20 : decode cX10_move 20 = .ok (.ireturn, 1) := by decide +kernel
theorem dX10_leave_0 : decode cX10_leave 0 = .ok (.aload_n 0, 1) := by decide +kernel
theorem dX10_leave_1 : decode cX10_leave 1 = .ok (.iload_n 1, 1) := by decide +kernel
theorem dX10_leave_2 : decode cX10_leave 2 = .ok (.invokevirtual 128, 3) := by decide +kernel
theorem dX10_leave_5 : decode cX10_leave 5 = .ok (.ifCond .ne 9, 3) := by decide +kernel
theorem dX10_leave_8 : decode cX10_leave 8 = .ok (.aload_n 0, 1) := by decide +kernel
theorem dX10_leave_9 : decode cX10_leave 9 = .ok (.iconst 1, 1) := by decide +kernel
theorem dX10_leave_10 : decode cX10_leave 10 = .ok (.invokevirtual 39, 3) := by decide +kernel
theorem dX10_leave_13 : decode cX10_leave 13 = .ok (.ireturn, 1) := by decide +kernel
theorem dX10_leave_14 : decode cX10_leave 14 = .ok (.aload_n 0, 1) := by decide +kernel
theorem dX10_leave_15 : decode cX10_leave 15 = .ok (.iload_n 1, 1) := by decide +kernel
theorem dX10_leave_16 : decode cX10_leave 16 = .ok (.invokevirtual 83, 3) := by decide +kernel
theorem dX10_leave_19 : decode cX10_leave 19 = .ok (.istore_n 2, 1) := by decide +kernel
theorem dX10_leave_20 : decode cX10_leave 20 = .ok (.iload_n 2, 1) := by decide +kernel
theorem dX10_leave_21 : decode cX10_leave 21 = .ok (.iconst (-1), 1) := by decide +kernel
theorem dX10_leave_22 : decode cX10_leave 22 = .ok (.if_icmp .ne 9, 3) := by decide +kernel
theorem dX10_leave_25 : decode cX10_leave 25 = .ok (.aload_n 0, 1) := by decide +kernel
theorem dX10_leave_26 : decode cX10_leave 26 = .ok (.iconst 2, 1) := by decide +kernel
theorem dX10_leave_27 : decode cX10_leave 27 = .ok (.invokevirtual 39, 3) := by decide +kernel
theorem dX10_leave_30 : decode cX10_leave 30 = .ok (.ireturn, 1) := by decide +kernel
theorem dX10_leave_31 : decode cX10_leave 31 = .ok (.aload_n 0, 1) := by decide +kernel
theorem dX10_leave_32 : decode cX10_leave 32 = .ok (.invokevirtual 173, 3) := by decide +kernel
theorem dX10_leave_35 : decode cX10_leave 35 = .ok (.aload_n 0, 1) := by decide +kernel
theorem dX10_leave_36 : decode cX10_leave 36 = .ok (.iload_n 1, 1) := by decide +kernel
theorem dX10_leave_37 : decode cX10_leave 37 = .ok (.iconst 1, 1) := by decide +kernel
theorem dX10_leave_38 : decode cX10_leave 38 = .ok (.ldc2_w 74, 3) := by decide +kernel
theorem dX10_leave_41 : decode cX10_leave 41 = .ok (.invokevirtual 60, 3) := by decide +kernel
theorem dX10_leave_44 : decode cX10_leave 44 = .ok (.aload_n 0, 1) := by decide +kernel
theorem dX10_leave_45 : decode cX10_leave 45 = .ok (.iload_n 2, 1) := by decide +kernel
theorem dX10_leave_46 : decode cX10_leave 46 = .ok (.i2l, 1) := by decide +kernel
theorem dX10_leave_47 : decode cX10_leave 47 = .ok (.iconst 0, 1) := by decide +kernel
theorem dX10_leave_48 : decode cX10_leave 48 = .ok (.invokevirtual 179, 3) := by decide +kernel
theorem dX10_leave_51 : decode cX10_leave 51 = .ok (.ireturn, 1) := by decide +kernel
theorem dX10_exchange_0 : decode cX10_exchange 0 = .ok (.aload_n 0, 1) := by decide +kernel
theorem dX10_exchange_1 : decode cX10_exchange 1 = .ok (.invokevirtual 173, 3) := by decide +kernel
theorem dX10_exchange_4 : decode cX10_exchange 4 = .ok (.aload_n 0, 1) := by decide +kernel
theorem dX10_exchange_5 : decode cX10_exchange 5 = .ok (.iload_n 1, 1) := by decide +kernel
theorem dX10_exchange_6 : decode cX10_exchange 6 = .ok (.iload_n 2, 1) := by decide +kernel
theorem dX10_exchange_7 : decode cX10_exchange 7 = .ok (.invokevirtual 208, 3) := by decide +kernel
theorem dX10_exchange_10 : decode cX10_exchange 10 = .ok (.istore_n 3, 1) := by decide +kernel
theorem dX10_exchange_11 : decode cX10_exchange 11 = .ok (.aload_n 0, 1) := by decide +kernel
theorem dX10_exchange_12 : decode cX10_exchange 12 = .ok (.aload_n 0, 1) := by decide +kernel
theorem dX10_exchange_13 : decode cX10_exchange 13 = .ok (.getfield 112, 3) := by decide +kernel
theorem dX10_exchange_16 : decode cX10_exchange 16 = .ok (.iload_n 3, 1) := by decide +kernel
theorem dX10_exchange_17 : decode cX10_exchange 17 = .ok (.invokevirtual 179, 3) := by decide +kernel
theorem dX10_exchange_20 : decode cX10_exchange 20 = .ok (.ireturn, 1) := by decide +kernel
theorem dX10_reason_0 : decode cX10_reason 0 = .ok (.aload_n 0, 1) := by decide +kernel
theorem dX10_reason_1 : decode cX10_reason 1 = .ok (.iload_n 1, 1) := by decide +kernel
theorem dX10_reason_2 : decode cX10_reason 2 = .ok (.invokevirtual 128, 3) := by decide +kernel
theorem dX10_reason_5 : decode cX10_reason 5 = .ok (.ifCond .eq 25, 3) := by decide +kernel
theorem dX10_reason_8 : decode cX10_reason 8 = .ok (.aload_n 0, 1) := by decide +kernel
theorem dX10_reason_9 : decode cX10_reason 9 = .ok (.iload_n 2, 1) := by decide +kernel
theorem dX10_reason_10 : decode cX10_reason 10 = .ok (.invokevirtual 123, 3) := by decide +kernel
theorem dX10_reason_13 : decode cX10_reason 13 = .ok (.ifCond .eq 17, 3) := by decide +kernel
theorem dX10_reason_16 : decode cX10_reason 16 = .ok (.aload_n 0, 1) := by decide +kernel
theorem dX10_reason_17 : decode cX10_reason 17 = .ok (.aload_n 0, 1) := by decide +kernel
theorem dX10_reason_18 : decode cX10_reason 18 = .ok (.iload_n 1, 1) := by decide +kernel
theorem dX10_reason_19 : decode cX10_reason 19 = .ok (.iload_n 2, 1) := by decide +kernel
theorem dX10_reason_20 : decode cX10_reason 20 = .ok (.invokevirtual 157, 3) := by decide +kernel
theorem dX10_reason_23 : decode cX10_reason 23 = .ok (.i2l, 1) := by decide +kernel
theorem dX10_reason_24 : decode cX10_reason 24 = .ok (.invokevirtual 46, 3) := by decide +kernel
theorem dX10_reason_27 : decode cX10_reason 27 = .ok (.goto 8, 3) := by decide +kernel
theorem dX10_reason_30 : decode cX10_reason 30 = .ok (.aload_n 0, 1) := by decide +kernel
theorem dX10_reason_31 : decode cX10_reason 31 = .ok (.iconst 1, 1) := by decide +kernel
theorem dX10_reason_32 : decode cX10_reason 32 = .ok (.invokevirtual 39, 3) := by decide +kernel
theorem dX10_reason_35 : decode cX10_reason 35 = .ok (.ireturn, 1) := by decide +kernel
theorem dX10_mentorTold_0 : decode cX10_mentorTold 0 = .ok (.iload_n 2, 1) := by decide +kernel
theorem dX10_mentorTold_1 : decode cX10_mentorTold 1 = .ok (.iconst 2, 1) := by decide +kernel
theorem dX10_mentorTold_2 : decode cX10_mentorTold 2 = .ok (.if_icmp .ge 10, 3) := by decide +kernel
theorem dX10_mentorTold_5 : decode cX10_mentorTold 5 = .ok (.aload_n 0, 1) := by decide +kernel
theorem dX10_mentorTold_6 : decode cX10_mentorTold 6 = .ok (.iload_n 1, 1) := by decide +kernel
theorem dX10_mentorTold_7 : decode cX10_mentorTold 7 = .ok (.iload_n 2, 1) := by decide +kernel
theorem dX10_mentorTold_8 : decode cX10_mentorTold 8 = .ok (.invokevirtual 86, 3) := by decide +kernel
theorem dX10_mentorTold_11 : decode cX10_mentorTold 11 = .ok (.lreturn, 1) := by decide +kernel
theorem dX10_mentorTold_12 : decode cX10_mentorTold 12 = .ok (.iload_n 2, 1) := by decide +kernel
theorem dX10_mentorTold_13 : decode cX10_mentorTold 13 = .ok (.iconst 4, 1) := by decide +kernel
theorem dX10_mentorTold_14 : decode cX10_mentorTold 14 = .ok (.if_icmp .ne 10, 3) := by decide +kernel
theorem dX10_mentorTold_17 : decode cX10_mentorTold 17 = .ok (.aload_n 0, 1) := by decide +kernel
theorem dX10_mentorTold_18 : decode cX10_mentorTold 18 = .ok (.iload_n 1, 1) := by decide +kernel
theorem dX10_mentorTold_19 : decode cX10_mentorTold 19 = .ok (.iconst 2, 1) := by decide +kernel
theorem dX10_mentorTold_20 : decode cX10_mentorTold 20 = .ok (.invokevirtual 86, 3) := by decide +kernel
theorem dX10_mentorTold_23 : decode cX10_mentorTold 23 = .ok (.lreturn, 1) := by decide +kernel
theorem dX10_mentorTold_24 : decode cX10_mentorTold 24 = .ok (.lconst 0, 1) := by decide +kernel
theorem dX10_mentorTold_25 : decode cX10_mentorTold 25 = .ok (.lstore_n 3, 1) := by decide +kernel
theorem dX10_mentorTold_26 : decode cX10_mentorTold 26 = .ok (.iconst 0, 1) := by decide +kernel
theorem dX10_mentorTold_27 : decode cX10_mentorTold 27 = .ok (.istore 5, 2) := by decide +kernel
theorem dX10_mentorTold_29 : decode cX10_mentorTold 29 = .ok (.iload 5, 2) := by decide +kernel
theorem dX10_mentorTold_31 : decode cX10_mentorTold 31 = .ok (.i2l, 1) := by decide +kernel
theorem dX10_mentorTold_32 : decode cX10_mentorTold 32 = .ok (.aload_n 0, 1) := by decide +kernel
theorem dX10_mentorTold_33 : decode cX10_mentorTold 33 = .ok (.getfield 7, 3) := by decide +kernel
theorem dX10_mentorTold_36 : decode cX10_mentorTold 36 = .ok (.iconst 2, 1) := by decide +kernel
theorem dX10_mentorTold_37 : decode cX10_mentorTold 37 = .ok (.laload, 1) := by decide +kernel
theorem dX10_mentorTold_38 : decode cX10_mentorTold 38 = .ok (.lcmp, 1) := by decide +kernel
theorem dX10_mentorTold_39 : decode cX10_mentorTold 39 = .ok (.ifCond .ge 64, 3) := by decide +kernel
theorem dX10_mentorTold_42 : decode cX10_mentorTold 42 = .ok (.aload_n 0, 1) := by decide +kernel
theorem dX10_mentorTold_43 : decode cX10_mentorTold 43 = .ok (.iload 5, 2) := by decide +kernel
theorem dX10_mentorTold_45 : decode cX10_mentorTold 45 = .ok (.invokevirtual 83, 3) := by decide +kernel
theorem dX10_mentorTold_48 : decode cX10_mentorTold 48 = .ok (.iload_n 1, 1) := by decide +kernel
theorem dX10_mentorTold_49 : decode cX10_mentorTold 49 = .ok (.if_icmp .ne 7, 3) := by decide +kernel
theorem dX10_mentorTold_52 : decode cX10_mentorTold 52 = .ok (.iconst 1, 1) := by decide +kernel
theorem dX10_mentorTold_53 : decode cX10_mentorTold 53 = .ok (.goto 4, 3) := by decide +kernel
theorem dX10_mentorTold_56 : decode cX10_mentorTold 56 = .ok (.iconst 0, 1) := by decide +kernel
theorem dX10_mentorTold_57 : decode cX10_mentorTold 57 = .ok (.istore 6, 2) := by decide +kernel
theorem dX10_mentorTold_59 : decode cX10_mentorTold 59 = .ok (.lload_n 3, 1) := by decide +kernel
theorem dX10_mentorTold_60 : decode cX10_mentorTold 60 = .ok (.iload 6, 2) := by decide +kernel
theorem dX10_mentorTold_62 : decode cX10_mentorTold 62 = .ok (.ifCond .ne 7, 3) := by decide +kernel
theorem dX10_mentorTold_65 : decode cX10_mentorTold 65 = .ok (.lconst 0, 1) := by decide +kernel
theorem dX10_mentorTold_66 : decode cX10_mentorTold 66 = .ok (.goto 29, 3) := by decide +kernel
theorem dX10_mentorTold_69 : decode cX10_mentorTold 69 = .ok (.iload_n 2, 1) := by decide +kernel
theorem dX10_mentorTold_70 : decode cX10_mentorTold 70 = .ok (.iconst 2, 1) := by decide +kernel
theorem dX10_mentorTold_71 : decode cX10_mentorTold 71 = .ok (.if_icmp .ne 7, 3) := by decide +kernel
theorem dX10_mentorTold_74 : decode cX10_mentorTold 74 = .ok (.lconst 1, 1) := by decide +kernel
theorem dX10_mentorTold_75 : decode cX10_mentorTold 75 = .ok (.goto 20, 3) := by decide +kernel
theorem dX10_mentorTold_78 : decode cX10_mentorTold 78 = .ok (.aload_n 0, 1) := by decide +kernel
theorem dX10_mentorTold_79 : decode cX10_mentorTold 79 = .ok (.iload 5, 2) := by decide +kernel
theorem dX10_mentorTold_81 : decode cX10_mentorTold 81 = .ok (.bipush 9, 2) := by decide +kernel
theorem dX10_mentorTold_83 : decode cX10_mentorTold 83 = .ok (.invokevirtual 56, 3) := by decide +kernel
theorem dX10_mentorTold_86 : decode cX10_mentorTold 86 = .ok (.aload_n 0, 1) := by decide +kernel
theorem dX10_mentorTold_87 : decode cX10_mentorTold 87 = .ok (.iload 5, 2) := by decide +kernel
theorem dX10_mentorTold_89 : decode cX10_mentorTold 89 = .ok (.iload_n 1, 1) := by decide +kernel
theorem dX10_mentorTold_90 : decode cX10_mentorTold 90 = .ok (.invokevirtual 100, 3) := by decide +kernel
theorem dX10_mentorTold_93 : decode cX10_mentorTold 93 = .ok (.i2l, 1) := by decide +kernel
theorem dX10_mentorTold_94 : decode cX10_mentorTold 94 = .ok (.lsub, 1) := by decide +kernel
theorem dX10_mentorTold_95 : decode cX10_mentorTold 95 = .ok (.ladd, 1) := by decide +kernel
theorem dX10_mentorTold_96 : decode cX10_mentorTold 96 = .ok (.lstore_n 3, 1) := by decide +kernel
theorem dX10_mentorTold_97 : decode cX10_mentorTold 97 = .ok (.iinc 5 1, 3) := by decide +kernel
theorem dX10_mentorTold_100 : decode cX10_mentorTold 100 = .ok (.goto (-71), 3) := by decide +kernel
theorem dX10_mentorTold_103 : decode cX10_mentorTold 103 = .ok (.lload_n 3, 1) := by decide +kernel
theorem dX10_mentorTold_104 : decode cX10_mentorTold 104 = .ok (.lreturn, 1) := by decide +kernel
theorem dX10_mentor_0 : decode cX10_mentor 0 = .ok (.aload_n 0, 1) := by decide +kernel
theorem dX10_mentor_1 : decode cX10_mentor 1 = .ok (.iload_n 1, 1) := by decide +kernel
theorem dX10_mentor_2 : decode cX10_mentor 2 = .ok (.invokevirtual 123, 3) := by decide +kernel
theorem dX10_mentor_5 : decode cX10_mentor 5 = .ok (.ifCond .ne 9, 3) := by decide +kernel
theorem dX10_mentor_8 : decode cX10_mentor 8 = .ok (.aload_n 0, 1) := by decide +kernel
theorem dX10_mentor_9 : decode cX10_mentor 9 = .ok (.iconst 1, 1) := by decide +kernel
theorem dX10_mentor_10 : decode cX10_mentor 10 = .ok (.invokevirtual 39, 3) := by decide +kernel
theorem dX10_mentor_13 : decode cX10_mentor 13 = .ok (.ireturn, 1) := by decide +kernel
theorem dX10_mentor_14 : decode cX10_mentor 14 = .ok (.iload_n 2, 1) := by decide +kernel
theorem dX10_mentor_15 : decode cX10_mentor 15 = .ok (.i2l, 1) := by decide +kernel
theorem dX10_mentor_16 : decode cX10_mentor 16 = .ok (.lconst 0, 1) := by decide +kernel
theorem dX10_mentor_17 : decode cX10_mentor 17 = .ok (.ldc2_w 145, 3) := by decide +kernel
theorem dX10_mentor_20 : decode cX10_mentor 20 = .ok (.invokestatic 50, 3) := by decide +kernel
theorem dX10_mentor_23 : decode cX10_mentor 23 = .ok (.ifCond .eq 16, 3) := by decide +kernel
theorem dX10_mentor_26 : decode cX10_mentor 26 = .ok (.aload_n 0, 1) := by decide +kernel
theorem dX10_mentor_27 : decode cX10_mentor 27 = .ok (.aload_n 0, 1) := by decide +kernel
theorem dX10_mentor_28 : decode cX10_mentor 28 = .ok (.iload_n 1, 1) := by decide +kernel
theorem dX10_mentor_29 : decode cX10_mentor 29 = .ok (.iload_n 2, 1) := by decide +kernel
theorem dX10_mentor_30 : decode cX10_mentor 30 = .ok (.invokevirtual 211, 3) := by decide +kernel
theorem dX10_mentor_33 : decode cX10_mentor 33 = .ok (.invokevirtual 46, 3) := by decide +kernel
theorem dX10_mentor_36 : decode cX10_mentor 36 = .ok (.goto 8, 3) := by decide +kernel
theorem dX10_mentor_39 : decode cX10_mentor 39 = .ok (.aload_n 0, 1) := by decide +kernel
theorem dX10_mentor_40 : decode cX10_mentor 40 = .ok (.iconst 2, 1) := by decide +kernel
theorem dX10_mentor_41 : decode cX10_mentor 41 = .ok (.invokevirtual 39, 3) := by decide +kernel
theorem dX10_mentor_44 : decode cX10_mentor 44 = .ok (.ireturn, 1) := by decide +kernel
theorem dX10_missing_0 : decode cX10_missing 0 = .ok (.aload_n 0, 1) := by decide +kernel
theorem dX10_missing_1 : decode cX10_missing 1 = .ok (.iload_n 1, 1) := by decide +kernel
theorem dX10_missing_2 : decode cX10_missing 2 = .ok (.iload_n 2, 1) := by decide +kernel
theorem dX10_missing_3 : decode cX10_missing 3 = .ok (.invokevirtual 214, 3) := by decide +kernel
theorem dX10_missing_6 : decode cX10_missing 6 = .ok (.aload_n 0, 1) := by decide +kernel
theorem dX10_missing_7 : decode cX10_missing 7 = .ok (.iload_n 1, 1) := by decide +kernel
theorem dX10_missing_8 : decode cX10_missing 8 = .ok (.iconst 2, 1) := by decide +kernel
theorem dX10_missing_9 : decode cX10_missing 9 = .ok (.iload_n 2, 1) := by decide +kernel
theorem dX10_missing_10 : decode cX10_missing 10 = .ok (.iadd, 1) := by decide +kernel
theorem dX10_missing_11 : decode cX10_missing 11 = .ok (.invokevirtual 56, 3) := by decide +kernel
theorem dX10_missing_14 : decode cX10_missing 14 = .ok (.lsub, 1) := by decide +kernel
theorem dX10_missing_15 : decode cX10_missing 15 = .ok (.lstore_n 3, 1) := by decide +kernel
theorem dX10_missing_16 : decode cX10_missing 16 = .ok (.lload_n 3, 1) := by decide +kernel
theorem dX10_missing_17 : decode cX10_missing 17 = .ok (.lconst 0, 1) := by decide +kernel
theorem dX10_missing_18 : decode cX10_missing 18 = .ok (.lcmp, 1) := by decide +kernel
theorem dX10_missing_19 : decode cX10_missing 19 = .ok (.ifCond .ge 7, 3) := by decide +kernel
theorem dX10_missing_22 : decode cX10_missing 22 = .ok (.lconst 0, 1) := by decide +kernel
theorem dX10_missing_23 : decode cX10_missing 23 = .ok (.goto 4, 3) := by decide +kernel
theorem dX10_missing_26 : decode cX10_missing 26 = .ok (.lload_n 3, 1) := by decide +kernel
theorem dX10_missing_27 : decode cX10_missing 27 = .ok (.lreturn, 1) := by decide +kernel
theorem dX10_isComplete_0 : decode cX10_isComplete 0 = .ok (.aload_n 0, 1) := by decide +kernel
theorem dX10_isComplete_1 : decode cX10_isComplete 1 = .ok (.iload_n 1, 1) := by decide +kernel
theorem dX10_isComplete_2 : decode cX10_isComplete 2 = .ok (.iconst 0, 1) := by decide +kernel
theorem dX10_isComplete_3 : decode cX10_isComplete 3 = .ok (.invokevirtual 217, 3) := by decide +kernel
theorem dX10_isComplete_6 : decode cX10_isComplete 6 = .ok (.aload_n 0, 1) := by decide +kernel
theorem dX10_isComplete_7 : decode cX10_isComplete 7 = .ok (.iload_n 1, 1) := by decide +kernel
theorem dX10_isComplete_8 : decode cX10_isComplete 8 = .ok (.iconst 1, 1) := by decide +kernel
theorem dX10_isComplete_9 : decode cX10_isComplete 9 = .ok (.invokevirtual 217, 3) := by decide +kernel
theorem dX10_isComplete_12 : decode cX10_isComplete 12 = .ok (.ladd, 1) := by decide +kernel
theorem dX10_isComplete_13 : decode cX10_isComplete 13 = .ok (.aload_n 0, 1) := by decide +kernel
theorem dX10_isComplete_14 : decode cX10_isComplete 14 = .ok (.iload_n 1, 1) := by decide +kernel
theorem dX10_isComplete_15 : decode cX10_isComplete 15 = .ok (.iconst 2, 1) := by decide +kernel
theorem dX10_isComplete_16 : decode cX10_isComplete 16 = .ok (.invokevirtual 217, 3) := by decide +kernel
theorem dX10_isComplete_19 : decode cX10_isComplete 19 = .ok (.ladd, 1) := by decide +kernel
theorem dX10_isComplete_20 : decode cX10_isComplete 20 = .ok (.lconst 0, 1) := by decide +kernel
theorem dX10_isComplete_21 : decode cX10_isComplete 21 = .ok (.lcmp, 1) := by decide +kernel
theorem dX10_isComplete_22 : decode cX10_isComplete 22 = .ok (.ifCond .ne 7, 3) := by decide +kernel
theorem dX10_isComplete_25 : decode cX10_isComplete 25 = .ok (.iconst 1, 1) := by decide +kernel
theorem dX10_isComplete_26 : decode cX10_isComplete 26 = .ok (.goto 4, 3) := by decide +kernel
theorem dX10_isComplete_29 : decode cX10_isComplete 29 = .ok (.iconst 0, 1) := by decide +kernel
theorem dX10_isComplete_30 : decode cX10_isComplete 30 = .ok (.ireturn, 1) := by decide +kernel
theorem dX10_apprenticeTold_0 : decode cX10_apprenticeTold 0 = .ok (.iload_n 2, 1) := by decide +kernel
theorem dX10_apprenticeTold_1 : decode cX10_apprenticeTold 1 = .ok (.tableswitch 145 0 10 #[59, 66, 73, 81, 89, 98, 107, 114, 121, 129, 137], 59) := by decide +kernel
theorem dX10_apprenticeTold_60 : decode cX10_apprenticeTold 60 = .ok (.aload_n 0, 1) := by decide +kernel
theorem dX10_apprenticeTold_61 : decode cX10_apprenticeTold 61 = .ok (.iload_n 1, 1) := by decide +kernel
theorem dX10_apprenticeTold_62 : decode cX10_apprenticeTold 62 = .ok (.iconst 0, 1) := by decide +kernel
theorem dX10_apprenticeTold_63 : decode cX10_apprenticeTold 63 = .ok (.invokevirtual 56, 3) := by decide +kernel
theorem dX10_apprenticeTold_66 : decode cX10_apprenticeTold 66 = .ok (.lreturn, 1) := by decide +kernel
theorem dX10_apprenticeTold_67 : decode cX10_apprenticeTold 67 = .ok (.aload_n 0, 1) := by decide +kernel
theorem dX10_apprenticeTold_68 : decode cX10_apprenticeTold 68 = .ok (.iload_n 1, 1) := by decide +kernel
theorem dX10_apprenticeTold_69 : decode cX10_apprenticeTold 69 = .ok (.iconst 1, 1) := by decide +kernel
theorem dX10_apprenticeTold_70 : decode cX10_apprenticeTold 70 = .ok (.invokevirtual 56, 3) := by decide +kernel
theorem dX10_apprenticeTold_73 : decode cX10_apprenticeTold 73 = .ok (.lreturn, 1) := by decide +kernel
theorem dX10_apprenticeTold_74 : decode cX10_apprenticeTold 74 = .ok (.aload_n 0, 1) := by decide +kernel
theorem dX10_apprenticeTold_75 : decode cX10_apprenticeTold 75 = .ok (.iload_n 1, 1) := by decide +kernel
theorem dX10_apprenticeTold_76 : decode cX10_apprenticeTold 76 = .ok (.bipush 9, 2) := by decide +kernel
theorem dX10_apprenticeTold_78 : decode cX10_apprenticeTold 78 = .ok (.invokevirtual 56, 3) := by decide +kernel
theorem dX10_apprenticeTold_81 : decode cX10_apprenticeTold 81 = .ok (.lreturn, 1) := by decide +kernel
theorem dX10_apprenticeTold_82 : decode cX10_apprenticeTold 82 = .ok (.aload_n 0, 1) := by decide +kernel
theorem dX10_apprenticeTold_83 : decode cX10_apprenticeTold 83 = .ok (.iload_n 1, 1) := by decide +kernel
theorem dX10_apprenticeTold_84 : decode cX10_apprenticeTold 84 = .ok (.bipush 10, 2) := by decide +kernel
theorem dX10_apprenticeTold_86 : decode cX10_apprenticeTold 86 = .ok (.invokevirtual 56, 3) := by decide +kernel
theorem dX10_apprenticeTold_89 : decode cX10_apprenticeTold 89 = .ok (.lreturn, 1) := by decide +kernel
theorem dX10_apprenticeTold_90 : decode cX10_apprenticeTold 90 = .ok (.aload_n 0, 1) := by decide +kernel
theorem dX10_apprenticeTold_91 : decode cX10_apprenticeTold 91 = .ok (.iload_n 1, 1) := by decide +kernel
theorem dX10_apprenticeTold_92 : decode cX10_apprenticeTold 92 = .ok (.iconst (-1), 1) := by decide +kernel
theorem dX10_apprenticeTold_93 : decode cX10_apprenticeTold 93 = .ok (.iconst 0, 1) := by decide +kernel
theorem dX10_apprenticeTold_94 : decode cX10_apprenticeTold 94 = .ok (.invokevirtual 220, 3) := by decide +kernel
theorem dX10_apprenticeTold_97 : decode cX10_apprenticeTold 97 = .ok (.i2l, 1) := by decide +kernel
theorem dX10_apprenticeTold_98 : decode cX10_apprenticeTold 98 = .ok (.lreturn, 1) := by decide +kernel
theorem dX10_apprenticeTold_99 : decode cX10_apprenticeTold 99 = .ok (.aload_n 0, 1) := by decide +kernel
theorem dX10_apprenticeTold_100 : decode cX10_apprenticeTold 100 = .ok (.iload_n 1, 1) := by decide +kernel
theorem dX10_apprenticeTold_101 : decode cX10_apprenticeTold 101 = .ok (.iconst (-1), 1) := by decide +kernel
theorem dX10_apprenticeTold_102 : decode cX10_apprenticeTold 102 = .ok (.iconst 1, 1) := by decide +kernel
theorem dX10_apprenticeTold_103 : decode cX10_apprenticeTold 103 = .ok (.invokevirtual 220, 3) := by decide +kernel
theorem dX10_apprenticeTold_106 : decode cX10_apprenticeTold 106 = .ok (.i2l, 1) := by decide +kernel
theorem dX10_apprenticeTold_107 : decode cX10_apprenticeTold 107 = .ok (.lreturn, 1) := by decide +kernel
theorem dX10_apprenticeTold_108 : decode cX10_apprenticeTold 108 = .ok (.aload_n 0, 1) := by decide +kernel
theorem dX10_apprenticeTold_109 : decode cX10_apprenticeTold 109 = .ok (.iload_n 1, 1) := by decide +kernel
theorem dX10_apprenticeTold_110 : decode cX10_apprenticeTold 110 = .ok (.iconst 5, 1) := by decide +kernel
theorem dX10_apprenticeTold_111 : decode cX10_apprenticeTold 111 = .ok (.invokevirtual 56, 3) := by decide +kernel
theorem dX10_apprenticeTold_114 : decode cX10_apprenticeTold 114 = .ok (.lreturn, 1) := by decide +kernel
theorem dX10_apprenticeTold_115 : decode cX10_apprenticeTold 115 = .ok (.aload_n 0, 1) := by decide +kernel
theorem dX10_apprenticeTold_116 : decode cX10_apprenticeTold 116 = .ok (.iload_n 1, 1) := by decide +kernel
theorem dX10_apprenticeTold_117 : decode cX10_apprenticeTold 117 = .ok (.invokevirtual 137, 3) := by decide +kernel
theorem dX10_apprenticeTold_120 : decode cX10_apprenticeTold 120 = .ok (.i2l, 1) := by decide +kernel
theorem dX10_apprenticeTold_121 : decode cX10_apprenticeTold 121 = .ok (.lreturn, 1) := by decide +kernel
theorem dX10_apprenticeTold_122 : decode cX10_apprenticeTold 122 = .ok (.aload_n 0, 1) := by decide +kernel
theorem dX10_apprenticeTold_123 : decode cX10_apprenticeTold 123 = .ok (.iload_n 1, 1) := by decide +kernel
theorem dX10_apprenticeTold_124 : decode cX10_apprenticeTold 124 = .ok (.bipush 7, 2) := by decide +kernel
theorem dX10_apprenticeTold_126 : decode cX10_apprenticeTold 126 = .ok (.invokevirtual 56, 3) := by decide +kernel
theorem dX10_apprenticeTold_129 : decode cX10_apprenticeTold 129 = .ok (.lreturn, 1) := by decide +kernel
theorem dX10_apprenticeTold_130 : decode cX10_apprenticeTold 130 = .ok (.aload_n 0, 1) := by decide +kernel
theorem dX10_apprenticeTold_131 : decode cX10_apprenticeTold 131 = .ok (.iload_n 1, 1) := by decide +kernel
theorem dX10_apprenticeTold_132 : decode cX10_apprenticeTold 132 = .ok (.bipush 8, 2) := by decide +kernel
theorem dX10_apprenticeTold_134 : decode cX10_apprenticeTold 134 = .ok (.invokevirtual 56, 3) := by decide +kernel
theorem dX10_apprenticeTold_137 : decode cX10_apprenticeTold 137 = .ok (.lreturn, 1) := by decide +kernel
theorem dX10_apprenticeTold_138 : decode cX10_apprenticeTold 138 = .ok (.aload_n 0, 1) := by decide +kernel
theorem dX10_apprenticeTold_139 : decode cX10_apprenticeTold 139 = .ok (.iload_n 1, 1) := by decide +kernel
theorem dX10_apprenticeTold_140 : decode cX10_apprenticeTold 140 = .ok (.bipush 6, 2) := by decide +kernel
theorem dX10_apprenticeTold_142 : decode cX10_apprenticeTold 142 = .ok (.invokevirtual 56, 3) := by decide +kernel
theorem dX10_apprenticeTold_145 : decode cX10_apprenticeTold 145 = .ok (.lreturn, 1) := by decide +kernel
theorem dX10_apprenticeTold_146 : decode cX10_apprenticeTold 146 = .ok (.aload_n 0, 1) := by decide +kernel
theorem dX10_apprenticeTold_147 : decode cX10_apprenticeTold 147 = .ok (.iload_n 1, 1) := by decide +kernel
theorem dX10_apprenticeTold_148 : decode cX10_apprenticeTold 148 = .ok (.invokevirtual 224, 3) := by decide +kernel
theorem dX10_apprenticeTold_151 : decode cX10_apprenticeTold 151 = .ok (.ifCond .eq 7, 3) := by decide +kernel
theorem dX10_apprenticeTold_154 : decode cX10_apprenticeTold 154 = .ok (.lconst 1, 1) := by decide +kernel
theorem dX10_apprenticeTold_155 : decode cX10_apprenticeTold 155 = .ok (.goto 4, 3) := by decide +kernel
theorem dX10_apprenticeTold_158 : decode cX10_apprenticeTold 158 = .ok (.lconst 0, 1) := by decide +kernel
theorem dX10_apprenticeTold_159 : decode cX10_apprenticeTold 159 = .ok (.lreturn, 1) := by decide +kernel
theorem dX10_apprentice_0 : decode cX10_apprentice 0 = .ok (.aload_n 0, 1) := by decide +kernel
theorem dX10_apprentice_1 : decode cX10_apprentice 1 = .ok (.iload_n 1, 1) := by decide +kernel
theorem dX10_apprentice_2 : decode cX10_apprentice 2 = .ok (.invokevirtual 128, 3) := by decide +kernel
theorem dX10_apprentice_5 : decode cX10_apprentice 5 = .ok (.ifCond .ne 9, 3) := by decide +kernel
theorem dX10_apprentice_8 : decode cX10_apprentice 8 = .ok (.aload_n 0, 1) := by decide +kernel
theorem dX10_apprentice_9 : decode cX10_apprentice 9 = .ok (.iconst 1, 1) := by decide +kernel
theorem dX10_apprentice_10 : decode cX10_apprentice 10 = .ok (.invokevirtual 39, 3) := by decide +kernel
theorem dX10_apprentice_13 : decode cX10_apprentice 13 = .ok (.ireturn, 1) := by decide +kernel
theorem dX10_apprentice_14 : decode cX10_apprentice 14 = .ok (.iload_n 2, 1) := by decide +kernel
theorem dX10_apprentice_15 : decode cX10_apprentice 15 = .ok (.i2l, 1) := by decide +kernel
theorem dX10_apprentice_16 : decode cX10_apprentice 16 = .ok (.lconst 0, 1) := by decide +kernel
theorem dX10_apprentice_17 : decode cX10_apprentice 17 = .ok (.ldc2_w 227, 3) := by decide +kernel
theorem dX10_apprentice_20 : decode cX10_apprentice 20 = .ok (.invokestatic 50, 3) := by decide +kernel
theorem dX10_apprentice_23 : decode cX10_apprentice 23 = .ok (.ifCond .eq 16, 3) := by decide +kernel
theorem dX10_apprentice_26 : decode cX10_apprentice 26 = .ok (.aload_n 0, 1) := by decide +kernel
theorem dX10_apprentice_27 : decode cX10_apprentice 27 = .ok (.aload_n 0, 1) := by decide +kernel
theorem dX10_apprentice_28 : decode cX10_apprentice 28 = .ok (.iload_n 1, 1) := by decide +kernel
theorem dX10_apprentice_29 : decode cX10_apprentice 29 = .ok (.iload_n 2, 1) := by decide +kernel
theorem dX10_apprentice_30 : decode cX10_apprentice 30 = .ok (.invokevirtual 229, 3) := by decide +kernel
theorem dX10_apprentice_33 : decode cX10_apprentice 33 = .ok (.invokevirtual 46, 3) := by decide +kernel
theorem dX10_apprentice_36 : decode cX10_apprentice 36 = .ok (.goto 8, 3) := by decide +kernel
theorem dX10_apprentice_39 : decode cX10_apprentice 39 = .ok (.aload_n 0, 1) := by decide +kernel
theorem dX10_apprentice_40 : decode cX10_apprentice 40 = .ok (.iconst 2, 1) := by decide +kernel
theorem dX10_apprentice_41 : decode cX10_apprentice 41 = .ok (.invokevirtual 39, 3) := by decide +kernel
theorem dX10_apprentice_44 : decode cX10_apprentice 44 = .ok (.ireturn, 1) := by decide +kernel
theorem dX10_partTold_0 : decode cX10_partTold 0 = .ok (.iload_n 3, 1) := by decide +kernel
theorem dX10_partTold_1 : decode cX10_partTold 1 = .ok (.tableswitch 50 0 2 #[27, 34, 43], 27) := by decide +kernel
theorem dX10_partTold_28 : decode cX10_partTold 28 = .ok (.aload_n 0, 1) := by decide +kernel
theorem dX10_partTold_29 : decode cX10_partTold 29 = .ok (.iload_n 1, 1) := by decide +kernel
theorem dX10_partTold_30 : decode cX10_partTold 30 = .ok (.iload_n 2, 1) := by decide +kernel
theorem dX10_partTold_31 : decode cX10_partTold 31 = .ok (.invokevirtual 214, 3) := by decide +kernel
theorem dX10_partTold_34 : decode cX10_partTold 34 = .ok (.lreturn, 1) := by decide +kernel
theorem dX10_partTold_35 : decode cX10_partTold 35 = .ok (.aload_n 0, 1) := by decide +kernel
theorem dX10_partTold_36 : decode cX10_partTold 36 = .ok (.iload_n 1, 1) := by decide +kernel
theorem dX10_partTold_37 : decode cX10_partTold 37 = .ok (.iconst 2, 1) := by decide +kernel
theorem dX10_partTold_38 : decode cX10_partTold 38 = .ok (.iload_n 2, 1) := by decide +kernel
theorem dX10_partTold_39 : decode cX10_partTold 39 = .ok (.iadd, 1) := by decide +kernel
theorem dX10_partTold_40 : decode cX10_partTold 40 = .ok (.invokevirtual 56, 3) := by decide +kernel
theorem dX10_partTold_43 : decode cX10_partTold 43 = .ok (.lreturn, 1) := by decide +kernel
theorem dX10_partTold_44 : decode cX10_partTold 44 = .ok (.aload_n 0, 1) := by decide +kernel
theorem dX10_partTold_45 : decode cX10_partTold 45 = .ok (.iload_n 1, 1) := by decide +kernel
theorem dX10_partTold_46 : decode cX10_partTold 46 = .ok (.iload_n 2, 1) := by decide +kernel
theorem dX10_partTold_47 : decode cX10_partTold 47 = .ok (.invokevirtual 217, 3) := by decide +kernel
theorem dX10_partTold_50 : decode cX10_partTold 50 = .ok (.lreturn, 1) := by decide +kernel
theorem dX10_partTold_51 : decode cX10_partTold 51 = .ok (.aload_n 0, 1) := by decide +kernel
theorem dX10_partTold_52 : decode cX10_partTold 52 = .ok (.iload_n 1, 1) := by decide +kernel
theorem dX10_partTold_53 : decode cX10_partTold 53 = .ok (.iload_n 2, 1) := by decide +kernel
theorem dX10_partTold_54 : decode cX10_partTold 54 = .ok (.iload_n 3, 1) := by decide +kernel
theorem dX10_partTold_55 : decode cX10_partTold 55 = .ok (.iconst 4, 1) := by decide +kernel
theorem dX10_partTold_56 : decode cX10_partTold 56 = .ok (.if_icmp .ne 7, 3) := by decide +kernel
theorem dX10_partTold_59 : decode cX10_partTold 59 = .ok (.iconst 1, 1) := by decide +kernel
theorem dX10_partTold_60 : decode cX10_partTold 60 = .ok (.goto 4, 3) := by decide +kernel
theorem dX10_partTold_63 : decode cX10_partTold 63 = .ok (.iconst 0, 1) := by decide +kernel
theorem dX10_partTold_64 : decode cX10_partTold 64 = .ok (.invokevirtual 220, 3) := by decide +kernel
theorem dX10_partTold_67 : decode cX10_partTold 67 = .ok (.i2l, 1) := by decide +kernel
theorem dX10_partTold_68 : decode cX10_partTold 68 = .ok (.lreturn, 1) := by decide +kernel
theorem dX10_part_0 : decode cX10_part 0 = .ok (.aload_n 0, 1) := by decide +kernel
theorem dX10_part_1 : decode cX10_part 1 = .ok (.iload_n 1, 1) := by decide +kernel
theorem dX10_part_2 : decode cX10_part 2 = .ok (.invokevirtual 128, 3) := by decide +kernel
theorem dX10_part_5 : decode cX10_part 5 = .ok (.ifCond .ne 9, 3) := by decide +kernel
theorem dX10_part_8 : decode cX10_part 8 = .ok (.aload_n 0, 1) := by decide +kernel
theorem dX10_part_9 : decode cX10_part 9 = .ok (.iconst 1, 1) := by decide +kernel
theorem dX10_part_10 : decode cX10_part 10 = .ok (.invokevirtual 39, 3) := by decide +kernel
theorem dX10_part_13 : decode cX10_part 13 = .ok (.ireturn, 1) := by decide +kernel
theorem dX10_part_14 : decode cX10_part 14 = .ok (.iload_n 2, 1) := by decide +kernel
theorem dX10_part_15 : decode cX10_part 15 = .ok (.invokestatic 140, 3) := by decide +kernel
theorem dX10_part_18 : decode cX10_part 18 = .ok (.ifCond .eq 29, 3) := by decide +kernel
theorem dX10_part_21 : decode cX10_part 21 = .ok (.iload_n 3, 1) := by decide +kernel
theorem dX10_part_22 : decode cX10_part 22 = .ok (.i2l, 1) := by decide +kernel
theorem dX10_part_23 : decode cX10_part 23 = .ok (.lconst 0, 1) := by decide +kernel
theorem dX10_part_24 : decode cX10_part 24 = .ok (.ldc2_w 145, 3) := by decide +kernel
theorem dX10_part_27 : decode cX10_part 27 = .ok (.invokestatic 50, 3) := by decide +kernel
theorem dX10_part_30 : decode cX10_part 30 = .ok (.ifCond .eq 17, 3) := by decide +kernel
theorem dX10_part_33 : decode cX10_part 33 = .ok (.aload_n 0, 1) := by decide +kernel
theorem dX10_part_34 : decode cX10_part 34 = .ok (.aload_n 0, 1) := by decide +kernel
theorem dX10_part_35 : decode cX10_part 35 = .ok (.iload_n 1, 1) := by decide +kernel
theorem dX10_part_36 : decode cX10_part 36 = .ok (.iload_n 2, 1) := by decide +kernel
theorem dX10_part_37 : decode cX10_part 37 = .ok (.iload_n 3, 1) := by decide +kernel
theorem dX10_part_38 : decode cX10_part 38 = .ok (.invokevirtual 232, 3) := by decide +kernel
theorem dX10_part_41 : decode cX10_part 41 = .ok (.invokevirtual 46, 3) := by decide +kernel
theorem dX10_part_44 : decode cX10_part 44 = .ok (.goto 8, 3) := by decide +kernel
theorem dX10_part_47 : decode cX10_part 47 = .ok (.aload_n 0, 1) := by decide +kernel
theorem dX10_part_48 : decode cX10_part 48 = .ok (.iconst 2, 1) := by decide +kernel
theorem dX10_part_49 : decode cX10_part 49 = .ok (.invokevirtual 39, 3) := by decide +kernel
theorem dX10_part_52 : decode cX10_part 52 = .ok (.ireturn, 1) := by decide +kernel
theorem dX10_entry_0 : decode cX10_entry 0 = .ok (.aload_n 0, 1) := by decide +kernel
theorem dX10_entry_1 : decode cX10_entry 1 = .ok (.iload_n 1, 1) := by decide +kernel
theorem dX10_entry_2 : decode cX10_entry 2 = .ok (.invokevirtual 128, 3) := by decide +kernel
theorem dX10_entry_5 : decode cX10_entry 5 = .ok (.ifCond .ne 9, 3) := by decide +kernel
theorem dX10_entry_8 : decode cX10_entry 8 = .ok (.aload_n 0, 1) := by decide +kernel
theorem dX10_entry_9 : decode cX10_entry 9 = .ok (.iconst 1, 1) := by decide +kernel
theorem dX10_entry_10 : decode cX10_entry 10 = .ok (.invokevirtual 39, 3) := by decide +kernel
theorem dX10_entry_13 : decode cX10_entry 13 = .ok (.ireturn, 1) := by decide +kernel
theorem dX10_entry_14 : decode cX10_entry 14 = .ok (.iload_n 3, 1) := by decide +kernel
theorem dX10_entry_15 : decode cX10_entry 15 = .ok (.ifCond .lt 16, 3) := by decide +kernel
theorem dX10_entry_18 : decode cX10_entry 18 = .ok (.iload 4, 2) := by decide +kernel
theorem dX10_entry_20 : decode cX10_entry 20 = .ok (.i2l, 1) := by decide +kernel
theorem dX10_entry_21 : decode cX10_entry 21 = .ok (.lconst 0, 1) := by decide +kernel
theorem dX10_entry_22 : decode cX10_entry 22 = .ok (.ldc2_w 236, 3) := by decide +kernel
theorem dX10_entry_25 : decode cX10_entry 25 = .ok (.invokestatic 50, 3) := by decide +kernel
theorem dX10_entry_28 : decode cX10_entry 28 = .ok (.ifCond .ne 9, 3) := by decide +kernel
theorem dX10_entry_31 : decode cX10_entry 31 = .ok (.aload_n 0, 1) := by decide +kernel
theorem dX10_entry_32 : decode cX10_entry 32 = .ok (.iconst 2, 1) := by decide +kernel
theorem dX10_entry_33 : decode cX10_entry 33 = .ok (.invokevirtual 39, 3) := by decide +kernel
theorem dX10_entry_36 : decode cX10_entry 36 = .ok (.ireturn, 1) := by decide +kernel
theorem dX10_entry_37 : decode cX10_entry 37 = .ok (.aload_n 0, 1) := by decide +kernel
theorem dX10_entry_38 : decode cX10_entry 38 = .ok (.iload_n 1, 1) := by decide +kernel
theorem dX10_entry_39 : decode cX10_entry 39 = .ok (.iload_n 2, 1) := by decide +kernel
theorem dX10_entry_40 : decode cX10_entry 40 = .ok (.ifCond .eq 8, 3) := by decide +kernel
theorem dX10_entry_43 : decode cX10_entry 43 = .ok (.bipush 10, 2) := by decide +kernel
theorem dX10_entry_45 : decode cX10_entry 45 = .ok (.goto 5, 3) := by decide +kernel
theorem dX10_entry_48 : decode cX10_entry 48 = .ok (.bipush 9, 2) := by decide +kernel
theorem dX10_entry_50 : decode cX10_entry 50 = .ok (.invokevirtual 56, 3) := by decide +kernel
theorem dX10_entry_53 : decode cX10_entry 53 = .ok (.lstore 5, 2) := by decide +kernel
theorem dX10_entry_55 : decode cX10_entry 55 = .ok (.iload_n 2, 1) := by decide +kernel
theorem dX10_entry_56 : decode cX10_entry 56 = .ok (.ifCond .eq 14, 3) := by decide +kernel
theorem dX10_entry_59 : decode cX10_entry 59 = .ok (.aload_n 0, 1) := by decide +kernel
theorem dX10_entry_60 : decode cX10_entry 60 = .ok (.iload_n 1, 1) := by decide +kernel
theorem dX10_entry_61 : decode cX10_entry 61 = .ok (.bipush 9, 2) := by decide +kernel
theorem dX10_entry_63 : decode cX10_entry 63 = .ok (.invokevirtual 56, 3) := by decide +kernel
theorem dX10_entry_66 : decode cX10_entry 66 = .ok (.l2i, 1) := by decide +kernel
theorem dX10_entry_67 : decode cX10_entry 67 = .ok (.goto 4, 3) := by decide +kernel
theorem dX10_entry_70 : decode cX10_entry 70 = .ok (.iconst 0, 1) := by decide +kernel
theorem dX10_entry_71 : decode cX10_entry 71 = .ok (.istore 7, 2) := by decide +kernel
theorem dX10_entry_73 : decode cX10_entry 73 = .ok (.aload_n 0, 1) := by decide +kernel
theorem dX10_entry_74 : decode cX10_entry 74 = .ok (.iload_n 3, 1) := by decide +kernel
theorem dX10_entry_75 : decode cX10_entry 75 = .ok (.i2l, 1) := by decide +kernel
theorem dX10_entry_76 : decode cX10_entry 76 = .ok (.lload 5, 2) := by decide +kernel
theorem dX10_entry_78 : decode cX10_entry 78 = .ok (.lcmp, 1) := by decide +kernel
theorem dX10_entry_79 : decode cX10_entry 79 = .ok (.ifCond .ge 18, 3) := by decide +kernel
theorem dX10_entry_82 : decode cX10_entry 82 = .ok (.aload_n 0, 1) := by decide +kernel
theorem dX10_entry_83 : decode cX10_entry 83 = .ok (.iload_n 1, 1) := by decide +kernel
theorem dX10_entry_84 : decode cX10_entry 84 = .ok (.iload 7, 2) := by decide +kernel
theorem dX10_entry_86 : decode cX10_entry 86 = .ok (.iload_n 3, 1) := by decide +kernel
theorem dX10_entry_87 : decode cX10_entry 87 = .ok (.iadd, 1) := by decide +kernel
theorem dX10_entry_88 : decode cX10_entry 88 = .ok (.iload 4, 2) := by decide +kernel
theorem dX10_entry_90 : decode cX10_entry 90 = .ok (.invokevirtual 79, 3) := by decide +kernel
theorem dX10_entry_93 : decode cX10_entry 93 = .ok (.i2l, 1) := by decide +kernel
theorem dX10_entry_94 : decode cX10_entry 94 = .ok (.goto 6, 3) := by decide +kernel
theorem dX10_entry_97 : decode cX10_entry 97 = .ok (.ldc2_w 74, 3) := by decide +kernel
theorem dX10_entry_100 : decode cX10_entry 100 = .ok (.invokevirtual 46, 3) := by decide +kernel
theorem dX10_entry_103 : decode cX10_entry 103 = .ok (.ireturn, 1) := by decide +kernel
theorem dX10_wholeTold_0 : decode cX10_wholeTold 0 = .ok (.iload_n 1, 1) := by decide +kernel
theorem dX10_wholeTold_1 : decode cX10_wholeTold 1 = .ok (.iconst 4, 1) := by decide +kernel
theorem dX10_wholeTold_2 : decode cX10_wholeTold 2 = .ok (.if_icmp .ge 10, 3) := by decide +kernel
theorem dX10_wholeTold_5 : decode cX10_wholeTold 5 = .ok (.aload_n 0, 1) := by decide +kernel
theorem dX10_wholeTold_6 : decode cX10_wholeTold 6 = .ok (.getfield 7, 3) := by decide +kernel
theorem dX10_wholeTold_9 : decode cX10_wholeTold 9 = .ok (.iload_n 1, 1) := by decide +kernel
theorem dX10_wholeTold_10 : decode cX10_wholeTold 10 = .ok (.laload, 1) := by decide +kernel
theorem dX10_wholeTold_11 : decode cX10_wholeTold 11 = .ok (.lreturn, 1) := by decide +kernel
theorem dX10_wholeTold_12 : decode cX10_wholeTold 12 = .ok (.iload_n 1, 1) := by decide +kernel
theorem dX10_wholeTold_13 : decode cX10_wholeTold 13 = .ok (.bipush 9, 2) := by decide +kernel
theorem dX10_wholeTold_15 : decode cX10_wholeTold 15 = .ok (.if_icmp .ne 9, 3) := by decide +kernel
theorem dX10_wholeTold_18 : decode cX10_wholeTold 18 = .ok (.aload_n 0, 1) := by decide +kernel
theorem dX10_wholeTold_19 : decode cX10_wholeTold 19 = .ok (.getfield 238, 3) := by decide +kernel
theorem dX10_wholeTold_22 : decode cX10_wholeTold 22 = .ok (.i2l, 1) := by decide +kernel
theorem dX10_wholeTold_23 : decode cX10_wholeTold 23 = .ok (.lreturn, 1) := by decide +kernel
theorem dX10_wholeTold_24 : decode cX10_wholeTold 24 = .ok (.lconst 0, 1) := by decide +kernel
theorem dX10_wholeTold_25 : decode cX10_wholeTold 25 = .ok (.lstore_n 2, 1) := by decide +kernel
theorem dX10_wholeTold_26 : decode cX10_wholeTold 26 = .ok (.iconst 0, 1) := by decide +kernel
theorem dX10_wholeTold_27 : decode cX10_wholeTold 27 = .ok (.istore 4, 2) := by decide +kernel
theorem dX10_wholeTold_29 : decode cX10_wholeTold 29 = .ok (.iload 4, 2) := by decide +kernel
theorem dX10_wholeTold_31 : decode cX10_wholeTold 31 = .ok (.i2l, 1) := by decide +kernel
theorem dX10_wholeTold_32 : decode cX10_wholeTold 32 = .ok (.aload_n 0, 1) := by decide +kernel
theorem dX10_wholeTold_33 : decode cX10_wholeTold 33 = .ok (.getfield 7, 3) := by decide +kernel
theorem dX10_wholeTold_36 : decode cX10_wholeTold 36 = .ok (.iconst 2, 1) := by decide +kernel
theorem dX10_wholeTold_37 : decode cX10_wholeTold 37 = .ok (.laload, 1) := by decide +kernel
theorem dX10_wholeTold_38 : decode cX10_wholeTold 38 = .ok (.lcmp, 1) := by decide +kernel
theorem dX10_wholeTold_39 : decode cX10_wholeTold 39 = .ok (.ifCond .ge 98, 3) := by decide +kernel
theorem dX10_wholeTold_42 : decode cX10_wholeTold 42 = .ok (.lload_n 2, 1) := by decide +kernel
theorem dX10_wholeTold_43 : decode cX10_wholeTold 43 = .ok (.iload_n 1, 1) := by decide +kernel
theorem dX10_wholeTold_44 : decode cX10_wholeTold 44 = .ok (.iconst 4, 1) := by decide +kernel
theorem dX10_wholeTold_45 : decode cX10_wholeTold 45 = .ok (.if_icmp .ne 14, 3) := by decide +kernel
theorem dX10_wholeTold_48 : decode cX10_wholeTold 48 = .ok (.aload_n 0, 1) := by decide +kernel
theorem dX10_wholeTold_49 : decode cX10_wholeTold 49 = .ok (.iload 4, 2) := by decide +kernel
theorem dX10_wholeTold_51 : decode cX10_wholeTold 51 = .ok (.bipush 9, 2) := by decide +kernel
theorem dX10_wholeTold_53 : decode cX10_wholeTold 53 = .ok (.invokevirtual 56, 3) := by decide +kernel
theorem dX10_wholeTold_56 : decode cX10_wholeTold 56 = .ok (.goto 73, 3) := by decide +kernel
theorem dX10_wholeTold_59 : decode cX10_wholeTold 59 = .ok (.iload_n 1, 1) := by decide +kernel
theorem dX10_wholeTold_60 : decode cX10_wholeTold 60 = .ok (.iconst 5, 1) := by decide +kernel
theorem dX10_wholeTold_61 : decode cX10_wholeTold 61 = .ok (.if_icmp .ne 14, 3) := by decide +kernel
theorem dX10_wholeTold_64 : decode cX10_wholeTold 64 = .ok (.aload_n 0, 1) := by decide +kernel
theorem dX10_wholeTold_65 : decode cX10_wholeTold 65 = .ok (.iload 4, 2) := by decide +kernel
theorem dX10_wholeTold_67 : decode cX10_wholeTold 67 = .ok (.bipush 10, 2) := by decide +kernel
theorem dX10_wholeTold_69 : decode cX10_wholeTold 69 = .ok (.invokevirtual 56, 3) := by decide +kernel
theorem dX10_wholeTold_72 : decode cX10_wholeTold 72 = .ok (.goto 57, 3) := by decide +kernel
theorem dX10_wholeTold_75 : decode cX10_wholeTold 75 = .ok (.iload_n 1, 1) := by decide +kernel
theorem dX10_wholeTold_76 : decode cX10_wholeTold 76 = .ok (.bipush 6, 2) := by decide +kernel
theorem dX10_wholeTold_78 : decode cX10_wholeTold 78 = .ok (.if_icmp .ne 20, 3) := by decide +kernel
theorem dX10_wholeTold_81 : decode cX10_wholeTold 81 = .ok (.aload_n 0, 1) := by decide +kernel
theorem dX10_wholeTold_82 : decode cX10_wholeTold 82 = .ok (.iload 4, 2) := by decide +kernel
theorem dX10_wholeTold_84 : decode cX10_wholeTold 84 = .ok (.invokevirtual 224, 3) := by decide +kernel
theorem dX10_wholeTold_87 : decode cX10_wholeTold 87 = .ok (.ifCond .eq 7, 3) := by decide +kernel
theorem dX10_wholeTold_90 : decode cX10_wholeTold 90 = .ok (.lconst 1, 1) := by decide +kernel
theorem dX10_wholeTold_91 : decode cX10_wholeTold 91 = .ok (.goto 38, 3) := by decide +kernel
theorem dX10_wholeTold_94 : decode cX10_wholeTold 94 = .ok (.lconst 0, 1) := by decide +kernel
theorem dX10_wholeTold_95 : decode cX10_wholeTold 95 = .ok (.goto 34, 3) := by decide +kernel
theorem dX10_wholeTold_98 : decode cX10_wholeTold 98 = .ok (.iload_n 1, 1) := by decide +kernel
theorem dX10_wholeTold_99 : decode cX10_wholeTold 99 = .ok (.bipush 7, 2) := by decide +kernel
theorem dX10_wholeTold_101 : decode cX10_wholeTold 101 = .ok (.if_icmp .ne 21, 3) := by decide +kernel
theorem dX10_wholeTold_104 : decode cX10_wholeTold 104 = .ok (.aload_n 0, 1) := by decide +kernel
theorem dX10_wholeTold_105 : decode cX10_wholeTold 105 = .ok (.iload 4, 2) := by decide +kernel
theorem dX10_wholeTold_107 : decode cX10_wholeTold 107 = .ok (.invokevirtual 83, 3) := by decide +kernel
theorem dX10_wholeTold_110 : decode cX10_wholeTold 110 = .ok (.iconst (-1), 1) := by decide +kernel
theorem dX10_wholeTold_111 : decode cX10_wholeTold 111 = .ok (.if_icmp .ne 7, 3) := by decide +kernel
theorem dX10_wholeTold_114 : decode cX10_wholeTold 114 = .ok (.lconst 1, 1) := by decide +kernel
theorem dX10_wholeTold_115 : decode cX10_wholeTold 115 = .ok (.goto 14, 3) := by decide +kernel
theorem dX10_wholeTold_118 : decode cX10_wholeTold 118 = .ok (.lconst 0, 1) := by decide +kernel
theorem dX10_wholeTold_119 : decode cX10_wholeTold 119 = .ok (.goto 10, 3) := by decide +kernel
theorem dX10_wholeTold_122 : decode cX10_wholeTold 122 = .ok (.aload_n 0, 1) := by decide +kernel
theorem dX10_wholeTold_123 : decode cX10_wholeTold 123 = .ok (.iload 4, 2) := by decide +kernel
theorem dX10_wholeTold_125 : decode cX10_wholeTold 125 = .ok (.iconst 5, 1) := by decide +kernel
theorem dX10_wholeTold_126 : decode cX10_wholeTold 126 = .ok (.invokevirtual 56, 3) := by decide +kernel
theorem dX10_wholeTold_129 : decode cX10_wholeTold 129 = .ok (.ladd, 1) := by decide +kernel
theorem dX10_wholeTold_130 : decode cX10_wholeTold 130 = .ok (.lstore_n 2, 1) := by decide +kernel
theorem dX10_wholeTold_131 : decode cX10_wholeTold 131 = .ok (.iinc 4 1, 3) := by decide +kernel
theorem dX10_wholeTold_134 : decode cX10_wholeTold 134 = .ok (.goto (-105), 3) := by decide +kernel
theorem dX10_wholeTold_137 : decode cX10_wholeTold 137 = .ok (.lload_n 2, 1) := by decide +kernel
theorem dX10_wholeTold_138 : decode cX10_wholeTold 138 = .ok (.lreturn, 1) := by decide +kernel
theorem dX10_whole_0 : decode cX10_whole 0 = .ok (.iload_n 1, 1) := by decide +kernel
theorem dX10_whole_1 : decode cX10_whole 1 = .ok (.i2l, 1) := by decide +kernel
theorem dX10_whole_2 : decode cX10_whole 2 = .ok (.lconst 0, 1) := by decide +kernel
theorem dX10_whole_3 : decode cX10_whole 3 = .ok (.ldc2_w 241, 3) := by decide +kernel
theorem dX10_whole_6 : decode cX10_whole 6 = .ok (.invokestatic 50, 3) := by decide +kernel
theorem dX10_whole_9 : decode cX10_whole 9 = .ok (.ifCond .eq 15, 3) := by decide +kernel
theorem dX10_whole_12 : decode cX10_whole 12 = .ok (.aload_n 0, 1) := by decide +kernel
theorem dX10_whole_13 : decode cX10_whole 13 = .ok (.aload_n 0, 1) := by decide +kernel
theorem dX10_whole_14 : decode cX10_whole 14 = .ok (.iload_n 1, 1) := by decide +kernel
theorem dX10_whole_15 : decode cX10_whole 15 = .ok (.invokevirtual 243, 3) := by decide +kernel
theorem dX10_whole_18 : decode cX10_whole 18 = .ok (.invokevirtual 46, 3) := by decide +kernel
theorem dX10_whole_21 : decode cX10_whole 21 = .ok (.goto 8, 3) := by decide +kernel
theorem dX10_whole_24 : decode cX10_whole 24 = .ok (.aload_n 0, 1) := by decide +kernel
theorem dX10_whole_25 : decode cX10_whole 25 = .ok (.iconst 1, 1) := by decide +kernel
theorem dX10_whole_26 : decode cX10_whole 26 = .ok (.invokevirtual 39, 3) := by decide +kernel
theorem dX10_whole_29 : decode cX10_whole 29 = .ok (.ireturn, 1) := by decide +kernel
theorem dX10_completeOn_0 : decode cX10_completeOn 0 = .ok (.aload_n 0, 1) := by decide +kernel
theorem dX10_completeOn_1 : decode cX10_completeOn 1 = .ok (.iload_n 1, 1) := by decide +kernel
theorem dX10_completeOn_2 : decode cX10_completeOn 2 = .ok (.invokevirtual 128, 3) := by decide +kernel
theorem dX10_completeOn_5 : decode cX10_completeOn 5 = .ok (.ifCond .ne 9, 3) := by decide +kernel
theorem dX10_completeOn_8 : decode cX10_completeOn 8 = .ok (.aload_n 0, 1) := by decide +kernel
theorem dX10_completeOn_9 : decode cX10_completeOn 9 = .ok (.iconst 1, 1) := by decide +kernel
theorem dX10_completeOn_10 : decode cX10_completeOn 10 = .ok (.invokevirtual 39, 3) := by decide +kernel
theorem dX10_completeOn_13 : decode cX10_completeOn 13 = .ok (.ireturn, 1) := by decide +kernel
theorem dX10_completeOn_14 : decode cX10_completeOn 14 = .ok (.iload_n 2, 1) := by decide +kernel
theorem dX10_completeOn_15 : decode cX10_completeOn 15 = .ok (.i2l, 1) := by decide +kernel
theorem dX10_completeOn_16 : decode cX10_completeOn 16 = .ok (.lconst 1, 1) := by decide +kernel
theorem dX10_completeOn_17 : decode cX10_completeOn 17 = .ok (.ldc2_w 143, 3) := by decide +kernel
theorem dX10_completeOn_20 : decode cX10_completeOn 20 = .ok (.invokestatic 50, 3) := by decide +kernel
theorem dX10_completeOn_23 : decode cX10_completeOn 23 = .ok (.ifCond .ne 9, 3) := by decide +kernel
theorem dX10_completeOn_26 : decode cX10_completeOn 26 = .ok (.aload_n 0, 1) := by decide +kernel
theorem dX10_completeOn_27 : decode cX10_completeOn 27 = .ok (.iconst 2, 1) := by decide +kernel
theorem dX10_completeOn_28 : decode cX10_completeOn 28 = .ok (.invokevirtual 39, 3) := by decide +kernel
theorem dX10_completeOn_31 : decode cX10_completeOn 31 = .ok (.ireturn, 1) := by decide +kernel
theorem dX10_completeOn_32 : decode cX10_completeOn 32 = .ok (.lconst 0, 1) := by decide +kernel
theorem dX10_completeOn_33 : decode cX10_completeOn 33 = .ok (.lstore_n 3, 1) := by decide +kernel
theorem dX10_completeOn_34 : decode cX10_completeOn 34 = .ok (.iconst 0, 1) := by decide +kernel
theorem dX10_completeOn_35 : decode cX10_completeOn 35 = .ok (.istore 5, 2) := by decide +kernel
theorem dX10_completeOn_37 : decode cX10_completeOn 37 = .ok (.iload 5, 2) := by decide +kernel
theorem dX10_completeOn_39 : decode cX10_completeOn 39 = .ok (.iconst 3, 1) := by decide +kernel
theorem dX10_completeOn_40 : decode cX10_completeOn 40 = .ok (.if_icmp .ge 44, 3) := by decide +kernel
theorem dX10_completeOn_43 : decode cX10_completeOn 43 = .ok (.aload_n 0, 1) := by decide +kernel
theorem dX10_completeOn_44 : decode cX10_completeOn 44 = .ok (.iload_n 1, 1) := by decide +kernel
theorem dX10_completeOn_45 : decode cX10_completeOn 45 = .ok (.iload 5, 2) := by decide +kernel
theorem dX10_completeOn_47 : decode cX10_completeOn 47 = .ok (.invokevirtual 217, 3) := by decide +kernel
theorem dX10_completeOn_50 : decode cX10_completeOn 50 = .ok (.aload_n 0, 1) := by decide +kernel
theorem dX10_completeOn_51 : decode cX10_completeOn 51 = .ok (.iload_n 1, 1) := by decide +kernel
theorem dX10_completeOn_52 : decode cX10_completeOn 52 = .ok (.iload 5, 2) := by decide +kernel
theorem dX10_completeOn_54 : decode cX10_completeOn 54 = .ok (.iconst 0, 1) := by decide +kernel
theorem dX10_completeOn_55 : decode cX10_completeOn 55 = .ok (.invokevirtual 220, 3) := by decide +kernel
theorem dX10_completeOn_58 : decode cX10_completeOn 58 = .ok (.i2l, 1) := by decide +kernel
theorem dX10_completeOn_59 : decode cX10_completeOn 59 = .ok (.lsub, 1) := by decide +kernel
theorem dX10_completeOn_60 : decode cX10_completeOn 60 = .ok (.lstore 6, 2) := by decide +kernel
theorem dX10_completeOn_62 : decode cX10_completeOn 62 = .ok (.lload_n 3, 1) := by decide +kernel
theorem dX10_completeOn_63 : decode cX10_completeOn 63 = .ok (.lload 6, 2) := by decide +kernel
theorem dX10_completeOn_65 : decode cX10_completeOn 65 = .ok (.lconst 0, 1) := by decide +kernel
theorem dX10_completeOn_66 : decode cX10_completeOn 66 = .ok (.lcmp, 1) := by decide +kernel
theorem dX10_completeOn_67 : decode cX10_completeOn 67 = .ok (.ifCond .ge 7, 3) := by decide +kernel
theorem dX10_completeOn_70 : decode cX10_completeOn 70 = .ok (.lconst 0, 1) := by decide +kernel
theorem dX10_completeOn_71 : decode cX10_completeOn 71 = .ok (.goto 5, 3) := by decide +kernel
theorem dX10_completeOn_74 : decode cX10_completeOn 74 = .ok (.lload 6, 2) := by decide +kernel
theorem dX10_completeOn_76 : decode cX10_completeOn 76 = .ok (.ladd, 1) := by decide +kernel
theorem dX10_completeOn_77 : decode cX10_completeOn 77 = .ok (.lstore_n 3, 1) := by decide +kernel
theorem dX10_completeOn_78 : decode cX10_completeOn 78 = .ok (.iinc 5 1, 3) := by decide +kernel
theorem dX10_completeOn_81 : decode cX10_completeOn 81 = .ok (.goto (-44), 3) := by decide +kernel
theorem dX10_completeOn_84 : decode cX10_completeOn 84 = .ok (.aload_n 0, 1) := by decide +kernel
theorem dX10_completeOn_85 : decode cX10_completeOn 85 = .ok (.getfield 7, 3) := by decide +kernel
theorem dX10_completeOn_88 : decode cX10_completeOn 88 = .ok (.iconst 3, 1) := by decide +kernel
theorem dX10_completeOn_89 : decode cX10_completeOn 89 = .ok (.laload, 1) := by decide +kernel
theorem dX10_completeOn_90 : decode cX10_completeOn 90 = .ok (.l2i, 1) := by decide +kernel
theorem dX10_completeOn_91 : decode cX10_completeOn 91 = .ok (.istore 5, 2) := by decide +kernel
theorem dX10_completeOn_93 : decode cX10_completeOn 93 = .ok (.lload_n 3, 1) := by decide +kernel
theorem dX10_completeOn_94 : decode cX10_completeOn 94 = .ok (.lconst 0, 1) := by decide +kernel
theorem dX10_completeOn_95 : decode cX10_completeOn 95 = .ok (.lcmp, 1) := by decide +kernel
theorem dX10_completeOn_96 : decode cX10_completeOn 96 = .ok (.ifCond .ne 11, 3) := by decide +kernel
theorem dX10_completeOn_99 : decode cX10_completeOn 99 = .ok (.aload_n 0, 1) := by decide +kernel
theorem dX10_completeOn_100 : decode cX10_completeOn 100 = .ok (.iload 5, 2) := by decide +kernel
theorem dX10_completeOn_102 : decode cX10_completeOn 102 = .ok (.i2l, 1) := by decide +kernel
theorem dX10_completeOn_103 : decode cX10_completeOn 103 = .ok (.invokevirtual 46, 3) := by decide +kernel
theorem dX10_completeOn_106 : decode cX10_completeOn 106 = .ok (.ireturn, 1) := by decide +kernel
theorem dX10_completeOn_107 : decode cX10_completeOn 107 = .ok (.iconst 0, 1) := by decide +kernel
theorem dX10_completeOn_108 : decode cX10_completeOn 108 = .ok (.istore 6, 2) := by decide +kernel
theorem dX10_completeOn_110 : decode cX10_completeOn 110 = .ok (.iload 6, 2) := by decide +kernel
theorem dX10_completeOn_112 : decode cX10_completeOn 112 = .ok (.sipush 2000, 3) := by decide +kernel
theorem dX10_completeOn_115 : decode cX10_completeOn 115 = .ok (.if_icmp .ge 50, 3) := by decide +kernel
theorem dX10_completeOn_118 : decode cX10_completeOn 118 = .ok (.lload_n 3, 1) := by decide +kernel
theorem dX10_completeOn_119 : decode cX10_completeOn 119 = .ok (.aload_n 0, 1) := by decide +kernel
theorem dX10_completeOn_120 : decode cX10_completeOn 120 = .ok (.iload_n 1, 1) := by decide +kernel
theorem dX10_completeOn_121 : decode cX10_completeOn 121 = .ok (.bipush 11, 2) := by decide +kernel
theorem dX10_completeOn_123 : decode cX10_completeOn 123 = .ok (.iload 5, 2) := by decide +kernel
theorem dX10_completeOn_125 : decode cX10_completeOn 125 = .ok (.iload 6, 2) := by decide +kernel
theorem dX10_completeOn_127 : decode cX10_completeOn 127 = .ok (.iadd, 1) := by decide +kernel
theorem dX10_completeOn_128 : decode cX10_completeOn 128 = .ok (.invokevirtual 64, 3) := by decide +kernel
theorem dX10_completeOn_131 : decode cX10_completeOn 131 = .ok (.ifCond .eq 7, 3) := by decide +kernel
theorem dX10_completeOn_134 : decode cX10_completeOn 134 = .ok (.lconst 0, 1) := by decide +kernel
theorem dX10_completeOn_135 : decode cX10_completeOn 135 = .ok (.goto 5, 3) := by decide +kernel
theorem dX10_completeOn_138 : decode cX10_completeOn 138 = .ok (.iload_n 2, 1) := by decide +kernel
theorem dX10_completeOn_139 : decode cX10_completeOn 139 = .ok (.i2l, 1) := by decide +kernel
theorem dX10_completeOn_140 : decode cX10_completeOn 140 = .ok (.lsub, 1) := by decide +kernel
theorem dX10_completeOn_141 : decode cX10_completeOn 141 = .ok (.lstore_n 3, 1) := by decide +kernel
theorem dX10_completeOn_142 : decode cX10_completeOn 142 = .ok (.lload_n 3, 1) := by decide +kernel
theorem dX10_completeOn_143 : decode cX10_completeOn 143 = .ok (.lconst 0, 1) := by decide +kernel
theorem dX10_completeOn_144 : decode cX10_completeOn 144 = .ok (.lcmp, 1) := by decide +kernel
theorem dX10_completeOn_145 : decode cX10_completeOn 145 = .ok (.ifCond .gt 14, 3) := by decide +kernel
theorem dX10_completeOn_148 : decode cX10_completeOn 148 = .ok (.aload_n 0, 1) := by decide +kernel
theorem dX10_completeOn_149 : decode cX10_completeOn 149 = .ok (.iload 5, 2) := by decide +kernel
theorem dX10_completeOn_151 : decode cX10_completeOn 151 = .ok (.iload 6, 2) := by decide +kernel
theorem dX10_completeOn_153 : decode cX10_completeOn 153 = .ok (.iadd, 1) := by decide +kernel
theorem dX10_completeOn_154 : decode cX10_completeOn 154 = .ok (.i2l, 1) := by decide +kernel
theorem dX10_completeOn_155 : decode cX10_completeOn 155 = .ok (.invokevirtual 46, 3) := by decide +kernel
theorem dX10_completeOn_158 : decode cX10_completeOn 158 = .ok (.ireturn, 1) := by decide +kernel
theorem dX10_completeOn_159 : decode cX10_completeOn 159 = .ok (.iinc 6 1, 3) := by decide +kernel
theorem dX10_completeOn_162 : decode cX10_completeOn 162 = .ok (.goto (-52), 3) := by decide +kernel
theorem dX10_completeOn_165 : decode cX10_completeOn 165 = .ok (.aload_n 0, 1) := by decide +kernel
theorem dX10_completeOn_166 : decode cX10_completeOn 166 = .ok (.ldc2_w 74, 3) := by decide +kernel
theorem dX10_completeOn_169 : decode cX10_completeOn 169 = .ok (.invokevirtual 46, 3) := by decide +kernel
theorem dX10_completeOn_172 : decode cX10_completeOn 172 = .ok (.ireturn, 1) := by decide +kernel
theorem dX10_best_0 : decode cX10_best 0 = .ok (.iconst (-1), 1) := by decide +kernel
theorem dX10_best_1 : decode cX10_best 1 = .ok (.istore_n 2, 1) := by decide +kernel
theorem dX10_best_2 : decode cX10_best 2 = .ok (.lconst 0, 1) := by decide +kernel
theorem dX10_best_3 : decode cX10_best 3 = .ok (.lstore_n 3, 1) := by decide +kernel
theorem dX10_best_4 : decode cX10_best 4 = .ok (.lconst 1, 1) := by decide +kernel
theorem dX10_best_5 : decode cX10_best 5 = .ok (.lstore 5, 2) := by decide +kernel
theorem dX10_best_7 : decode cX10_best 7 = .ok (.iconst 0, 1) := by decide +kernel
theorem dX10_best_8 : decode cX10_best 8 = .ok (.istore 7, 2) := by decide +kernel
theorem dX10_best_10 : decode cX10_best 10 = .ok (.iload 7, 2) := by decide +kernel
theorem dX10_best_12 : decode cX10_best 12 = .ok (.i2l, 1) := by decide +kernel
theorem dX10_best_13 : decode cX10_best 13 = .ok (.aload_n 0, 1) := by decide +kernel
theorem dX10_best_14 : decode cX10_best 14 = .ok (.getfield 7, 3) := by decide +kernel
theorem dX10_best_17 : decode cX10_best 17 = .ok (.iconst 1, 1) := by decide +kernel
theorem dX10_best_18 : decode cX10_best 18 = .ok (.laload, 1) := by decide +kernel
theorem dX10_best_19 : decode cX10_best 19 = .ok (.lcmp, 1) := by decide +kernel
theorem dX10_best_20 : decode cX10_best 20 = .ok (.ifCond .ge 102, 3) := by decide +kernel
theorem dX10_best_23 : decode cX10_best 23 = .ok (.aload_n 0, 1) := by decide +kernel
theorem dX10_best_24 : decode cX10_best 24 = .ok (.iload 7, 2) := by decide +kernel
theorem dX10_best_26 : decode cX10_best 26 = .ok (.invokevirtual 89, 3) := by decide +kernel
theorem dX10_best_29 : decode cX10_best 29 = .ok (.i2l, 1) := by decide +kernel
theorem dX10_best_30 : decode cX10_best 30 = .ok (.lconst 1, 1) := by decide +kernel
theorem dX10_best_31 : decode cX10_best 31 = .ok (.ladd, 1) := by decide +kernel
theorem dX10_best_32 : decode cX10_best 32 = .ok (.lstore 8, 2) := by decide +kernel
