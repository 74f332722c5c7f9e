theorem dX7_passDays_23 : decode cX7_passDays 23 = .ok (.getfield 24, 3) := by decide +kernel
theorem dX7_passDays_26 : decode cX7_passDays 26 = .ok (.iload 4, 2) := by decide +kernel
theorem dX7_passDays_28 : decode cX7_passDays 28 = .ok (.aaload, 1) := by decide +kernel
theorem dX7_passDays_29 : decode cX7_passDays 29 = .ok (.aload_n 0, 1) := by decide +kernel
theorem dX7_passDays_30 : decode cX7_passDays 30 = .ok (.getfield 48, 3) := by decide +kernel
theorem dX7_passDays_33 : decode cX7_passDays 33 = .ok (.bipush 14, 2) := by decide +kernel
theorem dX7_passDays_35 : decode cX7_passDays 35 = .ok (.isub, 1) := by decide +kernel
theorem dX7_passDays_36 : decode cX7_passDays 36 = .ok (.invokevirtual 193, 3) := by decide +kernel
theorem dX7_passDays_39 : decode cX7_passDays 39 = .ok (.iadd, 1) := by decide +kernel
theorem dX7_passDays_40 : decode cX7_passDays 40 = .ok (.istore_n 2, 1) := by decide +kernel
theorem dX7_passDays_41 : decode cX7_passDays 41 = .ok (.aload_n 0, 1) := by decide +kernel
theorem dX7_passDays_42 : decode cX7_passDays 42 = .ok (.getfield 24, 3) := by decide +kernel
theorem dX7_passDays_45 : decode cX7_passDays 45 = .ok (.iload 4, 2) := by decide +kernel
theorem dX7_passDays_47 : decode cX7_passDays 47 = .ok (.aaload, 1) := by decide +kernel
theorem dX7_passDays_48 : decode cX7_passDays 48 = .ok (.iconst 0, 1) := by decide +kernel
theorem dX7_passDays_49 : decode cX7_passDays 49 = .ok (.putfield 196, 3) := by decide +kernel
theorem dX7_passDays_52 : decode cX7_passDays 52 = .ok (.iinc 4 1, 3) := by decide +kernel
theorem dX7_passDays_55 : decode cX7_passDays 55 = .ok (.goto (-43), 3) := by decide +kernel
theorem dX7_passDays_58 : decode cX7_passDays 58 = .ok (.aload_n 0, 1) := by decide +kernel
theorem dX7_passDays_59 : decode cX7_passDays 59 = .ok (.dup, 1) := by decide +kernel
theorem dX7_passDays_60 : decode cX7_passDays 60 = .ok (.getfield 48, 3) := by decide +kernel
theorem dX7_passDays_63 : decode cX7_passDays 63 = .ok (.iconst 1, 1) := by decide +kernel
theorem dX7_passDays_64 : decode cX7_passDays 64 = .ok (.iadd, 1) := by decide +kernel
theorem dX7_passDays_65 : decode cX7_passDays 65 = .ok (.putfield 48, 3) := by decide +kernel
theorem dX7_passDays_68 : decode cX7_passDays 68 = .ok (.iinc 3 1, 3) := by decide +kernel
theorem dX7_passDays_71 : decode cX7_passDays 71 = .ok (.goto (-67), 3) := by decide +kernel
theorem dX7_passDays_74 : decode cX7_passDays 74 = .ok (.iload_n 2, 1) := by decide +kernel
theorem dX7_passDays_75 : decode cX7_passDays 75 = .ok (.ireturn, 1) := by decide +kernel
theorem dX7_moveTo_0 : decode cX7_moveTo 0 = .ok (.aload_n 0, 1) := by decide +kernel
theorem dX7_moveTo_1 : decode cX7_moveTo 1 = .ok (.iload_n 1, 1) := by decide +kernel
theorem dX7_moveTo_2 : decode cX7_moveTo 2 = .ok (.invokevirtual 89, 3) := by decide +kernel
theorem dX7_moveTo_5 : decode cX7_moveTo 5 = .ok (.iload_n 2, 1) := by decide +kernel
theorem dX7_moveTo_6 : decode cX7_moveTo 6 = .ok (.invokevirtual 199, 3) := by decide +kernel
theorem dX7_moveTo_9 : decode cX7_moveTo 9 = .ok (.ireturn, 1) := by decide +kernel
theorem dX7_takeFromMentor_0 : decode cX7_takeFromMentor 0 = .ok (.aload_n 0, 1) := by decide +kernel
theorem dX7_takeFromMentor_1 : decode cX7_takeFromMentor 1 = .ok (.iload_n 1, 1) := by decide +kernel
theorem dX7_takeFromMentor_2 : decode cX7_takeFromMentor 2 = .ok (.invokevirtual 89, 3) := by decide +kernel
theorem dX7_takeFromMentor_5 : decode cX7_takeFromMentor 5 = .ok (.getfield 79, 3) := by decide +kernel
theorem dX7_takeFromMentor_8 : decode cX7_takeFromMentor 8 = .ok (.istore_n 2, 1) := by decide +kernel
theorem dX7_takeFromMentor_9 : decode cX7_takeFromMentor 9 = .ok (.aload_n 0, 1) := by decide +kernel
theorem dX7_takeFromMentor_10 : decode cX7_takeFromMentor 10 = .ok (.iload_n 1, 1) := by decide +kernel
theorem dX7_takeFromMentor_11 : decode cX7_takeFromMentor 11 = .ok (.invokevirtual 89, 3) := by decide +kernel
theorem dX7_takeFromMentor_14 : decode cX7_takeFromMentor 14 = .ok (.iconst (-1), 1) := by decide +kernel
theorem dX7_takeFromMentor_15 : decode cX7_takeFromMentor 15 = .ok (.putfield 79, 3) := by decide +kernel
theorem dX7_takeFromMentor_18 : decode cX7_takeFromMentor 18 = .ok (.iload_n 2, 1) := by decide +kernel
theorem dX7_takeFromMentor_19 : decode cX7_takeFromMentor 19 = .ok (.ireturn, 1) := by decide +kernel
theorem dX7_exchangeBoth_0 : decode cX7_exchangeBoth 0 = .ok (.aload_n 0, 1) := by decide +kernel
theorem dX7_exchangeBoth_1 : decode cX7_exchangeBoth 1 = .ok (.iload_n 1, 1) := by decide +kernel
theorem dX7_exchangeBoth_2 : decode cX7_exchangeBoth 2 = .ok (.invokevirtual 89, 3) := by decide +kernel
theorem dX7_exchangeBoth_5 : decode cX7_exchangeBoth 5 = .ok (.getfield 79, 3) := by decide +kernel
theorem dX7_exchangeBoth_8 : decode cX7_exchangeBoth 8 = .ok (.istore_n 3, 1) := by decide +kernel
theorem dX7_exchangeBoth_9 : decode cX7_exchangeBoth 9 = .ok (.aload_n 0, 1) := by decide +kernel
theorem dX7_exchangeBoth_10 : decode cX7_exchangeBoth 10 = .ok (.iload_n 1, 1) := by decide +kernel
theorem dX7_exchangeBoth_11 : decode cX7_exchangeBoth 11 = .ok (.invokevirtual 89, 3) := by decide +kernel
theorem dX7_exchangeBoth_14 : decode cX7_exchangeBoth 14 = .ok (.aload_n 0, 1) := by decide +kernel
theorem dX7_exchangeBoth_15 : decode cX7_exchangeBoth 15 = .ok (.iload_n 2, 1) := by decide +kernel
theorem dX7_exchangeBoth_16 : decode cX7_exchangeBoth 16 = .ok (.invokevirtual 89, 3) := by decide +kernel
theorem dX7_exchangeBoth_19 : decode cX7_exchangeBoth 19 = .ok (.getfield 79, 3) := by decide +kernel
theorem dX7_exchangeBoth_22 : decode cX7_exchangeBoth 22 = .ok (.invokevirtual 199, 3) := by decide +kernel
theorem dX7_exchangeBoth_25 : decode cX7_exchangeBoth 25 = .ok (.istore 4, 2) := by decide +kernel
theorem dX7_exchangeBoth_27 : decode cX7_exchangeBoth 27 = .ok (.iload 4, 2) := by decide +kernel
theorem dX7_exchangeBoth_29 : decode cX7_exchangeBoth 29 = .ok (.aload_n 0, 1) := by decide +kernel
theorem dX7_exchangeBoth_30 : decode cX7_exchangeBoth 30 = .ok (.iload_n 2, 1) := by decide +kernel
theorem dX7_exchangeBoth_31 : decode cX7_exchangeBoth 31 = .ok (.invokevirtual 89, 3) := by decide +kernel
theorem dX7_exchangeBoth_34 : decode cX7_exchangeBoth 34 = .ok (.iload_n 3, 1) := by decide +kernel
theorem dX7_exchangeBoth_35 : decode cX7_exchangeBoth 35 = .ok (.invokevirtual 199, 3) := by decide +kernel
theorem dX7_exchangeBoth_38 : decode cX7_exchangeBoth 38 = .ok (.iadd, 1) := by decide +kernel
theorem dX7_exchangeBoth_39 : decode cX7_exchangeBoth 39 = .ok (.ireturn, 1) := by decide +kernel
theorem dX7_mentorValue_0 : decode cX7_mentorValue 0 = .ok (.iload_n 2, 1) := by decide +kernel
theorem dX7_mentorValue_1 : decode cX7_mentorValue 1 = .ok (.tableswitch 61 0 3 #[31, 40, 49, 55], 31) := by decide +kernel
theorem dX7_mentorValue_32 : decode cX7_mentorValue 32 = .ok (.aload_n 0, 1) := by decide +kernel
theorem dX7_mentorValue_33 : decode cX7_mentorValue 33 = .ok (.iload_n 1, 1) := by decide +kernel
theorem dX7_mentorValue_34 : decode cX7_mentorValue 34 = .ok (.invokevirtual 72, 3) := by decide +kernel
theorem dX7_mentorValue_37 : decode cX7_mentorValue 37 = .ok (.getfield 86, 3) := by decide +kernel
theorem dX7_mentorValue_40 : decode cX7_mentorValue 40 = .ok (.ireturn, 1) := by decide +kernel
theorem dX7_mentorValue_41 : decode cX7_mentorValue 41 = .ok (.aload_n 0, 1) := by decide +kernel
theorem dX7_mentorValue_42 : decode cX7_mentorValue 42 = .ok (.iload_n 1, 1) := by decide +kernel
theorem dX7_mentorValue_43 : decode cX7_mentorValue 43 = .ok (.invokevirtual 72, 3) := by decide +kernel
theorem dX7_mentorValue_46 : decode cX7_mentorValue 46 = .ok (.getfield 76, 3) := by decide +kernel
theorem dX7_mentorValue_49 : decode cX7_mentorValue 49 = .ok (.ireturn, 1) := by decide +kernel
theorem dX7_mentorValue_50 : decode cX7_mentorValue 50 = .ok (.aload_n 0, 1) := by decide +kernel
theorem dX7_mentorValue_51 : decode cX7_mentorValue 51 = .ok (.iload_n 1, 1) := by decide +kernel
theorem dX7_mentorValue_52 : decode cX7_mentorValue 52 = .ok (.invokevirtual 82, 3) := by decide +kernel
theorem dX7_mentorValue_55 : decode cX7_mentorValue 55 = .ok (.ireturn, 1) := by decide +kernel
theorem dX7_mentorValue_56 : decode cX7_mentorValue 56 = .ok (.aload_n 0, 1) := by decide +kernel
theorem dX7_mentorValue_57 : decode cX7_mentorValue 57 = .ok (.iload_n 1, 1) := by decide +kernel
theorem dX7_mentorValue_58 : decode cX7_mentorValue 58 = .ok (.invokevirtual 202, 3) := by decide +kernel
theorem dX7_mentorValue_61 : decode cX7_mentorValue 61 = .ok (.ireturn, 1) := by decide +kernel
theorem dX7_mentorValue_62 : decode cX7_mentorValue 62 = .ok (.aload_n 0, 1) := by decide +kernel
theorem dX7_mentorValue_63 : decode cX7_mentorValue 63 = .ok (.iload_n 1, 1) := by decide +kernel
theorem dX7_mentorValue_64 : decode cX7_mentorValue 64 = .ok (.invokevirtual 72, 3) := by decide +kernel
theorem dX7_mentorValue_67 : decode cX7_mentorValue 67 = .ok (.getfield 178, 3) := by decide +kernel
theorem dX7_mentorValue_70 : decode cX7_mentorValue 70 = .ok (.ireturn, 1) := by decide +kernel
theorem dX7_pendingWith_0 : decode cX7_pendingWith 0 = .ok (.iconst 0, 1) := by decide +kernel
theorem dX7_pendingWith_1 : decode cX7_pendingWith 1 = .ok (.istore_n 2, 1) := by decide +kernel
theorem dX7_pendingWith_2 : decode cX7_pendingWith 2 = .ok (.iconst 0, 1) := by decide +kernel
theorem dX7_pendingWith_3 : decode cX7_pendingWith 3 = .ok (.istore_n 3, 1) := by decide +kernel
theorem dX7_pendingWith_4 : decode cX7_pendingWith 4 = .ok (.iload_n 3, 1) := by decide +kernel
theorem dX7_pendingWith_5 : decode cX7_pendingWith 5 = .ok (.aload_n 0, 1) := by decide +kernel
theorem dX7_pendingWith_6 : decode cX7_pendingWith 6 = .ok (.getfield 45, 3) := by decide +kernel
theorem dX7_pendingWith_9 : decode cX7_pendingWith 9 = .ok (.if_icmp .ge 38, 3) := by decide +kernel
theorem dX7_pendingWith_12 : decode cX7_pendingWith 12 = .ok (.aload_n 0, 1) := by decide +kernel
theorem dX7_pendingWith_13 : decode cX7_pendingWith 13 = .ok (.getfield 24, 3) := by decide +kernel
theorem dX7_pendingWith_16 : decode cX7_pendingWith 16 = .ok (.iload_n 3, 1) := by decide +kernel
theorem dX7_pendingWith_17 : decode cX7_pendingWith 17 = .ok (.aaload, 1) := by decide +kernel
theorem dX7_pendingWith_18 : decode cX7_pendingWith 18 = .ok (.getfield 79, 3) := by decide +kernel
theorem dX7_pendingWith_21 : decode cX7_pendingWith 21 = .ok (.iload_n 1, 1) := by decide +kernel
theorem dX7_pendingWith_22 : decode cX7_pendingWith 22 = .ok (.if_icmp .ne 19, 3) := by decide +kernel
theorem dX7_pendingWith_25 : decode cX7_pendingWith 25 = .ok (.iload_n 2, 1) := by decide +kernel
theorem dX7_pendingWith_26 : decode cX7_pendingWith 26 = .ok (.aload_n 0, 1) := by decide +kernel
theorem dX7_pendingWith_27 : decode cX7_pendingWith 27 = .ok (.getfield 24, 3) := by decide +kernel
theorem dX7_pendingWith_30 : decode cX7_pendingWith 30 = .ok (.iload_n 3, 1) := by decide +kernel
theorem dX7_pendingWith_31 : decode cX7_pendingWith 31 = .ok (.aaload, 1) := by decide +kernel
theorem dX7_pendingWith_32 : decode cX7_pendingWith 32 = .ok (.getfield 102, 3) := by decide +kernel
theorem dX7_pendingWith_35 : decode cX7_pendingWith 35 = .ok (.iload_n 1, 1) := by decide +kernel
theorem dX7_pendingWith_36 : decode cX7_pendingWith 36 = .ok (.invokevirtual 140, 3) := by decide +kernel
theorem dX7_pendingWith_39 : decode cX7_pendingWith 39 = .ok (.iadd, 1) := by decide +kernel
theorem dX7_pendingWith_40 : decode cX7_pendingWith 40 = .ok (.istore_n 2, 1) := by decide +kernel
theorem dX7_pendingWith_41 : decode cX7_pendingWith 41 = .ok (.iinc 3 1, 3) := by decide +kernel
theorem dX7_pendingWith_44 : decode cX7_pendingWith 44 = .ok (.goto (-40), 3) := by decide +kernel
theorem dX7_pendingWith_47 : decode cX7_pendingWith 47 = .ok (.iload_n 2, 1) := by decide +kernel
theorem dX7_pendingWith_48 : decode cX7_pendingWith 48 = .ok (.ireturn, 1) := by decide +kernel
theorem dX7_apprenticeValue_0 : decode cX7_apprenticeValue 0 = .ok (.aload_n 0, 1) := by decide +kernel
theorem dX7_apprenticeValue_1 : decode cX7_apprenticeValue 1 = .ok (.iload_n 1, 1) := by decide +kernel
theorem dX7_apprenticeValue_2 : decode cX7_apprenticeValue 2 = .ok (.invokevirtual 89, 3) := by decide +kernel
theorem dX7_apprenticeValue_5 : decode cX7_apprenticeValue 5 = .ok (.astore_n 3, 1) := by decide +kernel
theorem dX7_apprenticeValue_6 : decode cX7_apprenticeValue 6 = .ok (.iload_n 2, 1) := by decide +kernel
theorem dX7_apprenticeValue_7 : decode cX7_apprenticeValue 7 = .ok (.tableswitch 127 0 10 #[57, 62, 67, 75, 83, 91, 99, 104, 112, 117, 122], 57) := by decide +kernel
theorem dX7_apprenticeValue_64 : decode cX7_apprenticeValue 64 = .ok (.aload_n 3, 1) := by decide +kernel
theorem dX7_apprenticeValue_65 : decode cX7_apprenticeValue 65 = .ok (.getfield 114, 3) := by decide +kernel
theorem dX7_apprenticeValue_68 : decode cX7_apprenticeValue 68 = .ok (.ireturn, 1) := by decide +kernel
theorem dX7_apprenticeValue_69 : decode cX7_apprenticeValue 69 = .ok (.aload_n 3, 1) := by decide +kernel
theorem dX7_apprenticeValue_70 : decode cX7_apprenticeValue 70 = .ok (.getfield 79, 3) := by decide +kernel
theorem dX7_apprenticeValue_73 : decode cX7_apprenticeValue 73 = .ok (.ireturn, 1) := by decide +kernel
theorem dX7_apprenticeValue_74 : decode cX7_apprenticeValue 74 = .ok (.aload_n 3, 1) := by decide +kernel
theorem dX7_apprenticeValue_75 : decode cX7_apprenticeValue 75 = .ok (.getfield 102, 3) := by decide +kernel
theorem dX7_apprenticeValue_78 : decode cX7_apprenticeValue 78 = .ok (.getfield 97, 3) := by decide +kernel
theorem dX7_apprenticeValue_81 : decode cX7_apprenticeValue 81 = .ok (.ireturn, 1) := by decide +kernel
theorem dX7_apprenticeValue_82 : decode cX7_apprenticeValue 82 = .ok (.aload_n 3, 1) := by decide +kernel
theorem dX7_apprenticeValue_83 : decode cX7_apprenticeValue 83 = .ok (.getfield 93, 3) := by decide +kernel
theorem dX7_apprenticeValue_86 : decode cX7_apprenticeValue 86 = .ok (.getfield 97, 3) := by decide +kernel
theorem dX7_apprenticeValue_89 : decode cX7_apprenticeValue 89 = .ok (.ireturn, 1) := by decide +kernel
theorem dX7_apprenticeValue_90 : decode cX7_apprenticeValue 90 = .ok (.aload_n 3, 1) := by decide +kernel
theorem dX7_apprenticeValue_91 : decode cX7_apprenticeValue 91 = .ok (.getfield 102, 3) := by decide +kernel
theorem dX7_apprenticeValue_94 : decode cX7_apprenticeValue 94 = .ok (.invokevirtual 205, 3) := by decide +kernel
theorem dX7_apprenticeValue_97 : decode cX7_apprenticeValue 97 = .ok (.ireturn, 1) := by decide +kernel
theorem dX7_apprenticeValue_98 : decode cX7_apprenticeValue 98 = .ok (.aload_n 3, 1) := by decide +kernel
theorem dX7_apprenticeValue_99 : decode cX7_apprenticeValue 99 = .ok (.getfield 93, 3) := by decide +kernel
theorem dX7_apprenticeValue_102 : decode cX7_apprenticeValue 102 = .ok (.invokevirtual 205, 3) := by decide +kernel
theorem dX7_apprenticeValue_105 : decode cX7_apprenticeValue 105 = .ok (.ireturn, 1) := by decide +kernel
theorem dX7_apprenticeValue_106 : decode cX7_apprenticeValue 106 = .ok (.aload_n 3, 1) := by decide +kernel
theorem dX7_apprenticeValue_107 : decode cX7_apprenticeValue 107 = .ok (.getfield 187, 3) := by decide +kernel
theorem dX7_apprenticeValue_110 : decode cX7_apprenticeValue 110 = .ok (.ireturn, 1) := by decide +kernel
theorem dX7_apprenticeValue_111 : decode cX7_apprenticeValue 111 = .ok (.aload_n 3, 1) := by decide +kernel
theorem dX7_apprenticeValue_112 : decode cX7_apprenticeValue 112 = .ok (.getfield 163, 3) := by decide +kernel
theorem dX7_apprenticeValue_115 : decode cX7_apprenticeValue 115 = .ok (.getfield 170, 3) := by decide +kernel
theorem dX7_apprenticeValue_118 : decode cX7_apprenticeValue 118 = .ok (.ireturn, 1) := by decide +kernel
theorem dX7_apprenticeValue_119 : decode cX7_apprenticeValue 119 = .ok (.aload_n 3, 1) := by decide +kernel
theorem dX7_apprenticeValue_120 : decode cX7_apprenticeValue 120 = .ok (.getfield 209, 3) := by decide +kernel
theorem dX7_apprenticeValue_123 : decode cX7_apprenticeValue 123 = .ok (.ireturn, 1) := by decide +kernel
theorem dX7_apprenticeValue_124 : decode cX7_apprenticeValue 124 = .ok (.aload_n 3, 1) := by decide +kernel
theorem dX7_apprenticeValue_125 : decode cX7_apprenticeValue 125 = .ok (.getfield 196, 3) := by decide +kernel
theorem dX7_apprenticeValue_128 : decode cX7_apprenticeValue 128 = .ok (.ireturn, 1) := by decide +kernel
theorem dX7_apprenticeValue_129 : decode cX7_apprenticeValue 129 = .ok (.aload_n 3, 1) := by decide +kernel
theorem dX7_apprenticeValue_130 : decode cX7_apprenticeValue 130 = .ok (.getfield 212, 3) := by decide +kernel
theorem dX7_apprenticeValue_133 : decode cX7_apprenticeValue 133 = .ok (.ireturn, 1) := by decide +kernel
theorem dX7_apprenticeValue_134 : decode cX7_apprenticeValue 134 = .ok (.aload_n 0, 1) := by decide +kernel
theorem dX7_apprenticeValue_135 : decode cX7_apprenticeValue 135 = .ok (.aload_n 3, 1) := by decide +kernel
theorem dX7_apprenticeValue_136 : decode cX7_apprenticeValue 136 = .ok (.invokevirtual 215, 3) := by decide +kernel
theorem dX7_apprenticeValue_139 : decode cX7_apprenticeValue 139 = .ok (.ifCond .eq 7, 3) := by decide +kernel
theorem dX7_apprenticeValue_142 : decode cX7_apprenticeValue 142 = .ok (.iconst 1, 1) := by decide +kernel
theorem dX7_apprenticeValue_143 : decode cX7_apprenticeValue 143 = .ok (.goto 4, 3) := by decide +kernel
theorem dX7_apprenticeValue_146 : decode cX7_apprenticeValue 146 = .ok (.iconst 0, 1) := by decide +kernel
theorem dX7_apprenticeValue_147 : decode cX7_apprenticeValue 147 = .ok (.ireturn, 1) := by decide +kernel
theorem dX7_partValue_0 : decode cX7_partValue 0 = .ok (.aload_n 0, 1) := by decide +kernel
theorem dX7_partValue_1 : decode cX7_partValue 1 = .ok (.iload_n 1, 1) := by decide +kernel
theorem dX7_partValue_2 : decode cX7_partValue 2 = .ok (.invokevirtual 89, 3) := by decide +kernel
theorem dX7_partValue_5 : decode cX7_partValue 5 = .ok (.astore 4, 2) := by decide +kernel
theorem dX7_partValue_7 : decode cX7_partValue 7 = .ok (.iload_n 3, 1) := by decide +kernel
theorem dX7_partValue_8 : decode cX7_partValue 8 = .ok (.tableswitch 65 0 3 #[32, 40, 47, 55], 32) := by decide +kernel
theorem dX7_partValue_40 : decode cX7_partValue 40 = .ok (.aload_n 0, 1) := by decide +kernel
theorem dX7_partValue_41 : decode cX7_partValue 41 = .ok (.aload 4, 2) := by decide +kernel
theorem dX7_partValue_43 : decode cX7_partValue 43 = .ok (.iload_n 2, 1) := by decide +kernel
theorem dX7_partValue_44 : decode cX7_partValue 44 = .ok (.invokevirtual 117, 3) := by decide +kernel
theorem dX7_partValue_47 : decode cX7_partValue 47 = .ok (.ireturn, 1) := by decide +kernel
theorem dX7_partValue_48 : decode cX7_partValue 48 = .ok (.aload 4, 2) := by decide +kernel
theorem dX7_partValue_50 : decode cX7_partValue 50 = .ok (.iload_n 2, 1) := by decide +kernel
theorem dX7_partValue_51 : decode cX7_partValue 51 = .ok (.invokevirtual 121, 3) := by decide +kernel
theorem dX7_partValue_54 : decode cX7_partValue 54 = .ok (.ireturn, 1) := by decide +kernel
theorem dX7_partValue_55 : decode cX7_partValue 55 = .ok (.aload_n 0, 1) := by decide +kernel
theorem dX7_partValue_56 : decode cX7_partValue 56 = .ok (.aload 4, 2) := by decide +kernel
theorem dX7_partValue_58 : decode cX7_partValue 58 = .ok (.iload_n 2, 1) := by decide +kernel
theorem dX7_partValue_59 : decode cX7_partValue 59 = .ok (.invokevirtual 130, 3) := by decide +kernel
theorem dX7_partValue_62 : decode cX7_partValue 62 = .ok (.ireturn, 1) := by decide +kernel
theorem dX7_partValue_63 : decode cX7_partValue 63 = .ok (.aload 4, 2) := by decide +kernel
theorem dX7_partValue_65 : decode cX7_partValue 65 = .ok (.getfield 102, 3) := by decide +kernel
theorem dX7_partValue_68 : decode cX7_partValue 68 = .ok (.iload_n 2, 1) := by decide +kernel
theorem dX7_partValue_69 : decode cX7_partValue 69 = .ok (.invokevirtual 219, 3) := by decide +kernel
theorem dX7_partValue_72 : decode cX7_partValue 72 = .ok (.ireturn, 1) := by decide +kernel
theorem dX7_partValue_73 : decode cX7_partValue 73 = .ok (.aload 4, 2) := by decide +kernel
theorem dX7_partValue_75 : decode cX7_partValue 75 = .ok (.getfield 93, 3) := by decide +kernel
theorem dX7_partValue_78 : decode cX7_partValue 78 = .ok (.iload_n 2, 1) := by decide +kernel
theorem dX7_partValue_79 : decode cX7_partValue 79 = .ok (.invokevirtual 219, 3) := by decide +kernel
theorem dX7_partValue_82 : decode cX7_partValue 82 = .ok (.ireturn, 1) := by decide +kernel
theorem dX7_entryValue_0 : decode cX7_entryValue 0 = .ok (.aload_n 0, 1) := by decide +kernel
theorem dX7_entryValue_1 : decode cX7_entryValue 1 = .ok (.iload_n 1, 1) := by decide +kernel
theorem dX7_entryValue_2 : decode cX7_entryValue 2 = .ok (.invokevirtual 89, 3) := by decide +kernel
theorem dX7_entryValue_5 : decode cX7_entryValue 5 = .ok (.astore 5, 2) := by decide +kernel
theorem dX7_entryValue_7 : decode cX7_entryValue 7 = .ok (.iload_n 2, 1) := by decide +kernel
theorem dX7_entryValue_8 : decode cX7_entryValue 8 = .ok (.ifCond .eq 17, 3) := by decide +kernel
theorem dX7_entryValue_11 : decode cX7_entryValue 11 = .ok (.aload 5, 2) := by decide +kernel
theorem dX7_entryValue_13 : decode cX7_entryValue 13 = .ok (.getfield 93, 3) := by decide +kernel
theorem dX7_entryValue_16 : decode cX7_entryValue 16 = .ok (.iload_n 3, 1) := by decide +kernel
theorem dX7_entryValue_17 : decode cX7_entryValue 17 = .ok (.iload 4, 2) := by decide +kernel
theorem dX7_entryValue_19 : decode cX7_entryValue 19 = .ok (.invokevirtual 146, 3) := by decide +kernel
theorem dX7_entryValue_22 : decode cX7_entryValue 22 = .ok (.goto 14, 3) := by decide +kernel
theorem dX7_entryValue_25 : decode cX7_entryValue 25 = .ok (.aload 5, 2) := by decide +kernel
theorem dX7_entryValue_27 : decode cX7_entryValue 27 = .ok (.getfield 102, 3) := by decide +kernel
theorem dX7_entryValue_30 : decode cX7_entryValue 30 = .ok (.iload_n 3, 1) := by decide +kernel
theorem dX7_entryValue_31 : decode cX7_entryValue 31 = .ok (.iload 4, 2) := by decide +kernel
theorem dX7_entryValue_33 : decode cX7_entryValue 33 = .ok (.invokevirtual 146, 3) := by decide +kernel
theorem dX7_entryValue_36 : decode cX7_entryValue 36 = .ok (.ireturn, 1) := by decide +kernel
theorem dX7_wholeValue_0 : decode cX7_wholeValue 0 = .ok (.iload_n 1, 1) := by decide +kernel
theorem dX7_wholeValue_1 : decode cX7_wholeValue 1 = .ok (.tableswitch 73 0 7 #[47, 52, 57, 62, 73, 73, 73, 67], 47) := by decide +kernel
theorem dX7_wholeValue_48 : decode cX7_wholeValue 48 = .ok (.aload_n 0, 1) := by decide +kernel
theorem dX7_wholeValue_49 : decode cX7_wholeValue 49 = .ok (.getfield 38, 3) := by decide +kernel
theorem dX7_wholeValue_52 : decode cX7_wholeValue 52 = .ok (.ireturn, 1) := by decide +kernel
theorem dX7_wholeValue_53 : decode cX7_wholeValue 53 = .ok (.aload_n 0, 1) := by decide +kernel
theorem dX7_wholeValue_54 : decode cX7_wholeValue 54 = .ok (.getfield 42, 3) := by decide +kernel
theorem dX7_wholeValue_57 : decode cX7_wholeValue 57 = .ok (.ireturn, 1) := by decide +kernel
theorem dX7_wholeValue_58 : decode cX7_wholeValue 58 = .ok (.aload_n 0, 1) := by decide +kernel
theorem dX7_wholeValue_59 : decode cX7_wholeValue 59 = .ok (.getfield 45, 3) := by decide +kernel
theorem dX7_wholeValue_62 : decode cX7_wholeValue 62 = .ok (.ireturn, 1) := by decide +kernel
theorem dX7_wholeValue_63 : decode cX7_wholeValue 63 = .ok (.aload_n 0, 1) := by decide +kernel
theorem dX7_wholeValue_64 : decode cX7_wholeValue 64 = .ok (.getfield 48, 3) := by decide +kernel
theorem dX7_wholeValue_67 : decode cX7_wholeValue 67 = .ok (.ireturn, 1) := by decide +kernel
theorem dX7_wholeValue_68 : decode cX7_wholeValue 68 = .ok (.aload_n 0, 1) := by decide +kernel
theorem dX7_wholeValue_69 : decode cX7_wholeValue 69 = .ok (.iconst (-1), 1) := by decide +kernel
theorem dX7_wholeValue_70 : decode cX7_wholeValue 70 = .ok (.invokevirtual 82, 3) := by decide +kernel
theorem dX7_wholeValue_73 : decode cX7_wholeValue 73 = .ok (.ireturn, 1) := by decide +kernel
theorem dX7_wholeValue_74 : decode cX7_wholeValue 74 = .ok (.aload_n 0, 1) := by decide +kernel
theorem dX7_wholeValue_75 : decode cX7_wholeValue 75 = .ok (.iload_n 1, 1) := by decide +kernel
theorem dX7_wholeValue_76 : decode cX7_wholeValue 76 = .ok (.invokevirtual 222, 3) := by decide +kernel
theorem dX7_wholeValue_79 : decode cX7_wholeValue 79 = .ok (.ireturn, 1) := by decide +kernel
theorem dX7_sumOfApprentices_0 : decode cX7_sumOfApprentices 0 = .ok (.iconst 0, 1) := by decide +kernel
theorem dX7_sumOfApprentices_1 : decode cX7_sumOfApprentices 1 = .ok (.istore_n 2, 1) := by decide +kernel
theorem dX7_sumOfApprentices_2 : decode cX7_sumOfApprentices 2 = .ok (.iconst 0, 1) := by decide +kernel
theorem dX7_sumOfApprentices_3 : decode cX7_sumOfApprentices 3 = .ok (.istore_n 3, 1) := by decide +kernel
theorem dX7_sumOfApprentices_4 : decode cX7_sumOfApprentices 4 = .ok (.iload_n 3, 1) := by decide +kernel
theorem dX7_sumOfApprentices_5 : decode cX7_sumOfApprentices 5 = .ok (.aload_n 0, 1) := by decide +kernel
theorem dX7_sumOfApprentices_6 : decode cX7_sumOfApprentices 6 = .ok (.getfield 45, 3) := by decide +kernel
theorem dX7_sumOfApprentices_9 : decode cX7_sumOfApprentices 9 = .ok (.if_icmp .ge 101, 3) := by decide +kernel
theorem dX7_sumOfApprentices_12 : decode cX7_sumOfApprentices 12 = .ok (.aload_n 0, 1) := by decide +kernel
theorem dX7_sumOfApprentices_13 : decode cX7_sumOfApprentices 13 = .ok (.getfield 24, 3) := by decide +kernel
theorem dX7_sumOfApprentices_16 : decode cX7_sumOfApprentices 16 = .ok (.iload_n 3, 1) := by decide +kernel
theorem dX7_sumOfApprentices_17 : decode cX7_sumOfApprentices 17 = .ok (.aaload, 1) := by decide +kernel
theorem dX7_sumOfApprentices_18 : decode cX7_sumOfApprentices 18 = .ok (.astore 4, 2) := by decide +kernel
theorem dX7_sumOfApprentices_20 : decode cX7_sumOfApprentices 20 = .ok (.iload_n 1, 1) := by decide +kernel
theorem dX7_sumOfApprentices_21 : decode cX7_sumOfApprentices 21 = .ok (.tableswitch 75 4 6 #[27, 41, 55], 27) := by decide +kernel
theorem dX7_sumOfApprentices_48 : decode cX7_sumOfApprentices 48 = .ok (.iload_n 2, 1) := by decide +kernel
theorem dX7_sumOfApprentices_49 : decode cX7_sumOfApprentices 49 = .ok (.aload 4, 2) := by decide +kernel
theorem dX7_sumOfApprentices_51 : decode cX7_sumOfApprentices 51 = .ok (.getfield 102, 3) := by decide +kernel
theorem dX7_sumOfApprentices_54 : decode cX7_sumOfApprentices 54 = .ok (.getfield 97, 3) := by decide +kernel
theorem dX7_sumOfApprentices_57 : decode cX7_sumOfApprentices 57 = .ok (.iadd, 1) := by decide +kernel
theorem dX7_sumOfApprentices_58 : decode cX7_sumOfApprentices 58 = .ok (.istore_n 2, 1) := by decide +kernel
theorem dX7_sumOfApprentices_59 : decode cX7_sumOfApprentices 59 = .ok (.goto 45, 3) := by decide +kernel
theorem dX7_sumOfApprentices_62 : decode cX7_sumOfApprentices 62 = .ok (.iload_n 2, 1) := by decide +kernel
theorem dX7_sumOfApprentices_63 : decode cX7_sumOfApprentices 63 = .ok (.aload 4, 2) := by decide +kernel
theorem dX7_sumOfApprentices_65 : decode cX7_sumOfApprentices 65 = .ok (.getfield 93, 3) := by decide +kernel
theorem dX7_sumOfApprentices_68 : decode cX7_sumOfApprentices 68 = .ok (.getfield 97, 3) := by decide +kernel
theorem dX7_sumOfApprentices_71 : decode cX7_sumOfApprentices 71 = .ok (.iadd, 1) := by decide +kernel
theorem dX7_sumOfApprentices_72 : decode cX7_sumOfApprentices 72 = .ok (.istore_n 2, 1) := by decide +kernel
theorem dX7_sumOfApprentices_73 : decode cX7_sumOfApprentices 73 = .ok (.goto 31, 3) := by decide +kernel
theorem dX7_sumOfApprentices_76 : decode cX7_sumOfApprentices 76 = .ok (.iload_n 2, 1) := by decide +kernel
theorem dX7_sumOfApprentices_77 : decode cX7_sumOfApprentices 77 = .ok (.aload_n 0, 1) := by decide +kernel
theorem dX7_sumOfApprentices_78 : decode cX7_sumOfApprentices 78 = .ok (.aload 4, 2) := by decide +kernel
theorem dX7_sumOfApprentices_80 : decode cX7_sumOfApprentices 80 = .ok (.invokevirtual 215, 3) := by decide +kernel
theorem dX7_sumOfApprentices_83 : decode cX7_sumOfApprentices 83 = .ok (.ifCond .eq 7, 3) := by decide +kernel
theorem dX7_sumOfApprentices_86 : decode cX7_sumOfApprentices 86 = .ok (.iconst 1, 1) := by decide +kernel
theorem dX7_sumOfApprentices_87 : decode cX7_sumOfApprentices 87 = .ok (.goto 4, 3) := by decide +kernel
theorem dX7_sumOfApprentices_90 : decode cX7_sumOfApprentices 90 = .ok (.iconst 0, 1) := by decide +kernel
theorem dX7_sumOfApprentices_91 : decode cX7_sumOfApprentices 91 = .ok (.iadd, 1) := by decide +kernel
theorem dX7_sumOfApprentices_92 : decode cX7_sumOfApprentices 92 = .ok (.istore_n 2, 1) := by decide +kernel
theorem dX7_sumOfApprentices_93 : decode cX7_sumOfApprentices 93 = .ok (.goto 11, 3) := by decide +kernel
theorem dX7_sumOfApprentices_96 : decode cX7_sumOfApprentices 96 = .ok (.iload_n 2, 1) := by decide +kernel
theorem dX7_sumOfApprentices_97 : decode cX7_sumOfApprentices 97 = .ok (.aload 4, 2) := by decide +kernel
theorem dX7_sumOfApprentices_99 : decode cX7_sumOfApprentices 99 = .ok (.getfield 187, 3) := by decide +kernel
theorem dX7_sumOfApprentices_102 : decode cX7_sumOfApprentices 102 = .ok (.iadd, 1) := by decide +kernel
theorem dX7_sumOfApprentices_103 : decode cX7_sumOfApprentices 103 = .ok (.istore_n 2, 1) := by decide +kernel
theorem dX7_sumOfApprentices_104 : decode cX7_sumOfApprentices 104 = .ok (.iinc 3 1, 3) := by decide +kernel
theorem dX7_sumOfApprentices_107 : decode cX7_sumOfApprentices 107 = .ok (.goto (-103), 3) := by decide +kernel
theorem dX7_sumOfApprentices_110 : decode cX7_sumOfApprentices 110 = .ok (.iload_n 2, 1) := by decide +kernel
theorem dX7_sumOfApprentices_111 : decode cX7_sumOfApprentices 111 = .ok (.ireturn, 1) := by decide +kernel
theorem dX7_completionDay_0 : decode cX7_completionDay 0 = .ok (.aload_n 0, 1) := by decide +kernel
theorem dX7_completionDay_1 : decode cX7_completionDay 1 = .ok (.iload_n 1, 1) := by decide +kernel
theorem dX7_completionDay_2 : decode cX7_completionDay 2 = .ok (.invokevirtual 89, 3) := by decide +kernel
theorem dX7_completionDay_5 : decode cX7_completionDay 5 = .ok (.astore_n 3, 1) := by decide +kernel
theorem dX7_completionDay_6 : decode cX7_completionDay 6 = .ok (.iconst 0, 1) := by decide +kernel
theorem dX7_completionDay_7 : decode cX7_completionDay 7 = .ok (.istore 4, 2) := by decide +kernel
theorem dX7_completionDay_9 : decode cX7_completionDay 9 = .ok (.iconst 0, 1) := by decide +kernel
theorem dX7_completionDay_10 : decode cX7_completionDay 10 = .ok (.istore 5, 2) := by decide +kernel
theorem dX7_completionDay_12 : decode cX7_completionDay 12 = .ok (.iload 5, 2) := by decide +kernel
theorem dX7_completionDay_14 : decode cX7_completionDay 14 = .ok (.iconst 3, 1) := by decide +kernel
theorem dX7_completionDay_15 : decode cX7_completionDay 15 = .ok (.if_icmp .ge 35, 3) := by decide +kernel
theorem dX7_completionDay_18 : decode cX7_completionDay 18 = .ok (.iload 4, 2) := by decide +kernel
theorem dX7_completionDay_20 : decode cX7_completionDay 20 = .ok (.iconst 0, 1) := by decide +kernel
theorem dX7_completionDay_21 : decode cX7_completionDay 21 = .ok (.aload_n 0, 1) := by decide +kernel
theorem dX7_completionDay_22 : decode cX7_completionDay 22 = .ok (.aload_n 3, 1) := by decide +kernel
theorem dX7_completionDay_23 : decode cX7_completionDay 23 = .ok (.iload 5, 2) := by decide +kernel
theorem dX7_completionDay_25 : decode cX7_completionDay 25 = .ok (.invokevirtual 130, 3) := by decide +kernel
theorem dX7_completionDay_28 : decode cX7_completionDay 28 = .ok (.aload_n 3, 1) := by decide +kernel
theorem dX7_completionDay_29 : decode cX7_completionDay 29 = .ok (.getfield 102, 3) := by decide +kernel
theorem dX7_completionDay_32 : decode cX7_completionDay 32 = .ok (.iload 5, 2) := by decide +kernel
theorem dX7_completionDay_34 : decode cX7_completionDay 34 = .ok (.invokevirtual 219, 3) := by decide +kernel
theorem dX7_completionDay_37 : decode cX7_completionDay 37 = .ok (.isub, 1) := by decide +kernel
theorem dX7_completionDay_38 : decode cX7_completionDay 38 = .ok (.invokestatic 124, 3) := by decide +kernel
theorem dX7_completionDay_41 : decode cX7_completionDay 41 = .ok (.iadd, 1) := by decide +kernel
theorem dX7_completionDay_42 : decode cX7_completionDay 42 = .ok (.istore 4, 2) := by decide +kernel
theorem dX7_completionDay_44 : decode cX7_completionDay 44 = .ok (.iinc 5 1, 3) := by decide +kernel
theorem dX7_completionDay_47 : decode cX7_completionDay 47 = .ok (.goto (-35), 3) := by decide +kernel
theorem dX7_completionDay_50 : decode cX7_completionDay 50 = .ok (.iload 4, 2) := by decide +kernel
theorem dX7_completionDay_52 : decode cX7_completionDay 52 = .ok (.ifCond .ne 8, 3) := by decide +kernel
theorem dX7_completionDay_55 : decode cX7_completionDay 55 = .ok (.aload_n 0, 1) := by decide +kernel
theorem dX7_completionDay_56 : decode cX7_completionDay 56 = .ok (.getfield 48, 3) := by decide +kernel
theorem dX7_completionDay_59 : decode cX7_completionDay 59 = .ok (.ireturn, 1) := by decide +kernel
theorem dX7_completionDay_60 : decode cX7_completionDay 60 = .ok (.iconst 0, 1) := by decide +kernel
theorem dX7_completionDay_61 : decode cX7_completionDay 61 = .ok (.istore 5, 2) := by decide +kernel
theorem dX7_completionDay_63 : decode cX7_completionDay 63 = .ok (.iload 5, 2) := by decide +kernel
theorem dX7_completionDay_65 : decode cX7_completionDay 65 = .ok (.sipush 2000, 3) := by decide +kernel
theorem dX7_completionDay_68 : decode cX7_completionDay 68 = .ok (.if_icmp .ge 49, 3) := by decide +kernel
theorem dX7_completionDay_71 : decode cX7_completionDay 71 = .ok (.iload 4, 2) := by decide +kernel
theorem dX7_completionDay_73 : decode cX7_completionDay 73 = .ok (.aload_n 3, 1) := by decide +kernel
theorem dX7_completionDay_74 : decode cX7_completionDay 74 = .ok (.getfield 163, 3) := by decide +kernel
theorem dX7_completionDay_77 : decode cX7_completionDay 77 = .ok (.aload_n 0, 1) := by decide +kernel
theorem dX7_completionDay_78 : decode cX7_completionDay 78 = .ok (.getfield 48, 3) := by decide +kernel
theorem dX7_completionDay_81 : decode cX7_completionDay 81 = .ok (.iload 5, 2) := by decide +kernel
theorem dX7_completionDay_83 : decode cX7_completionDay 83 = .ok (.iadd, 1) := by decide +kernel
theorem dX7_completionDay_84 : decode cX7_completionDay 84 = .ok (.invokevirtual 109, 3) := by decide +kernel
theorem dX7_completionDay_87 : decode cX7_completionDay 87 = .ok (.ifCond .eq 7, 3) := by decide +kernel
theorem dX7_completionDay_90 : decode cX7_completionDay 90 = .ok (.iconst 0, 1) := by decide +kernel
theorem dX7_completionDay_91 : decode cX7_completionDay 91 = .ok (.goto 4, 3) := by decide +kernel
theorem dX7_completionDay_94 : decode cX7_completionDay 94 = .ok (.iload_n 2, 1) := by decide +kernel
theorem dX7_completionDay_95 : decode cX7_completionDay 95 = .ok (.isub, 1) := by decide +kernel
theorem dX7_completionDay_96 : decode cX7_completionDay 96 = .ok (.istore 4, 2) := by decide +kernel
theorem dX7_completionDay_98 : decode cX7_completionDay 98 = .ok (.iload 4, 2) := by decide +kernel
theorem dX7_completionDay_100 : decode cX7_completionDay 100 = .ok (.ifCond .gt 11, 3) := by decide +kernel
theorem dX7_completionDay_103 : decode cX7_completionDay 103 = .ok (.aload_n 0, 1) := by decide +kernel
theorem dX7_completionDay_104 : decode cX7_completionDay 104 = .ok (.getfield 48, 3) := by decide +kernel
theorem dX7_completionDay_107 : decode cX7_completionDay 107 = .ok (.iload 5, 2) := by decide +kernel
theorem dX7_completionDay_109 : decode cX7_completionDay 109 = .ok (.iadd, 1) := by decide +kernel
theorem dX7_completionDay_110 : decode cX7_completionDay 110 = .ok (.ireturn, 1) := by decide +kernel
theorem dX7_completionDay_111 : decode cX7_completionDay 111 = .ok (.iinc 5 1, 3) := by decide +kernel
theorem dX7_completionDay_114 : decode cX7_completionDay 114 = .ok (.goto (-51), 3) := by decide +kernel
theorem dX7_completionDay_117 : decode cX7_completionDay 117 = .ok (.iconst (-1), 1) := by decide +kernel
theorem dX7_completionDay_118 : decode cX7_completionDay 118 = .ok (.ireturn, 1) := by decide +kernel
theorem dX7_leastBusyMentor_0 : decode cX7_leastBusyMentor 0 = .ok (.iconst (-1), 1) := by decide +kernel
theorem dX7_leastBusyMentor_1 : decode cX7_leastBusyMentor 1 = .ok (.istore_n 2, 1) := by decide +kernel
theorem dX7_leastBusyMentor_2 : decode cX7_leastBusyMentor 2 = .ok (.iconst 0, 1) := by decide +kernel
theorem dX7_leastBusyMentor_3 : decode cX7_leastBusyMentor 3 = .ok (.istore_n 3, 1) := by decide +kernel
theorem dX7_leastBusyMentor_4 : decode cX7_leastBusyMentor 4 = .ok (.iload_n 3, 1) := by decide +kernel
theorem dX7_leastBusyMentor_5 : decode cX7_leastBusyMentor 5 = .ok (.aload_n 0, 1) := by decide +kernel
theorem dX7_leastBusyMentor_6 : decode cX7_leastBusyMentor 6 = .ok (.getfield 42, 3) := by decide +kernel
theorem dX7_leastBusyMentor_9 : decode cX7_leastBusyMentor 9 = .ok (.if_icmp .ge 34, 3) := by decide +kernel
theorem dX7_leastBusyMentor_12 : decode cX7_leastBusyMentor 12 = .ok (.aload_n 0, 1) := by decide +kernel
theorem dX7_leastBusyMentor_13 : decode cX7_leastBusyMentor 13 = .ok (.iload_n 1, 1) := by decide +kernel
theorem dX7_leastBusyMentor_14 : decode cX7_leastBusyMentor 14 = .ok (.iload_n 3, 1) := by decide +kernel
theorem dX7_leastBusyMentor_15 : decode cX7_leastBusyMentor 15 = .ok (.invokevirtual 225, 3) := by decide +kernel
theorem dX7_leastBusyMentor_18 : decode cX7_leastBusyMentor 18 = .ok (.ifCond .ne 19, 3) := by decide +kernel
theorem dX7_leastBusyMentor_21 : decode cX7_leastBusyMentor 21 = .ok (.iload_n 2, 1) := by decide +kernel
theorem dX7_leastBusyMentor_22 : decode cX7_leastBusyMentor 22 = .ok (.iconst (-1), 1) := by decide +kernel
theorem dX7_leastBusyMentor_23 : decode cX7_leastBusyMentor 23 = .ok (.if_icmp .eq 12, 3) := by decide +kernel
theorem dX7_leastBusyMentor_26 : decode cX7_leastBusyMentor 26 = .ok (.aload_n 0, 1) := by decide +kernel
theorem dX7_leastBusyMentor_27 : decode cX7_leastBusyMentor 27 = .ok (.iload_n 3, 1) := by decide +kernel
theorem dX7_leastBusyMentor_28 : decode cX7_leastBusyMentor 28 = .ok (.iload_n 2, 1) := by decide +kernel
theorem dX7_leastBusyMentor_29 : decode cX7_leastBusyMentor 29 = .ok (.invokevirtual 228, 3) := by decide +kernel
theorem dX7_leastBusyMentor_32 : decode cX7_leastBusyMentor 32 = .ok (.ifCond .eq 5, 3) := by decide +kernel
theorem dX7_leastBusyMentor_35 : decode cX7_leastBusyMentor 35 = .ok (.iload_n 3, 1) := by decide +kernel
theorem dX7_leastBusyMentor_36 : decode cX7_leastBusyMentor 36 = .ok (.istore_n 2, 1) := by decide +kernel
theorem dX7_leastBusyMentor_37 : decode cX7_leastBusyMentor 37 = .ok (.iinc 3 1, 3) := by decide +kernel
theorem dX7_leastBusyMentor_40 : decode cX7_leastBusyMentor 40 = .ok (.goto (-36), 3) := by decide +kernel
theorem dX7_leastBusyMentor_43 : decode cX7_leastBusyMentor 43 = .ok (.iload_n 2, 1) := by decide +kernel
theorem dX7_leastBusyMentor_44 : decode cX7_leastBusyMentor 44 = .ok (.ireturn, 1) := by decide +kernel
theorem dX7_isLessBusy_0 : decode cX7_isLessBusy 0 = .ok (.aload_n 0, 1) := by decide +kernel
theorem dX7_isLessBusy_1 : decode cX7_isLessBusy 1 = .ok (.iload_n 1, 1) := by decide +kernel
theorem dX7_isLessBusy_2 : decode cX7_isLessBusy 2 = .ok (.invokevirtual 82, 3) := by decide +kernel
theorem dX7_isLessBusy_5 : decode cX7_isLessBusy 5 = .ok (.iconst 1, 1) := by decide +kernel
theorem dX7_isLessBusy_6 : decode cX7_isLessBusy 6 = .ok (.iadd, 1) := by decide +kernel
theorem dX7_isLessBusy_7 : decode cX7_isLessBusy 7 = .ok (.aload_n 0, 1) := by decide +kernel
theorem dX7_isLessBusy_8 : decode cX7_isLessBusy 8 = .ok (.iload_n 2, 1) := by decide +kernel
theorem dX7_isLessBusy_9 : decode cX7_isLessBusy 9 = .ok (.invokevirtual 72, 3) := by decide +kernel
theorem dX7_isLessBusy_12 : decode cX7_isLessBusy 12 = .ok (.getfield 86, 3) := by decide +kernel
theorem dX7_isLessBusy_15 : decode cX7_isLessBusy 15 = .ok (.imul, 1) := by decide +kernel
theorem dX7_isLessBusy_16 : decode cX7_isLessBusy 16 = .ok (.aload_n 0, 1) := by decide +kernel
theorem dX7_isLessBusy_17 : decode cX7_isLessBusy 17 = .ok (.iload_n 2, 1) := by decide +kernel
theorem dX7_isLessBusy_18 : decode cX7_isLessBusy 18 = .ok (.invokevirtual 82, 3) := by decide +kernel
theorem dX7_isLessBusy_21 : decode cX7_isLessBusy 21 = .ok (.iconst 1, 1) := by decide +kernel
theorem dX7_isLessBusy_22 : decode cX7_isLessBusy 22 = .ok (.iadd, 1) := by decide +kernel
theorem dX7_isLessBusy_23 : decode cX7_isLessBusy 23 = .ok (.aload_n 0, 1) := by decide +kernel
theorem dX7_isLessBusy_24 : decode cX7_isLessBusy 24 = .ok (.iload_n 1, 1) := by decide +kernel
theorem dX7_isLessBusy_25 : decode cX7_isLessBusy 25 = .ok (.invokevirtual 72, 3) := by decide +kernel
theorem dX7_isLessBusy_28 : decode cX7_isLessBusy 28 = .ok (.getfield 86, 3) := by decide +kernel
theorem dX7_isLessBusy_31 : decode cX7_isLessBusy 31 = .ok (.imul, 1) := by decide +kernel
theorem dX7_isLessBusy_32 : decode cX7_isLessBusy 32 = .ok (.if_icmp .ge 7, 3) := by decide +kernel
theorem dX7_isLessBusy_35 : decode cX7_isLessBusy 35 = .ok (.iconst 1, 1) := by decide +kernel
theorem dX7_isLessBusy_36 : decode cX7_isLessBusy 36 = .ok (.goto 4, 3) := by decide +kernel
theorem dX7_isLessBusy_39 : decode cX7_isLessBusy 39 = .ok (.iconst 0, 1) := by decide +kernel
theorem dX7_isLessBusy_40 : decode cX7_isLessBusy 40 = .ok (.ireturn, 1) := by decide +kernel
theorem dX7_doubtsOfExchange_0 : decode cX7_doubtsOfExchange 0 = .ok (.aload_n 0, 1) := by decide +kernel
theorem dX7_doubtsOfExchange_1 : decode cX7_doubtsOfExchange 1 = .ok (.iload_n 1, 1) := by decide +kernel
theorem dX7_doubtsOfExchange_2 : decode cX7_doubtsOfExchange 2 = .ok (.invokevirtual 89, 3) := by decide +kernel
theorem dX7_doubtsOfExchange_5 : decode cX7_doubtsOfExchange 5 = .ok (.aload_n 0, 1) := by decide +kernel
theorem dX7_doubtsOfExchange_6 : decode cX7_doubtsOfExchange 6 = .ok (.iload_n 2, 1) := by decide +kernel
theorem dX7_doubtsOfExchange_7 : decode cX7_doubtsOfExchange 7 = .ok (.invokevirtual 89, 3) := by decide +kernel
theorem dX7_doubtsOfExchange_10 : decode cX7_doubtsOfExchange 10 = .ok (.getfield 79, 3) := by decide +kernel
theorem dX7_doubtsOfExchange_13 : decode cX7_doubtsOfExchange 13 = .ok (.invokevirtual 231, 3) := by decide +kernel
theorem dX7_doubtsOfExchange_16 : decode cX7_doubtsOfExchange 16 = .ok (.aload_n 0, 1) := by decide +kernel
theorem dX7_doubtsOfExchange_17 : decode cX7_doubtsOfExchange 17 = .ok (.iload_n 2, 1) := by decide +kernel
theorem dX7_doubtsOfExchange_18 : decode cX7_doubtsOfExchange 18 = .ok (.invokevirtual 89, 3) := by decide +kernel
theorem dX7_doubtsOfExchange_21 : decode cX7_doubtsOfExchange 21 = .ok (.aload_n 0, 1) := by decide +kernel
theorem dX7_doubtsOfExchange_22 : decode cX7_doubtsOfExchange 22 = .ok (.iload_n 1, 1) := by decide +kernel
theorem dX7_doubtsOfExchange_23 : decode cX7_doubtsOfExchange 23 = .ok (.invokevirtual 89, 3) := by decide +kernel
theorem dX7_doubtsOfExchange_26 : decode cX7_doubtsOfExchange 26 = .ok (.getfield 79, 3) := by decide +kernel
theorem dX7_doubtsOfExchange_29 : decode cX7_doubtsOfExchange 29 = .ok (.invokevirtual 231, 3) := by decide +kernel
theorem dX7_doubtsOfExchange_32 : decode cX7_doubtsOfExchange 32 = .ok (.iadd, 1) := by decide +kernel
theorem dX7_doubtsOfExchange_33 : decode cX7_doubtsOfExchange 33 = .ok (.ireturn, 1) := by decide +kernel
theorem dX7_firstRelease_0 : decode cX7_firstRelease 0 = .ok (.aload_n 0, 1) := by decide +kernel
theorem dX7_firstRelease_1 : decode cX7_firstRelease 1 = .ok (.iload_n 1, 1) := by decide +kernel
theorem dX7_firstRelease_2 : decode cX7_firstRelease 2 = .ok (.invokevirtual 89, 3) := by decide +kernel
theorem dX7_firstRelease_5 : decode cX7_firstRelease 5 = .ok (.getfield 163, 3) := by decide +kernel
theorem dX7_firstRelease_8 : decode cX7_firstRelease 8 = .ok (.iload_n 2, 1) := by decide +kernel
theorem dX7_firstRelease_9 : decode cX7_firstRelease 9 = .ok (.invokevirtual 234, 3) := by decide +kernel
theorem dX7_firstRelease_12 : decode cX7_firstRelease 12 = .ok (.ireturn, 1) := by decide +kernel
theorem dX8_init_0 : decode cX8_init 0 = .ok (.aload_n 0, 1) := by decide +kernel
theorem dX8_init_1 : decode cX8_init 1 = .ok (.invokespecial 3, 3) := by decide +kernel
theorem dX8_init_4 : decode cX8_init 4 = .ok (.aload_n 0, 1) := by decide +kernel
theorem dX8_init_5 : decode cX8_init 5 = .ok (.iconst 4, 1) := by decide +kernel
theorem dX8_init_6 : decode cX8_init 6 = .ok (.anewarray 9, 3) := by decide +kernel
theorem dX8_init_9 : decode cX8_init 9 = .ok (.putfield 11, 3) := by decide +kernel
theorem dX8_init_12 : decode cX8_init 12 = .ok (.iconst 0, 1) := by decide +kernel
theorem dX8_init_13 : decode cX8_init 13 = .ok (.istore_n 1, 1) := by decide +kernel
theorem dX8_init_14 : decode cX8_init 14 = .ok (.iload_n 1, 1) := by decide +kernel
theorem dX8_init_15 : decode cX8_init 15 = .ok (.iconst 4, 1) := by decide +kernel
theorem dX8_init_16 : decode cX8_init 16 = .ok (.if_icmp .ge 22, 3) := by decide +kernel
theorem dX8_init_19 : decode cX8_init 19 = .ok (.aload_n 0, 1) := by decide +kernel
theorem dX8_init_20 : decode cX8_init 20 = .ok (.getfield 11, 3) := by decide +kernel
theorem dX8_init_23 : decode cX8_init 23 = .ok (.iload_n 1, 1) := by decide +kernel
theorem dX8_init_24 : decode cX8_init 24 = .ok (.new 9, 3) := by decide +kernel
theorem dX8_init_27 : decode cX8_init 27 = .ok (.dup, 1) := by decide +kernel
theorem dX8_init_28 : decode cX8_init 28 = .ok (.invokespecial 17, 3) := by decide +kernel
theorem dX8_init_31 : decode cX8_init 31 = .ok (.aastore, 1) := by decide +kernel
theorem dX8_init_32 : decode cX8_init 32 = .ok (.iinc 1 1, 3) := by decide +kernel
theorem dX8_init_35 : decode cX8_init 35 = .ok (.goto (-21), 3) := by decide +kernel
theorem dX8_init_38 : decode cX8_init 38 = .ok (.return_, 1) := by decide +kernel
theorem dX8_save_0 : decode cX8_save 0 = .ok (.aload_n 0, 1) := by decide +kernel
theorem dX8_save_1 : decode cX8_save 1 = .ok (.getfield 11, 3) := by decide +kernel
theorem dX8_save_4 : decode cX8_save 4 = .ok (.aload_n 0, 1) := by decide +kernel
theorem dX8_save_5 : decode cX8_save 5 = .ok (.getfield 18, 3) := by decide +kernel
theorem dX8_save_8 : decode cX8_save 8 = .ok (.aload_n 0, 1) := by decide +kernel
theorem dX8_save_9 : decode cX8_save 9 = .ok (.getfield 22, 3) := by decide +kernel
theorem dX8_save_12 : decode cX8_save 12 = .ok (.iadd, 1) := by decide +kernel
theorem dX8_save_13 : decode cX8_save 13 = .ok (.iconst 4, 1) := by decide +kernel
theorem dX8_save_14 : decode cX8_save 14 = .ok (.irem, 1) := by decide +kernel
theorem dX8_save_15 : decode cX8_save 15 = .ok (.aaload, 1) := by decide +kernel
theorem dX8_save_16 : decode cX8_save 16 = .ok (.aload_n 1, 1) := by decide +kernel
theorem dX8_save_17 : decode cX8_save 17 = .ok (.invokevirtual 25, 3) := by decide +kernel
theorem dX8_save_20 : decode cX8_save 20 = .ok (.aload_n 0, 1) := by decide +kernel
theorem dX8_save_21 : decode cX8_save 21 = .ok (.getfield 22, 3) := by decide +kernel
theorem dX8_save_24 : decode cX8_save 24 = .ok (.iconst 4, 1) := by decide +kernel
theorem dX8_save_25 : decode cX8_save 25 = .ok (.if_icmp .ge 16, 3) := by decide +kernel
theorem dX8_save_28 : decode cX8_save 28 = .ok (.aload_n 0, 1) := by decide +kernel
theorem dX8_save_29 : decode cX8_save 29 = .ok (.dup, 1) := by decide +kernel
theorem dX8_save_30 : decode cX8_save 30 = .ok (.getfield 22, 3) := by decide +kernel
theorem dX8_save_33 : decode cX8_save 33 = .ok (.iconst 1, 1) := by decide +kernel
theorem dX8_save_34 : decode cX8_save 34 = .ok (.iadd, 1) := by decide +kernel
theorem dX8_save_35 : decode cX8_save 35 = .ok (.putfield 22, 3) := by decide +kernel
theorem dX8_save_38 : decode cX8_save 38 = .ok (.goto 15, 3) := by decide +kernel
theorem dX8_save_41 : decode cX8_save 41 = .ok (.aload_n 0, 1) := by decide +kernel
theorem dX8_save_42 : decode cX8_save 42 = .ok (.aload_n 0, 1) := by decide +kernel
theorem dX8_save_43 : decode cX8_save 43 = .ok (.getfield 18, 3) := by decide +kernel
theorem dX8_save_46 : decode cX8_save 46 = .ok (.iconst 1, 1) := by decide +kernel
theorem dX8_save_47 : decode cX8_save 47 = .ok (.iadd, 1) := by decide +kernel
theorem dX8_save_48 : decode cX8_save 48 = .ok (.iconst 4, 1) := by decide +kernel
theorem dX8_save_49 : decode cX8_save 49 = .ok (.irem, 1) := by decide +kernel
theorem dX8_save_50 : decode cX8_save 50 = .ok (.putfield 18, 3) := by decide +kernel
theorem dX8_save_53 : decode cX8_save 53 = .ok (.return_, 1) := by decide +kernel
theorem dX8_restore_0 : decode cX8_restore 0 = .ok (.aload_n 0, 1) := by decide +kernel
theorem dX8_restore_1 : decode cX8_restore 1 = .ok (.getfield 22, 3) := by decide +kernel
theorem dX8_restore_4 : decode cX8_restore 4 = .ok (.ifCond .le 33, 3) := by decide +kernel
theorem dX8_restore_7 : decode cX8_restore 7 = .ok (.aload_n 0, 1) := by decide +kernel
theorem dX8_restore_8 : decode cX8_restore 8 = .ok (.dup, 1) := by decide +kernel
theorem dX8_restore_9 : decode cX8_restore 9 = .ok (.getfield 22, 3) := by decide +kernel
theorem dX8_restore_12 : decode cX8_restore 12 = .ok (.iconst 1, 1) := by decide +kernel
theorem dX8_restore_13 : decode cX8_restore 13 = .ok (.isub, 1) := by decide +kernel
theorem dX8_restore_14 : decode cX8_restore 14 = .ok (.putfield 22, 3) := by decide +kernel
theorem dX8_restore_17 : decode cX8_restore 17 = .ok (.aload_n 1, 1) := by decide +kernel
theorem dX8_restore_18 : decode cX8_restore 18 = .ok (.aload_n 0, 1) := by decide +kernel
theorem dX8_restore_19 : decode cX8_restore 19 = .ok (.getfield 11, 3) := by decide +kernel
theorem dX8_restore_22 : decode cX8_restore 22 = .ok (.aload_n 0, 1) := by decide +kernel
theorem dX8_restore_23 : decode cX8_restore 23 = .ok (.getfield 18, 3) := by decide +kernel
theorem dX8_restore_26 : decode cX8_restore 26 = .ok (.aload_n 0, 1) := by decide +kernel
theorem dX8_restore_27 : decode cX8_restore 27 = .ok (.getfield 22, 3) := by decide +kernel
theorem dX8_restore_30 : decode cX8_restore 30 = .ok (.iadd, 1) := by decide +kernel
theorem dX8_restore_31 : decode cX8_restore 31 = .ok (.iconst 4, 1) := by decide +kernel
theorem dX8_restore_32 : decode cX8_restore 32 = .ok (.irem, 1) := by decide +kernel
theorem dX8_restore_33 : decode cX8_restore 33 = .ok (.aaload, 1) := by decide +kernel
theorem dX8_restore_34 : decode cX8_restore 34 = .ok (.invokevirtual 25, 3) := by decide +kernel
theorem dX8_restore_37 : decode cX8_restore 37 = .ok (.aload_n 0, 1) := by decide +kernel
theorem dX8_restore_38 : decode cX8_restore 38 = .ok (.getfield 22, 3) := by decide +kernel
theorem dX8_restore_41 : decode cX8_restore 41 = .ok (.ireturn, 1) := by decide +kernel
theorem dX9_init_0 : decode cX9_init 0 = .ok (.aload_n 0, 1) := by decide +kernel
theorem dX9_init_1 : decode cX9_init 1 = .ok (.invokespecial 1, 3) := by decide +kernel
theorem dX9_init_4 : decode cX9_init 4 = .ok (.aload_n 0, 1) := by decide +kernel
theorem dX9_init_5 : decode cX9_init 5 = .ok (.new 7, 3) := by decide +kernel
theorem dX9_init_8 : decode cX9_init 8 = .ok (.dup, 1) := by decide +kernel
theorem dX9_init_9 : decode cX9_init 9 = .ok (.invokespecial 9, 3) := by decide +kernel
theorem dX9_init_12 : decode cX9_init 12 = .ok (.putfield 10, 3) := by decide +kernel
theorem dX9_init_15 : decode cX9_init 15 = .ok (.aload_n 0, 1) := by decide +kernel
theorem dX9_init_16 : decode cX9_init 16 = .ok (.new 16, 3) := by decide +kernel
theorem dX9_init_19 : decode cX9_init 19 = .ok (.dup, 1) := by decide +kernel
theorem dX9_init_20 : decode cX9_init 20 = .ok (.invokespecial 18, 3) := by decide +kernel
theorem dX9_init_23 : decode cX9_init 23 = .ok (.putfield 19, 3) := by decide +kernel
theorem dX9_init_26 : decode cX9_init 26 = .ok (.aload_n 0, 1) := by decide +kernel
theorem dX9_init_27 : decode cX9_init 27 = .ok (.new 23, 3) := by decide +kernel
theorem dX9_init_30 : decode cX9_init 30 = .ok (.dup, 1) := by decide +kernel
theorem dX9_init_31 : decode cX9_init 31 = .ok (.invokespecial 25, 3) := by decide +kernel
theorem dX9_init_34 : decode cX9_init 34 = .ok (.putfield 26, 3) := by decide +kernel
theorem dX9_init_37 : decode cX9_init 37 = .ok (.return_, 1) := by decide +kernel
theorem dX9_addTrade_0 : decode cX9_addTrade 0 = .ok (.aload_n 0, 1) := by decide +kernel
theorem dX9_addTrade_1 : decode cX9_addTrade 1 = .ok (.iload_n 1, 1) := by decide +kernel
theorem dX9_addTrade_2 : decode cX9_addTrade 2 = .ok (.iload_n 2, 1) := by decide +kernel
theorem dX9_addTrade_3 : decode cX9_addTrade 3 = .ok (.iload_n 3, 1) := by decide +kernel
theorem dX9_addTrade_4 : decode cX9_addTrade 4 = .ok (.invokevirtual 30, 3) := by decide +kernel
theorem dX9_addTrade_7 : decode cX9_addTrade 7 = .ok (.invokestatic 34, 3) := by decide +kernel
theorem dX9_addTrade_10 : decode cX9_addTrade 10 = .ok (.aload_n 0, 1) := by decide +kernel
theorem dX9_addTrade_11 : decode cX9_addTrade 11 = .ok (.getfield 19, 3) := by decide +kernel
theorem dX9_addTrade_14 : decode cX9_addTrade 14 = .ok (.aload_n 0, 1) := by decide +kernel
theorem dX9_addTrade_15 : decode cX9_addTrade 15 = .ok (.getfield 10, 3) := by decide +kernel
theorem dX9_addTrade_18 : decode cX9_addTrade 18 = .ok (.invokevirtual 38, 3) := by decide +kernel
theorem dX9_addTrade_21 : decode cX9_addTrade 21 = .ok (.aload_n 0, 1) := by decide +kernel
theorem dX9_addTrade_22 : decode cX9_addTrade 22 = .ok (.getfield 10, 3) := by decide +kernel
theorem dX9_addTrade_25 : decode cX9_addTrade 25 = .ok (.iload_n 1, 1) := by decide +kernel
theorem dX9_addTrade_26 : decode cX9_addTrade 26 = .ok (.iload_n 2, 1) := by decide +kernel
theorem dX9_addTrade_27 : decode cX9_addTrade 27 = .ok (.iload_n 3, 1) := by decide +kernel
theorem dX9_addTrade_28 : decode cX9_addTrade 28 = .ok (.invokevirtual 42, 3) := by decide +kernel
theorem dX9_addTrade_31 : decode cX9_addTrade 31 = .ok (.ireturn, 1) := by decide +kernel
theorem dX9_addMentor_0 : decode cX9_addMentor 0 = .ok (.aload_n 0, 1) := by decide +kernel
theorem dX9_addMentor_1 : decode cX9_addMentor 1 = .ok (.iload_n 1, 1) := by decide +kernel
theorem dX9_addMentor_2 : decode cX9_addMentor 2 = .ok (.iload_n 2, 1) := by decide +kernel
theorem dX9_addMentor_3 : decode cX9_addMentor 3 = .ok (.invokevirtual 45, 3) := by decide +kernel
theorem dX9_addMentor_6 : decode cX9_addMentor 6 = .ok (.invokestatic 34, 3) := by decide +kernel
theorem dX9_addMentor_9 : decode cX9_addMentor 9 = .ok (.aload_n 0, 1) := by decide +kernel
theorem dX9_addMentor_10 : decode cX9_addMentor 10 = .ok (.getfield 19, 3) := by decide +kernel
theorem dX9_addMentor_13 : decode cX9_addMentor 13 = .ok (.aload_n 0, 1) := by decide +kernel
theorem dX9_addMentor_14 : decode cX9_addMentor 14 = .ok (.getfield 10, 3) := by decide +kernel
theorem dX9_addMentor_17 : decode cX9_addMentor 17 = .ok (.invokevirtual 38, 3) := by decide +kernel
theorem dX9_addMentor_20 : decode cX9_addMentor 20 = .ok (.aload_n 0, 1) := by decide +kernel
theorem dX9_addMentor_21 : decode cX9_addMentor 21 = .ok (.getfield 10, 3) := by decide +kernel
theorem dX9_addMentor_24 : decode cX9_addMentor 24 = .ok (.iload_n 1, 1) := by decide +kernel
theorem dX9_addMentor_25 : decode cX9_addMentor 25 = .ok (.iload_n 2, 1) := by decide +kernel
theorem dX9_addMentor_26 : decode cX9_addMentor 26 = .ok (.invokevirtual 49, 3) := by decide +kernel
theorem dX9_addMentor_29 : decode cX9_addMentor 29 = .ok (.ireturn, 1) := by decide +kernel
theorem dX9_addApprentice_0 : decode cX9_addApprentice 0 = .ok (.aload_n 0, 1) := by decide +kernel
theorem dX9_addApprentice_1 : decode cX9_addApprentice 1 = .ok (.iload_n 1, 1) := by decide +kernel
theorem dX9_addApprentice_2 : decode cX9_addApprentice 2 = .ok (.iload_n 2, 1) := by decide +kernel
theorem dX9_addApprentice_3 : decode cX9_addApprentice 3 = .ok (.invokevirtual 52, 3) := by decide +kernel
theorem dX9_addApprentice_6 : decode cX9_addApprentice 6 = .ok (.invokestatic 34, 3) := by decide +kernel
theorem dX9_addApprentice_9 : decode cX9_addApprentice 9 = .ok (.aload_n 0, 1) := by decide +kernel
theorem dX9_addApprentice_10 : decode cX9_addApprentice 10 = .ok (.getfield 19, 3) := by decide +kernel
theorem dX9_addApprentice_13 : decode cX9_addApprentice 13 = .ok (.aload_n 0, 1) := by decide +kernel
theorem dX9_addApprentice_14 : decode cX9_addApprentice 14 = .ok (.getfield 10, 3) := by decide +kernel
theorem dX9_addApprentice_17 : decode cX9_addApprentice 17 = .ok (.invokevirtual 38, 3) := by decide +kernel
theorem dX9_addApprentice_20 : decode cX9_addApprentice 20 = .ok (.aload_n 0, 1) := by decide +kernel
theorem dX9_addApprentice_21 : decode cX9_addApprentice 21 = .ok (.getfield 10, 3) := by decide +kernel
theorem dX9_addApprentice_24 : decode cX9_addApprentice 24 = .ok (.iload_n 1, 1) := by decide +kernel
theorem dX9_addApprentice_25 : decode cX9_addApprentice 25 = .ok (.iload_n 2, 1) := by decide +kernel
theorem dX9_addApprentice_26 : decode cX9_addApprentice 26 = .ok (.invokevirtual 55, 3) := by decide +kernel
theorem dX9_addApprentice_29 : decode cX9_addApprentice 29 = .ok (.ireturn, 1) := by decide +kernel
theorem dX9_release_0 : decode cX9_release 0 = .ok (.aload_n 0, 1) := by decide +kernel
theorem dX9_release_1 : decode cX9_release 1 = .ok (.iload_n 1, 1) := by decide +kernel
theorem dX9_release_2 : decode cX9_release 2 = .ok (.iload_n 2, 1) := by decide +kernel
theorem dX9_release_3 : decode cX9_release 3 = .ok (.invokevirtual 58, 3) := by decide +kernel
theorem dX9_release_6 : decode cX9_release 6 = .ok (.invokestatic 34, 3) := by decide +kernel
theorem dX9_release_9 : decode cX9_release 9 = .ok (.aload_n 0, 1) := by decide +kernel
theorem dX9_release_10 : decode cX9_release 10 = .ok (.getfield 19, 3) := by decide +kernel
theorem dX9_release_13 : decode cX9_release 13 = .ok (.aload_n 0, 1) := by decide +kernel
theorem dX9_release_14 : decode cX9_release 14 = .ok (.getfield 10, 3) := by decide +kernel
theorem dX9_release_17 : decode cX9_release 17 = .ok (.invokevirtual 38, 3) := by decide +kernel
theorem dX9_release_20 : decode cX9_release 20 = .ok (.aload_n 0, 1) := by decide +kernel
theorem dX9_release_21 : decode cX9_release 21 = .ok (.getfield 10, 3) := by decide +kernel
theorem dX9_release_24 : decode cX9_release 24 = .ok (.iload_n 1, 1) := by decide +kernel
theorem dX9_release_25 : decode cX9_release 25 = .ok (.iload_n 2, 1) := by decide +kernel
theorem dX9_release_26 : decode cX9_release 26 = .ok (.invokevirtual 61, 3) := by decide +kernel
theorem dX9_release_29 : decode cX9_release 29 = .ok (.ireturn, 1) := by decide +kernel
theorem dX9_log_0 : decode cX9_log 0 = .ok (.aload_n 0, 1) := by decide +kernel
theorem dX9_log_1 : decode cX9_log 1 = .ok (.iload_n 1, 1) := by decide +kernel
theorem dX9_log_2 : decode cX9_log 2 = .ok (.iload_n 2, 1) := by decide +kernel
theorem dX9_log_3 : decode cX9_log 3 = .ok (.iload_n 3, 1) := by decide +kernel
theorem dX9_log_4 : decode cX9_log 4 = .ok (.invokevirtual 64, 3) := by decide +kernel
theorem dX9_log_7 : decode cX9_log 7 = .ok (.invokestatic 34, 3) := by decide +kernel
theorem dX9_log_10 : decode cX9_log 10 = .ok (.aload_n 0, 1) := by decide +kernel
theorem dX9_log_11 : decode cX9_log 11 = .ok (.getfield 19, 3) := by decide +kernel
theorem dX9_log_14 : decode cX9_log 14 = .ok (.aload_n 0, 1) := by decide +kernel
theorem dX9_log_15 : decode cX9_log 15 = .ok (.getfield 10, 3) := by decide +kernel
theorem dX9_log_18 : decode cX9_log 18 = .ok (.invokevirtual 38, 3) := by decide +kernel
theorem dX9_log_21 : decode cX9_log 21 = .ok (.aload_n 0, 1) := by decide +kernel
theorem dX9_log_22 : decode cX9_log 22 = .ok (.getfield 10, 3) := by decide +kernel
theorem dX9_log_25 : decode cX9_log 25 = .ok (.iload_n 1, 1) := by decide +kernel
theorem dX9_log_26 : decode cX9_log 26 = .ok (.iload_n 2, 1) := by decide +kernel
theorem dX9_log_27 : decode cX9_log 27 = .ok (.iload_n 3, 1) := by decide +kernel
theorem dX9_log_28 : decode cX9_log 28 = .ok (.invokevirtual 67, 3) := by decide +kernel
theorem dX9_log_31 : decode cX9_log 31 = .ok (.ireturn, 1) := by decide +kernel
theorem dX9_confirm_0 : decode cX9_confirm 0 = .ok (.aload_n 0, 1) := by decide +kernel
theorem dX9_confirm_1 : decode cX9_confirm 1 = .ok (.iload_n 1, 1) := by decide +kernel
theorem dX9_confirm_2 : decode cX9_confirm 2 = .ok (.iload_n 2, 1) := by decide +kernel
theorem dX9_confirm_3 : decode cX9_confirm 3 = .ok (.invokevirtual 70, 3) := by decide +kernel
theorem dX9_confirm_6 : decode cX9_confirm 6 = .ok (.invokestatic 34, 3) := by decide +kernel
theorem dX9_confirm_9 : decode cX9_confirm 9 = .ok (.aload_n 0, 1) := by decide +kernel
theorem dX9_confirm_10 : decode cX9_confirm 10 = .ok (.getfield 19, 3) := by decide +kernel
theorem dX9_confirm_13 : decode cX9_confirm 13 = .ok (.aload_n 0, 1) := by decide +kernel
theorem dX9_confirm_14 : decode cX9_confirm 14 = .ok (.getfield 10, 3) := by decide +kernel
theorem dX9_confirm_17 : decode cX9_confirm 17 = .ok (.invokevirtual 38, 3) := by decide +kernel
theorem dX9_confirm_20 : decode cX9_confirm 20 = .ok (.aload_n 0, 1) := by decide +kernel
theorem dX9_confirm_21 : decode cX9_confirm 21 = .ok (.getfield 10, 3) := by decide +kernel
theorem dX9_confirm_24 : decode cX9_confirm 24 = .ok (.iload_n 1, 1) := by decide +kernel
theorem dX9_confirm_25 : decode cX9_confirm 25 = .ok (.iload_n 2, 1) := by decide +kernel
theorem dX9_confirm_26 : decode cX9_confirm 26 = .ok (.invokevirtual 73, 3) := by decide +kernel
theorem dX9_confirm_29 : decode cX9_confirm 29 = .ok (.ireturn, 1) := by decide +kernel
theorem dX9_doubt_0 : decode cX9_doubt 0 = .ok (.aload_n 0, 1) := by decide +kernel
theorem dX9_doubt_1 : decode cX9_doubt 1 = .ok (.iload_n 1, 1) := by decide +kernel
theorem dX9_doubt_2 : decode cX9_doubt 2 = .ok (.invokevirtual 76, 3) := by decide +kernel
theorem dX9_doubt_5 : decode cX9_doubt 5 = .ok (.invokestatic 34, 3) := by decide +kernel
theorem dX9_doubt_8 : decode cX9_doubt 8 = .ok (.aload_n 0, 1) := by decide +kernel
theorem dX9_doubt_9 : decode cX9_doubt 9 = .ok (.getfield 19, 3) := by decide +kernel
theorem dX9_doubt_12 : decode cX9_doubt 12 = .ok (.aload_n 0, 1) := by decide +kernel
theorem dX9_doubt_13 : decode cX9_doubt 13 = .ok (.getfield 10, 3) := by decide +kernel
theorem dX9_doubt_16 : decode cX9_doubt 16 = .ok (.invokevirtual 38, 3) := by decide +kernel
theorem dX9_doubt_19 : decode cX9_doubt 19 = .ok (.aload_n 0, 1) := by decide +kernel
theorem dX9_doubt_20 : decode cX9_doubt 20 = .ok (.getfield 10, 3) := by decide +kernel
theorem dX9_doubt_23 : decode cX9_doubt 23 = .ok (.iload_n 1, 1) := by decide +kernel
theorem dX9_doubt_24 : decode cX9_doubt 24 = .ok (.invokevirtual 80, 3) := by decide +kernel
theorem dX9_doubt_27 : decode cX9_doubt 27 = .ok (.ireturn, 1) := by decide +kernel
theorem dX9_settle_0 : decode cX9_settle 0 = .ok (.aload_n 0, 1) := by decide +kernel
theorem dX9_settle_1 : decode cX9_settle 1 = .ok (.iload_n 1, 1) := by decide +kernel
theorem dX9_settle_2 : decode cX9_settle 2 = .ok (.iload_n 2, 1) := by decide +kernel
theorem dX9_settle_3 : decode cX9_settle 3 = .ok (.invokevirtual 83, 3) := by decide +kernel
theorem dX9_settle_6 : decode cX9_settle 6 = .ok (.invokestatic 34, 3) := by decide +kernel
theorem dX9_settle_9 : decode cX9_settle 9 = .ok (.aload_n 0, 1) := by decide +kernel
theorem dX9_settle_10 : decode cX9_settle 10 = .ok (.getfield 19, 3) := by decide +kernel
theorem dX9_settle_13 : decode cX9_settle 13 = .ok (.aload_n 0, 1) := by decide +kernel
theorem dX9_settle_14 : decode cX9_settle 14 = .ok (.getfield 10, 3) := by decide +kernel
theorem dX9_settle_17 : decode cX9_settle 17 = .ok (.invokevirtual 38, 3) := by decide +kernel
theorem dX9_settle_20 : decode cX9_settle 20 = .ok (.aload_n 0, 1) := by decide +kernel
theorem dX9_settle_21 : decode cX9_settle 21 = .ok (.getfield 10, 3) := by decide +kernel
theorem dX9_settle_24 : decode cX9_settle 24 = .ok (.iload_n 1, 1) := by decide +kernel
theorem dX9_settle_25 : decode cX9_settle 25 = .ok (.iload_n 2, 1) := by decide +kernel
theorem dX9_settle_26 : decode cX9_settle 26 = .ok (.invokevirtual 87, 3) := by decide +kernel
theorem dX9_settle_29 : decode cX9_settle 29 = .ok (.ireturn, 1) := by decide +kernel
theorem dX9_credit_0 : decode cX9_credit 0 = .ok (.aload_n 0, 1) := by decide +kernel
theorem dX9_credit_1 : decode cX9_credit 1 = .ok (.iload_n 1, 1) := by decide +kernel
theorem dX9_credit_2 : decode cX9_credit 2 = .ok (.iload_n 2, 1) := by decide +kernel
theorem dX9_credit_3 : decode cX9_credit 3 = .ok (.iload_n 3, 1) := by decide +kernel
theorem dX9_credit_4 : decode cX9_credit 4 = .ok (.invokevirtual 90, 3) := by decide +kernel
theorem dX9_credit_7 : decode cX9_credit 7 = .ok (.invokestatic 34, 3) := by decide +kernel
theorem dX9_credit_10 : decode cX9_credit 10 = .ok (.aload_n 0, 1) := by decide +kernel
theorem dX9_credit_11 : decode cX9_credit 11 = .ok (.getfield 19, 3) := by decide +kernel
theorem dX9_credit_14 : decode cX9_credit 14 = .ok (.aload_n 0, 1) := by decide +kernel
theorem dX9_credit_15 : decode cX9_credit 15 = .ok (.getfield 10, 3) := by decide +kernel
theorem dX9_credit_18 : decode cX9_credit 18 = .ok (.invokevirtual 38, 3) := by decide +kernel
theorem dX9_credit_21 : decode cX9_credit 21 = .ok (.aload_n 0, 1) := by decide +kernel
theorem dX9_credit_22 : decode cX9_credit 22 = .ok (.getfield 10, 3) := by decide +kernel
theorem dX9_credit_25 : decode cX9_credit 25 = .ok (.iload_n 1, 1) := by decide +kernel
theorem dX9_credit_26 : decode cX9_credit 26 = .ok (.iload_n 2, 1) := by decide +kernel
theorem dX9_credit_27 : decode cX9_credit 27 = .ok (.iload_n 3, 1) := by decide +kernel
theorem dX9_credit_28 : decode cX9_credit 28 = .ok (.invokevirtual 93, 3) := by decide +kernel
theorem dX9_credit_31 : decode cX9_credit 31 = .ok (.ireturn, 1) := by decide +kernel
theorem dX9_endDay_0 : decode cX9_endDay 0 = .ok (.aload_n 0, 1) := by decide +kernel
theorem dX9_endDay_1 : decode cX9_endDay 1 = .ok (.iconst 1, 1) := by decide +kernel
theorem dX9_endDay_2 : decode cX9_endDay 2 = .ok (.invokevirtual 96, 3) := by decide +kernel
theorem dX9_endDay_5 : decode cX9_endDay 5 = .ok (.invokestatic 34, 3) := by decide +kernel
theorem dX9_endDay_8 : decode cX9_endDay 8 = .ok (.aload_n 0, 1) := by decide +kernel
theorem dX9_endDay_9 : decode cX9_endDay 9 = .ok (.getfield 19, 3) := by decide +kernel
theorem dX9_endDay_12 : decode cX9_endDay 12 = .ok (.aload_n 0, 1) := by decide +kernel
theorem dX9_endDay_13 : decode cX9_endDay 13 = .ok (.getfield 10, 3) := by decide +kernel
theorem dX9_endDay_16 : decode cX9_endDay 16 = .ok (.invokevirtual 38, 3) := by decide +kernel
theorem dX9_endDay_19 : decode cX9_endDay 19 = .ok (.aload_n 0, 1) := by decide +kernel
theorem dX9_endDay_20 : decode cX9_endDay 20 = .ok (.getfield 10, 3) := by decide +kernel
theorem dX9_endDay_23 : decode cX9_endDay 23 = .ok (.iconst 1, 1) := by decide +kernel
theorem dX9_endDay_24 : decode cX9_endDay 24 = .ok (.invokevirtual 99, 3) := by decide +kernel
theorem dX9_endDay_27 : decode cX9_endDay 27 = .ok (.ireturn, 1) := by decide +kernel
theorem dX9_move_0 : decode cX9_move 0 = .ok (.aload_n 0, 1) := by decide +kernel
theorem dX9_move_1 : decode cX9_move 1 = .ok (.iload_n 1, 1) := by decide +kernel
theorem dX9_move_2 : decode cX9_move 2 = .ok (.iload_n 2, 1) := by decide +kernel
theorem dX9_move_3 : decode cX9_move 3 = .ok (.invokevirtual 102, 3) := by decide +kernel
theorem dX9_move_6 : decode cX9_move 6 = .ok (.invokestatic 34, 3) := by decide +kernel
theorem dX9_move_9 : decode cX9_move 9 = .ok (.aload_n 0, 1) := by decide +kernel
theorem dX9_move_10 : decode cX9_move 10 = .ok (.getfield 19, 3) := by decide +kernel
theorem dX9_move_13 : decode cX9_move 13 = .ok (.aload_n 0, 1) := by decide +kernel
theorem dX9_move_14 : decode cX9_move 14 = .ok (.getfield 10, 3) := by decide +kernel
theorem dX9_move_17 : decode cX9_move 17 = .ok (.invokevirtual 38, 3) := by decide +kernel
theorem dX9_move_20 : decode cX9_move 20 = .ok (.aload_n 0, 1) := by decide +kernel
theorem dX9_move_21 : decode cX9_move 21 = .ok (.getfield 10, 3) := by decide +kernel
theorem dX9_move_24 : decode cX9_move 24 = .ok (.iload_n 1, 1) := by decide +kernel
theorem dX9_move_25 : decode cX9_move 25 = .ok (.iload_n 2, 1) := by decide +kernel
theorem dX9_move_26 : decode cX9_move 26 = .ok (.invokevirtual 105, 3) := by decide +kernel
theorem dX9_move_29 : decode cX9_move 29 = .ok (.ireturn, 1) := by decide +kernel
theorem dX9_leave_0 : decode cX9_leave 0 = .ok (.aload_n 0, 1) := by decide +kernel
theorem dX9_leave_1 : decode cX9_leave 1 = .ok (.iload_n 1, 1) := by decide +kernel
theorem dX9_leave_2 : decode cX9_leave 2 = .ok (.invokevirtual 108, 3) := by decide +kernel
theorem dX9_leave_5 : decode cX9_leave 5 = .ok (.invokestatic 34, 3) := by decide +kernel
theorem dX9_leave_8 : decode cX9_leave 8 = .ok (.aload_n 0, 1) := by decide +kernel
theorem dX9_leave_9 : decode cX9_leave 9 = .ok (.getfield 19, 3) := by decide +kernel
theorem dX9_leave_12 : decode cX9_leave 12 = .ok (.aload_n 0, 1) := by decide +kernel
theorem dX9_leave_13 : decode cX9_leave 13 = .ok (.getfield 10, 3) := by decide +kernel
theorem dX9_leave_16 : decode cX9_leave 16 = .ok (.invokevirtual 38, 3) := by decide +kernel
theorem dX9_leave_19 : decode cX9_leave 19 = .ok (.aload_n 0, 1) := by decide +kernel
theorem dX9_leave_20 : decode cX9_leave 20 = .ok (.getfield 10, 3) := by decide +kernel
theorem dX9_leave_23 : decode cX9_leave 23 = .ok (.iload_n 1, 1) := by decide +kernel
theorem dX9_leave_24 : decode cX9_leave 24 = .ok (.invokevirtual 111, 3) := by decide +kernel
theorem dX9_leave_27 : decode cX9_leave 27 = .ok (.ireturn, 1) := by decide +kernel
theorem dX9_exchange_0 : decode cX9_exchange 0 = .ok (.aload_n 0, 1) := by decide +kernel
theorem dX9_exchange_1 : decode cX9_exchange 1 = .ok (.iload_n 1, 1) := by decide +kernel
theorem dX9_exchange_2 : decode cX9_exchange 2 = .ok (.iload_n 2, 1) := by decide +kernel
theorem dX9_exchange_3 : decode cX9_exchange 3 = .ok (.invokevirtual 114, 3) := by decide +kernel
theorem dX9_exchange_6 : decode cX9_exchange 6 = .ok (.invokestatic 34, 3) := by decide +kernel
theorem dX9_exchange_9 : decode cX9_exchange 9 = .ok (.aload_n 0, 1) := by decide +kernel
theorem dX9_exchange_10 : decode cX9_exchange 10 = .ok (.getfield 19, 3) := by decide +kernel
theorem dX9_exchange_13 : decode cX9_exchange 13 = .ok (.aload_n 0, 1) := by decide +kernel
theorem dX9_exchange_14 : decode cX9_exchange 14 = .ok (.getfield 10, 3) := by decide +kernel
theorem dX9_exchange_17 : decode cX9_exchange 17 = .ok (.invokevirtual 38, 3) := by decide +kernel
theorem dX9_exchange_20 : decode cX9_exchange 20 = .ok (.aload_n 0, 1) := by decide +kernel
theorem dX9_exchange_21 : decode cX9_exchange 21 = .ok (.getfield 10, 3) := by decide +kernel
theorem dX9_exchange_24 : decode cX9_exchange 24 = .ok (.iload_n 1, 1) := by decide +kernel
theorem dX9_exchange_25 : decode cX9_exchange 25 = .ok (.iload_n 2, 1) := by decide +kernel
theorem dX9_exchange_26 : decode cX9_exchange 26 = .ok (.invokevirtual 117, 3) := by decide +kernel
theorem dX9_exchange_29 : decode cX9_exchange 29 = .ok (.ireturn, 1) := by decide +kernel
theorem dX9_reason_0 : decode cX9_reason 0 = .ok (.aload_n 0, 1) := by decide +kernel
theorem dX9_reason_1 : decode cX9_reason 1 = .ok (.iload_n 1, 1) := by decide +kernel
theorem dX9_reason_2 : decode cX9_reason 2 = .ok (.iload_n 2, 1) := by decide +kernel
theorem dX9_reason_3 : decode cX9_reason 3 = .ok (.invokevirtual 120, 3) := by decide +kernel
theorem dX9_reason_6 : decode cX9_reason 6 = .ok (.invokestatic 34, 3) := by decide +kernel
theorem dX9_reason_9 : decode cX9_reason 9 = .ok (.aload_n 0, 1) := by decide +kernel
theorem dX9_reason_10 : decode cX9_reason 10 = .ok (.getfield 10, 3) := by decide +kernel
theorem dX9_reason_13 : decode cX9_reason 13 = .ok (.iload_n 1, 1) := by decide +kernel
theorem dX9_reason_14 : decode cX9_reason 14 = .ok (.iload_n 2, 1) := by decide +kernel
theorem dX9_reason_15 : decode cX9_reason 15 = .ok (.invokevirtual 123, 3) := by decide +kernel
theorem dX9_reason_18 : decode cX9_reason 18 = .ok (.ireturn, 1) := by decide +kernel
theorem dX9_mentor_0 : decode cX9_mentor 0 = .ok (.aload_n 0, 1) := by decide +kernel
theorem dX9_mentor_1 : decode cX9_mentor 1 = .ok (.getfield 10, 3) := by decide +kernel
theorem dX9_mentor_4 : decode cX9_mentor 4 = .ok (.iload_n 1, 1) := by decide +kernel
theorem dX9_mentor_5 : decode cX9_mentor 5 = .ok (.invokevirtual 126, 3) := by decide +kernel
theorem dX9_mentor_8 : decode cX9_mentor 8 = .ok (.ifCond .eq 7, 3) := by decide +kernel
theorem dX9_mentor_11 : decode cX9_mentor 11 = .ok (.iconst 0, 1) := by decide +kernel
theorem dX9_mentor_12 : decode cX9_mentor 12 = .ok (.goto 4, 3) := by decide +kernel
theorem dX9_mentor_15 : decode cX9_mentor 15 = .ok (.iconst 1, 1) := by decide +kernel
theorem dX9_mentor_16 : decode cX9_mentor 16 = .ok (.invokestatic 34, 3) := by decide +kernel
theorem dX9_mentor_19 : decode cX9_mentor 19 = .ok (.iload_n 2, 1) := by decide +kernel
theorem dX9_mentor_20 : decode cX9_mentor 20 = .ok (.iconst 0, 1) := by decide +kernel
theorem dX9_mentor_21 : decode cX9_mentor 21 = .ok (.iconst 4, 1) := by decide +kernel
theorem dX9_mentor_22 : decode cX9_mentor 22 = .ok (.invokestatic 130, 3) := by decide +kernel
theorem dX9_mentor_25 : decode cX9_mentor 25 = .ok (.ifCond .eq 7, 3) := by decide +kernel
theorem dX9_mentor_28 : decode cX9_mentor 28 = .ok (.iconst 0, 1) := by decide +kernel
theorem dX9_mentor_29 : decode cX9_mentor 29 = .ok (.goto 4, 3) := by decide +kernel
theorem dX9_mentor_32 : decode cX9_mentor 32 = .ok (.iconst 2, 1) := by decide +kernel
theorem dX9_mentor_33 : decode cX9_mentor 33 = .ok (.invokestatic 34, 3) := by decide +kernel
theorem dX9_mentor_36 : decode cX9_mentor 36 = .ok (.aload_n 0, 1) := by decide +kernel
theorem dX9_mentor_37 : decode cX9_mentor 37 = .ok (.getfield 10, 3) := by decide +kernel
theorem dX9_mentor_40 : decode cX9_mentor 40 = .ok (.iload_n 1, 1) := by decide +kernel
theorem dX9_mentor_41 : decode cX9_mentor 41 = .ok (.iload_n 2, 1) := by decide +kernel
theorem dX9_mentor_42 : decode cX9_mentor 42 = .ok (.invokevirtual 134, 3) := by decide +kernel
theorem dX9_mentor_45 : decode cX9_mentor 45 = .ok (.ireturn, 1) := by decide +kernel
theorem dX9_apprentice_0 : decode cX9_apprentice 0 = .ok (.aload_n 0, 1) := by decide +kernel
theorem dX9_apprentice_1 : decode cX9_apprentice 1 = .ok (.getfield 10, 3) := by decide +kernel
theorem dX9_apprentice_4 : decode cX9_apprentice 4 = .ok (.iload_n 1, 1) := by decide +kernel
theorem dX9_apprentice_5 : decode cX9_apprentice 5 = .ok (.invokevirtual 137, 3) := by decide +kernel
theorem dX9_apprentice_8 : decode cX9_apprentice 8 = .ok (.ifCond .eq 7, 3) := by decide +kernel
theorem dX9_apprentice_11 : decode cX9_apprentice 11 = .ok (.iconst 0, 1) := by decide +kernel
theorem dX9_apprentice_12 : decode cX9_apprentice 12 = .ok (.goto 4, 3) := by decide +kernel
theorem dX9_apprentice_15 : decode cX9_apprentice 15 = .ok (.iconst 1, 1) := by decide +kernel
theorem dX9_apprentice_16 : decode cX9_apprentice 16 = .ok (.invokestatic 34, 3) := by decide +kernel
theorem dX9_apprentice_19 : decode cX9_apprentice 19 = .ok (.iload_n 2, 1) := by decide +kernel
theorem dX9_apprentice_20 : decode cX9_apprentice 20 = .ok (.iconst 0, 1) := by decide +kernel
theorem dX9_apprentice_21 : decode cX9_apprentice 21 = .ok (.bipush 11, 2) := by decide +kernel
theorem dX9_apprentice_23 : decode cX9_apprentice 23 = .ok (.invokestatic 130, 3) := by decide +kernel
theorem dX9_apprentice_26 : decode cX9_apprentice 26 = .ok (.ifCond .eq 7, 3) := by decide +kernel
theorem dX9_apprentice_29 : decode cX9_apprentice 29 = .ok (.iconst 0, 1) := by decide +kernel
theorem dX9_apprentice_30 : decode cX9_apprentice 30 = .ok (.goto 4, 3) := by decide +kernel
theorem dX9_apprentice_33 : decode cX9_apprentice 33 = .ok (.iconst 2, 1) := by decide +kernel
theorem dX9_apprentice_34 : decode cX9_apprentice 34 = .ok (.invokestatic 34, 3) := by decide +kernel
theorem dX9_apprentice_37 : decode cX9_apprentice 37 = .ok (.aload_n 0, 1) := by decide +kernel
theorem dX9_apprentice_38 : decode cX9_apprentice 38 = .ok (.getfield 10, 3) := by decide +kernel
theorem dX9_apprentice_41 : decode cX9_apprentice 41 = .ok (.iload_n 1, 1) := by decide +kernel
theorem dX9_apprentice_42 : decode cX9_apprentice 42 = .ok (.iload_n 2, 1) := by decide +kernel
theorem dX9_apprentice_43 : decode cX9_apprentice 43 = .ok (.invokevirtual 140, 3) := by decide +kernel
theorem dX9_apprentice_46 : decode cX9_apprentice 46 = .ok (.ireturn, 1) := by decide +kernel
theorem dX9_part_0 : decode cX9_part 0 = .ok (.aload_n 0, 1) := by decide +kernel
theorem dX9_part_1 : decode cX9_part 1 = .ok (.getfield 10, 3) := by decide +kernel
theorem dX9_part_4 : decode cX9_part 4 = .ok (.iload_n 1, 1) := by decide +kernel
theorem dX9_part_5 : decode cX9_part 5 = .ok (.invokevirtual 137, 3) := by decide +kernel
theorem dX9_part_8 : decode cX9_part 8 = .ok (.ifCond .eq 7, 3) := by decide +kernel
theorem dX9_part_11 : decode cX9_part 11 = .ok (.iconst 0, 1) := by decide +kernel
theorem dX9_part_12 : decode cX9_part 12 = .ok (.goto 4, 3) := by decide +kernel
theorem dX9_part_15 : decode cX9_part 15 = .ok (.iconst 1, 1) := by decide +kernel
theorem dX9_part_16 : decode cX9_part 16 = .ok (.invokestatic 34, 3) := by decide +kernel
theorem dX9_part_19 : decode cX9_part 19 = .ok (.iload_n 2, 1) := by decide +kernel
theorem dX9_part_20 : decode cX9_part 20 = .ok (.invokestatic 143, 3) := by decide +kernel
theorem dX9_part_23 : decode cX9_part 23 = .ok (.ifCond .eq 16, 3) := by decide +kernel
theorem dX9_part_26 : decode cX9_part 26 = .ok (.iload_n 3, 1) := by decide +kernel
theorem dX9_part_27 : decode cX9_part 27 = .ok (.iconst 0, 1) := by decide +kernel
theorem dX9_part_28 : decode cX9_part 28 = .ok (.iconst 4, 1) := by decide +kernel
theorem dX9_part_29 : decode cX9_part 29 = .ok (.invokestatic 130, 3) := by decide +kernel
theorem dX9_part_32 : decode cX9_part 32 = .ok (.ifCond .eq 7, 3) := by decide +kernel
theorem dX9_part_35 : decode cX9_part 35 = .ok (.iconst 0, 1) := by decide +kernel
theorem dX9_part_36 : decode cX9_part 36 = .ok (.goto 4, 3) := by decide +kernel
theorem dX9_part_39 : decode cX9_part 39 = .ok (.iconst 2, 1) := by decide +kernel
theorem dX9_part_40 : decode cX9_part 40 = .ok (.invokestatic 34, 3) := by decide +kernel
theorem dX9_part_43 : decode cX9_part 43 = .ok (.aload_n 0, 1) := by decide +kernel
theorem dX9_part_44 : decode cX9_part 44 = .ok (.getfield 10, 3) := by decide +kernel
theorem dX9_part_47 : decode cX9_part 47 = .ok (.iload_n 1, 1) := by decide +kernel
theorem dX9_part_48 : decode cX9_part 48 = .ok (.iload_n 2, 1) := by decide +kernel
theorem dX9_part_49 : decode cX9_part 49 = .ok (.iload_n 3, 1) := by decide +kernel
theorem dX9_part_50 : decode cX9_part 50 = .ok (.invokevirtual 146, 3) := by decide +kernel
theorem dX9_part_53 : decode cX9_part 53 = .ok (.ireturn, 1) := by decide +kernel
theorem dX9_entry_0 : decode cX9_entry 0 = .ok (.aload_n 0, 1) := by decide +kernel
theorem dX9_entry_1 : decode cX9_entry 1 = .ok (.getfield 10, 3) := by decide +kernel
theorem dX9_entry_4 : decode cX9_entry 4 = .ok (.iload_n 1, 1) := by decide +kernel
theorem dX9_entry_5 : decode cX9_entry 5 = .ok (.invokevirtual 137, 3) := by decide +kernel
theorem dX9_entry_8 : decode cX9_entry 8 = .ok (.ifCond .eq 7, 3) := by decide +kernel
theorem dX9_entry_11 : decode cX9_entry 11 = .ok (.iconst 0, 1) := by decide +kernel
theorem dX9_entry_12 : decode cX9_entry 12 = .ok (.goto 4, 3) := by decide +kernel
theorem dX9_entry_15 : decode cX9_entry 15 = .ok (.iconst 1, 1) := by decide +kernel
theorem dX9_entry_16 : decode cX9_entry 16 = .ok (.invokestatic 34, 3) := by decide +kernel
theorem dX9_entry_19 : decode cX9_entry 19 = .ok (.iload_n 3, 1) := by decide +kernel
theorem dX9_entry_20 : decode cX9_entry 20 = .ok (.ifCond .lt 17, 3) := by decide +kernel
theorem dX9_entry_23 : decode cX9_entry 23 = .ok (.iload 4, 2) := by decide +kernel
theorem dX9_entry_25 : decode cX9_entry 25 = .ok (.iconst 0, 1) := by decide +kernel
theorem dX9_entry_26 : decode cX9_entry 26 = .ok (.iconst 3, 1) := by decide +kernel
theorem dX9_entry_27 : decode cX9_entry 27 = .ok (.invokestatic 130, 3) := by decide +kernel
theorem dX9_entry_30 : decode cX9_entry 30 = .ok (.ifCond .eq 7, 3) := by decide +kernel
theorem dX9_entry_33 : decode cX9_entry 33 = .ok (.iconst 0, 1) := by decide +kernel
theorem dX9_entry_34 : decode cX9_entry 34 = .ok (.goto 4, 3) := by decide +kernel
theorem dX9_entry_37 : decode cX9_entry 37 = .ok (.iconst 2, 1) := by decide +kernel
theorem dX9_entry_38 : decode cX9_entry 38 = .ok (.invokestatic 34, 3) := by decide +kernel
theorem dX9_entry_41 : decode cX9_entry 41 = .ok (.aload_n 0, 1) := by decide +kernel
theorem dX9_entry_42 : decode cX9_entry 42 = .ok (.getfield 10, 3) := by decide +kernel
theorem dX9_entry_45 : decode cX9_entry 45 = .ok (.iload_n 1, 1) := by decide +kernel
theorem dX9_entry_46 : decode cX9_entry 46 = .ok (.iload_n 2, 1) := by decide +kernel
theorem dX9_entry_47 : decode cX9_entry 47 = .ok (.iload_n 3, 1) := by decide +kernel
theorem dX9_entry_48 : decode cX9_entry 48 = .ok (.iload 4, 2) := by decide +kernel
theorem dX9_entry_50 : decode cX9_entry 50 = .ok (.invokevirtual 149, 3) := by decide +kernel
theorem dX9_entry_53 : decode cX9_entry 53 = .ok (.ireturn, 1) := by decide +kernel
theorem dX9_whole_0 : decode cX9_whole 0 = .ok (.iload_n 1, 1) := by decide +kernel
theorem dX9_whole_1 : decode cX9_whole 1 = .ok (.iconst 0, 1) := by decide +kernel
theorem dX9_whole_2 : decode cX9_whole 2 = .ok (.bipush 9, 2) := by decide +kernel
theorem dX9_whole_4 : decode cX9_whole 4 = .ok (.invokestatic 130, 3) := by decide +kernel
theorem dX9_whole_7 : decode cX9_whole 7 = .ok (.ifCond .eq 7, 3) := by decide +kernel
theorem dX9_whole_10 : decode cX9_whole 10 = .ok (.iconst 0, 1) := by decide +kernel
theorem dX9_whole_11 : decode cX9_whole 11 = .ok (.goto 4, 3) := by decide +kernel
theorem dX9_whole_14 : decode cX9_whole 14 = .ok (.iconst 2, 1) := by decide +kernel
theorem dX9_whole_15 : decode cX9_whole 15 = .ok (.invokestatic 34, 3) := by decide +kernel
theorem dX9_whole_18 : decode cX9_whole 18 = .ok (.aload_n 0, 1) := by decide +kernel
theorem dX9_whole_19 : decode cX9_whole 19 = .ok (.iload_n 1, 1) := by decide +kernel
theorem dX9_whole_20 : decode cX9_whole 20 = .ok (.invokevirtual 153, 3) := by decide +kernel
theorem dX9_whole_23 : decode cX9_whole 23 = .ok (.ireturn, 1) := by decide +kernel
theorem dX9_completeOn_0 : decode cX9_completeOn 0 = .ok (.aload_n 0, 1) := by decide +kernel
theorem dX9_completeOn_1 : decode cX9_completeOn 1 = .ok (.getfield 10, 3) := by decide +kernel
theorem dX9_completeOn_4 : decode cX9_completeOn 4 = .ok (.iload_n 1, 1) := by decide +kernel
theorem dX9_completeOn_5 : decode cX9_completeOn 5 = .ok (.invokevirtual 137, 3) := by decide +kernel
theorem dX9_completeOn_8 : decode cX9_completeOn 8 = .ok (.ifCond .eq 7, 3) := by decide +kernel
theorem dX9_completeOn_11 : decode cX9_completeOn 11 = .ok (.iconst 0, 1) := by decide +kernel
theorem dX9_completeOn_12 : decode cX9_completeOn 12 = .ok (.goto 4, 3) := by decide +kernel
theorem dX9_completeOn_15 : decode cX9_completeOn 15 = .ok (.iconst 1, 1) := by decide +kernel
theorem dX9_completeOn_16 : decode cX9_completeOn 16 = .ok (.invokestatic 34, 3) := by decide +kernel
theorem dX9_completeOn_19 : decode cX9_completeOn 19 = .ok (.iload_n 2, 1) := by decide +kernel
theorem dX9_completeOn_20 : decode cX9_completeOn 20 = .ok (.iconst 1, 1) := by decide +kernel
theorem dX9_completeOn_21 : decode cX9_completeOn 21 = .ok (.bipush 12, 2) := by decide +kernel
theorem dX9_completeOn_23 : decode cX9_completeOn 23 = .ok (.invokestatic 130, 3) := by decide +kernel
theorem dX9_completeOn_26 : decode cX9_completeOn 26 = .ok (.ifCond .eq 7, 3) := by decide +kernel
theorem dX9_completeOn_29 : decode cX9_completeOn 29 = .ok (.iconst 0, 1) := by decide +kernel
theorem dX9_completeOn_30 : decode cX9_completeOn 30 = .ok (.goto 4, 3) := by decide +kernel
theorem dX9_completeOn_33 : decode cX9_completeOn 33 = .ok (.iconst 2, 1) := by decide +kernel
theorem dX9_completeOn_34 : decode cX9_completeOn 34 = .ok (.invokestatic 34, 3) := by decide +kernel
theorem dX9_completeOn_37 : decode cX9_completeOn 37 = .ok (.aload_n 0, 1) := by decide +kernel
theorem dX9_completeOn_38 : decode cX9_completeOn 38 = .ok (.getfield 10, 3) := by decide +kernel
theorem dX9_completeOn_41 : decode cX9_completeOn 41 = .ok (.iload_n 1, 1) := by decide +kernel
theorem dX9_completeOn_42 : decode cX9_completeOn 42 = .ok (.iload_n 2, 1) := by decide +kernel
theorem dX9_completeOn_43 : decode cX9_completeOn 43 = .ok (.invokevirtual 156, 3) := by decide +kernel
theorem dX9_completeOn_46 : decode cX9_completeOn 46 = .ok (.ireturn, 1) := by decide +kernel
theorem dX9_bestMentor_0 : decode cX9_bestMentor 0 = .ok (.aload_n 0, 1) := by decide +kernel
theorem dX9_bestMentor_1 : decode cX9_bestMentor 1 = .ok (.getfield 10, 3) := by decide +kernel
theorem dX9_bestMentor_4 : decode cX9_bestMentor 4 = .ok (.iload_n 1, 1) := by decide +kernel
theorem dX9_bestMentor_5 : decode cX9_bestMentor 5 = .ok (.invokevirtual 137, 3) := by decide +kernel
theorem dX9_bestMentor_8 : decode cX9_bestMentor 8 = .ok (.ifCond .eq 7, 3) := by decide +kernel
theorem dX9_bestMentor_11 : decode cX9_bestMentor 11 = .ok (.iconst 0, 1) := by decide +kernel
theorem dX9_bestMentor_12 : decode cX9_bestMentor 12 = .ok (.goto 4, 3) := by decide +kernel
theorem dX9_bestMentor_15 : decode cX9_bestMentor 15 = .ok (.iconst 1, 1) := by decide +kernel
theorem dX9_bestMentor_16 : decode cX9_bestMentor 16 = .ok (.invokestatic 34, 3) := by decide +kernel
theorem dX9_bestMentor_19 : decode cX9_bestMentor 19 = .ok (.aload_n 0, 1) := by decide +kernel
theorem dX9_bestMentor_20 : decode cX9_bestMentor 20 = .ok (.getfield 10, 3) := by decide +kernel
theorem dX9_bestMentor_23 : decode cX9_bestMentor 23 = .ok (.iload_n 1, 1) := by decide +kernel
theorem dX9_bestMentor_24 : decode cX9_bestMentor 24 = .ok (.invokevirtual 159, 3) := by decide +kernel
theorem dX9_bestMentor_27 : decode cX9_bestMentor 27 = .ok (.ireturn, 1) := by decide +kernel
theorem dX9_doubtsBy_0 : decode cX9_doubtsBy 0 = .ok (.aload_n 0, 1) := by decide +kernel
theorem dX9_doubtsBy_1 : decode cX9_doubtsBy 1 = .ok (.getfield 10, 3) := by decide +kernel
theorem dX9_doubtsBy_4 : decode cX9_doubtsBy 4 = .ok (.iload_n 1, 1) := by decide +kernel
theorem dX9_doubtsBy_5 : decode cX9_doubtsBy 5 = .ok (.invokevirtual 137, 3) := by decide +kernel
theorem dX9_doubtsBy_8 : decode cX9_doubtsBy 8 = .ok (.ifCond .eq 18, 3) := by decide +kernel
theorem dX9_doubtsBy_11 : decode cX9_doubtsBy 11 = .ok (.aload_n 0, 1) := by decide +kernel
theorem dX9_doubtsBy_12 : decode cX9_doubtsBy 12 = .ok (.getfield 10, 3) := by decide +kernel
theorem dX9_doubtsBy_15 : decode cX9_doubtsBy 15 = .ok (.iload_n 2, 1) := by decide +kernel
theorem dX9_doubtsBy_16 : decode cX9_doubtsBy 16 = .ok (.invokevirtual 137, 3) := by decide +kernel
theorem dX9_doubtsBy_19 : decode cX9_doubtsBy 19 = .ok (.ifCond .eq 7, 3) := by decide +kernel
theorem dX9_doubtsBy_22 : decode cX9_doubtsBy 22 = .ok (.iconst 0, 1) := by decide +kernel
theorem dX9_doubtsBy_23 : decode cX9_doubtsBy 23 = .ok (.goto 4, 3) := by decide +kernel
theorem dX9_doubtsBy_26 : decode cX9_doubtsBy 26 = .ok (.iconst 1, 1) := by decide +kernel
theorem dX9_doubtsBy_27 : decode cX9_doubtsBy 27 = .ok (.invokestatic 34, 3) := by decide +kernel
theorem dX9_doubtsBy_30 : decode cX9_doubtsBy 30 = .ok (.aload_n 0, 1) := by decide +kernel
theorem dX9_doubtsBy_31 : decode cX9_doubtsBy 31 = .ok (.getfield 10, 3) := by decide +kernel
theorem dX9_doubtsBy_34 : decode cX9_doubtsBy 34 = .ok (.iload_n 1, 1) := by decide +kernel
theorem dX9_doubtsBy_35 : decode cX9_doubtsBy 35 = .ok (.iload_n 2, 1) := by decide +kernel
theorem dX9_doubtsBy_36 : decode cX9_doubtsBy 36 = .ok (.invokevirtual 162, 3) := by decide +kernel
theorem dX9_doubtsBy_39 : decode cX9_doubtsBy 39 = .ok (.ifCond .eq 15, 3) := by decide +kernel
theorem dX9_doubtsBy_42 : decode cX9_doubtsBy 42 = .ok (.aload_n 0, 1) := by decide +kernel
theorem dX9_doubtsBy_43 : decode cX9_doubtsBy 43 = .ok (.getfield 10, 3) := by decide +kernel
theorem dX9_doubtsBy_46 : decode cX9_doubtsBy 46 = .ok (.iload_n 1, 1) := by decide +kernel
theorem dX9_doubtsBy_47 : decode cX9_doubtsBy 47 = .ok (.iload_n 2, 1) := by decide +kernel
theorem dX9_doubtsBy_48 : decode cX9_doubtsBy 48 = .ok (.invokevirtual 166, 3) := by decide +kernel
theorem dX9_doubtsBy_51 : decode cX9_doubtsBy 51 = .ok (.goto 4, 3) := by decide +kernel
theorem dX9_doubtsBy_54 : decode cX9_doubtsBy 54 = .ok (.iconst (-1), 1) := by decide +kernel
theorem dX9_doubtsBy_55 : decode cX9_doubtsBy 55 = .ok (.ireturn, 1) := by decide +kernel
theorem dX9_nextRelease_0 : decode cX9_nextRelease 0 = .ok (.aload_n 0, 1) := by decide +kernel
theorem dX9_nextRelease_1 : decode cX9_nextRelease 1 = .ok (.getfield 10, 3) := by decide +kernel
theorem dX9_nextRelease_4 : decode cX9_nextRelease 4 = .ok (.iload_n 1, 1) := by decide +kernel
theorem dX9_nextRelease_5 : decode cX9_nextRelease 5 = .ok (.invokevirtual 137, 3) := by decide +kernel
theorem dX9_nextRelease_8 : decode cX9_nextRelease 8 = .ok (.ifCond .eq 7, 3) := by decide +kernel
theorem dX9_nextRelease_11 : decode cX9_nextRelease 11 = .ok (.iconst 0, 1) := by decide +kernel
theorem dX9_nextRelease_12 : decode cX9_nextRelease 12 = .ok (.goto 4, 3) := by decide +kernel
theorem dX9_nextRelease_15 : decode cX9_nextRelease 15 = .ok (.iconst 1, 1) := by decide +kernel
theorem dX9_nextRelease_16 : decode cX9_nextRelease 16 = .ok (.invokestatic 34, 3) := by decide +kernel
theorem dX9_nextRelease_19 : decode cX9_nextRelease 19 = .ok (.iload_n 2, 1) := by decide +kernel
theorem dX9_nextRelease_20 : decode cX9_nextRelease 20 = .ok (.iconst 0, 1) := by decide +kernel
theorem dX9_nextRelease_21 : decode cX9_nextRelease 21 = .ok (.sipush 9999, 3) := by decide +kernel
theorem dX9_nextRelease_24 : decode cX9_nextRelease 24 = .ok (.invokestatic 130, 3) := by decide +kernel
theorem dX9_nextRelease_27 : decode cX9_nextRelease 27 = .ok (.ifCond .eq 7, 3) := by decide +kernel
theorem dX9_nextRelease_30 : decode cX9_nextRelease 30 = .ok (.iconst 0, 1) := by decide +kernel
theorem dX9_nextRelease_31 : decode cX9_nextRelease 31 = .ok (.goto 4, 3) := by decide +kernel
theorem dX9_nextRelease_34 : decode cX9_nextRelease 34 = .ok (.iconst 2, 1) := by decide +kernel
theorem dX9_nextRelease_35 : decode cX9_nextRelease 35 = .ok (.invokestatic 34, 3) := by decide +kernel
theorem dX9_nextRelease_38 : decode cX9_nextRelease 38 = .ok (.aload_n 0, 1) := by decide +kernel
theorem dX9_nextRelease_39 : decode cX9_nextRelease 39 = .ok (.getfield 10, 3) := by decide +kernel
theorem dX9_nextRelease_42 : decode cX9_nextRelease 42 = .ok (.iload_n 1, 1) := by decide +kernel
theorem dX9_nextRelease_43 : decode cX9_nextRelease 43 = .ok (.iload_n 2, 1) := by decide +kernel
theorem dX9_nextRelease_44 : decode cX9_nextRelease 44 = .ok (.invokevirtual 169, 3) := by decide +kernel
theorem dX9_nextRelease_47 : decode cX9_nextRelease 47 = .ok (.ireturn, 1) := by decide +kernel
theorem dX9_type_0 : decode cX9_type 0 = .ok (.iload_n 1, 1) := by decide +kernel
theorem dX9_type_1 : decode cX9_type 1 = .ok (.iconst 0, 1) := by decide +kernel
theorem dX9_type_2 : decode cX9_type 2 = .ok (.bipush 127, 2) := by decide +kernel
theorem dX9_type_4 : decode cX9_type 4 = .ok (.invokestatic 130, 3) := by decide +kernel
theorem dX9_type_7 : decode cX9_type 7 = .ok (.ifCond .eq 7, 3) := by decide +kernel
theorem dX9_type_10 : decode cX9_type 10 = .ok (.iconst 0, 1) := by decide +kernel
theorem dX9_type_11 : decode cX9_type 11 = .ok (.goto 4, 3) := by decide +kernel
theorem dX9_type_14 : decode cX9_type 14 = .ok (.iconst 2, 1) := by decide +kernel
theorem dX9_type_15 : decode cX9_type 15 = .ok (.invokestatic 34, 3) := by decide +kernel
theorem dX9_type_18 : decode cX9_type 18 = .ok (.aload_n 0, 1) := by decide +kernel
theorem dX9_type_19 : decode cX9_type 19 = .ok (.getfield 26, 3) := by decide +kernel
theorem dX9_type_22 : decode cX9_type 22 = .ok (.getfield 172, 3) := by decide +kernel
theorem dX9_type_25 : decode cX9_type 25 = .ok (.sipush 150, 3) := by decide +kernel
theorem dX9_type_28 : decode cX9_type 28 = .ok (.if_icmp .ge 7, 3) := by decide +kernel
theorem dX9_type_31 : decode cX9_type 31 = .ok (.iconst 0, 1) := by decide +kernel
theorem dX9_type_32 : decode cX9_type 32 = .ok (.goto 4, 3) := by decide +kernel
theorem dX9_type_35 : decode cX9_type 35 = .ok (.iconst 3, 1) := by decide +kernel
theorem dX9_type_36 : decode cX9_type 36 = .ok (.invokestatic 34, 3) := by decide +kernel
theorem dX9_type_39 : decode cX9_type 39 = .ok (.aload_n 0, 1) := by decide +kernel
theorem dX9_type_40 : decode cX9_type 40 = .ok (.getfield 26, 3) := by decide +kernel
theorem dX9_type_43 : decode cX9_type 43 = .ok (.iload_n 1, 1) := by decide +kernel
theorem dX9_type_44 : decode cX9_type 44 = .ok (.invokevirtual 176, 3) := by decide +kernel
theorem dX9_type_47 : decode cX9_type 47 = .ok (.ireturn, 1) := by decide +kernel
theorem dX9_undo_0 : decode cX9_undo 0 = .ok (.aload_n 0, 1) := by decide +kernel
theorem dX9_undo_1 : decode cX9_undo 1 = .ok (.getfield 19, 3) := by decide +kernel
theorem dX9_undo_4 : decode cX9_undo 4 = .ok (.getfield 195, 3) := by decide +kernel
theorem dX9_undo_7 : decode cX9_undo 7 = .ok (.ifCond .le 7, 3) := by decide +kernel
theorem dX9_undo_10 : decode cX9_undo 10 = .ok (.iconst 0, 1) := by decide +kernel
theorem dX9_undo_11 : decode cX9_undo 11 = .ok (.goto 4, 3) := by decide +kernel
theorem dX9_undo_14 : decode cX9_undo 14 = .ok (.iconst 3, 1) := by decide +kernel
theorem dX9_undo_15 : decode cX9_undo 15 = .ok (.invokestatic 34, 3) := by decide +kernel
theorem dX9_undo_18 : decode cX9_undo 18 = .ok (.aload_n 0, 1) := by decide +kernel
theorem dX9_undo_19 : decode cX9_undo 19 = .ok (.getfield 19, 3) := by decide +kernel
theorem dX9_undo_22 : decode cX9_undo 22 = .ok (.aload_n 0, 1) := by decide +kernel
theorem dX9_undo_23 : decode cX9_undo 23 = .ok (.getfield 10, 3) := by decide +kernel
theorem dX9_undo_26 : decode cX9_undo 26 = .ok (.invokevirtual 198, 3) := by decide +kernel
theorem dX9_undo_29 : decode cX9_undo 29 = .ok (.ireturn, 1) := by decide +kernel
theorem dX9_valueOfWhole_0 : decode cX9_valueOfWhole 0 = .ok (.iload_n 1, 1) := by decide +kernel
theorem dX9_valueOfWhole_1 : decode cX9_valueOfWhole 1 = .ok (.bipush 9, 2) := by decide +kernel
theorem dX9_valueOfWhole_3 : decode cX9_valueOfWhole 3 = .ok (.if_icmp .ne 13, 3) := by decide +kernel
theorem dX9_valueOfWhole_6 : decode cX9_valueOfWhole 6 = .ok (.aload_n 0, 1) := by decide +kernel
theorem dX9_valueOfWhole_7 : decode cX9_valueOfWhole 7 = .ok (.getfield 26, 3) := by decide +kernel
theorem dX9_valueOfWhole_10 : decode cX9_valueOfWhole 10 = .ok (.getfield 172, 3) := by decide +kernel
theorem dX9_valueOfWhole_13 : decode cX9_valueOfWhole 13 = .ok (.goto 11, 3) := by decide +kernel
theorem dX9_valueOfWhole_16 : decode cX9_valueOfWhole 16 = .ok (.aload_n 0, 1) := by decide +kernel
theorem dX9_valueOfWhole_17 : decode cX9_valueOfWhole 17 = .ok (.getfield 10, 3) := by decide +kernel
theorem dX9_valueOfWhole_20 : decode cX9_valueOfWhole 20 = .ok (.iload_n 1, 1) := by decide +kernel
theorem dX9_valueOfWhole_21 : decode cX9_valueOfWhole 21 = .ok (.invokevirtual 226, 3) := by decide +kernel
theorem dX9_valueOfWhole_24 : decode cX9_valueOfWhole 24 = .ok (.ireturn, 1) := by decide +kernel
theorem dX9_refuse_0 : decode cX9_refuse 0 = .ok (.iload_n 0, 1) := by decide +kernel
theorem dX9_refuse_1 : decode cX9_refuse 1 = .ok (.iconst 1, 1) := by decide +kernel
theorem dX9_refuse_2 : decode cX9_refuse 2 = .ok (.if_icmp .ne 13, 3) := by decide +kernel
theorem dX9_refuse_5 : decode cX9_refuse 5 = .ok (.new 229, 3) := by decide +kernel
theorem dX9_refuse_8 : decode cX9_refuse 8 = .ok (.dup, 1) := by decide +kernel
theorem dX9_refuse_9 : decode cX9_refuse 9 = .ok (.ldc 231, 2) := by decide +kernel
theorem dX9_refuse_11 : decode cX9_refuse 11 = .ok (.invokespecial 233, 3) := by decide +kernel
theorem dX9_refuse_14 : decode cX9_refuse 14 = .ok (.athrow, 1) := by decide +kernel
theorem dX9_refuse_15 : decode cX9_refuse 15 = .ok (.iload_n 0, 1) := by decide +kernel
theorem dX9_refuse_16 : decode cX9_refuse 16 = .ok (.iconst 2, 1) := by decide +kernel
theorem dX9_refuse_17 : decode cX9_refuse 17 = .ok (.if_icmp .ne 13, 3) := by decide +kernel
theorem dX9_refuse_20 : decode cX9_refuse 20 = .ok (.new 236, 3) := by decide +kernel
theorem dX9_refuse_23 : decode cX9_refuse 23 = .ok (.dup, 1) := by decide +kernel
theorem dX9_refuse_24 : decode cX9_refuse 24 = .ok (.ldc 238, 2) := by decide +kernel
theorem dX9_refuse_26 : decode cX9_refuse 26 = .ok (.invokespecial 240, 3) := by decide +kernel
theorem dX9_refuse_29 : decode cX9_refuse 29 = .ok (.athrow, 1) := by decide +kernel
theorem dX9_refuse_30 : decode cX9_refuse 30 = .ok (.iload_n 0, 1) := by decide +kernel
theorem dX9_refuse_31 : decode cX9_refuse 31 = .ok (.iconst 3, 1) := by decide +kernel
theorem dX9_refuse_32 : decode cX9_refuse 32 = .ok (.if_icmp .ne 13, 3) := by decide +kernel
theorem dX9_refuse_35 : decode cX9_refuse 35 = .ok (.new 241, 3) := by decide +kernel
theorem dX9_refuse_38 : decode cX9_refuse 38 = .ok (.dup, 1) := by decide +kernel
theorem dX9_refuse_39 : decode cX9_refuse 39 = .ok (.ldc 243, 2) := by decide +kernel
theorem dX9_refuse_41 : decode cX9_refuse 41 = .ok (.invokespecial 245, 3) := by decide +kernel
theorem dX9_refuse_44 : decode cX9_refuse 44 = .ok (.athrow, 1) := by decide +kernel
theorem dX9_refuse_45 : decode cX9_refuse 45 = .ok (.return_, 1) := by decide +kernel
theorem dX9_isWithin_0 : decode cX9_isWithin 0 = .ok (.iload_n 0, 1) := by decide +kernel
theorem dX9_isWithin_1 : decode cX9_isWithin 1 = .ok (.iload_n 1, 1) := by decide +kernel
theorem dX9_isWithin_2 : decode cX9_isWithin 2 = .ok (.if_icmp .lt 12, 3) := by decide +kernel
theorem dX9_isWithin_5 : decode cX9_isWithin 5 = .ok (.iload_n 0, 1) := by decide +kernel
theorem dX9_isWithin_6 : decode cX9_isWithin 6 = .ok (.iload_n 2, 1) := by decide +kernel
theorem dX9_isWithin_7 : decode cX9_isWithin 7 = .ok (.if_icmp .gt 7, 3) := by decide +kernel
theorem dX9_isWithin_10 : decode cX9_isWithin 10 = .ok (.iconst 1, 1) := by decide +kernel
theorem dX9_isWithin_11 : decode cX9_isWithin 11 = .ok (.goto 4, 3) := by decide +kernel
theorem dX9_isWithin_14 : decode cX9_isWithin 14 = .ok (.iconst 0, 1) := by decide +kernel
theorem dX9_isWithin_15 : decode cX9_isWithin 15 = .ok (.ireturn, 1) := by decide +kernel
theorem dX9_isPart_0 : decode cX9_isPart 0 = .ok (.iload_n 0, 1) := by decide +kernel
theorem dX9_isPart_1 : decode cX9_isPart 1 = .ok (.ifCond .lt 12, 3) := by decide +kernel
theorem dX9_isPart_4 : decode cX9_isPart 4 = .ok (.iload_n 0, 1) := by decide +kernel
theorem dX9_isPart_5 : decode cX9_isPart 5 = .ok (.iconst 3, 1) := by decide +kernel
theorem dX9_isPart_6 : decode cX9_isPart 6 = .ok (.if_icmp .ge 7, 3) := by decide +kernel
theorem dX9_isPart_9 : decode cX9_isPart 9 = .ok (.iconst 1, 1) := by decide +kernel
theorem dX9_isPart_10 : decode cX9_isPart 10 = .ok (.goto 4, 3) := by decide +kernel
theorem dX9_isPart_13 : decode cX9_isPart 13 = .ok (.iconst 0, 1) := by decide +kernel
theorem dX9_isPart_14 : decode cX9_isPart 14 = .ok (.ireturn, 1) := by decide +kernel
theorem dX9_faultOfTrade_0 : decode cX9_faultOfTrade 0 = .ok (.iload_n 1, 1) := by decide +kernel
theorem dX9_faultOfTrade_1 : decode cX9_faultOfTrade 1 = .ok (.iconst 0, 1) := by decide +kernel
theorem dX9_faultOfTrade_2 : decode cX9_faultOfTrade 2 = .ok (.sipush 2000, 3) := by decide +kernel
theorem dX9_faultOfTrade_5 : decode cX9_faultOfTrade 5 = .ok (.invokestatic 130, 3) := by decide +kernel
theorem dX9_faultOfTrade_8 : decode cX9_faultOfTrade 8 = .ok (.ifCond .eq 25, 3) := by decide +kernel
theorem dX9_faultOfTrade_11 : decode cX9_faultOfTrade 11 = .ok (.iload_n 2, 1) := by decide +kernel
theorem dX9_faultOfTrade_12 : decode cX9_faultOfTrade 12 = .ok (.iconst 0, 1) := by decide +kernel
theorem dX9_faultOfTrade_13 : decode cX9_faultOfTrade 13 = .ok (.sipush 2000, 3) := by decide +kernel
theorem dX9_faultOfTrade_16 : decode cX9_faultOfTrade 16 = .ok (.invokestatic 130, 3) := by decide +kernel
theorem dX9_faultOfTrade_19 : decode cX9_faultOfTrade 19 = .ok (.ifCond .eq 14, 3) := by decide +kernel
theorem dX9_faultOfTrade_22 : decode cX9_faultOfTrade 22 = .ok (.iload_n 3, 1) := by decide +kernel
theorem dX9_faultOfTrade_23 : decode cX9_faultOfTrade 23 = .ok (.iconst 0, 1) := by decide +kernel
theorem dX9_faultOfTrade_24 : decode cX9_faultOfTrade 24 = .ok (.sipush 2000, 3) := by decide +kernel
theorem dX9_faultOfTrade_27 : decode cX9_faultOfTrade 27 = .ok (.invokestatic 130, 3) := by decide +kernel
theorem dX9_faultOfTrade_30 : decode cX9_faultOfTrade 30 = .ok (.ifCond .ne 5, 3) := by decide +kernel
theorem dX9_faultOfTrade_33 : decode cX9_faultOfTrade 33 = .ok (.iconst 2, 1) := by decide +kernel
theorem dX9_faultOfTrade_34 : decode cX9_faultOfTrade 34 = .ok (.ireturn, 1) := by decide +kernel
theorem dX9_faultOfTrade_35 : decode cX9_faultOfTrade 35 = .ok (.aload_n 0, 1) := by decide +kernel
theorem dX9_faultOfTrade_36 : decode cX9_faultOfTrade 36 = .ok (.getfield 10, 3) := by decide +kernel
theorem dX9_faultOfTrade_39 : decode cX9_faultOfTrade 39 = .ok (.getfield 246, 3) := by decide +kernel
theorem dX9_faultOfTrade_42 : decode cX9_faultOfTrade 42 = .ok (.iconst 5, 1) := by decide +kernel
theorem dX9_faultOfTrade_43 : decode cX9_faultOfTrade 43 = .ok (.if_icmp .ge 7, 3) := by decide +kernel
theorem dX9_faultOfTrade_46 : decode cX9_faultOfTrade 46 = .ok (.iconst 0, 1) := by decide +kernel
theorem dX9_faultOfTrade_47 : decode cX9_faultOfTrade 47 = .ok (.goto 4, 3) := by decide +kernel
theorem dX9_faultOfTrade_50 : decode cX9_faultOfTrade 50 = .ok (.iconst 3, 1) := by decide +kernel
theorem dX9_faultOfTrade_51 : decode cX9_faultOfTrade 51 = .ok (.ireturn, 1) := by decide +kernel
theorem dX9_faultOfMentor_0 : decode cX9_faultOfMentor 0 = .ok (.iload_n 1, 1) := by decide +kernel
theorem dX9_faultOfMentor_1 : decode cX9_faultOfMentor 1 = .ok (.iconst 1, 1) := by decide +kernel
theorem dX9_faultOfMentor_2 : decode cX9_faultOfMentor 2 = .ok (.bipush 6, 2) := by decide +kernel
theorem dX9_faultOfMentor_4 : decode cX9_faultOfMentor 4 = .ok (.invokestatic 130, 3) := by decide +kernel
theorem dX9_faultOfMentor_7 : decode cX9_faultOfMentor 7 = .ok (.ifCond .eq 13, 3) := by decide +kernel
theorem dX9_faultOfMentor_10 : decode cX9_faultOfMentor 10 = .ok (.iload_n 2, 1) := by decide +kernel
theorem dX9_faultOfMentor_11 : decode cX9_faultOfMentor 11 = .ok (.iconst 0, 1) := by decide +kernel
theorem dX9_faultOfMentor_12 : decode cX9_faultOfMentor 12 = .ok (.bipush 31, 2) := by decide +kernel
theorem dX9_faultOfMentor_14 : decode cX9_faultOfMentor 14 = .ok (.invokestatic 130, 3) := by decide +kernel
theorem dX9_faultOfMentor_17 : decode cX9_faultOfMentor 17 = .ok (.ifCond .ne 5, 3) := by decide +kernel
theorem dX9_faultOfMentor_20 : decode cX9_faultOfMentor 20 = .ok (.iconst 2, 1) := by decide +kernel
theorem dX9_faultOfMentor_21 : decode cX9_faultOfMentor 21 = .ok (.ireturn, 1) := by decide +kernel
theorem dX9_faultOfMentor_22 : decode cX9_faultOfMentor 22 = .ok (.aload_n 0, 1) := by decide +kernel
theorem dX9_faultOfMentor_23 : decode cX9_faultOfMentor 23 = .ok (.getfield 10, 3) := by decide +kernel
theorem dX9_faultOfMentor_26 : decode cX9_faultOfMentor 26 = .ok (.getfield 208, 3) := by decide +kernel
theorem dX9_faultOfMentor_29 : decode cX9_faultOfMentor 29 = .ok (.bipush 6, 2) := by decide +kernel
theorem dX9_faultOfMentor_31 : decode cX9_faultOfMentor 31 = .ok (.if_icmp .ge 7, 3) := by decide +kernel
theorem dX9_faultOfMentor_34 : decode cX9_faultOfMentor 34 = .ok (.iconst 0, 1) := by decide +kernel
theorem dX9_faultOfMentor_35 : decode cX9_faultOfMentor 35 = .ok (.goto 4, 3) := by decide +kernel
theorem dX9_faultOfMentor_38 : decode cX9_faultOfMentor 38 = .ok (.iconst 3, 1) := by decide +kernel
theorem dX9_faultOfMentor_39 : decode cX9_faultOfMentor 39 = .ok (.ireturn, 1) := by decide +kernel
theorem dX9_faultOfApprentice_0 : decode cX9_faultOfApprentice 0 = .ok (.aload_n 0, 1) := by decide +kernel
theorem dX9_faultOfApprentice_1 : decode cX9_faultOfApprentice 1 = .ok (.getfield 10, 3) := by decide +kernel
theorem dX9_faultOfApprentice_4 : decode cX9_faultOfApprentice 4 = .ok (.iload_n 1, 1) := by decide +kernel
theorem dX9_faultOfApprentice_5 : decode cX9_faultOfApprentice 5 = .ok (.invokevirtual 249, 3) := by decide +kernel
theorem dX9_faultOfApprentice_8 : decode cX9_faultOfApprentice 8 = .ok (.ifCond .eq 19, 3) := by decide +kernel
theorem dX9_faultOfApprentice_11 : decode cX9_faultOfApprentice 11 = .ok (.iload_n 2, 1) := by decide +kernel
theorem dX9_faultOfApprentice_12 : decode cX9_faultOfApprentice 12 = .ok (.iconst (-1), 1) := by decide +kernel
theorem dX9_faultOfApprentice_13 : decode cX9_faultOfApprentice 13 = .ok (.if_icmp .eq 16, 3) := by decide +kernel
theorem dX9_faultOfApprentice_16 : decode cX9_faultOfApprentice 16 = .ok (.aload_n 0, 1) := by decide +kernel
theorem dX9_faultOfApprentice_17 : decode cX9_faultOfApprentice 17 = .ok (.getfield 10, 3) := by decide +kernel
theorem dX9_faultOfApprentice_20 : decode cX9_faultOfApprentice 20 = .ok (.iload_n 2, 1) := by decide +kernel
theorem dX9_faultOfApprentice_21 : decode cX9_faultOfApprentice 21 = .ok (.invokevirtual 126, 3) := by decide +kernel
theorem dX9_faultOfApprentice_24 : decode cX9_faultOfApprentice 24 = .ok (.ifCond .ne 5, 3) := by decide +kernel
theorem dX9_faultOfApprentice_27 : decode cX9_faultOfApprentice 27 = .ok (.iconst 1, 1) := by decide +kernel
theorem dX9_faultOfApprentice_28 : decode cX9_faultOfApprentice 28 = .ok (.ireturn, 1) := by decide +kernel
theorem dX9_faultOfApprentice_29 : decode cX9_faultOfApprentice 29 = .ok (.aload_n 0, 1) := by decide +kernel
theorem dX9_faultOfApprentice_30 : decode cX9_faultOfApprentice 30 = .ok (.getfield 10, 3) := by decide +kernel
theorem dX9_faultOfApprentice_33 : decode cX9_faultOfApprentice 33 = .ok (.getfield 211, 3) := by decide +kernel
theorem dX9_faultOfApprentice_36 : decode cX9_faultOfApprentice 36 = .ok (.bipush 10, 2) := by decide +kernel
theorem dX9_faultOfApprentice_38 : decode cX9_faultOfApprentice 38 = .ok (.if_icmp .lt 5, 3) := by decide +kernel
theorem dX9_faultOfApprentice_41 : decode cX9_faultOfApprentice 41 = .ok (.iconst 3, 1) := by decide +kernel
theorem dX9_faultOfApprentice_42 : decode cX9_faultOfApprentice 42 = .ok (.ireturn, 1) := by decide +kernel
theorem dX9_faultOfApprentice_43 : decode cX9_faultOfApprentice 43 = .ok (.iload_n 2, 1) := by decide +kernel
theorem dX9_faultOfApprentice_44 : decode cX9_faultOfApprentice 44 = .ok (.iconst (-1), 1) := by decide +kernel
theorem dX9_faultOfApprentice_45 : decode cX9_faultOfApprentice 45 = .ok (.if_icmp .ne 5, 3) := by decide +kernel
theorem dX9_faultOfApprentice_48 : decode cX9_faultOfApprentice 48 = .ok (.iconst 0, 1) := by decide +kernel
theorem dX9_faultOfApprentice_49 : decode cX9_faultOfApprentice 49 = .ok (.ireturn, 1) := by decide +kernel
theorem dX9_faultOfApprentice_50 : decode cX9_faultOfApprentice 50 = .ok (.aload_n 0, 1) := by decide +kernel
theorem dX9_faultOfApprentice_51 : decode cX9_faultOfApprentice 51 = .ok (.getfield 10, 3) := by decide +kernel
theorem dX9_faultOfApprentice_54 : decode cX9_faultOfApprentice 54 = .ok (.iload_n 2, 1) := by decide +kernel
theorem dX9_faultOfApprentice_55 : decode cX9_faultOfApprentice 55 = .ok (.iload_n 1, 1) := by decide +kernel
theorem dX9_faultOfApprentice_56 : decode cX9_faultOfApprentice 56 = .ok (.invokevirtual 252, 3) := by decide +kernel
theorem dX9_faultOfApprentice_59 : decode cX9_faultOfApprentice 59 = .ok (.ifCond .eq 18, 3) := by decide +kernel
theorem dX9_faultOfApprentice_62 : decode cX9_faultOfApprentice 62 = .ok (.aload_n 0, 1) := by decide +kernel
theorem dX9_faultOfApprentice_63 : decode cX9_faultOfApprentice 63 = .ok (.getfield 10, 3) := by decide +kernel
theorem dX9_faultOfApprentice_66 : decode cX9_faultOfApprentice 66 = .ok (.iload_n 2, 1) := by decide +kernel
theorem dX9_faultOfApprentice_67 : decode cX9_faultOfApprentice 67 = .ok (.invokevirtual 255, 3) := by decide +kernel
theorem dX9_faultOfApprentice_70 : decode cX9_faultOfApprentice 70 = .ok (.ifCond .ne 7, 3) := by decide +kernel
theorem dX9_faultOfApprentice_73 : decode cX9_faultOfApprentice 73 = .ok (.iconst 0, 1) := by decide +kernel
theorem dX9_faultOfApprentice_74 : decode cX9_faultOfApprentice 74 = .ok (.goto 4, 3) := by decide +kernel
theorem dX9_faultOfApprentice_77 : decode cX9_faultOfApprentice 77 = .ok (.iconst 3, 1) := by decide +kernel
theorem dX9_faultOfApprentice_78 : decode cX9_faultOfApprentice 78 = .ok (.ireturn, 1) := by decide +kernel
theorem dX9_faultOfRelease_0 : decode cX9_faultOfRelease 0 = .ok (.aload_n 0, 1) := by decide +kernel
theorem dX9_faultOfRelease_1 : decode cX9_faultOfRelease 1 = .ok (.getfield 10, 3) := by decide +kernel
theorem dX9_faultOfRelease_4 : decode cX9_faultOfRelease 4 = .ok (.iload_n 1, 1) := by decide +kernel
theorem dX9_faultOfRelease_5 : decode cX9_faultOfRelease 5 = .ok (.invokevirtual 137, 3) := by decide +kernel
theorem dX9_faultOfRelease_8 : decode cX9_faultOfRelease 8 = .ok (.ifCond .ne 5, 3) := by decide +kernel
theorem dX9_faultOfRelease_11 : decode cX9_faultOfRelease 11 = .ok (.iconst 1, 1) := by decide +kernel
theorem dX9_faultOfRelease_12 : decode cX9_faultOfRelease 12 = .ok (.ireturn, 1) := by decide +kernel
theorem dX9_faultOfRelease_13 : decode cX9_faultOfRelease 13 = .ok (.iload_n 2, 1) := by decide +kernel
theorem dX9_faultOfRelease_14 : decode cX9_faultOfRelease 14 = .ok (.iconst 0, 1) := by decide +kernel
theorem dX9_faultOfRelease_15 : decode cX9_faultOfRelease 15 = .ok (.sipush 199, 3) := by decide +kernel
theorem dX9_faultOfRelease_18 : decode cX9_faultOfRelease 18 = .ok (.invokestatic 130, 3) := by decide +kernel
theorem dX9_faultOfRelease_21 : decode cX9_faultOfRelease 21 = .ok (.ifCond .ne 5, 3) := by decide +kernel
theorem dX9_faultOfRelease_24 : decode cX9_faultOfRelease 24 = .ok (.iconst 2, 1) := by decide +kernel
theorem dX9_faultOfRelease_25 : decode cX9_faultOfRelease 25 = .ok (.ireturn, 1) := by decide +kernel
theorem dX9_faultOfRelease_26 : decode cX9_faultOfRelease 26 = .ok (.aload_n 0, 1) := by decide +kernel
theorem dX9_faultOfRelease_27 : decode cX9_faultOfRelease 27 = .ok (.getfield 10, 3) := by decide +kernel
theorem dX9_faultOfRelease_30 : decode cX9_faultOfRelease 30 = .ok (.iload_n 1, 1) := by decide +kernel
theorem dX9_faultOfRelease_31 : decode cX9_faultOfRelease 31 = .ok (.iload_n 2, 1) := by decide +kernel
theorem dX9_faultOfRelease_32 : decode cX9_faultOfRelease 32 = .ok (.invokevirtual 258, 3) := by decide +kernel
theorem dX9_faultOfRelease_35 : decode cX9_faultOfRelease 35 = .ok (.ifCond .eq 7, 3) := by decide +kernel
theorem dX9_faultOfRelease_38 : decode cX9_faultOfRelease 38 = .ok (.iconst 3, 1) := by decide +kernel
theorem dX9_faultOfRelease_39 : decode cX9_faultOfRelease 39 = .ok (.goto 4, 3) := by decide +kernel
theorem dX9_faultOfRelease_42 : decode cX9_faultOfRelease 42 = .ok (.iconst 0, 1) := by decide +kernel
theorem dX9_faultOfRelease_43 : decode cX9_faultOfRelease 43 = .ok (.ireturn, 1) := by decide +kernel
theorem dX9_faultOfLog_0 : decode cX9_faultOfLog 0 = .ok (.aload_n 0, 1) := by decide +kernel
theorem dX9_faultOfLog_1 : decode cX9_faultOfLog 1 = .ok (.getfield 10, 3) := by decide +kernel
theorem dX9_faultOfLog_4 : decode cX9_faultOfLog 4 = .ok (.iload_n 1, 1) := by decide +kernel
theorem dX9_faultOfLog_5 : decode cX9_faultOfLog 5 = .ok (.invokevirtual 137, 3) := by decide +kernel
theorem dX9_faultOfLog_8 : decode cX9_faultOfLog 8 = .ok (.ifCond .ne 5, 3) := by decide +kernel
theorem dX9_faultOfLog_11 : decode cX9_faultOfLog 11 = .ok (.iconst 1, 1) := by decide +kernel
theorem dX9_faultOfLog_12 : decode cX9_faultOfLog 12 = .ok (.ireturn, 1) := by decide +kernel
theorem dX9_faultOfLog_13 : decode cX9_faultOfLog 13 = .ok (.iload_n 2, 1) := by decide +kernel
theorem dX9_faultOfLog_14 : decode cX9_faultOfLog 14 = .ok (.invokestatic 143, 3) := by decide +kernel
theorem dX9_faultOfLog_17 : decode cX9_faultOfLog 17 = .ok (.ifCond .eq 13, 3) := by decide +kernel
theorem dX9_faultOfLog_20 : decode cX9_faultOfLog 20 = .ok (.iload_n 3, 1) := by decide +kernel
theorem dX9_faultOfLog_21 : decode cX9_faultOfLog 21 = .ok (.iconst 1, 1) := by decide +kernel
theorem dX9_faultOfLog_22 : decode cX9_faultOfLog 22 = .ok (.bipush 12, 2) := by decide +kernel
theorem dX9_faultOfLog_24 : decode cX9_faultOfLog 24 = .ok (.invokestatic 130, 3) := by decide +kernel
theorem dX9_faultOfLog_27 : decode cX9_faultOfLog 27 = .ok (.ifCond .ne 5, 3) := by decide +kernel
theorem dX9_faultOfLog_30 : decode cX9_faultOfLog 30 = .ok (.iconst 2, 1) := by decide +kernel
theorem dX9_faultOfLog_31 : decode cX9_faultOfLog 31 = .ok (.ireturn, 1) := by decide +kernel
theorem dX9_faultOfLog_32 : decode cX9_faultOfLog 32 = .ok (.aload_n 0, 1) := by decide +kernel
theorem dX9_faultOfLog_33 : decode cX9_faultOfLog 33 = .ok (.getfield 10, 3) := by decide +kernel
theorem dX9_faultOfLog_36 : decode cX9_faultOfLog 36 = .ok (.iload_n 1, 1) := by decide +kernel
theorem dX9_faultOfLog_37 : decode cX9_faultOfLog 37 = .ok (.iload_n 3, 1) := by decide +kernel
theorem dX9_faultOfLog_38 : decode cX9_faultOfLog 38 = .ok (.invokevirtual 261, 3) := by decide +kernel
theorem dX9_faultOfLog_41 : decode cX9_faultOfLog 41 = .ok (.ifCond .eq 7, 3) := by decide +kernel
theorem dX9_faultOfLog_44 : decode cX9_faultOfLog 44 = .ok (.iconst 0, 1) := by decide +kernel
theorem dX9_faultOfLog_45 : decode cX9_faultOfLog 45 = .ok (.goto 4, 3) := by decide +kernel
theorem dX9_faultOfLog_48 : decode cX9_faultOfLog 48 = .ok (.iconst 3, 1) := by decide +kernel
theorem dX9_faultOfLog_49 : decode cX9_faultOfLog 49 = .ok (.ireturn, 1) := by decide +kernel
theorem dX9_faultOfConfirm_0 : decode cX9_faultOfConfirm 0 = .ok (.aload_n 0, 1) := by decide +kernel
theorem dX9_faultOfConfirm_1 : decode cX9_faultOfConfirm 1 = .ok (.getfield 10, 3) := by decide +kernel
theorem dX9_faultOfConfirm_4 : decode cX9_faultOfConfirm 4 = .ok (.iload_n 1, 1) := by decide +kernel
theorem dX9_faultOfConfirm_5 : decode cX9_faultOfConfirm 5 = .ok (.invokevirtual 126, 3) := by decide +kernel
theorem dX9_faultOfConfirm_8 : decode cX9_faultOfConfirm 8 = .ok (.ifCond .ne 5, 3) := by decide +kernel
theorem dX9_faultOfConfirm_11 : decode cX9_faultOfConfirm 11 = .ok (.iconst 1, 1) := by decide +kernel
theorem dX9_faultOfConfirm_12 : decode cX9_faultOfConfirm 12 = .ok (.ireturn, 1) := by decide +kernel
theorem dX9_faultOfConfirm_13 : decode cX9_faultOfConfirm 13 = .ok (.iload_n 2, 1) := by decide +kernel
theorem dX9_faultOfConfirm_14 : decode cX9_faultOfConfirm 14 = .ok (.iconst 1, 1) := by decide +kernel
theorem dX9_faultOfConfirm_15 : decode cX9_faultOfConfirm 15 = .ok (.bipush 99, 2) := by decide +kernel
theorem dX9_faultOfConfirm_17 : decode cX9_faultOfConfirm 17 = .ok (.invokestatic 130, 3) := by decide +kernel
theorem dX9_faultOfConfirm_20 : decode cX9_faultOfConfirm 20 = .ok (.ifCond .ne 5, 3) := by decide +kernel
theorem dX9_faultOfConfirm_23 : decode cX9_faultOfConfirm 23 = .ok (.iconst 2, 1) := by decide +kernel
theorem dX9_faultOfConfirm_24 : decode cX9_faultOfConfirm 24 = .ok (.ireturn, 1) := by decide +kernel
theorem dX9_faultOfConfirm_25 : decode cX9_faultOfConfirm 25 = .ok (.aload_n 0, 1) := by decide +kernel
theorem dX9_faultOfConfirm_26 : decode cX9_faultOfConfirm 26 = .ok (.getfield 10, 3) := by decide +kernel
theorem dX9_faultOfConfirm_29 : decode cX9_faultOfConfirm 29 = .ok (.iload_n 1, 1) := by decide +kernel
theorem dX9_faultOfConfirm_30 : decode cX9_faultOfConfirm 30 = .ok (.iload_n 2, 1) := by decide +kernel
theorem dX9_faultOfConfirm_31 : decode cX9_faultOfConfirm 31 = .ok (.invokevirtual 264, 3) := by decide +kernel
theorem dX9_faultOfConfirm_34 : decode cX9_faultOfConfirm 34 = .ok (.ifCond .eq 7, 3) := by decide +kernel
theorem dX9_faultOfConfirm_37 : decode cX9_faultOfConfirm 37 = .ok (.iconst 0, 1) := by decide +kernel
theorem dX9_faultOfConfirm_38 : decode cX9_faultOfConfirm 38 = .ok (.goto 4, 3) := by decide +kernel
theorem dX9_faultOfConfirm_41 : decode cX9_faultOfConfirm 41 = .ok (.iconst 3, 1) := by decide +kernel
theorem dX9_faultOfConfirm_42 : decode cX9_faultOfConfirm 42 = .ok (.ireturn, 1) := by decide +kernel
theorem dX9_faultOfDoubt_0 : decode cX9_faultOfDoubt 0 = .ok (.aload_n 0, 1) := by decide +kernel
theorem dX9_faultOfDoubt_1 : decode cX9_faultOfDoubt 1 = .ok (.getfield 10, 3) := by decide +kernel
theorem dX9_faultOfDoubt_4 : decode cX9_faultOfDoubt 4 = .ok (.iload_n 1, 1) := by decide +kernel
theorem dX9_faultOfDoubt_5 : decode cX9_faultOfDoubt 5 = .ok (.invokevirtual 137, 3) := by decide +kernel
theorem dX9_faultOfDoubt_8 : decode cX9_faultOfDoubt 8 = .ok (.ifCond .ne 5, 3) := by decide +kernel
theorem dX9_faultOfDoubt_11 : decode cX9_faultOfDoubt 11 = .ok (.iconst 1, 1) := by decide +kernel
theorem dX9_faultOfDoubt_12 : decode cX9_faultOfDoubt 12 = .ok (.ireturn, 1) := by decide +kernel
theorem dX9_faultOfDoubt_13 : decode cX9_faultOfDoubt 13 = .ok (.aload_n 0, 1) := by decide +kernel
theorem dX9_faultOfDoubt_14 : decode cX9_faultOfDoubt 14 = .ok (.getfield 10, 3) := by decide +kernel
theorem dX9_faultOfDoubt_17 : decode cX9_faultOfDoubt 17 = .ok (.iload_n 1, 1) := by decide +kernel
theorem dX9_faultOfDoubt_18 : decode cX9_faultOfDoubt 18 = .ok (.invokevirtual 267, 3) := by decide +kernel
theorem dX9_faultOfDoubt_21 : decode cX9_faultOfDoubt 21 = .ok (.iconst (-1), 1) := by decide +kernel
theorem dX9_faultOfDoubt_22 : decode cX9_faultOfDoubt 22 = .ok (.if_icmp .eq 19, 3) := by decide +kernel
theorem dX9_faultOfDoubt_25 : decode cX9_faultOfDoubt 25 = .ok (.aload_n 0, 1) := by decide +kernel
theorem dX9_faultOfDoubt_26 : decode cX9_faultOfDoubt 26 = .ok (.getfield 10, 3) := by decide +kernel
theorem dX9_faultOfDoubt_29 : decode cX9_faultOfDoubt 29 = .ok (.iload_n 1, 1) := by decide +kernel
theorem dX9_faultOfDoubt_30 : decode cX9_faultOfDoubt 30 = .ok (.iconst 0, 1) := by decide +kernel
theorem dX9_faultOfDoubt_31 : decode cX9_faultOfDoubt 31 = .ok (.invokevirtual 223, 3) := by decide +kernel
theorem dX9_faultOfDoubt_34 : decode cX9_faultOfDoubt 34 = .ok (.ifCond .le 7, 3) := by decide +kernel
theorem dX9_faultOfDoubt_37 : decode cX9_faultOfDoubt 37 = .ok (.iconst 1, 1) := by decide +kernel
theorem dX9_faultOfDoubt_38 : decode cX9_faultOfDoubt 38 = .ok (.goto 4, 3) := by decide +kernel
theorem dX9_faultOfDoubt_41 : decode cX9_faultOfDoubt 41 = .ok (.iconst 0, 1) := by decide +kernel
theorem dX9_faultOfDoubt_42 : decode cX9_faultOfDoubt 42 = .ok (.istore_n 2, 1) := by decide +kernel
theorem dX9_faultOfDoubt_43 : decode cX9_faultOfDoubt 43 = .ok (.iload_n 2, 1) := by decide +kernel
theorem dX9_faultOfDoubt_44 : decode cX9_faultOfDoubt 44 = .ok (.ifCond .eq 7, 3) := by decide +kernel
theorem dX9_faultOfDoubt_47 : decode cX9_faultOfDoubt 47 = .ok (.iconst 0, 1) := by decide +kernel
theorem dX9_faultOfDoubt_48 : decode cX9_faultOfDoubt 48 = .ok (.goto 4, 3) := by decide +kernel
theorem dX9_faultOfDoubt_51 : decode cX9_faultOfDoubt 51 = .ok (.iconst 3, 1) := by decide +kernel
theorem dX9_faultOfDoubt_52 : decode cX9_faultOfDoubt 52 = .ok (.ireturn, 1) := by decide +kernel
theorem dX9_faultOfSettle_0 : decode cX9_faultOfSettle 0 = .ok (.aload_n 0, 1) := by decide +kernel
theorem dX9_faultOfSettle_1 : decode cX9_faultOfSettle 1 = .ok (.getfield 10, 3) := by decide +kernel
theorem dX9_faultOfSettle_4 : decode cX9_faultOfSettle 4 = .ok (.iload_n 1, 1) := by decide +kernel
theorem dX9_faultOfSettle_5 : decode cX9_faultOfSettle 5 = .ok (.invokevirtual 137, 3) := by decide +kernel
theorem dX9_faultOfSettle_8 : decode cX9_faultOfSettle 8 = .ok (.ifCond .ne 5, 3) := by decide +kernel
theorem dX9_faultOfSettle_11 : decode cX9_faultOfSettle 11 = .ok (.iconst 1, 1) := by decide +kernel
theorem dX9_faultOfSettle_12 : decode cX9_faultOfSettle 12 = .ok (.ireturn, 1) := by decide +kernel
theorem dX9_faultOfSettle_13 : decode cX9_faultOfSettle 13 = .ok (.aload_n 0, 1) := by decide +kernel
theorem dX9_faultOfSettle_14 : decode cX9_faultOfSettle 14 = .ok (.getfield 10, 3) := by decide +kernel
theorem dX9_faultOfSettle_17 : decode cX9_faultOfSettle 17 = .ok (.iload_n 1, 1) := by decide +kernel
theorem dX9_faultOfSettle_18 : decode cX9_faultOfSettle 18 = .ok (.iload_n 2, 1) := by decide +kernel
theorem dX9_faultOfSettle_19 : decode cX9_faultOfSettle 19 = .ok (.invokevirtual 270, 3) := by decide +kernel
theorem dX9_faultOfSettle_22 : decode cX9_faultOfSettle 22 = .ok (.ifCond .eq 7, 3) := by decide +kernel
theorem dX9_faultOfSettle_25 : decode cX9_faultOfSettle 25 = .ok (.iconst 0, 1) := by decide +kernel
theorem dX9_faultOfSettle_26 : decode cX9_faultOfSettle 26 = .ok (.goto 4, 3) := by decide +kernel
theorem dX9_faultOfSettle_29 : decode cX9_faultOfSettle 29 = .ok (.iconst 3, 1) := by decide +kernel
theorem dX9_faultOfSettle_30 : decode cX9_faultOfSettle 30 = .ok (.ireturn, 1) := by decide +kernel
theorem dX9_faultOfCredit_0 : decode cX9_faultOfCredit 0 = .ok (.aload_n 0, 1) := by decide +kernel
theorem dX9_faultOfCredit_1 : decode cX9_faultOfCredit 1 = .ok (.getfield 10, 3) := by decide +kernel
theorem dX9_faultOfCredit_4 : decode cX9_faultOfCredit 4 = .ok (.iload_n 1, 1) := by decide +kernel
theorem dX9_faultOfCredit_5 : decode cX9_faultOfCredit 5 = .ok (.invokevirtual 137, 3) := by decide +kernel
theorem dX9_faultOfCredit_8 : decode cX9_faultOfCredit 8 = .ok (.ifCond .ne 5, 3) := by decide +kernel
theorem dX9_faultOfCredit_11 : decode cX9_faultOfCredit 11 = .ok (.iconst 1, 1) := by decide +kernel
theorem dX9_faultOfCredit_12 : decode cX9_faultOfCredit 12 = .ok (.ireturn, 1) := by decide +kernel
theorem dX9_faultOfCredit_13 : decode cX9_faultOfCredit 13 = .ok (.iload_n 2, 1) := by decide +kernel
theorem dX9_faultOfCredit_14 : decode cX9_faultOfCredit 14 = .ok (.invokestatic 143, 3) := by decide +kernel
theorem dX9_faultOfCredit_17 : decode cX9_faultOfCredit 17 = .ok (.ifCond .ne 5, 3) := by decide +kernel
theorem dX9_faultOfCredit_20 : decode cX9_faultOfCredit 20 = .ok (.iconst 2, 1) := by decide +kernel
theorem dX9_faultOfCredit_21 : decode cX9_faultOfCredit 21 = .ok (.ireturn, 1) := by decide +kernel
theorem dX9_faultOfCredit_22 : decode cX9_faultOfCredit 22 = .ok (.aload_n 0, 1) := by decide +kernel
theorem dX9_faultOfCredit_23 : decode cX9_faultOfCredit 23 = .ok (.getfield 10, 3) := by decide +kernel
theorem dX9_faultOfCredit_26 : decode cX9_faultOfCredit 26 = .ok (.iload_n 1, 1) := by decide +kernel
theorem dX9_faultOfCredit_27 : decode cX9_faultOfCredit 27 = .ok (.iload_n 2, 1) := by decide +kernel
theorem dX9_faultOfCredit_28 : decode cX9_faultOfCredit 28 = .ok (.iload_n 3, 1) := by decide +kernel
theorem dX9_faultOfCredit_29 : decode cX9_faultOfCredit 29 = .ok (.invokevirtual 274, 3) := by decide +kernel
theorem dX9_faultOfCredit_32 : decode cX9_faultOfCredit 32 = .ok (.ifCond .eq 7, 3) := by decide +kernel
theorem dX9_faultOfCredit_35 : decode cX9_faultOfCredit 35 = .ok (.iconst 0, 1) := by decide +kernel
theorem dX9_faultOfCredit_36 : decode cX9_faultOfCredit 36 = .ok (.goto 4, 3) := by decide +kernel
theorem dX9_faultOfCredit_39 : decode cX9_faultOfCredit 39 = .ok (.iconst 3, 1) := by decide +kernel
theorem dX9_faultOfCredit_40 : decode cX9_faultOfCredit 40 = .ok (.ireturn, 1) := by decide +kernel
theorem dX9_faultOfDays_0 : decode cX9_faultOfDays 0 = .ok (.iload_n 1, 1) := by decide +kernel
theorem dX9_faultOfDays_1 : decode cX9_faultOfDays 1 = .ok (.iconst 1, 1) := by decide +kernel
theorem dX9_faultOfDays_2 : decode cX9_faultOfDays 2 = .ok (.bipush 30, 2) := by decide +kernel
theorem dX9_faultOfDays_4 : decode cX9_faultOfDays 4 = .ok (.invokestatic 130, 3) := by decide +kernel
theorem dX9_faultOfDays_7 : decode cX9_faultOfDays 7 = .ok (.ifCond .ne 5, 3) := by decide +kernel
theorem dX9_faultOfDays_10 : decode cX9_faultOfDays 10 = .ok (.iconst 2, 1) := by decide +kernel
theorem dX9_faultOfDays_11 : decode cX9_faultOfDays 11 = .ok (.ireturn, 1) := by decide +kernel
theorem dX9_faultOfDays_12 : decode cX9_faultOfDays 12 = .ok (.aload_n 0, 1) := by decide +kernel
theorem dX9_faultOfDays_13 : decode cX9_faultOfDays 13 = .ok (.getfield 10, 3) := by decide +kernel
theorem dX9_faultOfDays_16 : decode cX9_faultOfDays 16 = .ok (.getfield 277, 3) := by decide +kernel
theorem dX9_faultOfDays_19 : decode cX9_faultOfDays 19 = .ok (.iload_n 1, 1) := by decide +kernel
theorem dX9_faultOfDays_20 : decode cX9_faultOfDays 20 = .ok (.iadd, 1) := by decide +kernel
theorem dX9_faultOfDays_21 : decode cX9_faultOfDays 21 = .ok (.sipush 9999, 3) := by decide +kernel
theorem dX9_faultOfDays_24 : decode cX9_faultOfDays 24 = .ok (.if_icmp .gt 7, 3) := by decide +kernel
theorem dX9_faultOfDays_27 : decode cX9_faultOfDays 27 = .ok (.iconst 0, 1) := by decide +kernel
theorem dX9_faultOfDays_28 : decode cX9_faultOfDays 28 = .ok (.goto 4, 3) := by decide +kernel
theorem dX9_faultOfDays_31 : decode cX9_faultOfDays 31 = .ok (.iconst 3, 1) := by decide +kernel
theorem dX9_faultOfDays_32 : decode cX9_faultOfDays 32 = .ok (.ireturn, 1) := by decide +kernel
theorem dX9_faultOfPair_0 : decode cX9_faultOfPair 0 = .ok (.aload_n 0, 1) := by decide +kernel
theorem dX9_faultOfPair_1 : decode cX9_faultOfPair 1 = .ok (.getfield 10, 3) := by decide +kernel
theorem dX9_faultOfPair_4 : decode cX9_faultOfPair 4 = .ok (.iload_n 1, 1) := by decide +kernel
theorem dX9_faultOfPair_5 : decode cX9_faultOfPair 5 = .ok (.invokevirtual 137, 3) := by decide +kernel
theorem dX9_faultOfPair_8 : decode cX9_faultOfPair 8 = .ok (.ifCond .eq 18, 3) := by decide +kernel
theorem dX9_faultOfPair_11 : decode cX9_faultOfPair 11 = .ok (.aload_n 0, 1) := by decide +kernel
theorem dX9_faultOfPair_12 : decode cX9_faultOfPair 12 = .ok (.getfield 10, 3) := by decide +kernel
theorem dX9_faultOfPair_15 : decode cX9_faultOfPair 15 = .ok (.iload_n 2, 1) := by decide +kernel
theorem dX9_faultOfPair_16 : decode cX9_faultOfPair 16 = .ok (.invokevirtual 126, 3) := by decide +kernel
theorem dX9_faultOfPair_19 : decode cX9_faultOfPair 19 = .ok (.ifCond .eq 7, 3) := by decide +kernel
theorem dX9_faultOfPair_22 : decode cX9_faultOfPair 22 = .ok (.iconst 0, 1) := by decide +kernel
theorem dX9_faultOfPair_23 : decode cX9_faultOfPair 23 = .ok (.goto 4, 3) := by decide +kernel
theorem dX9_faultOfPair_26 : decode cX9_faultOfPair 26 = .ok (.iconst 1, 1) := by decide +kernel
theorem dX9_faultOfPair_27 : decode cX9_faultOfPair 27 = .ok (.ireturn, 1) := by decide +kernel
theorem dX9_faultOfMove_0 : decode cX9_faultOfMove 0 = .ok (.aload_n 0, 1) := by decide +kernel
theorem dX9_faultOfMove_1 : decode cX9_faultOfMove 1 = .ok (.iload_n 1, 1) := by decide +kernel
theorem dX9_faultOfMove_2 : decode cX9_faultOfMove 2 = .ok (.iload_n 2, 1) := by decide +kernel
theorem dX9_faultOfMove_3 : decode cX9_faultOfMove 3 = .ok (.invokevirtual 120, 3) := by decide +kernel
theorem dX9_faultOfMove_6 : decode cX9_faultOfMove 6 = .ok (.ifCond .eq 5, 3) := by decide +kernel
theorem dX9_faultOfMove_9 : decode cX9_faultOfMove 9 = .ok (.iconst 1, 1) := by decide +kernel
theorem dX9_faultOfMove_10 : decode cX9_faultOfMove 10 = .ok (.ireturn, 1) := by decide +kernel
theorem dX9_faultOfMove_11 : decode cX9_faultOfMove 11 = .ok (.aload_n 0, 1) := by decide +kernel
theorem dX9_faultOfMove_12 : decode cX9_faultOfMove 12 = .ok (.getfield 10, 3) := by decide +kernel
theorem dX9_faultOfMove_15 : decode cX9_faultOfMove 15 = .ok (.iload_n 1, 1) := by decide +kernel
theorem dX9_faultOfMove_16 : decode cX9_faultOfMove 16 = .ok (.iload_n 2, 1) := by decide +kernel
theorem dX9_faultOfMove_17 : decode cX9_faultOfMove 17 = .ok (.invokevirtual 123, 3) := by decide +kernel
theorem dX9_faultOfMove_20 : decode cX9_faultOfMove 20 = .ok (.ifCond .ne 7, 3) := by decide +kernel
theorem dX9_faultOfMove_23 : decode cX9_faultOfMove 23 = .ok (.iconst 0, 1) := by decide +kernel
theorem dX9_faultOfMove_24 : decode cX9_faultOfMove 24 = .ok (.goto 4, 3) := by decide +kernel
theorem dX9_faultOfMove_27 : decode cX9_faultOfMove 27 = .ok (.iconst 3, 1) := by decide +kernel
theorem dX9_faultOfMove_28 : decode cX9_faultOfMove 28 = .ok (.ireturn, 1) := by decide +kernel
theorem dX9_faultOfLeave_0 : decode cX9_faultOfLeave 0 = .ok (.aload_n 0, 1) := by decide +kernel
theorem dX9_faultOfLeave_1 : decode cX9_faultOfLeave 1 = .ok (.getfield 10, 3) := by decide +kernel
theorem dX9_faultOfLeave_4 : decode cX9_faultOfLeave 4 = .ok (.iload_n 1, 1) := by decide +kernel
theorem dX9_faultOfLeave_5 : decode cX9_faultOfLeave 5 = .ok (.invokevirtual 137, 3) := by decide +kernel
theorem dX9_faultOfLeave_8 : decode cX9_faultOfLeave 8 = .ok (.ifCond .ne 5, 3) := by decide +kernel
theorem dX9_faultOfLeave_11 : decode cX9_faultOfLeave 11 = .ok (.iconst 1, 1) := by decide +kernel
theorem dX9_faultOfLeave_12 : decode cX9_faultOfLeave 12 = .ok (.ireturn, 1) := by decide +kernel
theorem dX9_faultOfLeave_13 : decode cX9_faultOfLeave 13 = .ok (.aload_n 0, 1) := by decide +kernel
theorem dX9_faultOfLeave_14 : decode cX9_faultOfLeave 14 = .ok (.getfield 10, 3) := by decide +kernel
theorem dX9_faultOfLeave_17 : decode cX9_faultOfLeave 17 = .ok (.iload_n 1, 1) := by decide +kernel
theorem dX9_faultOfLeave_18 : decode cX9_faultOfLeave 18 = .ok (.invokevirtual 267, 3) := by decide +kernel
theorem dX9_faultOfLeave_21 : decode cX9_faultOfLeave 21 = .ok (.iconst (-1), 1) := by decide +kernel
theorem dX9_faultOfLeave_22 : decode cX9_faultOfLeave 22 = .ok (.if_icmp .eq 7, 3) := by decide +kernel
theorem dX9_faultOfLeave_25 : decode cX9_faultOfLeave 25 = .ok (.iconst 0, 1) := by decide +kernel
theorem dX9_faultOfLeave_26 : decode cX9_faultOfLeave 26 = .ok (.goto 4, 3) := by decide +kernel
theorem dX9_faultOfLeave_29 : decode cX9_faultOfLeave 29 = .ok (.iconst 3, 1) := by decide +kernel
theorem dX9_faultOfLeave_30 : decode cX9_faultOfLeave 30 = .ok (.ireturn, 1) := by decide +kernel
theorem dX9_faultOfExchange_0 : decode cX9_faultOfExchange 0 = .ok (.aload_n 0, 1) := by decide +kernel
theorem dX9_faultOfExchange_1 : decode cX9_faultOfExchange 1 = .ok (.getfield 10, 3) := by decide +kernel
theorem dX9_faultOfExchange_4 : decode cX9_faultOfExchange 4 = .ok (.iload_n 1, 1) := by decide +kernel
theorem dX9_faultOfExchange_5 : decode cX9_faultOfExchange 5 = .ok (.invokevirtual 137, 3) := by decide +kernel
theorem dX9_faultOfExchange_8 : decode cX9_faultOfExchange 8 = .ok (.ifCond .eq 14, 3) := by decide +kernel
theorem dX9_faultOfExchange_11 : decode cX9_faultOfExchange 11 = .ok (.aload_n 0, 1) := by decide +kernel
theorem dX9_faultOfExchange_12 : decode cX9_faultOfExchange 12 = .ok (.getfield 10, 3) := by decide +kernel
theorem dX9_faultOfExchange_15 : decode cX9_faultOfExchange 15 = .ok (.iload_n 2, 1) := by decide +kernel
theorem dX9_faultOfExchange_16 : decode cX9_faultOfExchange 16 = .ok (.invokevirtual 137, 3) := by decide +kernel
theorem dX9_faultOfExchange_19 : decode cX9_faultOfExchange 19 = .ok (.ifCond .ne 5, 3) := by decide +kernel
theorem dX9_faultOfExchange_22 : decode cX9_faultOfExchange 22 = .ok (.iconst 1, 1) := by decide +kernel
theorem dX9_faultOfExchange_23 : decode cX9_faultOfExchange 23 = .ok (.ireturn, 1) := by decide +kernel
theorem dX9_faultOfExchange_24 : decode cX9_faultOfExchange 24 = .ok (.iload_n 1, 1) := by decide +kernel
theorem dX9_faultOfExchange_25 : decode cX9_faultOfExchange 25 = .ok (.iload_n 2, 1) := by decide +kernel
theorem dX9_faultOfExchange_26 : decode cX9_faultOfExchange 26 = .ok (.if_icmp .ne 5, 3) := by decide +kernel
theorem dX9_faultOfExchange_29 : decode cX9_faultOfExchange 29 = .ok (.iconst 2, 1) := by decide +kernel
theorem dX9_faultOfExchange_30 : decode cX9_faultOfExchange 30 = .ok (.ireturn, 1) := by decide +kernel
theorem dX9_faultOfExchange_31 : decode cX9_faultOfExchange 31 = .ok (.aload_n 0, 1) := by decide +kernel
theorem dX9_faultOfExchange_32 : decode cX9_faultOfExchange 32 = .ok (.getfield 10, 3) := by decide +kernel
theorem dX9_faultOfExchange_35 : decode cX9_faultOfExchange 35 = .ok (.iload_n 1, 1) := by decide +kernel
theorem dX9_faultOfExchange_36 : decode cX9_faultOfExchange 36 = .ok (.iload_n 2, 1) := by decide +kernel
theorem dX9_faultOfExchange_37 : decode cX9_faultOfExchange 37 = .ok (.invokevirtual 162, 3) := by decide +kernel
theorem dX9_faultOfExchange_40 : decode cX9_faultOfExchange 40 = .ok (.ifCond .eq 7, 3) := by decide +kernel
theorem dX9_faultOfExchange_43 : decode cX9_faultOfExchange 43 = .ok (.iconst 0, 1) := by decide +kernel
theorem dX9_faultOfExchange_44 : decode cX9_faultOfExchange 44 = .ok (.goto 4, 3) := by decide +kernel
theorem dX9_faultOfExchange_47 : decode cX9_faultOfExchange 47 = .ok (.iconst 3, 1) := by decide +kernel
theorem dX9_faultOfExchange_48 : decode cX9_faultOfExchange 48 = .ok (.ireturn, 1) := by decide +kernel
theorem dJ9_max_7cf53_0 : decode cJ9_max_7cf53 0 = .ok (.iload_n 0, 1) := by decide +kernel
theorem dJ9_max_7cf53_1 : decode cJ9_max_7cf53 1 = .ok (.iload_n 1, 1) := by decide +kernel
theorem dJ9_max_7cf53_2 : decode cJ9_max_7cf53 2 = .ok (.if_icmp .lt 7, 3) := by decide +kernel
theorem dJ9_max_7cf53_5 : decode cJ9_max_7cf53 5 = .ok (.iload_n 0, 1) := by decide +kernel
theorem dJ9_max_7cf53_6 : decode cJ9_max_7cf53 6 = .ok (.goto 4, 3) := by decide +kernel
theorem dJ9_max_7cf53_9 : decode cJ9_max_7cf53 9 = .ok (.iload_n 1, 1) := by decide +kernel
theorem dJ9_max_7cf53_10 : decode cJ9_max_7cf53 10 = .ok (.ireturn, 1) := by decide +kernel
theorem dJ9_min_7cf53_0 : decode cJ9_min_7cf53 0 = .ok (.iload_n 0, 1) := by decide +kernel
theorem dJ9_min_7cf53_1 : decode cJ9_min_7cf53 1 = .ok (.iload_n 1, 1) := by decide +kernel
theorem dJ9_min_7cf53_2 : decode cJ9_min_7cf53 2 = .ok (.if_icmp .gt 7, 3) := by decide +kernel
theorem dJ9_min_7cf53_5 : decode cJ9_min_7cf53 5 = .ok (.iload_n 0, 1) := by decide +kernel
theorem dJ9_min_7cf53_6 : decode cJ9_min_7cf53 6 = .ok (.goto 4, 3) := by decide +kernel
theorem dJ9_min_7cf53_9 : decode cJ9_min_7cf53 9 = .ok (.iload_n 1, 1) := by decide +kernel
theorem dJ9_min_7cf53_10 : decode cJ9_min_7cf53 10 = .ok (.ireturn, 1) := by decide +kernel
theorem dL_cell_0 : decode cL_cell 0 = .ok (.iload_n 1, 1) := by decide +kernel
theorem dL_cell_1 : decode cL_cell 1 = .ok (.aload_n 0, 1) := by decide +kernel
theorem dL_cell_2 : decode cL_cell 2 = .ok (.arraylength, 1) := by decide +kernel
theorem dL_cell_3 : decode cL_cell 3 = .ok (.if_icmp .ge 9, 3) := by decide +kernel
theorem dL_cell_6 : decode cL_cell 6 = .ok (.aload_n 0, 1) := by decide +kernel
theorem dL_cell_7 : decode cL_cell 7 = .ok (.iload_n 1, 1) := by decide +kernel
theorem dL_cell_8 : decode cL_cell 8 = .ok (.iaload, 1) := by decide +kernel
theorem dL_cell_9 : decode cL_cell 9 = .ok (.goto 9, 3) := by decide +kernel
theorem dL_cell_12 : decode cL_cell 12 = .ok (.ldc 7, 2) := by decide +kernel
theorem dL_cell_14 : decode cL_cell 14 = .ok (.iload_n 1, 1) := by decide +kernel
theorem dL_cell_15 : decode cL_cell 15 = .ok (.iconst 3, 1) := by decide +kernel
theorem dL_cell_16 : decode cL_cell 16 = .ok (.iadd, 1) := by decide +kernel
theorem dL_cell_17 : decode cL_cell 17 = .ok (.imul, 1) := by decide +kernel
theorem dL_cell_18 : decode cL_cell 18 = .ok (.istore_n 2, 1) := by decide +kernel
theorem dL_cell_19 : decode cL_cell 19 = .ok (.iload_n 2, 1) := by decide +kernel
theorem dL_cell_20 : decode cL_cell 20 = .ok (.iload_n 2, 1) := by decide +kernel
theorem dL_cell_21 : decode cL_cell 21 = .ok (.bipush 15, 2) := by decide +kernel
theorem dL_cell_23 : decode cL_cell 23 = .ok (.iushr, 1) := by decide +kernel
theorem dL_cell_24 : decode cL_cell 24 = .ok (.ixor, 1) := by decide +kernel
theorem dL_cell_25 : decode cL_cell 25 = .ok (.ireturn, 1) := by decide +kernel
theorem dL_low_0 : decode cL_low 0 = .ok (.iload_n 0, 1) := by decide +kernel
theorem dL_low_1 : decode cL_low 1 = .ok (.ldc 8, 2) := by decide +kernel
theorem dL_low_3 : decode cL_low 3 = .ok (.iand, 1) := by decide +kernel
theorem dL_low_4 : decode cL_low 4 = .ok (.iload_n 1, 1) := by decide +kernel
theorem dL_low_5 : decode cL_low 5 = .ok (.irem, 1) := by decide +kernel
theorem dL_low_6 : decode cL_low 6 = .ok (.ireturn, 1) := by decide +kernel
theorem dL_trade_0 : decode cL_trade 0 = .ok (.aload_n 0, 1) := by decide +kernel
theorem dL_trade_1 : decode cL_trade 1 = .ok (.iload_n 1, 1) := by decide +kernel
theorem dL_trade_2 : decode cL_trade 2 = .ok (.iload_n 2, 1) := by decide +kernel
theorem dL_trade_3 : decode cL_trade 3 = .ok (.iload_n 3, 1) := by decide +kernel
theorem dL_trade_4 : decode cL_trade 4 = .ok (.invokevirtual 9, 3) := by decide +kernel
theorem dL_trade_7 : decode cL_trade 7 = .ok (.ireturn, 1) := by decide +kernel
theorem dL_trade_8 : decode cL_trade 8 = .ok (.astore 4, 2) := by decide +kernel
theorem dL_trade_10 : decode cL_trade 10 = .ok (.ldc 17, 2) := by decide +kernel
theorem dL_trade_12 : decode cL_trade 12 = .ok (.ireturn, 1) := by decide +kernel
theorem dL_trade_13 : decode cL_trade 13 = .ok (.astore 4, 2) := by decide +kernel
theorem dL_trade_15 : decode cL_trade 15 = .ok (.ldc 20, 2) := by decide +kernel
theorem dL_trade_17 : decode cL_trade 17 = .ok (.ireturn, 1) := by decide +kernel
theorem dL_mentors_0 : decode cL_mentors 0 = .ok (.aload_n 0, 1) := by decide +kernel
theorem dL_mentors_1 : decode cL_mentors 1 = .ok (.iload_n 1, 1) := by decide +kernel
theorem dL_mentors_2 : decode cL_mentors 2 = .ok (.iload_n 2, 1) := by decide +kernel
theorem dL_mentors_3 : decode cL_mentors 3 = .ok (.invokevirtual 21, 3) := by decide +kernel
theorem dL_mentors_6 : decode cL_mentors 6 = .ok (.ireturn, 1) := by decide +kernel
theorem dL_mentors_7 : decode cL_mentors 7 = .ok (.astore_n 3, 1) := by decide +kernel
theorem dL_mentors_8 : decode cL_mentors 8 = .ok (.ldc 17, 2) := by decide +kernel
theorem dL_mentors_10 : decode cL_mentors 10 = .ok (.ireturn, 1) := by decide +kernel
theorem dL_mentors_11 : decode cL_mentors 11 = .ok (.astore_n 3, 1) := by decide +kernel
theorem dL_mentors_12 : decode cL_mentors 12 = .ok (.ldc 20, 2) := by decide +kernel
theorem dL_mentors_14 : decode cL_mentors 14 = .ok (.ireturn, 1) := by decide +kernel
theorem dL_pupil_0 : decode cL_pupil 0 = .ok (.aload_n 0, 1) := by decide +kernel
theorem dL_pupil_1 : decode cL_pupil 1 = .ok (.iload_n 1, 1) := by decide +kernel
theorem dL_pupil_2 : decode cL_pupil 2 = .ok (.iload_n 2, 1) := by decide +kernel
theorem dL_pupil_3 : decode cL_pupil 3 = .ok (.invokevirtual 25, 3) := by decide +kernel
theorem dL_pupil_6 : decode cL_pupil 6 = .ok (.ireturn, 1) := by decide +kernel
theorem dL_pupil_7 : decode cL_pupil 7 = .ok (.astore_n 3, 1) := by decide +kernel
theorem dL_pupil_8 : decode cL_pupil 8 = .ok (.ldc 30, 2) := by decide +kernel
theorem dL_pupil_10 : decode cL_pupil 10 = .ok (.ireturn, 1) := by decide +kernel
theorem dL_pupil_11 : decode cL_pupil 11 = .ok (.astore_n 3, 1) := by decide +kernel
theorem dL_pupil_12 : decode cL_pupil 12 = .ok (.ldc 20, 2) := by decide +kernel
theorem dL_pupil_14 : decode cL_pupil 14 = .ok (.ireturn, 1) := by decide +kernel
theorem dL_frees_0 : decode cL_frees 0 = .ok (.aload_n 0, 1) := by decide +kernel
theorem dL_frees_1 : decode cL_frees 1 = .ok (.iload_n 1, 1) := by decide +kernel
theorem dL_frees_2 : decode cL_frees 2 = .ok (.iload_n 2, 1) := by decide +kernel
theorem dL_frees_3 : decode cL_frees 3 = .ok (.invokevirtual 31, 3) := by decide +kernel
theorem dL_frees_6 : decode cL_frees 6 = .ok (.ireturn, 1) := by decide +kernel
theorem dL_frees_7 : decode cL_frees 7 = .ok (.astore_n 3, 1) := by decide +kernel
theorem dL_frees_8 : decode cL_frees 8 = .ok (.ldc 30, 2) := by decide +kernel
theorem dL_frees_10 : decode cL_frees 10 = .ok (.ireturn, 1) := by decide +kernel
theorem dL_frees_11 : decode cL_frees 11 = .ok (.astore_n 3, 1) := by decide +kernel
theorem dL_frees_12 : decode cL_frees 12 = .ok (.ldc 17, 2) := by decide +kernel
theorem dL_frees_14 : decode cL_frees 14 = .ok (.ireturn, 1) := by decide +kernel
theorem dL_frees_15 : decode cL_frees 15 = .ok (.astore_n 3, 1) := by decide +kernel
theorem dL_frees_16 : decode cL_frees 16 = .ok (.ldc 20, 2) := by decide +kernel
theorem dL_frees_18 : decode cL_frees 18 = .ok (.ireturn, 1) := by decide +kernel
theorem dL_logs_0 : decode cL_logs 0 = .ok (.aload_n 0, 1) := by decide +kernel
theorem dL_logs_1 : decode cL_logs 1 = .ok (.iload_n 1, 1) := by decide +kernel
theorem dL_logs_2 : decode cL_logs 2 = .ok (.iload_n 2, 1) := by decide +kernel
theorem dL_logs_3 : decode cL_logs 3 = .ok (.iload_n 3, 1) := by decide +kernel
theorem dL_logs_4 : decode cL_logs 4 = .ok (.invokevirtual 34, 3) := by decide +kernel
theorem dL_logs_7 : decode cL_logs 7 = .ok (.ireturn, 1) := by decide +kernel
theorem dL_logs_8 : decode cL_logs 8 = .ok (.astore 4, 2) := by decide +kernel
theorem dL_logs_10 : decode cL_logs 10 = .ok (.ldc 30, 2) := by decide +kernel
theorem dL_logs_12 : decode cL_logs 12 = .ok (.ireturn, 1) := by decide +kernel
theorem dL_logs_13 : decode cL_logs 13 = .ok (.astore 4, 2) := by decide +kernel
theorem dL_logs_15 : decode cL_logs 15 = .ok (.ldc 17, 2) := by decide +kernel
theorem dL_logs_17 : decode cL_logs 17 = .ok (.ireturn, 1) := by decide +kernel
theorem dL_logs_18 : decode cL_logs 18 = .ok (.astore 4, 2) := by decide +kernel
theorem dL_logs_20 : decode cL_logs 20 = .ok (.ldc 20, 2) := by decide +kernel
theorem dL_logs_22 : decode cL_logs 22 = .ok (.ireturn, 1) := by decide +kernel
theorem dL_confirms_0 : decode cL_confirms 0 = .ok (.aload_n 0, 1) := by decide +kernel
theorem dL_confirms_1 : decode cL_confirms 1 = .ok (.iload_n 1, 1) := by decide +kernel
theorem dL_confirms_2 : decode cL_confirms 2 = .ok (.iload_n 2, 1) := by decide +kernel
theorem dL_confirms_3 : decode cL_confirms 3 = .ok (.invokevirtual 37, 3) := by decide +kernel
theorem dL_confirms_6 : decode cL_confirms 6 = .ok (.ireturn, 1) := by decide +kernel
theorem dL_confirms_7 : decode cL_confirms 7 = .ok (.astore_n 3, 1) := by decide +kernel
theorem dL_confirms_8 : decode cL_confirms 8 = .ok (.ldc 30, 2) := by decide +kernel
theorem dL_confirms_10 : decode cL_confirms 10 = .ok (.ireturn, 1) := by decide +kernel
theorem dL_confirms_11 : decode cL_confirms 11 = .ok (.astore_n 3, 1) := by decide +kernel
theorem dL_confirms_12 : decode cL_confirms 12 = .ok (.ldc 17, 2) := by decide +kernel
theorem dL_confirms_14 : decode cL_confirms 14 = .ok (.ireturn, 1) := by decide +kernel
theorem dL_confirms_15 : decode cL_confirms 15 = .ok (.astore_n 3, 1) := by decide +kernel
theorem dL_confirms_16 : decode cL_confirms 16 = .ok (.ldc 20, 2) := by decide +kernel
theorem dL_confirms_18 : decode cL_confirms 18 = .ok (.ireturn, 1) := by decide +kernel
theorem dL_doubts_0 : decode cL_doubts 0 = .ok (.aload_n 0, 1) := by decide +kernel
theorem dL_doubts_1 : decode cL_doubts 1 = .ok (.iload_n 1, 1) := by decide +kernel
theorem dL_doubts_2 : decode cL_doubts 2 = .ok (.invokevirtual 40, 3) := by decide +kernel
theorem dL_doubts_5 : decode cL_doubts 5 = .ok (.ireturn, 1) := by decide +kernel
theorem dL_doubts_6 : decode cL_doubts 6 = .ok (.astore_n 2, 1) := by decide +kernel
theorem dL_doubts_7 : decode cL_doubts 7 = .ok (.ldc 30, 2) := by decide +kernel
theorem dL_doubts_9 : decode cL_doubts 9 = .ok (.ireturn, 1) := by decide +kernel
theorem dL_doubts_10 : decode cL_doubts 10 = .ok (.astore_n 2, 1) := by decide +kernel
theorem dL_doubts_11 : decode cL_doubts 11 = .ok (.ldc 20, 2) := by decide +kernel
theorem dL_doubts_13 : decode cL_doubts 13 = .ok (.ireturn, 1) := by decide +kernel
theorem dL_settles_0 : decode cL_settles 0 = .ok (.aload_n 0, 1) := by decide +kernel
