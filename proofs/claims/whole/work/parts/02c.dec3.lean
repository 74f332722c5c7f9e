theorem dX9_withApprentice_3 : decode cX9_withApprentice 3 = .ok (.iconst 0, 1) := by decide +kernel
theorem dX9_withApprentice_4 : decode cX9_withApprentice 4 = .ok (.istore 6, 2) := by decide +kernel
theorem dX9_withApprentice_6 : decode cX9_withApprentice 6 = .ok (.iload 6, 2) := by decide +kernel
theorem dX9_withApprentice_8 : decode cX9_withApprentice 8 = .ok (.bipush 12, 2) := by decide +kernel
theorem dX9_withApprentice_10 : decode cX9_withApprentice 10 = .ok (.if_icmp .ge 26, 3) := by decide +kernel
theorem dX9_withApprentice_13 : decode cX9_withApprentice 13 = .ok (.lload 4, 2) := by decide +kernel
theorem dX9_withApprentice_15 : decode cX9_withApprentice 15 = .ok (.aload_n 0, 1) := by decide +kernel
theorem dX9_withApprentice_16 : decode cX9_withApprentice 16 = .ok (.getfield 10, 3) := by decide +kernel
theorem dX9_withApprentice_19 : decode cX9_withApprentice 19 = .ok (.iload_n 3, 1) := by decide +kernel
theorem dX9_withApprentice_20 : decode cX9_withApprentice 20 = .ok (.iload 6, 2) := by decide +kernel
theorem dX9_withApprentice_22 : decode cX9_withApprentice 22 = .ok (.invokevirtual 140, 3) := by decide +kernel
theorem dX9_withApprentice_25 : decode cX9_withApprentice 25 = .ok (.invokestatic 204, 3) := by decide +kernel
theorem dX9_withApprentice_28 : decode cX9_withApprentice 28 = .ok (.lstore 4, 2) := by decide +kernel
theorem dX9_withApprentice_30 : decode cX9_withApprentice 30 = .ok (.iinc 6 1, 3) := by decide +kernel
theorem dX9_withApprentice_33 : decode cX9_withApprentice 33 = .ok (.goto (-27), 3) := by decide +kernel
theorem dX9_withApprentice_36 : decode cX9_withApprentice 36 = .ok (.iconst 0, 1) := by decide +kernel
theorem dX9_withApprentice_37 : decode cX9_withApprentice 37 = .ok (.istore 6, 2) := by decide +kernel
theorem dX9_withApprentice_39 : decode cX9_withApprentice 39 = .ok (.iload 6, 2) := by decide +kernel
theorem dX9_withApprentice_41 : decode cX9_withApprentice 41 = .ok (.iconst 3, 1) := by decide +kernel
theorem dX9_withApprentice_42 : decode cX9_withApprentice 42 = .ok (.if_icmp .ge 43, 3) := by decide +kernel
theorem dX9_withApprentice_45 : decode cX9_withApprentice 45 = .ok (.iconst 0, 1) := by decide +kernel
theorem dX9_withApprentice_46 : decode cX9_withApprentice 46 = .ok (.istore 7, 2) := by decide +kernel
theorem dX9_withApprentice_48 : decode cX9_withApprentice 48 = .ok (.iload 7, 2) := by decide +kernel
theorem dX9_withApprentice_50 : decode cX9_withApprentice 50 = .ok (.iconst 5, 1) := by decide +kernel
theorem dX9_withApprentice_51 : decode cX9_withApprentice 51 = .ok (.if_icmp .ge 28, 3) := by decide +kernel
theorem dX9_withApprentice_54 : decode cX9_withApprentice 54 = .ok (.lload 4, 2) := by decide +kernel
theorem dX9_withApprentice_56 : decode cX9_withApprentice 56 = .ok (.aload_n 0, 1) := by decide +kernel
theorem dX9_withApprentice_57 : decode cX9_withApprentice 57 = .ok (.getfield 10, 3) := by decide +kernel
theorem dX9_withApprentice_60 : decode cX9_withApprentice 60 = .ok (.iload_n 3, 1) := by decide +kernel
theorem dX9_withApprentice_61 : decode cX9_withApprentice 61 = .ok (.iload 6, 2) := by decide +kernel
theorem dX9_withApprentice_63 : decode cX9_withApprentice 63 = .ok (.iload 7, 2) := by decide +kernel
theorem dX9_withApprentice_65 : decode cX9_withApprentice 65 = .ok (.invokevirtual 146, 3) := by decide +kernel
theorem dX9_withApprentice_68 : decode cX9_withApprentice 68 = .ok (.invokestatic 204, 3) := by decide +kernel
theorem dX9_withApprentice_71 : decode cX9_withApprentice 71 = .ok (.lstore 4, 2) := by decide +kernel
theorem dX9_withApprentice_73 : decode cX9_withApprentice 73 = .ok (.iinc 7 1, 3) := by decide +kernel
theorem dX9_withApprentice_76 : decode cX9_withApprentice 76 = .ok (.goto (-28), 3) := by decide +kernel
theorem dX9_withApprentice_79 : decode cX9_withApprentice 79 = .ok (.iinc 6 1, 3) := by decide +kernel
theorem dX9_withApprentice_82 : decode cX9_withApprentice 82 = .ok (.goto (-43), 3) := by decide +kernel
theorem dX9_withApprentice_85 : decode cX9_withApprentice 85 = .ok (.aload_n 0, 1) := by decide +kernel
theorem dX9_withApprentice_86 : decode cX9_withApprentice 86 = .ok (.lload 4, 2) := by decide +kernel
theorem dX9_withApprentice_88 : decode cX9_withApprentice 88 = .ok (.iload_n 3, 1) := by decide +kernel
theorem dX9_withApprentice_89 : decode cX9_withApprentice 89 = .ok (.iconst 0, 1) := by decide +kernel
theorem dX9_withApprentice_90 : decode cX9_withApprentice 90 = .ok (.invokevirtual 219, 3) := by decide +kernel
theorem dX9_withApprentice_93 : decode cX9_withApprentice 93 = .ok (.lstore 4, 2) := by decide +kernel
theorem dX9_withApprentice_95 : decode cX9_withApprentice 95 = .ok (.aload_n 0, 1) := by decide +kernel
theorem dX9_withApprentice_96 : decode cX9_withApprentice 96 = .ok (.lload 4, 2) := by decide +kernel
theorem dX9_withApprentice_98 : decode cX9_withApprentice 98 = .ok (.iload_n 3, 1) := by decide +kernel
theorem dX9_withApprentice_99 : decode cX9_withApprentice 99 = .ok (.iconst 1, 1) := by decide +kernel
theorem dX9_withApprentice_100 : decode cX9_withApprentice 100 = .ok (.invokevirtual 219, 3) := by decide +kernel
theorem dX9_withApprentice_103 : decode cX9_withApprentice 103 = .ok (.lstore 4, 2) := by decide +kernel
theorem dX9_withApprentice_105 : decode cX9_withApprentice 105 = .ok (.lload 4, 2) := by decide +kernel
theorem dX9_withApprentice_107 : decode cX9_withApprentice 107 = .ok (.aload_n 0, 1) := by decide +kernel
theorem dX9_withApprentice_108 : decode cX9_withApprentice 108 = .ok (.getfield 10, 3) := by decide +kernel
theorem dX9_withApprentice_111 : decode cX9_withApprentice 111 = .ok (.iload_n 3, 1) := by decide +kernel
theorem dX9_withApprentice_112 : decode cX9_withApprentice 112 = .ok (.invokevirtual 159, 3) := by decide +kernel
theorem dX9_withApprentice_115 : decode cX9_withApprentice 115 = .ok (.invokestatic 204, 3) := by decide +kernel
theorem dX9_withApprentice_118 : decode cX9_withApprentice 118 = .ok (.lstore 4, 2) := by decide +kernel
theorem dX9_withApprentice_120 : decode cX9_withApprentice 120 = .ok (.lload 4, 2) := by decide +kernel
theorem dX9_withApprentice_122 : decode cX9_withApprentice 122 = .ok (.aload_n 0, 1) := by decide +kernel
theorem dX9_withApprentice_123 : decode cX9_withApprentice 123 = .ok (.getfield 10, 3) := by decide +kernel
theorem dX9_withApprentice_126 : decode cX9_withApprentice 126 = .ok (.iload_n 3, 1) := by decide +kernel
theorem dX9_withApprentice_127 : decode cX9_withApprentice 127 = .ok (.iconst 0, 1) := by decide +kernel
theorem dX9_withApprentice_128 : decode cX9_withApprentice 128 = .ok (.invokevirtual 169, 3) := by decide +kernel
theorem dX9_withApprentice_131 : decode cX9_withApprentice 131 = .ok (.invokestatic 204, 3) := by decide +kernel
theorem dX9_withApprentice_134 : decode cX9_withApprentice 134 = .ok (.lreturn, 1) := by decide +kernel
theorem dX9_withEntries_0 : decode cX9_withEntries 0 = .ok (.lload_n 1, 1) := by decide +kernel
theorem dX9_withEntries_1 : decode cX9_withEntries 1 = .ok (.lstore 5, 2) := by decide +kernel
theorem dX9_withEntries_3 : decode cX9_withEntries 3 = .ok (.aload_n 0, 1) := by decide +kernel
theorem dX9_withEntries_4 : decode cX9_withEntries 4 = .ok (.getfield 10, 3) := by decide +kernel
theorem dX9_withEntries_7 : decode cX9_withEntries 7 = .ok (.iload_n 3, 1) := by decide +kernel
theorem dX9_withEntries_8 : decode cX9_withEntries 8 = .ok (.iload 4, 2) := by decide +kernel
theorem dX9_withEntries_10 : decode cX9_withEntries 10 = .ok (.invokevirtual 223, 3) := by decide +kernel
theorem dX9_withEntries_13 : decode cX9_withEntries 13 = .ok (.istore 7, 2) := by decide +kernel
theorem dX9_withEntries_15 : decode cX9_withEntries 15 = .ok (.iconst 0, 1) := by decide +kernel
theorem dX9_withEntries_16 : decode cX9_withEntries 16 = .ok (.istore 8, 2) := by decide +kernel
theorem dX9_withEntries_18 : decode cX9_withEntries 18 = .ok (.iload 8, 2) := by decide +kernel
theorem dX9_withEntries_20 : decode cX9_withEntries 20 = .ok (.iload 7, 2) := by decide +kernel
theorem dX9_withEntries_22 : decode cX9_withEntries 22 = .ok (.if_icmp .ge 45, 3) := by decide +kernel
theorem dX9_withEntries_25 : decode cX9_withEntries 25 = .ok (.iconst 0, 1) := by decide +kernel
theorem dX9_withEntries_26 : decode cX9_withEntries 26 = .ok (.istore 9, 2) := by decide +kernel
theorem dX9_withEntries_28 : decode cX9_withEntries 28 = .ok (.iload 9, 2) := by decide +kernel
theorem dX9_withEntries_30 : decode cX9_withEntries 30 = .ok (.iconst 4, 1) := by decide +kernel
theorem dX9_withEntries_31 : decode cX9_withEntries 31 = .ok (.if_icmp .ge 30, 3) := by decide +kernel
theorem dX9_withEntries_34 : decode cX9_withEntries 34 = .ok (.lload 5, 2) := by decide +kernel
theorem dX9_withEntries_36 : decode cX9_withEntries 36 = .ok (.aload_n 0, 1) := by decide +kernel
theorem dX9_withEntries_37 : decode cX9_withEntries 37 = .ok (.getfield 10, 3) := by decide +kernel
theorem dX9_withEntries_40 : decode cX9_withEntries 40 = .ok (.iload_n 3, 1) := by decide +kernel
theorem dX9_withEntries_41 : decode cX9_withEntries 41 = .ok (.iload 4, 2) := by decide +kernel
theorem dX9_withEntries_43 : decode cX9_withEntries 43 = .ok (.iload 8, 2) := by decide +kernel
theorem dX9_withEntries_45 : decode cX9_withEntries 45 = .ok (.iload 9, 2) := by decide +kernel
theorem dX9_withEntries_47 : decode cX9_withEntries 47 = .ok (.invokevirtual 149, 3) := by decide +kernel
theorem dX9_withEntries_50 : decode cX9_withEntries 50 = .ok (.invokestatic 204, 3) := by decide +kernel
theorem dX9_withEntries_53 : decode cX9_withEntries 53 = .ok (.lstore 5, 2) := by decide +kernel
theorem dX9_withEntries_55 : decode cX9_withEntries 55 = .ok (.iinc 9 1, 3) := by decide +kernel
theorem dX9_withEntries_58 : decode cX9_withEntries 58 = .ok (.goto (-30), 3) := by decide +kernel
theorem dX9_withEntries_61 : decode cX9_withEntries 61 = .ok (.iinc 8 1, 3) := by decide +kernel
theorem dX9_withEntries_64 : decode cX9_withEntries 64 = .ok (.goto (-46), 3) := by decide +kernel
theorem dX9_withEntries_67 : decode cX9_withEntries 67 = .ok (.lload 5, 2) := by decide +kernel
theorem dX9_withEntries_69 : decode cX9_withEntries 69 = .ok (.lreturn, 1) := by decide +kernel
theorem dX9_valueOfWhole_0 : decode cX9_valueOfWhole 0 = .ok (.iload_n 1, 1) := by decide +kernel
theorem dX9_valueOfWhole_1 : decode cX9_valueOfWhole 1 = .ok (.bipush 9, 2) := by decide +kernel
theorem dX9_valueOfWhole_3 : decode cX9_valueOfWhole 3 = .ok (.if_icmp .ne 13, 3) := by decide +kernel
theorem dX9_valueOfWhole_6 : decode cX9_valueOfWhole 6 = .ok (.aload_n 0, 1) := by decide +kernel
theorem dX9_valueOfWhole_7 : decode cX9_valueOfWhole 7 = .ok (.getfield 26, 3) := by decide +kernel
theorem dX9_valueOfWhole_10 : decode cX9_valueOfWhole 10 = .ok (.getfield 172, 3) := by decide +kernel
theorem dX9_valueOfWhole_13 : decode cX9_valueOfWhole 13 = .ok (.goto 11, 3) := by decide +kernel
theorem dX9_valueOfWhole_16 : decode cX9_valueOfWhole 16 = .ok (.aload_n 0, 1) := by decide +kernel
theorem dX9_valueOfWhole_17 : decode cX9_valueOfWhole 17 = .ok (.getfield 10, 3) := by decide +kernel
theorem dX9_valueOfWhole_20 : decode cX9_valueOfWhole 20 = .ok (.iload_n 1, 1) := by decide +kernel
theorem dX9_valueOfWhole_21 : decode cX9_valueOfWhole 21 = .ok (.invokevirtual 226, 3) := by decide +kernel
theorem dX9_valueOfWhole_24 : decode cX9_valueOfWhole 24 = .ok (.ireturn, 1) := by decide +kernel
theorem dX9_refuse_0 : decode cX9_refuse 0 = .ok (.iload_n 0, 1) := by decide +kernel
theorem dX9_refuse_1 : decode cX9_refuse 1 = .ok (.iconst 1, 1) := by decide +kernel
theorem dX9_refuse_2 : decode cX9_refuse 2 = .ok (.if_icmp .ne 13, 3) := by decide +kernel
theorem dX9_refuse_5 : decode cX9_refuse 5 = .ok (.new 229, 3) := by decide +kernel
theorem dX9_refuse_8 : decode cX9_refuse 8 = .ok (.dup, 1) := by decide +kernel
theorem dX9_refuse_9 : decode cX9_refuse 9 = .ok (.ldc 231, 2) := by decide +kernel
theorem dX9_refuse_11 : decode cX9_refuse 11 = .ok (.invokespecial 233, 3) := by decide +kernel
theorem dX9_refuse_14 : decode cX9_refuse 14 = .ok (.athrow, 1) := by decide +kernel
theorem dX9_refuse_15 : decode cX9_refuse 15 = .ok (.iload_n 0, 1) := by decide +kernel
theorem dX9_refuse_16 : decode cX9_refuse 16 = .ok (.iconst 2, 1) := by decide +kernel
theorem dX9_refuse_17 : decode cX9_refuse 17 = .ok (.if_icmp .ne 13, 3) := by decide +kernel
theorem dX9_refuse_20 : decode cX9_refuse 20 = .ok (.new 236, 3) := by decide +kernel
theorem dX9_refuse_23 : decode cX9_refuse 23 = .ok (.dup, 1) := by decide +kernel
theorem dX9_refuse_24 : decode cX9_refuse 24 = .ok (.ldc 238, 2) := by decide +kernel
theorem dX9_refuse_26 : decode cX9_refuse 26 = .ok (.invokespecial 240, 3) := by decide +kernel
theorem dX9_refuse_29 : decode cX9_refuse 29 = .ok (.athrow, 1) := by decide +kernel
theorem dX9_refuse_30 : decode cX9_refuse 30 = .ok (.iload_n 0, 1) := by decide +kernel
theorem dX9_refuse_31 : decode cX9_refuse 31 = .ok (.iconst 3, 1) := by decide +kernel
theorem dX9_refuse_32 : decode cX9_refuse 32 = .ok (.if_icmp .ne 13, 3) := by decide +kernel
theorem dX9_refuse_35 : decode cX9_refuse 35 = .ok (.new 241, 3) := by decide +kernel
theorem dX9_refuse_38 : decode cX9_refuse 38 = .ok (.dup, 1) := by decide +kernel
theorem dX9_refuse_39 : decode cX9_refuse 39 = .ok (.ldc 243, 2) := by decide +kernel
theorem dX9_refuse_41 : decode cX9_refuse 41 = .ok (.invokespecial 245, 3) := by decide +kernel
theorem dX9_refuse_44 : decode cX9_refuse 44 = .ok (.athrow, 1) := by decide +kernel
theorem dX9_refuse_45 : decode cX9_refuse 45 = .ok (.return_, 1) := by decide +kernel
theorem dX9_isWithin_0 : decode cX9_isWithin 0 = .ok (.iload_n 0, 1) := by decide +kernel
theorem dX9_isWithin_1 : decode cX9_isWithin 1 = .ok (.iload_n 1, 1) := by decide +kernel
theorem dX9_isWithin_2 : decode cX9_isWithin 2 = .ok (.if_icmp .lt 12, 3) := by decide +kernel
theorem dX9_isWithin_5 : decode cX9_isWithin 5 = .ok (.iload_n 0, 1) := by decide +kernel
theorem dX9_isWithin_6 : decode cX9_isWithin 6 = .ok (.iload_n 2, 1) := by decide +kernel
theorem dX9_isWithin_7 : decode cX9_isWithin 7 = .ok (.if_icmp .gt 7, 3) := by decide +kernel
theorem dX9_isWithin_10 : decode cX9_isWithin 10 = .ok (.iconst 1, 1) := by decide +kernel
theorem dX9_isWithin_11 : decode cX9_isWithin 11 = .ok (.goto 4, 3) := by decide +kernel
theorem dX9_isWithin_14 : decode cX9_isWithin 14 = .ok (.iconst 0, 1) := by decide +kernel
theorem dX9_isWithin_15 : decode cX9_isWithin 15 = .ok (.ireturn, 1) := by decide +kernel
theorem dX9_isPart_0 : decode cX9_isPart 0 = .ok (.iload_n 0, 1) := by decide +kernel
theorem dX9_isPart_1 : decode cX9_isPart 1 = .ok (.ifCond .lt 12, 3) := by decide +kernel
theorem dX9_isPart_4 : decode cX9_isPart 4 = .ok (.iload_n 0, 1) := by decide +kernel
theorem dX9_isPart_5 : decode cX9_isPart 5 = .ok (.iconst 3, 1) := by decide +kernel
theorem dX9_isPart_6 : decode cX9_isPart 6 = .ok (.if_icmp .ge 7, 3) := by decide +kernel
theorem dX9_isPart_9 : decode cX9_isPart 9 = .ok (.iconst 1, 1) := by decide +kernel
theorem dX9_isPart_10 : decode cX9_isPart 10 = .ok (.goto 4, 3) := by decide +kernel
theorem dX9_isPart_13 : decode cX9_isPart 13 = .ok (.iconst 0, 1) := by decide +kernel
theorem dX9_isPart_14 : decode cX9_isPart 14 = .ok (.ireturn, 1) := by decide +kernel
theorem dX9_faultOfTrade_0 : decode cX9_faultOfTrade 0 = .ok (.iload_n 1, 1) := by decide +kernel
theorem dX9_faultOfTrade_1 : decode cX9_faultOfTrade 1 = .ok (.iconst 0, 1) := by decide +kernel
theorem dX9_faultOfTrade_2 : decode cX9_faultOfTrade 2 = .ok (.sipush 2000, 3) := by decide +kernel
theorem dX9_faultOfTrade_5 : decode cX9_faultOfTrade 5 = .ok (.invokestatic 130, 3) := by decide +kernel
theorem dX9_faultOfTrade_8 : decode cX9_faultOfTrade 8 = .ok (.ifCond .eq 25, 3) := by decide +kernel
theorem dX9_faultOfTrade_11 : decode cX9_faultOfTrade 11 = .ok (.iload_n 2, 1) := by decide +kernel
theorem dX9_faultOfTrade_12 : decode cX9_faultOfTrade 12 = .ok (.iconst 0, 1) := by decide +kernel
theorem dX9_faultOfTrade_13 : decode cX9_faultOfTrade 13 = .ok (.sipush 2000, 3) := by decide +kernel
theorem dX9_faultOfTrade_16 : decode cX9_faultOfTrade 16 = .ok (.invokestatic 130, 3) := by decide +kernel
theorem dX9_faultOfTrade_19 : decode cX9_faultOfTrade 19 = .ok (.ifCond .eq 14, 3) := by decide +kernel
theorem dX9_faultOfTrade_22 : decode cX9_faultOfTrade 22 = .ok (.iload_n 3, 1) := by decide +kernel
theorem dX9_faultOfTrade_23 : decode cX9_faultOfTrade 23 = .ok (.iconst 0, 1) := by decide +kernel
theorem dX9_faultOfTrade_24 : decode cX9_faultOfTrade 24 = .ok (.sipush 2000, 3) := by decide +kernel
theorem dX9_faultOfTrade_27 : decode cX9_faultOfTrade 27 = .ok (.invokestatic 130, 3) := by decide +kernel
theorem dX9_faultOfTrade_30 : decode cX9_faultOfTrade 30 = .ok (.ifCond .ne 5, 3) := by decide +kernel
theorem dX9_faultOfTrade_33 : decode cX9_faultOfTrade 33 = .ok (.iconst 2, 1) := by decide +kernel
theorem dX9_faultOfTrade_34 : decode cX9_faultOfTrade 34 = .ok (.ireturn, 1) := by decide +kernel
theorem dX9_faultOfTrade_35 : decode cX9_faultOfTrade 35 = .ok (.aload_n 0, 1) := by decide +kernel
theorem dX9_faultOfTrade_36 : decode cX9_faultOfTrade 36 = .ok (.getfield 10, 3) := by decide +kernel
theorem dX9_faultOfTrade_39 : decode cX9_faultOfTrade 39 = .ok (.getfield 246, 3) := by decide +kernel
theorem dX9_faultOfTrade_42 : decode cX9_faultOfTrade 42 = .ok (.iconst 5, 1) := by decide +kernel
theorem dX9_faultOfTrade_43 : decode cX9_faultOfTrade 43 = .ok (.if_icmp .ge 7, 3) := by decide +kernel
theorem dX9_faultOfTrade_46 : decode cX9_faultOfTrade 46 = .ok (.iconst 0, 1) := by decide +kernel
theorem dX9_faultOfTrade_47 : decode cX9_faultOfTrade 47 = .ok (.goto 4, 3) := by decide +kernel
theorem dX9_faultOfTrade_50 : decode cX9_faultOfTrade 50 = .ok (.iconst 3, 1) := by decide +kernel
theorem dX9_faultOfTrade_51 : decode cX9_faultOfTrade 51 = .ok (.ireturn, 1) := by decide +kernel
theorem dX9_faultOfMentor_0 : decode cX9_faultOfMentor 0 = .ok (.iload_n 1, 1) := by decide +kernel
theorem dX9_faultOfMentor_1 : decode cX9_faultOfMentor 1 = .ok (.iconst 1, 1) := by decide +kernel
theorem dX9_faultOfMentor_2 : decode cX9_faultOfMentor 2 = .ok (.bipush 6, 2) := by decide +kernel
theorem dX9_faultOfMentor_4 : decode cX9_faultOfMentor 4 = .ok (.invokestatic 130, 3) := by decide +kernel
theorem dX9_faultOfMentor_7 : decode cX9_faultOfMentor 7 = .ok (.ifCond .eq 13, 3) := by decide +kernel
theorem dX9_faultOfMentor_10 : decode cX9_faultOfMentor 10 = .ok (.iload_n 2, 1) := by decide +kernel
theorem dX9_faultOfMentor_11 : decode cX9_faultOfMentor 11 = .ok (.iconst 0, 1) := by decide +kernel
theorem dX9_faultOfMentor_12 : decode cX9_faultOfMentor 12 = .ok (.bipush 31, 2) := by decide +kernel
theorem dX9_faultOfMentor_14 : decode cX9_faultOfMentor 14 = .ok (.invokestatic 130, 3) := by decide +kernel
theorem dX9_faultOfMentor_17 : decode cX9_faultOfMentor 17 = .ok (.ifCond .ne 5, 3) := by decide +kernel
theorem dX9_faultOfMentor_20 : decode cX9_faultOfMentor 20 = .ok (.iconst 2, 1) := by decide +kernel
theorem dX9_faultOfMentor_21 : decode cX9_faultOfMentor 21 = .ok (.ireturn, 1) := by decide +kernel
theorem dX9_faultOfMentor_22 : decode cX9_faultOfMentor 22 = .ok (.aload_n 0, 1) := by decide +kernel
theorem dX9_faultOfMentor_23 : decode cX9_faultOfMentor 23 = .ok (.getfield 10, 3) := by decide +kernel
theorem dX9_faultOfMentor_26 : decode cX9_faultOfMentor 26 = .ok (.getfield 208, 3) := by decide +kernel
theorem dX9_faultOfMentor_29 : decode cX9_faultOfMentor 29 = .ok (.bipush 6, 2) := by decide +kernel
theorem dX9_faultOfMentor_31 : decode cX9_faultOfMentor 31 = .ok (.if_icmp .ge 7, 3) := by decide +kernel
theorem dX9_faultOfMentor_34 : decode cX9_faultOfMentor 34 = .ok (.iconst 0, 1) := by decide +kernel
theorem dX9_faultOfMentor_35 : decode cX9_faultOfMentor 35 = .ok (.goto 4, 3) := by decide +kernel
theorem dX9_faultOfMentor_38 : decode cX9_faultOfMentor 38 = .ok (.iconst 3, 1) := by decide +kernel
theorem dX9_faultOfMentor_39 : decode cX9_faultOfMentor 39 = .ok (.ireturn, 1) := by decide +kernel
theorem dX9_faultOfApprentice_0 : decode cX9_faultOfApprentice 0 = .ok (.aload_n 0, 1) := by decide +kernel
theorem dX9_faultOfApprentice_1 : decode cX9_faultOfApprentice 1 = .ok (.getfield 10, 3) := by decide +kernel
theorem dX9_faultOfApprentice_4 : decode cX9_faultOfApprentice 4 = .ok (.iload_n 1, 1) := by decide +kernel
theorem dX9_faultOfApprentice_5 : decode cX9_faultOfApprentice 5 = .ok (.invokevirtual 249, 3) := by decide +kernel
theorem dX9_faultOfApprentice_8 : decode cX9_faultOfApprentice 8 = .ok (.ifCond .eq 19, 3) := by decide +kernel
theorem dX9_faultOfApprentice_11 : decode cX9_faultOfApprentice 11 = .ok (.iload_n 2, 1) := by decide +kernel
theorem dX9_faultOfApprentice_12 : decode cX9_faultOfApprentice 12 = .ok (.iconst (-1), 1) := by decide +kernel
theorem dX9_faultOfApprentice_13 : decode cX9_faultOfApprentice 13 = .ok (.if_icmp .eq 16, 3) := by decide +kernel
theorem dX9_faultOfApprentice_16 : decode cX9_faultOfApprentice 16 = .ok (.aload_n 0, 1) := by decide +kernel
theorem dX9_faultOfApprentice_17 : decode cX9_faultOfApprentice 17 = .ok (.getfield 10, 3) := by decide +kernel
theorem dX9_faultOfApprentice_20 : decode cX9_faultOfApprentice 20 = .ok (.iload_n 2, 1) := by decide +kernel
theorem dX9_faultOfApprentice_21 : decode cX9_faultOfApprentice 21 = .ok (.invokevirtual 126, 3) := by decide +kernel
theorem dX9_faultOfApprentice_24 : decode cX9_faultOfApprentice 24 = .ok (.ifCond .ne 5, 3) := by decide +kernel
theorem dX9_faultOfApprentice_27 : decode cX9_faultOfApprentice 27 = .ok (.iconst 1, 1) := by decide +kernel
theorem dX9_faultOfApprentice_28 : decode cX9_faultOfApprentice 28 = .ok (.ireturn, 1) := by decide +kernel
theorem dX9_faultOfApprentice_29 : decode cX9_faultOfApprentice 29 = .ok (.aload_n 0, 1) := by decide +kernel
theorem dX9_faultOfApprentice_30 : decode cX9_faultOfApprentice 30 = .ok (.getfield 10, 3) := by decide +kernel
theorem dX9_faultOfApprentice_33 : decode cX9_faultOfApprentice 33 = .ok (.getfield 211, 3) := by decide +kernel
theorem dX9_faultOfApprentice_36 : decode cX9_faultOfApprentice 36 = .ok (.bipush 10, 2) := by decide +kernel
theorem dX9_faultOfApprentice_38 : decode cX9_faultOfApprentice 38 = .ok (.if_icmp .lt 5, 3) := by decide +kernel
theorem dX9_faultOfApprentice_41 : decode cX9_faultOfApprentice 41 = .ok (.iconst 3, 1) := by decide +kernel
theorem dX9_faultOfApprentice_42 : decode cX9_faultOfApprentice 42 = .ok (.ireturn, 1) := by decide +kernel
theorem dX9_faultOfApprentice_43 : decode cX9_faultOfApprentice 43 = .ok (.iload_n 2, 1) := by decide +kernel
theorem dX9_faultOfApprentice_44 : decode cX9_faultOfApprentice 44 = .ok (.iconst (-1), 1) := by decide +kernel
theorem dX9_faultOfApprentice_45 : decode cX9_faultOfApprentice 45 = .ok (.if_icmp .ne 5, 3) := by decide +kernel
theorem dX9_faultOfApprentice_48 : decode cX9_faultOfApprentice 48 = .ok (.iconst 0, 1) := by decide +kernel
theorem dX9_faultOfApprentice_49 : decode cX9_faultOfApprentice 49 = .ok (.ireturn, 1) := by decide +kernel
theorem dX9_faultOfApprentice_50 : decode cX9_faultOfApprentice 50 = .ok (.aload_n 0, 1) := by decide +kernel
theorem dX9_faultOfApprentice_51 : decode cX9_faultOfApprentice 51 = .ok (.getfield 10, 3) := by decide +kernel
theorem dX9_faultOfApprentice_54 : decode cX9_faultOfApprentice 54 = .ok (.iload_n 2, 1) := by decide +kernel
theorem dX9_faultOfApprentice_55 : decode cX9_faultOfApprentice 55 = .ok (.iload_n 1, 1) := by decide +kernel
theorem dX9_faultOfApprentice_56 : decode cX9_faultOfApprentice 56 = .ok (.invokevirtual 252, 3) := by decide +kernel
theorem dX9_faultOfApprentice_59 : decode cX9_faultOfApprentice 59 = .ok (.ifCond .eq 18, 3) := by decide +kernel
theorem dX9_faultOfApprentice_62 : decode cX9_faultOfApprentice 62 = .ok (.aload_n 0, 1) := by decide +kernel
theorem dX9_faultOfApprentice_63 : decode cX9_faultOfApprentice 63 = .ok (.getfield 10, 3) := by decide +kernel
theorem dX9_faultOfApprentice_66 : decode cX9_faultOfApprentice 66 = .ok (.iload_n 2, 1) := by decide +kernel
theorem dX9_faultOfApprentice_67 : decode cX9_faultOfApprentice 67 = .ok (.invokevirtual 255, 3) := by decide +kernel
theorem dX9_faultOfApprentice_70 : decode cX9_faultOfApprentice 70 = .ok (.ifCond .ne 7, 3) := by decide +kernel
theorem dX9_faultOfApprentice_73 : decode cX9_faultOfApprentice 73 = .ok (.iconst 0, 1) := by decide +kernel
theorem dX9_faultOfApprentice_74 : decode cX9_faultOfApprentice 74 = .ok (.goto 4, 3) := by decide +kernel
theorem dX9_faultOfApprentice_77 : decode cX9_faultOfApprentice 77 = .ok (.iconst 3, 1) := by decide +kernel
theorem dX9_faultOfApprentice_78 : decode cX9_faultOfApprentice 78 = .ok (.ireturn, 1) := by decide +kernel
theorem dX9_faultOfRelease_0 : decode cX9_faultOfRelease 0 = .ok (.aload_n 0, 1) := by decide +kernel
theorem dX9_faultOfRelease_1 : decode cX9_faultOfRelease 1 = .ok (.getfield 10, 3) := by decide +kernel
theorem dX9_faultOfRelease_4 : decode cX9_faultOfRelease 4 = .ok (.iload_n 1, 1) := by decide +kernel
theorem dX9_faultOfRelease_5 : decode cX9_faultOfRelease 5 = .ok (.invokevirtual 137, 3) := by decide +kernel
theorem dX9_faultOfRelease_8 : decode cX9_faultOfRelease 8 = .ok (.ifCond .ne 5, 3) := by decide +kernel
theorem dX9_faultOfRelease_11 : decode cX9_faultOfRelease 11 = .ok (.iconst 1, 1) := by decide +kernel
theorem dX9_faultOfRelease_12 : decode cX9_faultOfRelease 12 = .ok (.ireturn, 1) := by decide +kernel
theorem dX9_faultOfRelease_13 : decode cX9_faultOfRelease 13 = .ok (.iload_n 2, 1) := by decide +kernel
theorem dX9_faultOfRelease_14 : decode cX9_faultOfRelease 14 = .ok (.iconst 0, 1) := by decide +kernel
theorem dX9_faultOfRelease_15 : decode cX9_faultOfRelease 15 = .ok (.sipush 199, 3) := by decide +kernel
theorem dX9_faultOfRelease_18 : decode cX9_faultOfRelease 18 = .ok (.invokestatic 130, 3) := by decide +kernel
theorem dX9_faultOfRelease_21 : decode cX9_faultOfRelease 21 = .ok (.ifCond .ne 5, 3) := by decide +kernel
theorem dX9_faultOfRelease_24 : decode cX9_faultOfRelease 24 = .ok (.iconst 2, 1) := by decide +kernel
theorem dX9_faultOfRelease_25 : decode cX9_faultOfRelease 25 = .ok (.ireturn, 1) := by decide +kernel
theorem dX9_faultOfRelease_26 : decode cX9_faultOfRelease 26 = .ok (.aload_n 0, 1) := by decide +kernel
theorem dX9_faultOfRelease_27 : decode cX9_faultOfRelease 27 = .ok (.getfield 10, 3) := by decide +kernel
theorem dX9_faultOfRelease_30 : decode cX9_faultOfRelease 30 = .ok (.iload_n 1, 1) := by decide +kernel
theorem dX9_faultOfRelease_31 : decode cX9_faultOfRelease 31 = .ok (.iload_n 2, 1) := by decide +kernel
theorem dX9_faultOfRelease_32 : decode cX9_faultOfRelease 32 = .ok (.invokevirtual 258, 3) := by decide +kernel
theorem dX9_faultOfRelease_35 : decode cX9_faultOfRelease 35 = .ok (.ifCond .eq 7, 3) := by decide +kernel
theorem dX9_faultOfRelease_38 : decode cX9_faultOfRelease 38 = .ok (.iconst 3, 1) := by decide +kernel
theorem dX9_faultOfRelease_39 : decode cX9_faultOfRelease 39 = .ok (.goto 4, 3) := by decide +kernel
theorem dX9_faultOfRelease_42 : decode cX9_faultOfRelease 42 = .ok (.iconst 0, 1) := by decide +kernel
theorem dX9_faultOfRelease_43 : decode cX9_faultOfRelease 43 = .ok (.ireturn, 1) := by decide +kernel
theorem dX9_faultOfLog_0 : decode cX9_faultOfLog 0 = .ok (.aload_n 0, 1) := by decide +kernel
theorem dX9_faultOfLog_1 : decode cX9_faultOfLog 1 = .ok (.getfield 10, 3) := by decide +kernel
theorem dX9_faultOfLog_4 : decode cX9_faultOfLog 4 = .ok (.iload_n 1, 1) := by decide +kernel
theorem dX9_faultOfLog_5 : decode cX9_faultOfLog 5 = .ok (.invokevirtual 137, 3) := by decide +kernel
theorem dX9_faultOfLog_8 : decode cX9_faultOfLog 8 = .ok (.ifCond .ne 5, 3) := by decide +kernel
theorem dX9_faultOfLog_11 : decode cX9_faultOfLog 11 = .ok (.iconst 1, 1) := by decide +kernel
theorem dX9_faultOfLog_12 : decode cX9_faultOfLog 12 = .ok (.ireturn, 1) := by decide +kernel
theorem dX9_faultOfLog_13 : decode cX9_faultOfLog 13 = .ok (.iload_n 2, 1) := by decide +kernel
theorem dX9_faultOfLog_14 : decode cX9_faultOfLog 14 = .ok (.invokestatic 143, 3) := by decide +kernel
theorem dX9_faultOfLog_17 : decode cX9_faultOfLog 17 = .ok (.ifCond .eq 13, 3) := by decide +kernel
theorem dX9_faultOfLog_20 : decode cX9_faultOfLog 20 = .ok (.iload_n 3, 1) := by decide +kernel
theorem dX9_faultOfLog_21 : decode cX9_faultOfLog 21 = .ok (.iconst 1, 1) := by decide +kernel
theorem dX9_faultOfLog_22 : decode cX9_faultOfLog 22 = .ok (.bipush 12, 2) := by decide +kernel
theorem dX9_faultOfLog_24 : decode cX9_faultOfLog 24 = .ok (.invokestatic 130, 3) := by decide +kernel
theorem dX9_faultOfLog_27 : decode cX9_faultOfLog 27 = .ok (.ifCond .ne 5, 3) := by decide +kernel
theorem dX9_faultOfLog_30 : decode cX9_faultOfLog 30 = .ok (.iconst 2, 1) := by decide +kernel
theorem dX9_faultOfLog_31 : decode cX9_faultOfLog 31 = .ok (.ireturn, 1) := by decide +kernel
theorem dX9_faultOfLog_32 : decode cX9_faultOfLog 32 = .ok (.aload_n 0, 1) := by decide +kernel
theorem dX9_faultOfLog_33 : decode cX9_faultOfLog 33 = .ok (.getfield 10, 3) := by decide +kernel
theorem dX9_faultOfLog_36 : decode cX9_faultOfLog 36 = .ok (.iload_n 1, 1) := by decide +kernel
theorem dX9_faultOfLog_37 : decode cX9_faultOfLog 37 = .ok (.iload_n 3, 1) := by decide +kernel
theorem dX9_faultOfLog_38 : decode cX9_faultOfLog 38 = .ok (.invokevirtual 261, 3) := by decide +kernel
theorem dX9_faultOfLog_41 : decode cX9_faultOfLog 41 = .ok (.ifCond .eq 7, 3) := by decide +kernel
theorem dX9_faultOfLog_44 : decode cX9_faultOfLog 44 = .ok (.iconst 0, 1) := by decide +kernel
theorem dX9_faultOfLog_45 : decode cX9_faultOfLog 45 = .ok (.goto 4, 3) := by decide +kernel
theorem dX9_faultOfLog_48 : decode cX9_faultOfLog 48 = .ok (.iconst 3, 1) := by decide +kernel
theorem dX9_faultOfLog_49 : decode cX9_faultOfLog 49 = .ok (.ireturn, 1) := by decide +kernel
theorem dX9_faultOfConfirm_0 : decode cX9_faultOfConfirm 0 = .ok (.aload_n 0, 1) := by decide +kernel
theorem dX9_faultOfConfirm_1 : decode cX9_faultOfConfirm 1 = .ok (.getfield 10, 3) := by decide +kernel
theorem dX9_faultOfConfirm_4 : decode cX9_faultOfConfirm 4 = .ok (.iload_n 1, 1) := by decide +kernel
theorem dX9_faultOfConfirm_5 : decode cX9_faultOfConfirm 5 = .ok (.invokevirtual 126, 3) := by decide +kernel
theorem dX9_faultOfConfirm_8 : decode cX9_faultOfConfirm 8 = .ok (.ifCond .ne 5, 3) := by decide +kernel
theorem dX9_faultOfConfirm_11 : decode cX9_faultOfConfirm 11 = .ok (.iconst 1, 1) := by decide +kernel
theorem dX9_faultOfConfirm_12 : decode cX9_faultOfConfirm 12 = .ok (.ireturn, 1) := by decide +kernel
theorem dX9_faultOfConfirm_13 : decode cX9_faultOfConfirm 13 = .ok (.iload_n 2, 1) := by decide +kernel
theorem dX9_faultOfConfirm_14 : decode cX9_faultOfConfirm 14 = .ok (.iconst 1, 1) := by decide +kernel
theorem dX9_faultOfConfirm_15 : decode cX9_faultOfConfirm 15 = .ok (.bipush 99, 2) := by decide +kernel
theorem dX9_faultOfConfirm_17 : decode cX9_faultOfConfirm 17 = .ok (.invokestatic 130, 3) := by decide +kernel
theorem dX9_faultOfConfirm_20 : decode cX9_faultOfConfirm 20 = .ok (.ifCond .ne 5, 3) := by decide +kernel
theorem dX9_faultOfConfirm_23 : decode cX9_faultOfConfirm 23 = .ok (.iconst 2, 1) := by decide +kernel
theorem dX9_faultOfConfirm_24 : decode cX9_faultOfConfirm 24 = .ok (.ireturn, 1) := by decide +kernel
theorem dX9_faultOfConfirm_25 : decode cX9_faultOfConfirm 25 = .ok (.aload_n 0, 1) := by decide +kernel
theorem dX9_faultOfConfirm_26 : decode cX9_faultOfConfirm 26 = .ok (.getfield 10, 3) := by decide +kernel
theorem dX9_faultOfConfirm_29 : decode cX9_faultOfConfirm 29 = .ok (.iload_n 1, 1) := by decide +kernel
theorem dX9_faultOfConfirm_30 : decode cX9_faultOfConfirm 30 = .ok (.iload_n 2, 1) := by decide +kernel
theorem dX9_faultOfConfirm_31 : decode cX9_faultOfConfirm 31 = .ok (.invokevirtual 264, 3) := by decide +kernel
theorem dX9_faultOfConfirm_34 : decode cX9_faultOfConfirm 34 = .ok (.ifCond .eq 7, 3) := by decide +kernel
theorem dX9_faultOfConfirm_37 : decode cX9_faultOfConfirm 37 = .ok (.iconst 0, 1) := by decide +kernel
theorem dX9_faultOfConfirm_38 : decode cX9_faultOfConfirm 38 = .ok (.goto 4, 3) := by decide +kernel
theorem dX9_faultOfConfirm_41 : decode cX9_faultOfConfirm 41 = .ok (.iconst 3, 1) := by decide +kernel
theorem dX9_faultOfConfirm_42 : decode cX9_faultOfConfirm 42 = .ok (.ireturn, 1) := by decide +kernel
theorem dX9_faultOfDoubt_0 : decode cX9_faultOfDoubt 0 = .ok (.aload_n 0, 1) := by decide +kernel
theorem dX9_faultOfDoubt_1 : decode cX9_faultOfDoubt 1 = .ok (.getfield 10, 3) := by decide +kernel
theorem dX9_faultOfDoubt_4 : decode cX9_faultOfDoubt 4 = .ok (.iload_n 1, 1) := by decide +kernel
theorem dX9_faultOfDoubt_5 : decode cX9_faultOfDoubt 5 = .ok (.invokevirtual 137, 3) := by decide +kernel
theorem dX9_faultOfDoubt_8 : decode cX9_faultOfDoubt 8 = .ok (.ifCond .ne 5, 3) := by decide +kernel
theorem dX9_faultOfDoubt_11 : decode cX9_faultOfDoubt 11 = .ok (.iconst 1, 1) := by decide +kernel
theorem dX9_faultOfDoubt_12 : decode cX9_faultOfDoubt 12 = .ok (.ireturn, 1) := by decide +kernel
theorem dX9_faultOfDoubt_13 : decode cX9_faultOfDoubt 13 = .ok (.aload_n 0, 1) := by decide +kernel
theorem dX9_faultOfDoubt_14 : decode cX9_faultOfDoubt 14 = .ok (.getfield 10, 3) := by decide +kernel
theorem dX9_faultOfDoubt_17 : decode cX9_faultOfDoubt 17 = .ok (.iload_n 1, 1) := by decide +kernel
theorem dX9_faultOfDoubt_18 : decode cX9_faultOfDoubt 18 = .ok (.invokevirtual 267, 3) := by decide +kernel
theorem dX9_faultOfDoubt_21 : decode cX9_faultOfDoubt 21 = .ok (.iconst (-1), 1) := by decide +kernel
theorem dX9_faultOfDoubt_22 : decode cX9_faultOfDoubt 22 = .ok (.if_icmp .eq 19, 3) := by decide +kernel
theorem dX9_faultOfDoubt_25 : decode cX9_faultOfDoubt 25 = .ok (.aload_n 0, 1) := by decide +kernel
theorem dX9_faultOfDoubt_26 : decode cX9_faultOfDoubt 26 = .ok (.getfield 10, 3) := by decide +kernel
theorem dX9_faultOfDoubt_29 : decode cX9_faultOfDoubt 29 = .ok (.iload_n 1, 1) := by decide +kernel
theorem dX9_faultOfDoubt_30 : decode cX9_faultOfDoubt 30 = .ok (.iconst 0, 1) := by decide +kernel
theorem dX9_faultOfDoubt_31 : decode cX9_faultOfDoubt 31 = .ok (.invokevirtual 223, 3) := by decide +kernel
theorem dX9_faultOfDoubt_34 : decode cX9_faultOfDoubt 34 = .ok (.ifCond .le 7, 3) := by decide +kernel
theorem dX9_faultOfDoubt_37 : decode cX9_faultOfDoubt 37 = .ok (.iconst 1, 1) := by decide +kernel
theorem dX9_faultOfDoubt_38 : decode cX9_faultOfDoubt 38 = .ok (.goto 4, 3) := by decide +kernel
theorem dX9_faultOfDoubt_41 : decode cX9_faultOfDoubt 41 = .ok (.iconst 0, 1) := by decide +kernel
theorem dX9_faultOfDoubt_42 : decode cX9_faultOfDoubt 42 = .ok (.istore_n 2, 1) := by decide +kernel
theorem dX9_faultOfDoubt_43 : decode cX9_faultOfDoubt 43 = .ok (.iload_n 2, 1) := by decide +kernel
theorem dX9_faultOfDoubt_44 : decode cX9_faultOfDoubt 44 = .ok (.ifCond .eq 7, 3) := by decide +kernel
theorem dX9_faultOfDoubt_47 : decode cX9_faultOfDoubt 47 = .ok (.iconst 0, 1) := by decide +kernel
theorem dX9_faultOfDoubt_48 : decode cX9_faultOfDoubt 48 = .ok (.goto 4, 3) := by decide +kernel
theorem dX9_faultOfDoubt_51 : decode cX9_faultOfDoubt 51 = .ok (.iconst 3, 1) := by decide +kernel
theorem dX9_faultOfDoubt_52 : decode cX9_faultOfDoubt 52 = .ok (.ireturn, 1) := by decide +kernel
theorem dX9_faultOfSettle_0 : decode cX9_faultOfSettle 0 = .ok (.aload_n 0, 1) := by decide +kernel
theorem dX9_faultOfSettle_1 : decode cX9_faultOfSettle 1 = .ok (.getfield 10, 3) := by decide +kernel
theorem dX9_faultOfSettle_4 : decode cX9_faultOfSettle 4 = .ok (.iload_n 1, 1) := by decide +kernel
theorem dX9_faultOfSettle_5 : decode cX9_faultOfSettle 5 = .ok (.invokevirtual 137, 3) := by decide +kernel
theorem dX9_faultOfSettle_8 : decode cX9_faultOfSettle 8 = .ok (.ifCond .ne 5, 3) := by decide +kernel
theorem dX9_faultOfSettle_11 : decode cX9_faultOfSettle 11 = .ok (.iconst 1, 1) := by decide +kernel
theorem dX9_faultOfSettle_12 : decode cX9_faultOfSettle 12 = .ok (.ireturn, 1) := by decide +kernel
theorem dX9_faultOfSettle_13 : decode cX9_faultOfSettle 13 = .ok (.aload_n 0, 1) := by decide +kernel
theorem dX9_faultOfSettle_14 : decode cX9_faultOfSettle 14 = .ok (.getfield 10, 3) := by decide +kernel
theorem dX9_faultOfSettle_17 : decode cX9_faultOfSettle 17 = .ok (.iload_n 1, 1) := by decide +kernel
theorem dX9_faultOfSettle_18 : decode cX9_faultOfSettle 18 = .ok (.iload_n 2, 1) := by decide +kernel
theorem dX9_faultOfSettle_19 : decode cX9_faultOfSettle 19 = .ok (.invokevirtual 270, 3) := by decide +kernel
theorem dX9_faultOfSettle_22 : decode cX9_faultOfSettle 22 = .ok (.ifCond .eq 7, 3) := by decide +kernel
theorem dX9_faultOfSettle_25 : decode cX9_faultOfSettle 25 = .ok (.iconst 0, 1) := by decide +kernel
theorem dX9_faultOfSettle_26 : decode cX9_faultOfSettle 26 = .ok (.goto 4, 3) := by decide +kernel
theorem dX9_faultOfSettle_29 : decode cX9_faultOfSettle 29 = .ok (.iconst 3, 1) := by decide +kernel
theorem dX9_faultOfSettle_30 : decode cX9_faultOfSettle 30 = .ok (.ireturn, 1) := by decide +kernel
theorem dX9_faultOfCredit_0 : decode cX9_faultOfCredit 0 = .ok (.aload_n 0, 1) := by decide +kernel
theorem dX9_faultOfCredit_1 : decode cX9_faultOfCredit 1 = .ok (.getfield 10, 3) := by decide +kernel
theorem dX9_faultOfCredit_4 : decode cX9_faultOfCredit 4 = .ok (.iload_n 1, 1) := by decide +kernel
theorem dX9_faultOfCredit_5 : decode cX9_faultOfCredit 5 = .ok (.invokevirtual 137, 3) := by decide +kernel
theorem dX9_faultOfCredit_8 : decode cX9_faultOfCredit 8 = .ok (.ifCond .ne 5, 3) := by decide +kernel
theorem dX9_faultOfCredit_11 : decode cX9_faultOfCredit 11 = .ok (.iconst 1, 1) := by decide +kernel
theorem dX9_faultOfCredit_12 : decode cX9_faultOfCredit 12 = .ok (.ireturn, 1) := by decide +kernel
theorem dX9_faultOfCredit_13 : decode cX9_faultOfCredit 13 = .ok (.iload_n 2, 1) := by decide +kernel
theorem dX9_faultOfCredit_14 : decode cX9_faultOfCredit 14 = .ok (.invokestatic 143, 3) := by decide +kernel
theorem dX9_faultOfCredit_17 : decode cX9_faultOfCredit 17 = .ok (.ifCond .ne 5, 3) := by decide +kernel
theorem dX9_faultOfCredit_20 : decode cX9_faultOfCredit 20 = .ok (.iconst 2, 1) := by decide +kernel
theorem dX9_faultOfCredit_21 : decode cX9_faultOfCredit 21 = .ok (.ireturn, 1) := by decide +kernel
theorem dX9_faultOfCredit_22 : decode cX9_faultOfCredit 22 = .ok (.aload_n 0, 1) := by decide +kernel
theorem dX9_faultOfCredit_23 : decode cX9_faultOfCredit 23 = .ok (.getfield 10, 3) := by decide +kernel
theorem dX9_faultOfCredit_26 : decode cX9_faultOfCredit 26 = .ok (.iload_n 1, 1) := by decide +kernel
theorem dX9_faultOfCredit_27 : decode cX9_faultOfCredit 27 = .ok (.iload_n 2, 1) := by decide +kernel
theorem dX9_faultOfCredit_28 : decode cX9_faultOfCredit 28 = .ok (.iload_n 3, 1) := by decide +kernel
theorem dX9_faultOfCredit_29 : decode cX9_faultOfCredit 29 = .ok (.invokevirtual 274, 3) := by decide +kernel
theorem dX9_faultOfCredit_32 : decode cX9_faultOfCredit 32 = .ok (.ifCond .eq 7, 3) := by decide +kernel
theorem dX9_faultOfCredit_35 : decode cX9_faultOfCredit 35 = .ok (.iconst 0, 1) := by decide +kernel
theorem dX9_faultOfCredit_36 : decode cX9_faultOfCredit 36 = .ok (.goto 4, 3) := by decide +kernel
theorem dX9_faultOfCredit_39 : decode cX9_faultOfCredit 39 = .ok (.iconst 3, 1) := by decide +kernel
theorem dX9_faultOfCredit_40 : decode cX9_faultOfCredit 40 = .ok (.ireturn, 1) := by decide +kernel
theorem dX9_faultOfDays_0 : decode cX9_faultOfDays 0 = .ok (.iload_n 1, 1) := by decide +kernel
theorem dX9_faultOfDays_1 : decode cX9_faultOfDays 1 = .ok (.iconst 1, 1) := by decide +kernel
theorem dX9_faultOfDays_2 : decode cX9_faultOfDays 2 = .ok (.bipush 30, 2) := by decide +kernel
theorem dX9_faultOfDays_4 : decode cX9_faultOfDays 4 = .ok (.invokestatic 130, 3) := by decide +kernel
theorem dX9_faultOfDays_7 : decode cX9_faultOfDays 7 = .ok (.ifCond .ne 5, 3) := by decide +kernel
theorem dX9_faultOfDays_10 : decode cX9_faultOfDays 10 = .ok (.iconst 2, 1) := by decide +kernel
theorem dX9_faultOfDays_11 : decode cX9_faultOfDays 11 = .ok (.ireturn, 1) := by decide +kernel
theorem dX9_faultOfDays_12 : decode cX9_faultOfDays 12 = .ok (.aload_n 0, 1) := by decide +kernel
theorem dX9_faultOfDays_13 : decode cX9_faultOfDays 13 = .ok (.getfield 10, 3) := by decide +kernel
theorem dX9_faultOfDays_16 : decode cX9_faultOfDays 16 = .ok (.getfield 277, 3) := by decide +kernel
theorem dX9_faultOfDays_19 : decode cX9_faultOfDays 19 = .ok (.iload_n 1, 1) := by decide +kernel
theorem dX9_faultOfDays_20 : decode cX9_faultOfDays 20 = .ok (.iadd, 1) := by decide +kernel
theorem dX9_faultOfDays_21 : decode cX9_faultOfDays 21 = .ok (.sipush 9999, 3) := by decide +kernel
theorem dX9_faultOfDays_24 : decode cX9_faultOfDays 24 = .ok (.if_icmp .gt 7, 3) := by decide +kernel
theorem dX9_faultOfDays_27 : decode cX9_faultOfDays 27 = .ok (.iconst 0, 1) := by decide +kernel
theorem dX9_faultOfDays_28 : decode cX9_faultOfDays 28 = .ok (.goto 4, 3) := by decide +kernel
theorem dX9_faultOfDays_31 : decode cX9_faultOfDays 31 = .ok (.iconst 3, 1) := by decide +kernel
theorem dX9_faultOfDays_32 : decode cX9_faultOfDays 32 = .ok (.ireturn, 1) := by decide +kernel
theorem dX9_faultOfPair_0 : decode cX9_faultOfPair 0 = .ok (.aload_n 0, 1) := by decide +kernel
theorem dX9_faultOfPair_1 : decode cX9_faultOfPair 1 = .ok (.getfield 10, 3) := by decide +kernel
theorem dX9_faultOfPair_4 : decode cX9_faultOfPair 4 = .ok (.iload_n 1, 1) := by decide +kernel
theorem dX9_faultOfPair_5 : decode cX9_faultOfPair 5 = .ok (.invokevirtual 137, 3) := by decide +kernel
theorem dX9_faultOfPair_8 : decode cX9_faultOfPair 8 = .ok (.ifCond .eq 18, 3) := by decide +kernel
theorem dX9_faultOfPair_11 : decode cX9_faultOfPair 11 = .ok (.aload_n 0, 1) := by decide +kernel
theorem dX9_faultOfPair_12 : decode cX9_faultOfPair 12 = .ok (.getfield 10, 3) := by decide +kernel
theorem dX9_faultOfPair_15 : decode cX9_faultOfPair 15 = .ok (.iload_n 2, 1) := by decide +kernel
theorem dX9_faultOfPair_16 : decode cX9_faultOfPair 16 = .ok (.invokevirtual 126, 3) := by decide +kernel
theorem dX9_faultOfPair_19 : decode cX9_faultOfPair 19 = .ok (.ifCond .eq 7, 3) := by decide +kernel
theorem dX9_faultOfPair_22 : decode cX9_faultOfPair 22 = .ok (.iconst 0, 1) := by decide +kernel
theorem dX9_faultOfPair_23 : decode cX9_faultOfPair 23 = .ok (.goto 4, 3) := by decide +kernel
theorem dX9_faultOfPair_26 : decode cX9_faultOfPair 26 = .ok (.iconst 1, 1) := by decide +kernel
theorem dX9_faultOfPair_27 : decode cX9_faultOfPair 27 = .ok (.ireturn, 1) := by decide +kernel
theorem dX9_faultOfMove_0 : decode cX9_faultOfMove 0 = .ok (.aload_n 0, 1) := by decide +kernel
theorem dX9_faultOfMove_1 : decode cX9_faultOfMove 1 = .ok (.iload_n 1, 1) := by decide +kernel
theorem dX9_faultOfMove_2 : decode cX9_faultOfMove 2 = .ok (.iload_n 2, 1) := by decide +kernel
theorem dX9_faultOfMove_3 : decode cX9_faultOfMove 3 = .ok (.invokevirtual 120, 3) := by decide +kernel
theorem dX9_faultOfMove_6 : decode cX9_faultOfMove 6 = .ok (.ifCond .eq 5, 3) := by decide +kernel
theorem dX9_faultOfMove_9 : decode cX9_faultOfMove 9 = .ok (.iconst 1, 1) := by decide +kernel
theorem dX9_faultOfMove_10 : decode cX9_faultOfMove 10 = .ok (.ireturn, 1) := by decide +kernel
theorem dX9_faultOfMove_11 : decode cX9_faultOfMove 11 = .ok (.aload_n 0, 1) := by decide +kernel
theorem dX9_faultOfMove_12 : decode cX9_faultOfMove 12 = .ok (.getfield 10, 3) := by decide +kernel
theorem dX9_faultOfMove_15 : decode cX9_faultOfMove 15 = .ok (.iload_n 1, 1) := by decide +kernel
theorem dX9_faultOfMove_16 : decode cX9_faultOfMove 16 = .ok (.iload_n 2, 1) := by decide +kernel
theorem dX9_faultOfMove_17 : decode cX9_faultOfMove 17 = .ok (.invokevirtual 123, 3) := by decide +kernel
theorem dX9_faultOfMove_20 : decode cX9_faultOfMove 20 = .ok (.ifCond .ne 7, 3) := by decide +kernel
theorem dX9_faultOfMove_23 : decode cX9_faultOfMove 23 = .ok (.iconst 0, 1) := by decide +kernel
theorem dX9_faultOfMove_24 : decode cX9_faultOfMove 24 = .ok (.goto 4, 3) := by decide +kernel
theorem dX9_faultOfMove_27 : decode cX9_faultOfMove 27 = .ok (.iconst 3, 1) := by decide +kernel
theorem dX9_faultOfMove_28 : decode cX9_faultOfMove 28 = .ok (.ireturn, 1) := by decide +kernel
theorem dX9_faultOfLeave_0 : decode cX9_faultOfLeave 0 = .ok (.aload_n 0, 1) := by decide +kernel
theorem dX9_faultOfLeave_1 : decode cX9_faultOfLeave 1 = .ok (.getfield 10, 3) := by decide +kernel
theorem dX9_faultOfLeave_4 : decode cX9_faultOfLeave 4 = .ok (.iload_n 1, 1) := by decide +kernel
theorem dX9_faultOfLeave_5 : decode cX9_faultOfLeave 5 = .ok (.invokevirtual 137, 3) := by decide +kernel
theorem dX9_faultOfLeave_8 : decode cX9_faultOfLeave 8 = .ok (.ifCond .ne 5, 3) := by decide +kernel
theorem dX9_faultOfLeave_11 : decode cX9_faultOfLeave 11 = .ok (.iconst 1, 1) := by decide +kernel
theorem dX9_faultOfLeave_12 : decode cX9_faultOfLeave 12 = .ok (.ireturn, 1) := by decide +kernel
theorem dX9_faultOfLeave_13 : decode cX9_faultOfLeave 13 = .ok (.aload_n 0, 1) := by decide +kernel
theorem dX9_faultOfLeave_14 : decode cX9_faultOfLeave 14 = .ok (.getfield 10, 3) := by decide +kernel
theorem dX9_faultOfLeave_17 : decode cX9_faultOfLeave 17 = .ok (.iload_n 1, 1) := by decide +kernel
theorem dX9_faultOfLeave_18 : decode cX9_faultOfLeave 18 = .ok (.invokevirtual 267, 3) := by decide +kernel
theorem dX9_faultOfLeave_21 : decode cX9_faultOfLeave 21 = .ok (.iconst (-1), 1) := by decide +kernel
theorem dX9_faultOfLeave_22 : decode cX9_faultOfLeave 22 = .ok (.if_icmp .eq 7, 3) := by decide +kernel
theorem dX9_faultOfLeave_25 : decode cX9_faultOfLeave 25 = .ok (.iconst 0, 1) := by decide +kernel
theorem dX9_faultOfLeave_26 : decode cX9_faultOfLeave 26 = .ok (.goto 4, 3) := by decide +kernel
theorem dX9_faultOfLeave_29 : decode cX9_faultOfLeave 29 = .ok (.iconst 3, 1) := by decide +kernel
theorem dX9_faultOfLeave_30 : decode cX9_faultOfLeave 30 = .ok (.ireturn, 1) := by decide +kernel
theorem dX9_faultOfExchange_0 : decode cX9_faultOfExchange 0 = .ok (.aload_n 0, 1) := by decide +kernel
theorem dX9_faultOfExchange_1 : decode cX9_faultOfExchange 1 = .ok (.getfield 10, 3) := by decide +kernel
theorem dX9_faultOfExchange_4 : decode cX9_faultOfExchange 4 = .ok (.iload_n 1, 1) := by decide +kernel
theorem dX9_faultOfExchange_5 : decode cX9_faultOfExchange 5 = .ok (.invokevirtual 137, 3) := by decide +kernel
theorem dX9_faultOfExchange_8 : decode cX9_faultOfExchange 8 = .ok (.ifCond .eq 14, 3) := by decide +kernel
theorem dX9_faultOfExchange_11 : decode cX9_faultOfExchange 11 = .ok (.aload_n 0, 1) := by decide +kernel
theorem dX9_faultOfExchange_12 : decode cX9_faultOfExchange 12 = .ok (.getfield 10, 3) := by decide +kernel
theorem dX9_faultOfExchange_15 : decode cX9_faultOfExchange 15 = .ok (.iload_n 2, 1) := by decide +kernel
theorem dX9_faultOfExchange_16 : decode cX9_faultOfExchange 16 = .ok (.invokevirtual 137, 3) := by decide +kernel
theorem dX9_faultOfExchange_19 : decode cX9_faultOfExchange 19 = .ok (.ifCond .ne 5, 3) := by decide +kernel
theorem dX9_faultOfExchange_22 : decode cX9_faultOfExchange 22 = .ok (.iconst 1, 1) := by decide +kernel
theorem dX9_faultOfExchange_23 : decode cX9_faultOfExchange 23 = .ok (.ireturn, 1) := by decide +kernel
theorem dX9_faultOfExchange_24 : decode cX9_faultOfExchange 24 = .ok (.iload_n 1, 1) := by decide +kernel
theorem dX9_faultOfExchange_25 : decode cX9_faultOfExchange 25 = .ok (.iload_n 2, 1) := by decide +kernel
theorem dX9_faultOfExchange_26 : decode cX9_faultOfExchange 26 = .ok (.if_icmp .ne 5, 3) := by decide +kernel
theorem dX9_faultOfExchange_29 : decode cX9_faultOfExchange 29 = .ok (.iconst 2, 1) := by decide +kernel
theorem dX9_faultOfExchange_30 : decode cX9_faultOfExchange 30 = .ok (.ireturn, 1) := by decide +kernel
theorem dX9_faultOfExchange_31 : decode cX9_faultOfExchange 31 = .ok (.aload_n 0, 1) := by decide +kernel
theorem dX9_faultOfExchange_32 : decode cX9_faultOfExchange 32 = .ok (.getfield 10, 3) := by decide +kernel
theorem dX9_faultOfExchange_35 : decode cX9_faultOfExchange 35 = .ok (.iload_n 1, 1) := by decide +kernel
theorem dX9_faultOfExchange_36 : decode cX9_faultOfExchange 36 = .ok (.iload_n 2, 1) := by decide +kernel
theorem dX9_faultOfExchange_37 : decode cX9_faultOfExchange 37 = .ok (.invokevirtual 162, 3) := by decide +kernel
theorem dX9_faultOfExchange_40 : decode cX9_faultOfExchange 40 = .ok (.ifCond .eq 7, 3) := by decide +kernel
theorem dX9_faultOfExchange_43 : decode cX9_faultOfExchange 43 = .ok (.iconst 0, 1) := by decide +kernel
theorem dX9_faultOfExchange_44 : decode cX9_faultOfExchange 44 = .ok (.goto 4, 3) := by decide +kernel
theorem dX9_faultOfExchange_47 : decode cX9_faultOfExchange 47 = .ok (.iconst 3, 1) := by decide +kernel
theorem dX9_faultOfExchange_48 : decode cX9_faultOfExchange 48 = .ok (.ireturn, 1) := by decide +kernel
theorem dX9_faultOfCommand_0 : decode cX9_faultOfCommand 0 = .ok (.aload_n 0, 1) := by decide +kernel
theorem dX9_faultOfCommand_1 : decode cX9_faultOfCommand 1 = .ok (.getfield 26, 3) := by decide +kernel
theorem dX9_faultOfCommand_4 : decode cX9_faultOfCommand 4 = .ok (.iload_n 1, 1) := by decide +kernel
theorem dX9_faultOfCommand_5 : decode cX9_faultOfCommand 5 = .ok (.invokevirtual 280, 3) := by decide +kernel
theorem dX9_faultOfCommand_8 : decode cX9_faultOfCommand 8 = .ok (.astore_n 2, 1) := by decide +kernel
theorem dX9_faultOfCommand_9 : decode cX9_faultOfCommand 9 = .ok (.aload_n 2, 1) := by decide +kernel
theorem dX9_faultOfCommand_10 : decode cX9_faultOfCommand 10 = .ok (.ifnonnull 5, 3) := by decide +kernel
theorem dX9_faultOfCommand_13 : decode cX9_faultOfCommand 13 = .ok (.iconst 3, 1) := by decide +kernel
theorem dX9_faultOfCommand_14 : decode cX9_faultOfCommand 14 = .ok (.ireturn, 1) := by decide +kernel
theorem dX9_faultOfCommand_15 : decode cX9_faultOfCommand 15 = .ok (.aload_n 0, 1) := by decide +kernel
theorem dX9_faultOfCommand_16 : decode cX9_faultOfCommand 16 = .ok (.getfield 26, 3) := by decide +kernel
theorem dX9_faultOfCommand_19 : decode cX9_faultOfCommand 19 = .ok (.iload_n 1, 1) := by decide +kernel
theorem dX9_faultOfCommand_20 : decode cX9_faultOfCommand 20 = .ok (.iconst 0, 1) := by decide +kernel
theorem dX9_faultOfCommand_21 : decode cX9_faultOfCommand 21 = .ok (.invokevirtual 284, 3) := by decide +kernel
theorem dX9_faultOfCommand_24 : decode cX9_faultOfCommand 24 = .ok (.istore_n 3, 1) := by decide +kernel
theorem dX9_faultOfCommand_25 : decode cX9_faultOfCommand 25 = .ok (.aload_n 0, 1) := by decide +kernel
theorem dX9_faultOfCommand_26 : decode cX9_faultOfCommand 26 = .ok (.getfield 26, 3) := by decide +kernel
theorem dX9_faultOfCommand_29 : decode cX9_faultOfCommand 29 = .ok (.iload_n 1, 1) := by decide +kernel
theorem dX9_faultOfCommand_30 : decode cX9_faultOfCommand 30 = .ok (.iconst 1, 1) := by decide +kernel
theorem dX9_faultOfCommand_31 : decode cX9_faultOfCommand 31 = .ok (.invokevirtual 284, 3) := by decide +kernel
theorem dX9_faultOfCommand_34 : decode cX9_faultOfCommand 34 = .ok (.istore 4, 2) := by decide +kernel
theorem dX9_faultOfCommand_36 : decode cX9_faultOfCommand 36 = .ok (.aload_n 0, 1) := by decide +kernel
theorem dX9_faultOfCommand_37 : decode cX9_faultOfCommand 37 = .ok (.getfield 26, 3) := by decide +kernel
theorem dX9_faultOfCommand_40 : decode cX9_faultOfCommand 40 = .ok (.iload_n 1, 1) := by decide +kernel
theorem dX9_faultOfCommand_41 : decode cX9_faultOfCommand 41 = .ok (.iconst 2, 1) := by decide +kernel
theorem dX9_faultOfCommand_42 : decode cX9_faultOfCommand 42 = .ok (.invokevirtual 284, 3) := by decide +kernel
theorem dX9_faultOfCommand_45 : decode cX9_faultOfCommand 45 = .ok (.istore 5, 2) := by decide +kernel
theorem dX9_faultOfCommand_47 : decode cX9_faultOfCommand 47 = .ok (.getstatic 287, 3) := by decide +kernel
theorem dX9_faultOfCommand_50 : decode cX9_faultOfCommand 50 = .ok (.aload_n 2, 1) := by decide +kernel
theorem dX9_faultOfCommand_51 : decode cX9_faultOfCommand 51 = .ok (.invokevirtual 293, 3) := by decide +kernel
theorem dX9_faultOfCommand_54 : decode cX9_faultOfCommand 54 = .ok (.iaload, 1) := by decide +kernel
theorem dX9_faultOfCommand_55 : decode cX9_faultOfCommand 55 = .ok (.tableswitch 145 1 11 #[57, 67, 75, 83, 93, 101, 107, 114, 121, 129, 137], 57) := by decide +kernel
theorem dX9_faultOfCommand_112 : decode cX9_faultOfCommand 112 = .ok (.aload_n 0, 1) := by decide +kernel
theorem dX9_faultOfCommand_113 : decode cX9_faultOfCommand 113 = .ok (.iload_n 3, 1) := by decide +kernel
theorem dX9_faultOfCommand_114 : decode cX9_faultOfCommand 114 = .ok (.iload 4, 2) := by decide +kernel
theorem dX9_faultOfCommand_116 : decode cX9_faultOfCommand 116 = .ok (.iload 5, 2) := by decide +kernel
theorem dX9_faultOfCommand_118 : decode cX9_faultOfCommand 118 = .ok (.invokevirtual 30, 3) := by decide +kernel
theorem dX9_faultOfCommand_121 : decode cX9_faultOfCommand 121 = .ok (.ireturn, 1) := by decide +kernel
theorem dX9_faultOfCommand_122 : decode cX9_faultOfCommand 122 = .ok (.aload_n 0, 1) := by decide +kernel
theorem dX9_faultOfCommand_123 : decode cX9_faultOfCommand 123 = .ok (.iload_n 3, 1) := by decide +kernel
theorem dX9_faultOfCommand_124 : decode cX9_faultOfCommand 124 = .ok (.iload 4, 2) := by decide +kernel
theorem dX9_faultOfCommand_126 : decode cX9_faultOfCommand 126 = .ok (.invokevirtual 45, 3) := by decide +kernel
theorem dX9_faultOfCommand_129 : decode cX9_faultOfCommand 129 = .ok (.ireturn, 1) := by decide +kernel
theorem dX9_faultOfCommand_130 : decode cX9_faultOfCommand 130 = .ok (.aload_n 0, 1) := by decide +kernel
theorem dX9_faultOfCommand_131 : decode cX9_faultOfCommand 131 = .ok (.iload_n 3, 1) := by decide +kernel
theorem dX9_faultOfCommand_132 : decode cX9_faultOfCommand 132 = .ok (.iload 4, 2) := by decide +kernel
theorem dX9_faultOfCommand_134 : decode cX9_faultOfCommand 134 = .ok (.invokevirtual 52, 3) := by decide +kernel
theorem dX9_faultOfCommand_137 : decode cX9_faultOfCommand 137 = .ok (.ireturn, 1) := by decide +kernel
theorem dX9_faultOfCommand_138 : decode cX9_faultOfCommand 138 = .ok (.aload_n 0, 1) := by decide +kernel
theorem dX9_faultOfCommand_139 : decode cX9_faultOfCommand 139 = .ok (.iload_n 3, 1) := by decide +kernel
theorem dX9_faultOfCommand_140 : decode cX9_faultOfCommand 140 = .ok (.iload 4, 2) := by decide +kernel
theorem dX9_faultOfCommand_142 : decode cX9_faultOfCommand 142 = .ok (.iload 5, 2) := by decide +kernel
theorem dX9_faultOfCommand_144 : decode cX9_faultOfCommand 144 = .ok (.invokevirtual 64, 3) := by decide +kernel
theorem dX9_faultOfCommand_147 : decode cX9_faultOfCommand 147 = .ok (.ireturn, 1) := by decide +kernel
theorem dX9_faultOfCommand_148 : decode cX9_faultOfCommand 148 = .ok (.aload_n 0, 1) := by decide +kernel
theorem dX9_faultOfCommand_149 : decode cX9_faultOfCommand 149 = .ok (.iload_n 3, 1) := by decide +kernel
theorem dX9_faultOfCommand_150 : decode cX9_faultOfCommand 150 = .ok (.bipush 99, 2) := by decide +kernel
theorem dX9_faultOfCommand_152 : decode cX9_faultOfCommand 152 = .ok (.invokevirtual 70, 3) := by decide +kernel
theorem dX9_faultOfCommand_155 : decode cX9_faultOfCommand 155 = .ok (.ireturn, 1) := by decide +kernel
theorem dX9_faultOfCommand_156 : decode cX9_faultOfCommand 156 = .ok (.aload_n 0, 1) := by decide +kernel
theorem dX9_faultOfCommand_157 : decode cX9_faultOfCommand 157 = .ok (.iload_n 3, 1) := by decide +kernel
theorem dX9_faultOfCommand_158 : decode cX9_faultOfCommand 158 = .ok (.invokevirtual 76, 3) := by decide +kernel
theorem dX9_faultOfCommand_161 : decode cX9_faultOfCommand 161 = .ok (.ireturn, 1) := by decide +kernel
theorem dX9_faultOfCommand_162 : decode cX9_faultOfCommand 162 = .ok (.aload_n 0, 1) := by decide +kernel
theorem dX9_faultOfCommand_163 : decode cX9_faultOfCommand 163 = .ok (.iload_n 3, 1) := by decide +kernel
theorem dX9_faultOfCommand_164 : decode cX9_faultOfCommand 164 = .ok (.iconst 1, 1) := by decide +kernel
theorem dX9_faultOfCommand_165 : decode cX9_faultOfCommand 165 = .ok (.invokevirtual 83, 3) := by decide +kernel
theorem dX9_faultOfCommand_168 : decode cX9_faultOfCommand 168 = .ok (.ireturn, 1) := by decide +kernel
theorem dX9_faultOfCommand_169 : decode cX9_faultOfCommand 169 = .ok (.aload_n 0, 1) := by decide +kernel
theorem dX9_faultOfCommand_170 : decode cX9_faultOfCommand 170 = .ok (.iload_n 3, 1) := by decide +kernel
theorem dX9_faultOfCommand_171 : decode cX9_faultOfCommand 171 = .ok (.iconst 0, 1) := by decide +kernel
theorem dX9_faultOfCommand_172 : decode cX9_faultOfCommand 172 = .ok (.invokevirtual 83, 3) := by decide +kernel
theorem dX9_faultOfCommand_175 : decode cX9_faultOfCommand 175 = .ok (.ireturn, 1) := by decide +kernel
theorem dX9_faultOfCommand_176 : decode cX9_faultOfCommand 176 = .ok (.aload_n 0, 1) := by decide +kernel
theorem dX9_faultOfCommand_177 : decode cX9_faultOfCommand 177 = .ok (.iload_n 3, 1) := by decide +kernel
theorem dX9_faultOfCommand_178 : decode cX9_faultOfCommand 178 = .ok (.iload 4, 2) := by decide +kernel
theorem dX9_faultOfCommand_180 : decode cX9_faultOfCommand 180 = .ok (.invokevirtual 102, 3) := by decide +kernel
theorem dX9_faultOfCommand_183 : decode cX9_faultOfCommand 183 = .ok (.ireturn, 1) := by decide +kernel
theorem dX9_faultOfCommand_184 : decode cX9_faultOfCommand 184 = .ok (.aload_n 0, 1) := by decide +kernel
theorem dX9_faultOfCommand_185 : decode cX9_faultOfCommand 185 = .ok (.iload_n 3, 1) := by decide +kernel
theorem dX9_faultOfCommand_186 : decode cX9_faultOfCommand 186 = .ok (.iload 4, 2) := by decide +kernel
theorem dX9_faultOfCommand_188 : decode cX9_faultOfCommand 188 = .ok (.invokevirtual 114, 3) := by decide +kernel
theorem dX9_faultOfCommand_191 : decode cX9_faultOfCommand 191 = .ok (.ireturn, 1) := by decide +kernel
theorem dX9_faultOfCommand_192 : decode cX9_faultOfCommand 192 = .ok (.aload_n 0, 1) := by decide +kernel
theorem dX9_faultOfCommand_193 : decode cX9_faultOfCommand 193 = .ok (.iload_n 3, 1) := by decide +kernel
theorem dX9_faultOfCommand_194 : decode cX9_faultOfCommand 194 = .ok (.iload 4, 2) := by decide +kernel
theorem dX9_faultOfCommand_196 : decode cX9_faultOfCommand 196 = .ok (.invokevirtual 58, 3) := by decide +kernel
theorem dX9_faultOfCommand_199 : decode cX9_faultOfCommand 199 = .ok (.ireturn, 1) := by decide +kernel
theorem dX9_faultOfCommand_200 : decode cX9_faultOfCommand 200 = .ok (.aload_n 0, 1) := by decide +kernel
theorem dX9_faultOfCommand_201 : decode cX9_faultOfCommand 201 = .ok (.iload_n 3, 1) := by decide +kernel
theorem dX9_faultOfCommand_202 : decode cX9_faultOfCommand 202 = .ok (.invokevirtual 96, 3) := by decide +kernel
theorem dX9_faultOfCommand_205 : decode cX9_faultOfCommand 205 = .ok (.ireturn, 1) := by decide +kernel
theorem dX9_obey_0 : decode cX9_obey 0 = .ok (.aload_n 0, 1) := by decide +kernel
theorem dX9_obey_1 : decode cX9_obey 1 = .ok (.getfield 26, 3) := by decide +kernel
theorem dX9_obey_4 : decode cX9_obey 4 = .ok (.iload_n 1, 1) := by decide +kernel
theorem dX9_obey_5 : decode cX9_obey 5 = .ok (.invokevirtual 280, 3) := by decide +kernel
theorem dX9_obey_8 : decode cX9_obey 8 = .ok (.astore_n 2, 1) := by decide +kernel
theorem dX9_obey_9 : decode cX9_obey 9 = .ok (.aload_n 2, 1) := by decide +kernel
theorem dX9_obey_10 : decode cX9_obey 10 = .ok (.ifnonnull 4, 3) := by decide +kernel
theorem dX9_obey_13 : decode cX9_obey 13 = .ok (.return_, 1) := by decide +kernel
theorem dX9_obey_14 : decode cX9_obey 14 = .ok (.aload_n 0, 1) := by decide +kernel
theorem dX9_obey_15 : decode cX9_obey 15 = .ok (.getfield 26, 3) := by decide +kernel
theorem dX9_obey_18 : decode cX9_obey 18 = .ok (.iload_n 1, 1) := by decide +kernel
theorem dX9_obey_19 : decode cX9_obey 19 = .ok (.iconst 0, 1) := by decide +kernel
theorem dX9_obey_20 : decode cX9_obey 20 = .ok (.invokevirtual 284, 3) := by decide +kernel
theorem dX9_obey_23 : decode cX9_obey 23 = .ok (.istore_n 3, 1) := by decide +kernel
theorem dX9_obey_24 : decode cX9_obey 24 = .ok (.aload_n 0, 1) := by decide +kernel
theorem dX9_obey_25 : decode cX9_obey 25 = .ok (.getfield 26, 3) := by decide +kernel
theorem dX9_obey_28 : decode cX9_obey 28 = .ok (.iload_n 1, 1) := by decide +kernel
theorem dX9_obey_29 : decode cX9_obey 29 = .ok (.iconst 1, 1) := by decide +kernel
theorem dX9_obey_30 : decode cX9_obey 30 = .ok (.invokevirtual 284, 3) := by decide +kernel
theorem dX9_obey_33 : decode cX9_obey 33 = .ok (.istore 4, 2) := by decide +kernel
theorem dX9_obey_35 : decode cX9_obey 35 = .ok (.aload_n 0, 1) := by decide +kernel
theorem dX9_obey_36 : decode cX9_obey 36 = .ok (.getfield 26, 3) := by decide +kernel
theorem dX9_obey_39 : decode cX9_obey 39 = .ok (.iload_n 1, 1) := by decide +kernel
theorem dX9_obey_40 : decode cX9_obey 40 = .ok (.iconst 2, 1) := by decide +kernel
theorem dX9_obey_41 : decode cX9_obey 41 = .ok (.invokevirtual 284, 3) := by decide +kernel
theorem dX9_obey_44 : decode cX9_obey 44 = .ok (.istore 5, 2) := by decide +kernel
theorem dX9_obey_46 : decode cX9_obey 46 = .ok (.getstatic 287, 3) := by decide +kernel
theorem dX9_obey_49 : decode cX9_obey 49 = .ok (.aload_n 2, 1) := by decide +kernel
theorem dX9_obey_50 : decode cX9_obey 50 = .ok (.invokevirtual 293, 3) := by decide +kernel
theorem dX9_obey_53 : decode cX9_obey 53 = .ok (.iaload, 1) := by decide +kernel
theorem dX9_obey_54 : decode cX9_obey 54 = .ok (.tableswitch 212 1 11 #[58, 74, 88, 102, 118, 132, 144, 157, 170, 184, 198], 58) := by decide +kernel
theorem dX9_obey_112 : decode cX9_obey 112 = .ok (.aload_n 0, 1) := by decide +kernel
theorem dX9_obey_113 : decode cX9_obey 113 = .ok (.getfield 10, 3) := by decide +kernel
theorem dX9_obey_116 : decode cX9_obey 116 = .ok (.iload_n 3, 1) := by decide +kernel
theorem dX9_obey_117 : decode cX9_obey 117 = .ok (.iload 4, 2) := by decide +kernel
theorem dX9_obey_119 : decode cX9_obey 119 = .ok (.iload 5, 2) := by decide +kernel
theorem dX9_obey_121 : decode cX9_obey 121 = .ok (.invokevirtual 42, 3) := by decide +kernel
theorem dX9_obey_124 : decode cX9_obey 124 = .ok (.pop, 1) := by decide +kernel
theorem dX9_obey_125 : decode cX9_obey 125 = .ok (.goto 150, 3) := by decide +kernel
theorem dX9_obey_128 : decode cX9_obey 128 = .ok (.aload_n 0, 1) := by decide +kernel
theorem dX9_obey_129 : decode cX9_obey 129 = .ok (.getfield 10, 3) := by decide +kernel
theorem dX9_obey_132 : decode cX9_obey 132 = .ok (.iload_n 3, 1) := by decide +kernel
theorem dX9_obey_133 : decode cX9_obey 133 = .ok (.iload 4, 2) := by decide +kernel
theorem dX9_obey_135 : decode cX9_obey 135 = .ok (.invokevirtual 49, 3) := by decide +kernel
theorem dX9_obey_138 : decode cX9_obey 138 = .ok (.pop, 1) := by decide +kernel
theorem dX9_obey_139 : decode cX9_obey 139 = .ok (.goto 136, 3) := by decide +kernel
theorem dX9_obey_142 : decode cX9_obey 142 = .ok (.aload_n 0, 1) := by decide +kernel
theorem dX9_obey_143 : decode cX9_obey 143 = .ok (.getfield 10, 3) := by decide +kernel
theorem dX9_obey_146 : decode cX9_obey 146 = .ok (.iload_n 3, 1) := by decide +kernel
theorem dX9_obey_147 : decode cX9_obey 147 = .ok (.iload 4, 2) := by decide +kernel
theorem dX9_obey_149 : decode cX9_obey 149 = .ok (.invokevirtual 55, 3) := by decide +kernel
theorem dX9_obey_152 : decode cX9_obey 152 = .ok (.pop, 1) := by decide +kernel
theorem dX9_obey_153 : decode cX9_obey 153 = .ok (.goto 122, 3) := by decide +kernel
theorem dX9_obey_156 : decode cX9_obey 156 = .ok (.aload_n 0, 1) := by decide +kernel
theorem dX9_obey_157 : decode cX9_obey 157 = .ok (.getfield 10, 3) := by decide +kernel
theorem dX9_obey_160 : decode cX9_obey 160 = .ok (.iload_n 3, 1) := by decide +kernel
theorem dX9_obey_161 : decode cX9_obey 161 = .ok (.iload 4, 2) := by decide +kernel
theorem dX9_obey_163 : decode cX9_obey 163 = .ok (.iload 5, 2) := by decide +kernel
theorem dX9_obey_165 : decode cX9_obey 165 = .ok (.invokevirtual 67, 3) := by decide +kernel
theorem dX9_obey_168 : decode cX9_obey 168 = .ok (.pop, 1) := by decide +kernel
theorem dX9_obey_169 : decode cX9_obey 169 = .ok (.goto 106, 3) := by decide +kernel
theorem dX9_obey_172 : decode cX9_obey 172 = .ok (.aload_n 0, 1) := by decide +kernel
theorem dX9_obey_173 : decode cX9_obey 173 = .ok (.getfield 10, 3) := by decide +kernel
theorem dX9_obey_176 : decode cX9_obey 176 = .ok (.iload_n 3, 1) := by decide +kernel
theorem dX9_obey_177 : decode cX9_obey 177 = .ok (.bipush 99, 2) := by decide +kernel
theorem dX9_obey_179 : decode cX9_obey 179 = .ok (.invokevirtual 73, 3) := by decide +kernel
theorem dX9_obey_182 : decode cX9_obey 182 = .ok (.pop, 1) := by decide +kernel
theorem dX9_obey_183 : decode cX9_obey 183 = .ok (.goto 92, 3) := by decide +kernel
theorem dX9_obey_186 : decode cX9_obey 186 = .ok (.aload_n 0, 1) := by decide +kernel
theorem dX9_obey_187 : decode cX9_obey 187 = .ok (.getfield 10, 3) := by decide +kernel
theorem dX9_obey_190 : decode cX9_obey 190 = .ok (.iload_n 3, 1) := by decide +kernel
theorem dX9_obey_191 : decode cX9_obey 191 = .ok (.invokevirtual 80, 3) := by decide +kernel
theorem dX9_obey_194 : decode cX9_obey 194 = .ok (.pop, 1) := by decide +kernel
theorem dX9_obey_195 : decode cX9_obey 195 = .ok (.goto 80, 3) := by decide +kernel
theorem dX9_obey_198 : decode cX9_obey 198 = .ok (.aload_n 0, 1) := by decide +kernel
theorem dX9_obey_199 : decode cX9_obey 199 = .ok (.getfield 10, 3) := by decide +kernel
theorem dX9_obey_202 : decode cX9_obey 202 = .ok (.iload_n 3, 1) := by decide +kernel
theorem dX9_obey_203 : decode cX9_obey 203 = .ok (.iconst 1, 1) := by decide +kernel
theorem dX9_obey_204 : decode cX9_obey 204 = .ok (.invokevirtual 87, 3) := by decide +kernel
theorem dX9_obey_207 : decode cX9_obey 207 = .ok (.pop, 1) := by decide +kernel
theorem dX9_obey_208 : decode cX9_obey 208 = .ok (.goto 67, 3) := by decide +kernel
theorem dX9_obey_211 : decode cX9_obey 211 = .ok (.aload_n 0, 1) := by decide +kernel
theorem dX9_obey_212 : decode cX9_obey 212 = .ok (.getfield 10, 3) := by decide +kernel
theorem dX9_obey_215 : decode cX9_obey 215 = .ok (.iload_n 3, 1) := by decide +kernel
theorem dX9_obey_216 : decode cX9_obey 216 = .ok (.iconst 0, 1) := by decide +kernel
theorem dX9_obey_217 : decode cX9_obey 217 = .ok (.invokevirtual 87, 3) := by decide +kernel
theorem dX9_obey_220 : decode cX9_obey 220 = .ok (.pop, 1) := by decide +kernel
theorem dX9_obey_221 : decode cX9_obey 221 = .ok (.goto 54, 3) := by decide +kernel
theorem dX9_obey_224 : decode cX9_obey 224 = .ok (.aload_n 0, 1) := by decide +kernel
theorem dX9_obey_225 : decode cX9_obey 225 = .ok (.getfield 10, 3) := by decide +kernel
theorem dX9_obey_228 : decode cX9_obey 228 = .ok (.iload_n 3, 1) := by decide +kernel
theorem dX9_obey_229 : decode cX9_obey 229 = .ok (.iload 4, 2) := by decide +kernel
theorem dX9_obey_231 : decode cX9_obey 231 = .ok (.invokevirtual 105, 3) := by decide +kernel
theorem dX9_obey_234 : decode cX9_obey 234 = .ok (.pop, 1) := by decide +kernel
theorem dX9_obey_235 : decode cX9_obey 235 = .ok (.goto 40, 3) := by decide +kernel
theorem dX9_obey_238 : decode cX9_obey 238 = .ok (.aload_n 0, 1) := by decide +kernel
theorem dX9_obey_239 : decode cX9_obey 239 = .ok (.getfield 10, 3) := by decide +kernel
theorem dX9_obey_242 : decode cX9_obey 242 = .ok (.iload_n 3, 1) := by decide +kernel
theorem dX9_obey_243 : decode cX9_obey 243 = .ok (.iload 4, 2) := by decide +kernel
theorem dX9_obey_245 : decode cX9_obey 245 = .ok (.invokevirtual 117, 3) := by decide +kernel
theorem dX9_obey_248 : decode cX9_obey 248 = .ok (.pop, 1) := by decide +kernel
theorem dX9_obey_249 : decode cX9_obey 249 = .ok (.goto 26, 3) := by decide +kernel
theorem dX9_obey_252 : decode cX9_obey 252 = .ok (.aload_n 0, 1) := by decide +kernel
theorem dX9_obey_253 : decode cX9_obey 253 = .ok (.getfield 10, 3) := by decide +kernel
theorem dX9_obey_256 : decode cX9_obey 256 = .ok (.iload_n 3, 1) := by decide +kernel
theorem dX9_obey_257 : decode cX9_obey 257 = .ok (.iload 4, 2) := by decide +kernel
theorem dX9_obey_259 : decode cX9_obey 259 = .ok (.invokevirtual 61, 3) := by decide +kernel
theorem dX9_obey_262 : decode cX9_obey 262 = .ok (.pop, 1) := by decide +kernel
theorem dX9_obey_263 : decode cX9_obey 263 = .ok (.goto 12, 3) := by decide +kernel
theorem dX9_obey_266 : decode cX9_obey 266 = .ok (.aload_n 0, 1) := by decide +kernel
theorem dX9_obey_267 : decode cX9_obey 267 = .ok (.getfield 10, 3) := by decide +kernel
theorem dX9_obey_270 : decode cX9_obey 270 = .ok (.iload_n 3, 1) := by decide +kernel
theorem dX9_obey_271 : decode cX9_obey 271 = .ok (.invokevirtual 99, 3) := by decide +kernel
theorem dX9_obey_274 : decode cX9_obey 274 = .ok (.pop, 1) := by decide +kernel
theorem dX9_obey_275 : decode cX9_obey 275 = .ok (.return_, 1) := by decide +kernel
theorem dX10_init_0 : decode cX10_init 0 = .ok (.aload_n 0, 1) := by decide +kernel
theorem dX10_init_1 : decode cX10_init 1 = .ok (.invokespecial 1, 3) := by decide +kernel
theorem dX10_init_4 : decode cX10_init 4 = .ok (.aload_n 0, 1) := by decide +kernel
theorem dX10_init_5 : decode cX10_init 5 = .ok (.sipush 427, 3) := by decide +kernel
theorem dX10_init_8 : decode cX10_init 8 = .ok (.newarray .long, 2) := by decide +kernel
theorem dX10_init_10 : decode cX10_init 10 = .ok (.putfield 7, 3) := by decide +kernel
theorem dX10_init_13 : decode cX10_init 13 = .ok (.aload_n 0, 1) := by decide +kernel
theorem dX10_init_14 : decode cX10_init 14 = .ok (.sipush 1708, 3) := by decide +kernel
theorem dX10_init_17 : decode cX10_init 17 = .ok (.newarray .long, 2) := by decide +kernel
theorem dX10_init_19 : decode cX10_init 19 = .ok (.putfield 13, 3) := by decide +kernel
theorem dX10_init_22 : decode cX10_init 22 = .ok (.aload_n 0, 1) := by decide +kernel
theorem dX10_init_23 : decode cX10_init 23 = .ok (.sipush 427, 3) := by decide +kernel
theorem dX10_init_26 : decode cX10_init 26 = .ok (.newarray .long, 2) := by decide +kernel
theorem dX10_init_28 : decode cX10_init 28 = .ok (.putfield 16, 3) := by decide +kernel
theorem dX10_init_31 : decode cX10_init 31 = .ok (.aload_n 0, 1) := by decide +kernel
theorem dX10_init_32 : decode cX10_init 32 = .ok (.sipush 150, 3) := by decide +kernel
theorem dX10_init_35 : decode cX10_init 35 = .ok (.newarray .int, 2) := by decide +kernel
theorem dX10_init_37 : decode cX10_init 37 = .ok (.putfield 19, 3) := by decide +kernel
theorem dX10_init_40 : decode cX10_init 40 = .ok (.aload_n 0, 1) := by decide +kernel
theorem dX10_init_41 : decode cX10_init 41 = .ok (.iconst 3, 1) := by decide +kernel
theorem dX10_init_42 : decode cX10_init 42 = .ok (.newarray .int, 2) := by decide +kernel
theorem dX10_init_44 : decode cX10_init 44 = .ok (.putfield 23, 3) := by decide +kernel
theorem dX10_init_47 : decode cX10_init 47 = .ok (.aload_n 0, 1) := by decide +kernel
theorem dX10_init_48 : decode cX10_init 48 = .ok (.sipush 427, 3) := by decide +kernel
theorem dX10_init_51 : decode cX10_init 51 = .ok (.newarray .long, 2) := by decide +kernel
theorem dX10_init_53 : decode cX10_init 53 = .ok (.putfield 26, 3) := by decide +kernel
theorem dX10_init_56 : decode cX10_init 56 = .ok (.return_, 1) := by decide +kernel
theorem dX10_thrown_0 : decode cX10_thrown 0 = .ok (.aload_n 0, 1) := by decide +kernel
theorem dX10_thrown_1 : decode cX10_thrown 1 = .ok (.getfield 29, 3) := by decide +kernel
theorem dX10_thrown_4 : decode cX10_thrown 4 = .ok (.ireturn, 1) := by decide +kernel
theorem dX10_in_0 : decode cX10_in 0 = .ok (.lload_n 0, 1) := by decide +kernel
theorem dX10_in_1 : decode cX10_in 1 = .ok (.lload_n 2, 1) := by decide +kernel
theorem dX10_in_2 : decode cX10_in 2 = .ok (.lcmp, 1) := by decide +kernel
theorem dX10_in_3 : decode cX10_in 3 = .ok (.ifCond .lt 14, 3) := by decide +kernel
theorem dX10_in_6 : decode cX10_in 6 = .ok (.lload_n 0, 1) := by decide +kernel
theorem dX10_in_7 : decode cX10_in 7 = .ok (.lload 4, 2) := by decide +kernel
theorem dX10_in_9 : decode cX10_in 9 = .ok (.lcmp, 1) := by decide +kernel
theorem dX10_in_10 : decode cX10_in 10 = .ok (.ifCond .gt 7, 3) := by decide +kernel
theorem dX10_in_13 : decode cX10_in 13 = .ok (.iconst 1, 1) := by decide +kernel
theorem dX10_in_14 : decode cX10_in 14 = .ok (.goto 4, 3) := by decide +kernel
theorem dX10_in_17 : decode cX10_in 17 = .ok (.iconst 0, 1) := by decide +kernel
theorem dX10_in_18 : decode cX10_in 18 = .ok (.ireturn, 1) := by decide +kernel
theorem dX10_fails_0 : decode cX10_fails 0 = .ok (.aload_n 0, 1) := by decide +kernel
theorem dX10_fails_1 : decode cX10_fails 1 = .ok (.iload_n 1, 1) := by decide +kernel
theorem dX10_fails_2 : decode cX10_fails 2 = .ok (.putfield 29, 3) := by decide +kernel
theorem dX10_fails_5 : decode cX10_fails 5 = .ok (.iconst 0, 1) := by decide +kernel
theorem dX10_fails_6 : decode cX10_fails 6 = .ok (.ireturn, 1) := by decide +kernel
theorem dX10_tells_0 : decode cX10_tells 0 = .ok (.aload_n 0, 1) := by decide +kernel
theorem dX10_tells_1 : decode cX10_tells 1 = .ok (.iconst 0, 1) := by decide +kernel
theorem dX10_tells_2 : decode cX10_tells 2 = .ok (.putfield 29, 3) := by decide +kernel
theorem dX10_tells_5 : decode cX10_tells 5 = .ok (.lload_n 1, 1) := by decide +kernel
theorem dX10_tells_6 : decode cX10_tells 6 = .ok (.l2i, 1) := by decide +kernel
theorem dX10_tells_7 : decode cX10_tells 7 = .ok (.ireturn, 1) := by decide +kernel
theorem dX10_laysAside_0 : decode cX10_laysAside 0 = .ok (.iconst 0, 1) := by decide +kernel
theorem dX10_laysAside_1 : decode cX10_laysAside 1 = .ok (.istore_n 1, 1) := by decide +kernel
theorem dX10_laysAside_2 : decode cX10_laysAside 2 = .ok (.iload_n 1, 1) := by decide +kernel
theorem dX10_laysAside_3 : decode cX10_laysAside 3 = .ok (.sipush 427, 3) := by decide +kernel
theorem dX10_laysAside_6 : decode cX10_laysAside 6 = .ok (.if_icmp .ge 21, 3) := by decide +kernel
theorem dX10_laysAside_9 : decode cX10_laysAside 9 = .ok (.aload_n 0, 1) := by decide +kernel
theorem dX10_laysAside_10 : decode cX10_laysAside 10 = .ok (.getfield 16, 3) := by decide +kernel
theorem dX10_laysAside_13 : decode cX10_laysAside 13 = .ok (.iload_n 1, 1) := by decide +kernel
theorem dX10_laysAside_14 : decode cX10_laysAside 14 = .ok (.aload_n 0, 1) := by decide +kernel
theorem dX10_laysAside_15 : decode cX10_laysAside 15 = .ok (.getfield 7, 3) := by decide +kernel
theorem dX10_laysAside_18 : decode cX10_laysAside 18 = .ok (.iload_n 1, 1) := by decide +kernel
theorem dX10_laysAside_19 : decode cX10_laysAside 19 = .ok (.laload, 1) := by decide +kernel
theorem dX10_laysAside_20 : decode cX10_laysAside 20 = .ok (.lastore, 1) := by decide +kernel
theorem dX10_laysAside_21 : decode cX10_laysAside 21 = .ok (.iinc 1 1, 3) := by decide +kernel
theorem dX10_laysAside_24 : decode cX10_laysAside 24 = .ok (.goto (-22), 3) := by decide +kernel
theorem dX10_laysAside_27 : decode cX10_laysAside 27 = .ok (.return_, 1) := by decide +kernel
theorem dX10_bringsBack_0 : decode cX10_bringsBack 0 = .ok (.iconst 0, 1) := by decide +kernel
theorem dX10_bringsBack_1 : decode cX10_bringsBack 1 = .ok (.istore_n 1, 1) := by decide +kernel
theorem dX10_bringsBack_2 : decode cX10_bringsBack 2 = .ok (.iload_n 1, 1) := by decide +kernel
theorem dX10_bringsBack_3 : decode cX10_bringsBack 3 = .ok (.sipush 427, 3) := by decide +kernel
theorem dX10_bringsBack_6 : decode cX10_bringsBack 6 = .ok (.if_icmp .ge 21, 3) := by decide +kernel
theorem dX10_bringsBack_9 : decode cX10_bringsBack 9 = .ok (.aload_n 0, 1) := by decide +kernel
theorem dX10_bringsBack_10 : decode cX10_bringsBack 10 = .ok (.getfield 7, 3) := by decide +kernel
theorem dX10_bringsBack_13 : decode cX10_bringsBack 13 = .ok (.iload_n 1, 1) := by decide +kernel
theorem dX10_bringsBack_14 : decode cX10_bringsBack 14 = .ok (.aload_n 0, 1) := by decide +kernel
theorem dX10_bringsBack_15 : decode cX10_bringsBack 15 = .ok (.getfield 16, 3) := by decide +kernel
theorem dX10_bringsBack_18 : decode cX10_bringsBack 18 = .ok (.iload_n 1, 1) := by decide +kernel
theorem dX10_bringsBack_19 : decode cX10_bringsBack 19 = .ok (.laload, 1) := by decide +kernel
theorem dX10_bringsBack_20 : decode cX10_bringsBack 20 = .ok (.lastore, 1) := by decide +kernel
theorem dX10_bringsBack_21 : decode cX10_bringsBack 21 = .ok (.iinc 1 1, 3) := by decide +kernel
theorem dX10_bringsBack_24 : decode cX10_bringsBack 24 = .ok (.goto (-22), 3) := by decide +kernel
theorem dX10_bringsBack_27 : decode cX10_bringsBack 27 = .ok (.return_, 1) := by decide +kernel
theorem dX10_keeps_0 : decode cX10_keeps 0 = .ok (.aload_n 0, 1) := by decide +kernel
theorem dX10_keeps_1 : decode cX10_keeps 1 = .ok (.getfield 33, 3) := by decide +kernel
theorem dX10_keeps_4 : decode cX10_keeps 4 = .ok (.iconst 4, 1) := by decide +kernel
theorem dX10_keeps_5 : decode cX10_keeps 5 = .ok (.if_icmp .ne 44, 3) := by decide +kernel
theorem dX10_keeps_8 : decode cX10_keeps 8 = .ok (.iconst 0, 1) := by decide +kernel
theorem dX10_keeps_9 : decode cX10_keeps 9 = .ok (.istore_n 1, 1) := by decide +kernel
theorem dX10_keeps_10 : decode cX10_keeps 10 = .ok (.iload_n 1, 1) := by decide +kernel
theorem dX10_keeps_11 : decode cX10_keeps 11 = .ok (.sipush 1281, 3) := by decide +kernel
theorem dX10_keeps_14 : decode cX10_keeps 14 = .ok (.if_icmp .ge 25, 3) := by decide +kernel
theorem dX10_keeps_17 : decode cX10_keeps 17 = .ok (.aload_n 0, 1) := by decide +kernel
theorem dX10_keeps_18 : decode cX10_keeps 18 = .ok (.getfield 13, 3) := by decide +kernel
theorem dX10_keeps_21 : decode cX10_keeps 21 = .ok (.iload_n 1, 1) := by decide +kernel
theorem dX10_keeps_22 : decode cX10_keeps 22 = .ok (.aload_n 0, 1) := by decide +kernel
theorem dX10_keeps_23 : decode cX10_keeps 23 = .ok (.getfield 13, 3) := by decide +kernel
theorem dX10_keeps_26 : decode cX10_keeps 26 = .ok (.iload_n 1, 1) := by decide +kernel
theorem dX10_keeps_27 : decode cX10_keeps 27 = .ok (.sipush 427, 3) := by decide +kernel
theorem dX10_keeps_30 : decode cX10_keeps 30 = .ok (.iadd, 1) := by decide +kernel
theorem dX10_keeps_31 : decode cX10_keeps 31 = .ok (.laload, 1) := by decide +kernel
theorem dX10_keeps_32 : decode cX10_keeps 32 = .ok (.lastore, 1) := by decide +kernel
theorem dX10_keeps_33 : decode cX10_keeps 33 = .ok (.iinc 1 1, 3) := by decide +kernel
theorem dX10_keeps_36 : decode cX10_keeps 36 = .ok (.goto (-26), 3) := by decide +kernel
theorem dX10_keeps_39 : decode cX10_keeps 39 = .ok (.aload_n 0, 1) := by decide +kernel
theorem dX10_keeps_40 : decode cX10_keeps 40 = .ok (.dup, 1) := by decide +kernel
theorem dX10_keeps_41 : decode cX10_keeps 41 = .ok (.getfield 33, 3) := by decide +kernel
theorem dX10_keeps_44 : decode cX10_keeps 44 = .ok (.iconst 1, 1) := by decide +kernel
theorem dX10_keeps_45 : decode cX10_keeps 45 = .ok (.isub, 1) := by decide +kernel
theorem dX10_keeps_46 : decode cX10_keeps 46 = .ok (.putfield 33, 3) := by decide +kernel
theorem dX10_keeps_49 : decode cX10_keeps 49 = .ok (.iconst 0, 1) := by decide +kernel
theorem dX10_keeps_50 : decode cX10_keeps 50 = .ok (.istore_n 1, 1) := by decide +kernel
theorem dX10_keeps_51 : decode cX10_keeps 51 = .ok (.iload_n 1, 1) := by decide +kernel
theorem dX10_keeps_52 : decode cX10_keeps 52 = .ok (.sipush 427, 3) := by decide +kernel
theorem dX10_keeps_55 : decode cX10_keeps 55 = .ok (.if_icmp .ge 30, 3) := by decide +kernel
theorem dX10_keeps_58 : decode cX10_keeps 58 = .ok (.aload_n 0, 1) := by decide +kernel
theorem dX10_keeps_59 : decode cX10_keeps 59 = .ok (.getfield 13, 3) := by decide +kernel
theorem dX10_keeps_62 : decode cX10_keeps 62 = .ok (.sipush 427, 3) := by decide +kernel
theorem dX10_keeps_65 : decode cX10_keeps 65 = .ok (.aload_n 0, 1) := by decide +kernel
theorem dX10_keeps_66 : decode cX10_keeps 66 = .ok (.getfield 33, 3) := by decide +kernel
theorem dX10_keeps_69 : decode cX10_keeps 69 = .ok (.imul, 1) := by decide +kernel
theorem dX10_keeps_70 : decode cX10_keeps 70 = .ok (.iload_n 1, 1) := by decide +kernel
theorem dX10_keeps_71 : decode cX10_keeps 71 = .ok (.iadd, 1) := by decide +kernel
theorem dX10_keeps_72 : decode cX10_keeps 72 = .ok (.aload_n 0, 1) := by decide +kernel
theorem dX10_keeps_73 : decode cX10_keeps 73 = .ok (.getfield 16, 3) := by decide +kernel
theorem dX10_keeps_76 : decode cX10_keeps 76 = .ok (.iload_n 1, 1) := by decide +kernel
theorem dX10_keeps_77 : decode cX10_keeps 77 = .ok (.laload, 1) := by decide +kernel
theorem dX10_keeps_78 : decode cX10_keeps 78 = .ok (.lastore, 1) := by decide +kernel
theorem dX10_keeps_79 : decode cX10_keeps 79 = .ok (.iinc 1 1, 3) := by decide +kernel
theorem dX10_keeps_82 : decode cX10_keeps 82 = .ok (.goto (-31), 3) := by decide +kernel
theorem dX10_keeps_85 : decode cX10_keeps 85 = .ok (.aload_n 0, 1) := by decide +kernel
theorem dX10_keeps_86 : decode cX10_keeps 86 = .ok (.dup, 1) := by decide +kernel
theorem dX10_keeps_87 : decode cX10_keeps 87 = .ok (.getfield 33, 3) := by decide +kernel
theorem dX10_keeps_90 : decode cX10_keeps 90 = .ok (.iconst 1, 1) := by decide +kernel
theorem dX10_keeps_91 : decode cX10_keeps 91 = .ok (.iadd, 1) := by decide +kernel
theorem dX10_keeps_92 : decode cX10_keeps 92 = .ok (.putfield 33, 3) := by decide +kernel
theorem dX10_keeps_95 : decode cX10_keeps 95 = .ok (.return_, 1) := by decide +kernel
theorem dX10_ends_0 : decode cX10_ends 0 = .ok (.iload_n 3, 1) := by decide +kernel
theorem dX10_ends_1 : decode cX10_ends 1 = .ok (.ifCond .le 13, 3) := by decide +kernel
theorem dX10_ends_4 : decode cX10_ends 4 = .ok (.aload_n 0, 1) := by decide +kernel
theorem dX10_ends_5 : decode cX10_ends 5 = .ok (.invokevirtual 36, 3) := by decide +kernel
theorem dX10_ends_8 : decode cX10_ends 8 = .ok (.aload_n 0, 1) := by decide +kernel
theorem dX10_ends_9 : decode cX10_ends 9 = .ok (.iload_n 3, 1) := by decide +kernel
theorem dX10_ends_10 : decode cX10_ends 10 = .ok (.invokevirtual 39, 3) := by decide +kernel
theorem dX10_ends_13 : decode cX10_ends 13 = .ok (.ireturn, 1) := by decide +kernel
theorem dX10_ends_14 : decode cX10_ends 14 = .ok (.aload_n 0, 1) := by decide +kernel
theorem dX10_ends_15 : decode cX10_ends 15 = .ok (.invokevirtual 43, 3) := by decide +kernel
theorem dX10_ends_18 : decode cX10_ends 18 = .ok (.aload_n 0, 1) := by decide +kernel
theorem dX10_ends_19 : decode cX10_ends 19 = .ok (.lload_n 1, 1) := by decide +kernel
theorem dX10_ends_20 : decode cX10_ends 20 = .ok (.invokevirtual 46, 3) := by decide +kernel
theorem dX10_ends_23 : decode cX10_ends 23 = .ok (.ireturn, 1) := by decide +kernel
theorem dX10_isTrade_0 : decode cX10_isTrade 0 = .ok (.iload_n 1, 1) := by decide +kernel
theorem dX10_isTrade_1 : decode cX10_isTrade 1 = .ok (.i2l, 1) := by decide +kernel
theorem dX10_isTrade_2 : decode cX10_isTrade 2 = .ok (.lconst 0, 1) := by decide +kernel
theorem dX10_isTrade_3 : decode cX10_isTrade 3 = .ok (.aload_n 0, 1) := by decide +kernel
theorem dX10_isTrade_4 : decode cX10_isTrade 4 = .ok (.getfield 7, 3) := by decide +kernel
theorem dX10_isTrade_7 : decode cX10_isTrade 7 = .ok (.iconst 0, 1) := by decide +kernel
theorem dX10_isTrade_8 : decode cX10_isTrade 8 = .ok (.laload, 1) := by decide +kernel
theorem dX10_isTrade_9 : decode cX10_isTrade 9 = .ok (.lconst 1, 1) := by decide +kernel
theorem dX10_isTrade_10 : decode cX10_isTrade 10 = .ok (.lsub, 1) := by decide +kernel
theorem dX10_isTrade_11 : decode cX10_isTrade 11 = .ok (.invokestatic 50, 3) := by decide +kernel
theorem dX10_isTrade_14 : decode cX10_isTrade 14 = .ok (.ireturn, 1) := by decide +kernel
theorem dX10_isMentor_0 : decode cX10_isMentor 0 = .ok (.iload_n 1, 1) := by decide +kernel
theorem dX10_isMentor_1 : decode cX10_isMentor 1 = .ok (.i2l, 1) := by decide +kernel
theorem dX10_isMentor_2 : decode cX10_isMentor 2 = .ok (.lconst 0, 1) := by decide +kernel
theorem dX10_isMentor_3 : decode cX10_isMentor 3 = .ok (.aload_n 0, 1) := by decide +kernel
theorem dX10_isMentor_4 : decode cX10_isMentor 4 = .ok (.getfield 7, 3) := by decide +kernel
theorem dX10_isMentor_7 : decode cX10_isMentor 7 = .ok (.iconst 1, 1) := by decide +kernel
theorem dX10_isMentor_8 : decode cX10_isMentor 8 = .ok (.laload, 1) := by decide +kernel
theorem dX10_isMentor_9 : decode cX10_isMentor 9 = .ok (.lconst 1, 1) := by decide +kernel
theorem dX10_isMentor_10 : decode cX10_isMentor 10 = .ok (.lsub, 1) := by decide +kernel
theorem dX10_isMentor_11 : decode cX10_isMentor 11 = .ok (.invokestatic 50, 3) := by decide +kernel
theorem dX10_isMentor_14 : decode cX10_isMentor 14 = .ok (.ireturn, 1) := by decide +kernel
theorem dX10_isApprentice_0 : decode cX10_isApprentice 0 = .ok (.iload_n 1, 1) := by decide +kernel
theorem dX10_isApprentice_1 : decode cX10_isApprentice 1 = .ok (.i2l, 1) := by decide +kernel
theorem dX10_isApprentice_2 : decode cX10_isApprentice 2 = .ok (.lconst 0, 1) := by decide +kernel
theorem dX10_isApprentice_3 : decode cX10_isApprentice 3 = .ok (.aload_n 0, 1) := by decide +kernel
theorem dX10_isApprentice_4 : decode cX10_isApprentice 4 = .ok (.getfield 7, 3) := by decide +kernel
theorem dX10_isApprentice_7 : decode cX10_isApprentice 7 = .ok (.iconst 2, 1) := by decide +kernel
theorem dX10_isApprentice_8 : decode cX10_isApprentice 8 = .ok (.laload, 1) := by decide +kernel
theorem dX10_isApprentice_9 : decode cX10_isApprentice 9 = .ok (.lconst 1, 1) := by decide +kernel
theorem dX10_isApprentice_10 : decode cX10_isApprentice 10 = .ok (.lsub, 1) := by decide +kernel
theorem dX10_isApprentice_11 : decode cX10_isApprentice 11 = .ok (.invokestatic 50, 3) := by decide +kernel
theorem dX10_isApprentice_14 : decode cX10_isApprentice 14 = .ok (.ireturn, 1) := by decide +kernel
theorem dX10_isPart_0 : decode cX10_isPart 0 = .ok (.iload_n 0, 1) := by decide +kernel
theorem dX10_isPart_1 : decode cX10_isPart 1 = .ok (.i2l, 1) := by decide +kernel
theorem dX10_isPart_2 : decode cX10_isPart 2 = .ok (.lconst 0, 1) := by decide +kernel
theorem dX10_isPart_3 : decode cX10_isPart 3 = .ok (.ldc2_w 54, 3) := by decide +kernel
theorem dX10_isPart_6 : decode cX10_isPart 6 = .ok (.invokestatic 50, 3) := by decide +kernel
theorem dX10_isPart_9 : decode cX10_isPart 9 = .ok (.ireturn, 1) := by decide +kernel
theorem dX10_ofMentor_0 : decode cX10_ofMentor 0 = .ok (.aload_n 0, 1) := by decide +kernel
theorem dX10_ofMentor_1 : decode cX10_ofMentor 1 = .ok (.getfield 7, 3) := by decide +kernel
theorem dX10_ofMentor_4 : decode cX10_ofMentor 4 = .ok (.bipush 19, 2) := by decide +kernel
theorem dX10_ofMentor_6 : decode cX10_ofMentor 6 = .ok (.iconst 3, 1) := by decide +kernel
theorem dX10_ofMentor_7 : decode cX10_ofMentor 7 = .ok (.iload_n 1, 1) := by decide +kernel
theorem dX10_ofMentor_8 : decode cX10_ofMentor 8 = .ok (.imul, 1) := by decide +kernel
theorem dX10_ofMentor_9 : decode cX10_ofMentor 9 = .ok (.iadd, 1) := by decide +kernel
theorem dX10_ofMentor_10 : decode cX10_ofMentor 10 = .ok (.iload_n 2, 1) := by decide +kernel
theorem dX10_ofMentor_11 : decode cX10_ofMentor 11 = .ok (.iadd, 1) := by decide +kernel
theorem dX10_ofMentor_12 : decode cX10_ofMentor 12 = .ok (.laload, 1) := by decide +kernel
theorem dX10_ofMentor_13 : decode cX10_ofMentor 13 = .ok (.lreturn, 1) := by decide +kernel
theorem dX10_of_0 : decode cX10_of 0 = .ok (.aload_n 0, 1) := by decide +kernel
theorem dX10_of_1 : decode cX10_of 1 = .ok (.getfield 7, 3) := by decide +kernel
theorem dX10_of_4 : decode cX10_of 4 = .ok (.bipush 37, 2) := by decide +kernel
theorem dX10_of_6 : decode cX10_of 6 = .ok (.bipush 39, 2) := by decide +kernel
theorem dX10_of_8 : decode cX10_of 8 = .ok (.iload_n 1, 1) := by decide +kernel
theorem dX10_of_9 : decode cX10_of 9 = .ok (.imul, 1) := by decide +kernel
theorem dX10_of_10 : decode cX10_of 10 = .ok (.iadd, 1) := by decide +kernel
theorem dX10_of_11 : decode cX10_of 11 = .ok (.iload_n 2, 1) := by decide +kernel
theorem dX10_of_12 : decode cX10_of 12 = .ok (.iadd, 1) := by decide +kernel
theorem dX10_of_13 : decode cX10_of 13 = .ok (.laload, 1) := by decide +kernel
theorem dX10_of_14 : decode cX10_of 14 = .ok (.lreturn, 1) := by decide +kernel
theorem dX10_put_0 : decode cX10_put 0 = .ok (.aload_n 0, 1) := by decide +kernel
theorem dX10_put_1 : decode cX10_put 1 = .ok (.getfield 7, 3) := by decide +kernel
theorem dX10_put_4 : decode cX10_put 4 = .ok (.bipush 37, 2) := by decide +kernel
theorem dX10_put_6 : decode cX10_put 6 = .ok (.bipush 39, 2) := by decide +kernel
theorem dX10_put_8 : decode cX10_put 8 = .ok (.iload_n 1, 1) := by decide +kernel
theorem dX10_put_9 : decode cX10_put 9 = .ok (.imul, 1) := by decide +kernel
theorem dX10_put_10 : decode cX10_put 10 = .ok (.iadd, 1) := by decide +kernel
theorem dX10_put_11 : decode cX10_put 11 = .ok (.iload_n 2, 1) := by decide +kernel
theorem dX10_put_12 : decode cX10_put 12 = .ok (.iadd, 1) := by decide +kernel
theorem dX10_put_13 : decode cX10_put 13 = .ok (.lload_n 3, 1) := by decide +kernel
theorem dX10_put_14 : decode cX10_put 14 = .ok (.lastore, 1) := by decide +kernel
theorem dX10_put_15 : decode cX10_put 15 = .ok (.return_, 1) := by decide +kernel
theorem dX10_adds_0 : decode cX10_adds 0 = .ok (.aload_n 0, 1) := by decide +kernel
theorem dX10_adds_1 : decode cX10_adds 1 = .ok (.getfield 7, 3) := by decide +kernel
theorem dX10_adds_4 : decode cX10_adds 4 = .ok (.bipush 37, 2) := by decide +kernel
theorem dX10_adds_6 : decode cX10_adds 6 = .ok (.bipush 39, 2) := by decide +kernel
theorem dX10_adds_8 : decode cX10_adds 8 = .ok (.iload_n 1, 1) := by decide +kernel
theorem dX10_adds_9 : decode cX10_adds 9 = .ok (.imul, 1) := by decide +kernel
theorem dX10_adds_10 : decode cX10_adds 10 = .ok (.iadd, 1) := by decide +kernel
theorem dX10_adds_11 : decode cX10_adds 11 = .ok (.iload_n 2, 1) := by decide +kernel
theorem dX10_adds_12 : decode cX10_adds 12 = .ok (.iadd, 1) := by decide +kernel
theorem dX10_adds_13 : decode cX10_adds 13 = .ok (.dup2, 1) := by decide +kernel
theorem dX10_adds_14 : decode cX10_adds 14 = .ok (.laload, 1) := by decide +kernel
theorem dX10_adds_15 : decode cX10_adds 15 = .ok (.lload_n 3, 1) := by decide +kernel
theorem dX10_adds_16 : decode cX10_adds 16 = .ok (.ladd, 1) := by decide +kernel
theorem dX10_adds_17 : decode cX10_adds 17 = .ok (.lastore, 1) := by decide +kernel
theorem dX10_adds_18 : decode cX10_adds 18 = .ok (.return_, 1) := by decide +kernel
theorem dX10_mentorOf_0 : decode cX10_mentorOf 0 = .ok (.aload_n 0, 1) := by decide +kernel
theorem dX10_mentorOf_1 : decode cX10_mentorOf 1 = .ok (.iload_n 1, 1) := by decide +kernel
theorem dX10_mentorOf_2 : decode cX10_mentorOf 2 = .ok (.iconst 1, 1) := by decide +kernel
theorem dX10_mentorOf_3 : decode cX10_mentorOf 3 = .ok (.invokevirtual 56, 3) := by decide +kernel
theorem dX10_mentorOf_6 : decode cX10_mentorOf 6 = .ok (.l2i, 1) := by decide +kernel
theorem dX10_mentorOf_7 : decode cX10_mentorOf 7 = .ok (.ireturn, 1) := by decide +kernel
theorem dX10_needs_0 : decode cX10_needs 0 = .ok (.aload_n 0, 1) := by decide +kernel
theorem dX10_needs_1 : decode cX10_needs 1 = .ok (.getfield 7, 3) := by decide +kernel
theorem dX10_needs_4 : decode cX10_needs 4 = .ok (.iconst 4, 1) := by decide +kernel
theorem dX10_needs_5 : decode cX10_needs 5 = .ok (.iconst 3, 1) := by decide +kernel
theorem dX10_needs_6 : decode cX10_needs 6 = .ok (.aload_n 0, 1) := by decide +kernel
theorem dX10_needs_7 : decode cX10_needs 7 = .ok (.iload_n 1, 1) := by decide +kernel
theorem dX10_needs_8 : decode cX10_needs 8 = .ok (.iconst 0, 1) := by decide +kernel
theorem dX10_needs_9 : decode cX10_needs 9 = .ok (.invokevirtual 56, 3) := by decide +kernel
theorem dX10_needs_12 : decode cX10_needs 12 = .ok (.l2i, 1) := by decide +kernel
theorem dX10_needs_13 : decode cX10_needs 13 = .ok (.imul, 1) := by decide +kernel
theorem dX10_needs_14 : decode cX10_needs 14 = .ok (.iadd, 1) := by decide +kernel
theorem dX10_needs_15 : decode cX10_needs 15 = .ok (.iload_n 2, 1) := by decide +kernel
theorem dX10_needs_16 : decode cX10_needs 16 = .ok (.iadd, 1) := by decide +kernel
theorem dX10_needs_17 : decode cX10_needs 17 = .ok (.laload, 1) := by decide +kernel
theorem dX10_needs_18 : decode cX10_needs 18 = .ok (.lreturn, 1) := by decide +kernel
theorem dX10_isDay_0 : decode cX10_isDay 0 = .ok (.iload_n 3, 1) := by decide +kernel
theorem dX10_isDay_1 : decode cX10_isDay 1 = .ok (.sipush 200, 3) := by decide +kernel
theorem dX10_isDay_4 : decode cX10_isDay 4 = .ok (.if_icmp .ge 30, 3) := by decide +kernel
theorem dX10_isDay_7 : decode cX10_isDay 7 = .ok (.aload_n 0, 1) := by decide +kernel
theorem dX10_isDay_8 : decode cX10_isDay 8 = .ok (.iload_n 1, 1) := by decide +kernel
theorem dX10_isDay_9 : decode cX10_isDay 9 = .ok (.iload_n 2, 1) := by decide +kernel
theorem dX10_isDay_10 : decode cX10_isDay 10 = .ok (.iload_n 3, 1) := by decide +kernel
theorem dX10_isDay_11 : decode cX10_isDay 11 = .ok (.bipush 50, 2) := by decide +kernel
theorem dX10_isDay_13 : decode cX10_isDay 13 = .ok (.idiv, 1) := by decide +kernel
theorem dX10_isDay_14 : decode cX10_isDay 14 = .ok (.iadd, 1) := by decide +kernel
theorem dX10_isDay_15 : decode cX10_isDay 15 = .ok (.invokevirtual 56, 3) := by decide +kernel
theorem dX10_isDay_18 : decode cX10_isDay 18 = .ok (.iload_n 3, 1) := by decide +kernel
theorem dX10_isDay_19 : decode cX10_isDay 19 = .ok (.bipush 50, 2) := by decide +kernel
theorem dX10_isDay_21 : decode cX10_isDay 21 = .ok (.irem, 1) := by decide +kernel
theorem dX10_isDay_22 : decode cX10_isDay 22 = .ok (.lshr, 1) := by decide +kernel
theorem dX10_isDay_23 : decode cX10_isDay 23 = .ok (.lconst 1, 1) := by decide +kernel
theorem dX10_isDay_24 : decode cX10_isDay 24 = .ok (.land, 1) := by decide +kernel
theorem dX10_isDay_25 : decode cX10_isDay 25 = .ok (.lconst 1, 1) := by decide +kernel
theorem dX10_isDay_26 : decode cX10_isDay 26 = .ok (.lcmp, 1) := by decide +kernel
theorem dX10_isDay_27 : decode cX10_isDay 27 = .ok (.ifCond .ne 7, 3) := by decide +kernel
theorem dX10_isDay_30 : decode cX10_isDay 30 = .ok (.iconst 1, 1) := by decide +kernel
theorem dX10_isDay_31 : decode cX10_isDay 31 = .ok (.goto 4, 3) := by decide +kernel
theorem dX10_isDay_34 : decode cX10_isDay 34 = .ok (.iconst 0, 1) := by decide +kernel
theorem dX10_isDay_35 : decode cX10_isDay 35 = .ok (.ireturn, 1) := by decide +kernel
theorem dX10_putDay_0 : decode cX10_putDay 0 = .ok (.iload_n 3, 1) := by decide +kernel
theorem dX10_putDay_1 : decode cX10_putDay 1 = .ok (.sipush 200, 3) := by decide +kernel
theorem dX10_putDay_4 : decode cX10_putDay 4 = .ok (.if_icmp .ge 32, 3) := by decide +kernel
theorem dX10_putDay_7 : decode cX10_putDay 7 = .ok (.aload_n 0, 1) := by decide +kernel
theorem dX10_putDay_8 : decode cX10_putDay 8 = .ok (.iload_n 1, 1) := by decide +kernel
theorem dX10_putDay_9 : decode cX10_putDay 9 = .ok (.iload_n 2, 1) := by decide +kernel
theorem dX10_putDay_10 : decode cX10_putDay 10 = .ok (.iload_n 3, 1) := by decide +kernel
theorem dX10_putDay_11 : decode cX10_putDay 11 = .ok (.bipush 50, 2) := by decide +kernel
theorem dX10_putDay_13 : decode cX10_putDay 13 = .ok (.idiv, 1) := by decide +kernel
theorem dX10_putDay_14 : decode cX10_putDay 14 = .ok (.iadd, 1) := by decide +kernel
theorem dX10_putDay_15 : decode cX10_putDay 15 = .ok (.aload_n 0, 1) := by decide +kernel
theorem dX10_putDay_16 : decode cX10_putDay 16 = .ok (.iload_n 1, 1) := by decide +kernel
theorem dX10_putDay_17 : decode cX10_putDay 17 = .ok (.iload_n 2, 1) := by decide +kernel
theorem dX10_putDay_18 : decode cX10_putDay 18 = .ok (.iload_n 3, 1) := by decide +kernel
theorem dX10_putDay_19 : decode cX10_putDay 19 = .ok (.bipush 50, 2) := by decide +kernel
theorem dX10_putDay_21 : decode cX10_putDay 21 = .ok (.idiv, 1) := by decide +kernel
theorem dX10_putDay_22 : decode cX10_putDay 22 = .ok (.iadd, 1) := by decide +kernel
theorem dX10_putDay_23 : decode cX10_putDay 23 = .ok (.invokevirtual 56, 3) := by decide +kernel
theorem dX10_putDay_26 : decode cX10_putDay 26 = .ok (.lconst 1, 1) := by decide +kernel
theorem dX10_putDay_27 : decode cX10_putDay 27 = .ok (.iload_n 3, 1) := by decide +kernel
theorem dX10_putDay_28 : decode cX10_putDay 28 = .ok (.bipush 50, 2) := by decide +kernel
theorem dX10_putDay_30 : decode cX10_putDay 30 = .ok (.irem, 1) := by decide +kernel
theorem dX10_putDay_31 : decode cX10_putDay 31 = .ok (.lshl, 1) := by decide +kernel
theorem dX10_putDay_32 : decode cX10_putDay 32 = .ok (.lor, 1) := by decide +kernel
theorem dX10_putDay_33 : decode cX10_putDay 33 = .ok (.invokevirtual 60, 3) := by decide +kernel
theorem dX10_putDay_36 : decode cX10_putDay 36 = .ok (.return_, 1) := by decide +kernel
theorem dX10_releases_0 : decode cX10_releases 0 = .ok (.iconst 0, 1) := by decide +kernel
theorem dX10_releases_1 : decode cX10_releases 1 = .ok (.istore_n 2, 1) := by decide +kernel
theorem dX10_releases_2 : decode cX10_releases 2 = .ok (.iconst 0, 1) := by decide +kernel
theorem dX10_releases_3 : decode cX10_releases 3 = .ok (.istore_n 3, 1) := by decide +kernel
theorem dX10_releases_4 : decode cX10_releases 4 = .ok (.iload_n 3, 1) := by decide +kernel
theorem dX10_releases_5 : decode cX10_releases 5 = .ok (.sipush 200, 3) := by decide +kernel
theorem dX10_releases_8 : decode cX10_releases 8 = .ok (.if_icmp .ge 28, 3) := by decide +kernel
theorem dX10_releases_11 : decode cX10_releases 11 = .ok (.iload_n 2, 1) := by decide +kernel
theorem dX10_releases_12 : decode cX10_releases 12 = .ok (.aload_n 0, 1) := by decide +kernel
theorem dX10_releases_13 : decode cX10_releases 13 = .ok (.iload_n 1, 1) := by decide +kernel
theorem dX10_releases_14 : decode cX10_releases 14 = .ok (.bipush 11, 2) := by decide +kernel
theorem dX10_releases_16 : decode cX10_releases 16 = .ok (.iload_n 3, 1) := by decide +kernel
theorem dX10_releases_17 : decode cX10_releases 17 = .ok (.invokevirtual 64, 3) := by decide +kernel
theorem dX10_releases_20 : decode cX10_releases 20 = .ok (.ifCond .eq 7, 3) := by decide +kernel
theorem dX10_releases_23 : decode cX10_releases 23 = .ok (.iconst 1, 1) := by decide +kernel
theorem dX10_releases_24 : decode cX10_releases 24 = .ok (.goto 4, 3) := by decide +kernel
theorem dX10_releases_27 : decode cX10_releases 27 = .ok (.iconst 0, 1) := by decide +kernel
theorem dX10_releases_28 : decode cX10_releases 28 = .ok (.iadd, 1) := by decide +kernel
theorem dX10_releases_29 : decode cX10_releases 29 = .ok (.istore_n 2, 1) := by decide +kernel
theorem dX10_releases_30 : decode cX10_releases 30 = .ok (.iinc 3 1, 3) := by decide +kernel
theorem dX10_releases_33 : decode cX10_releases 33 = .ok (.goto (-29), 3) := by decide +kernel
theorem dX10_releases_36 : decode cX10_releases 36 = .ok (.iload_n 2, 1) := by decide +kernel
theorem dX10_releases_37 : decode cX10_releases 37 = .ok (.ireturn, 1) := by decide +kernel
theorem dX10_entryOf_0 : decode cX10_entryOf 0 = .ok (.aload_n 0, 1) := by decide +kernel
theorem dX10_entryOf_1 : decode cX10_entryOf 1 = .ok (.iload_n 1, 1) := by decide +kernel
theorem dX10_entryOf_2 : decode cX10_entryOf 2 = .ok (.bipush 19, 2) := by decide +kernel
theorem dX10_entryOf_4 : decode cX10_entryOf 4 = .ok (.iload_n 2, 1) := by decide +kernel
theorem dX10_entryOf_5 : decode cX10_entryOf 5 = .ok (.iadd, 1) := by decide +kernel
theorem dX10_entryOf_6 : decode cX10_entryOf 6 = .ok (.invokevirtual 56, 3) := by decide +kernel
theorem dX10_entryOf_9 : decode cX10_entryOf 9 = .ok (.l2i, 1) := by decide +kernel
theorem dX10_entryOf_10 : decode cX10_entryOf 10 = .ok (.istore 4, 2) := by decide +kernel
theorem dX10_entryOf_12 : decode cX10_entryOf 12 = .ok (.iload_n 3, 1) := by decide +kernel
theorem dX10_entryOf_13 : decode cX10_entryOf 13 = .ok (.ifCond .ne 10, 3) := by decide +kernel
theorem dX10_entryOf_16 : decode cX10_entryOf 16 = .ok (.iload 4, 2) := by decide +kernel
theorem dX10_entryOf_18 : decode cX10_entryOf 18 = .ok (.iconst 4, 1) := by decide +kernel
theorem dX10_entryOf_19 : decode cX10_entryOf 19 = .ok (.irem, 1) := by decide +kernel
theorem dX10_entryOf_20 : decode cX10_entryOf 20 = .ok (.goto 40, 3) := by decide +kernel
theorem dX10_entryOf_23 : decode cX10_entryOf 23 = .ok (.iload_n 3, 1) := by decide +kernel
theorem dX10_entryOf_24 : decode cX10_entryOf 24 = .ok (.iconst 1, 1) := by decide +kernel
theorem dX10_entryOf_25 : decode cX10_entryOf 25 = .ok (.if_icmp .ne 13, 3) := by decide +kernel
theorem dX10_entryOf_28 : decode cX10_entryOf 28 = .ok (.iload 4, 2) := by decide +kernel
theorem dX10_entryOf_30 : decode cX10_entryOf 30 = .ok (.iconst 4, 1) := by decide +kernel
theorem dX10_entryOf_31 : decode cX10_entryOf 31 = .ok (.idiv, 1) := by decide +kernel
theorem dX10_entryOf_32 : decode cX10_entryOf 32 = .ok (.bipush 16, 2) := by decide +kernel
theorem dX10_entryOf_34 : decode cX10_entryOf 34 = .ok (.irem, 1) := by decide +kernel
theorem dX10_entryOf_35 : decode cX10_entryOf 35 = .ok (.goto 25, 3) := by decide +kernel
theorem dX10_entryOf_38 : decode cX10_entryOf 38 = .ok (.iload_n 3, 1) := by decide +kernel
theorem dX10_entryOf_39 : decode cX10_entryOf 39 = .ok (.iconst 3, 1) := by decide +kernel
theorem dX10_entryOf_40 : decode cX10_entryOf 40 = .ok (.if_icmp .ne 14, 3) := by decide +kernel
theorem dX10_entryOf_43 : decode cX10_entryOf 43 = .ok (.iload 4, 2) := by decide +kernel
theorem dX10_entryOf_45 : decode cX10_entryOf 45 = .ok (.bipush 64, 2) := by decide +kernel
theorem dX10_entryOf_47 : decode cX10_entryOf 47 = .ok (.idiv, 1) := by decide +kernel
theorem dX10_entryOf_48 : decode cX10_entryOf 48 = .ok (.bipush 8, 2) := by decide +kernel
theorem dX10_entryOf_50 : decode cX10_entryOf 50 = .ok (.irem, 1) := by decide +kernel
theorem dX10_entryOf_51 : decode cX10_entryOf 51 = .ok (.goto 9, 3) := by decide +kernel
theorem dX10_entryOf_54 : decode cX10_entryOf 54 = .ok (.iload 4, 2) := by decide +kernel
theorem dX10_entryOf_56 : decode cX10_entryOf 56 = .ok (.sipush 512, 3) := by decide +kernel
theorem dX10_entryOf_59 : decode cX10_entryOf 59 = .ok (.idiv, 1) := by decide +kernel
theorem dX10_entryOf_60 : decode cX10_entryOf 60 = .ok (.ireturn, 1) := by decide +kernel
theorem dX10_entries_0 : decode cX10_entries 0 = .ok (.aload_n 0, 1) := by decide +kernel
theorem dX10_entries_1 : decode cX10_entries 1 = .ok (.iload_n 1, 1) := by decide +kernel
theorem dX10_entries_2 : decode cX10_entries 2 = .ok (.bipush 9, 2) := by decide +kernel
theorem dX10_entries_4 : decode cX10_entries 4 = .ok (.invokevirtual 56, 3) := by decide +kernel
theorem dX10_entries_7 : decode cX10_entries 7 = .ok (.aload_n 0, 1) := by decide +kernel
theorem dX10_entries_8 : decode cX10_entries 8 = .ok (.iload_n 1, 1) := by decide +kernel
theorem dX10_entries_9 : decode cX10_entries 9 = .ok (.bipush 10, 2) := by decide +kernel
theorem dX10_entries_11 : decode cX10_entries 11 = .ok (.invokevirtual 56, 3) := by decide +kernel
theorem dX10_entries_14 : decode cX10_entries 14 = .ok (.ladd, 1) := by decide +kernel
theorem dX10_entries_15 : decode cX10_entries 15 = .ok (.l2i, 1) := by decide +kernel
theorem dX10_entries_16 : decode cX10_entries 16 = .ok (.ireturn, 1) := by decide +kernel
theorem dX10_takesOut_0 : decode cX10_takesOut 0 = .ok (.aload_n 0, 1) := by decide +kernel
theorem dX10_takesOut_1 : decode cX10_takesOut 1 = .ok (.iload_n 1, 1) := by decide +kernel
theorem dX10_takesOut_2 : decode cX10_takesOut 2 = .ok (.bipush 19, 2) := by decide +kernel
theorem dX10_takesOut_4 : decode cX10_takesOut 4 = .ok (.iload_n 2, 1) := by decide +kernel
theorem dX10_takesOut_5 : decode cX10_takesOut 5 = .ok (.iadd, 1) := by decide +kernel
theorem dX10_takesOut_6 : decode cX10_takesOut 6 = .ok (.invokevirtual 56, 3) := by decide +kernel
theorem dX10_takesOut_9 : decode cX10_takesOut 9 = .ok (.lstore_n 3, 1) := by decide +kernel
theorem dX10_takesOut_10 : decode cX10_takesOut 10 = .ok (.iload_n 2, 1) := by decide +kernel
theorem dX10_takesOut_11 : decode cX10_takesOut 11 = .ok (.istore 5, 2) := by decide +kernel
theorem dX10_takesOut_13 : decode cX10_takesOut 13 = .ok (.iload 5, 2) := by decide +kernel
theorem dX10_takesOut_15 : decode cX10_takesOut 15 = .ok (.iconst 1, 1) := by decide +kernel
theorem dX10_takesOut_16 : decode cX10_takesOut 16 = .ok (.iadd, 1) := by decide +kernel
theorem dX10_takesOut_17 : decode cX10_takesOut 17 = .ok (.aload_n 0, 1) := by decide +kernel
theorem dX10_takesOut_18 : decode cX10_takesOut 18 = .ok (.iload_n 1, 1) := by decide +kernel
theorem dX10_takesOut_19 : decode cX10_takesOut 19 = .ok (.invokevirtual 68, 3) := by decide +kernel
theorem dX10_takesOut_22 : decode cX10_takesOut 22 = .ok (.if_icmp .ge 31, 3) := by decide +kernel
theorem dX10_takesOut_25 : decode cX10_takesOut 25 = .ok (.aload_n 0, 1) := by decide +kernel
theorem dX10_takesOut_26 : decode cX10_takesOut 26 = .ok (.iload_n 1, 1) := by decide +kernel
theorem dX10_takesOut_27 : decode cX10_takesOut 27 = .ok (.bipush 19, 2) := by decide +kernel
theorem dX10_takesOut_29 : decode cX10_takesOut 29 = .ok (.iload 5, 2) := by decide +kernel
theorem dX10_takesOut_31 : decode cX10_takesOut 31 = .ok (.iadd, 1) := by decide +kernel
theorem dX10_takesOut_32 : decode cX10_takesOut 32 = .ok (.aload_n 0, 1) := by decide +kernel
theorem dX10_takesOut_33 : decode cX10_takesOut 33 = .ok (.iload_n 1, 1) := by decide +kernel
theorem dX10_takesOut_34 : decode cX10_takesOut 34 = .ok (.bipush 19, 2) := by decide +kernel
theorem dX10_takesOut_36 : decode cX10_takesOut 36 = .ok (.iload 5, 2) := by decide +kernel
theorem dX10_takesOut_38 : decode cX10_takesOut 38 = .ok (.iadd, 1) := by decide +kernel
theorem dX10_takesOut_39 : decode cX10_takesOut 39 = .ok (.iconst 1, 1) := by decide +kernel
theorem dX10_takesOut_40 : decode cX10_takesOut 40 = .ok (.iadd, 1) := by decide +kernel
theorem dX10_takesOut_41 : decode cX10_takesOut 41 = .ok (.invokevirtual 56, 3) := by decide +kernel
theorem dX10_takesOut_44 : decode cX10_takesOut 44 = .ok (.invokevirtual 60, 3) := by decide +kernel
theorem dX10_takesOut_47 : decode cX10_takesOut 47 = .ok (.iinc 5 1, 3) := by decide +kernel
theorem dX10_takesOut_50 : decode cX10_takesOut 50 = .ok (.goto (-37), 3) := by decide +kernel
theorem dX10_takesOut_53 : decode cX10_takesOut 53 = .ok (.lload_n 3, 1) := by decide +kernel
theorem dX10_takesOut_54 : decode cX10_takesOut 54 = .ok (.lreturn, 1) := by decide +kernel
theorem dX10_doubts_0 : decode cX10_doubts 0 = .ok (.aload_n 0, 1) := by decide +kernel
theorem dX10_doubts_1 : decode cX10_doubts 1 = .ok (.iload_n 1, 1) := by decide +kernel
theorem dX10_doubts_2 : decode cX10_doubts 2 = .ok (.iload_n 2, 1) := by decide +kernel
theorem dX10_doubts_3 : decode cX10_doubts 3 = .ok (.invokevirtual 71, 3) := by decide +kernel
theorem dX10_doubts_6 : decode cX10_doubts 6 = .ok (.lstore_n 3, 1) := by decide +kernel
theorem dX10_doubts_7 : decode cX10_doubts 7 = .ok (.aload_n 0, 1) := by decide +kernel
theorem dX10_doubts_8 : decode cX10_doubts 8 = .ok (.iload_n 1, 1) := by decide +kernel
theorem dX10_doubts_9 : decode cX10_doubts 9 = .ok (.bipush 19, 2) := by decide +kernel
theorem dX10_doubts_11 : decode cX10_doubts 11 = .ok (.aload_n 0, 1) := by decide +kernel
theorem dX10_doubts_12 : decode cX10_doubts 12 = .ok (.iload_n 1, 1) := by decide +kernel
theorem dX10_doubts_13 : decode cX10_doubts 13 = .ok (.invokevirtual 68, 3) := by decide +kernel
theorem dX10_doubts_16 : decode cX10_doubts 16 = .ok (.iadd, 1) := by decide +kernel
theorem dX10_doubts_17 : decode cX10_doubts 17 = .ok (.iconst 1, 1) := by decide +kernel
theorem dX10_doubts_18 : decode cX10_doubts 18 = .ok (.isub, 1) := by decide +kernel
theorem dX10_doubts_19 : decode cX10_doubts 19 = .ok (.lload_n 3, 1) := by decide +kernel
theorem dX10_doubts_20 : decode cX10_doubts 20 = .ok (.invokevirtual 60, 3) := by decide +kernel
theorem dX10_doubts_23 : decode cX10_doubts 23 = .ok (.aload_n 0, 1) := by decide +kernel
theorem dX10_doubts_24 : decode cX10_doubts 24 = .ok (.iload_n 1, 1) := by decide +kernel
theorem dX10_doubts_25 : decode cX10_doubts 25 = .ok (.bipush 9, 2) := by decide +kernel
theorem dX10_doubts_27 : decode cX10_doubts 27 = .ok (.ldc2_w 74, 3) := by decide +kernel
theorem dX10_doubts_30 : decode cX10_doubts 30 = .ok (.invokevirtual 76, 3) := by decide +kernel
theorem dX10_doubts_33 : decode cX10_doubts 33 = .ok (.aload_n 0, 1) := by decide +kernel
theorem dX10_doubts_34 : decode cX10_doubts 34 = .ok (.iload_n 1, 1) := by decide +kernel
theorem dX10_doubts_35 : decode cX10_doubts 35 = .ok (.bipush 10, 2) := by decide +kernel
theorem dX10_doubts_37 : decode cX10_doubts 37 = .ok (.lconst 1, 1) := by decide +kernel
theorem dX10_doubts_38 : decode cX10_doubts 38 = .ok (.invokevirtual 76, 3) := by decide +kernel
theorem dX10_doubts_41 : decode cX10_doubts 41 = .ok (.return_, 1) := by decide +kernel
theorem dX10_hoursOf_0 : decode cX10_hoursOf 0 = .ok (.iload_n 3, 1) := by decide +kernel
theorem dX10_hoursOf_1 : decode cX10_hoursOf 1 = .ok (.ifCond .eq 14, 3) := by decide +kernel
theorem dX10_hoursOf_4 : decode cX10_hoursOf 4 = .ok (.aload_n 0, 1) := by decide +kernel
theorem dX10_hoursOf_5 : decode cX10_hoursOf 5 = .ok (.iload_n 1, 1) := by decide +kernel
theorem dX10_hoursOf_6 : decode cX10_hoursOf 6 = .ok (.bipush 9, 2) := by decide +kernel
theorem dX10_hoursOf_8 : decode cX10_hoursOf 8 = .ok (.invokevirtual 56, 3) := by decide +kernel
theorem dX10_hoursOf_11 : decode cX10_hoursOf 11 = .ok (.l2i, 1) := by decide +kernel
theorem dX10_hoursOf_12 : decode cX10_hoursOf 12 = .ok (.goto 4, 3) := by decide +kernel
theorem dX10_hoursOf_15 : decode cX10_hoursOf 15 = .ok (.iconst 0, 1) := by decide +kernel
theorem dX10_hoursOf_16 : decode cX10_hoursOf 16 = .ok (.istore 4, 2) := by decide +kernel
theorem dX10_hoursOf_18 : decode cX10_hoursOf 18 = .ok (.iload_n 3, 1) := by decide +kernel
theorem dX10_hoursOf_19 : decode cX10_hoursOf 19 = .ok (.ifCond .eq 11, 3) := by decide +kernel
theorem dX10_hoursOf_22 : decode cX10_hoursOf 22 = .ok (.aload_n 0, 1) := by decide +kernel
theorem dX10_hoursOf_23 : decode cX10_hoursOf 23 = .ok (.iload_n 1, 1) := by decide +kernel
theorem dX10_hoursOf_24 : decode cX10_hoursOf 24 = .ok (.invokevirtual 68, 3) := by decide +kernel
theorem dX10_hoursOf_27 : decode cX10_hoursOf 27 = .ok (.goto 11, 3) := by decide +kernel
theorem dX10_hoursOf_30 : decode cX10_hoursOf 30 = .ok (.aload_n 0, 1) := by decide +kernel
theorem dX10_hoursOf_31 : decode cX10_hoursOf 31 = .ok (.iload_n 1, 1) := by decide +kernel
theorem dX10_hoursOf_32 : decode cX10_hoursOf 32 = .ok (.bipush 9, 2) := by decide +kernel
theorem dX10_hoursOf_34 : decode cX10_hoursOf 34 = .ok (.invokevirtual 56, 3) := by decide +kernel
theorem dX10_hoursOf_37 : decode cX10_hoursOf 37 = .ok (.l2i, 1) := by decide +kernel
theorem dX10_hoursOf_38 : decode cX10_hoursOf 38 = .ok (.istore 5, 2) := by decide +kernel
theorem dX10_hoursOf_40 : decode cX10_hoursOf 40 = .ok (.iconst 0, 1) := by decide +kernel
theorem dX10_hoursOf_41 : decode cX10_hoursOf 41 = .ok (.istore 6, 2) := by decide +kernel
theorem dX10_hoursOf_43 : decode cX10_hoursOf 43 = .ok (.iload 4, 2) := by decide +kernel
theorem dX10_hoursOf_45 : decode cX10_hoursOf 45 = .ok (.istore 7, 2) := by decide +kernel
theorem dX10_hoursOf_47 : decode cX10_hoursOf 47 = .ok (.iload 7, 2) := by decide +kernel
theorem dX10_hoursOf_49 : decode cX10_hoursOf 49 = .ok (.iload 5, 2) := by decide +kernel
theorem dX10_hoursOf_51 : decode cX10_hoursOf 51 = .ok (.if_icmp .ge 42, 3) := by decide +kernel
theorem dX10_hoursOf_54 : decode cX10_hoursOf 54 = .ok (.iload 6, 2) := by decide +kernel
theorem dX10_hoursOf_56 : decode cX10_hoursOf 56 = .ok (.iload_n 2, 1) := by decide +kernel
theorem dX10_hoursOf_57 : decode cX10_hoursOf 57 = .ok (.ifCond .lt 15, 3) := by decide +kernel
theorem dX10_hoursOf_60 : decode cX10_hoursOf 60 = .ok (.aload_n 0, 1) := by decide +kernel
theorem dX10_hoursOf_61 : decode cX10_hoursOf 61 = .ok (.iload_n 1, 1) := by decide +kernel
theorem dX10_hoursOf_62 : decode cX10_hoursOf 62 = .ok (.iload 7, 2) := by decide +kernel
theorem dX10_hoursOf_64 : decode cX10_hoursOf 64 = .ok (.iconst 0, 1) := by decide +kernel
theorem dX10_hoursOf_65 : decode cX10_hoursOf 65 = .ok (.invokevirtual 79, 3) := by decide +kernel
theorem dX10_hoursOf_68 : decode cX10_hoursOf 68 = .ok (.iload_n 2, 1) := by decide +kernel
theorem dX10_hoursOf_69 : decode cX10_hoursOf 69 = .ok (.if_icmp .ne 14, 3) := by decide +kernel
theorem dX10_hoursOf_72 : decode cX10_hoursOf 72 = .ok (.aload_n 0, 1) := by decide +kernel
theorem dX10_hoursOf_73 : decode cX10_hoursOf 73 = .ok (.iload_n 1, 1) := by decide +kernel
theorem dX10_hoursOf_74 : decode cX10_hoursOf 74 = .ok (.iload 7, 2) := by decide +kernel
theorem dX10_hoursOf_76 : decode cX10_hoursOf 76 = .ok (.iconst 1, 1) := by decide +kernel
theorem dX10_hoursOf_77 : decode cX10_hoursOf 77 = .ok (.invokevirtual 79, 3) := by decide +kernel
theorem dX10_hoursOf_80 : decode cX10_hoursOf 80 = .ok (.goto 4, 3) := by decide +kernel
theorem dX10_hoursOf_83 : decode cX10_hoursOf 83 = .ok (.iconst 0, 1) := by decide +kernel
theorem dX10_hoursOf_84 : decode cX10_hoursOf 84 = .ok (.iadd, 1) := by decide +kernel
theorem dX10_hoursOf_85 : decode cX10_hoursOf 85 = .ok (.istore 6, 2) := by decide +kernel
theorem dX10_hoursOf_87 : decode cX10_hoursOf 87 = .ok (.iinc 7 1, 3) := by decide +kernel
theorem dX10_hoursOf_90 : decode cX10_hoursOf 90 = .ok (.goto (-43), 3) := by decide +kernel
theorem dX10_hoursOf_93 : decode cX10_hoursOf 93 = .ok (.iload 6, 2) := by decide +kernel
theorem dX10_hoursOf_95 : decode cX10_hoursOf 95 = .ok (.ireturn, 1) := by decide +kernel
theorem dX10_apprenticesOf_0 : decode cX10_apprenticesOf 0 = .ok (.iconst 0, 1) := by decide +kernel
theorem dX10_apprenticesOf_1 : decode cX10_apprenticesOf 1 = .ok (.istore_n 2, 1) := by decide +kernel
theorem dX10_apprenticesOf_2 : decode cX10_apprenticesOf 2 = .ok (.iconst 0, 1) := by decide +kernel
theorem dX10_apprenticesOf_3 : decode cX10_apprenticesOf 3 = .ok (.istore_n 3, 1) := by decide +kernel
theorem dX10_apprenticesOf_4 : decode cX10_apprenticesOf 4 = .ok (.iload_n 3, 1) := by decide +kernel
theorem dX10_apprenticesOf_5 : decode cX10_apprenticesOf 5 = .ok (.i2l, 1) := by decide +kernel
theorem dX10_apprenticesOf_6 : decode cX10_apprenticesOf 6 = .ok (.aload_n 0, 1) := by decide +kernel
theorem dX10_apprenticesOf_7 : decode cX10_apprenticesOf 7 = .ok (.getfield 7, 3) := by decide +kernel
theorem dX10_apprenticesOf_10 : decode cX10_apprenticesOf 10 = .ok (.iconst 2, 1) := by decide +kernel
theorem dX10_apprenticesOf_11 : decode cX10_apprenticesOf 11 = .ok (.laload, 1) := by decide +kernel
theorem dX10_apprenticesOf_12 : decode cX10_apprenticesOf 12 = .ok (.lcmp, 1) := by decide +kernel
theorem dX10_apprenticesOf_13 : decode cX10_apprenticesOf 13 = .ok (.ifCond .ge 26, 3) := by decide +kernel
theorem dX10_apprenticesOf_16 : decode cX10_apprenticesOf 16 = .ok (.iload_n 2, 1) := by decide +kernel
theorem dX10_apprenticesOf_17 : decode cX10_apprenticesOf 17 = .ok (.aload_n 0, 1) := by decide +kernel
theorem dX10_apprenticesOf_18 : decode cX10_apprenticesOf 18 = .ok (.iload_n 3, 1) := by decide +kernel
theorem dX10_apprenticesOf_19 : decode cX10_apprenticesOf 19 = .ok (.invokevirtual 83, 3) := by decide +kernel
theorem dX10_apprenticesOf_22 : decode cX10_apprenticesOf 22 = .ok (.iload_n 1, 1) := by decide +kernel
theorem dX10_apprenticesOf_23 : decode cX10_apprenticesOf 23 = .ok (.if_icmp .ne 7, 3) := by decide +kernel
theorem dX10_apprenticesOf_26 : decode cX10_apprenticesOf 26 = .ok (.iconst 1, 1) := by decide +kernel
theorem dX10_apprenticesOf_27 : decode cX10_apprenticesOf 27 = .ok (.goto 4, 3) := by decide +kernel
theorem dX10_apprenticesOf_30 : decode cX10_apprenticesOf 30 = .ok (.iconst 0, 1) := by decide +kernel
theorem dX10_apprenticesOf_31 : decode cX10_apprenticesOf 31 = .ok (.iadd, 1) := by decide +kernel
theorem dX10_apprenticesOf_32 : decode cX10_apprenticesOf 32 = .ok (.istore_n 2, 1) := by decide +kernel
theorem dX10_apprenticesOf_33 : decode cX10_apprenticesOf 33 = .ok (.iinc 3 1, 3) := by decide +kernel
theorem dX10_apprenticesOf_36 : decode cX10_apprenticesOf 36 = .ok (.goto (-32), 3) := by decide +kernel
theorem dX10_apprenticesOf_39 : decode cX10_apprenticesOf 39 = .ok (.iload_n 2, 1) := by decide +kernel
theorem dX10_apprenticesOf_40 : decode cX10_apprenticesOf 40 = .ok (.ireturn, 1) := by decide +kernel
theorem dX10_teaches_0 : decode cX10_teaches 0 = .ok (.aload_n 0, 1) := by decide +kernel
theorem dX10_teaches_1 : decode cX10_teaches 1 = .ok (.iload_n 1, 1) := by decide +kernel
theorem dX10_teaches_2 : decode cX10_teaches 2 = .ok (.iconst 1, 1) := by decide +kernel
theorem dX10_teaches_3 : decode cX10_teaches 3 = .ok (.invokevirtual 86, 3) := by decide +kernel
theorem dX10_teaches_6 : decode cX10_teaches 6 = .ok (.lload_n 2, 1) := by decide +kernel
theorem dX10_teaches_7 : decode cX10_teaches 7 = .ok (.l2i, 1) := by decide +kernel
theorem dX10_teaches_8 : decode cX10_teaches 8 = .ok (.lshr, 1) := by decide +kernel
theorem dX10_teaches_9 : decode cX10_teaches 9 = .ok (.lconst 1, 1) := by decide +kernel
theorem dX10_teaches_10 : decode cX10_teaches 10 = .ok (.land, 1) := by decide +kernel
theorem dX10_teaches_11 : decode cX10_teaches 11 = .ok (.lconst 1, 1) := by decide +kernel
theorem dX10_teaches_12 : decode cX10_teaches 12 = .ok (.lcmp, 1) := by decide +kernel
theorem dX10_teaches_13 : decode cX10_teaches 13 = .ok (.ifCond .ne 7, 3) := by decide +kernel
theorem dX10_teaches_16 : decode cX10_teaches 16 = .ok (.iconst 1, 1) := by decide +kernel
theorem dX10_teaches_17 : decode cX10_teaches 17 = .ok (.goto 4, 3) := by decide +kernel
theorem dX10_teaches_20 : decode cX10_teaches 20 = .ok (.iconst 0, 1) := by decide +kernel
theorem dX10_teaches_21 : decode cX10_teaches 21 = .ok (.ireturn, 1) := by decide +kernel
theorem dX10_isFull_0 : decode cX10_isFull 0 = .ok (.aload_n 0, 1) := by decide +kernel
theorem dX10_isFull_1 : decode cX10_isFull 1 = .ok (.iload_n 1, 1) := by decide +kernel
theorem dX10_isFull_2 : decode cX10_isFull 2 = .ok (.invokevirtual 89, 3) := by decide +kernel
theorem dX10_isFull_5 : decode cX10_isFull 5 = .ok (.i2l, 1) := by decide +kernel
theorem dX10_isFull_6 : decode cX10_isFull 6 = .ok (.aload_n 0, 1) := by decide +kernel
theorem dX10_isFull_7 : decode cX10_isFull 7 = .ok (.iload_n 1, 1) := by decide +kernel
theorem dX10_isFull_8 : decode cX10_isFull 8 = .ok (.iconst 0, 1) := by decide +kernel
theorem dX10_isFull_9 : decode cX10_isFull 9 = .ok (.invokevirtual 86, 3) := by decide +kernel
theorem dX10_isFull_12 : decode cX10_isFull 12 = .ok (.lcmp, 1) := by decide +kernel
theorem dX10_isFull_13 : decode cX10_isFull 13 = .ok (.ifCond .lt 7, 3) := by decide +kernel
theorem dX10_isFull_16 : decode cX10_isFull 16 = .ok (.iconst 1, 1) := by decide +kernel
theorem dX10_isFull_17 : decode cX10_isFull 17 = .ok (.goto 4, 3) := by decide +kernel
theorem dX10_isFull_20 : decode cX10_isFull 20 = .ok (.iconst 0, 1) := by decide +kernel
theorem dX10_isFull_21 : decode cX10_isFull 21 = .ok (.ireturn, 1) := by decide +kernel
theorem dX10_reasonOf_0 : decode cX10_reasonOf 0 = .ok (.aload_n 0, 1) := by decide +kernel
theorem dX10_reasonOf_1 : decode cX10_reasonOf 1 = .ok (.iload_n 1, 1) := by decide +kernel
theorem dX10_reasonOf_2 : decode cX10_reasonOf 2 = .ok (.invokevirtual 83, 3) := by decide +kernel
theorem dX10_reasonOf_5 : decode cX10_reasonOf 5 = .ok (.iload_n 2, 1) := by decide +kernel
theorem dX10_reasonOf_6 : decode cX10_reasonOf 6 = .ok (.if_icmp .ne 7, 3) := by decide +kernel
theorem dX10_reasonOf_9 : decode cX10_reasonOf 9 = .ok (.iconst 1, 1) := by decide +kernel
theorem dX10_reasonOf_10 : decode cX10_reasonOf 10 = .ok (.goto 34, 3) := by decide +kernel
theorem dX10_reasonOf_13 : decode cX10_reasonOf 13 = .ok (.aload_n 0, 1) := by decide +kernel
theorem dX10_reasonOf_14 : decode cX10_reasonOf 14 = .ok (.iload_n 2, 1) := by decide +kernel
theorem dX10_reasonOf_15 : decode cX10_reasonOf 15 = .ok (.aload_n 0, 1) := by decide +kernel
theorem dX10_reasonOf_16 : decode cX10_reasonOf 16 = .ok (.iload_n 1, 1) := by decide +kernel
theorem dX10_reasonOf_17 : decode cX10_reasonOf 17 = .ok (.iconst 0, 1) := by decide +kernel
theorem dX10_reasonOf_18 : decode cX10_reasonOf 18 = .ok (.invokevirtual 56, 3) := by decide +kernel
theorem dX10_reasonOf_21 : decode cX10_reasonOf 21 = .ok (.invokevirtual 92, 3) := by decide +kernel
theorem dX10_reasonOf_24 : decode cX10_reasonOf 24 = .ok (.ifCond .ne 7, 3) := by decide +kernel
theorem dX10_reasonOf_27 : decode cX10_reasonOf 27 = .ok (.iconst 2, 1) := by decide +kernel
theorem dX10_reasonOf_28 : decode cX10_reasonOf 28 = .ok (.goto 16, 3) := by decide +kernel
theorem dX10_reasonOf_31 : decode cX10_reasonOf 31 = .ok (.aload_n 0, 1) := by decide +kernel
theorem dX10_reasonOf_32 : decode cX10_reasonOf 32 = .ok (.iload_n 2, 1) := by decide +kernel
theorem dX10_reasonOf_33 : decode cX10_reasonOf 33 = .ok (.invokevirtual 96, 3) := by decide +kernel
theorem dX10_reasonOf_36 : decode cX10_reasonOf 36 = .ok (.ifCond .eq 7, 3) := by decide +kernel
theorem dX10_reasonOf_39 : decode cX10_reasonOf 39 = .ok (.iconst 3, 1) := by decide +kernel
theorem dX10_reasonOf_40 : decode cX10_reasonOf 40 = .ok (.goto 4, 3) := by decide +kernel
theorem dX10_reasonOf_43 : decode cX10_reasonOf 43 = .ok (.iconst 0, 1) := by decide +kernel
theorem dX10_reasonOf_44 : decode cX10_reasonOf 44 = .ok (.ireturn, 1) := by decide +kernel
theorem dX10_strange_0 : decode cX10_strange 0 = .ok (.iconst 0, 1) := by decide +kernel
theorem dX10_strange_1 : decode cX10_strange 1 = .ok (.istore_n 3, 1) := by decide +kernel
theorem dX10_strange_2 : decode cX10_strange 2 = .ok (.iconst 0, 1) := by decide +kernel
theorem dX10_strange_3 : decode cX10_strange 3 = .ok (.istore 4, 2) := by decide +kernel
theorem dX10_strange_5 : decode cX10_strange 5 = .ok (.iload 4, 2) := by decide +kernel
theorem dX10_strange_7 : decode cX10_strange 7 = .ok (.i2l, 1) := by decide +kernel
theorem dX10_strange_8 : decode cX10_strange 8 = .ok (.aload_n 0, 1) := by decide +kernel
theorem dX10_strange_9 : decode cX10_strange 9 = .ok (.iload_n 1, 1) := by decide +kernel
theorem dX10_strange_10 : decode cX10_strange 10 = .ok (.bipush 9, 2) := by decide +kernel
theorem dX10_strange_12 : decode cX10_strange 12 = .ok (.invokevirtual 56, 3) := by decide +kernel
theorem dX10_strange_15 : decode cX10_strange 15 = .ok (.lcmp, 1) := by decide +kernel
theorem dX10_strange_16 : decode cX10_strange 16 = .ok (.ifCond .ge 29, 3) := by decide +kernel
theorem dX10_strange_19 : decode cX10_strange 19 = .ok (.iload_n 3, 1) := by decide +kernel
theorem dX10_strange_20 : decode cX10_strange 20 = .ok (.aload_n 0, 1) := by decide +kernel
theorem dX10_strange_21 : decode cX10_strange 21 = .ok (.iload_n 1, 1) := by decide +kernel
theorem dX10_strange_22 : decode cX10_strange 22 = .ok (.iload 4, 2) := by decide +kernel
theorem dX10_strange_24 : decode cX10_strange 24 = .ok (.iconst 3, 1) := by decide +kernel
theorem dX10_strange_25 : decode cX10_strange 25 = .ok (.invokevirtual 79, 3) := by decide +kernel
theorem dX10_strange_28 : decode cX10_strange 28 = .ok (.iload_n 2, 1) := by decide +kernel
theorem dX10_strange_29 : decode cX10_strange 29 = .ok (.if_icmp .ne 7, 3) := by decide +kernel
theorem dX10_strange_32 : decode cX10_strange 32 = .ok (.iconst 0, 1) := by decide +kernel
theorem dX10_strange_33 : decode cX10_strange 33 = .ok (.goto 4, 3) := by decide +kernel
theorem dX10_strange_36 : decode cX10_strange 36 = .ok (.iconst 1, 1) := by decide +kernel
theorem dX10_strange_37 : decode cX10_strange 37 = .ok (.iadd, 1) := by decide +kernel
theorem dX10_strange_38 : decode cX10_strange 38 = .ok (.istore_n 3, 1) := by decide +kernel
theorem dX10_strange_39 : decode cX10_strange 39 = .ok (.iinc 4 1, 3) := by decide +kernel
theorem dX10_strange_42 : decode cX10_strange 42 = .ok (.goto (-37), 3) := by decide +kernel
theorem dX10_strange_45 : decode cX10_strange 45 = .ok (.iload_n 3, 1) := by decide +kernel
theorem dX10_strange_46 : decode cX10_strange 46 = .ok (.ireturn, 1) := by decide +kernel
theorem dX10_comesTo_0 : decode cX10_comesTo 0 = .ok (.aload_n 0, 1) := by decide +kernel
theorem dX10_comesTo_1 : decode cX10_comesTo 1 = .ok (.iload_n 1, 1) := by decide +kernel
theorem dX10_comesTo_2 : decode cX10_comesTo 2 = .ok (.iload_n 2, 1) := by decide +kernel
theorem dX10_comesTo_3 : decode cX10_comesTo 3 = .ok (.invokevirtual 100, 3) := by decide +kernel
theorem dX10_comesTo_6 : decode cX10_comesTo 6 = .ok (.istore_n 3, 1) := by decide +kernel
theorem dX10_comesTo_7 : decode cX10_comesTo 7 = .ok (.iconst 0, 1) := by decide +kernel
theorem dX10_comesTo_8 : decode cX10_comesTo 8 = .ok (.istore 4, 2) := by decide +kernel
theorem dX10_comesTo_10 : decode cX10_comesTo 10 = .ok (.iload 4, 2) := by decide +kernel
theorem dX10_comesTo_12 : decode cX10_comesTo 12 = .ok (.i2l, 1) := by decide +kernel
theorem dX10_comesTo_13 : decode cX10_comesTo 13 = .ok (.aload_n 0, 1) := by decide +kernel
theorem dX10_comesTo_14 : decode cX10_comesTo 14 = .ok (.iload_n 1, 1) := by decide +kernel
theorem dX10_comesTo_15 : decode cX10_comesTo 15 = .ok (.bipush 9, 2) := by decide +kernel
theorem dX10_comesTo_17 : decode cX10_comesTo 17 = .ok (.invokevirtual 56, 3) := by decide +kernel
theorem dX10_comesTo_20 : decode cX10_comesTo 20 = .ok (.lcmp, 1) := by decide +kernel
theorem dX10_comesTo_21 : decode cX10_comesTo 21 = .ok (.ifCond .ge 31, 3) := by decide +kernel
theorem dX10_comesTo_24 : decode cX10_comesTo 24 = .ok (.aload_n 0, 1) := by decide +kernel
theorem dX10_comesTo_25 : decode cX10_comesTo 25 = .ok (.iload_n 1, 1) := by decide +kernel
theorem dX10_comesTo_26 : decode cX10_comesTo 26 = .ok (.iload 4, 2) := by decide +kernel
theorem dX10_comesTo_28 : decode cX10_comesTo 28 = .ok (.iconst 3, 1) := by decide +kernel
theorem dX10_comesTo_29 : decode cX10_comesTo 29 = .ok (.invokevirtual 79, 3) := by decide +kernel
theorem dX10_comesTo_32 : decode cX10_comesTo 32 = .ok (.iload_n 2, 1) := by decide +kernel
theorem dX10_comesTo_33 : decode cX10_comesTo 33 = .ok (.if_icmp .ne 9, 3) := by decide +kernel
theorem dX10_comesTo_36 : decode cX10_comesTo 36 = .ok (.iinc 4 1, 3) := by decide +kernel
theorem dX10_comesTo_39 : decode cX10_comesTo 39 = .ok (.goto (-29), 3) := by decide +kernel
theorem dX10_comesTo_42 : decode cX10_comesTo 42 = .ok (.aload_n 0, 1) := by decide +kernel
theorem dX10_comesTo_43 : decode cX10_comesTo 43 = .ok (.iload_n 1, 1) := by decide +kernel
theorem dX10_comesTo_44 : decode cX10_comesTo 44 = .ok (.iload 4, 2) := by decide +kernel
theorem dX10_comesTo_46 : decode cX10_comesTo 46 = .ok (.invokevirtual 104, 3) := by decide +kernel
theorem dX10_comesTo_49 : decode cX10_comesTo 49 = .ok (.goto (-39), 3) := by decide +kernel
theorem dX10_comesTo_52 : decode cX10_comesTo 52 = .ok (.aload_n 0, 1) := by decide +kernel
theorem dX10_comesTo_53 : decode cX10_comesTo 53 = .ok (.iload_n 1, 1) := by decide +kernel
theorem dX10_comesTo_54 : decode cX10_comesTo 54 = .ok (.iconst 1, 1) := by decide +kernel
theorem dX10_comesTo_55 : decode cX10_comesTo 55 = .ok (.iload_n 2, 1) := by decide +kernel
theorem dX10_comesTo_56 : decode cX10_comesTo 56 = .ok (.i2l, 1) := by decide +kernel
theorem dX10_comesTo_57 : decode cX10_comesTo 57 = .ok (.invokevirtual 60, 3) := by decide +kernel
theorem dX10_comesTo_60 : decode cX10_comesTo 60 = .ok (.aload_n 0, 1) := by decide +kernel
theorem dX10_comesTo_61 : decode cX10_comesTo 61 = .ok (.iload_n 1, 1) := by decide +kernel
theorem dX10_comesTo_62 : decode cX10_comesTo 62 = .ok (.bipush 6, 2) := by decide +kernel
theorem dX10_comesTo_64 : decode cX10_comesTo 64 = .ok (.lconst 1, 1) := by decide +kernel
theorem dX10_comesTo_65 : decode cX10_comesTo 65 = .ok (.invokevirtual 76, 3) := by decide +kernel
theorem dX10_comesTo_68 : decode cX10_comesTo 68 = .ok (.iload_n 3, 1) := by decide +kernel
theorem dX10_comesTo_69 : decode cX10_comesTo 69 = .ok (.ireturn, 1) := by decide +kernel
theorem dX10_canExchange_0 : decode cX10_canExchange 0 = .ok (.aload_n 0, 1) := by decide +kernel
theorem dX10_canExchange_1 : decode cX10_canExchange 1 = .ok (.iload_n 1, 1) := by decide +kernel
theorem dX10_canExchange_2 : decode cX10_canExchange 2 = .ok (.invokevirtual 83, 3) := by decide +kernel
theorem dX10_canExchange_5 : decode cX10_canExchange 5 = .ok (.istore_n 3, 1) := by decide +kernel
theorem dX10_canExchange_6 : decode cX10_canExchange 6 = .ok (.aload_n 0, 1) := by decide +kernel
theorem dX10_canExchange_7 : decode cX10_canExchange 7 = .ok (.iload_n 2, 1) := by decide +kernel
theorem dX10_canExchange_8 : decode cX10_canExchange 8 = .ok (.invokevirtual 83, 3) := by decide +kernel
theorem dX10_canExchange_11 : decode cX10_canExchange 11 = .ok (.istore 4, 2) := by decide +kernel
theorem dX10_canExchange_13 : decode cX10_canExchange 13 = .ok (.iload_n 3, 1) := by decide +kernel
theorem dX10_canExchange_14 : decode cX10_canExchange 14 = .ok (.iconst (-1), 1) := by decide +kernel
theorem dX10_canExchange_15 : decode cX10_canExchange 15 = .ok (.if_icmp .eq 48, 3) := by decide +kernel
theorem dX10_canExchange_18 : decode cX10_canExchange 18 = .ok (.iload 4, 2) := by decide +kernel
theorem dX10_canExchange_20 : decode cX10_canExchange 20 = .ok (.iconst (-1), 1) := by decide +kernel
theorem dX10_canExchange_21 : decode cX10_canExchange 21 = .ok (.if_icmp .eq 42, 3) := by decide +kernel
theorem dX10_canExchange_24 : decode cX10_canExchange 24 = .ok (.iload_n 3, 1) := by decide +kernel
theorem dX10_canExchange_25 : decode cX10_canExchange 25 = .ok (.iload 4, 2) := by decide +kernel
theorem dX10_canExchange_27 : decode cX10_canExchange 27 = .ok (.if_icmp .eq 36, 3) := by decide +kernel
theorem dX10_canExchange_30 : decode cX10_canExchange 30 = .ok (.aload_n 0, 1) := by decide +kernel
theorem dX10_canExchange_31 : decode cX10_canExchange 31 = .ok (.iload 4, 2) := by decide +kernel
theorem dX10_canExchange_33 : decode cX10_canExchange 33 = .ok (.aload_n 0, 1) := by decide +kernel
theorem dX10_canExchange_34 : decode cX10_canExchange 34 = .ok (.iload_n 1, 1) := by decide +kernel
theorem dX10_canExchange_35 : decode cX10_canExchange 35 = .ok (.iconst 0, 1) := by decide +kernel
theorem dX10_canExchange_36 : decode cX10_canExchange 36 = .ok (.invokevirtual 56, 3) := by decide +kernel
theorem dX10_canExchange_39 : decode cX10_canExchange 39 = .ok (.invokevirtual 92, 3) := by decide +kernel
theorem dX10_canExchange_42 : decode cX10_canExchange 42 = .ok (.ifCond .eq 21, 3) := by decide +kernel
theorem dX10_canExchange_45 : decode cX10_canExchange 45 = .ok (.aload_n 0, 1) := by decide +kernel
theorem dX10_canExchange_46 : decode cX10_canExchange 46 = .ok (.iload_n 3, 1) := by decide +kernel
theorem dX10_canExchange_47 : decode cX10_canExchange 47 = .ok (.aload_n 0, 1) := by decide +kernel
theorem dX10_canExchange_48 : decode cX10_canExchange 48 = .ok (.iload_n 2, 1) := by decide +kernel
theorem dX10_canExchange_49 : decode cX10_canExchange 49 = .ok (.iconst 0, 1) := by decide +kernel
theorem dX10_canExchange_50 : decode cX10_canExchange 50 = .ok (.invokevirtual 56, 3) := by decide +kernel
theorem dX10_canExchange_53 : decode cX10_canExchange 53 = .ok (.invokevirtual 92, 3) := by decide +kernel
theorem dX10_canExchange_56 : decode cX10_canExchange 56 = .ok (.ifCond .eq 7, 3) := by decide +kernel
theorem dX10_canExchange_59 : decode cX10_canExchange 59 = .ok (.iconst 1, 1) := by decide +kernel
theorem dX10_canExchange_60 : decode cX10_canExchange 60 = .ok (.goto 4, 3) := by decide +kernel
theorem dX10_canExchange_63 : decode cX10_canExchange 63 = .ok (.iconst 0, 1) := by decide +kernel
theorem dX10_canExchange_64 : decode cX10_canExchange 64 = .ok (.ireturn, 1) := by decide +kernel
theorem dX10_trades_0 : decode cX10_trades 0 = .ok (.iload_n 1, 1) := by decide +kernel
theorem dX10_trades_1 : decode cX10_trades 1 = .ok (.i2l, 1) := by decide +kernel
theorem dX10_trades_2 : decode cX10_trades 2 = .ok (.lconst 0, 1) := by decide +kernel
theorem dX10_trades_3 : decode cX10_trades 3 = .ok (.ldc2_w 108, 3) := by decide +kernel
theorem dX10_trades_6 : decode cX10_trades 6 = .ok (.invokestatic 50, 3) := by decide +kernel
theorem dX10_trades_9 : decode cX10_trades 9 = .ok (.ifCond .eq 27, 3) := by decide +kernel
theorem dX10_trades_12 : decode cX10_trades 12 = .ok (.iload_n 2, 1) := by decide +kernel
theorem dX10_trades_13 : decode cX10_trades 13 = .ok (.i2l, 1) := by decide +kernel
theorem dX10_trades_14 : decode cX10_trades 14 = .ok (.lconst 0, 1) := by decide +kernel
theorem dX10_trades_15 : decode cX10_trades 15 = .ok (.ldc2_w 108, 3) := by decide +kernel
theorem dX10_trades_18 : decode cX10_trades 18 = .ok (.invokestatic 50, 3) := by decide +kernel
theorem dX10_trades_21 : decode cX10_trades 21 = .ok (.ifCond .eq 15, 3) := by decide +kernel
theorem dX10_trades_24 : decode cX10_trades 24 = .ok (.iload_n 3, 1) := by decide +kernel
theorem dX10_trades_25 : decode cX10_trades 25 = .ok (.i2l, 1) := by decide +kernel
theorem dX10_trades_26 : decode cX10_trades 26 = .ok (.lconst 0, 1) := by decide +kernel
theorem dX10_trades_27 : decode cX10_trades 27 = .ok (.ldc2_w 108, 3) := by decide +kernel
theorem dX10_trades_30 : decode cX10_trades 30 = .ok (.invokestatic 50, 3) := by decide +kernel
theorem dX10_trades_33 : decode cX10_trades 33 = .ok (.ifCond .ne 5, 3) := by decide +kernel
theorem dX10_trades_36 : decode cX10_trades 36 = .ok (.iconst 1, 1) := by decide +kernel
theorem dX10_trades_37 : decode cX10_trades 37 = .ok (.ireturn, 1) := by decide +kernel
theorem dX10_trades_38 : decode cX10_trades 38 = .ok (.aload_n 0, 1) := by decide +kernel
theorem dX10_trades_39 : decode cX10_trades 39 = .ok (.getfield 7, 3) := by decide +kernel
theorem dX10_trades_42 : decode cX10_trades 42 = .ok (.iconst 0, 1) := by decide +kernel
theorem dX10_trades_43 : decode cX10_trades 43 = .ok (.laload, 1) := by decide +kernel
theorem dX10_trades_44 : decode cX10_trades 44 = .ok (.ldc2_w 110, 3) := by decide +kernel
theorem dX10_trades_47 : decode cX10_trades 47 = .ok (.lcmp, 1) := by decide +kernel
theorem dX10_trades_48 : decode cX10_trades 48 = .ok (.ifCond .ne 5, 3) := by decide +kernel
theorem dX10_trades_51 : decode cX10_trades 51 = .ok (.iconst 2, 1) := by decide +kernel
theorem dX10_trades_52 : decode cX10_trades 52 = .ok (.ireturn, 1) := by decide +kernel
theorem dX10_trades_53 : decode cX10_trades 53 = .ok (.iconst 4, 1) := by decide +kernel
theorem dX10_trades_54 : decode cX10_trades 54 = .ok (.iconst 3, 1) := by decide +kernel
theorem dX10_trades_55 : decode cX10_trades 55 = .ok (.aload_n 0, 1) := by decide +kernel
theorem dX10_trades_56 : decode cX10_trades 56 = .ok (.getfield 7, 3) := by decide +kernel
theorem dX10_trades_59 : decode cX10_trades 59 = .ok (.iconst 0, 1) := by decide +kernel
theorem dX10_trades_60 : decode cX10_trades 60 = .ok (.laload, 1) := by decide +kernel
theorem dX10_trades_61 : decode cX10_trades 61 = .ok (.l2i, 1) := by decide +kernel
theorem dX10_trades_62 : decode cX10_trades 62 = .ok (.imul, 1) := by decide +kernel
theorem dX10_trades_63 : decode cX10_trades 63 = .ok (.iadd, 1) := by decide +kernel
theorem dX10_trades_64 : decode cX10_trades 64 = .ok (.istore 4, 2) := by decide +kernel
theorem dX10_trades_66 : decode cX10_trades 66 = .ok (.aload_n 0, 1) := by decide +kernel
theorem dX10_trades_67 : decode cX10_trades 67 = .ok (.getfield 7, 3) := by decide +kernel
theorem dX10_trades_70 : decode cX10_trades 70 = .ok (.iload 4, 2) := by decide +kernel
theorem dX10_trades_72 : decode cX10_trades 72 = .ok (.iload_n 1, 1) := by decide +kernel
theorem dX10_trades_73 : decode cX10_trades 73 = .ok (.i2l, 1) := by decide +kernel
theorem dX10_trades_74 : decode cX10_trades 74 = .ok (.lastore, 1) := by decide +kernel
theorem dX10_trades_75 : decode cX10_trades 75 = .ok (.aload_n 0, 1) := by decide +kernel
theorem dX10_trades_76 : decode cX10_trades 76 = .ok (.getfield 7, 3) := by decide +kernel
theorem dX10_trades_79 : decode cX10_trades 79 = .ok (.iload 4, 2) := by decide +kernel
theorem dX10_trades_81 : decode cX10_trades 81 = .ok (.iconst 1, 1) := by decide +kernel
theorem dX10_trades_82 : decode cX10_trades 82 = .ok (.iadd, 1) := by decide +kernel
theorem dX10_trades_83 : decode cX10_trades 83 = .ok (.iload_n 2, 1) := by decide +kernel
theorem dX10_trades_84 : decode cX10_trades 84 = .ok (.i2l, 1) := by decide +kernel
theorem dX10_trades_85 : decode cX10_trades 85 = .ok (.lastore, 1) := by decide +kernel
theorem dX10_trades_86 : decode cX10_trades 86 = .ok (.aload_n 0, 1) := by decide +kernel
theorem dX10_trades_87 : decode cX10_trades 87 = .ok (.getfield 7, 3) := by decide +kernel
theorem dX10_trades_90 : decode cX10_trades 90 = .ok (.iload 4, 2) := by decide +kernel
theorem dX10_trades_92 : decode cX10_trades 92 = .ok (.iconst 2, 1) := by decide +kernel
theorem dX10_trades_93 : decode cX10_trades 93 = .ok (.iadd, 1) := by decide +kernel
theorem dX10_trades_94 : decode cX10_trades 94 = .ok (.iload_n 3, 1) := by decide +kernel
theorem dX10_trades_95 : decode cX10_trades 95 = .ok (.i2l, 1) := by decide +kernel
theorem dX10_trades_96 : decode cX10_trades 96 = .ok (.lastore, 1) := by decide +kernel
theorem dX10_trades_97 : decode cX10_trades 97 = .ok (.aload_n 0, 1) := by decide +kernel
theorem dX10_trades_98 : decode cX10_trades 98 = .ok (.aload_n 0, 1) := by decide +kernel
theorem dX10_trades_99 : decode cX10_trades 99 = .ok (.getfield 7, 3) := by decide +kernel
theorem dX10_trades_102 : decode cX10_trades 102 = .ok (.iconst 0, 1) := by decide +kernel
theorem dX10_trades_103 : decode cX10_trades 103 = .ok (.laload, 1) := by decide +kernel
theorem dX10_trades_104 : decode cX10_trades 104 = .ok (.putfield 112, 3) := by decide +kernel
theorem dX10_trades_107 : decode cX10_trades 107 = .ok (.aload_n 0, 1) := by decide +kernel
theorem dX10_trades_108 : decode cX10_trades 108 = .ok (.getfield 7, 3) := by decide +kernel
theorem dX10_trades_111 : decode cX10_trades 111 = .ok (.iconst 0, 1) := by decide +kernel
theorem dX10_trades_112 : decode cX10_trades 112 = .ok (.dup2, 1) := by decide +kernel
theorem dX10_trades_113 : decode cX10_trades 113 = .ok (.laload, 1) := by decide +kernel
theorem dX10_trades_114 : decode cX10_trades 114 = .ok (.lconst 1, 1) := by decide +kernel
theorem dX10_trades_115 : decode cX10_trades 115 = .ok (.ladd, 1) := by decide +kernel
theorem dX10_trades_116 : decode cX10_trades 116 = .ok (.lastore, 1) := by decide +kernel
theorem dX10_trades_117 : decode cX10_trades 117 = .ok (.iconst 0, 1) := by decide +kernel
theorem dX10_trades_118 : decode cX10_trades 118 = .ok (.ireturn, 1) := by decide +kernel
theorem dX10_mentors_0 : decode cX10_mentors 0 = .ok (.iload_n 1, 1) := by decide +kernel
theorem dX10_mentors_1 : decode cX10_mentors 1 = .ok (.i2l, 1) := by decide +kernel
theorem dX10_mentors_2 : decode cX10_mentors 2 = .ok (.lconst 1, 1) := by decide +kernel
theorem dX10_mentors_3 : decode cX10_mentors 3 = .ok (.ldc2_w 116, 3) := by decide +kernel
theorem dX10_mentors_6 : decode cX10_mentors 6 = .ok (.invokestatic 50, 3) := by decide +kernel
theorem dX10_mentors_9 : decode cX10_mentors 9 = .ok (.ifCond .eq 15, 3) := by decide +kernel
theorem dX10_mentors_12 : decode cX10_mentors 12 = .ok (.iload_n 2, 1) := by decide +kernel
theorem dX10_mentors_13 : decode cX10_mentors 13 = .ok (.i2l, 1) := by decide +kernel
theorem dX10_mentors_14 : decode cX10_mentors 14 = .ok (.lconst 0, 1) := by decide +kernel
theorem dX10_mentors_15 : decode cX10_mentors 15 = .ok (.ldc2_w 118, 3) := by decide +kernel
theorem dX10_mentors_18 : decode cX10_mentors 18 = .ok (.invokestatic 50, 3) := by decide +kernel
theorem dX10_mentors_21 : decode cX10_mentors 21 = .ok (.ifCond .ne 5, 3) := by decide +kernel
theorem dX10_mentors_24 : decode cX10_mentors 24 = .ok (.iconst 1, 1) := by decide +kernel
theorem dX10_mentors_25 : decode cX10_mentors 25 = .ok (.ireturn, 1) := by decide +kernel
theorem dX10_mentors_26 : decode cX10_mentors 26 = .ok (.aload_n 0, 1) := by decide +kernel
theorem dX10_mentors_27 : decode cX10_mentors 27 = .ok (.getfield 7, 3) := by decide +kernel
theorem dX10_mentors_30 : decode cX10_mentors 30 = .ok (.iconst 1, 1) := by decide +kernel
theorem dX10_mentors_31 : decode cX10_mentors 31 = .ok (.laload, 1) := by decide +kernel
theorem dX10_mentors_32 : decode cX10_mentors 32 = .ok (.ldc2_w 116, 3) := by decide +kernel
theorem dX10_mentors_35 : decode cX10_mentors 35 = .ok (.lcmp, 1) := by decide +kernel
theorem dX10_mentors_36 : decode cX10_mentors 36 = .ok (.ifCond .ne 5, 3) := by decide +kernel
theorem dX10_mentors_39 : decode cX10_mentors 39 = .ok (.iconst 2, 1) := by decide +kernel
theorem dX10_mentors_40 : decode cX10_mentors 40 = .ok (.ireturn, 1) := by decide +kernel
theorem dX10_mentors_41 : decode cX10_mentors 41 = .ok (.bipush 19, 2) := by decide +kernel
theorem dX10_mentors_43 : decode cX10_mentors 43 = .ok (.iconst 3, 1) := by decide +kernel
theorem dX10_mentors_44 : decode cX10_mentors 44 = .ok (.aload_n 0, 1) := by decide +kernel
theorem dX10_mentors_45 : decode cX10_mentors 45 = .ok (.getfield 7, 3) := by decide +kernel
theorem dX10_mentors_48 : decode cX10_mentors 48 = .ok (.iconst 1, 1) := by decide +kernel
theorem dX10_mentors_49 : decode cX10_mentors 49 = .ok (.laload, 1) := by decide +kernel
theorem dX10_mentors_50 : decode cX10_mentors 50 = .ok (.l2i, 1) := by decide +kernel
theorem dX10_mentors_51 : decode cX10_mentors 51 = .ok (.imul, 1) := by decide +kernel
theorem dX10_mentors_52 : decode cX10_mentors 52 = .ok (.iadd, 1) := by decide +kernel
theorem dX10_mentors_53 : decode cX10_mentors 53 = .ok (.istore_n 3, 1) := by decide +kernel
theorem dX10_mentors_54 : decode cX10_mentors 54 = .ok (.aload_n 0, 1) := by decide +kernel
theorem dX10_mentors_55 : decode cX10_mentors 55 = .ok (.getfield 7, 3) := by decide +kernel
theorem dX10_mentors_58 : decode cX10_mentors 58 = .ok (.iload_n 3, 1) := by decide +kernel
theorem dX10_mentors_59 : decode cX10_mentors 59 = .ok (.iconst 0, 1) := by decide +kernel
theorem dX10_mentors_60 : decode cX10_mentors 60 = .ok (.iadd, 1) := by decide +kernel
theorem dX10_mentors_61 : decode cX10_mentors 61 = .ok (.iload_n 1, 1) := by decide +kernel
theorem dX10_mentors_62 : decode cX10_mentors 62 = .ok (.i2l, 1) := by decide +kernel
theorem dX10_mentors_63 : decode cX10_mentors 63 = .ok (.lastore, 1) := by decide +kernel
theorem dX10_mentors_64 : decode cX10_mentors 64 = .ok (.aload_n 0, 1) := by decide +kernel
theorem dX10_mentors_65 : decode cX10_mentors 65 = .ok (.getfield 7, 3) := by decide +kernel
theorem dX10_mentors_68 : decode cX10_mentors 68 = .ok (.iload_n 3, 1) := by decide +kernel
theorem dX10_mentors_69 : decode cX10_mentors 69 = .ok (.iconst 1, 1) := by decide +kernel
theorem dX10_mentors_70 : decode cX10_mentors 70 = .ok (.iadd, 1) := by decide +kernel
theorem dX10_mentors_71 : decode cX10_mentors 71 = .ok (.iload_n 2, 1) := by decide +kernel
theorem dX10_mentors_72 : decode cX10_mentors 72 = .ok (.i2l, 1) := by decide +kernel
theorem dX10_mentors_73 : decode cX10_mentors 73 = .ok (.lastore, 1) := by decide +kernel
theorem dX10_mentors_74 : decode cX10_mentors 74 = .ok (.aload_n 0, 1) := by decide +kernel
