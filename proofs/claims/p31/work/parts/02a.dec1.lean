abbrev vwCl : List vw_C := [(RX1, TX1, 11), (RX3, TX3, 11), (RX4, TX4, 2), (RX5, TX5, 2), (RX6, TX6, 3), (RX7, TX7, 9), (RX8, TX8, 3), (RX9, TX9, 3)]
theorem dX1_init_0 : decode cX1_init 0 = .ok (.aload_n 0, 1) := by decide +kernel
theorem dX1_init_1 : decode cX1_init 1 = .ok (.invokespecial 3, 3) := by decide +kernel
theorem dX1_init_4 : decode cX1_init 4 = .ok (.aload_n 0, 1) := by decide +kernel
theorem dX1_init_5 : decode cX1_init 5 = .ok (.iconst 3, 1) := by decide +kernel
theorem dX1_init_6 : decode cX1_init 6 = .ok (.newarray .int, 2) := by decide +kernel
theorem dX1_init_8 : decode cX1_init 8 = .ok (.putfield 9, 3) := by decide +kernel
theorem dX1_init_11 : decode cX1_init 11 = .ok (.aload_n 0, 1) := by decide +kernel
theorem dX1_init_12 : decode cX1_init 12 = .ok (.new 15, 3) := by decide +kernel
theorem dX1_init_15 : decode cX1_init 15 = .ok (.dup, 1) := by decide +kernel
theorem dX1_init_16 : decode cX1_init 16 = .ok (.invokespecial 17, 3) := by decide +kernel
theorem dX1_init_19 : decode cX1_init 19 = .ok (.putfield 18, 3) := by decide +kernel
theorem dX1_init_22 : decode cX1_init 22 = .ok (.aload_n 0, 1) := by decide +kernel
theorem dX1_init_23 : decode cX1_init 23 = .ok (.new 15, 3) := by decide +kernel
theorem dX1_init_26 : decode cX1_init 26 = .ok (.dup, 1) := by decide +kernel
theorem dX1_init_27 : decode cX1_init 27 = .ok (.invokespecial 17, 3) := by decide +kernel
theorem dX1_init_30 : decode cX1_init 30 = .ok (.putfield 22, 3) := by decide +kernel
theorem dX1_init_33 : decode cX1_init 33 = .ok (.aload_n 0, 1) := by decide +kernel
theorem dX1_init_34 : decode cX1_init 34 = .ok (.new 25, 3) := by decide +kernel
theorem dX1_init_37 : decode cX1_init 37 = .ok (.dup, 1) := by decide +kernel
theorem dX1_init_38 : decode cX1_init 38 = .ok (.invokespecial 27, 3) := by decide +kernel
theorem dX1_init_41 : decode cX1_init 41 = .ok (.putfield 28, 3) := by decide +kernel
theorem dX1_init_44 : decode cX1_init 44 = .ok (.aload_n 0, 1) := by decide +kernel
theorem dX1_init_45 : decode cX1_init 45 = .ok (.new 25, 3) := by decide +kernel
theorem dX1_init_48 : decode cX1_init 48 = .ok (.dup, 1) := by decide +kernel
theorem dX1_init_49 : decode cX1_init 49 = .ok (.invokespecial 27, 3) := by decide +kernel
theorem dX1_init_52 : decode cX1_init 52 = .ok (.putfield 32, 3) := by decide +kernel
theorem dX1_init_55 : decode cX1_init 55 = .ok (.return_, 1) := by decide +kernel
theorem dX1_begin_0 : decode cX1_begin 0 = .ok (.iconst 0, 1) := by decide +kernel
theorem dX1_begin_1 : decode cX1_begin 1 = .ok (.istore_n 3, 1) := by decide +kernel
theorem dX1_begin_2 : decode cX1_begin 2 = .ok (.iload_n 3, 1) := by decide +kernel
theorem dX1_begin_3 : decode cX1_begin 3 = .ok (.iconst 3, 1) := by decide +kernel
theorem dX1_begin_4 : decode cX1_begin 4 = .ok (.if_icmp .ge 16, 3) := by decide +kernel
theorem dX1_begin_7 : decode cX1_begin 7 = .ok (.aload_n 0, 1) := by decide +kernel
theorem dX1_begin_8 : decode cX1_begin 8 = .ok (.getfield 9, 3) := by decide +kernel
theorem dX1_begin_11 : decode cX1_begin 11 = .ok (.iload_n 3, 1) := by decide +kernel
theorem dX1_begin_12 : decode cX1_begin 12 = .ok (.iconst 0, 1) := by decide +kernel
theorem dX1_begin_13 : decode cX1_begin 13 = .ok (.iastore, 1) := by decide +kernel
theorem dX1_begin_14 : decode cX1_begin 14 = .ok (.iinc 3 1, 3) := by decide +kernel
theorem dX1_begin_17 : decode cX1_begin 17 = .ok (.goto (-15), 3) := by decide +kernel
theorem dX1_begin_20 : decode cX1_begin 20 = .ok (.aload_n 0, 1) := by decide +kernel
theorem dX1_begin_21 : decode cX1_begin 21 = .ok (.getfield 18, 3) := by decide +kernel
theorem dX1_begin_24 : decode cX1_begin 24 = .ok (.iconst 0, 1) := by decide +kernel
theorem dX1_begin_25 : decode cX1_begin 25 = .ok (.putfield 35, 3) := by decide +kernel
theorem dX1_begin_28 : decode cX1_begin 28 = .ok (.aload_n 0, 1) := by decide +kernel
theorem dX1_begin_29 : decode cX1_begin 29 = .ok (.getfield 22, 3) := by decide +kernel
theorem dX1_begin_32 : decode cX1_begin 32 = .ok (.iconst 0, 1) := by decide +kernel
theorem dX1_begin_33 : decode cX1_begin 33 = .ok (.putfield 35, 3) := by decide +kernel
theorem dX1_begin_36 : decode cX1_begin 36 = .ok (.aload_n 0, 1) := by decide +kernel
theorem dX1_begin_37 : decode cX1_begin 37 = .ok (.getfield 28, 3) := by decide +kernel
theorem dX1_begin_40 : decode cX1_begin 40 = .ok (.invokevirtual 39, 3) := by decide +kernel
theorem dX1_begin_43 : decode cX1_begin 43 = .ok (.aload_n 0, 1) := by decide +kernel
theorem dX1_begin_44 : decode cX1_begin 44 = .ok (.getfield 32, 3) := by decide +kernel
theorem dX1_begin_47 : decode cX1_begin 47 = .ok (.invokevirtual 39, 3) := by decide +kernel
theorem dX1_begin_50 : decode cX1_begin 50 = .ok (.aload_n 0, 1) := by decide +kernel
theorem dX1_begin_51 : decode cX1_begin 51 = .ok (.iload_n 1, 1) := by decide +kernel
theorem dX1_begin_52 : decode cX1_begin 52 = .ok (.putfield 42, 3) := by decide +kernel
theorem dX1_begin_55 : decode cX1_begin 55 = .ok (.aload_n 0, 1) := by decide +kernel
theorem dX1_begin_56 : decode cX1_begin 56 = .ok (.iload_n 2, 1) := by decide +kernel
theorem dX1_begin_57 : decode cX1_begin 57 = .ok (.putfield 45, 3) := by decide +kernel
theorem dX1_begin_60 : decode cX1_begin 60 = .ok (.aload_n 0, 1) := by decide +kernel
theorem dX1_begin_61 : decode cX1_begin 61 = .ok (.iconst 0, 1) := by decide +kernel
theorem dX1_begin_62 : decode cX1_begin 62 = .ok (.putfield 48, 3) := by decide +kernel
theorem dX1_begin_65 : decode cX1_begin 65 = .ok (.aload_n 0, 1) := by decide +kernel
theorem dX1_begin_66 : decode cX1_begin 66 = .ok (.iconst 0, 1) := by decide +kernel
theorem dX1_begin_67 : decode cX1_begin 67 = .ok (.putfield 51, 3) := by decide +kernel
theorem dX1_begin_70 : decode cX1_begin 70 = .ok (.aload_n 0, 1) := by decide +kernel
theorem dX1_begin_71 : decode cX1_begin 71 = .ok (.iconst 0, 1) := by decide +kernel
theorem dX1_begin_72 : decode cX1_begin 72 = .ok (.putfield 54, 3) := by decide +kernel
theorem dX1_begin_75 : decode cX1_begin 75 = .ok (.aload_n 0, 1) := by decide +kernel
theorem dX1_begin_76 : decode cX1_begin 76 = .ok (.iconst 0, 1) := by decide +kernel
theorem dX1_begin_77 : decode cX1_begin 77 = .ok (.putfield 57, 3) := by decide +kernel
theorem dX1_begin_80 : decode cX1_begin 80 = .ok (.return_, 1) := by decide +kernel
theorem dX1_doneIn_0 : decode cX1_doneIn 0 = .ok (.iload_n 1, 1) := by decide +kernel
theorem dX1_doneIn_1 : decode cX1_doneIn 1 = .ok (.ifCond .lt 17, 3) := by decide +kernel
theorem dX1_doneIn_4 : decode cX1_doneIn 4 = .ok (.iload_n 1, 1) := by decide +kernel
theorem dX1_doneIn_5 : decode cX1_doneIn 5 = .ok (.iconst 3, 1) := by decide +kernel
theorem dX1_doneIn_6 : decode cX1_doneIn 6 = .ok (.if_icmp .ge 12, 3) := by decide +kernel
theorem dX1_doneIn_9 : decode cX1_doneIn 9 = .ok (.aload_n 0, 1) := by decide +kernel
theorem dX1_doneIn_10 : decode cX1_doneIn 10 = .ok (.getfield 9, 3) := by decide +kernel
theorem dX1_doneIn_13 : decode cX1_doneIn 13 = .ok (.iload_n 1, 1) := by decide +kernel
theorem dX1_doneIn_14 : decode cX1_doneIn 14 = .ok (.iaload, 1) := by decide +kernel
theorem dX1_doneIn_15 : decode cX1_doneIn 15 = .ok (.goto 4, 3) := by decide +kernel
theorem dX1_doneIn_18 : decode cX1_doneIn 18 = .ok (.iconst 0, 1) := by decide +kernel
theorem dX1_doneIn_19 : decode cX1_doneIn 19 = .ok (.ireturn, 1) := by decide +kernel
theorem dX1_canAdd_0 : decode cX1_canAdd 0 = .ok (.aload_n 0, 1) := by decide +kernel
theorem dX1_canAdd_1 : decode cX1_canAdd 1 = .ok (.iload_n 1, 1) := by decide +kernel
theorem dX1_canAdd_2 : decode cX1_canAdd 2 = .ok (.invokevirtual 60, 3) := by decide +kernel
theorem dX1_canAdd_5 : decode cX1_canAdd 5 = .ok (.i2l, 1) := by decide +kernel
theorem dX1_canAdd_6 : decode cX1_canAdd 6 = .ok (.iload_n 2, 1) := by decide +kernel
theorem dX1_canAdd_7 : decode cX1_canAdd 7 = .ok (.i2l, 1) := by decide +kernel
theorem dX1_canAdd_8 : decode cX1_canAdd 8 = .ok (.ladd, 1) := by decide +kernel
theorem dX1_canAdd_9 : decode cX1_canAdd 9 = .ok (.lstore_n 3, 1) := by decide +kernel
theorem dX1_canAdd_10 : decode cX1_canAdd 10 = .ok (.lload_n 3, 1) := by decide +kernel
theorem dX1_canAdd_11 : decode cX1_canAdd 11 = .ok (.lconst 0, 1) := by decide +kernel
theorem dX1_canAdd_12 : decode cX1_canAdd 12 = .ok (.lcmp, 1) := by decide +kernel
theorem dX1_canAdd_13 : decode cX1_canAdd 13 = .ok (.ifCond .lt 15, 3) := by decide +kernel
theorem dX1_canAdd_16 : decode cX1_canAdd 16 = .ok (.lload_n 3, 1) := by decide +kernel
theorem dX1_canAdd_17 : decode cX1_canAdd 17 = .ok (.ldc2_w 64, 3) := by decide +kernel
theorem dX1_canAdd_20 : decode cX1_canAdd 20 = .ok (.lcmp, 1) := by decide +kernel
theorem dX1_canAdd_21 : decode cX1_canAdd 21 = .ok (.ifCond .gt 7, 3) := by decide +kernel
theorem dX1_canAdd_24 : decode cX1_canAdd 24 = .ok (.iconst 1, 1) := by decide +kernel
theorem dX1_canAdd_25 : decode cX1_canAdd 25 = .ok (.goto 4, 3) := by decide +kernel
theorem dX1_canAdd_28 : decode cX1_canAdd 28 = .ok (.iconst 0, 1) := by decide +kernel
theorem dX1_canAdd_29 : decode cX1_canAdd 29 = .ok (.ireturn, 1) := by decide +kernel
theorem dX1_addDone_0 : decode cX1_addDone 0 = .ok (.iload_n 1, 1) := by decide +kernel
theorem dX1_addDone_1 : decode cX1_addDone 1 = .ok (.ifCond .lt 18, 3) := by decide +kernel
theorem dX1_addDone_4 : decode cX1_addDone 4 = .ok (.iload_n 1, 1) := by decide +kernel
theorem dX1_addDone_5 : decode cX1_addDone 5 = .ok (.iconst 3, 1) := by decide +kernel
theorem dX1_addDone_6 : decode cX1_addDone 6 = .ok (.if_icmp .ge 13, 3) := by decide +kernel
theorem dX1_addDone_9 : decode cX1_addDone 9 = .ok (.aload_n 0, 1) := by decide +kernel
theorem dX1_addDone_10 : decode cX1_addDone 10 = .ok (.getfield 9, 3) := by decide +kernel
theorem dX1_addDone_13 : decode cX1_addDone 13 = .ok (.iload_n 1, 1) := by decide +kernel
theorem dX1_addDone_14 : decode cX1_addDone 14 = .ok (.dup2, 1) := by decide +kernel
theorem dX1_addDone_15 : decode cX1_addDone 15 = .ok (.iaload, 1) := by decide +kernel
theorem dX1_addDone_16 : decode cX1_addDone 16 = .ok (.iload_n 2, 1) := by decide +kernel
theorem dX1_addDone_17 : decode cX1_addDone 17 = .ok (.iadd, 1) := by decide +kernel
theorem dX1_addDone_18 : decode cX1_addDone 18 = .ok (.iastore, 1) := by decide +kernel
theorem dX1_addDone_19 : decode cX1_addDone 19 = .ok (.return_, 1) := by decide +kernel
theorem dX1_hasRoomFor_0 : decode cX1_hasRoomFor 0 = .ok (.aload_n 0, 1) := by decide +kernel
theorem dX1_hasRoomFor_1 : decode cX1_hasRoomFor 1 = .ok (.getfield 45, 3) := by decide +kernel
theorem dX1_hasRoomFor_4 : decode cX1_hasRoomFor 4 = .ok (.iconst (-1), 1) := by decide +kernel
theorem dX1_hasRoomFor_5 : decode cX1_hasRoomFor 5 = .ok (.if_icmp .eq 49, 3) := by decide +kernel
theorem dX1_hasRoomFor_8 : decode cX1_hasRoomFor 8 = .ok (.aload_n 0, 1) := by decide +kernel
theorem dX1_hasRoomFor_9 : decode cX1_hasRoomFor 9 = .ok (.getfield 28, 3) := by decide +kernel
theorem dX1_hasRoomFor_12 : decode cX1_hasRoomFor 12 = .ok (.iload_n 1, 1) := by decide +kernel
theorem dX1_hasRoomFor_13 : decode cX1_hasRoomFor 13 = .ok (.invokevirtual 66, 3) := by decide +kernel
theorem dX1_hasRoomFor_16 : decode cX1_hasRoomFor 16 = .ok (.ifCond .ne 38, 3) := by decide +kernel
theorem dX1_hasRoomFor_19 : decode cX1_hasRoomFor 19 = .ok (.aload_n 0, 1) := by decide +kernel
theorem dX1_hasRoomFor_20 : decode cX1_hasRoomFor 20 = .ok (.getfield 54, 3) := by decide +kernel
theorem dX1_hasRoomFor_23 : decode cX1_hasRoomFor 23 = .ok (.iload_n 2, 1) := by decide +kernel
theorem dX1_hasRoomFor_24 : decode cX1_hasRoomFor 24 = .ok (.iadd, 1) := by decide +kernel
theorem dX1_hasRoomFor_25 : decode cX1_hasRoomFor 25 = .ok (.bipush 12, 2) := by decide +kernel
theorem dX1_hasRoomFor_27 : decode cX1_hasRoomFor 27 = .ok (.if_icmp .gt 27, 3) := by decide +kernel
theorem dX1_hasRoomFor_30 : decode cX1_hasRoomFor 30 = .ok (.aload_n 0, 1) := by decide +kernel
theorem dX1_hasRoomFor_31 : decode cX1_hasRoomFor 31 = .ok (.getfield 18, 3) := by decide +kernel
theorem dX1_hasRoomFor_34 : decode cX1_hasRoomFor 34 = .ok (.getfield 35, 3) := by decide +kernel
theorem dX1_hasRoomFor_37 : decode cX1_hasRoomFor 37 = .ok (.aload_n 0, 1) := by decide +kernel
theorem dX1_hasRoomFor_38 : decode cX1_hasRoomFor 38 = .ok (.getfield 22, 3) := by decide +kernel
theorem dX1_hasRoomFor_41 : decode cX1_hasRoomFor 41 = .ok (.getfield 35, 3) := by decide +kernel
theorem dX1_hasRoomFor_44 : decode cX1_hasRoomFor 44 = .ok (.iadd, 1) := by decide +kernel
theorem dX1_hasRoomFor_45 : decode cX1_hasRoomFor 45 = .ok (.bipush 20, 2) := by decide +kernel
theorem dX1_hasRoomFor_47 : decode cX1_hasRoomFor 47 = .ok (.if_icmp .ge 7, 3) := by decide +kernel
theorem dX1_hasRoomFor_50 : decode cX1_hasRoomFor 50 = .ok (.iconst 1, 1) := by decide +kernel
theorem dX1_hasRoomFor_51 : decode cX1_hasRoomFor 51 = .ok (.goto 4, 3) := by decide +kernel
theorem dX1_hasRoomFor_54 : decode cX1_hasRoomFor 54 = .ok (.iconst 0, 1) := by decide +kernel
theorem dX1_hasRoomFor_55 : decode cX1_hasRoomFor 55 = .ok (.ireturn, 1) := by decide +kernel
theorem dX1_work_0 : decode cX1_work 0 = .ok (.aload_n 0, 1) := by decide +kernel
theorem dX1_work_1 : decode cX1_work 1 = .ok (.getfield 54, 3) := by decide +kernel
theorem dX1_work_4 : decode cX1_work 4 = .ok (.ifCond .ne 13, 3) := by decide +kernel
theorem dX1_work_7 : decode cX1_work 7 = .ok (.aload_n 0, 1) := by decide +kernel
theorem dX1_work_8 : decode cX1_work 8 = .ok (.dup, 1) := by decide +kernel
theorem dX1_work_9 : decode cX1_work 9 = .ok (.getfield 51, 3) := by decide +kernel
theorem dX1_work_12 : decode cX1_work 12 = .ok (.iconst 1, 1) := by decide +kernel
theorem dX1_work_13 : decode cX1_work 13 = .ok (.iadd, 1) := by decide +kernel
theorem dX1_work_14 : decode cX1_work 14 = .ok (.putfield 51, 3) := by decide +kernel
theorem dX1_work_17 : decode cX1_work 17 = .ok (.aload_n 0, 1) := by decide +kernel
theorem dX1_work_18 : decode cX1_work 18 = .ok (.dup, 1) := by decide +kernel
theorem dX1_work_19 : decode cX1_work 19 = .ok (.getfield 54, 3) := by decide +kernel
theorem dX1_work_22 : decode cX1_work 22 = .ok (.iload_n 2, 1) := by decide +kernel
theorem dX1_work_23 : decode cX1_work 23 = .ok (.iadd, 1) := by decide +kernel
theorem dX1_work_24 : decode cX1_work 24 = .ok (.putfield 54, 3) := by decide +kernel
theorem dX1_work_27 : decode cX1_work 27 = .ok (.aload_n 0, 1) := by decide +kernel
theorem dX1_work_28 : decode cX1_work 28 = .ok (.getfield 32, 3) := by decide +kernel
theorem dX1_work_31 : decode cX1_work 31 = .ok (.iload_n 3, 1) := by decide +kernel
theorem dX1_work_32 : decode cX1_work 32 = .ok (.invokevirtual 70, 3) := by decide +kernel
theorem dX1_work_35 : decode cX1_work 35 = .ok (.aload_n 0, 1) := by decide +kernel
theorem dX1_work_36 : decode cX1_work 36 = .ok (.getfield 18, 3) := by decide +kernel
theorem dX1_work_39 : decode cX1_work 39 = .ok (.iload_n 1, 1) := by decide +kernel
theorem dX1_work_40 : decode cX1_work 40 = .ok (.iload_n 2, 1) := by decide +kernel
theorem dX1_work_41 : decode cX1_work 41 = .ok (.iload_n 3, 1) := by decide +kernel
theorem dX1_work_42 : decode cX1_work 42 = .ok (.aload_n 0, 1) := by decide +kernel
theorem dX1_work_43 : decode cX1_work 43 = .ok (.getfield 45, 3) := by decide +kernel
theorem dX1_work_46 : decode cX1_work 46 = .ok (.invokevirtual 74, 3) := by decide +kernel
theorem dX1_work_49 : decode cX1_work 49 = .ok (.return_, 1) := by decide +kernel
theorem dX1_canTakeFirst_0 : decode cX1_canTakeFirst 0 = .ok (.iconst 0, 1) := by decide +kernel
theorem dX1_canTakeFirst_1 : decode cX1_canTakeFirst 1 = .ok (.istore_n 2, 1) := by decide +kernel
theorem dX1_canTakeFirst_2 : decode cX1_canTakeFirst 2 = .ok (.iload_n 2, 1) := by decide +kernel
theorem dX1_canTakeFirst_3 : decode cX1_canTakeFirst 3 = .ok (.iconst 3, 1) := by decide +kernel
theorem dX1_canTakeFirst_4 : decode cX1_canTakeFirst 4 = .ok (.if_icmp .ge 32, 3) := by decide +kernel
theorem dX1_canTakeFirst_7 : decode cX1_canTakeFirst 7 = .ok (.aload_n 0, 1) := by decide +kernel
theorem dX1_canTakeFirst_8 : decode cX1_canTakeFirst 8 = .ok (.iload_n 2, 1) := by decide +kernel
theorem dX1_canTakeFirst_9 : decode cX1_canTakeFirst 9 = .ok (.aload_n 0, 1) := by decide +kernel
theorem dX1_canTakeFirst_10 : decode cX1_canTakeFirst 10 = .ok (.getfield 18, 3) := by decide +kernel
theorem dX1_canTakeFirst_13 : decode cX1_canTakeFirst 13 = .ok (.iload_n 1, 1) := by decide +kernel
theorem dX1_canTakeFirst_14 : decode cX1_canTakeFirst 14 = .ok (.aload_n 0, 1) := by decide +kernel
theorem dX1_canTakeFirst_15 : decode cX1_canTakeFirst 15 = .ok (.getfield 45, 3) := by decide +kernel
theorem dX1_canTakeFirst_18 : decode cX1_canTakeFirst 18 = .ok (.iload_n 2, 1) := by decide +kernel
theorem dX1_canTakeFirst_19 : decode cX1_canTakeFirst 19 = .ok (.invokevirtual 78, 3) := by decide +kernel
theorem dX1_canTakeFirst_22 : decode cX1_canTakeFirst 22 = .ok (.invokevirtual 82, 3) := by decide +kernel
theorem dX1_canTakeFirst_25 : decode cX1_canTakeFirst 25 = .ok (.ifCond .ne 5, 3) := by decide +kernel
theorem dX1_canTakeFirst_28 : decode cX1_canTakeFirst 28 = .ok (.iconst 0, 1) := by decide +kernel
theorem dX1_canTakeFirst_29 : decode cX1_canTakeFirst 29 = .ok (.ireturn, 1) := by decide +kernel
theorem dX1_canTakeFirst_30 : decode cX1_canTakeFirst 30 = .ok (.iinc 2 1, 3) := by decide +kernel
theorem dX1_canTakeFirst_33 : decode cX1_canTakeFirst 33 = .ok (.goto (-31), 3) := by decide +kernel
theorem dX1_canTakeFirst_36 : decode cX1_canTakeFirst 36 = .ok (.iconst 1, 1) := by decide +kernel
theorem dX1_canTakeFirst_37 : decode cX1_canTakeFirst 37 = .ok (.ireturn, 1) := by decide +kernel
theorem dX1_takeFirst_0 : decode cX1_takeFirst 0 = .ok (.iconst 0, 1) := by decide +kernel
theorem dX1_takeFirst_1 : decode cX1_takeFirst 1 = .ok (.istore_n 2, 1) := by decide +kernel
theorem dX1_takeFirst_2 : decode cX1_takeFirst 2 = .ok (.iconst 0, 1) := by decide +kernel
theorem dX1_takeFirst_3 : decode cX1_takeFirst 3 = .ok (.istore_n 3, 1) := by decide +kernel
theorem dX1_takeFirst_4 : decode cX1_takeFirst 4 = .ok (.aload_n 0, 1) := by decide +kernel
theorem dX1_takeFirst_5 : decode cX1_takeFirst 5 = .ok (.getfield 18, 3) := by decide +kernel
theorem dX1_takeFirst_8 : decode cX1_takeFirst 8 = .ok (.getfield 35, 3) := by decide +kernel
theorem dX1_takeFirst_11 : decode cX1_takeFirst 11 = .ok (.istore 4, 2) := by decide +kernel
theorem dX1_takeFirst_13 : decode cX1_takeFirst 13 = .ok (.iload 4, 2) := by decide +kernel
theorem dX1_takeFirst_15 : decode cX1_takeFirst 15 = .ok (.ifCond .le 69, 3) := by decide +kernel
theorem dX1_takeFirst_18 : decode cX1_takeFirst 18 = .ok (.iload_n 2, 1) := by decide +kernel
theorem dX1_takeFirst_19 : decode cX1_takeFirst 19 = .ok (.iload_n 1, 1) := by decide +kernel
theorem dX1_takeFirst_20 : decode cX1_takeFirst 20 = .ok (.if_icmp .ge 64, 3) := by decide +kernel
theorem dX1_takeFirst_23 : decode cX1_takeFirst 23 = .ok (.aload_n 0, 1) := by decide +kernel
theorem dX1_takeFirst_24 : decode cX1_takeFirst 24 = .ok (.getfield 18, 3) := by decide +kernel
theorem dX1_takeFirst_27 : decode cX1_takeFirst 27 = .ok (.iload_n 3, 1) := by decide +kernel
theorem dX1_takeFirst_28 : decode cX1_takeFirst 28 = .ok (.iconst 3, 1) := by decide +kernel
theorem dX1_takeFirst_29 : decode cX1_takeFirst 29 = .ok (.invokevirtual 86, 3) := by decide +kernel
theorem dX1_takeFirst_32 : decode cX1_takeFirst 32 = .ok (.aload_n 0, 1) := by decide +kernel
theorem dX1_takeFirst_33 : decode cX1_takeFirst 33 = .ok (.getfield 45, 3) := by decide +kernel
theorem dX1_takeFirst_36 : decode cX1_takeFirst 36 = .ok (.if_icmp .ne 39, 3) := by decide +kernel
theorem dX1_takeFirst_39 : decode cX1_takeFirst 39 = .ok (.aload_n 0, 1) := by decide +kernel
theorem dX1_takeFirst_40 : decode cX1_takeFirst 40 = .ok (.aload_n 0, 1) := by decide +kernel
theorem dX1_takeFirst_41 : decode cX1_takeFirst 41 = .ok (.getfield 18, 3) := by decide +kernel
theorem dX1_takeFirst_44 : decode cX1_takeFirst 44 = .ok (.iload_n 3, 1) := by decide +kernel
theorem dX1_takeFirst_45 : decode cX1_takeFirst 45 = .ok (.iconst 0, 1) := by decide +kernel
theorem dX1_takeFirst_46 : decode cX1_takeFirst 46 = .ok (.invokevirtual 86, 3) := by decide +kernel
theorem dX1_takeFirst_49 : decode cX1_takeFirst 49 = .ok (.aload_n 0, 1) := by decide +kernel
theorem dX1_takeFirst_50 : decode cX1_takeFirst 50 = .ok (.getfield 18, 3) := by decide +kernel
theorem dX1_takeFirst_53 : decode cX1_takeFirst 53 = .ok (.iload_n 3, 1) := by decide +kernel
theorem dX1_takeFirst_54 : decode cX1_takeFirst 54 = .ok (.iconst 1, 1) := by decide +kernel
theorem dX1_takeFirst_55 : decode cX1_takeFirst 55 = .ok (.invokevirtual 86, 3) := by decide +kernel
theorem dX1_takeFirst_58 : decode cX1_takeFirst 58 = .ok (.invokevirtual 90, 3) := by decide +kernel
theorem dX1_takeFirst_61 : decode cX1_takeFirst 61 = .ok (.aload_n 0, 1) := by decide +kernel
theorem dX1_takeFirst_62 : decode cX1_takeFirst 62 = .ok (.getfield 18, 3) := by decide +kernel
theorem dX1_takeFirst_65 : decode cX1_takeFirst 65 = .ok (.iload_n 3, 1) := by decide +kernel
theorem dX1_takeFirst_66 : decode cX1_takeFirst 66 = .ok (.invokevirtual 94, 3) := by decide +kernel
theorem dX1_takeFirst_69 : decode cX1_takeFirst 69 = .ok (.iinc 2 1, 3) := by decide +kernel
theorem dX1_takeFirst_72 : decode cX1_takeFirst 72 = .ok (.goto 6, 3) := by decide +kernel
theorem dX1_takeFirst_75 : decode cX1_takeFirst 75 = .ok (.iinc 3 1, 3) := by decide +kernel
theorem dX1_takeFirst_78 : decode cX1_takeFirst 78 = .ok (.iinc 4 (-1), 3) := by decide +kernel
theorem dX1_takeFirst_81 : decode cX1_takeFirst 81 = .ok (.goto (-68), 3) := by decide +kernel
theorem dX1_takeFirst_84 : decode cX1_takeFirst 84 = .ok (.iload_n 2, 1) := by decide +kernel
theorem dX1_takeFirst_85 : decode cX1_takeFirst 85 = .ok (.ireturn, 1) := by decide +kernel
theorem dX1_doubtAt_0 : decode cX1_doubtAt 0 = .ok (.aload_n 0, 1) := by decide +kernel
theorem dX1_doubtAt_1 : decode cX1_doubtAt 1 = .ok (.getfield 22, 3) := by decide +kernel
theorem dX1_doubtAt_4 : decode cX1_doubtAt 4 = .ok (.aload_n 0, 1) := by decide +kernel
theorem dX1_doubtAt_5 : decode cX1_doubtAt 5 = .ok (.getfield 18, 3) := by decide +kernel
theorem dX1_doubtAt_8 : decode cX1_doubtAt 8 = .ok (.iload_n 1, 1) := by decide +kernel
theorem dX1_doubtAt_9 : decode cX1_doubtAt 9 = .ok (.iconst 0, 1) := by decide +kernel
theorem dX1_doubtAt_10 : decode cX1_doubtAt 10 = .ok (.invokevirtual 86, 3) := by decide +kernel
theorem dX1_doubtAt_13 : decode cX1_doubtAt 13 = .ok (.aload_n 0, 1) := by decide +kernel
theorem dX1_doubtAt_14 : decode cX1_doubtAt 14 = .ok (.getfield 18, 3) := by decide +kernel
theorem dX1_doubtAt_17 : decode cX1_doubtAt 17 = .ok (.iload_n 1, 1) := by decide +kernel
theorem dX1_doubtAt_18 : decode cX1_doubtAt 18 = .ok (.iconst 1, 1) := by decide +kernel
theorem dX1_doubtAt_19 : decode cX1_doubtAt 19 = .ok (.invokevirtual 86, 3) := by decide +kernel
theorem dX1_doubtAt_22 : decode cX1_doubtAt 22 = .ok (.aload_n 0, 1) := by decide +kernel
theorem dX1_doubtAt_23 : decode cX1_doubtAt 23 = .ok (.getfield 18, 3) := by decide +kernel
theorem dX1_doubtAt_26 : decode cX1_doubtAt 26 = .ok (.iload_n 1, 1) := by decide +kernel
theorem dX1_doubtAt_27 : decode cX1_doubtAt 27 = .ok (.iconst 2, 1) := by decide +kernel
theorem dX1_doubtAt_28 : decode cX1_doubtAt 28 = .ok (.invokevirtual 86, 3) := by decide +kernel
theorem dX1_doubtAt_31 : decode cX1_doubtAt 31 = .ok (.aload_n 0, 1) := by decide +kernel
theorem dX1_doubtAt_32 : decode cX1_doubtAt 32 = .ok (.getfield 18, 3) := by decide +kernel
theorem dX1_doubtAt_35 : decode cX1_doubtAt 35 = .ok (.iload_n 1, 1) := by decide +kernel
theorem dX1_doubtAt_36 : decode cX1_doubtAt 36 = .ok (.iconst 3, 1) := by decide +kernel
theorem dX1_doubtAt_37 : decode cX1_doubtAt 37 = .ok (.invokevirtual 86, 3) := by decide +kernel
theorem dX1_doubtAt_40 : decode cX1_doubtAt 40 = .ok (.invokevirtual 74, 3) := by decide +kernel
theorem dX1_doubtAt_43 : decode cX1_doubtAt 43 = .ok (.aload_n 0, 1) := by decide +kernel
theorem dX1_doubtAt_44 : decode cX1_doubtAt 44 = .ok (.getfield 18, 3) := by decide +kernel
theorem dX1_doubtAt_47 : decode cX1_doubtAt 47 = .ok (.iload_n 1, 1) := by decide +kernel
theorem dX1_doubtAt_48 : decode cX1_doubtAt 48 = .ok (.invokevirtual 94, 3) := by decide +kernel
theorem dX1_doubtAt_51 : decode cX1_doubtAt 51 = .ok (.return_, 1) := by decide +kernel
theorem dX1_doubtUntil_0 : decode cX1_doubtUntil 0 = .ok (.iconst 0, 1) := by decide +kernel
theorem dX1_doubtUntil_1 : decode cX1_doubtUntil 1 = .ok (.istore_n 2, 1) := by decide +kernel
theorem dX1_doubtUntil_2 : decode cX1_doubtUntil 2 = .ok (.iconst 0, 1) := by decide +kernel
theorem dX1_doubtUntil_3 : decode cX1_doubtUntil 3 = .ok (.istore_n 3, 1) := by decide +kernel
theorem dX1_doubtUntil_4 : decode cX1_doubtUntil 4 = .ok (.aload_n 0, 1) := by decide +kernel
theorem dX1_doubtUntil_5 : decode cX1_doubtUntil 5 = .ok (.getfield 18, 3) := by decide +kernel
theorem dX1_doubtUntil_8 : decode cX1_doubtUntil 8 = .ok (.getfield 35, 3) := by decide +kernel
theorem dX1_doubtUntil_11 : decode cX1_doubtUntil 11 = .ok (.istore 4, 2) := by decide +kernel
theorem dX1_doubtUntil_13 : decode cX1_doubtUntil 13 = .ok (.iload 4, 2) := by decide +kernel
theorem dX1_doubtUntil_15 : decode cX1_doubtUntil 15 = .ok (.ifCond .le 36, 3) := by decide +kernel
theorem dX1_doubtUntil_18 : decode cX1_doubtUntil 18 = .ok (.aload_n 0, 1) := by decide +kernel
theorem dX1_doubtUntil_19 : decode cX1_doubtUntil 19 = .ok (.getfield 18, 3) := by decide +kernel
theorem dX1_doubtUntil_22 : decode cX1_doubtUntil 22 = .ok (.iload_n 3, 1) := by decide +kernel
theorem dX1_doubtUntil_23 : decode cX1_doubtUntil 23 = .ok (.iconst 2, 1) := by decide +kernel
theorem dX1_doubtUntil_24 : decode cX1_doubtUntil 24 = .ok (.invokevirtual 86, 3) := by decide +kernel
theorem dX1_doubtUntil_27 : decode cX1_doubtUntil 27 = .ok (.iload_n 1, 1) := by decide +kernel
theorem dX1_doubtUntil_28 : decode cX1_doubtUntil 28 = .ok (.if_icmp .gt 14, 3) := by decide +kernel
theorem dX1_doubtUntil_31 : decode cX1_doubtUntil 31 = .ok (.aload_n 0, 1) := by decide +kernel
theorem dX1_doubtUntil_32 : decode cX1_doubtUntil 32 = .ok (.iload_n 3, 1) := by decide +kernel
theorem dX1_doubtUntil_33 : decode cX1_doubtUntil 33 = .ok (.invokevirtual 97, 3) := by decide +kernel
theorem dX1_doubtUntil_36 : decode cX1_doubtUntil 36 = .ok (.iinc 2 1, 3) := by decide +kernel
theorem dX1_doubtUntil_39 : decode cX1_doubtUntil 39 = .ok (.goto 6, 3) := by decide +kernel
theorem dX1_doubtUntil_42 : decode cX1_doubtUntil 42 = .ok (.iinc 3 1, 3) := by decide +kernel
theorem dX1_doubtUntil_45 : decode cX1_doubtUntil 45 = .ok (.iinc 4 (-1), 3) := by decide +kernel
theorem dX1_doubtUntil_48 : decode cX1_doubtUntil 48 = .ok (.goto (-35), 3) := by decide +kernel
theorem dX1_doubtUntil_51 : decode cX1_doubtUntil 51 = .ok (.iload_n 2, 1) := by decide +kernel
theorem dX1_doubtUntil_52 : decode cX1_doubtUntil 52 = .ok (.ireturn, 1) := by decide +kernel
theorem dX1_doubtsWith_0 : decode cX1_doubtsWith 0 = .ok (.aload_n 0, 1) := by decide +kernel
theorem dX1_doubtsWith_1 : decode cX1_doubtsWith 1 = .ok (.getfield 18, 3) := by decide +kernel
theorem dX1_doubtsWith_4 : decode cX1_doubtsWith 4 = .ok (.getfield 35, 3) := by decide +kernel
theorem dX1_doubtsWith_7 : decode cX1_doubtsWith 7 = .ok (.aload_n 0, 1) := by decide +kernel
theorem dX1_doubtsWith_8 : decode cX1_doubtsWith 8 = .ok (.getfield 18, 3) := by decide +kernel
theorem dX1_doubtsWith_11 : decode cX1_doubtsWith 11 = .ok (.iload_n 1, 1) := by decide +kernel
theorem dX1_doubtsWith_12 : decode cX1_doubtsWith 12 = .ok (.invokevirtual 100, 3) := by decide +kernel
theorem dX1_doubtsWith_15 : decode cX1_doubtsWith 15 = .ok (.isub, 1) := by decide +kernel
theorem dX1_doubtsWith_16 : decode cX1_doubtsWith 16 = .ok (.ireturn, 1) := by decide +kernel
theorem dX1_leadTo_0 : decode cX1_leadTo 0 = .ok (.iconst 0, 1) := by decide +kernel
theorem dX1_leadTo_1 : decode cX1_leadTo 1 = .ok (.istore_n 2, 1) := by decide +kernel
theorem dX1_leadTo_2 : decode cX1_leadTo 2 = .ok (.iconst 0, 1) := by decide +kernel
theorem dX1_leadTo_3 : decode cX1_leadTo 3 = .ok (.istore_n 3, 1) := by decide +kernel
theorem dX1_leadTo_4 : decode cX1_leadTo 4 = .ok (.aload_n 0, 1) := by decide +kernel
theorem dX1_leadTo_5 : decode cX1_leadTo 5 = .ok (.getfield 18, 3) := by decide +kernel
theorem dX1_leadTo_8 : decode cX1_leadTo 8 = .ok (.getfield 35, 3) := by decide +kernel
theorem dX1_leadTo_11 : decode cX1_leadTo 11 = .ok (.istore 4, 2) := by decide +kernel
theorem dX1_leadTo_13 : decode cX1_leadTo 13 = .ok (.iload 4, 2) := by decide +kernel
theorem dX1_leadTo_15 : decode cX1_leadTo 15 = .ok (.ifCond .le 36, 3) := by decide +kernel
theorem dX1_leadTo_18 : decode cX1_leadTo 18 = .ok (.aload_n 0, 1) := by decide +kernel
theorem dX1_leadTo_19 : decode cX1_leadTo 19 = .ok (.getfield 18, 3) := by decide +kernel
theorem dX1_leadTo_22 : decode cX1_leadTo 22 = .ok (.iload_n 3, 1) := by decide +kernel
theorem dX1_leadTo_23 : decode cX1_leadTo 23 = .ok (.iconst 3, 1) := by decide +kernel
theorem dX1_leadTo_24 : decode cX1_leadTo 24 = .ok (.invokevirtual 86, 3) := by decide +kernel
theorem dX1_leadTo_27 : decode cX1_leadTo 27 = .ok (.iload_n 1, 1) := by decide +kernel
theorem dX1_leadTo_28 : decode cX1_leadTo 28 = .ok (.if_icmp .eq 14, 3) := by decide +kernel
theorem dX1_leadTo_31 : decode cX1_leadTo 31 = .ok (.aload_n 0, 1) := by decide +kernel
theorem dX1_leadTo_32 : decode cX1_leadTo 32 = .ok (.iload_n 3, 1) := by decide +kernel
theorem dX1_leadTo_33 : decode cX1_leadTo 33 = .ok (.invokevirtual 97, 3) := by decide +kernel
theorem dX1_leadTo_36 : decode cX1_leadTo 36 = .ok (.iinc 2 1, 3) := by decide +kernel
theorem dX1_leadTo_39 : decode cX1_leadTo 39 = .ok (.goto 6, 3) := by decide +kernel
theorem dX1_leadTo_42 : decode cX1_leadTo 42 = .ok (.iinc 3 1, 3) := by decide +kernel
theorem dX1_leadTo_45 : decode cX1_leadTo 45 = .ok (.iinc 4 (-1), 3) := by decide +kernel
theorem dX1_leadTo_48 : decode cX1_leadTo 48 = .ok (.goto (-35), 3) := by decide +kernel
theorem dX1_leadTo_51 : decode cX1_leadTo 51 = .ok (.aload_n 0, 1) := by decide +kernel
theorem dX1_leadTo_52 : decode cX1_leadTo 52 = .ok (.iload_n 1, 1) := by decide +kernel
theorem dX1_leadTo_53 : decode cX1_leadTo 53 = .ok (.putfield 45, 3) := by decide +kernel
theorem dX1_leadTo_56 : decode cX1_leadTo 56 = .ok (.aload_n 0, 1) := by decide +kernel
theorem dX1_leadTo_57 : decode cX1_leadTo 57 = .ok (.dup, 1) := by decide +kernel
theorem dX1_leadTo_58 : decode cX1_leadTo 58 = .ok (.getfield 57, 3) := by decide +kernel
theorem dX1_leadTo_61 : decode cX1_leadTo 61 = .ok (.iconst 1, 1) := by decide +kernel
theorem dX1_leadTo_62 : decode cX1_leadTo 62 = .ok (.iadd, 1) := by decide +kernel
theorem dX1_leadTo_63 : decode cX1_leadTo 63 = .ok (.putfield 57, 3) := by decide +kernel
theorem dX1_leadTo_66 : decode cX1_leadTo 66 = .ok (.iload_n 2, 1) := by decide +kernel
theorem dX1_leadTo_67 : decode cX1_leadTo 67 = .ok (.ireturn, 1) := by decide +kernel
theorem dX1_copyApprentice_0 : decode cX1_copyApprentice 0 = .ok (.aload_n 1, 1) := by decide +kernel
theorem dX1_copyApprentice_1 : decode cX1_copyApprentice 1 = .ok (.getfield 9, 3) := by decide +kernel
theorem dX1_copyApprentice_4 : decode cX1_copyApprentice 4 = .ok (.iconst 0, 1) := by decide +kernel
theorem dX1_copyApprentice_5 : decode cX1_copyApprentice 5 = .ok (.aload_n 0, 1) := by decide +kernel
theorem dX1_copyApprentice_6 : decode cX1_copyApprentice 6 = .ok (.getfield 9, 3) := by decide +kernel
theorem dX1_copyApprentice_9 : decode cX1_copyApprentice 9 = .ok (.iconst 0, 1) := by decide +kernel
theorem dX1_copyApprentice_10 : decode cX1_copyApprentice 10 = .ok (.iconst 3, 1) := by decide +kernel
theorem dX1_copyApprentice_11 : decode cX1_copyApprentice 11 = .ok (.invokestatic 103, 3) := by decide +kernel
theorem dX1_copyApprentice_14 : decode cX1_copyApprentice 14 = .ok (.aload_n 0, 1) := by decide +kernel
theorem dX1_copyApprentice_15 : decode cX1_copyApprentice 15 = .ok (.getfield 18, 3) := by decide +kernel
theorem dX1_copyApprentice_18 : decode cX1_copyApprentice 18 = .ok (.aload_n 1, 1) := by decide +kernel
theorem dX1_copyApprentice_19 : decode cX1_copyApprentice 19 = .ok (.getfield 18, 3) := by decide +kernel
theorem dX1_copyApprentice_22 : decode cX1_copyApprentice 22 = .ok (.invokevirtual 109, 3) := by decide +kernel
theorem dX1_copyApprentice_25 : decode cX1_copyApprentice 25 = .ok (.aload_n 0, 1) := by decide +kernel
theorem dX1_copyApprentice_26 : decode cX1_copyApprentice 26 = .ok (.getfield 22, 3) := by decide +kernel
theorem dX1_copyApprentice_29 : decode cX1_copyApprentice 29 = .ok (.aload_n 1, 1) := by decide +kernel
theorem dX1_copyApprentice_30 : decode cX1_copyApprentice 30 = .ok (.getfield 22, 3) := by decide +kernel
theorem dX1_copyApprentice_33 : decode cX1_copyApprentice 33 = .ok (.invokevirtual 109, 3) := by decide +kernel
theorem dX1_copyApprentice_36 : decode cX1_copyApprentice 36 = .ok (.aload_n 0, 1) := by decide +kernel
theorem dX1_copyApprentice_37 : decode cX1_copyApprentice 37 = .ok (.getfield 28, 3) := by decide +kernel
theorem dX1_copyApprentice_40 : decode cX1_copyApprentice 40 = .ok (.aload_n 1, 1) := by decide +kernel
theorem dX1_copyApprentice_41 : decode cX1_copyApprentice 41 = .ok (.getfield 28, 3) := by decide +kernel
theorem dX1_copyApprentice_44 : decode cX1_copyApprentice 44 = .ok (.invokevirtual 113, 3) := by decide +kernel
theorem dX1_copyApprentice_47 : decode cX1_copyApprentice 47 = .ok (.aload_n 0, 1) := by decide +kernel
theorem dX1_copyApprentice_48 : decode cX1_copyApprentice 48 = .ok (.getfield 32, 3) := by decide +kernel
theorem dX1_copyApprentice_51 : decode cX1_copyApprentice 51 = .ok (.aload_n 1, 1) := by decide +kernel
theorem dX1_copyApprentice_52 : decode cX1_copyApprentice 52 = .ok (.getfield 32, 3) := by decide +kernel
theorem dX1_copyApprentice_55 : decode cX1_copyApprentice 55 = .ok (.invokevirtual 113, 3) := by decide +kernel
theorem dX1_copyApprentice_58 : decode cX1_copyApprentice 58 = .ok (.aload_n 0, 1) := by decide +kernel
theorem dX1_copyApprentice_59 : decode cX1_copyApprentice 59 = .ok (.aload_n 1, 1) := by decide +kernel
theorem dX1_copyApprentice_60 : decode cX1_copyApprentice 60 = .ok (.getfield 42, 3) := by decide +kernel
theorem dX1_copyApprentice_63 : decode cX1_copyApprentice 63 = .ok (.putfield 42, 3) := by decide +kernel
theorem dX1_copyApprentice_66 : decode cX1_copyApprentice 66 = .ok (.aload_n 0, 1) := by decide +kernel
theorem dX1_copyApprentice_67 : decode cX1_copyApprentice 67 = .ok (.aload_n 1, 1) := by decide +kernel
theorem dX1_copyApprentice_68 : decode cX1_copyApprentice 68 = .ok (.getfield 45, 3) := by decide +kernel
theorem dX1_copyApprentice_71 : decode cX1_copyApprentice 71 = .ok (.putfield 45, 3) := by decide +kernel
theorem dX1_copyApprentice_74 : decode cX1_copyApprentice 74 = .ok (.aload_n 0, 1) := by decide +kernel
theorem dX1_copyApprentice_75 : decode cX1_copyApprentice 75 = .ok (.aload_n 1, 1) := by decide +kernel
theorem dX1_copyApprentice_76 : decode cX1_copyApprentice 76 = .ok (.getfield 48, 3) := by decide +kernel
theorem dX1_copyApprentice_79 : decode cX1_copyApprentice 79 = .ok (.putfield 48, 3) := by decide +kernel
theorem dX1_copyApprentice_82 : decode cX1_copyApprentice 82 = .ok (.aload_n 0, 1) := by decide +kernel
theorem dX1_copyApprentice_83 : decode cX1_copyApprentice 83 = .ok (.aload_n 1, 1) := by decide +kernel
theorem dX1_copyApprentice_84 : decode cX1_copyApprentice 84 = .ok (.getfield 51, 3) := by decide +kernel
theorem dX1_copyApprentice_87 : decode cX1_copyApprentice 87 = .ok (.putfield 51, 3) := by decide +kernel
theorem dX1_copyApprentice_90 : decode cX1_copyApprentice 90 = .ok (.aload_n 0, 1) := by decide +kernel
theorem dX1_copyApprentice_91 : decode cX1_copyApprentice 91 = .ok (.aload_n 1, 1) := by decide +kernel
theorem dX1_copyApprentice_92 : decode cX1_copyApprentice 92 = .ok (.getfield 54, 3) := by decide +kernel
theorem dX1_copyApprentice_95 : decode cX1_copyApprentice 95 = .ok (.putfield 54, 3) := by decide +kernel
theorem dX1_copyApprentice_98 : decode cX1_copyApprentice 98 = .ok (.aload_n 0, 1) := by decide +kernel
theorem dX1_copyApprentice_99 : decode cX1_copyApprentice 99 = .ok (.aload_n 1, 1) := by decide +kernel
theorem dX1_copyApprentice_100 : decode cX1_copyApprentice 100 = .ok (.getfield 57, 3) := by decide +kernel
theorem dX1_copyApprentice_103 : decode cX1_copyApprentice 103 = .ok (.putfield 57, 3) := by decide +kernel
theorem dX1_copyApprentice_106 : decode cX1_copyApprentice 106 = .ok (.return_, 1) := by decide +kernel
theorem dX3_init_0 : decode cX3_init 0 = .ok (.aload_n 0, 1) := by decide +kernel
theorem dX3_init_1 : decode cX3_init 1 = .ok (.invokespecial 3, 3) := by decide +kernel
theorem dX3_init_4 : decode cX3_init 4 = .ok (.aload_n 0, 1) := by decide +kernel
theorem dX3_init_5 : decode cX3_init 5 = .ok (.sipush 150, 3) := by decide +kernel
theorem dX3_init_8 : decode cX3_init 8 = .ok (.newarray .int, 2) := by decide +kernel
theorem dX3_init_10 : decode cX3_init 10 = .ok (.putfield 9, 3) := by decide +kernel
theorem dX3_init_13 : decode cX3_init 13 = .ok (.aload_n 0, 1) := by decide +kernel
theorem dX3_init_14 : decode cX3_init 14 = .ok (.bipush 21, 2) := by decide +kernel
theorem dX3_init_16 : decode cX3_init 16 = .ok (.anewarray 15, 3) := by decide +kernel
theorem dX3_init_19 : decode cX3_init 19 = .ok (.putfield 17, 3) := by decide +kernel
theorem dX3_init_22 : decode cX3_init 22 = .ok (.aload_n 0, 1) := by decide +kernel
theorem dX3_init_23 : decode cX3_init 23 = .ok (.bipush 21, 2) := by decide +kernel
theorem dX3_init_25 : decode cX3_init 25 = .ok (.iconst 3, 1) := by decide +kernel
theorem dX3_init_26 : decode cX3_init 26 = .ok (.multianewarray 21 2, 4) := by decide +kernel
theorem dX3_init_30 : decode cX3_init 30 = .ok (.putfield 23, 3) := by decide +kernel
theorem dX3_init_33 : decode cX3_init 33 = .ok (.return_, 1) := by decide +kernel
theorem dX3_append_0 : decode cX3_append 0 = .ok (.aload_n 0, 1) := by decide +kernel
theorem dX3_append_1 : decode cX3_append 1 = .ok (.getfield 26, 3) := by decide +kernel
theorem dX3_append_4 : decode cX3_append 4 = .ok (.sipush 150, 3) := by decide +kernel
theorem dX3_append_7 : decode cX3_append 7 = .ok (.if_icmp .ge 23, 3) := by decide +kernel
theorem dX3_append_10 : decode cX3_append 10 = .ok (.aload_n 0, 1) := by decide +kernel
theorem dX3_append_11 : decode cX3_append 11 = .ok (.getfield 9, 3) := by decide +kernel
theorem dX3_append_14 : decode cX3_append 14 = .ok (.aload_n 0, 1) := by decide +kernel
theorem dX3_append_15 : decode cX3_append 15 = .ok (.getfield 26, 3) := by decide +kernel
theorem dX3_append_18 : decode cX3_append 18 = .ok (.iload_n 1, 1) := by decide +kernel
theorem dX3_append_19 : decode cX3_append 19 = .ok (.iastore, 1) := by decide +kernel
theorem dX3_append_20 : decode cX3_append 20 = .ok (.aload_n 0, 1) := by decide +kernel
theorem dX3_append_21 : decode cX3_append 21 = .ok (.dup, 1) := by decide +kernel
theorem dX3_append_22 : decode cX3_append 22 = .ok (.getfield 26, 3) := by decide +kernel
theorem dX3_append_25 : decode cX3_append 25 = .ok (.iconst 1, 1) := by decide +kernel
theorem dX3_append_26 : decode cX3_append 26 = .ok (.iadd, 1) := by decide +kernel
theorem dX3_append_27 : decode cX3_append 27 = .ok (.putfield 26, 3) := by decide +kernel
theorem dX3_append_30 : decode cX3_append 30 = .ok (.aload_n 0, 1) := by decide +kernel
theorem dX3_append_31 : decode cX3_append 31 = .ok (.getfield 26, 3) := by decide +kernel
theorem dX3_append_34 : decode cX3_append 34 = .ok (.ireturn, 1) := by decide +kernel
theorem dX4_init_0 : decode cX4_init 0 = .ok (.aload_n 0, 1) := by decide +kernel
theorem dX4_init_1 : decode cX4_init 1 = .ok (.invokespecial 3, 3) := by decide +kernel
theorem dX4_init_4 : decode cX4_init 4 = .ok (.aload_n 0, 1) := by decide +kernel
theorem dX4_init_5 : decode cX4_init 5 = .ok (.iconst 4, 1) := by decide +kernel
theorem dX4_init_6 : decode cX4_init 6 = .ok (.newarray .long, 2) := by decide +kernel
theorem dX4_init_8 : decode cX4_init 8 = .ok (.putfield 11, 3) := by decide +kernel
theorem dX4_init_11 : decode cX4_init 11 = .ok (.return_, 1) := by decide +kernel
theorem dX4_has_0 : decode cX4_has 0 = .ok (.iload_n 1, 1) := by decide +kernel
theorem dX4_has_1 : decode cX4_has 1 = .ok (.ifCond .lt 10, 3) := by decide +kernel
theorem dX4_has_4 : decode cX4_has 4 = .ok (.iload_n 1, 1) := by decide +kernel
theorem dX4_has_5 : decode cX4_has 5 = .ok (.sipush 200, 3) := by decide +kernel
theorem dX4_has_8 : decode cX4_has 8 = .ok (.if_icmp .lt 5, 3) := by decide +kernel
theorem dX4_has_11 : decode cX4_has 11 = .ok (.iconst 0, 1) := by decide +kernel
theorem dX4_has_12 : decode cX4_has 12 = .ok (.ireturn, 1) := by decide +kernel
theorem dX4_has_13 : decode cX4_has 13 = .ok (.aload_n 0, 1) := by decide +kernel
theorem dX4_has_14 : decode cX4_has 14 = .ok (.getfield 11, 3) := by decide +kernel
theorem dX4_has_17 : decode cX4_has 17 = .ok (.iload_n 1, 1) := by decide +kernel
theorem dX4_has_18 : decode cX4_has 18 = .ok (.bipush 64, 2) := by decide +kernel
theorem dX4_has_20 : decode cX4_has 20 = .ok (.idiv, 1) := by decide +kernel
theorem dX4_has_21 : decode cX4_has 21 = .ok (.laload, 1) := by decide +kernel
theorem dX4_has_22 : decode cX4_has 22 = .ok (.iload_n 1, 1) := by decide +kernel
theorem dX4_has_23 : decode cX4_has 23 = .ok (.bipush 64, 2) := by decide +kernel
theorem dX4_has_25 : decode cX4_has 25 = .ok (.irem, 1) := by decide +kernel
theorem dX4_has_26 : decode cX4_has 26 = .ok (.lushr, 1) := by decide +kernel
theorem dX4_has_27 : decode cX4_has 27 = .ok (.lconst 1, 1) := by decide +kernel
theorem dX4_has_28 : decode cX4_has 28 = .ok (.land, 1) := by decide +kernel
theorem dX4_has_29 : decode cX4_has 29 = .ok (.lconst 0, 1) := by decide +kernel
theorem dX4_has_30 : decode cX4_has 30 = .ok (.lcmp, 1) := by decide +kernel
theorem dX4_has_31 : decode cX4_has 31 = .ok (.ifCond .eq 7, 3) := by decide +kernel
theorem dX4_has_34 : decode cX4_has 34 = .ok (.iconst 1, 1) := by decide +kernel
theorem dX4_has_35 : decode cX4_has 35 = .ok (.goto 4, 3) := by decide +kernel
theorem dX4_has_38 : decode cX4_has 38 = .ok (.iconst 0, 1) := by decide +kernel
theorem dX4_has_39 : decode cX4_has 39 = .ok (.ireturn, 1) := by decide +kernel
theorem dX4_put_0 : decode cX4_put 0 = .ok (.iload_n 1, 1) := by decide +kernel
theorem dX4_put_1 : decode cX4_put 1 = .ok (.ifCond .lt 18, 3) := by decide +kernel
theorem dX4_put_4 : decode cX4_put 4 = .ok (.iload_n 1, 1) := by decide +kernel
theorem dX4_put_5 : decode cX4_put 5 = .ok (.sipush 200, 3) := by decide +kernel
theorem dX4_put_8 : decode cX4_put 8 = .ok (.if_icmp .ge 11, 3) := by decide +kernel
theorem dX4_put_11 : decode cX4_put 11 = .ok (.aload_n 0, 1) := by decide +kernel
theorem dX4_put_12 : decode cX4_put 12 = .ok (.iload_n 1, 1) := by decide +kernel
theorem dX4_put_13 : decode cX4_put 13 = .ok (.invokevirtual 15, 3) := by decide +kernel
theorem dX4_put_16 : decode cX4_put 16 = .ok (.ifCond .eq 4, 3) := by decide +kernel
theorem dX4_put_19 : decode cX4_put 19 = .ok (.return_, 1) := by decide +kernel
theorem dX4_put_20 : decode cX4_put 20 = .ok (.aload_n 0, 1) := by decide +kernel
theorem dX4_put_21 : decode cX4_put 21 = .ok (.getfield 11, 3) := by decide +kernel
theorem dX4_put_24 : decode cX4_put 24 = .ok (.iload_n 1, 1) := by decide +kernel
theorem dX4_put_25 : decode cX4_put 25 = .ok (.bipush 64, 2) := by decide +kernel
theorem dX4_put_27 : decode cX4_put 27 = .ok (.idiv, 1) := by decide +kernel
theorem dX4_put_28 : decode cX4_put 28 = .ok (.dup2, 1) := by decide +kernel
theorem dX4_put_29 : decode cX4_put 29 = .ok (.laload, 1) := by decide +kernel
theorem dX4_put_30 : decode cX4_put 30 = .ok (.lconst 1, 1) := by decide +kernel
theorem dX4_put_31 : decode cX4_put 31 = .ok (.iload_n 1, 1) := by decide +kernel
theorem dX4_put_32 : decode cX4_put 32 = .ok (.bipush 64, 2) := by decide +kernel
theorem dX4_put_34 : decode cX4_put 34 = .ok (.irem, 1) := by decide +kernel
theorem dX4_put_35 : decode cX4_put 35 = .ok (.lshl, 1) := by decide +kernel
theorem dX4_put_36 : decode cX4_put 36 = .ok (.lor, 1) := by decide +kernel
theorem dX4_put_37 : decode cX4_put 37 = .ok (.lastore, 1) := by decide +kernel
theorem dX4_put_38 : decode cX4_put 38 = .ok (.aload_n 0, 1) := by decide +kernel
theorem dX4_put_39 : decode cX4_put 39 = .ok (.dup, 1) := by decide +kernel
theorem dX4_put_40 : decode cX4_put 40 = .ok (.getfield 19, 3) := by decide +kernel
theorem dX4_put_43 : decode cX4_put 43 = .ok (.iconst 1, 1) := by decide +kernel
theorem dX4_put_44 : decode cX4_put 44 = .ok (.iadd, 1) := by decide +kernel
theorem dX4_put_45 : decode cX4_put 45 = .ok (.putfield 19, 3) := by decide +kernel
theorem dX4_put_48 : decode cX4_put 48 = .ok (.return_, 1) := by decide +kernel
theorem dX4_firstFrom_0 : decode cX4_firstFrom 0 = .ok (.iload_n 1, 1) := by decide +kernel
theorem dX4_firstFrom_1 : decode cX4_firstFrom 1 = .ok (.iconst 0, 1) := by decide +kernel
theorem dX4_firstFrom_2 : decode cX4_firstFrom 2 = .ok (.invokestatic 23, 3) := by decide +kernel
theorem dX4_firstFrom_5 : decode cX4_firstFrom 5 = .ok (.istore_n 2, 1) := by decide +kernel
theorem dX4_firstFrom_6 : decode cX4_firstFrom 6 = .ok (.iload_n 2, 1) := by decide +kernel
theorem dX4_firstFrom_7 : decode cX4_firstFrom 7 = .ok (.sipush 200, 3) := by decide +kernel
theorem dX4_firstFrom_10 : decode cX4_firstFrom 10 = .ok (.if_icmp .ge 19, 3) := by decide +kernel
theorem dX4_firstFrom_13 : decode cX4_firstFrom 13 = .ok (.aload_n 0, 1) := by decide +kernel
theorem dX4_firstFrom_14 : decode cX4_firstFrom 14 = .ok (.iload_n 2, 1) := by decide +kernel
theorem dX4_firstFrom_15 : decode cX4_firstFrom 15 = .ok (.invokevirtual 15, 3) := by decide +kernel
theorem dX4_firstFrom_18 : decode cX4_firstFrom 18 = .ok (.ifCond .eq 5, 3) := by decide +kernel
theorem dX4_firstFrom_21 : decode cX4_firstFrom 21 = .ok (.iload_n 2, 1) := by decide +kernel
theorem dX4_firstFrom_22 : decode cX4_firstFrom 22 = .ok (.ireturn, 1) := by decide +kernel
theorem dX4_firstFrom_23 : decode cX4_firstFrom 23 = .ok (.iinc 2 1, 3) := by decide +kernel
theorem dX4_firstFrom_26 : decode cX4_firstFrom 26 = .ok (.goto (-20), 3) := by decide +kernel
theorem dX4_firstFrom_29 : decode cX4_firstFrom 29 = .ok (.iconst (-1), 1) := by decide +kernel
theorem dX4_firstFrom_30 : decode cX4_firstFrom 30 = .ok (.ireturn, 1) := by decide +kernel
theorem dX4_clear_0 : decode cX4_clear 0 = .ok (.iconst 0, 1) := by decide +kernel
theorem dX4_clear_1 : decode cX4_clear 1 = .ok (.istore_n 1, 1) := by decide +kernel
theorem dX4_clear_2 : decode cX4_clear 2 = .ok (.iload_n 1, 1) := by decide +kernel
theorem dX4_clear_3 : decode cX4_clear 3 = .ok (.aload_n 0, 1) := by decide +kernel
theorem dX4_clear_4 : decode cX4_clear 4 = .ok (.getfield 11, 3) := by decide +kernel
theorem dX4_clear_7 : decode cX4_clear 7 = .ok (.arraylength, 1) := by decide +kernel
theorem dX4_clear_8 : decode cX4_clear 8 = .ok (.if_icmp .ge 16, 3) := by decide +kernel
theorem dX4_clear_11 : decode cX4_clear 11 = .ok (.aload_n 0, 1) := by decide +kernel
theorem dX4_clear_12 : decode cX4_clear 12 = .ok (.getfield 11, 3) := by decide +kernel
theorem dX4_clear_15 : decode cX4_clear 15 = .ok (.iload_n 1, 1) := by decide +kernel
theorem dX4_clear_16 : decode cX4_clear 16 = .ok (.lconst 0, 1) := by decide +kernel
theorem dX4_clear_17 : decode cX4_clear 17 = .ok (.lastore, 1) := by decide +kernel
theorem dX4_clear_18 : decode cX4_clear 18 = .ok (.iinc 1 1, 3) := by decide +kernel
theorem dX4_clear_21 : decode cX4_clear 21 = .ok (.goto (-19), 3) := by decide +kernel
theorem dX4_clear_24 : decode cX4_clear 24 = .ok (.aload_n 0, 1) := by decide +kernel
theorem dX4_clear_25 : decode cX4_clear 25 = .ok (.iconst 0, 1) := by decide +kernel
theorem dX4_clear_26 : decode cX4_clear 26 = .ok (.putfield 19, 3) := by decide +kernel
theorem dX4_clear_29 : decode cX4_clear 29 = .ok (.return_, 1) := by decide +kernel
theorem dX4_copyDays_0 : decode cX4_copyDays 0 = .ok (.aload_n 1, 1) := by decide +kernel
theorem dX4_copyDays_1 : decode cX4_copyDays 1 = .ok (.getfield 11, 3) := by decide +kernel
theorem dX4_copyDays_4 : decode cX4_copyDays 4 = .ok (.iconst 0, 1) := by decide +kernel
theorem dX4_copyDays_5 : decode cX4_copyDays 5 = .ok (.aload_n 0, 1) := by decide +kernel
theorem dX4_copyDays_6 : decode cX4_copyDays 6 = .ok (.getfield 11, 3) := by decide +kernel
theorem dX4_copyDays_9 : decode cX4_copyDays 9 = .ok (.iconst 0, 1) := by decide +kernel
theorem dX4_copyDays_10 : decode cX4_copyDays 10 = .ok (.aload_n 0, 1) := by decide +kernel
theorem dX4_copyDays_11 : decode cX4_copyDays 11 = .ok (.getfield 11, 3) := by decide +kernel
theorem dX4_copyDays_14 : decode cX4_copyDays 14 = .ok (.arraylength, 1) := by decide +kernel
theorem dX4_copyDays_15 : decode cX4_copyDays 15 = .ok (.invokestatic 29, 3) := by decide +kernel
theorem dX4_copyDays_18 : decode cX4_copyDays 18 = .ok (.aload_n 0, 1) := by decide +kernel
theorem dX4_copyDays_19 : decode cX4_copyDays 19 = .ok (.aload_n 1, 1) := by decide +kernel
theorem dX4_copyDays_20 : decode cX4_copyDays 20 = .ok (.getfield 19, 3) := by decide +kernel
theorem dX4_copyDays_23 : decode cX4_copyDays 23 = .ok (.putfield 19, 3) := by decide +kernel
theorem dX4_copyDays_26 : decode cX4_copyDays 26 = .ok (.return_, 1) := by decide +kernel
theorem dX5_init_0 : decode cX5_init 0 = .ok (.aload_n 0, 1) := by decide +kernel
theorem dX5_init_1 : decode cX5_init 1 = .ok (.invokespecial 3, 3) := by decide +kernel
theorem dX5_init_4 : decode cX5_init 4 = .ok (.aload_n 0, 1) := by decide +kernel
theorem dX5_init_5 : decode cX5_init 5 = .ok (.iconst 4, 1) := by decide +kernel
theorem dX5_init_6 : decode cX5_init 6 = .ok (.bipush 20, 2) := by decide +kernel
theorem dX5_init_8 : decode cX5_init 8 = .ok (.multianewarray 9 2, 4) := by decide +kernel
theorem dX5_init_12 : decode cX5_init 12 = .ok (.putfield 11, 3) := by decide +kernel
theorem dX5_init_15 : decode cX5_init 15 = .ok (.return_, 1) := by decide +kernel
theorem dX5_valueAt_0 : decode cX5_valueAt 0 = .ok (.iload_n 1, 1) := by decide +kernel
theorem dX5_valueAt_1 : decode cX5_valueAt 1 = .ok (.ifCond .lt 30, 3) := by decide +kernel
theorem dX5_valueAt_4 : decode cX5_valueAt 4 = .ok (.iload_n 1, 1) := by decide +kernel
theorem dX5_valueAt_5 : decode cX5_valueAt 5 = .ok (.aload_n 0, 1) := by decide +kernel
theorem dX5_valueAt_6 : decode cX5_valueAt 6 = .ok (.getfield 16, 3) := by decide +kernel
theorem dX5_valueAt_9 : decode cX5_valueAt 9 = .ok (.if_icmp .ge 22, 3) := by decide +kernel
theorem dX5_valueAt_12 : decode cX5_valueAt 12 = .ok (.iload_n 1, 1) := by decide +kernel
theorem dX5_valueAt_13 : decode cX5_valueAt 13 = .ok (.bipush 20, 2) := by decide +kernel
theorem dX5_valueAt_15 : decode cX5_valueAt 15 = .ok (.if_icmp .ge 16, 3) := by decide +kernel
theorem dX5_valueAt_18 : decode cX5_valueAt 18 = .ok (.iload_n 2, 1) := by decide +kernel
theorem dX5_valueAt_19 : decode cX5_valueAt 19 = .ok (.ifCond .lt 12, 3) := by decide +kernel
theorem dX5_valueAt_22 : decode cX5_valueAt 22 = .ok (.iload_n 2, 1) := by decide +kernel
theorem dX5_valueAt_23 : decode cX5_valueAt 23 = .ok (.iconst 4, 1) := by decide +kernel
theorem dX5_valueAt_24 : decode cX5_valueAt 24 = .ok (.if_icmp .ge 7, 3) := by decide +kernel
theorem dX5_valueAt_27 : decode cX5_valueAt 27 = .ok (.iconst 1, 1) := by decide +kernel
theorem dX5_valueAt_28 : decode cX5_valueAt 28 = .ok (.goto 4, 3) := by decide +kernel
theorem dX5_valueAt_31 : decode cX5_valueAt 31 = .ok (.iconst 0, 1) := by decide +kernel
theorem dX5_valueAt_32 : decode cX5_valueAt 32 = .ok (.istore_n 3, 1) := by decide +kernel
theorem dX5_valueAt_33 : decode cX5_valueAt 33 = .ok (.iload_n 3, 1) := by decide +kernel
theorem dX5_valueAt_34 : decode cX5_valueAt 34 = .ok (.ifCond .eq 14, 3) := by decide +kernel
theorem dX5_valueAt_37 : decode cX5_valueAt 37 = .ok (.aload_n 0, 1) := by decide +kernel
theorem dX5_valueAt_38 : decode cX5_valueAt 38 = .ok (.getfield 11, 3) := by decide +kernel
theorem dX5_valueAt_41 : decode cX5_valueAt 41 = .ok (.iload_n 2, 1) := by decide +kernel
theorem dX5_valueAt_42 : decode cX5_valueAt 42 = .ok (.aaload, 1) := by decide +kernel
theorem dX5_valueAt_43 : decode cX5_valueAt 43 = .ok (.iload_n 1, 1) := by decide +kernel
theorem dX5_valueAt_44 : decode cX5_valueAt 44 = .ok (.iaload, 1) := by decide +kernel
theorem dX5_valueAt_45 : decode cX5_valueAt 45 = .ok (.goto 4, 3) := by decide +kernel
theorem dX5_valueAt_48 : decode cX5_valueAt 48 = .ok (.iconst (-1), 1) := by decide +kernel
theorem dX5_valueAt_49 : decode cX5_valueAt 49 = .ok (.ireturn, 1) := by decide +kernel
theorem dX5_append_0 : decode cX5_append 0 = .ok (.aload_n 0, 1) := by decide +kernel
theorem dX5_append_1 : decode cX5_append 1 = .ok (.getfield 16, 3) := by decide +kernel
theorem dX5_append_4 : decode cX5_append 4 = .ok (.bipush 20, 2) := by decide +kernel
theorem dX5_append_6 : decode cX5_append 6 = .ok (.if_icmp .ge 62, 3) := by decide +kernel
theorem dX5_append_9 : decode cX5_append 9 = .ok (.aload_n 0, 1) := by decide +kernel
theorem dX5_append_10 : decode cX5_append 10 = .ok (.getfield 11, 3) := by decide +kernel
theorem dX5_append_13 : decode cX5_append 13 = .ok (.iconst 0, 1) := by decide +kernel
theorem dX5_append_14 : decode cX5_append 14 = .ok (.aaload, 1) := by decide +kernel
theorem dX5_append_15 : decode cX5_append 15 = .ok (.aload_n 0, 1) := by decide +kernel
theorem dX5_append_16 : decode cX5_append 16 = .ok (.getfield 16, 3) := by decide +kernel
theorem dX5_append_19 : decode cX5_append 19 = .ok (.iload_n 1, 1) := by decide +kernel
theorem dX5_append_20 : decode cX5_append 20 = .ok (.iastore, 1) := by decide +kernel
theorem dX5_append_21 : decode cX5_append 21 = .ok (.aload_n 0, 1) := by decide +kernel
theorem dX5_append_22 : decode cX5_append 22 = .ok (.getfield 11, 3) := by decide +kernel
theorem dX5_append_25 : decode cX5_append 25 = .ok (.iconst 1, 1) := by decide +kernel
theorem dX5_append_26 : decode cX5_append 26 = .ok (.aaload, 1) := by decide +kernel
theorem dX5_append_27 : decode cX5_append 27 = .ok (.aload_n 0, 1) := by decide +kernel
theorem dX5_append_28 : decode cX5_append 28 = .ok (.getfield 16, 3) := by decide +kernel
theorem dX5_append_31 : decode cX5_append 31 = .ok (.iload_n 2, 1) := by decide +kernel
theorem dX5_append_32 : decode cX5_append 32 = .ok (.iastore, 1) := by decide +kernel
theorem dX5_append_33 : decode cX5_append 33 = .ok (.aload_n 0, 1) := by decide +kernel
theorem dX5_append_34 : decode cX5_append 34 = .ok (.getfield 11, 3) := by decide +kernel
theorem dX5_append_37 : decode cX5_append 37 = .ok (.iconst 2, 1) := by decide +kernel
theorem dX5_append_38 : decode cX5_append 38 = .ok (.aaload, 1) := by decide +kernel
theorem dX5_append_39 : decode cX5_append 39 = .ok (.aload_n 0, 1) := by decide +kernel
theorem dX5_append_40 : decode cX5_append 40 = .ok (.getfield 16, 3) := by decide +kernel
theorem dX5_append_43 : decode cX5_append 43 = .ok (.iload_n 3, 1) := by decide +kernel
theorem dX5_append_44 : decode cX5_append 44 = .ok (.iastore, 1) := by decide +kernel
theorem dX5_append_45 : decode cX5_append 45 = .ok (.aload_n 0, 1) := by decide +kernel
theorem dX5_append_46 : decode cX5_append 46 = .ok (.getfield 11, 3) := by decide +kernel
theorem dX5_append_49 : decode cX5_append 49 = .ok (.iconst 3, 1) := by decide +kernel
theorem dX5_append_50 : decode cX5_append 50 = .ok (.aaload, 1) := by decide +kernel
theorem dX5_append_51 : decode cX5_append 51 = .ok (.aload_n 0, 1) := by decide +kernel
theorem dX5_append_52 : decode cX5_append 52 = .ok (.getfield 16, 3) := by decide +kernel
theorem dX5_append_55 : decode cX5_append 55 = .ok (.iload 4, 2) := by decide +kernel
theorem dX5_append_57 : decode cX5_append 57 = .ok (.iastore, 1) := by decide +kernel
theorem dX5_append_58 : decode cX5_append 58 = .ok (.aload_n 0, 1) := by decide +kernel
theorem dX5_append_59 : decode cX5_append 59 = .ok (.dup, 1) := by decide +kernel
theorem dX5_append_60 : decode cX5_append 60 = .ok (.getfield 16, 3) := by decide +kernel
theorem dX5_append_63 : decode cX5_append 63 = .ok (.iconst 1, 1) := by decide +kernel
theorem dX5_append_64 : decode cX5_append 64 = .ok (.iadd, 1) := by decide +kernel
theorem dX5_append_65 : decode cX5_append 65 = .ok (.putfield 16, 3) := by decide +kernel
theorem dX5_append_68 : decode cX5_append 68 = .ok (.return_, 1) := by decide +kernel
theorem dX5_removeAt_0 : decode cX5_removeAt 0 = .ok (.iload_n 1, 1) := by decide +kernel
theorem dX5_removeAt_1 : decode cX5_removeAt 1 = .ok (.ifCond .lt 20, 3) := by decide +kernel
theorem dX5_removeAt_4 : decode cX5_removeAt 4 = .ok (.iload_n 1, 1) := by decide +kernel
theorem dX5_removeAt_5 : decode cX5_removeAt 5 = .ok (.aload_n 0, 1) := by decide +kernel
theorem dX5_removeAt_6 : decode cX5_removeAt 6 = .ok (.getfield 16, 3) := by decide +kernel
theorem dX5_removeAt_9 : decode cX5_removeAt 9 = .ok (.if_icmp .ge 12, 3) := by decide +kernel
theorem dX5_removeAt_12 : decode cX5_removeAt 12 = .ok (.aload_n 0, 1) := by decide +kernel
theorem dX5_removeAt_13 : decode cX5_removeAt 13 = .ok (.getfield 16, 3) := by decide +kernel
theorem dX5_removeAt_16 : decode cX5_removeAt 16 = .ok (.bipush 20, 2) := by decide +kernel
theorem dX5_removeAt_18 : decode cX5_removeAt 18 = .ok (.if_icmp .le 4, 3) := by decide +kernel
theorem dX5_removeAt_21 : decode cX5_removeAt 21 = .ok (.return_, 1) := by decide +kernel
theorem dX5_removeAt_22 : decode cX5_removeAt 22 = .ok (.iconst 0, 1) := by decide +kernel
theorem dX5_removeAt_23 : decode cX5_removeAt 23 = .ok (.istore_n 2, 1) := by decide +kernel
theorem dX5_removeAt_24 : decode cX5_removeAt 24 = .ok (.iload_n 2, 1) := by decide +kernel
theorem dX5_removeAt_25 : decode cX5_removeAt 25 = .ok (.iconst 4, 1) := by decide +kernel
theorem dX5_removeAt_26 : decode cX5_removeAt 26 = .ok (.if_icmp .ge 36, 3) := by decide +kernel
theorem dX5_removeAt_29 : decode cX5_removeAt 29 = .ok (.aload_n 0, 1) := by decide +kernel
theorem dX5_removeAt_30 : decode cX5_removeAt 30 = .ok (.getfield 11, 3) := by decide +kernel
theorem dX5_removeAt_33 : decode cX5_removeAt 33 = .ok (.iload_n 2, 1) := by decide +kernel
theorem dX5_removeAt_34 : decode cX5_removeAt 34 = .ok (.aaload, 1) := by decide +kernel
theorem dX5_removeAt_35 : decode cX5_removeAt 35 = .ok (.iload_n 1, 1) := by decide +kernel
theorem dX5_removeAt_36 : decode cX5_removeAt 36 = .ok (.iconst 1, 1) := by decide +kernel
theorem dX5_removeAt_37 : decode cX5_removeAt 37 = .ok (.iadd, 1) := by decide +kernel
theorem dX5_removeAt_38 : decode cX5_removeAt 38 = .ok (.aload_n 0, 1) := by decide +kernel
theorem dX5_removeAt_39 : decode cX5_removeAt 39 = .ok (.getfield 11, 3) := by decide +kernel
theorem dX5_removeAt_42 : decode cX5_removeAt 42 = .ok (.iload_n 2, 1) := by decide +kernel
theorem dX5_removeAt_43 : decode cX5_removeAt 43 = .ok (.aaload, 1) := by decide +kernel
theorem dX5_removeAt_44 : decode cX5_removeAt 44 = .ok (.iload_n 1, 1) := by decide +kernel
theorem dX5_removeAt_45 : decode cX5_removeAt 45 = .ok (.aload_n 0, 1) := by decide +kernel
theorem dX5_removeAt_46 : decode cX5_removeAt 46 = .ok (.getfield 16, 3) := by decide +kernel
theorem dX5_removeAt_49 : decode cX5_removeAt 49 = .ok (.iload_n 1, 1) := by decide +kernel
theorem dX5_removeAt_50 : decode cX5_removeAt 50 = .ok (.isub, 1) := by decide +kernel
theorem dX5_removeAt_51 : decode cX5_removeAt 51 = .ok (.iconst 1, 1) := by decide +kernel
theorem dX5_removeAt_52 : decode cX5_removeAt 52 = .ok (.isub, 1) := by decide +kernel
theorem dX5_removeAt_53 : decode cX5_removeAt 53 = .ok (.invokestatic 20, 3) := by decide +kernel
theorem dX5_removeAt_56 : decode cX5_removeAt 56 = .ok (.iinc 2 1, 3) := by decide +kernel
theorem dX5_removeAt_59 : decode cX5_removeAt 59 = .ok (.goto (-35), 3) := by decide +kernel
theorem dX5_removeAt_62 : decode cX5_removeAt 62 = .ok (.aload_n 0, 1) := by decide +kernel
theorem dX5_removeAt_63 : decode cX5_removeAt 63 = .ok (.dup, 1) := by decide +kernel
theorem dX5_removeAt_64 : decode cX5_removeAt 64 = .ok (.getfield 16, 3) := by decide +kernel
theorem dX5_removeAt_67 : decode cX5_removeAt 67 = .ok (.iconst 1, 1) := by decide +kernel
theorem dX5_removeAt_68 : decode cX5_removeAt 68 = .ok (.isub, 1) := by decide +kernel
theorem dX5_removeAt_69 : decode cX5_removeAt 69 = .ok (.putfield 16, 3) := by decide +kernel
theorem dX5_removeAt_72 : decode cX5_removeAt 72 = .ok (.return_, 1) := by decide +kernel
theorem dX5_hoursInAll_0 : decode cX5_hoursInAll 0 = .ok (.iconst 0, 1) := by decide +kernel
theorem dX5_hoursInAll_1 : decode cX5_hoursInAll 1 = .ok (.istore_n 1, 1) := by decide +kernel
theorem dX5_hoursInAll_2 : decode cX5_hoursInAll 2 = .ok (.iconst 0, 1) := by decide +kernel
theorem dX5_hoursInAll_3 : decode cX5_hoursInAll 3 = .ok (.istore_n 2, 1) := by decide +kernel
theorem dX5_hoursInAll_4 : decode cX5_hoursInAll 4 = .ok (.iload_n 2, 1) := by decide +kernel
theorem dX5_hoursInAll_5 : decode cX5_hoursInAll 5 = .ok (.aload_n 0, 1) := by decide +kernel
theorem dX5_hoursInAll_6 : decode cX5_hoursInAll 6 = .ok (.getfield 16, 3) := by decide +kernel
theorem dX5_hoursInAll_9 : decode cX5_hoursInAll 9 = .ok (.if_icmp .ge 18, 3) := by decide +kernel
theorem dX5_hoursInAll_12 : decode cX5_hoursInAll 12 = .ok (.iload_n 1, 1) := by decide +kernel
theorem dX5_hoursInAll_13 : decode cX5_hoursInAll 13 = .ok (.aload_n 0, 1) := by decide +kernel
theorem dX5_hoursInAll_14 : decode cX5_hoursInAll 14 = .ok (.iload_n 2, 1) := by decide +kernel
theorem dX5_hoursInAll_15 : decode cX5_hoursInAll 15 = .ok (.iconst 1, 1) := by decide +kernel
theorem dX5_hoursInAll_16 : decode cX5_hoursInAll 16 = .ok (.invokevirtual 26, 3) := by decide +kernel
theorem dX5_hoursInAll_19 : decode cX5_hoursInAll 19 = .ok (.iadd, 1) := by decide +kernel
theorem dX5_hoursInAll_20 : decode cX5_hoursInAll 20 = .ok (.istore_n 1, 1) := by decide +kernel
theorem dX5_hoursInAll_21 : decode cX5_hoursInAll 21 = .ok (.iinc 2 1, 3) := by decide +kernel
theorem dX5_hoursInAll_24 : decode cX5_hoursInAll 24 = .ok (.goto (-20), 3) := by decide +kernel
theorem dX5_hoursInAll_27 : decode cX5_hoursInAll 27 = .ok (.iload_n 1, 1) := by decide +kernel
theorem dX5_hoursInAll_28 : decode cX5_hoursInAll 28 = .ok (.ireturn, 1) := by decide +kernel
theorem dX5_hoursOfPart_0 : decode cX5_hoursOfPart 0 = .ok (.iconst 0, 1) := by decide +kernel
theorem dX5_hoursOfPart_1 : decode cX5_hoursOfPart 1 = .ok (.istore_n 2, 1) := by decide +kernel
theorem dX5_hoursOfPart_2 : decode cX5_hoursOfPart 2 = .ok (.iconst 0, 1) := by decide +kernel
theorem dX5_hoursOfPart_3 : decode cX5_hoursOfPart 3 = .ok (.istore_n 3, 1) := by decide +kernel
theorem dX5_hoursOfPart_4 : decode cX5_hoursOfPart 4 = .ok (.iload_n 3, 1) := by decide +kernel
theorem dX5_hoursOfPart_5 : decode cX5_hoursOfPart 5 = .ok (.aload_n 0, 1) := by decide +kernel
theorem dX5_hoursOfPart_6 : decode cX5_hoursOfPart 6 = .ok (.getfield 16, 3) := by decide +kernel
theorem dX5_hoursOfPart_9 : decode cX5_hoursOfPart 9 = .ok (.if_icmp .ge 28, 3) := by decide +kernel
theorem dX5_hoursOfPart_12 : decode cX5_hoursOfPart 12 = .ok (.aload_n 0, 1) := by decide +kernel
theorem dX5_hoursOfPart_13 : decode cX5_hoursOfPart 13 = .ok (.iload_n 3, 1) := by decide +kernel
theorem dX5_hoursOfPart_14 : decode cX5_hoursOfPart 14 = .ok (.iconst 0, 1) := by decide +kernel
theorem dX5_hoursOfPart_15 : decode cX5_hoursOfPart 15 = .ok (.invokevirtual 26, 3) := by decide +kernel
theorem dX5_hoursOfPart_18 : decode cX5_hoursOfPart 18 = .ok (.iload_n 1, 1) := by decide +kernel
theorem dX5_hoursOfPart_19 : decode cX5_hoursOfPart 19 = .ok (.if_icmp .ne 12, 3) := by decide +kernel
theorem dX5_hoursOfPart_22 : decode cX5_hoursOfPart 22 = .ok (.iload_n 2, 1) := by decide +kernel
theorem dX5_hoursOfPart_23 : decode cX5_hoursOfPart 23 = .ok (.aload_n 0, 1) := by decide +kernel
theorem dX5_hoursOfPart_24 : decode cX5_hoursOfPart 24 = .ok (.iload_n 3, 1) := by decide +kernel
theorem dX5_hoursOfPart_25 : decode cX5_hoursOfPart 25 = .ok (.iconst 1, 1) := by decide +kernel
theorem dX5_hoursOfPart_26 : decode cX5_hoursOfPart 26 = .ok (.invokevirtual 26, 3) := by decide +kernel
theorem dX5_hoursOfPart_29 : decode cX5_hoursOfPart 29 = .ok (.iadd, 1) := by decide +kernel
theorem dX5_hoursOfPart_30 : decode cX5_hoursOfPart 30 = .ok (.istore_n 2, 1) := by decide +kernel
theorem dX5_hoursOfPart_31 : decode cX5_hoursOfPart 31 = .ok (.iinc 3 1, 3) := by decide +kernel
theorem dX5_hoursOfPart_34 : decode cX5_hoursOfPart 34 = .ok (.goto (-30), 3) := by decide +kernel
theorem dX5_hoursOfPart_37 : decode cX5_hoursOfPart 37 = .ok (.iload_n 2, 1) := by decide +kernel
theorem dX5_hoursOfPart_38 : decode cX5_hoursOfPart 38 = .ok (.ireturn, 1) := by decide +kernel
theorem dX5_countWith_0 : decode cX5_countWith 0 = .ok (.iconst 0, 1) := by decide +kernel
theorem dX5_countWith_1 : decode cX5_countWith 1 = .ok (.istore_n 2, 1) := by decide +kernel
theorem dX5_countWith_2 : decode cX5_countWith 2 = .ok (.iconst 0, 1) := by decide +kernel
theorem dX5_countWith_3 : decode cX5_countWith 3 = .ok (.istore_n 3, 1) := by decide +kernel
theorem dX5_countWith_4 : decode cX5_countWith 4 = .ok (.iload_n 3, 1) := by decide +kernel
theorem dX5_countWith_5 : decode cX5_countWith 5 = .ok (.aload_n 0, 1) := by decide +kernel
theorem dX5_countWith_6 : decode cX5_countWith 6 = .ok (.getfield 16, 3) := by decide +kernel
theorem dX5_countWith_9 : decode cX5_countWith 9 = .ok (.if_icmp .ge 22, 3) := by decide +kernel
theorem dX5_countWith_12 : decode cX5_countWith 12 = .ok (.aload_n 0, 1) := by decide +kernel
theorem dX5_countWith_13 : decode cX5_countWith 13 = .ok (.iload_n 3, 1) := by decide +kernel
theorem dX5_countWith_14 : decode cX5_countWith 14 = .ok (.iconst 3, 1) := by decide +kernel
theorem dX5_countWith_15 : decode cX5_countWith 15 = .ok (.invokevirtual 26, 3) := by decide +kernel
theorem dX5_countWith_18 : decode cX5_countWith 18 = .ok (.iload_n 1, 1) := by decide +kernel
theorem dX5_countWith_19 : decode cX5_countWith 19 = .ok (.if_icmp .ne 6, 3) := by decide +kernel
theorem dX5_countWith_22 : decode cX5_countWith 22 = .ok (.iinc 2 1, 3) := by decide +kernel
theorem dX5_countWith_25 : decode cX5_countWith 25 = .ok (.iinc 3 1, 3) := by decide +kernel
theorem dX5_countWith_28 : decode cX5_countWith 28 = .ok (.goto (-24), 3) := by decide +kernel
theorem dX5_countWith_31 : decode cX5_countWith 31 = .ok (.iload_n 2, 1) := by decide +kernel
theorem dX5_countWith_32 : decode cX5_countWith 32 = .ok (.ireturn, 1) := by decide +kernel
theorem dX5_hoursOfFirst_0 : decode cX5_hoursOfFirst 0 = .ok (.iconst 0, 1) := by decide +kernel
theorem dX5_hoursOfFirst_1 : decode cX5_hoursOfFirst 1 = .ok (.istore 4, 2) := by decide +kernel
theorem dX5_hoursOfFirst_3 : decode cX5_hoursOfFirst 3 = .ok (.iconst 0, 1) := by decide +kernel
theorem dX5_hoursOfFirst_4 : decode cX5_hoursOfFirst 4 = .ok (.istore 5, 2) := by decide +kernel
theorem dX5_hoursOfFirst_6 : decode cX5_hoursOfFirst 6 = .ok (.iconst 0, 1) := by decide +kernel
theorem dX5_hoursOfFirst_7 : decode cX5_hoursOfFirst 7 = .ok (.istore 6, 2) := by decide +kernel
theorem dX5_hoursOfFirst_9 : decode cX5_hoursOfFirst 9 = .ok (.iload 6, 2) := by decide +kernel
theorem dX5_hoursOfFirst_11 : decode cX5_hoursOfFirst 11 = .ok (.aload_n 0, 1) := by decide +kernel
theorem dX5_hoursOfFirst_12 : decode cX5_hoursOfFirst 12 = .ok (.getfield 16, 3) := by decide +kernel
theorem dX5_hoursOfFirst_15 : decode cX5_hoursOfFirst 15 = .ok (.if_icmp .ge 56, 3) := by decide +kernel
theorem dX5_hoursOfFirst_18 : decode cX5_hoursOfFirst 18 = .ok (.iload 5, 2) := by decide +kernel
theorem dX5_hoursOfFirst_20 : decode cX5_hoursOfFirst 20 = .ok (.iload_n 1, 1) := by decide +kernel
theorem dX5_hoursOfFirst_21 : decode cX5_hoursOfFirst 21 = .ok (.if_icmp .ge 50, 3) := by decide +kernel
theorem dX5_hoursOfFirst_24 : decode cX5_hoursOfFirst 24 = .ok (.aload_n 0, 1) := by decide +kernel
theorem dX5_hoursOfFirst_25 : decode cX5_hoursOfFirst 25 = .ok (.iload 6, 2) := by decide +kernel
theorem dX5_hoursOfFirst_27 : decode cX5_hoursOfFirst 27 = .ok (.iconst 3, 1) := by decide +kernel
theorem dX5_hoursOfFirst_28 : decode cX5_hoursOfFirst 28 = .ok (.invokevirtual 26, 3) := by decide +kernel
theorem dX5_hoursOfFirst_31 : decode cX5_hoursOfFirst 31 = .ok (.iload_n 2, 1) := by decide +kernel
theorem dX5_hoursOfFirst_32 : decode cX5_hoursOfFirst 32 = .ok (.if_icmp .ne 33, 3) := by decide +kernel
theorem dX5_hoursOfFirst_35 : decode cX5_hoursOfFirst 35 = .ok (.iinc 5 1, 3) := by decide +kernel
theorem dX5_hoursOfFirst_38 : decode cX5_hoursOfFirst 38 = .ok (.iload 4, 2) := by decide +kernel
theorem dX5_hoursOfFirst_40 : decode cX5_hoursOfFirst 40 = .ok (.aload_n 0, 1) := by decide +kernel
theorem dX5_hoursOfFirst_41 : decode cX5_hoursOfFirst 41 = .ok (.iload 6, 2) := by decide +kernel
theorem dX5_hoursOfFirst_43 : decode cX5_hoursOfFirst 43 = .ok (.iconst 0, 1) := by decide +kernel
theorem dX5_hoursOfFirst_44 : decode cX5_hoursOfFirst 44 = .ok (.invokevirtual 26, 3) := by decide +kernel
theorem dX5_hoursOfFirst_47 : decode cX5_hoursOfFirst 47 = .ok (.iload_n 3, 1) := by decide +kernel
theorem dX5_hoursOfFirst_48 : decode cX5_hoursOfFirst 48 = .ok (.if_icmp .ne 13, 3) := by decide +kernel
theorem dX5_hoursOfFirst_51 : decode cX5_hoursOfFirst 51 = .ok (.aload_n 0, 1) := by decide +kernel
theorem dX5_hoursOfFirst_52 : decode cX5_hoursOfFirst 52 = .ok (.iload 6, 2) := by decide +kernel
theorem dX5_hoursOfFirst_54 : decode cX5_hoursOfFirst 54 = .ok (.iconst 1, 1) := by decide +kernel
theorem dX5_hoursOfFirst_55 : decode cX5_hoursOfFirst 55 = .ok (.invokevirtual 26, 3) := by decide +kernel
theorem dX5_hoursOfFirst_58 : decode cX5_hoursOfFirst 58 = .ok (.goto 4, 3) := by decide +kernel
theorem dX5_hoursOfFirst_61 : decode cX5_hoursOfFirst 61 = .ok (.iconst 0, 1) := by decide +kernel
theorem dX5_hoursOfFirst_62 : decode cX5_hoursOfFirst 62 = .ok (.iadd, 1) := by decide +kernel
theorem dX5_hoursOfFirst_63 : decode cX5_hoursOfFirst 63 = .ok (.istore 4, 2) := by decide +kernel
theorem dX5_hoursOfFirst_65 : decode cX5_hoursOfFirst 65 = .ok (.iinc 6 1, 3) := by decide +kernel
theorem dX5_hoursOfFirst_68 : decode cX5_hoursOfFirst 68 = .ok (.goto (-59), 3) := by decide +kernel
theorem dX5_hoursOfFirst_71 : decode cX5_hoursOfFirst 71 = .ok (.iload 4, 2) := by decide +kernel
theorem dX5_hoursOfFirst_73 : decode cX5_hoursOfFirst 73 = .ok (.ireturn, 1) := by decide +kernel
theorem dX5_copyEntries_0 : decode cX5_copyEntries 0 = .ok (.iconst 0, 1) := by decide +kernel
theorem dX5_copyEntries_1 : decode cX5_copyEntries 1 = .ok (.istore_n 2, 1) := by decide +kernel
theorem dX5_copyEntries_2 : decode cX5_copyEntries 2 = .ok (.iload_n 2, 1) := by decide +kernel
theorem dX5_copyEntries_3 : decode cX5_copyEntries 3 = .ok (.iconst 4, 1) := by decide +kernel
theorem dX5_copyEntries_4 : decode cX5_copyEntries 4 = .ok (.if_icmp .ge 28, 3) := by decide +kernel
theorem dX5_copyEntries_7 : decode cX5_copyEntries 7 = .ok (.aload_n 1, 1) := by decide +kernel
theorem dX5_copyEntries_8 : decode cX5_copyEntries 8 = .ok (.getfield 11, 3) := by decide +kernel
theorem dX5_copyEntries_11 : decode cX5_copyEntries 11 = .ok (.iload_n 2, 1) := by decide +kernel
theorem dX5_copyEntries_12 : decode cX5_copyEntries 12 = .ok (.aaload, 1) := by decide +kernel
theorem dX5_copyEntries_13 : decode cX5_copyEntries 13 = .ok (.iconst 0, 1) := by decide +kernel
theorem dX5_copyEntries_14 : decode cX5_copyEntries 14 = .ok (.aload_n 0, 1) := by decide +kernel
theorem dX5_copyEntries_15 : decode cX5_copyEntries 15 = .ok (.getfield 11, 3) := by decide +kernel
theorem dX5_copyEntries_18 : decode cX5_copyEntries 18 = .ok (.iload_n 2, 1) := by decide +kernel
theorem dX5_copyEntries_19 : decode cX5_copyEntries 19 = .ok (.aaload, 1) := by decide +kernel
theorem dX5_copyEntries_20 : decode cX5_copyEntries 20 = .ok (.iconst 0, 1) := by decide +kernel
theorem dX5_copyEntries_21 : decode cX5_copyEntries 21 = .ok (.bipush 20, 2) := by decide +kernel
theorem dX5_copyEntries_23 : decode cX5_copyEntries 23 = .ok (.invokestatic 20, 3) := by decide +kernel
theorem dX5_copyEntries_26 : decode cX5_copyEntries 26 = .ok (.iinc 2 1, 3) := by decide +kernel
theorem dX5_copyEntries_29 : decode cX5_copyEntries 29 = .ok (.goto (-27), 3) := by decide +kernel
theorem dX5_copyEntries_32 : decode cX5_copyEntries 32 = .ok (.aload_n 0, 1) := by decide +kernel
theorem dX5_copyEntries_33 : decode cX5_copyEntries 33 = .ok (.aload_n 1, 1) := by decide +kernel
theorem dX5_copyEntries_34 : decode cX5_copyEntries 34 = .ok (.getfield 16, 3) := by decide +kernel
theorem dX5_copyEntries_37 : decode cX5_copyEntries 37 = .ok (.putfield 16, 3) := by decide +kernel
theorem dX5_copyEntries_40 : decode cX5_copyEntries 40 = .ok (.return_, 1) := by decide +kernel
theorem dX6_init_0 : decode cX6_init 0 = .ok (.aload_n 0, 1) := by decide +kernel
theorem dX6_init_1 : decode cX6_init 1 = .ok (.invokespecial 1, 3) := by decide +kernel
theorem dX6_init_4 : decode cX6_init 4 = .ok (.return_, 1) := by decide +kernel
theorem dX6_begin_0 : decode cX6_begin 0 = .ok (.aload_n 0, 1) := by decide +kernel
theorem dX6_begin_1 : decode cX6_begin 1 = .ok (.iload_n 1, 1) := by decide +kernel
theorem dX6_begin_2 : decode cX6_begin 2 = .ok (.putfield 7, 3) := by decide +kernel
theorem dX6_begin_5 : decode cX6_begin 5 = .ok (.aload_n 0, 1) := by decide +kernel
theorem dX6_begin_6 : decode cX6_begin 6 = .ok (.iload_n 2, 1) := by decide +kernel
theorem dX6_begin_7 : decode cX6_begin 7 = .ok (.putfield 13, 3) := by decide +kernel
theorem dX6_begin_10 : decode cX6_begin 10 = .ok (.aload_n 0, 1) := by decide +kernel
theorem dX6_begin_11 : decode cX6_begin 11 = .ok (.iconst 0, 1) := by decide +kernel
theorem dX6_begin_12 : decode cX6_begin 12 = .ok (.putfield 16, 3) := by decide +kernel
theorem dX6_begin_15 : decode cX6_begin 15 = .ok (.return_, 1) := by decide +kernel
theorem dX6_copyMentor_0 : decode cX6_copyMentor 0 = .ok (.aload_n 0, 1) := by decide +kernel
theorem dX6_copyMentor_1 : decode cX6_copyMentor 1 = .ok (.aload_n 1, 1) := by decide +kernel
theorem dX6_copyMentor_2 : decode cX6_copyMentor 2 = .ok (.getfield 7, 3) := by decide +kernel
theorem dX6_copyMentor_5 : decode cX6_copyMentor 5 = .ok (.putfield 7, 3) := by decide +kernel
theorem dX6_copyMentor_8 : decode cX6_copyMentor 8 = .ok (.aload_n 0, 1) := by decide +kernel
theorem dX6_copyMentor_9 : decode cX6_copyMentor 9 = .ok (.aload_n 1, 1) := by decide +kernel
theorem dX6_copyMentor_10 : decode cX6_copyMentor 10 = .ok (.getfield 13, 3) := by decide +kernel
theorem dX6_copyMentor_13 : decode cX6_copyMentor 13 = .ok (.putfield 13, 3) := by decide +kernel
theorem dX6_copyMentor_16 : decode cX6_copyMentor 16 = .ok (.aload_n 0, 1) := by decide +kernel
theorem dX6_copyMentor_17 : decode cX6_copyMentor 17 = .ok (.aload_n 1, 1) := by decide +kernel
theorem dX6_copyMentor_18 : decode cX6_copyMentor 18 = .ok (.getfield 16, 3) := by decide +kernel
theorem dX6_copyMentor_21 : decode cX6_copyMentor 21 = .ok (.putfield 16, 3) := by decide +kernel
theorem dX6_copyMentor_24 : decode cX6_copyMentor 24 = .ok (.return_, 1) := by decide +kernel
theorem dX7_init_0 : decode cX7_init 0 = .ok (.aload_n 0, 1) := by decide +kernel
theorem dX7_init_1 : decode cX7_init 1 = .ok (.invokespecial 3, 3) := by decide +kernel
theorem dX7_init_4 : decode cX7_init 4 = .ok (.aload_n 0, 1) := by decide +kernel
theorem dX7_init_5 : decode cX7_init 5 = .ok (.iconst 5, 1) := by decide +kernel
theorem dX7_init_6 : decode cX7_init 6 = .ok (.iconst 3, 1) := by decide +kernel
theorem dX7_init_7 : decode cX7_init 7 = .ok (.multianewarray 9 2, 4) := by decide +kernel
theorem dX7_init_11 : decode cX7_init 11 = .ok (.putfield 11, 3) := by decide +kernel
theorem dX7_init_14 : decode cX7_init 14 = .ok (.aload_n 0, 1) := by decide +kernel
theorem dX7_init_15 : decode cX7_init 15 = .ok (.bipush 6, 2) := by decide +kernel
theorem dX7_init_17 : decode cX7_init 17 = .ok (.anewarray 16, 3) := by decide +kernel
theorem dX7_init_20 : decode cX7_init 20 = .ok (.putfield 18, 3) := by decide +kernel
theorem dX7_init_23 : decode cX7_init 23 = .ok (.aload_n 0, 1) := by decide +kernel
theorem dX7_init_24 : decode cX7_init 24 = .ok (.bipush 10, 2) := by decide +kernel
theorem dX7_init_26 : decode cX7_init 26 = .ok (.anewarray 22, 3) := by decide +kernel
theorem dX7_init_29 : decode cX7_init 29 = .ok (.putfield 24, 3) := by decide +kernel
theorem dX7_init_32 : decode cX7_init 32 = .ok (.aload_n 0, 1) := by decide +kernel
theorem dX7_init_33 : decode cX7_init 33 = .ok (.new 16, 3) := by decide +kernel
theorem dX7_init_36 : decode cX7_init 36 = .ok (.dup, 1) := by decide +kernel
theorem dX7_init_37 : decode cX7_init 37 = .ok (.invokespecial 28, 3) := by decide +kernel
theorem dX7_init_40 : decode cX7_init 40 = .ok (.putfield 29, 3) := by decide +kernel
theorem dX7_init_43 : decode cX7_init 43 = .ok (.aload_n 0, 1) := by decide +kernel
theorem dX7_init_44 : decode cX7_init 44 = .ok (.new 22, 3) := by decide +kernel
theorem dX7_init_47 : decode cX7_init 47 = .ok (.dup, 1) := by decide +kernel
theorem dX7_init_48 : decode cX7_init 48 = .ok (.invokespecial 33, 3) := by decide +kernel
theorem dX7_init_51 : decode cX7_init 51 = .ok (.putfield 34, 3) := by decide +kernel
theorem dX7_init_54 : decode cX7_init 54 = .ok (.iconst 0, 1) := by decide +kernel
theorem dX7_init_55 : decode cX7_init 55 = .ok (.istore_n 1, 1) := by decide +kernel
theorem dX7_init_56 : decode cX7_init 56 = .ok (.iload_n 1, 1) := by decide +kernel
theorem dX7_init_57 : decode cX7_init 57 = .ok (.bipush 6, 2) := by decide +kernel
theorem dX7_init_59 : decode cX7_init 59 = .ok (.if_icmp .ge 22, 3) := by decide +kernel
theorem dX7_init_62 : decode cX7_init 62 = .ok (.aload_n 0, 1) := by decide +kernel
theorem dX7_init_63 : decode cX7_init 63 = .ok (.getfield 18, 3) := by decide +kernel
theorem dX7_init_66 : decode cX7_init 66 = .ok (.iload_n 1, 1) := by decide +kernel
theorem dX7_init_67 : decode cX7_init 67 = .ok (.new 16, 3) := by decide +kernel
theorem dX7_init_70 : decode cX7_init 70 = .ok (.dup, 1) := by decide +kernel
theorem dX7_init_71 : decode cX7_init 71 = .ok (.invokespecial 28, 3) := by decide +kernel
theorem dX7_init_74 : decode cX7_init 74 = .ok (.aastore, 1) := by decide +kernel
theorem dX7_init_75 : decode cX7_init 75 = .ok (.iinc 1 1, 3) := by decide +kernel
theorem dX7_init_78 : decode cX7_init 78 = .ok (.goto (-22), 3) := by decide +kernel
theorem dX7_init_81 : decode cX7_init 81 = .ok (.iconst 0, 1) := by decide +kernel
theorem dX7_init_82 : decode cX7_init 82 = .ok (.istore_n 1, 1) := by decide +kernel
theorem dX7_init_83 : decode cX7_init 83 = .ok (.iload_n 1, 1) := by decide +kernel
theorem dX7_init_84 : decode cX7_init 84 = .ok (.bipush 10, 2) := by decide +kernel
theorem dX7_init_86 : decode cX7_init 86 = .ok (.if_icmp .ge 22, 3) := by decide +kernel
theorem dX7_init_89 : decode cX7_init 89 = .ok (.aload_n 0, 1) := by decide +kernel
theorem dX7_init_90 : decode cX7_init 90 = .ok (.getfield 24, 3) := by decide +kernel
theorem dX7_init_93 : decode cX7_init 93 = .ok (.iload_n 1, 1) := by decide +kernel
theorem dX7_init_94 : decode cX7_init 94 = .ok (.new 22, 3) := by decide +kernel
theorem dX7_init_97 : decode cX7_init 97 = .ok (.dup, 1) := by decide +kernel
theorem dX7_init_98 : decode cX7_init 98 = .ok (.invokespecial 33, 3) := by decide +kernel
theorem dX7_init_101 : decode cX7_init 101 = .ok (.aastore, 1) := by decide +kernel
theorem dX7_init_102 : decode cX7_init 102 = .ok (.iinc 1 1, 3) := by decide +kernel
theorem dX7_init_105 : decode cX7_init 105 = .ok (.goto (-22), 3) := by decide +kernel
theorem dX7_init_108 : decode cX7_init 108 = .ok (.return_, 1) := by decide +kernel
theorem dX7_copyState_0 : decode cX7_copyState 0 = .ok (.aload_n 0, 1) := by decide +kernel
theorem dX7_copyState_1 : decode cX7_copyState 1 = .ok (.aload_n 1, 1) := by decide +kernel
theorem dX7_copyState_2 : decode cX7_copyState 2 = .ok (.getfield 38, 3) := by decide +kernel
theorem dX7_copyState_5 : decode cX7_copyState 5 = .ok (.putfield 38, 3) := by decide +kernel
theorem dX7_copyState_8 : decode cX7_copyState 8 = .ok (.aload_n 0, 1) := by decide +kernel
theorem dX7_copyState_9 : decode cX7_copyState 9 = .ok (.aload_n 1, 1) := by decide +kernel
theorem dX7_copyState_10 : decode cX7_copyState 10 = .ok (.getfield 42, 3) := by decide +kernel
theorem dX7_copyState_13 : decode cX7_copyState 13 = .ok (.putfield 42, 3) := by decide +kernel
theorem dX7_copyState_16 : decode cX7_copyState 16 = .ok (.aload_n 0, 1) := by decide +kernel
theorem dX7_copyState_17 : decode cX7_copyState 17 = .ok (.aload_n 1, 1) := by decide +kernel
theorem dX7_copyState_18 : decode cX7_copyState 18 = .ok (.getfield 45, 3) := by decide +kernel
theorem dX7_copyState_21 : decode cX7_copyState 21 = .ok (.putfield 45, 3) := by decide +kernel
theorem dX7_copyState_24 : decode cX7_copyState 24 = .ok (.aload_n 0, 1) := by decide +kernel
theorem dX7_copyState_25 : decode cX7_copyState 25 = .ok (.aload_n 1, 1) := by decide +kernel
theorem dX7_copyState_26 : decode cX7_copyState 26 = .ok (.getfield 48, 3) := by decide +kernel
theorem dX7_copyState_29 : decode cX7_copyState 29 = .ok (.putfield 48, 3) := by decide +kernel
theorem dX7_copyState_32 : decode cX7_copyState 32 = .ok (.iconst 0, 1) := by decide +kernel
theorem dX7_copyState_33 : decode cX7_copyState 33 = .ok (.istore_n 2, 1) := by decide +kernel
theorem dX7_copyState_34 : decode cX7_copyState 34 = .ok (.iload_n 2, 1) := by decide +kernel
theorem dX7_copyState_35 : decode cX7_copyState 35 = .ok (.aload_n 0, 1) := by decide +kernel
theorem dX7_copyState_36 : decode cX7_copyState 36 = .ok (.getfield 38, 3) := by decide +kernel
theorem dX7_copyState_39 : decode cX7_copyState 39 = .ok (.if_icmp .ge 27, 3) := by decide +kernel
theorem dX7_copyState_42 : decode cX7_copyState 42 = .ok (.aload_n 1, 1) := by decide +kernel
theorem dX7_copyState_43 : decode cX7_copyState 43 = .ok (.getfield 11, 3) := by decide +kernel
theorem dX7_copyState_46 : decode cX7_copyState 46 = .ok (.iload_n 2, 1) := by decide +kernel
theorem dX7_copyState_47 : decode cX7_copyState 47 = .ok (.aaload, 1) := by decide +kernel
theorem dX7_copyState_48 : decode cX7_copyState 48 = .ok (.iconst 0, 1) := by decide +kernel
theorem dX7_copyState_49 : decode cX7_copyState 49 = .ok (.aload_n 0, 1) := by decide +kernel
theorem dX7_copyState_50 : decode cX7_copyState 50 = .ok (.getfield 11, 3) := by decide +kernel
theorem dX7_copyState_53 : decode cX7_copyState 53 = .ok (.iload_n 2, 1) := by decide +kernel
theorem dX7_copyState_54 : decode cX7_copyState 54 = .ok (.aaload, 1) := by decide +kernel
theorem dX7_copyState_55 : decode cX7_copyState 55 = .ok (.iconst 0, 1) := by decide +kernel
theorem dX7_copyState_56 : decode cX7_copyState 56 = .ok (.iconst 3, 1) := by decide +kernel
theorem dX7_copyState_57 : decode cX7_copyState 57 = .ok (.invokestatic 51, 3) := by decide +kernel
theorem dX7_copyState_60 : decode cX7_copyState 60 = .ok (.iinc 2 1, 3) := by decide +kernel
theorem dX7_copyState_63 : decode cX7_copyState 63 = .ok (.goto (-29), 3) := by decide +kernel
theorem dX7_copyState_66 : decode cX7_copyState 66 = .ok (.iconst 0, 1) := by decide +kernel
theorem dX7_copyState_67 : decode cX7_copyState 67 = .ok (.istore_n 2, 1) := by decide +kernel
theorem dX7_copyState_68 : decode cX7_copyState 68 = .ok (.iload_n 2, 1) := by decide +kernel
theorem dX7_copyState_69 : decode cX7_copyState 69 = .ok (.aload_n 0, 1) := by decide +kernel
theorem dX7_copyState_70 : decode cX7_copyState 70 = .ok (.getfield 42, 3) := by decide +kernel
theorem dX7_copyState_73 : decode cX7_copyState 73 = .ok (.if_icmp .ge 24, 3) := by decide +kernel
theorem dX7_copyState_76 : decode cX7_copyState 76 = .ok (.aload_n 0, 1) := by decide +kernel
theorem dX7_copyState_77 : decode cX7_copyState 77 = .ok (.getfield 18, 3) := by decide +kernel
theorem dX7_copyState_80 : decode cX7_copyState 80 = .ok (.iload_n 2, 1) := by decide +kernel
theorem dX7_copyState_81 : decode cX7_copyState 81 = .ok (.aaload, 1) := by decide +kernel
theorem dX7_copyState_82 : decode cX7_copyState 82 = .ok (.aload_n 1, 1) := by decide +kernel
theorem dX7_copyState_83 : decode cX7_copyState 83 = .ok (.getfield 18, 3) := by decide +kernel
theorem dX7_copyState_86 : decode cX7_copyState 86 = .ok (.iload_n 2, 1) := by decide +kernel
theorem dX7_copyState_87 : decode cX7_copyState 87 = .ok (.aaload, 1) := by decide +kernel
theorem dX7_copyState_88 : decode cX7_copyState 88 = .ok (.invokevirtual 57, 3) := by decide +kernel
theorem dX7_copyState_91 : decode cX7_copyState 91 = .ok (.iinc 2 1, 3) := by decide +kernel
theorem dX7_copyState_94 : decode cX7_copyState 94 = .ok (.goto (-26), 3) := by decide +kernel
theorem dX7_copyState_97 : decode cX7_copyState 97 = .ok (.iconst 0, 1) := by decide +kernel
theorem dX7_copyState_98 : decode cX7_copyState 98 = .ok (.istore_n 2, 1) := by decide +kernel
theorem dX7_copyState_99 : decode cX7_copyState 99 = .ok (.iload_n 2, 1) := by decide +kernel
theorem dX7_copyState_100 : decode cX7_copyState 100 = .ok (.aload_n 0, 1) := by decide +kernel
theorem dX7_copyState_101 : decode cX7_copyState 101 = .ok (.getfield 45, 3) := by decide +kernel
theorem dX7_copyState_104 : decode cX7_copyState 104 = .ok (.if_icmp .ge 24, 3) := by decide +kernel
theorem dX7_copyState_107 : decode cX7_copyState 107 = .ok (.aload_n 0, 1) := by decide +kernel
theorem dX7_copyState_108 : decode cX7_copyState 108 = .ok (.getfield 24, 3) := by decide +kernel
theorem dX7_copyState_111 : decode cX7_copyState 111 = .ok (.iload_n 2, 1) := by decide +kernel
theorem dX7_copyState_112 : decode cX7_copyState 112 = .ok (.aaload, 1) := by decide +kernel
theorem dX7_copyState_113 : decode cX7_copyState 113 = .ok (.aload_n 1, 1) := by decide +kernel
theorem dX7_copyState_114 : decode cX7_copyState 114 = .ok (.getfield 24, 3) := by decide +kernel
theorem dX7_copyState_117 : decode cX7_copyState 117 = .ok (.iload_n 2, 1) := by decide +kernel
theorem dX7_copyState_118 : decode cX7_copyState 118 = .ok (.aaload, 1) := by decide +kernel
theorem dX7_copyState_119 : decode cX7_copyState 119 = .ok (.invokevirtual 61, 3) := by decide +kernel
theorem dX7_copyState_122 : decode cX7_copyState 122 = .ok (.iinc 2 1, 3) := by decide +kernel
theorem dX7_copyState_125 : decode cX7_copyState 125 = .ok (.goto (-26), 3) := by decide +kernel
theorem dX7_copyState_128 : decode cX7_copyState 128 = .ok (.return_, 1) := by decide +kernel
theorem dX7_hasTrade_0 : decode cX7_hasTrade 0 = .ok (.iload_n 1, 1) := by decide +kernel
theorem dX7_hasTrade_1 : decode cX7_hasTrade 1 = .ok (.ifCond .lt 15, 3) := by decide +kernel
theorem dX7_hasTrade_4 : decode cX7_hasTrade 4 = .ok (.iload_n 1, 1) := by decide +kernel
theorem dX7_hasTrade_5 : decode cX7_hasTrade 5 = .ok (.aload_n 0, 1) := by decide +kernel
theorem dX7_hasTrade_6 : decode cX7_hasTrade 6 = .ok (.getfield 38, 3) := by decide +kernel
theorem dX7_hasTrade_9 : decode cX7_hasTrade 9 = .ok (.if_icmp .ge 7, 3) := by decide +kernel
theorem dX7_hasTrade_12 : decode cX7_hasTrade 12 = .ok (.iconst 1, 1) := by decide +kernel
theorem dX7_hasTrade_13 : decode cX7_hasTrade 13 = .ok (.goto 4, 3) := by decide +kernel
theorem dX7_hasTrade_16 : decode cX7_hasTrade 16 = .ok (.iconst 0, 1) := by decide +kernel
theorem dX7_hasTrade_17 : decode cX7_hasTrade 17 = .ok (.ireturn, 1) := by decide +kernel
theorem dX7_hasMentor_0 : decode cX7_hasMentor 0 = .ok (.iload_n 1, 1) := by decide +kernel
theorem dX7_hasMentor_1 : decode cX7_hasMentor 1 = .ok (.ifCond .lt 15, 3) := by decide +kernel
theorem dX7_hasMentor_4 : decode cX7_hasMentor 4 = .ok (.iload_n 1, 1) := by decide +kernel
theorem dX7_hasMentor_5 : decode cX7_hasMentor 5 = .ok (.aload_n 0, 1) := by decide +kernel
theorem dX7_hasMentor_6 : decode cX7_hasMentor 6 = .ok (.getfield 42, 3) := by decide +kernel
theorem dX7_hasMentor_9 : decode cX7_hasMentor 9 = .ok (.if_icmp .ge 7, 3) := by decide +kernel
theorem dX7_hasMentor_12 : decode cX7_hasMentor 12 = .ok (.iconst 1, 1) := by decide +kernel
theorem dX7_hasMentor_13 : decode cX7_hasMentor 13 = .ok (.goto 4, 3) := by decide +kernel
theorem dX7_hasMentor_16 : decode cX7_hasMentor 16 = .ok (.iconst 0, 1) := by decide +kernel
theorem dX7_hasMentor_17 : decode cX7_hasMentor 17 = .ok (.ireturn, 1) := by decide +kernel
theorem dX7_hasApprentice_0 : decode cX7_hasApprentice 0 = .ok (.iload_n 1, 1) := by decide +kernel
theorem dX7_hasApprentice_1 : decode cX7_hasApprentice 1 = .ok (.ifCond .lt 15, 3) := by decide +kernel
theorem dX7_hasApprentice_4 : decode cX7_hasApprentice 4 = .ok (.iload_n 1, 1) := by decide +kernel
theorem dX7_hasApprentice_5 : decode cX7_hasApprentice 5 = .ok (.aload_n 0, 1) := by decide +kernel
theorem dX7_hasApprentice_6 : decode cX7_hasApprentice 6 = .ok (.getfield 45, 3) := by decide +kernel
theorem dX7_hasApprentice_9 : decode cX7_hasApprentice 9 = .ok (.if_icmp .ge 7, 3) := by decide +kernel
theorem dX7_hasApprentice_12 : decode cX7_hasApprentice 12 = .ok (.iconst 1, 1) := by decide +kernel
theorem dX7_hasApprentice_13 : decode cX7_hasApprentice 13 = .ok (.goto 4, 3) := by decide +kernel
theorem dX7_hasApprentice_16 : decode cX7_hasApprentice 16 = .ok (.iconst 0, 1) := by decide +kernel
theorem dX7_hasApprentice_17 : decode cX7_hasApprentice 17 = .ok (.ireturn, 1) := by decide +kernel
theorem dX7_apprenticeAt_0 : decode cX7_apprenticeAt 0 = .ok (.aload_n 0, 1) := by decide +kernel
theorem dX7_apprenticeAt_1 : decode cX7_apprenticeAt 1 = .ok (.iload_n 1, 1) := by decide +kernel
theorem dX7_apprenticeAt_2 : decode cX7_apprenticeAt 2 = .ok (.invokevirtual 65, 3) := by decide +kernel
theorem dX7_apprenticeAt_5 : decode cX7_apprenticeAt 5 = .ok (.ifCond .eq 12, 3) := by decide +kernel
theorem dX7_apprenticeAt_8 : decode cX7_apprenticeAt 8 = .ok (.aload_n 0, 1) := by decide +kernel
theorem dX7_apprenticeAt_9 : decode cX7_apprenticeAt 9 = .ok (.getfield 24, 3) := by decide +kernel
theorem dX7_apprenticeAt_12 : decode cX7_apprenticeAt 12 = .ok (.iload_n 1, 1) := by decide +kernel
theorem dX7_apprenticeAt_13 : decode cX7_apprenticeAt 13 = .ok (.aaload, 1) := by decide +kernel
theorem dX7_apprenticeAt_14 : decode cX7_apprenticeAt 14 = .ok (.goto 7, 3) := by decide +kernel
theorem dX7_apprenticeAt_17 : decode cX7_apprenticeAt 17 = .ok (.aload_n 0, 1) := by decide +kernel
theorem dX7_apprenticeAt_18 : decode cX7_apprenticeAt 18 = .ok (.getfield 34, 3) := by decide +kernel
theorem dX7_apprenticeAt_21 : decode cX7_apprenticeAt 21 = .ok (.areturn, 1) := by decide +kernel
theorem dX7_mentorAt_0 : decode cX7_mentorAt 0 = .ok (.aload_n 0, 1) := by decide +kernel
theorem dX7_mentorAt_1 : decode cX7_mentorAt 1 = .ok (.iload_n 1, 1) := by decide +kernel
theorem dX7_mentorAt_2 : decode cX7_mentorAt 2 = .ok (.invokevirtual 69, 3) := by decide +kernel
theorem dX7_mentorAt_5 : decode cX7_mentorAt 5 = .ok (.ifCond .eq 12, 3) := by decide +kernel
theorem dX7_mentorAt_8 : decode cX7_mentorAt 8 = .ok (.aload_n 0, 1) := by decide +kernel
theorem dX7_mentorAt_9 : decode cX7_mentorAt 9 = .ok (.getfield 18, 3) := by decide +kernel
theorem dX7_mentorAt_12 : decode cX7_mentorAt 12 = .ok (.iload_n 1, 1) := by decide +kernel
theorem dX7_mentorAt_13 : decode cX7_mentorAt 13 = .ok (.aaload, 1) := by decide +kernel
theorem dX7_mentorAt_14 : decode cX7_mentorAt 14 = .ok (.goto 7, 3) := by decide +kernel
theorem dX7_mentorAt_17 : decode cX7_mentorAt 17 = .ok (.aload_n 0, 1) := by decide +kernel
theorem dX7_mentorAt_18 : decode cX7_mentorAt 18 = .ok (.getfield 29, 3) := by decide +kernel
theorem dX7_mentorAt_21 : decode cX7_mentorAt 21 = .ok (.areturn, 1) := by decide +kernel
theorem dX7_teaches_0 : decode cX7_teaches 0 = .ok (.aload_n 0, 1) := by decide +kernel
theorem dX7_teaches_1 : decode cX7_teaches 1 = .ok (.iload_n 1, 1) := by decide +kernel
theorem dX7_teaches_2 : decode cX7_teaches 2 = .ok (.invokevirtual 72, 3) := by decide +kernel
theorem dX7_teaches_5 : decode cX7_teaches 5 = .ok (.getfield 76, 3) := by decide +kernel
theorem dX7_teaches_8 : decode cX7_teaches 8 = .ok (.iload_n 2, 1) := by decide +kernel
theorem dX7_teaches_9 : decode cX7_teaches 9 = .ok (.ishr, 1) := by decide +kernel
theorem dX7_teaches_10 : decode cX7_teaches 10 = .ok (.iconst 1, 1) := by decide +kernel
theorem dX7_teaches_11 : decode cX7_teaches 11 = .ok (.iand, 1) := by decide +kernel
theorem dX7_teaches_12 : decode cX7_teaches 12 = .ok (.ifCond .eq 7, 3) := by decide +kernel
theorem dX7_teaches_15 : decode cX7_teaches 15 = .ok (.iconst 1, 1) := by decide +kernel
theorem dX7_teaches_16 : decode cX7_teaches 16 = .ok (.goto 4, 3) := by decide +kernel
theorem dX7_teaches_19 : decode cX7_teaches 19 = .ok (.iconst 0, 1) := by decide +kernel
theorem dX7_teaches_20 : decode cX7_teaches 20 = .ok (.ireturn, 1) := by decide +kernel
theorem dX7_apprenticesOf_0 : decode cX7_apprenticesOf 0 = .ok (.iconst 0, 1) := by decide +kernel
theorem dX7_apprenticesOf_1 : decode cX7_apprenticesOf 1 = .ok (.istore_n 2, 1) := by decide +kernel
theorem dX7_apprenticesOf_2 : decode cX7_apprenticesOf 2 = .ok (.iconst 0, 1) := by decide +kernel
theorem dX7_apprenticesOf_3 : decode cX7_apprenticesOf 3 = .ok (.istore_n 3, 1) := by decide +kernel
theorem dX7_apprenticesOf_4 : decode cX7_apprenticesOf 4 = .ok (.iload_n 3, 1) := by decide +kernel
theorem dX7_apprenticesOf_5 : decode cX7_apprenticesOf 5 = .ok (.aload_n 0, 1) := by decide +kernel
theorem dX7_apprenticesOf_6 : decode cX7_apprenticesOf 6 = .ok (.getfield 45, 3) := by decide +kernel
theorem dX7_apprenticesOf_9 : decode cX7_apprenticesOf 9 = .ok (.if_icmp .ge 25, 3) := by decide +kernel
theorem dX7_apprenticesOf_12 : decode cX7_apprenticesOf 12 = .ok (.aload_n 0, 1) := by decide +kernel
theorem dX7_apprenticesOf_13 : decode cX7_apprenticesOf 13 = .ok (.getfield 24, 3) := by decide +kernel
theorem dX7_apprenticesOf_16 : decode cX7_apprenticesOf 16 = .ok (.iload_n 3, 1) := by decide +kernel
theorem dX7_apprenticesOf_17 : decode cX7_apprenticesOf 17 = .ok (.aaload, 1) := by decide +kernel
theorem dX7_apprenticesOf_18 : decode cX7_apprenticesOf 18 = .ok (.getfield 79, 3) := by decide +kernel
theorem dX7_apprenticesOf_21 : decode cX7_apprenticesOf 21 = .ok (.iload_n 1, 1) := by decide +kernel
theorem dX7_apprenticesOf_22 : decode cX7_apprenticesOf 22 = .ok (.if_icmp .ne 6, 3) := by decide +kernel
theorem dX7_apprenticesOf_25 : decode cX7_apprenticesOf 25 = .ok (.iinc 2 1, 3) := by decide +kernel
theorem dX7_apprenticesOf_28 : decode cX7_apprenticesOf 28 = .ok (.iinc 3 1, 3) := by decide +kernel
theorem dX7_apprenticesOf_31 : decode cX7_apprenticesOf 31 = .ok (.goto (-27), 3) := by decide +kernel
theorem dX7_apprenticesOf_34 : decode cX7_apprenticesOf 34 = .ok (.iload_n 2, 1) := by decide +kernel
theorem dX7_apprenticesOf_35 : decode cX7_apprenticesOf 35 = .ok (.ireturn, 1) := by decide +kernel
theorem dX7_isFull_0 : decode cX7_isFull 0 = .ok (.aload_n 0, 1) := by decide +kernel
theorem dX7_isFull_1 : decode cX7_isFull 1 = .ok (.iload_n 1, 1) := by decide +kernel
theorem dX7_isFull_2 : decode cX7_isFull 2 = .ok (.invokevirtual 82, 3) := by decide +kernel
theorem dX7_isFull_5 : decode cX7_isFull 5 = .ok (.aload_n 0, 1) := by decide +kernel
theorem dX7_isFull_6 : decode cX7_isFull 6 = .ok (.iload_n 1, 1) := by decide +kernel
theorem dX7_isFull_7 : decode cX7_isFull 7 = .ok (.invokevirtual 72, 3) := by decide +kernel
theorem dX7_isFull_10 : decode cX7_isFull 10 = .ok (.getfield 86, 3) := by decide +kernel
theorem dX7_isFull_13 : decode cX7_isFull 13 = .ok (.if_icmp .lt 7, 3) := by decide +kernel
theorem dX7_isFull_16 : decode cX7_isFull 16 = .ok (.iconst 1, 1) := by decide +kernel
theorem dX7_isFull_17 : decode cX7_isFull 17 = .ok (.goto 4, 3) := by decide +kernel
theorem dX7_isFull_20 : decode cX7_isFull 20 = .ok (.iconst 0, 1) := by decide +kernel
theorem dX7_isFull_21 : decode cX7_isFull 21 = .ok (.ireturn, 1) := by decide +kernel
theorem dX7_mentorOf_0 : decode cX7_mentorOf 0 = .ok (.aload_n 0, 1) := by decide +kernel
theorem dX7_mentorOf_1 : decode cX7_mentorOf 1 = .ok (.iload_n 1, 1) := by decide +kernel
theorem dX7_mentorOf_2 : decode cX7_mentorOf 2 = .ok (.invokevirtual 89, 3) := by decide +kernel
theorem dX7_mentorOf_5 : decode cX7_mentorOf 5 = .ok (.getfield 79, 3) := by decide +kernel
theorem dX7_mentorOf_8 : decode cX7_mentorOf 8 = .ok (.ireturn, 1) := by decide +kernel
theorem dX7_entryCount_0 : decode cX7_entryCount 0 = .ok (.aload_n 0, 1) := by decide +kernel
theorem dX7_entryCount_1 : decode cX7_entryCount 1 = .ok (.iload_n 1, 1) := by decide +kernel
theorem dX7_entryCount_2 : decode cX7_entryCount 2 = .ok (.invokevirtual 89, 3) := by decide +kernel
theorem dX7_entryCount_5 : decode cX7_entryCount 5 = .ok (.astore_n 3, 1) := by decide +kernel
theorem dX7_entryCount_6 : decode cX7_entryCount 6 = .ok (.iload_n 2, 1) := by decide +kernel
theorem dX7_entryCount_7 : decode cX7_entryCount 7 = .ok (.ifCond .eq 13, 3) := by decide +kernel
theorem dX7_entryCount_10 : decode cX7_entryCount 10 = .ok (.aload_n 3, 1) := by decide +kernel
theorem dX7_entryCount_11 : decode cX7_entryCount 11 = .ok (.getfield 93, 3) := by decide +kernel
theorem dX7_entryCount_14 : decode cX7_entryCount 14 = .ok (.getfield 97, 3) := by decide +kernel
theorem dX7_entryCount_17 : decode cX7_entryCount 17 = .ok (.goto 10, 3) := by decide +kernel
theorem dX7_entryCount_20 : decode cX7_entryCount 20 = .ok (.aload_n 3, 1) := by decide +kernel
theorem dX7_entryCount_21 : decode cX7_entryCount 21 = .ok (.getfield 102, 3) := by decide +kernel
theorem dX7_entryCount_24 : decode cX7_entryCount 24 = .ok (.getfield 97, 3) := by decide +kernel
theorem dX7_entryCount_27 : decode cX7_entryCount 27 = .ok (.ireturn, 1) := by decide +kernel
theorem dX7_hasWorked_0 : decode cX7_hasWorked 0 = .ok (.aload_n 0, 1) := by decide +kernel
theorem dX7_hasWorked_1 : decode cX7_hasWorked 1 = .ok (.iload_n 1, 1) := by decide +kernel
theorem dX7_hasWorked_2 : decode cX7_hasWorked 2 = .ok (.invokevirtual 89, 3) := by decide +kernel
theorem dX7_hasWorked_5 : decode cX7_hasWorked 5 = .ok (.getfield 105, 3) := by decide +kernel
theorem dX7_hasWorked_8 : decode cX7_hasWorked 8 = .ok (.iload_n 2, 1) := by decide +kernel
theorem dX7_hasWorked_9 : decode cX7_hasWorked 9 = .ok (.invokevirtual 109, 3) := by decide +kernel
theorem dX7_hasWorked_12 : decode cX7_hasWorked 12 = .ok (.ireturn, 1) := by decide +kernel
theorem dX7_needOf_0 : decode cX7_needOf 0 = .ok (.aload_n 1, 1) := by decide +kernel
theorem dX7_needOf_1 : decode cX7_needOf 1 = .ok (.getfield 114, 3) := by decide +kernel
theorem dX7_needOf_4 : decode cX7_needOf 4 = .ok (.ifCond .lt 27, 3) := by decide +kernel
theorem dX7_needOf_7 : decode cX7_needOf 7 = .ok (.aload_n 1, 1) := by decide +kernel
theorem dX7_needOf_8 : decode cX7_needOf 8 = .ok (.getfield 114, 3) := by decide +kernel
theorem dX7_needOf_11 : decode cX7_needOf 11 = .ok (.aload_n 0, 1) := by decide +kernel
theorem dX7_needOf_12 : decode cX7_needOf 12 = .ok (.getfield 38, 3) := by decide +kernel
theorem dX7_needOf_15 : decode cX7_needOf 15 = .ok (.if_icmp .ge 16, 3) := by decide +kernel
theorem dX7_needOf_18 : decode cX7_needOf 18 = .ok (.iload_n 2, 1) := by decide +kernel
theorem dX7_needOf_19 : decode cX7_needOf 19 = .ok (.ifCond .lt 12, 3) := by decide +kernel
theorem dX7_needOf_22 : decode cX7_needOf 22 = .ok (.iload_n 2, 1) := by decide +kernel
theorem dX7_needOf_23 : decode cX7_needOf 23 = .ok (.iconst 3, 1) := by decide +kernel
theorem dX7_needOf_24 : decode cX7_needOf 24 = .ok (.if_icmp .ge 7, 3) := by decide +kernel
theorem dX7_needOf_27 : decode cX7_needOf 27 = .ok (.iconst 1, 1) := by decide +kernel
theorem dX7_needOf_28 : decode cX7_needOf 28 = .ok (.goto 4, 3) := by decide +kernel
theorem dX7_needOf_31 : decode cX7_needOf 31 = .ok (.iconst 0, 1) := by decide +kernel
theorem dX7_needOf_32 : decode cX7_needOf 32 = .ok (.istore_n 3, 1) := by decide +kernel
theorem dX7_needOf_33 : decode cX7_needOf 33 = .ok (.iload_n 3, 1) := by decide +kernel
theorem dX7_needOf_34 : decode cX7_needOf 34 = .ok (.ifCond .eq 17, 3) := by decide +kernel
theorem dX7_needOf_37 : decode cX7_needOf 37 = .ok (.aload_n 0, 1) := by decide +kernel
theorem dX7_needOf_38 : decode cX7_needOf 38 = .ok (.getfield 11, 3) := by decide +kernel
theorem dX7_needOf_41 : decode cX7_needOf 41 = .ok (.aload_n 1, 1) := by decide +kernel
theorem dX7_needOf_42 : decode cX7_needOf 42 = .ok (.getfield 114, 3) := by decide +kernel
theorem dX7_needOf_45 : decode cX7_needOf 45 = .ok (.aaload, 1) := by decide +kernel
theorem dX7_needOf_46 : decode cX7_needOf 46 = .ok (.iload_n 2, 1) := by decide +kernel
theorem dX7_needOf_47 : decode cX7_needOf 47 = .ok (.iaload, 1) := by decide +kernel
theorem dX7_needOf_48 : decode cX7_needOf 48 = .ok (.goto 4, 3) := by decide +kernel
theorem dX7_needOf_51 : decode cX7_needOf 51 = .ok (.iconst 0, 1) := by decide +kernel
theorem dX7_needOf_52 : decode cX7_needOf 52 = .ok (.ireturn, 1) := by decide +kernel
theorem dX7_missingIn_0 : decode cX7_missingIn 0 = .ok (.iconst 0, 1) := by decide +kernel
theorem dX7_missingIn_1 : decode cX7_missingIn 1 = .ok (.aload_n 0, 1) := by decide +kernel
theorem dX7_missingIn_2 : decode cX7_missingIn 2 = .ok (.aload_n 1, 1) := by decide +kernel
theorem dX7_missingIn_3 : decode cX7_missingIn 3 = .ok (.iload_n 2, 1) := by decide +kernel
theorem dX7_missingIn_4 : decode cX7_missingIn 4 = .ok (.invokevirtual 117, 3) := by decide +kernel
theorem dX7_missingIn_7 : decode cX7_missingIn 7 = .ok (.aload_n 1, 1) := by decide +kernel
theorem dX7_missingIn_8 : decode cX7_missingIn 8 = .ok (.iload_n 2, 1) := by decide +kernel
theorem dX7_missingIn_9 : decode cX7_missingIn 9 = .ok (.invokevirtual 121, 3) := by decide +kernel
theorem dX7_missingIn_12 : decode cX7_missingIn 12 = .ok (.isub, 1) := by decide +kernel
theorem dX7_missingIn_13 : decode cX7_missingIn 13 = .ok (.invokestatic 124, 3) := by decide +kernel
theorem dX7_missingIn_16 : decode cX7_missingIn 16 = .ok (.ireturn, 1) := by decide +kernel
theorem dX7_isComplete_0 : decode cX7_isComplete 0 = .ok (.iconst 0, 1) := by decide +kernel
theorem dX7_isComplete_1 : decode cX7_isComplete 1 = .ok (.istore_n 2, 1) := by decide +kernel
theorem dX7_isComplete_2 : decode cX7_isComplete 2 = .ok (.iload_n 2, 1) := by decide +kernel
theorem dX7_isComplete_3 : decode cX7_isComplete 3 = .ok (.iconst 3, 1) := by decide +kernel
theorem dX7_isComplete_4 : decode cX7_isComplete 4 = .ok (.if_icmp .ge 20, 3) := by decide +kernel
theorem dX7_isComplete_7 : decode cX7_isComplete 7 = .ok (.aload_n 0, 1) := by decide +kernel
theorem dX7_isComplete_8 : decode cX7_isComplete 8 = .ok (.aload_n 1, 1) := by decide +kernel
theorem dX7_isComplete_9 : decode cX7_isComplete 9 = .ok (.iload_n 2, 1) := by decide +kernel
theorem dX7_isComplete_10 : decode cX7_isComplete 10 = .ok (.invokevirtual 130, 3) := by decide +kernel
theorem dX7_isComplete_13 : decode cX7_isComplete 13 = .ok (.ifCond .le 5, 3) := by decide +kernel
theorem dX7_isComplete_16 : decode cX7_isComplete 16 = .ok (.iconst 0, 1) := by decide +kernel
theorem dX7_isComplete_17 : decode cX7_isComplete 17 = .ok (.ireturn, 1) := by decide +kernel
theorem dX7_isComplete_18 : decode cX7_isComplete 18 = .ok (.iinc 2 1, 3) := by decide +kernel
theorem dX7_isComplete_21 : decode cX7_isComplete 21 = .ok (.goto (-19), 3) := by decide +kernel
theorem dX7_isComplete_24 : decode cX7_isComplete 24 = .ok (.iconst 1, 1) := by decide +kernel
theorem dX7_isComplete_25 : decode cX7_isComplete 25 = .ok (.ireturn, 1) := by decide +kernel
theorem dX7_canWork_0 : decode cX7_canWork 0 = .ok (.aload_n 0, 1) := by decide +kernel
theorem dX7_canWork_1 : decode cX7_canWork 1 = .ok (.iload_n 1, 1) := by decide +kernel
theorem dX7_canWork_2 : decode cX7_canWork 2 = .ok (.invokevirtual 89, 3) := by decide +kernel
theorem dX7_canWork_5 : decode cX7_canWork 5 = .ok (.aload_n 0, 1) := by decide +kernel
theorem dX7_canWork_6 : decode cX7_canWork 6 = .ok (.getfield 48, 3) := by decide +kernel
theorem dX7_canWork_9 : decode cX7_canWork 9 = .ok (.iload_n 2, 1) := by decide +kernel
theorem dX7_canWork_10 : decode cX7_canWork 10 = .ok (.invokevirtual 133, 3) := by decide +kernel
theorem dX7_canWork_13 : decode cX7_canWork 13 = .ok (.ireturn, 1) := by decide +kernel
theorem dX7_canConfirm_0 : decode cX7_canConfirm 0 = .ok (.iload_n 2, 1) := by decide +kernel
theorem dX7_canConfirm_1 : decode cX7_canConfirm 1 = .ok (.istore_n 3, 1) := by decide +kernel
theorem dX7_canConfirm_2 : decode cX7_canConfirm 2 = .ok (.iconst 0, 1) := by decide +kernel
theorem dX7_canConfirm_3 : decode cX7_canConfirm 3 = .ok (.istore 4, 2) := by decide +kernel
theorem dX7_canConfirm_5 : decode cX7_canConfirm 5 = .ok (.iload 4, 2) := by decide +kernel
theorem dX7_canConfirm_7 : decode cX7_canConfirm 7 = .ok (.aload_n 0, 1) := by decide +kernel
theorem dX7_canConfirm_8 : decode cX7_canConfirm 8 = .ok (.getfield 45, 3) := by decide +kernel
theorem dX7_canConfirm_11 : decode cX7_canConfirm 11 = .ok (.if_icmp .ge 54, 3) := by decide +kernel
theorem dX7_canConfirm_14 : decode cX7_canConfirm 14 = .ok (.aload_n 0, 1) := by decide +kernel
theorem dX7_canConfirm_15 : decode cX7_canConfirm 15 = .ok (.getfield 24, 3) := by decide +kernel
theorem dX7_canConfirm_18 : decode cX7_canConfirm 18 = .ok (.iload 4, 2) := by decide +kernel
theorem dX7_canConfirm_20 : decode cX7_canConfirm 20 = .ok (.aaload, 1) := by decide +kernel
theorem dX7_canConfirm_21 : decode cX7_canConfirm 21 = .ok (.astore 5, 2) := by decide +kernel
theorem dX7_canConfirm_23 : decode cX7_canConfirm 23 = .ok (.aload 5, 2) := by decide +kernel
theorem dX7_canConfirm_25 : decode cX7_canConfirm 25 = .ok (.getfield 79, 3) := by decide +kernel
theorem dX7_canConfirm_28 : decode cX7_canConfirm 28 = .ok (.iload_n 1, 1) := by decide +kernel
theorem dX7_canConfirm_29 : decode cX7_canConfirm 29 = .ok (.if_icmp .ne 30, 3) := by decide +kernel
theorem dX7_canConfirm_32 : decode cX7_canConfirm 32 = .ok (.aload 5, 2) := by decide +kernel
theorem dX7_canConfirm_34 : decode cX7_canConfirm 34 = .ok (.iload_n 3, 1) := by decide +kernel
theorem dX7_canConfirm_35 : decode cX7_canConfirm 35 = .ok (.invokevirtual 137, 3) := by decide +kernel
theorem dX7_canConfirm_38 : decode cX7_canConfirm 38 = .ok (.ifCond .ne 5, 3) := by decide +kernel
theorem dX7_canConfirm_41 : decode cX7_canConfirm 41 = .ok (.iconst 0, 1) := by decide +kernel
theorem dX7_canConfirm_42 : decode cX7_canConfirm 42 = .ok (.ireturn, 1) := by decide +kernel
theorem dX7_canConfirm_43 : decode cX7_canConfirm 43 = .ok (.iload_n 3, 1) := by decide +kernel
theorem dX7_canConfirm_44 : decode cX7_canConfirm 44 = .ok (.iload_n 3, 1) := by decide +kernel
theorem dX7_canConfirm_45 : decode cX7_canConfirm 45 = .ok (.aload 5, 2) := by decide +kernel
theorem dX7_canConfirm_47 : decode cX7_canConfirm 47 = .ok (.getfield 102, 3) := by decide +kernel
theorem dX7_canConfirm_50 : decode cX7_canConfirm 50 = .ok (.iload_n 1, 1) := by decide +kernel
theorem dX7_canConfirm_51 : decode cX7_canConfirm 51 = .ok (.invokevirtual 140, 3) := by decide +kernel
theorem dX7_canConfirm_54 : decode cX7_canConfirm 54 = .ok (.invokestatic 143, 3) := by decide +kernel
theorem dX7_canConfirm_57 : decode cX7_canConfirm 57 = .ok (.isub, 1) := by decide +kernel
theorem dX7_canConfirm_58 : decode cX7_canConfirm 58 = .ok (.istore_n 3, 1) := by decide +kernel
theorem dX7_canConfirm_59 : decode cX7_canConfirm 59 = .ok (.iinc 4 1, 3) := by decide +kernel
theorem dX7_canConfirm_62 : decode cX7_canConfirm 62 = .ok (.goto (-57), 3) := by decide +kernel
theorem dX7_canConfirm_65 : decode cX7_canConfirm 65 = .ok (.iconst 1, 1) := by decide +kernel
theorem dX7_canConfirm_66 : decode cX7_canConfirm 66 = .ok (.ireturn, 1) := by decide +kernel
theorem dX7_canSettle_0 : decode cX7_canSettle 0 = .ok (.aload_n 0, 1) := by decide +kernel
theorem dX7_canSettle_1 : decode cX7_canSettle 1 = .ok (.iload_n 1, 1) := by decide +kernel
theorem dX7_canSettle_2 : decode cX7_canSettle 2 = .ok (.invokevirtual 89, 3) := by decide +kernel
theorem dX7_canSettle_5 : decode cX7_canSettle 5 = .ok (.astore_n 3, 1) := by decide +kernel
theorem dX7_canSettle_6 : decode cX7_canSettle 6 = .ok (.aload_n 3, 1) := by decide +kernel
theorem dX7_canSettle_7 : decode cX7_canSettle 7 = .ok (.getfield 93, 3) := by decide +kernel
theorem dX7_canSettle_10 : decode cX7_canSettle 10 = .ok (.getfield 97, 3) := by decide +kernel
theorem dX7_canSettle_13 : decode cX7_canSettle 13 = .ok (.ifCond .eq 7, 3) := by decide +kernel
theorem dX7_canSettle_16 : decode cX7_canSettle 16 = .ok (.iload_n 2, 1) := by decide +kernel
theorem dX7_canSettle_17 : decode cX7_canSettle 17 = .ok (.ifCond .ne 19, 3) := by decide +kernel
theorem dX7_canSettle_20 : decode cX7_canSettle 20 = .ok (.aload_n 3, 1) := by decide +kernel
theorem dX7_canSettle_21 : decode cX7_canSettle 21 = .ok (.getfield 93, 3) := by decide +kernel
theorem dX7_canSettle_24 : decode cX7_canSettle 24 = .ok (.getfield 97, 3) := by decide +kernel
theorem dX7_canSettle_27 : decode cX7_canSettle 27 = .ok (.ifCond .le 7, 3) := by decide +kernel
theorem dX7_canSettle_30 : decode cX7_canSettle 30 = .ok (.iconst 1, 1) := by decide +kernel
theorem dX7_canSettle_31 : decode cX7_canSettle 31 = .ok (.goto 4, 3) := by decide +kernel
theorem dX7_canSettle_34 : decode cX7_canSettle 34 = .ok (.iconst 0, 1) := by decide +kernel
theorem dX7_canSettle_35 : decode cX7_canSettle 35 = .ok (.ireturn, 1) := by decide +kernel
theorem dX7_canSettle_36 : decode cX7_canSettle 36 = .ok (.aload_n 3, 1) := by decide +kernel
theorem dX7_canSettle_37 : decode cX7_canSettle 37 = .ok (.aload_n 3, 1) := by decide +kernel
theorem dX7_canSettle_38 : decode cX7_canSettle 38 = .ok (.getfield 93, 3) := by decide +kernel
theorem dX7_canSettle_41 : decode cX7_canSettle 41 = .ok (.iconst 0, 1) := by decide +kernel
theorem dX7_canSettle_42 : decode cX7_canSettle 42 = .ok (.iconst 0, 1) := by decide +kernel
theorem dX7_canSettle_43 : decode cX7_canSettle 43 = .ok (.invokevirtual 146, 3) := by decide +kernel
theorem dX7_canSettle_46 : decode cX7_canSettle 46 = .ok (.aload_n 3, 1) := by decide +kernel
theorem dX7_canSettle_47 : decode cX7_canSettle 47 = .ok (.getfield 93, 3) := by decide +kernel
theorem dX7_canSettle_50 : decode cX7_canSettle 50 = .ok (.iconst 0, 1) := by decide +kernel
theorem dX7_canSettle_51 : decode cX7_canSettle 51 = .ok (.iconst 1, 1) := by decide +kernel
theorem dX7_canSettle_52 : decode cX7_canSettle 52 = .ok (.invokevirtual 146, 3) := by decide +kernel
theorem dX7_canSettle_55 : decode cX7_canSettle 55 = .ok (.invokevirtual 149, 3) := by decide +kernel
theorem dX7_canSettle_58 : decode cX7_canSettle 58 = .ok (.ireturn, 1) := by decide +kernel
theorem dX7_canCredit_0 : decode cX7_canCredit 0 = .ok (.aload_n 0, 1) := by decide +kernel
theorem dX7_canCredit_1 : decode cX7_canCredit 1 = .ok (.iload_n 1, 1) := by decide +kernel
theorem dX7_canCredit_2 : decode cX7_canCredit 2 = .ok (.invokevirtual 89, 3) := by decide +kernel
theorem dX7_canCredit_5 : decode cX7_canCredit 5 = .ok (.iload_n 2, 1) := by decide +kernel
theorem dX7_canCredit_6 : decode cX7_canCredit 6 = .ok (.iload_n 3, 1) := by decide +kernel
theorem dX7_canCredit_7 : decode cX7_canCredit 7 = .ok (.invokevirtual 149, 3) := by decide +kernel
theorem dX7_canCredit_10 : decode cX7_canCredit 10 = .ok (.ireturn, 1) := by decide +kernel
theorem dX7_obstacle_0 : decode cX7_obstacle 0 = .ok (.aload_n 0, 1) := by decide +kernel
theorem dX7_obstacle_1 : decode cX7_obstacle 1 = .ok (.iload_n 1, 1) := by decide +kernel
theorem dX7_obstacle_2 : decode cX7_obstacle 2 = .ok (.invokevirtual 89, 3) := by decide +kernel
theorem dX7_obstacle_5 : decode cX7_obstacle 5 = .ok (.astore_n 3, 1) := by decide +kernel
theorem dX7_obstacle_6 : decode cX7_obstacle 6 = .ok (.aload_n 3, 1) := by decide +kernel
theorem dX7_obstacle_7 : decode cX7_obstacle 7 = .ok (.getfield 79, 3) := by decide +kernel
theorem dX7_obstacle_10 : decode cX7_obstacle 10 = .ok (.iload_n 2, 1) := by decide +kernel
theorem dX7_obstacle_11 : decode cX7_obstacle 11 = .ok (.if_icmp .ne 5, 3) := by decide +kernel
theorem dX7_obstacle_14 : decode cX7_obstacle 14 = .ok (.iconst 1, 1) := by decide +kernel
theorem dX7_obstacle_15 : decode cX7_obstacle 15 = .ok (.ireturn, 1) := by decide +kernel
theorem dX7_obstacle_16 : decode cX7_obstacle 16 = .ok (.aload_n 0, 1) := by decide +kernel
theorem dX7_obstacle_17 : decode cX7_obstacle 17 = .ok (.iload_n 2, 1) := by decide +kernel
theorem dX7_obstacle_18 : decode cX7_obstacle 18 = .ok (.aload_n 3, 1) := by decide +kernel
theorem dX7_obstacle_19 : decode cX7_obstacle 19 = .ok (.getfield 114, 3) := by decide +kernel
theorem dX7_obstacle_22 : decode cX7_obstacle 22 = .ok (.invokevirtual 152, 3) := by decide +kernel
theorem dX7_obstacle_25 : decode cX7_obstacle 25 = .ok (.ifCond .ne 5, 3) := by decide +kernel
theorem dX7_obstacle_28 : decode cX7_obstacle 28 = .ok (.iconst 2, 1) := by decide +kernel
theorem dX7_obstacle_29 : decode cX7_obstacle 29 = .ok (.ireturn, 1) := by decide +kernel
theorem dX7_obstacle_30 : decode cX7_obstacle 30 = .ok (.aload_n 0, 1) := by decide +kernel
theorem dX7_obstacle_31 : decode cX7_obstacle 31 = .ok (.iload_n 2, 1) := by decide +kernel
theorem dX7_obstacle_32 : decode cX7_obstacle 32 = .ok (.invokevirtual 155, 3) := by decide +kernel
theorem dX7_obstacle_35 : decode cX7_obstacle 35 = .ok (.ifCond .eq 7, 3) := by decide +kernel
theorem dX7_obstacle_38 : decode cX7_obstacle 38 = .ok (.iconst 3, 1) := by decide +kernel
theorem dX7_obstacle_39 : decode cX7_obstacle 39 = .ok (.goto 4, 3) := by decide +kernel
theorem dX7_obstacle_42 : decode cX7_obstacle 42 = .ok (.iconst 0, 1) := by decide +kernel
theorem dX7_obstacle_43 : decode cX7_obstacle 43 = .ok (.ireturn, 1) := by decide +kernel
theorem dX7_canExchange_0 : decode cX7_canExchange 0 = .ok (.aload_n 0, 1) := by decide +kernel
theorem dX7_canExchange_1 : decode cX7_canExchange 1 = .ok (.iload_n 1, 1) := by decide +kernel
theorem dX7_canExchange_2 : decode cX7_canExchange 2 = .ok (.invokevirtual 89, 3) := by decide +kernel
theorem dX7_canExchange_5 : decode cX7_canExchange 5 = .ok (.astore_n 3, 1) := by decide +kernel
theorem dX7_canExchange_6 : decode cX7_canExchange 6 = .ok (.aload_n 0, 1) := by decide +kernel
theorem dX7_canExchange_7 : decode cX7_canExchange 7 = .ok (.iload_n 2, 1) := by decide +kernel
theorem dX7_canExchange_8 : decode cX7_canExchange 8 = .ok (.invokevirtual 89, 3) := by decide +kernel
theorem dX7_canExchange_11 : decode cX7_canExchange 11 = .ok (.astore 4, 2) := by decide +kernel
theorem dX7_canExchange_13 : decode cX7_canExchange 13 = .ok (.aload_n 3, 1) := by decide +kernel
theorem dX7_canExchange_14 : decode cX7_canExchange 14 = .ok (.getfield 79, 3) := by decide +kernel
theorem dX7_canExchange_17 : decode cX7_canExchange 17 = .ok (.iconst (-1), 1) := by decide +kernel
theorem dX7_canExchange_18 : decode cX7_canExchange 18 = .ok (.if_icmp .eq 60, 3) := by decide +kernel
theorem dX7_canExchange_21 : decode cX7_canExchange 21 = .ok (.aload 4, 2) := by decide +kernel
theorem dX7_canExchange_23 : decode cX7_canExchange 23 = .ok (.getfield 79, 3) := by decide +kernel
theorem dX7_canExchange_26 : decode cX7_canExchange 26 = .ok (.iconst (-1), 1) := by decide +kernel
theorem dX7_canExchange_27 : decode cX7_canExchange 27 = .ok (.if_icmp .eq 51, 3) := by decide +kernel
theorem dX7_canExchange_30 : decode cX7_canExchange 30 = .ok (.aload_n 3, 1) := by decide +kernel
theorem dX7_canExchange_31 : decode cX7_canExchange 31 = .ok (.getfield 79, 3) := by decide +kernel
theorem dX7_canExchange_34 : decode cX7_canExchange 34 = .ok (.aload 4, 2) := by decide +kernel
theorem dX7_canExchange_36 : decode cX7_canExchange 36 = .ok (.getfield 79, 3) := by decide +kernel
theorem dX7_canExchange_39 : decode cX7_canExchange 39 = .ok (.if_icmp .eq 39, 3) := by decide +kernel
theorem dX7_canExchange_42 : decode cX7_canExchange 42 = .ok (.aload_n 0, 1) := by decide +kernel
theorem dX7_canExchange_43 : decode cX7_canExchange 43 = .ok (.aload_n 3, 1) := by decide +kernel
theorem dX7_canExchange_44 : decode cX7_canExchange 44 = .ok (.getfield 79, 3) := by decide +kernel
theorem dX7_canExchange_47 : decode cX7_canExchange 47 = .ok (.aload 4, 2) := by decide +kernel
theorem dX7_canExchange_49 : decode cX7_canExchange 49 = .ok (.getfield 114, 3) := by decide +kernel
theorem dX7_canExchange_52 : decode cX7_canExchange 52 = .ok (.invokevirtual 152, 3) := by decide +kernel
theorem dX7_canExchange_55 : decode cX7_canExchange 55 = .ok (.ifCond .eq 23, 3) := by decide +kernel
theorem dX7_canExchange_58 : decode cX7_canExchange 58 = .ok (.aload_n 0, 1) := by decide +kernel
theorem dX7_canExchange_59 : decode cX7_canExchange 59 = .ok (.aload 4, 2) := by decide +kernel
theorem dX7_canExchange_61 : decode cX7_canExchange 61 = .ok (.getfield 79, 3) := by decide +kernel
theorem dX7_canExchange_64 : decode cX7_canExchange 64 = .ok (.aload_n 3, 1) := by decide +kernel
theorem dX7_canExchange_65 : decode cX7_canExchange 65 = .ok (.getfield 114, 3) := by decide +kernel
theorem dX7_canExchange_68 : decode cX7_canExchange 68 = .ok (.invokevirtual 152, 3) := by decide +kernel
theorem dX7_canExchange_71 : decode cX7_canExchange 71 = .ok (.ifCond .eq 7, 3) := by decide +kernel
theorem dX7_canExchange_74 : decode cX7_canExchange 74 = .ok (.iconst 1, 1) := by decide +kernel
theorem dX7_canExchange_75 : decode cX7_canExchange 75 = .ok (.goto 4, 3) := by decide +kernel
theorem dX7_canExchange_78 : decode cX7_canExchange 78 = .ok (.iconst 0, 1) := by decide +kernel
theorem dX7_canExchange_79 : decode cX7_canExchange 79 = .ok (.ireturn, 1) := by decide +kernel
theorem dX7_putTrade_0 : decode cX7_putTrade 0 = .ok (.aload_n 0, 1) := by decide +kernel
theorem dX7_putTrade_1 : decode cX7_putTrade 1 = .ok (.getfield 38, 3) := by decide +kernel
theorem dX7_putTrade_4 : decode cX7_putTrade 4 = .ok (.iconst 5, 1) := by decide +kernel
theorem dX7_putTrade_5 : decode cX7_putTrade 5 = .ok (.if_icmp .lt 5, 3) := by decide +kernel
theorem dX7_putTrade_8 : decode cX7_putTrade 8 = .ok (.iconst (-1), 1) := by decide +kernel
theorem dX7_putTrade_9 : decode cX7_putTrade 9 = .ok (.ireturn, 1) := by decide +kernel
theorem dX7_putTrade_10 : decode cX7_putTrade 10 = .ok (.aload_n 0, 1) := by decide +kernel
theorem dX7_putTrade_11 : decode cX7_putTrade 11 = .ok (.getfield 11, 3) := by decide +kernel
theorem dX7_putTrade_14 : decode cX7_putTrade 14 = .ok (.aload_n 0, 1) := by decide +kernel
theorem dX7_putTrade_15 : decode cX7_putTrade 15 = .ok (.getfield 38, 3) := by decide +kernel
theorem dX7_putTrade_18 : decode cX7_putTrade 18 = .ok (.aaload, 1) := by decide +kernel
theorem dX7_putTrade_19 : decode cX7_putTrade 19 = .ok (.iconst 0, 1) := by decide +kernel
theorem dX7_putTrade_20 : decode cX7_putTrade 20 = .ok (.iload_n 1, 1) := by decide +kernel
theorem dX7_putTrade_21 : decode cX7_putTrade 21 = .ok (.iastore, 1) := by decide +kernel
theorem dX7_putTrade_22 : decode cX7_putTrade 22 = .ok (.aload_n 0, 1) := by decide +kernel
theorem dX7_putTrade_23 : decode cX7_putTrade 23 = .ok (.getfield 11, 3) := by decide +kernel
theorem dX7_putTrade_26 : decode cX7_putTrade 26 = .ok (.aload_n 0, 1) := by decide +kernel
theorem dX7_putTrade_27 : decode cX7_putTrade 27 = .ok (.getfield 38, 3) := by decide +kernel
theorem dX7_putTrade_30 : decode cX7_putTrade 30 = .ok (.aaload, 1) := by decide +kernel
theorem dX7_putTrade_31 : decode cX7_putTrade 31 = .ok (.iconst 1, 1) := by decide +kernel
theorem dX7_putTrade_32 : decode cX7_putTrade 32 = .ok (.iload_n 2, 1) := by decide +kernel
theorem dX7_putTrade_33 : decode cX7_putTrade 33 = .ok (.iastore, 1) := by decide +kernel
theorem dX7_putTrade_34 : decode cX7_putTrade 34 = .ok (.aload_n 0, 1) := by decide +kernel
theorem dX7_putTrade_35 : decode cX7_putTrade 35 = .ok (.getfield 11, 3) := by decide +kernel
theorem dX7_putTrade_38 : decode cX7_putTrade 38 = .ok (.aload_n 0, 1) := by decide +kernel
theorem dX7_putTrade_39 : decode cX7_putTrade 39 = .ok (.getfield 38, 3) := by decide +kernel
theorem dX7_putTrade_42 : decode cX7_putTrade 42 = .ok (.aaload, 1) := by decide +kernel
theorem dX7_putTrade_43 : decode cX7_putTrade 43 = .ok (.iconst 2, 1) := by decide +kernel
theorem dX7_putTrade_44 : decode cX7_putTrade 44 = .ok (.iload_n 3, 1) := by decide +kernel
theorem dX7_putTrade_45 : decode cX7_putTrade 45 = .ok (.iastore, 1) := by decide +kernel
theorem dX7_putTrade_46 : decode cX7_putTrade 46 = .ok (.aload_n 0, 1) := by decide +kernel
theorem dX7_putTrade_47 : decode cX7_putTrade 47 = .ok (.dup, 1) := by decide +kernel
theorem dX7_putTrade_48 : decode cX7_putTrade 48 = .ok (.getfield 38, 3) := by decide +kernel
theorem dX7_putTrade_51 : decode cX7_putTrade 51 = .ok (.iconst 1, 1) := by decide +kernel
theorem dX7_putTrade_52 : decode cX7_putTrade 52 = .ok (.iadd, 1) := by decide +kernel
theorem dX7_putTrade_53 : decode cX7_putTrade 53 = .ok (.putfield 38, 3) := by decide +kernel
theorem dX7_putTrade_56 : decode cX7_putTrade 56 = .ok (.aload_n 0, 1) := by decide +kernel
theorem dX7_putTrade_57 : decode cX7_putTrade 57 = .ok (.getfield 38, 3) := by decide +kernel
theorem dX7_putTrade_60 : decode cX7_putTrade 60 = .ok (.iconst 1, 1) := by decide +kernel
theorem dX7_putTrade_61 : decode cX7_putTrade 61 = .ok (.isub, 1) := by decide +kernel
theorem dX7_putTrade_62 : decode cX7_putTrade 62 = .ok (.ireturn, 1) := by decide +kernel
theorem dX7_putMentor_0 : decode cX7_putMentor 0 = .ok (.aload_n 0, 1) := by decide +kernel
theorem dX7_putMentor_1 : decode cX7_putMentor 1 = .ok (.getfield 42, 3) := by decide +kernel
theorem dX7_putMentor_4 : decode cX7_putMentor 4 = .ok (.bipush 6, 2) := by decide +kernel
theorem dX7_putMentor_6 : decode cX7_putMentor 6 = .ok (.if_icmp .lt 5, 3) := by decide +kernel
theorem dX7_putMentor_9 : decode cX7_putMentor 9 = .ok (.iconst (-1), 1) := by decide +kernel
theorem dX7_putMentor_10 : decode cX7_putMentor 10 = .ok (.ireturn, 1) := by decide +kernel
theorem dX7_putMentor_11 : decode cX7_putMentor 11 = .ok (.aload_n 0, 1) := by decide +kernel
theorem dX7_putMentor_12 : decode cX7_putMentor 12 = .ok (.getfield 18, 3) := by decide +kernel
theorem dX7_putMentor_15 : decode cX7_putMentor 15 = .ok (.aload_n 0, 1) := by decide +kernel
theorem dX7_putMentor_16 : decode cX7_putMentor 16 = .ok (.getfield 42, 3) := by decide +kernel
theorem dX7_putMentor_19 : decode cX7_putMentor 19 = .ok (.aaload, 1) := by decide +kernel
theorem dX7_putMentor_20 : decode cX7_putMentor 20 = .ok (.iload_n 1, 1) := by decide +kernel
theorem dX7_putMentor_21 : decode cX7_putMentor 21 = .ok (.iload_n 2, 1) := by decide +kernel
theorem dX7_putMentor_22 : decode cX7_putMentor 22 = .ok (.invokevirtual 158, 3) := by decide +kernel
theorem dX7_putMentor_25 : decode cX7_putMentor 25 = .ok (.aload_n 0, 1) := by decide +kernel
theorem dX7_putMentor_26 : decode cX7_putMentor 26 = .ok (.dup, 1) := by decide +kernel
theorem dX7_putMentor_27 : decode cX7_putMentor 27 = .ok (.getfield 42, 3) := by decide +kernel
theorem dX7_putMentor_30 : decode cX7_putMentor 30 = .ok (.iconst 1, 1) := by decide +kernel
theorem dX7_putMentor_31 : decode cX7_putMentor 31 = .ok (.iadd, 1) := by decide +kernel
theorem dX7_putMentor_32 : decode cX7_putMentor 32 = .ok (.putfield 42, 3) := by decide +kernel
theorem dX7_putMentor_35 : decode cX7_putMentor 35 = .ok (.aload_n 0, 1) := by decide +kernel
theorem dX7_putMentor_36 : decode cX7_putMentor 36 = .ok (.getfield 42, 3) := by decide +kernel
theorem dX7_putMentor_39 : decode cX7_putMentor 39 = .ok (.iconst 1, 1) := by decide +kernel
theorem dX7_putMentor_40 : decode cX7_putMentor 40 = .ok (.isub, 1) := by decide +kernel
theorem dX7_putMentor_41 : decode cX7_putMentor 41 = .ok (.ireturn, 1) := by decide +kernel
theorem dX7_putApprentice_0 : decode cX7_putApprentice 0 = .ok (.aload_n 0, 1) := by decide +kernel
theorem dX7_putApprentice_1 : decode cX7_putApprentice 1 = .ok (.getfield 45, 3) := by decide +kernel
theorem dX7_putApprentice_4 : decode cX7_putApprentice 4 = .ok (.bipush 10, 2) := by decide +kernel
theorem dX7_putApprentice_6 : decode cX7_putApprentice 6 = .ok (.if_icmp .lt 5, 3) := by decide +kernel
theorem dX7_putApprentice_9 : decode cX7_putApprentice 9 = .ok (.iconst (-1), 1) := by decide +kernel
theorem dX7_putApprentice_10 : decode cX7_putApprentice 10 = .ok (.ireturn, 1) := by decide +kernel
theorem dX7_putApprentice_11 : decode cX7_putApprentice 11 = .ok (.aload_n 0, 1) := by decide +kernel
theorem dX7_putApprentice_12 : decode cX7_putApprentice 12 = .ok (.getfield 24, 3) := by decide +kernel
theorem dX7_putApprentice_15 : decode cX7_putApprentice 15 = .ok (.aload_n 0, 1) := by decide +kernel
theorem dX7_putApprentice_16 : decode cX7_putApprentice 16 = .ok (.getfield 45, 3) := by decide +kernel
theorem dX7_putApprentice_19 : decode cX7_putApprentice 19 = .ok (.aaload, 1) := by decide +kernel
theorem dX7_putApprentice_20 : decode cX7_putApprentice 20 = .ok (.iload_n 1, 1) := by decide +kernel
theorem dX7_putApprentice_21 : decode cX7_putApprentice 21 = .ok (.iload_n 2, 1) := by decide +kernel
theorem dX7_putApprentice_22 : decode cX7_putApprentice 22 = .ok (.invokevirtual 162, 3) := by decide +kernel
theorem dX7_putApprentice_25 : decode cX7_putApprentice 25 = .ok (.aload_n 0, 1) := by decide +kernel
theorem dX7_putApprentice_26 : decode cX7_putApprentice 26 = .ok (.dup, 1) := by decide +kernel
theorem dX7_putApprentice_27 : decode cX7_putApprentice 27 = .ok (.getfield 45, 3) := by decide +kernel
theorem dX7_putApprentice_30 : decode cX7_putApprentice 30 = .ok (.iconst 1, 1) := by decide +kernel
theorem dX7_putApprentice_31 : decode cX7_putApprentice 31 = .ok (.iadd, 1) := by decide +kernel
theorem dX7_putApprentice_32 : decode cX7_putApprentice 32 = .ok (.putfield 45, 3) := by decide +kernel
theorem dX7_putApprentice_35 : decode cX7_putApprentice 35 = .ok (.aload_n 0, 1) := by decide +kernel
theorem dX7_putApprentice_36 : decode cX7_putApprentice 36 = .ok (.getfield 45, 3) := by decide +kernel
theorem dX7_putApprentice_39 : decode cX7_putApprentice 39 = .ok (.iconst 1, 1) := by decide +kernel
theorem dX7_putApprentice_40 : decode cX7_putApprentice 40 = .ok (.isub, 1) := by decide +kernel
theorem dX7_putApprentice_41 : decode cX7_putApprentice 41 = .ok (.ireturn, 1) := by decide +kernel
theorem dX7_putRelease_0 : decode cX7_putRelease 0 = .ok (.aload_n 0, 1) := by decide +kernel
theorem dX7_putRelease_1 : decode cX7_putRelease 1 = .ok (.iload_n 1, 1) := by decide +kernel
theorem dX7_putRelease_2 : decode cX7_putRelease 2 = .ok (.invokevirtual 89, 3) := by decide +kernel
theorem dX7_putRelease_5 : decode cX7_putRelease 5 = .ok (.getfield 163, 3) := by decide +kernel
theorem dX7_putRelease_8 : decode cX7_putRelease 8 = .ok (.astore_n 3, 1) := by decide +kernel
theorem dX7_putRelease_9 : decode cX7_putRelease 9 = .ok (.aload_n 3, 1) := by decide +kernel
theorem dX7_putRelease_10 : decode cX7_putRelease 10 = .ok (.iload_n 2, 1) := by decide +kernel
theorem dX7_putRelease_11 : decode cX7_putRelease 11 = .ok (.invokevirtual 166, 3) := by decide +kernel
theorem dX7_putRelease_14 : decode cX7_putRelease 14 = .ok (.aload_n 3, 1) := by decide +kernel
theorem dX7_putRelease_15 : decode cX7_putRelease 15 = .ok (.getfield 170, 3) := by decide +kernel
theorem dX7_putRelease_18 : decode cX7_putRelease 18 = .ok (.ireturn, 1) := by decide +kernel
theorem dX7_putWork_0 : decode cX7_putWork 0 = .ok (.aload_n 0, 1) := by decide +kernel
theorem dX7_putWork_1 : decode cX7_putWork 1 = .ok (.iload_n 1, 1) := by decide +kernel
theorem dX7_putWork_2 : decode cX7_putWork 2 = .ok (.invokevirtual 89, 3) := by decide +kernel
theorem dX7_putWork_5 : decode cX7_putWork 5 = .ok (.astore 4, 2) := by decide +kernel
theorem dX7_putWork_7 : decode cX7_putWork 7 = .ok (.aload 4, 2) := by decide +kernel
theorem dX7_putWork_9 : decode cX7_putWork 9 = .ok (.iload_n 2, 1) := by decide +kernel
theorem dX7_putWork_10 : decode cX7_putWork 10 = .ok (.iload_n 3, 1) := by decide +kernel
theorem dX7_putWork_11 : decode cX7_putWork 11 = .ok (.aload_n 0, 1) := by decide +kernel
theorem dX7_putWork_12 : decode cX7_putWork 12 = .ok (.getfield 48, 3) := by decide +kernel
theorem dX7_putWork_15 : decode cX7_putWork 15 = .ok (.invokevirtual 171, 3) := by decide +kernel
theorem dX7_putWork_18 : decode cX7_putWork 18 = .ok (.aload 4, 2) := by decide +kernel
theorem dX7_putWork_20 : decode cX7_putWork 20 = .ok (.getfield 102, 3) := by decide +kernel
theorem dX7_putWork_23 : decode cX7_putWork 23 = .ok (.getfield 97, 3) := by decide +kernel
theorem dX7_putWork_26 : decode cX7_putWork 26 = .ok (.ireturn, 1) := by decide +kernel
theorem dX7_confirmPending_0 : decode cX7_confirmPending 0 = .ok (.iconst 0, 1) := by decide +kernel
theorem dX7_confirmPending_1 : decode cX7_confirmPending 1 = .ok (.istore_n 3, 1) := by decide +kernel
theorem dX7_confirmPending_2 : decode cX7_confirmPending 2 = .ok (.iconst 0, 1) := by decide +kernel
theorem dX7_confirmPending_3 : decode cX7_confirmPending 3 = .ok (.istore 4, 2) := by decide +kernel
theorem dX7_confirmPending_5 : decode cX7_confirmPending 5 = .ok (.iload 4, 2) := by decide +kernel
theorem dX7_confirmPending_7 : decode cX7_confirmPending 7 = .ok (.aload_n 0, 1) := by decide +kernel
theorem dX7_confirmPending_8 : decode cX7_confirmPending 8 = .ok (.getfield 45, 3) := by decide +kernel
theorem dX7_confirmPending_11 : decode cX7_confirmPending 11 = .ok (.if_icmp .ge 39, 3) := by decide +kernel
theorem dX7_confirmPending_14 : decode cX7_confirmPending 14 = .ok (.aload_n 0, 1) := by decide +kernel
theorem dX7_confirmPending_15 : decode cX7_confirmPending 15 = .ok (.getfield 24, 3) := by decide +kernel
theorem dX7_confirmPending_18 : decode cX7_confirmPending 18 = .ok (.iload 4, 2) := by decide +kernel
theorem dX7_confirmPending_20 : decode cX7_confirmPending 20 = .ok (.aaload, 1) := by decide +kernel
theorem dX7_confirmPending_21 : decode cX7_confirmPending 21 = .ok (.getfield 79, 3) := by decide +kernel
theorem dX7_confirmPending_24 : decode cX7_confirmPending 24 = .ok (.iload_n 1, 1) := by decide +kernel
theorem dX7_confirmPending_25 : decode cX7_confirmPending 25 = .ok (.if_icmp .ne 19, 3) := by decide +kernel
theorem dX7_confirmPending_28 : decode cX7_confirmPending 28 = .ok (.iload_n 3, 1) := by decide +kernel
theorem dX7_confirmPending_29 : decode cX7_confirmPending 29 = .ok (.aload_n 0, 1) := by decide +kernel
theorem dX7_confirmPending_30 : decode cX7_confirmPending 30 = .ok (.getfield 24, 3) := by decide +kernel
theorem dX7_confirmPending_33 : decode cX7_confirmPending 33 = .ok (.iload 4, 2) := by decide +kernel
theorem dX7_confirmPending_35 : decode cX7_confirmPending 35 = .ok (.aaload, 1) := by decide +kernel
theorem dX7_confirmPending_36 : decode cX7_confirmPending 36 = .ok (.iload_n 2, 1) := by decide +kernel
theorem dX7_confirmPending_37 : decode cX7_confirmPending 37 = .ok (.iload_n 3, 1) := by decide +kernel
theorem dX7_confirmPending_38 : decode cX7_confirmPending 38 = .ok (.isub, 1) := by decide +kernel
theorem dX7_confirmPending_39 : decode cX7_confirmPending 39 = .ok (.invokevirtual 175, 3) := by decide +kernel
theorem dX7_confirmPending_42 : decode cX7_confirmPending 42 = .ok (.iadd, 1) := by decide +kernel
theorem dX7_confirmPending_43 : decode cX7_confirmPending 43 = .ok (.istore_n 3, 1) := by decide +kernel
theorem dX7_confirmPending_44 : decode cX7_confirmPending 44 = .ok (.iinc 4 1, 3) := by decide +kernel
theorem dX7_confirmPending_47 : decode cX7_confirmPending 47 = .ok (.goto (-42), 3) := by decide +kernel
theorem dX7_confirmPending_50 : decode cX7_confirmPending 50 = .ok (.aload_n 0, 1) := by decide +kernel
theorem dX7_confirmPending_51 : decode cX7_confirmPending 51 = .ok (.iload_n 1, 1) := by decide +kernel
theorem dX7_confirmPending_52 : decode cX7_confirmPending 52 = .ok (.invokevirtual 72, 3) := by decide +kernel
theorem dX7_confirmPending_55 : decode cX7_confirmPending 55 = .ok (.dup, 1) := by decide +kernel
theorem dX7_confirmPending_56 : decode cX7_confirmPending 56 = .ok (.getfield 178, 3) := by decide +kernel
theorem dX7_confirmPending_59 : decode cX7_confirmPending 59 = .ok (.iload_n 3, 1) := by decide +kernel
theorem dX7_confirmPending_60 : decode cX7_confirmPending 60 = .ok (.iadd, 1) := by decide +kernel
theorem dX7_confirmPending_61 : decode cX7_confirmPending 61 = .ok (.putfield 178, 3) := by decide +kernel
theorem dX7_confirmPending_64 : decode cX7_confirmPending 64 = .ok (.iload_n 3, 1) := by decide +kernel
theorem dX7_confirmPending_65 : decode cX7_confirmPending 65 = .ok (.ireturn, 1) := by decide +kernel
theorem dX7_doubtOldest_0 : decode cX7_doubtOldest 0 = .ok (.aload_n 0, 1) := by decide +kernel
theorem dX7_doubtOldest_1 : decode cX7_doubtOldest 1 = .ok (.iload_n 1, 1) := by decide +kernel
theorem dX7_doubtOldest_2 : decode cX7_doubtOldest 2 = .ok (.invokevirtual 89, 3) := by decide +kernel
theorem dX7_doubtOldest_5 : decode cX7_doubtOldest 5 = .ok (.astore_n 2, 1) := by decide +kernel
theorem dX7_doubtOldest_6 : decode cX7_doubtOldest 6 = .ok (.aload_n 2, 1) := by decide +kernel
theorem dX7_doubtOldest_7 : decode cX7_doubtOldest 7 = .ok (.getfield 102, 3) := by decide +kernel
theorem dX7_doubtOldest_10 : decode cX7_doubtOldest 10 = .ok (.iconst 0, 1) := by decide +kernel
theorem dX7_doubtOldest_11 : decode cX7_doubtOldest 11 = .ok (.iconst 1, 1) := by decide +kernel
theorem dX7_doubtOldest_12 : decode cX7_doubtOldest 12 = .ok (.invokevirtual 146, 3) := by decide +kernel
theorem dX7_doubtOldest_15 : decode cX7_doubtOldest 15 = .ok (.istore_n 3, 1) := by decide +kernel
theorem dX7_doubtOldest_16 : decode cX7_doubtOldest 16 = .ok (.aload_n 2, 1) := by decide +kernel
theorem dX7_doubtOldest_17 : decode cX7_doubtOldest 17 = .ok (.iconst 0, 1) := by decide +kernel
theorem dX7_doubtOldest_18 : decode cX7_doubtOldest 18 = .ok (.invokevirtual 181, 3) := by decide +kernel
theorem dX7_doubtOldest_21 : decode cX7_doubtOldest 21 = .ok (.iload_n 3, 1) := by decide +kernel
theorem dX7_doubtOldest_22 : decode cX7_doubtOldest 22 = .ok (.ireturn, 1) := by decide +kernel
theorem dX7_settleOldest_0 : decode cX7_settleOldest 0 = .ok (.aload_n 0, 1) := by decide +kernel
theorem dX7_settleOldest_1 : decode cX7_settleOldest 1 = .ok (.iload_n 1, 1) := by decide +kernel
theorem dX7_settleOldest_2 : decode cX7_settleOldest 2 = .ok (.invokevirtual 89, 3) := by decide +kernel
theorem dX7_settleOldest_5 : decode cX7_settleOldest 5 = .ok (.astore_n 3, 1) := by decide +kernel
theorem dX7_settleOldest_6 : decode cX7_settleOldest 6 = .ok (.aload_n 3, 1) := by decide +kernel
theorem dX7_settleOldest_7 : decode cX7_settleOldest 7 = .ok (.getfield 93, 3) := by decide +kernel
theorem dX7_settleOldest_10 : decode cX7_settleOldest 10 = .ok (.iconst 0, 1) := by decide +kernel
theorem dX7_settleOldest_11 : decode cX7_settleOldest 11 = .ok (.iconst 1, 1) := by decide +kernel
theorem dX7_settleOldest_12 : decode cX7_settleOldest 12 = .ok (.invokevirtual 146, 3) := by decide +kernel
theorem dX7_settleOldest_15 : decode cX7_settleOldest 15 = .ok (.istore 4, 2) := by decide +kernel
theorem dX7_settleOldest_17 : decode cX7_settleOldest 17 = .ok (.iload_n 2, 1) := by decide +kernel
theorem dX7_settleOldest_18 : decode cX7_settleOldest 18 = .ok (.ifCond .eq 21, 3) := by decide +kernel
theorem dX7_settleOldest_21 : decode cX7_settleOldest 21 = .ok (.aload_n 3, 1) := by decide +kernel
theorem dX7_settleOldest_22 : decode cX7_settleOldest 22 = .ok (.aload_n 3, 1) := by decide +kernel
theorem dX7_settleOldest_23 : decode cX7_settleOldest 23 = .ok (.getfield 93, 3) := by decide +kernel
theorem dX7_settleOldest_26 : decode cX7_settleOldest 26 = .ok (.iconst 0, 1) := by decide +kernel
theorem dX7_settleOldest_27 : decode cX7_settleOldest 27 = .ok (.iconst 0, 1) := by decide +kernel
theorem dX7_settleOldest_28 : decode cX7_settleOldest 28 = .ok (.invokevirtual 146, 3) := by decide +kernel
theorem dX7_settleOldest_31 : decode cX7_settleOldest 31 = .ok (.iload 4, 2) := by decide +kernel
theorem dX7_settleOldest_33 : decode cX7_settleOldest 33 = .ok (.invokevirtual 184, 3) := by decide +kernel
theorem dX7_settleOldest_36 : decode cX7_settleOldest 36 = .ok (.goto 14, 3) := by decide +kernel
theorem dX7_settleOldest_39 : decode cX7_settleOldest 39 = .ok (.aload_n 3, 1) := by decide +kernel
theorem dX7_settleOldest_40 : decode cX7_settleOldest 40 = .ok (.dup, 1) := by decide +kernel
theorem dX7_settleOldest_41 : decode cX7_settleOldest 41 = .ok (.getfield 187, 3) := by decide +kernel
theorem dX7_settleOldest_44 : decode cX7_settleOldest 44 = .ok (.iload 4, 2) := by decide +kernel
theorem dX7_settleOldest_46 : decode cX7_settleOldest 46 = .ok (.iadd, 1) := by decide +kernel
theorem dX7_settleOldest_47 : decode cX7_settleOldest 47 = .ok (.putfield 187, 3) := by decide +kernel
theorem dX7_settleOldest_50 : decode cX7_settleOldest 50 = .ok (.aload_n 3, 1) := by decide +kernel
theorem dX7_settleOldest_51 : decode cX7_settleOldest 51 = .ok (.getfield 93, 3) := by decide +kernel
theorem dX7_settleOldest_54 : decode cX7_settleOldest 54 = .ok (.iconst 0, 1) := by decide +kernel
theorem dX7_settleOldest_55 : decode cX7_settleOldest 55 = .ok (.invokevirtual 190, 3) := by decide +kernel
theorem dX7_settleOldest_58 : decode cX7_settleOldest 58 = .ok (.iload 4, 2) := by decide +kernel
theorem dX7_settleOldest_60 : decode cX7_settleOldest 60 = .ok (.ireturn, 1) := by decide +kernel
theorem dX7_putCredit_0 : decode cX7_putCredit 0 = .ok (.aload_n 0, 1) := by decide +kernel
theorem dX7_putCredit_1 : decode cX7_putCredit 1 = .ok (.iload_n 1, 1) := by decide +kernel
theorem dX7_putCredit_2 : decode cX7_putCredit 2 = .ok (.invokevirtual 89, 3) := by decide +kernel
theorem dX7_putCredit_5 : decode cX7_putCredit 5 = .ok (.iload_n 2, 1) := by decide +kernel
theorem dX7_putCredit_6 : decode cX7_putCredit 6 = .ok (.iload_n 3, 1) := by decide +kernel
theorem dX7_putCredit_7 : decode cX7_putCredit 7 = .ok (.invokevirtual 184, 3) := by decide +kernel
theorem dX7_putCredit_10 : decode cX7_putCredit 10 = .ok (.aload_n 0, 1) := by decide +kernel
theorem dX7_putCredit_11 : decode cX7_putCredit 11 = .ok (.iload_n 1, 1) := by decide +kernel
theorem dX7_putCredit_12 : decode cX7_putCredit 12 = .ok (.invokevirtual 89, 3) := by decide +kernel
theorem dX7_putCredit_15 : decode cX7_putCredit 15 = .ok (.iload_n 2, 1) := by decide +kernel
theorem dX7_putCredit_16 : decode cX7_putCredit 16 = .ok (.invokevirtual 121, 3) := by decide +kernel
theorem dX7_putCredit_19 : decode cX7_putCredit 19 = .ok (.ireturn, 1) := by decide +kernel
theorem dX7_passDays_0 : decode cX7_passDays 0 = .ok (.iconst 0, 1) := by decide +kernel
theorem dX7_passDays_1 : decode cX7_passDays 1 = .ok (.istore_n 2, 1) := by decide +kernel
theorem dX7_passDays_2 : decode cX7_passDays 2 = .ok (.iconst 0, 1) := by decide +kernel
theorem dX7_passDays_3 : decode cX7_passDays 3 = .ok (.istore_n 3, 1) := by decide +kernel
theorem dX7_passDays_4 : decode cX7_passDays 4 = .ok (.iload_n 3, 1) := by decide +kernel
theorem dX7_passDays_5 : decode cX7_passDays 5 = .ok (.iload_n 1, 1) := by decide +kernel
theorem dX7_passDays_6 : decode cX7_passDays 6 = .ok (.if_icmp .ge 68, 3) := by decide +kernel
theorem dX7_passDays_9 : decode cX7_passDays 9 = .ok (.iconst 0, 1) := by decide +kernel
theorem dX7_passDays_10 : decode cX7_passDays 10 = .ok (.istore 4, 2) := by decide +kernel
theorem dX7_passDays_12 : decode cX7_passDays 12 = .ok (.iload 4, 2) := by decide +kernel
theorem dX7_passDays_14 : decode cX7_passDays 14 = .ok (.aload_n 0, 1) := by decide +kernel
theorem dX7_passDays_15 : decode cX7_passDays 15 = .ok (.getfield 45, 3) := by decide +kernel
theorem dX7_passDays_18 : decode cX7_passDays 18 = .ok (.if_icmp .ge 40, 3) := by decide +kernel
theorem dX7_passDays_21 : decode cX7_passDays 21 = .ok (.iload_n 2, 1) := by decide +kernel
theorem dX7_passDays_22 : decode cX7_passDays 22 = .ok (.aload_n 0, 1) := by decide +kernel
