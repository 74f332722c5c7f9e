theorem dX7_missingIn_3 : decode cX7_missingIn 3 = .ok (.iload_n 2, 1) := by decide +kernel
theorem dX7_missingIn_4 : decode cX7_missingIn 4 = .ok (.invokevirtual 117, 3) := by decide +kernel
theorem dX7_missingIn_7 : decode cX7_missingIn 7 = .ok (.aload_n 1, 1) := by decide +kernel
theorem dX7_missingIn_8 : decode cX7_missingIn 8 = .ok (.iload_n 2, 1) := by decide +kernel
theorem dX7_missingIn_9 : decode cX7_missingIn 9 = .ok (.invokevirtual 121, 3) := by decide +kernel
theorem dX7_missingIn_12 : decode cX7_missingIn 12 = .ok (.isub, 1) := by decide +kernel
theorem dX7_missingIn_13 : decode cX7_missingIn 13 = .ok (.invokestatic 124, 3) := by decide +kernel
theorem dX7_missingIn_16 : decode cX7_missingIn 16 = .ok (.ireturn, 1) := by decide +kernel
theorem dX7_isComplete_0 : decode cX7_isComplete 0 = .ok (.iconst 0, 1) := by decide +kernel
theorem dX7_isComplete_1 : decode cX7_isComplete 1 = .ok (.istore_n 2, 1) := by decide +kernel
theorem dX7_isComplete_2 : decode cX7_isComplete 2 = .ok (.iload_n 2, 1) := by decide +kernel
theorem dX7_isComplete_3 : decode cX7_isComplete 3 = .ok (.iconst 3, 1) := by decide +kernel
theorem dX7_isComplete_4 : decode cX7_isComplete 4 = .ok (.if_icmp .ge 20, 3) := by decide +kernel
theorem dX7_isComplete_7 : decode cX7_isComplete 7 = .ok (.aload_n 0, 1) := by decide +kernel
theorem dX7_isComplete_8 : decode cX7_isComplete 8 = .ok (.aload_n 1, 1) := by decide +kernel
theorem dX7_isComplete_9 : decode cX7_isComplete 9 = .ok (.iload_n 2, 1) := by decide +kernel
theorem dX7_isComplete_10 : decode cX7_isComplete 10 = .ok (.invokevirtual 130, 3) := by decide +kernel
theorem dX7_isComplete_13 : decode cX7_isComplete 13 = .ok (.ifCond .le 5, 3) := by decide +kernel
theorem dX7_isComplete_16 : decode cX7_isComplete 16 = .ok (.iconst 0, 1) := by decide +kernel
theorem dX7_isComplete_17 : decode cX7_isComplete 17 = .ok (.ireturn, 1) := by decide +kernel
theorem dX7_isComplete_18 : decode cX7_isComplete 18 = .ok (.iinc 2 1, 3) := by decide +kernel
theorem dX7_isComplete_21 : decode cX7_isComplete 21 = .ok (.goto (-19), 3) := by decide +kernel
theorem dX7_isComplete_24 : decode cX7_isComplete 24 = .ok (.iconst 1, 1) := by decide +kernel
theorem dX7_isComplete_25 : decode cX7_isComplete 25 = .ok (.ireturn, 1) := by decide +kernel
theorem dX7_canWork_0 : decode cX7_canWork 0 = .ok (.aload_n 0, 1) := by decide +kernel
theorem dX7_canWork_1 : decode cX7_canWork 1 = .ok (.iload_n 1, 1) := by decide +kernel
theorem dX7_canWork_2 : decode cX7_canWork 2 = .ok (.invokevirtual 89, 3) := by decide +kernel
theorem dX7_canWork_5 : decode cX7_canWork 5 = .ok (.aload_n 0, 1) := by decide +kernel
theorem dX7_canWork_6 : decode cX7_canWork 6 = .ok (.getfield 48, 3) := by decide +kernel
theorem dX7_canWork_9 : decode cX7_canWork 9 = .ok (.iload_n 2, 1) := by decide +kernel
theorem dX7_canWork_10 : decode cX7_canWork 10 = .ok (.invokevirtual 133, 3) := by decide +kernel
theorem dX7_canWork_13 : decode cX7_canWork 13 = .ok (.ireturn, 1) := by decide +kernel
theorem dX7_canConfirm_0 : decode cX7_canConfirm 0 = .ok (.iload_n 2, 1) := by decide +kernel
theorem dX7_canConfirm_1 : decode cX7_canConfirm 1 = .ok (.istore_n 3, 1) := by decide +kernel
theorem dX7_canConfirm_2 : decode cX7_canConfirm 2 = .ok (.iconst 0, 1) := by decide +kernel
theorem dX7_canConfirm_3 : decode cX7_canConfirm 3 = .ok (.istore 4, 2) := by decide +kernel
theorem dX7_canConfirm_5 : decode cX7_canConfirm 5 = .ok (.iload 4, 2) := by decide +kernel
theorem dX7_canConfirm_7 : decode cX7_canConfirm 7 = .ok (.aload_n 0, 1) := by decide +kernel
theorem dX7_canConfirm_8 : decode cX7_canConfirm 8 = .ok (.getfield 45, 3) := by decide +kernel
theorem dX7_canConfirm_11 : decode cX7_canConfirm 11 = .ok (.if_icmp .ge 54, 3) := by decide +kernel
theorem dX7_canConfirm_14 : decode cX7_canConfirm 14 = .ok (.aload_n 0, 1) := by decide +kernel
theorem dX7_canConfirm_15 : decode cX7_canConfirm 15 = .ok (.getfield 24, 3) := by decide +kernel
theorem dX7_canConfirm_18 : decode cX7_canConfirm 18 = .ok (.iload 4, 2) := by decide +kernel
theorem dX7_canConfirm_20 : decode cX7_canConfirm 20 = .ok (.aaload, 1) := by decide +kernel
theorem dX7_canConfirm_21 : decode cX7_canConfirm 21 = .ok (.astore 5, 2) := by decide +kernel
theorem dX7_canConfirm_23 : decode cX7_canConfirm 23 = .ok (.aload 5, 2) := by decide +kernel
theorem dX7_canConfirm_25 : decode cX7_canConfirm 25 = .ok (.getfield 79, 3) := by decide +kernel
theorem dX7_canConfirm_28 : decode cX7_canConfirm 28 = .ok (.iload_n 1, 1) := by decide +kernel
theorem dX7_canConfirm_29 : decode cX7_canConfirm 29 = .ok (.if_icmp .ne 30, 3) := by decide +kernel
theorem dX7_canConfirm_32 : decode cX7_canConfirm 32 = .ok (.aload 5, 2) := by decide +kernel
theorem dX7_canConfirm_34 : decode cX7_canConfirm 34 = .ok (.iload_n 3, 1) := by decide +kernel
theorem dX7_canConfirm_35 : decode cX7_canConfirm 35 = .ok (.invokevirtual 137, 3) := by decide +kernel
theorem dX7_canConfirm_38 : decode cX7_canConfirm 38 = .ok (.ifCond .ne 5, 3) := by decide +kernel
theorem dX7_canConfirm_41 : decode cX7_canConfirm 41 = .ok (.iconst 0, 1) := by decide +kernel
theorem dX7_canConfirm_42 : decode cX7_canConfirm 42 = .ok (.ireturn, 1) := by decide +kernel
theorem dX7_canConfirm_43 : decode cX7_canConfirm 43 = .ok (.iload_n 3, 1) := by decide +kernel
theorem dX7_canConfirm_44 : decode cX7_canConfirm 44 = .ok (.iload_n 3, 1) := by decide +kernel
theorem dX7_canConfirm_45 : decode cX7_canConfirm 45 = .ok (.aload 5, 2) := by decide +kernel
theorem dX7_canConfirm_47 : decode cX7_canConfirm 47 = .ok (.getfield 102, 3) := by decide +kernel
theorem dX7_canConfirm_50 : decode cX7_canConfirm 50 = .ok (.iload_n 1, 1) := by decide +kernel
theorem dX7_canConfirm_51 : decode cX7_canConfirm 51 = .ok (.invokevirtual 140, 3) := by decide +kernel
theorem dX7_canConfirm_54 : decode cX7_canConfirm 54 = .ok (.invokestatic 143, 3) := by decide +kernel
theorem dX7_canConfirm_57 : decode cX7_canConfirm 57 = .ok (.isub, 1) := by decide +kernel
theorem dX7_canConfirm_58 : decode cX7_canConfirm 58 = .ok (.istore_n 3, 1) := by decide +kernel
theorem dX7_canConfirm_59 : decode cX7_canConfirm 59 = .ok (.iinc 4 1, 3) := by decide +kernel
theorem dX7_canConfirm_62 : decode cX7_canConfirm 62 = .ok (.goto (-57), 3) := by decide +kernel
theorem dX7_canConfirm_65 : decode cX7_canConfirm 65 = .ok (.iconst 1, 1) := by decide +kernel
theorem dX7_canConfirm_66 : decode cX7_canConfirm 66 = .ok (.ireturn, 1) := by decide +kernel
theorem dX7_canSettle_0 : decode cX7_canSettle 0 = .ok (.aload_n 0, 1) := by decide +kernel
theorem dX7_canSettle_1 : decode cX7_canSettle 1 = .ok (.iload_n 1, 1) := by decide +kernel
theorem dX7_canSettle_2 : decode cX7_canSettle 2 = .ok (.invokevirtual 89, 3) := by decide +kernel
theorem dX7_canSettle_5 : decode cX7_canSettle 5 = .ok (.astore_n 3, 1) := by decide +kernel
theorem dX7_canSettle_6 : decode cX7_canSettle 6 = .ok (.aload_n 3, 1) := by decide +kernel
theorem dX7_canSettle_7 : decode cX7_canSettle 7 = .ok (.getfield 93, 3) := by decide +kernel
theorem dX7_canSettle_10 : decode cX7_canSettle 10 = .ok (.getfield 97, 3) := by decide +kernel
theorem dX7_canSettle_13 : decode cX7_canSettle 13 = .ok (.ifCond .eq 7, 3) := by decide +kernel
theorem dX7_canSettle_16 : decode cX7_canSettle 16 = .ok (.iload_n 2, 1) := by decide +kernel
theorem dX7_canSettle_17 : decode cX7_canSettle 17 = .ok (.ifCond .ne 19, 3) := by decide +kernel
theorem dX7_canSettle_20 : decode cX7_canSettle 20 = .ok (.aload_n 3, 1) := by decide +kernel
theorem dX7_canSettle_21 : decode cX7_canSettle 21 = .ok (.getfield 93, 3) := by decide +kernel
theorem dX7_canSettle_24 : decode cX7_canSettle 24 = .ok (.getfield 97, 3) := by decide +kernel
theorem dX7_canSettle_27 : decode cX7_canSettle 27 = .ok (.ifCond .le 7, 3) := by decide +kernel
theorem dX7_canSettle_30 : decode cX7_canSettle 30 = .ok (.iconst 1, 1) := by decide +kernel
theorem dX7_canSettle_31 : decode cX7_canSettle 31 = .ok (.goto 4, 3) := by decide +kernel
theorem dX7_canSettle_34 : decode cX7_canSettle 34 = .ok (.iconst 0, 1) := by decide +kernel
theorem dX7_canSettle_35 : decode cX7_canSettle 35 = .ok (.ireturn, 1) := by decide +kernel
theorem dX7_canSettle_36 : decode cX7_canSettle 36 = .ok (.aload_n 3, 1) := by decide +kernel
theorem dX7_canSettle_37 : decode cX7_canSettle 37 = .ok (.aload_n 3, 1) := by decide +kernel
theorem dX7_canSettle_38 : decode cX7_canSettle 38 = .ok (.getfield 93, 3) := by decide +kernel
theorem dX7_canSettle_41 : decode cX7_canSettle 41 = .ok (.iconst 0, 1) := by decide +kernel
theorem dX7_canSettle_42 : decode cX7_canSettle 42 = .ok (.iconst 0, 1) := by decide +kernel
theorem dX7_canSettle_43 : decode cX7_canSettle 43 = .ok (.invokevirtual 146, 3) := by decide +kernel
theorem dX7_canSettle_46 : decode cX7_canSettle 46 = .ok (.aload_n 3, 1) := by decide +kernel
theorem dX7_canSettle_47 : decode cX7_canSettle 47 = .ok (.getfield 93, 3) := by decide +kernel
theorem dX7_canSettle_50 : decode cX7_canSettle 50 = .ok (.iconst 0, 1) := by decide +kernel
theorem dX7_canSettle_51 : decode cX7_canSettle 51 = .ok (.iconst 1, 1) := by decide +kernel
theorem dX7_canSettle_52 : decode cX7_canSettle 52 = .ok (.invokevirtual 146, 3) := by decide +kernel
theorem dX7_canSettle_55 : decode cX7_canSettle 55 = .ok (.invokevirtual 149, 3) := by decide +kernel
theorem dX7_canSettle_58 : decode cX7_canSettle 58 = .ok (.ireturn, 1) := by decide +kernel
theorem dX7_canCredit_0 : decode cX7_canCredit 0 = .ok (.aload_n 0, 1) := by decide +kernel
theorem dX7_canCredit_1 : decode cX7_canCredit 1 = .ok (.iload_n 1, 1) := by decide +kernel
theorem dX7_canCredit_2 : decode cX7_canCredit 2 = .ok (.invokevirtual 89, 3) := by decide +kernel
theorem dX7_canCredit_5 : decode cX7_canCredit 5 = .ok (.iload_n 2, 1) := by decide +kernel
theorem dX7_canCredit_6 : decode cX7_canCredit 6 = .ok (.iload_n 3, 1) := by decide +kernel
theorem dX7_canCredit_7 : decode cX7_canCredit 7 = .ok (.invokevirtual 149, 3) := by decide +kernel
theorem dX7_canCredit_10 : decode cX7_canCredit 10 = .ok (.ireturn, 1) := by decide +kernel
theorem dX7_obstacle_0 : decode cX7_obstacle 0 = .ok (.aload_n 0, 1) := by decide +kernel
theorem dX7_obstacle_1 : decode cX7_obstacle 1 = .ok (.iload_n 1, 1) := by decide +kernel
theorem dX7_obstacle_2 : decode cX7_obstacle 2 = .ok (.invokevirtual 89, 3) := by decide +kernel
theorem dX7_obstacle_5 : decode cX7_obstacle 5 = .ok (.astore_n 3, 1) := by decide +kernel
theorem dX7_obstacle_6 : decode cX7_obstacle 6 = .ok (.aload_n 3, 1) := by decide +kernel
theorem dX7_obstacle_7 : decode cX7_obstacle 7 = .ok (.getfield 79, 3) := by decide +kernel
theorem dX7_obstacle_10 : decode cX7_obstacle 10 = .ok (.iload_n 2, 1) := by decide +kernel
theorem dX7_obstacle_11 : decode cX7_obstacle 11 = .ok (.if_icmp .ne 5, 3) := by decide +kernel
theorem dX7_obstacle_14 : decode cX7_obstacle 14 = .ok (.iconst 1, 1) := by decide +kernel
theorem dX7_obstacle_15 : decode cX7_obstacle 15 = .ok (.ireturn, 1) := by decide +kernel
theorem dX7_obstacle_16 : decode cX7_obstacle 16 = .ok (.aload_n 0, 1) := by decide +kernel
theorem dX7_obstacle_17 : decode cX7_obstacle 17 = .ok (.iload_n 2, 1) := by decide +kernel
theorem dX7_obstacle_18 : decode cX7_obstacle 18 = .ok (.aload_n 3, 1) := by decide +kernel
theorem dX7_obstacle_19 : decode cX7_obstacle 19 = .ok (.getfield 114, 3) := by decide +kernel
theorem dX7_obstacle_22 : decode cX7_obstacle 22 = .ok (.invokevirtual 152, 3) := by decide +kernel
theorem dX7_obstacle_25 : decode cX7_obstacle 25 = .ok (.ifCond .ne 5, 3) := by decide +kernel
theorem dX7_obstacle_28 : decode cX7_obstacle 28 = .ok (.iconst 2, 1) := by decide +kernel
theorem dX7_obstacle_29 : decode cX7_obstacle 29 = .ok (.ireturn, 1) := by decide +kernel
theorem dX7_obstacle_30 : decode cX7_obstacle 30 = .ok (.aload_n 0, 1) := by decide +kernel
theorem dX7_obstacle_31 : decode cX7_obstacle 31 = .ok (.iload_n 2, 1) := by decide +kernel
theorem dX7_obstacle_32 : decode cX7_obstacle 32 = .ok (.invokevirtual 155, 3) := by decide +kernel
theorem dX7_obstacle_35 : decode cX7_obstacle 35 = .ok (.ifCond .eq 7, 3) := by decide +kernel
theorem dX7_obstacle_38 : decode cX7_obstacle 38 = .ok (.iconst 3, 1) := by decide +kernel
theorem dX7_obstacle_39 : decode cX7_obstacle 39 = .ok (.goto 4, 3) := by decide +kernel
theorem dX7_obstacle_42 : decode cX7_obstacle 42 = .ok (.iconst 0, 1) := by decide +kernel
theorem dX7_obstacle_43 : decode cX7_obstacle 43 = .ok (.ireturn, 1) := by decide +kernel
theorem dX7_canExchange_0 : decode cX7_canExchange 0 = .ok (.aload_n 0, 1) := by decide +kernel
theorem dX7_canExchange_1 : decode cX7_canExchange 1 = .ok (.iload_n 1, 1) := by decide +kernel
theorem dX7_canExchange_2 : decode cX7_canExchange 2 = .ok (.invokevirtual 89, 3) := by decide +kernel
theorem dX7_canExchange_5 : decode cX7_canExchange 5 = .ok (.astore_n 3, 1) := by decide +kernel
theorem dX7_canExchange_6 : decode cX7_canExchange 6 = .ok (.aload_n 0, 1) := by decide +kernel
theorem dX7_canExchange_7 : decode cX7_canExchange 7 = .ok (.iload_n 2, 1) := by decide +kernel
theorem dX7_canExchange_8 : decode cX7_canExchange 8 = .ok (.invokevirtual 89, 3) := by decide +kernel
theorem dX7_canExchange_11 : decode cX7_canExchange 11 = .ok (.astore 4, 2) := by decide +kernel
theorem dX7_canExchange_13 : decode cX7_canExchange 13 = .ok (.aload_n 3, 1) := by decide +kernel
theorem dX7_canExchange_14 : decode cX7_canExchange 14 = .ok (.getfield 79, 3) := by decide +kernel
theorem dX7_canExchange_17 : decode cX7_canExchange 17 = .ok (.iconst (-1), 1) := by decide +kernel
theorem dX7_canExchange_18 : decode cX7_canExchange 18 = .ok (.if_icmp .eq 60, 3) := by decide +kernel
theorem dX7_canExchange_21 : decode cX7_canExchange 21 = .ok (.aload 4, 2) := by decide +kernel
theorem dX7_canExchange_23 : decode cX7_canExchange 23 = .ok (.getfield 79, 3) := by decide +kernel
theorem dX7_canExchange_26 : decode cX7_canExchange 26 = .ok (.iconst (-1), 1) := by decide +kernel
theorem dX7_canExchange_27 : decode cX7_canExchange 27 = .ok (.if_icmp .eq 51, 3) := by decide +kernel
theorem dX7_canExchange_30 : decode cX7_canExchange 30 = .ok (.aload_n 3, 1) := by decide +kernel
theorem dX7_canExchange_31 : decode cX7_canExchange 31 = .ok (.getfield 79, 3) := by decide +kernel
theorem dX7_canExchange_34 : decode cX7_canExchange 34 = .ok (.aload 4, 2) := by decide +kernel
theorem dX7_canExchange_36 : decode cX7_canExchange 36 = .ok (.getfield 79, 3) := by decide +kernel
theorem dX7_canExchange_39 : decode cX7_canExchange 39 = .ok (.if_icmp .eq 39, 3) := by decide +kernel
theorem dX7_canExchange_42 : decode cX7_canExchange 42 = .ok (.aload_n 0, 1) := by decide +kernel
theorem dX7_canExchange_43 : decode cX7_canExchange 43 = .ok (.aload_n 3, 1) := by decide +kernel
theorem dX7_canExchange_44 : decode cX7_canExchange 44 = .ok (.getfield 79, 3) := by decide +kernel
theorem dX7_canExchange_47 : decode cX7_canExchange 47 = .ok (.aload 4, 2) := by decide +kernel
theorem dX7_canExchange_49 : decode cX7_canExchange 49 = .ok (.getfield 114, 3) := by decide +kernel
theorem dX7_canExchange_52 : decode cX7_canExchange 52 = .ok (.invokevirtual 152, 3) := by decide +kernel
theorem dX7_canExchange_55 : decode cX7_canExchange 55 = .ok (.ifCond .eq 23, 3) := by decide +kernel
theorem dX7_canExchange_58 : decode cX7_canExchange 58 = .ok (.aload_n 0, 1) := by decide +kernel
theorem dX7_canExchange_59 : decode cX7_canExchange 59 = .ok (.aload 4, 2) := by decide +kernel
theorem dX7_canExchange_61 : decode cX7_canExchange 61 = .ok (.getfield 79, 3) := by decide +kernel
theorem dX7_canExchange_64 : decode cX7_canExchange 64 = .ok (.aload_n 3, 1) := by decide +kernel
theorem dX7_canExchange_65 : decode cX7_canExchange 65 = .ok (.getfield 114, 3) := by decide +kernel
theorem dX7_canExchange_68 : decode cX7_canExchange 68 = .ok (.invokevirtual 152, 3) := by decide +kernel
theorem dX7_canExchange_71 : decode cX7_canExchange 71 = .ok (.ifCond .eq 7, 3) := by decide +kernel
theorem dX7_canExchange_74 : decode cX7_canExchange 74 = .ok (.iconst 1, 1) := by decide +kernel
theorem dX7_canExchange_75 : decode cX7_canExchange 75 = .ok (.goto 4, 3) := by decide +kernel
theorem dX7_canExchange_78 : decode cX7_canExchange 78 = .ok (.iconst 0, 1) := by decide +kernel
theorem dX7_canExchange_79 : decode cX7_canExchange 79 = .ok (.ireturn, 1) := by decide +kernel
theorem dX7_putTrade_0 : decode cX7_putTrade 0 = .ok (.aload_n 0, 1) := by decide +kernel
theorem dX7_putTrade_1 : decode cX7_putTrade 1 = .ok (.getfield 38, 3) := by decide +kernel
theorem dX7_putTrade_4 : decode cX7_putTrade 4 = .ok (.iconst 5, 1) := by decide +kernel
theorem dX7_putTrade_5 : decode cX7_putTrade 5 = .ok (.if_icmp .lt 5, 3) := by decide +kernel
theorem dX7_putTrade_8 : decode cX7_putTrade 8 = .ok (.iconst (-1), 1) := by decide +kernel
theorem dX7_putTrade_9 : decode cX7_putTrade 9 = .ok (.ireturn, 1) := by decide +kernel
theorem dX7_putTrade_10 : decode cX7_putTrade 10 = .ok (.aload_n 0, 1) := by decide +kernel
theorem dX7_putTrade_11 : decode cX7_putTrade 11 = .ok (.getfield 11, 3) := by decide +kernel
theorem dX7_putTrade_14 : decode cX7_putTrade 14 = .ok (.aload_n 0, 1) := by decide +kernel
theorem dX7_putTrade_15 : decode cX7_putTrade 15 = .ok (.getfield 38, 3) := by decide +kernel
theorem dX7_putTrade_18 : decode cX7_putTrade 18 = .ok (.aaload, 1) := by decide +kernel
theorem dX7_putTrade_19 : decode cX7_putTrade 19 = .ok (.iconst 0, 1) := by decide +kernel
theorem dX7_putTrade_20 : decode cX7_putTrade 20 = .ok (.iload_n 1, 1) := by decide +kernel
theorem dX7_putTrade_21 : decode cX7_putTrade 21 = .ok (.iastore, 1) := by decide +kernel
theorem dX7_putTrade_22 : decode cX7_putTrade 22 = .ok (.aload_n 0, 1) := by decide +kernel
theorem dX7_putTrade_23 : decode cX7_putTrade 23 = .ok (.getfield 11, 3) := by decide +kernel
theorem dX7_putTrade_26 : decode cX7_putTrade 26 = .ok (.aload_n 0, 1) := by decide +kernel
theorem dX7_putTrade_27 : decode cX7_putTrade 27 = .ok (.getfield 38, 3) := by decide +kernel
theorem dX7_putTrade_30 : decode cX7_putTrade 30 = .ok (.aaload, 1) := by decide +kernel
theorem dX7_putTrade_31 : decode cX7_putTrade 31 = .ok (.iconst 1, 1) := by decide +kernel
theorem dX7_putTrade_32 : decode cX7_putTrade 32 = .ok (.iload_n 2, 1) := by decide +kernel
theorem dX7_putTrade_33 : decode cX7_putTrade 33 = .ok (.iastore, 1) := by decide +kernel
theorem dX7_putTrade_34 : decode cX7_putTrade 34 = .ok (.aload_n 0, 1) := by decide +kernel
theorem dX7_putTrade_35 : decode cX7_putTrade 35 = .ok (.getfield 11, 3) := by decide +kernel
theorem dX7_putTrade_38 : decode cX7_putTrade 38 = .ok (.aload_n 0, 1) := by decide +kernel
theorem dX7_putTrade_39 : decode cX7_putTrade 39 = .ok (.getfield 38, 3) := by decide +kernel
theorem dX7_putTrade_42 : decode cX7_putTrade 42 = .ok (.aaload, 1) := by decide +kernel
theorem dX7_putTrade_43 : decode cX7_putTrade 43 = .ok (.iconst 2, 1) := by decide +kernel
theorem dX7_putTrade_44 : decode cX7_putTrade 44 = .ok (.iload_n 3, 1) := by decide +kernel
theorem dX7_putTrade_45 : decode cX7_putTrade 45 = .ok (.iastore, 1) := by decide +kernel
theorem dX7_putTrade_46 : decode cX7_putTrade 46 = .ok (.aload_n 0, 1) := by decide +kernel
theorem dX7_putTrade_47 : decode cX7_putTrade 47 = .ok (.dup, 1) := by decide +kernel
theorem dX7_putTrade_48 : decode cX7_putTrade 48 = .ok (.getfield 38, 3) := by decide +kernel
theorem dX7_putTrade_51 : decode cX7_putTrade 51 = .ok (.iconst 1, 1) := by decide +kernel
theorem dX7_putTrade_52 : decode cX7_putTrade 52 = .ok (.iadd, 1) := by decide +kernel
theorem dX7_putTrade_53 : decode cX7_putTrade 53 = .ok (.putfield 38, 3) := by decide +kernel
theorem dX7_putTrade_56 : decode cX7_putTrade 56 = .ok (.aload_n 0, 1) := by decide +kernel
theorem dX7_putTrade_57 : decode cX7_putTrade 57 = .ok (.getfield 38, 3) := by decide +kernel
theorem dX7_putTrade_60 : decode cX7_putTrade 60 = .ok (.iconst 1, 1) := by decide +kernel
theorem dX7_putTrade_61 : decode cX7_putTrade 61 = .ok (.isub, 1) := by decide +kernel
theorem dX7_putTrade_62 : decode cX7_putTrade 62 = .ok (.ireturn, 1) := by decide +kernel
theorem dX7_putMentor_0 : decode cX7_putMentor 0 = .ok (.aload_n 0, 1) := by decide +kernel
theorem dX7_putMentor_1 : decode cX7_putMentor 1 = .ok (.getfield 42, 3) := by decide +kernel
theorem dX7_putMentor_4 : decode cX7_putMentor 4 = .ok (.bipush 6, 2) := by decide +kernel
theorem dX7_putMentor_6 : decode cX7_putMentor 6 = .ok (.if_icmp .lt 5, 3) := by decide +kernel
theorem dX7_putMentor_9 : decode cX7_putMentor 9 = .ok (.iconst (-1), 1) := by decide +kernel
theorem dX7_putMentor_10 : decode cX7_putMentor 10 = .ok (.ireturn, 1) := by decide +kernel
theorem dX7_putMentor_11 : decode cX7_putMentor 11 = .ok (.aload_n 0, 1) := by decide +kernel
theorem dX7_putMentor_12 : decode cX7_putMentor 12 = .ok (.getfield 18, 3) := by decide +kernel
theorem dX7_putMentor_15 : decode cX7_putMentor 15 = .ok (.aload_n 0, 1) := by decide +kernel
theorem dX7_putMentor_16 : decode cX7_putMentor 16 = .ok (.getfield 42, 3) := by decide +kernel
theorem dX7_putMentor_19 : decode cX7_putMentor 19 = .ok (.aaload, 1) := by decide +kernel
theorem dX7_putMentor_20 : decode cX7_putMentor 20 = .ok (.iload_n 1, 1) := by decide +kernel
theorem dX7_putMentor_21 : decode cX7_putMentor 21 = .ok (.iload_n 2, 1) := by decide +kernel
theorem dX7_putMentor_22 : decode cX7_putMentor 22 = .ok (.invokevirtual 158, 3) := by decide +kernel
theorem dX7_putMentor_25 : decode cX7_putMentor 25 = .ok (.aload_n 0, 1) := by decide +kernel
theorem dX7_putMentor_26 : decode cX7_putMentor 26 = .ok (.dup, 1) := by decide +kernel
theorem dX7_putMentor_27 : decode cX7_putMentor 27 = .ok (.getfield 42, 3) := by decide +kernel
theorem dX7_putMentor_30 : decode cX7_putMentor 30 = .ok (.iconst 1, 1) := by decide +kernel
theorem dX7_putMentor_31 : decode cX7_putMentor 31 = .ok (.iadd, 1) := by decide +kernel
theorem dX7_putMentor_32 : decode cX7_putMentor 32 = .ok (.putfield 42, 3) := by decide +kernel
theorem dX7_putMentor_35 : decode cX7_putMentor 35 = .ok (.aload_n 0, 1) := by decide +kernel
theorem dX7_putMentor_36 : decode cX7_putMentor 36 = .ok (.getfield 42, 3) := by decide +kernel
theorem dX7_putMentor_39 : decode cX7_putMentor 39 = .ok (.iconst 1, 1) := by decide +kernel
theorem dX7_putMentor_40 : decode cX7_putMentor 40 = .ok (.isub, 1) := by decide +kernel
theorem dX7_putMentor_41 : decode cX7_putMentor 41 = .ok (.ireturn, 1) := by decide +kernel
theorem dX7_putApprentice_0 : decode cX7_putApprentice 0 = .ok (.aload_n 0, 1) := by decide +kernel
theorem dX7_putApprentice_1 : decode cX7_putApprentice 1 = .ok (.getfield 45, 3) := by decide +kernel
theorem dX7_putApprentice_4 : decode cX7_putApprentice 4 = .ok (.bipush 10, 2) := by decide +kernel
theorem dX7_putApprentice_6 : decode cX7_putApprentice 6 = .ok (.if_icmp .lt 5, 3) := by decide +kernel
theorem dX7_putApprentice_9 : decode cX7_putApprentice 9 = .ok (.iconst (-1), 1) := by decide +kernel
theorem dX7_putApprentice_10 : decode cX7_putApprentice 10 = .ok (.ireturn, 1) := by decide +kernel
theorem dX7_putApprentice_11 : decode cX7_putApprentice 11 = .ok (.aload_n 0, 1) := by decide +kernel
theorem dX7_putApprentice_12 : decode cX7_putApprentice 12 = .ok (.getfield 24, 3) := by decide +kernel
theorem dX7_putApprentice_15 : decode cX7_putApprentice 15 = .ok (.aload_n 0, 1) := by decide +kernel
theorem dX7_putApprentice_16 : decode cX7_putApprentice 16 = .ok (.getfield 45, 3) := by decide +kernel
theorem dX7_putApprentice_19 : decode cX7_putApprentice 19 = .ok (.aaload, 1) := by decide +kernel
theorem dX7_putApprentice_20 : decode cX7_putApprentice 20 = .ok (.iload_n 1, 1) := by decide +kernel
theorem dX7_putApprentice_21 : decode cX7_putApprentice 21 = .ok (.iload_n 2, 1) := by decide +kernel
theorem dX7_putApprentice_22 : decode cX7_putApprentice 22 = .ok (.invokevirtual 162, 3) := by decide +kernel
theorem dX7_putApprentice_25 : decode cX7_putApprentice 25 = .ok (.aload_n 0, 1) := by decide +kernel
theorem dX7_putApprentice_26 : decode cX7_putApprentice 26 = .ok (.dup, 1) := by decide +kernel
theorem dX7_putApprentice_27 : decode cX7_putApprentice 27 = .ok (.getfield 45, 3) := by decide +kernel
theorem dX7_putApprentice_30 : decode cX7_putApprentice 30 = .ok (.iconst 1, 1) := by decide +kernel
theorem dX7_putApprentice_31 : decode cX7_putApprentice 31 = .ok (.iadd, 1) := by decide +kernel
theorem dX7_putApprentice_32 : decode cX7_putApprentice 32 = .ok (.putfield 45, 3) := by decide +kernel
theorem dX7_putApprentice_35 : decode cX7_putApprentice 35 = .ok (.aload_n 0, 1) := by decide +kernel
theorem dX7_putApprentice_36 : decode cX7_putApprentice 36 = .ok (.getfield 45, 3) := by decide +kernel
theorem dX7_putApprentice_39 : decode cX7_putApprentice 39 = .ok (.iconst 1, 1) := by decide +kernel
theorem dX7_putApprentice_40 : decode cX7_putApprentice 40 = .ok (.isub, 1) := by decide +kernel
theorem dX7_putApprentice_41 : decode cX7_putApprentice 41 = .ok (.ireturn, 1) := by decide +kernel
theorem dX7_putRelease_0 : decode cX7_putRelease 0 = .ok (.aload_n 0, 1) := by decide +kernel
theorem dX7_putRelease_1 : decode cX7_putRelease 1 = .ok (.iload_n 1, 1) := by decide +kernel
theorem dX7_putRelease_2 : decode cX7_putRelease 2 = .ok (.invokevirtual 89, 3) := by decide +kernel
theorem dX7_putRelease_5 : decode cX7_putRelease 5 = .ok (.getfield 163, 3) := by decide +kernel
theorem dX7_putRelease_8 : decode cX7_putRelease 8 = .ok (.astore_n 3, 1) := by decide +kernel
theorem dX7_putRelease_9 : decode cX7_putRelease 9 = .ok (.aload_n 3, 1) := by decide +kernel
theorem dX7_putRelease_10 : decode cX7_putRelease 10 = .ok (.iload_n 2, 1) := by decide +kernel
theorem dX7_putRelease_11 : decode cX7_putRelease 11 = .ok (.invokevirtual 166, 3) := by decide +kernel
theorem dX7_putRelease_14 : decode cX7_putRelease 14 = .ok (.aload_n 3, 1) := by decide +kernel
theorem dX7_putRelease_15 : decode cX7_putRelease 15 = .ok (.getfield 170, 3) := by decide +kernel
theorem dX7_putRelease_18 : decode cX7_putRelease 18 = .ok (.ireturn, 1) := by decide +kernel
theorem dX7_putWork_0 : decode cX7_putWork 0 = .ok (.aload_n 0, 1) := by decide +kernel
theorem dX7_putWork_1 : decode cX7_putWork 1 = .ok (.iload_n 1, 1) := by decide +kernel
theorem dX7_putWork_2 : decode cX7_putWork 2 = .ok (.invokevirtual 89, 3) := by decide +kernel
theorem dX7_putWork_5 : decode cX7_putWork 5 = .ok (.astore 4, 2) := by decide +kernel
theorem dX7_putWork_7 : decode cX7_putWork 7 = .ok (.aload 4, 2) := by decide +kernel
theorem dX7_putWork_9 : decode cX7_putWork 9 = .ok (.iload_n 2, 1) := by decide +kernel
theorem dX7_putWork_10 : decode cX7_putWork 10 = .ok (.iload_n 3, 1) := by decide +kernel
theorem dX7_putWork_11 : decode cX7_putWork 11 = .ok (.aload_n 0, 1) := by decide +kernel
theorem dX7_putWork_12 : decode cX7_putWork 12 = .ok (.getfield 48, 3) := by decide +kernel
theorem dX7_putWork_15 : decode cX7_putWork 15 = .ok (.invokevirtual 171, 3) := by decide +kernel
theorem dX7_putWork_18 : decode cX7_putWork 18 = .ok (.aload 4, 2) := by decide +kernel
theorem dX7_putWork_20 : decode cX7_putWork 20 = .ok (.getfield 102, 3) := by decide +kernel
theorem dX7_putWork_23 : decode cX7_putWork 23 = .ok (.getfield 97, 3) := by decide +kernel
theorem dX7_putWork_26 : decode cX7_putWork 26 = .ok (.ireturn, 1) := by decide +kernel
theorem dX7_confirmPending_0 : decode cX7_confirmPending 0 = .ok (.iconst 0, 1) := by decide +kernel
theorem dX7_confirmPending_1 : decode cX7_confirmPending 1 = .ok (.istore_n 3, 1) := by decide +kernel
theorem dX7_confirmPending_2 : decode cX7_confirmPending 2 = .ok (.iconst 0, 1) := by decide +kernel
theorem dX7_confirmPending_3 : decode cX7_confirmPending 3 = .ok (.istore 4, 2) := by decide +kernel
theorem dX7_confirmPending_5 : decode cX7_confirmPending 5 = .ok (.iload 4, 2) := by decide +kernel
theorem dX7_confirmPending_7 : decode cX7_confirmPending 7 = .ok (.aload_n 0, 1) := by decide +kernel
theorem dX7_confirmPending_8 : decode cX7_confirmPending 8 = .ok (.getfield 45, 3) := by decide +kernel
theorem dX7_confirmPending_11 : decode cX7_confirmPending 11 = .ok (.if_icmp .ge 39, 3) := by decide +kernel
theorem dX7_confirmPending_14 : decode cX7_confirmPending 14 = .ok (.aload_n 0, 1) := by decide +kernel
theorem dX7_confirmPending_15 : decode cX7_confirmPending 15 = .ok (.getfield 24, 3) := by decide +kernel
theorem dX7_confirmPending_18 : decode cX7_confirmPending 18 = .ok (.iload 4, 2) := by decide +kernel
theorem dX7_confirmPending_20 : decode cX7_confirmPending 20 = .ok (.aaload, 1) := by decide +kernel
theorem dX7_confirmPending_21 : decode cX7_confirmPending 21 = .ok (.getfield 79, 3) := by decide +kernel
theorem dX7_confirmPending_24 : decode cX7_confirmPending 24 = .ok (.iload_n 1, 1) := by decide +kernel
theorem dX7_confirmPending_25 : decode cX7_confirmPending 25 = .ok (.if_icmp .ne 19, 3) := by decide +kernel
theorem dX7_confirmPending_28 : decode cX7_confirmPending 28 = .ok (.iload_n 3, 1) := by decide +kernel
theorem dX7_confirmPending_29 : decode cX7_confirmPending 29 = .ok (.aload_n 0, 1) := by decide +kernel
theorem dX7_confirmPending_30 : decode cX7_confirmPending 30 = .ok (.getfield 24, 3) := by decide +kernel
theorem dX7_confirmPending_33 : decode cX7_confirmPending 33 = .ok (.iload 4, 2) := by decide +kernel
theorem dX7_confirmPending_35 : decode cX7_confirmPending 35 = .ok (.aaload, 1) := by decide +kernel
theorem dX7_confirmPending_36 : decode cX7_confirmPending 36 = .ok (.iload_n 2, 1) := by decide +kernel
theorem dX7_confirmPending_37 : decode cX7_confirmPending 37 = .ok (.iload_n 3, 1) := by decide +kernel
theorem dX7_confirmPending_38 : decode cX7_confirmPending 38 = .ok (.isub, 1) := by decide +kernel
theorem dX7_confirmPending_39 : decode cX7_confirmPending 39 = .ok (.invokevirtual 175, 3) := by decide +kernel
theorem dX7_confirmPending_42 : decode cX7_confirmPending 42 = .ok (.iadd, 1) := by decide +kernel
theorem dX7_confirmPending_43 : decode cX7_confirmPending 43 = .ok (.istore_n 3, 1) := by decide +kernel
theorem dX7_confirmPending_44 : decode cX7_confirmPending 44 = .ok (.iinc 4 1, 3) := by decide +kernel
theorem dX7_confirmPending_47 : decode cX7_confirmPending 47 = .ok (.goto (-42), 3) := by decide +kernel
theorem dX7_confirmPending_50 : decode cX7_confirmPending 50 = .ok (.aload_n 0, 1) := by decide +kernel
theorem dX7_confirmPending_51 : decode cX7_confirmPending 51 = .ok (.iload_n 1, 1) := by decide +kernel
theorem dX7_confirmPending_52 : decode cX7_confirmPending 52 = .ok (.invokevirtual 72, 3) := by decide +kernel
theorem dX7_confirmPending_55 : decode cX7_confirmPending 55 = .ok (.dup, 1) := by decide +kernel
theorem dX7_confirmPending_56 : decode cX7_confirmPending 56 = .ok (.getfield 178, 3) := by decide +kernel
theorem dX7_confirmPending_59 : decode cX7_confirmPending 59 = .ok (.iload_n 3, 1) := by decide +kernel
theorem dX7_confirmPending_60 : decode cX7_confirmPending 60 = .ok (.iadd, 1) := by decide +kernel
theorem dX7_confirmPending_61 : decode cX7_confirmPending 61 = .ok (.putfield 178, 3) := by decide +kernel
theorem dX7_confirmPending_64 : decode cX7_confirmPending 64 = .ok (.iload_n 3, 1) := by decide +kernel
theorem dX7_confirmPending_65 : decode cX7_confirmPending 65 = .ok (.ireturn, 1) := by decide +kernel
theorem dX7_doubtOldest_0 : decode cX7_doubtOldest 0 = .ok (.aload_n 0, 1) := by decide +kernel
theorem dX7_doubtOldest_1 : decode cX7_doubtOldest 1 = .ok (.iload_n 1, 1) := by decide +kernel
theorem dX7_doubtOldest_2 : decode cX7_doubtOldest 2 = .ok (.invokevirtual 89, 3) := by decide +kernel
theorem dX7_doubtOldest_5 : decode cX7_doubtOldest 5 = .ok (.astore_n 2, 1) := by decide +kernel
theorem dX7_doubtOldest_6 : decode cX7_doubtOldest 6 = .ok (.aload_n 2, 1) := by decide +kernel
theorem dX7_doubtOldest_7 : decode cX7_doubtOldest 7 = .ok (.getfield 102, 3) := by decide +kernel
theorem dX7_doubtOldest_10 : decode cX7_doubtOldest 10 = .ok (.iconst 0, 1) := by decide +kernel
theorem dX7_doubtOldest_11 : decode cX7_doubtOldest 11 = .ok (.iconst 1, 1) := by decide +kernel
theorem dX7_doubtOldest_12 : decode cX7_doubtOldest 12 = .ok (.invokevirtual 146, 3) := by decide +kernel
theorem dX7_doubtOldest_15 : decode cX7_doubtOldest 15 = .ok (.istore_n 3, 1) := by decide +kernel
theorem dX7_doubtOldest_16 : decode cX7_doubtOldest 16 = .ok (.aload_n 2, 1) := by decide +kernel
theorem dX7_doubtOldest_17 : decode cX7_doubtOldest 17 = .ok (.iconst 0, 1) := by decide +kernel
theorem dX7_doubtOldest_18 : decode cX7_doubtOldest 18 = .ok (.invokevirtual 181, 3) := by decide +kernel
theorem dX7_doubtOldest_21 : decode cX7_doubtOldest 21 = .ok (.iload_n 3, 1) := by decide +kernel
theorem dX7_doubtOldest_22 : decode cX7_doubtOldest 22 = .ok (.ireturn, 1) := by decide +kernel
theorem dX7_settleOldest_0 : decode cX7_settleOldest 0 = .ok (.aload_n 0, 1) := by decide +kernel
theorem dX7_settleOldest_1 : decode cX7_settleOldest 1 = .ok (.iload_n 1, 1) := by decide +kernel
theorem dX7_settleOldest_2 : decode cX7_settleOldest 2 = .ok (.invokevirtual 89, 3) := by decide +kernel
theorem dX7_settleOldest_5 : decode cX7_settleOldest 5 = .ok (.astore_n 3, 1) := by decide +kernel
theorem dX7_settleOldest_6 : decode cX7_settleOldest 6 = .ok (.aload_n 3, 1) := by decide +kernel
theorem dX7_settleOldest_7 : decode cX7_settleOldest 7 = .ok (.getfield 93, 3) := by decide +kernel
theorem dX7_settleOldest_10 : decode cX7_settleOldest 10 = .ok (.iconst 0, 1) := by decide +kernel
theorem dX7_settleOldest_11 : decode cX7_settleOldest 11 = .ok (.iconst 1, 1) := by decide +kernel
theorem dX7_settleOldest_12 : decode cX7_settleOldest 12 = .ok (.invokevirtual 146, 3) := by decide +kernel
theorem dX7_settleOldest_15 : decode cX7_settleOldest 15 = .ok (.istore 4, 2) := by decide +kernel
theorem dX7_settleOldest_17 : decode cX7_settleOldest 17 = .ok (.iload_n 2, 1) := by decide +kernel
theorem dX7_settleOldest_18 : decode cX7_settleOldest 18 = .ok (.ifCond .eq 21, 3) := by decide +kernel
theorem dX7_settleOldest_21 : decode cX7_settleOldest 21 = .ok (.aload_n 3, 1) := by decide +kernel
theorem dX7_settleOldest_22 : decode cX7_settleOldest 22 = .ok (.aload_n 3, 1) := by decide +kernel
theorem dX7_settleOldest_23 : decode cX7_settleOldest 23 = .ok (.getfield 93, 3) := by decide +kernel
theorem dX7_settleOldest_26 : decode cX7_settleOldest 26 = .ok (.iconst 0, 1) := by decide +kernel
theorem dX7_settleOldest_27 : decode cX7_settleOldest 27 = .ok (.iconst 0, 1) := by decide +kernel
theorem dX7_settleOldest_28 : decode cX7_settleOldest 28 = .ok (.invokevirtual 146, 3) := by decide +kernel
theorem dX7_settleOldest_31 : decode cX7_settleOldest 31 = .ok (.iload 4, 2) := by decide +kernel
theorem dX7_settleOldest_33 : decode cX7_settleOldest 33 = .ok (.invokevirtual 184, 3) := by decide +kernel
theorem dX7_settleOldest_36 : decode cX7_settleOldest 36 = .ok (.goto 14, 3) := by decide +kernel
theorem dX7_settleOldest_39 : decode cX7_settleOldest 39 = .ok (.aload_n 3, 1) := by decide +kernel
theorem dX7_settleOldest_40 : decode cX7_settleOldest 40 = .ok (.dup, 1) := by decide +kernel
theorem dX7_settleOldest_41 : decode cX7_settleOldest 41 = .ok (.getfield 187, 3) := by decide +kernel
theorem dX7_settleOldest_44 : decode cX7_settleOldest 44 = .ok (.iload 4, 2) := by decide +kernel
theorem dX7_settleOldest_46 : decode cX7_settleOldest 46 = .ok (.iadd, 1) := by decide +kernel
theorem dX7_settleOldest_47 : decode cX7_settleOldest 47 = .ok (.putfield 187, 3) := by decide +kernel
theorem dX7_settleOldest_50 : decode cX7_settleOldest 50 = .ok (.aload_n 3, 1) := by decide +kernel
theorem dX7_settleOldest_51 : decode cX7_settleOldest 51 = .ok (.getfield 93, 3) := by decide +kernel
theorem dX7_settleOldest_54 : decode cX7_settleOldest 54 = .ok (.iconst 0, 1) := by decide +kernel
theorem dX7_settleOldest_55 : decode cX7_settleOldest 55 = .ok (.invokevirtual 190, 3) := by decide +kernel
theorem dX7_settleOldest_58 : decode cX7_settleOldest 58 = .ok (.iload 4, 2) := by decide +kernel
theorem dX7_settleOldest_60 : decode cX7_settleOldest 60 = .ok (.ireturn, 1) := by decide +kernel
theorem dX7_putCredit_0 : decode cX7_putCredit 0 = .ok (.aload_n 0, 1) := by decide +kernel
theorem dX7_putCredit_1 : decode cX7_putCredit 1 = .ok (.iload_n 1, 1) := by decide +kernel
theorem dX7_putCredit_2 : decode cX7_putCredit 2 = .ok (.invokevirtual 89, 3) := by decide +kernel
theorem dX7_putCredit_5 : decode cX7_putCredit 5 = .ok (.iload_n 2, 1) := by decide +kernel
theorem dX7_putCredit_6 : decode cX7_putCredit 6 = .ok (.iload_n 3, 1) := by decide +kernel
theorem dX7_putCredit_7 : decode cX7_putCredit 7 = .ok (.invokevirtual 184, 3) := by decide +kernel
theorem dX7_putCredit_10 : decode cX7_putCredit 10 = .ok (.aload_n 0, 1) := by decide +kernel
theorem dX7_putCredit_11 : decode cX7_putCredit 11 = .ok (.iload_n 1, 1) := by decide +kernel
theorem dX7_putCredit_12 : decode cX7_putCredit 12 = .ok (.invokevirtual 89, 3) := by decide +kernel
theorem dX7_putCredit_15 : decode cX7_putCredit 15 = .ok (.iload_n 2, 1) := by decide +kernel
theorem dX7_putCredit_16 : decode cX7_putCredit 16 = .ok (.invokevirtual 121, 3) := by decide +kernel
theorem dX7_putCredit_19 : decode cX7_putCredit 19 = .ok (.ireturn, 1) := by decide +kernel
theorem dX7_passDays_0 : decode cX7_passDays 0 = .ok (.iconst 0, 1) := by decide +kernel
theorem dX7_passDays_1 : decode cX7_passDays 1 = .ok (.istore_n 2, 1) := by decide +kernel
theorem dX7_passDays_2 : decode cX7_passDays 2 = .ok (.iconst 0, 1) := by decide +kernel
theorem dX7_passDays_3 : decode cX7_passDays 3 = .ok (.istore_n 3, 1) := by decide +kernel
theorem dX7_passDays_4 : decode cX7_passDays 4 = .ok (.iload_n 3, 1) := by decide +kernel
theorem dX7_passDays_5 : decode cX7_passDays 5 = .ok (.iload_n 1, 1) := by decide +kernel
theorem dX7_passDays_6 : decode cX7_passDays 6 = .ok (.if_icmp .ge 68, 3) := by decide +kernel
theorem dX7_passDays_9 : decode cX7_passDays 9 = .ok (.iconst 0, 1) := by decide +kernel
theorem dX7_passDays_10 : decode cX7_passDays 10 = .ok (.istore 4, 2) := by decide +kernel
theorem dX7_passDays_12 : decode cX7_passDays 12 = .ok (.iload 4, 2) := by decide +kernel
theorem dX7_passDays_14 : decode cX7_passDays 14 = .ok (.aload_n 0, 1) := by decide +kernel
theorem dX7_passDays_15 : decode cX7_passDays 15 = .ok (.getfield 45, 3) := by decide +kernel
theorem dX7_passDays_18 : decode cX7_passDays 18 = .ok (.if_icmp .ge 40, 3) := by decide +kernel
theorem dX7_passDays_21 : decode cX7_passDays 21 = .ok (.iload_n 2, 1) := by decide +kernel
theorem dX7_passDays_22 : decode cX7_passDays 22 = .ok (.aload_n 0, 1) := by decide +kernel
theorem dX7_passDays_23 : decode cX7_passDays 23 = .ok (.getfield 24, 3) := by decide +kernel
theorem dX7_passDays_26 : decode cX7_passDays 26 = .ok (.iload 4, 2) := by decide +kernel
theorem dX7_passDays_28 : decode cX7_passDays 28 = .ok (.aaload, 1) := by decide +kernel
theorem dX7_passDays_29 : decode cX7_passDays 29 = .ok (.aload_n 0, 1) := by decide +kernel
theorem dX7_passDays_30 : decode cX7_passDays 30 = .ok (.getfield 48, 3) := by decide +kernel
theorem dX7_passDays_33 : decode cX7_passDays 33 = .ok (.bipush 14, 2) := by decide +kernel
theorem dX7_passDays_35 : decode cX7_passDays 35 = .ok (.isub, 1) := by decide +kernel
theorem dX7_passDays_36 : decode cX7_passDays 36 = .ok (.invokevirtual 193, 3) := by decide +kernel
theorem dX7_passDays_39 : decode cX7_passDays 39 = .ok (.iadd, 1) := by decide +kernel
theorem dX7_passDays_40 : decode cX7_passDays 40 = .ok (.istore_n 2, 1) := by decide +kernel
theorem dX7_passDays_41 : decode cX7_passDays 41 = .ok (.aload_n 0, 1) := by decide +kernel
theorem dX7_passDays_42 : decode cX7_passDays 42 = .ok (.getfield 24, 3) := by decide +kernel
theorem dX7_passDays_45 : decode cX7_passDays 45 = .ok (.iload 4, 2) := by decide +kernel
theorem dX7_passDays_47 : decode cX7_passDays 47 = .ok (.aaload, 1) := by decide +kernel
theorem dX7_passDays_48 : decode cX7_passDays 48 = .ok (.iconst 0, 1) := by decide +kernel
theorem dX7_passDays_49 : decode cX7_passDays 49 = .ok (.putfield 196, 3) := by decide +kernel
theorem dX7_passDays_52 : decode cX7_passDays 52 = .ok (.iinc 4 1, 3) := by decide +kernel
theorem dX7_passDays_55 : decode cX7_passDays 55 = .ok (.goto (-43), 3) := by decide +kernel
theorem dX7_passDays_58 : decode cX7_passDays 58 = .ok (.aload_n 0, 1) := by decide +kernel
theorem dX7_passDays_59 : decode cX7_passDays 59 = .ok (.dup, 1) := by decide +kernel
theorem dX7_passDays_60 : decode cX7_passDays 60 = .ok (.getfield 48, 3) := by decide +kernel
theorem dX7_passDays_63 : decode cX7_passDays 63 = .ok (.iconst 1, 1) := by decide +kernel
theorem dX7_passDays_64 : decode cX7_passDays 64 = .ok (.iadd, 1) := by decide +kernel
theorem dX7_passDays_65 : decode cX7_passDays 65 = .ok (.putfield 48, 3) := by decide +kernel
theorem dX7_passDays_68 : decode cX7_passDays 68 = .ok (.iinc 3 1, 3) := by decide +kernel
theorem dX7_passDays_71 : decode cX7_passDays 71 = .ok (.goto (-67), 3) := by decide +kernel
theorem dX7_passDays_74 : decode cX7_passDays 74 = .ok (.iload_n 2, 1) := by decide +kernel
theorem dX7_passDays_75 : decode cX7_passDays 75 = .ok (.ireturn, 1) := by decide +kernel
theorem dX7_moveTo_0 : decode cX7_moveTo 0 = .ok (.aload_n 0, 1) := by decide +kernel
theorem dX7_moveTo_1 : decode cX7_moveTo 1 = .ok (.iload_n 1, 1) := by decide +kernel
theorem dX7_moveTo_2 : decode cX7_moveTo 2 = .ok (.invokevirtual 89, 3) := by decide +kernel
theorem dX7_moveTo_5 : decode cX7_moveTo 5 = .ok (.iload_n 2, 1) := by decide +kernel
theorem dX7_moveTo_6 : decode cX7_moveTo 6 = .ok (.invokevirtual 199, 3) := by decide +kernel
theorem dX7_moveTo_9 : decode cX7_moveTo 9 = .ok (.ireturn, 1) := by decide +kernel
theorem dX7_takeFromMentor_0 : decode cX7_takeFromMentor 0 = .ok (.aload_n 0, 1) := by decide +kernel
theorem dX7_takeFromMentor_1 : decode cX7_takeFromMentor 1 = .ok (.iload_n 1, 1) := by decide +kernel
theorem dX7_takeFromMentor_2 : decode cX7_takeFromMentor 2 = .ok (.invokevirtual 89, 3) := by decide +kernel
theorem dX7_takeFromMentor_5 : decode cX7_takeFromMentor 5 = .ok (.getfield 79, 3) := by decide +kernel
theorem dX7_takeFromMentor_8 : decode cX7_takeFromMentor 8 = .ok (.istore_n 2, 1) := by decide +kernel
theorem dX7_takeFromMentor_9 : decode cX7_takeFromMentor 9 = .ok (.aload_n 0, 1) := by decide +kernel
theorem dX7_takeFromMentor_10 : decode cX7_takeFromMentor 10 = .ok (.iload_n 1, 1) := by decide +kernel
theorem dX7_takeFromMentor_11 : decode cX7_takeFromMentor 11 = .ok (.invokevirtual 89, 3) := by decide +kernel
theorem dX7_takeFromMentor_14 : decode cX7_takeFromMentor 14 = .ok (.iconst (-1), 1) := by decide +kernel
theorem dX7_takeFromMentor_15 : decode cX7_takeFromMentor 15 = .ok (.putfield 79, 3) := by decide +kernel
theorem dX7_takeFromMentor_18 : decode cX7_takeFromMentor 18 = .ok (.iload_n 2, 1) := by decide +kernel
theorem dX7_takeFromMentor_19 : decode cX7_takeFromMentor 19 = .ok (.ireturn, 1) := by decide +kernel
theorem dX7_exchangeBoth_0 : decode cX7_exchangeBoth 0 = .ok (.aload_n 0, 1) := by decide +kernel
theorem dX7_exchangeBoth_1 : decode cX7_exchangeBoth 1 = .ok (.iload_n 1, 1) := by decide +kernel
theorem dX7_exchangeBoth_2 : decode cX7_exchangeBoth 2 = .ok (.invokevirtual 89, 3) := by decide +kernel
theorem dX7_exchangeBoth_5 : decode cX7_exchangeBoth 5 = .ok (.getfield 79, 3) := by decide +kernel
theorem dX7_exchangeBoth_8 : decode cX7_exchangeBoth 8 = .ok (.istore_n 3, 1) := by decide +kernel
theorem dX7_exchangeBoth_9 : decode cX7_exchangeBoth 9 = .ok (.aload_n 0, 1) := by decide +kernel
theorem dX7_exchangeBoth_10 : decode cX7_exchangeBoth 10 = .ok (.iload_n 1, 1) := by decide +kernel
theorem dX7_exchangeBoth_11 : decode cX7_exchangeBoth 11 = .ok (.invokevirtual 89, 3) := by decide +kernel
theorem dX7_exchangeBoth_14 : decode cX7_exchangeBoth 14 = .ok (.aload_n 0, 1) := by decide +kernel
theorem dX7_exchangeBoth_15 : decode cX7_exchangeBoth 15 = .ok (.iload_n 2, 1) := by decide +kernel
theorem dX7_exchangeBoth_16 : decode cX7_exchangeBoth 16 = .ok (.invokevirtual 89, 3) := by decide +kernel
theorem dX7_exchangeBoth_19 : decode cX7_exchangeBoth 19 = .ok (.getfield 79, 3) := by decide +kernel
theorem dX7_exchangeBoth_22 : decode cX7_exchangeBoth 22 = .ok (.invokevirtual 199, 3) := by decide +kernel
theorem dX7_exchangeBoth_25 : decode cX7_exchangeBoth 25 = .ok (.istore 4, 2) := by decide +kernel
theorem dX7_exchangeBoth_27 : decode cX7_exchangeBoth 27 = .ok (.iload 4, 2) := by decide +kernel
theorem dX7_exchangeBoth_29 : decode cX7_exchangeBoth 29 = .ok (.aload_n 0, 1) := by decide +kernel
theorem dX7_exchangeBoth_30 : decode cX7_exchangeBoth 30 = .ok (.iload_n 2, 1) := by decide +kernel
theorem dX7_exchangeBoth_31 : decode cX7_exchangeBoth 31 = .ok (.invokevirtual 89, 3) := by decide +kernel
theorem dX7_exchangeBoth_34 : decode cX7_exchangeBoth 34 = .ok (.iload_n 3, 1) := by decide +kernel
theorem dX7_exchangeBoth_35 : decode cX7_exchangeBoth 35 = .ok (.invokevirtual 199, 3) := by decide +kernel
theorem dX7_exchangeBoth_38 : decode cX7_exchangeBoth 38 = .ok (.iadd, 1) := by decide +kernel
theorem dX7_exchangeBoth_39 : decode cX7_exchangeBoth 39 = .ok (.ireturn, 1) := by decide +kernel
theorem dX7_mentorValue_0 : decode cX7_mentorValue 0 = .ok (.iload_n 2, 1) := by decide +kernel
theorem dX7_mentorValue_1 : decode cX7_mentorValue 1 = .ok (.tableswitch 61 0 3 #[31, 40, 49, 55], 31) := by decide +kernel
theorem dX7_mentorValue_32 : decode cX7_mentorValue 32 = .ok (.aload_n 0, 1) := by decide +kernel
theorem dX7_mentorValue_33 : decode cX7_mentorValue 33 = .ok (.iload_n 1, 1) := by decide +kernel
theorem dX7_mentorValue_34 : decode cX7_mentorValue 34 = .ok (.invokevirtual 72, 3) := by decide +kernel
theorem dX7_mentorValue_37 : decode cX7_mentorValue 37 = .ok (.getfield 86, 3) := by decide +kernel
theorem dX7_mentorValue_40 : decode cX7_mentorValue 40 = .ok (.ireturn, 1) := by decide +kernel
theorem dX7_mentorValue_41 : decode cX7_mentorValue 41 = .ok (.aload_n 0, 1) := by decide +kernel
theorem dX7_mentorValue_42 : decode cX7_mentorValue 42 = .ok (.iload_n 1, 1) := by decide +kernel
theorem dX7_mentorValue_43 : decode cX7_mentorValue 43 = .ok (.invokevirtual 72, 3) := by decide +kernel
theorem dX7_mentorValue_46 : decode cX7_mentorValue 46 = .ok (.getfield 76, 3) := by decide +kernel
theorem dX7_mentorValue_49 : decode cX7_mentorValue 49 = .ok (.ireturn, 1) := by decide +kernel
theorem dX7_mentorValue_50 : decode cX7_mentorValue 50 = .ok (.aload_n 0, 1) := by decide +kernel
theorem dX7_mentorValue_51 : decode cX7_mentorValue 51 = .ok (.iload_n 1, 1) := by decide +kernel
theorem dX7_mentorValue_52 : decode cX7_mentorValue 52 = .ok (.invokevirtual 82, 3) := by decide +kernel
theorem dX7_mentorValue_55 : decode cX7_mentorValue 55 = .ok (.ireturn, 1) := by decide +kernel
theorem dX7_mentorValue_56 : decode cX7_mentorValue 56 = .ok (.aload_n 0, 1) := by decide +kernel
theorem dX7_mentorValue_57 : decode cX7_mentorValue 57 = .ok (.iload_n 1, 1) := by decide +kernel
theorem dX7_mentorValue_58 : decode cX7_mentorValue 58 = .ok (.invokevirtual 202, 3) := by decide +kernel
theorem dX7_mentorValue_61 : decode cX7_mentorValue 61 = .ok (.ireturn, 1) := by decide +kernel
theorem dX7_mentorValue_62 : decode cX7_mentorValue 62 = .ok (.aload_n 0, 1) := by decide +kernel
theorem dX7_mentorValue_63 : decode cX7_mentorValue 63 = .ok (.iload_n 1, 1) := by decide +kernel
theorem dX7_mentorValue_64 : decode cX7_mentorValue 64 = .ok (.invokevirtual 72, 3) := by decide +kernel
theorem dX7_mentorValue_67 : decode cX7_mentorValue 67 = .ok (.getfield 178, 3) := by decide +kernel
theorem dX7_mentorValue_70 : decode cX7_mentorValue 70 = .ok (.ireturn, 1) := by decide +kernel
theorem dX7_pendingWith_0 : decode cX7_pendingWith 0 = .ok (.iconst 0, 1) := by decide +kernel
theorem dX7_pendingWith_1 : decode cX7_pendingWith 1 = .ok (.istore_n 2, 1) := by decide +kernel
theorem dX7_pendingWith_2 : decode cX7_pendingWith 2 = .ok (.iconst 0, 1) := by decide +kernel
theorem dX7_pendingWith_3 : decode cX7_pendingWith 3 = .ok (.istore_n 3, 1) := by decide +kernel
theorem dX7_pendingWith_4 : decode cX7_pendingWith 4 = .ok (.iload_n 3, 1) := by decide +kernel
theorem dX7_pendingWith_5 : decode cX7_pendingWith 5 = .ok (.aload_n 0, 1) := by decide +kernel
theorem dX7_pendingWith_6 : decode cX7_pendingWith 6 = .ok (.getfield 45, 3) := by decide +kernel
theorem dX7_pendingWith_9 : decode cX7_pendingWith 9 = .ok (.if_icmp .ge 38, 3) := by decide +kernel
theorem dX7_pendingWith_12 : decode cX7_pendingWith 12 = .ok (.aload_n 0, 1) := by decide +kernel
theorem dX7_pendingWith_13 : decode cX7_pendingWith 13 = .ok (.getfield 24, 3) := by decide +kernel
theorem dX7_pendingWith_16 : decode cX7_pendingWith 16 = .ok (.iload_n 3, 1) := by decide +kernel
theorem dX7_pendingWith_17 : decode cX7_pendingWith 17 = .ok (.aaload, 1) := by decide +kernel
theorem dX7_pendingWith_18 : decode cX7_pendingWith 18 = .ok (.getfield 79, 3) := by decide +kernel
theorem dX7_pendingWith_21 : decode cX7_pendingWith 21 = .ok (.iload_n 1, 1) := by decide +kernel
theorem dX7_pendingWith_22 : decode cX7_pendingWith 22 = .ok (.if_icmp .ne 19, 3) := by decide +kernel
theorem dX7_pendingWith_25 : decode cX7_pendingWith 25 = .ok (.iload_n 2, 1) := by decide +kernel
theorem dX7_pendingWith_26 : decode cX7_pendingWith 26 = .ok (.aload_n 0, 1) := by decide +kernel
theorem dX7_pendingWith_27 : decode cX7_pendingWith 27 = .ok (.getfield 24, 3) := by decide +kernel
theorem dX7_pendingWith_30 : decode cX7_pendingWith 30 = .ok (.iload_n 3, 1) := by decide +kernel
theorem dX7_pendingWith_31 : decode cX7_pendingWith 31 = .ok (.aaload, 1) := by decide +kernel
theorem dX7_pendingWith_32 : decode cX7_pendingWith 32 = .ok (.getfield 102, 3) := by decide +kernel
theorem dX7_pendingWith_35 : decode cX7_pendingWith 35 = .ok (.iload_n 1, 1) := by decide +kernel
theorem dX7_pendingWith_36 : decode cX7_pendingWith 36 = .ok (.invokevirtual 140, 3) := by decide +kernel
theorem dX7_pendingWith_39 : decode cX7_pendingWith 39 = .ok (.iadd, 1) := by decide +kernel
theorem dX7_pendingWith_40 : decode cX7_pendingWith 40 = .ok (.istore_n 2, 1) := by decide +kernel
theorem dX7_pendingWith_41 : decode cX7_pendingWith 41 = .ok (.iinc 3 1, 3) := by decide +kernel
theorem dX7_pendingWith_44 : decode cX7_pendingWith 44 = .ok (.goto (-40), 3) := by decide +kernel
theorem dX7_pendingWith_47 : decode cX7_pendingWith 47 = .ok (.iload_n 2, 1) := by decide +kernel
theorem dX7_pendingWith_48 : decode cX7_pendingWith 48 = .ok (.ireturn, 1) := by decide +kernel
theorem dX7_apprenticeValue_0 : decode cX7_apprenticeValue 0 = .ok (.aload_n 0, 1) := by decide +kernel
theorem dX7_apprenticeValue_1 : decode cX7_apprenticeValue 1 = .ok (.iload_n 1, 1) := by decide +kernel
theorem dX7_apprenticeValue_2 : decode cX7_apprenticeValue 2 = .ok (.invokevirtual 89, 3) := by decide +kernel
theorem dX7_apprenticeValue_5 : decode cX7_apprenticeValue 5 = .ok (.astore_n 3, 1) := by decide +kernel
theorem dX7_apprenticeValue_6 : decode cX7_apprenticeValue 6 = .ok (.iload_n 2, 1) := by decide +kernel
theorem dX7_apprenticeValue_7 : decode cX7_apprenticeValue 7 = .ok (.tableswitch 127 0 10 #[57, 62, 67, 75, 83, 91, 99, 104, 112, 117, 122], 57) := by decide +kernel
theorem dX7_apprenticeValue_64 : decode cX7_apprenticeValue 64 = .ok (.aload_n 3, 1) := by decide +kernel
theorem dX7_apprenticeValue_65 : decode cX7_apprenticeValue 65 = .ok (.getfield 114, 3) := by decide +kernel
theorem dX7_apprenticeValue_68 : decode cX7_apprenticeValue 68 = .ok (.ireturn, 1) := by decide +kernel
theorem dX7_apprenticeValue_69 : decode cX7_apprenticeValue 69 = .ok (.aload_n 3, 1) := by decide +kernel
theorem dX7_apprenticeValue_70 : decode cX7_apprenticeValue 70 = .ok (.getfield 79, 3) := by decide +kernel
theorem dX7_apprenticeValue_73 : decode cX7_apprenticeValue 73 = .ok (.ireturn, 1) := by decide +kernel
theorem dX7_apprenticeValue_74 : decode cX7_apprenticeValue 74 = .ok (.aload_n 3, 1) := by decide +kernel
theorem dX7_apprenticeValue_75 : decode cX7_apprenticeValue 75 = .ok (.getfield 102, 3) := by decide +kernel
theorem dX7_apprenticeValue_78 : decode cX7_apprenticeValue 78 = .ok (.getfield 97, 3) := by decide +kernel
theorem dX7_apprenticeValue_81 : decode cX7_apprenticeValue 81 = .ok (.ireturn, 1) := by decide +kernel
theorem dX7_apprenticeValue_82 : decode cX7_apprenticeValue 82 = .ok (.aload_n 3, 1) := by decide +kernel
theorem dX7_apprenticeValue_83 : decode cX7_apprenticeValue 83 = .ok (.getfield 93, 3) := by decide +kernel
theorem dX7_apprenticeValue_86 : decode cX7_apprenticeValue 86 = .ok (.getfield 97, 3) := by decide +kernel
theorem dX7_apprenticeValue_89 : decode cX7_apprenticeValue 89 = .ok (.ireturn, 1) := by decide +kernel
theorem dX7_apprenticeValue_90 : decode cX7_apprenticeValue 90 = .ok (.aload_n 3, 1) := by decide +kernel
theorem dX7_apprenticeValue_91 : decode cX7_apprenticeValue 91 = .ok (.getfield 102, 3) := by decide +kernel
theorem dX7_apprenticeValue_94 : decode cX7_apprenticeValue 94 = .ok (.invokevirtual 205, 3) := by decide +kernel
theorem dX7_apprenticeValue_97 : decode cX7_apprenticeValue 97 = .ok (.ireturn, 1) := by decide +kernel
theorem dX7_apprenticeValue_98 : decode cX7_apprenticeValue 98 = .ok (.aload_n 3, 1) := by decide +kernel
theorem dX7_apprenticeValue_99 : decode cX7_apprenticeValue 99 = .ok (.getfield 93, 3) := by decide +kernel
theorem dX7_apprenticeValue_102 : decode cX7_apprenticeValue 102 = .ok (.invokevirtual 205, 3) := by decide +kernel
theorem dX7_apprenticeValue_105 : decode cX7_apprenticeValue 105 = .ok (.ireturn, 1) := by decide +kernel
theorem dX7_apprenticeValue_106 : decode cX7_apprenticeValue 106 = .ok (.aload_n 3, 1) := by decide +kernel
theorem dX7_apprenticeValue_107 : decode cX7_apprenticeValue 107 = .ok (.getfield 187, 3) := by decide +kernel
theorem dX7_apprenticeValue_110 : decode cX7_apprenticeValue 110 = .ok (.ireturn, 1) := by decide +kernel
theorem dX7_apprenticeValue_111 : decode cX7_apprenticeValue 111 = .ok (.aload_n 3, 1) := by decide +kernel
theorem dX7_apprenticeValue_112 : decode cX7_apprenticeValue 112 = .ok (.getfield 163, 3) := by decide +kernel
theorem dX7_apprenticeValue_115 : decode cX7_apprenticeValue 115 = .ok (.getfield 170, 3) := by decide +kernel
theorem dX7_apprenticeValue_118 : decode cX7_apprenticeValue 118 = .ok (.ireturn, 1) := by decide +kernel
theorem dX7_apprenticeValue_119 : decode cX7_apprenticeValue 119 = .ok (.aload_n 3, 1) := by decide +kernel
theorem dX7_apprenticeValue_120 : decode cX7_apprenticeValue 120 = .ok (.getfield 209, 3) := by decide +kernel
theorem dX7_apprenticeValue_123 : decode cX7_apprenticeValue 123 = .ok (.ireturn, 1) := by decide +kernel
theorem dX7_apprenticeValue_124 : decode cX7_apprenticeValue 124 = .ok (.aload_n 3, 1) := by decide +kernel
theorem dX7_apprenticeValue_125 : decode cX7_apprenticeValue 125 = .ok (.getfield 196, 3) := by decide +kernel
theorem dX7_apprenticeValue_128 : decode cX7_apprenticeValue 128 = .ok (.ireturn, 1) := by decide +kernel
theorem dX7_apprenticeValue_129 : decode cX7_apprenticeValue 129 = .ok (.aload_n 3, 1) := by decide +kernel
theorem dX7_apprenticeValue_130 : decode cX7_apprenticeValue 130 = .ok (.getfield 212, 3) := by decide +kernel
theorem dX7_apprenticeValue_133 : decode cX7_apprenticeValue 133 = .ok (.ireturn, 1) := by decide +kernel
theorem dX7_apprenticeValue_134 : decode cX7_apprenticeValue 134 = .ok (.aload_n 0, 1) := by decide +kernel
theorem dX7_apprenticeValue_135 : decode cX7_apprenticeValue 135 = .ok (.aload_n 3, 1) := by decide +kernel
theorem dX7_apprenticeValue_136 : decode cX7_apprenticeValue 136 = .ok (.invokevirtual 215, 3) := by decide +kernel
theorem dX7_apprenticeValue_139 : decode cX7_apprenticeValue 139 = .ok (.ifCond .eq 7, 3) := by decide +kernel
theorem dX7_apprenticeValue_142 : decode cX7_apprenticeValue 142 = .ok (.iconst 1, 1) := by decide +kernel
theorem dX7_apprenticeValue_143 : decode cX7_apprenticeValue 143 = .ok (.goto 4, 3) := by decide +kernel
theorem dX7_apprenticeValue_146 : decode cX7_apprenticeValue 146 = .ok (.iconst 0, 1) := by decide +kernel
theorem dX7_apprenticeValue_147 : decode cX7_apprenticeValue 147 = .ok (.ireturn, 1) := by decide +kernel
theorem dX7_partValue_0 : decode cX7_partValue 0 = .ok (.aload_n 0, 1) := by decide +kernel
theorem dX7_partValue_1 : decode cX7_partValue 1 = .ok (.iload_n 1, 1) := by decide +kernel
theorem dX7_partValue_2 : decode cX7_partValue 2 = .ok (.invokevirtual 89, 3) := by decide +kernel
theorem dX7_partValue_5 : decode cX7_partValue 5 = .ok (.astore 4, 2) := by decide +kernel
theorem dX7_partValue_7 : decode cX7_partValue 7 = .ok (.iload_n 3, 1) := by decide +kernel
theorem dX7_partValue_8 : decode cX7_partValue 8 = .ok (.tableswitch 65 0 3 #[32, 40, 47, 55], 32) := by decide +kernel
theorem dX7_partValue_40 : decode cX7_partValue 40 = .ok (.aload_n 0, 1) := by decide +kernel
theorem dX7_partValue_41 : decode cX7_partValue 41 = .ok (.aload 4, 2) := by decide +kernel
theorem dX7_partValue_43 : decode cX7_partValue 43 = .ok (.iload_n 2, 1) := by decide +kernel
theorem dX7_partValue_44 : decode cX7_partValue 44 = .ok (.invokevirtual 117, 3) := by decide +kernel
theorem dX7_partValue_47 : decode cX7_partValue 47 = .ok (.ireturn, 1) := by decide +kernel
theorem dX7_partValue_48 : decode cX7_partValue 48 = .ok (.aload 4, 2) := by decide +kernel
theorem dX7_partValue_50 : decode cX7_partValue 50 = .ok (.iload_n 2, 1) := by decide +kernel
theorem dX7_partValue_51 : decode cX7_partValue 51 = .ok (.invokevirtual 121, 3) := by decide +kernel
theorem dX7_partValue_54 : decode cX7_partValue 54 = .ok (.ireturn, 1) := by decide +kernel
theorem dX7_partValue_55 : decode cX7_partValue 55 = .ok (.aload_n 0, 1) := by decide +kernel
theorem dX7_partValue_56 : decode cX7_partValue 56 = .ok (.aload 4, 2) := by decide +kernel
theorem dX7_partValue_58 : decode cX7_partValue 58 = .ok (.iload_n 2, 1) := by decide +kernel
theorem dX7_partValue_59 : decode cX7_partValue 59 = .ok (.invokevirtual 130, 3) := by decide +kernel
theorem dX7_partValue_62 : decode cX7_partValue 62 = .ok (.ireturn, 1) := by decide +kernel
theorem dX7_partValue_63 : decode cX7_partValue 63 = .ok (.aload 4, 2) := by decide +kernel
theorem dX7_partValue_65 : decode cX7_partValue 65 = .ok (.getfield 102, 3) := by decide +kernel
theorem dX7_partValue_68 : decode cX7_partValue 68 = .ok (.iload_n 2, 1) := by decide +kernel
theorem dX7_partValue_69 : decode cX7_partValue 69 = .ok (.invokevirtual 219, 3) := by decide +kernel
theorem dX7_partValue_72 : decode cX7_partValue 72 = .ok (.ireturn, 1) := by decide +kernel
theorem dX7_partValue_73 : decode cX7_partValue 73 = .ok (.aload 4, 2) := by decide +kernel
theorem dX7_partValue_75 : decode cX7_partValue 75 = .ok (.getfield 93, 3) := by decide +kernel
theorem dX7_partValue_78 : decode cX7_partValue 78 = .ok (.iload_n 2, 1) := by decide +kernel
theorem dX7_partValue_79 : decode cX7_partValue 79 = .ok (.invokevirtual 219, 3) := by decide +kernel
theorem dX7_partValue_82 : decode cX7_partValue 82 = .ok (.ireturn, 1) := by decide +kernel
theorem dX7_entryValue_0 : decode cX7_entryValue 0 = .ok (.aload_n 0, 1) := by decide +kernel
theorem dX7_entryValue_1 : decode cX7_entryValue 1 = .ok (.iload_n 1, 1) := by decide +kernel
theorem dX7_entryValue_2 : decode cX7_entryValue 2 = .ok (.invokevirtual 89, 3) := by decide +kernel
theorem dX7_entryValue_5 : decode cX7_entryValue 5 = .ok (.astore 5, 2) := by decide +kernel
theorem dX7_entryValue_7 : decode cX7_entryValue 7 = .ok (.iload_n 2, 1) := by decide +kernel
theorem dX7_entryValue_8 : decode cX7_entryValue 8 = .ok (.ifCond .eq 17, 3) := by decide +kernel
theorem dX7_entryValue_11 : decode cX7_entryValue 11 = .ok (.aload 5, 2) := by decide +kernel
theorem dX7_entryValue_13 : decode cX7_entryValue 13 = .ok (.getfield 93, 3) := by decide +kernel
theorem dX7_entryValue_16 : decode cX7_entryValue 16 = .ok (.iload_n 3, 1) := by decide +kernel
theorem dX7_entryValue_17 : decode cX7_entryValue 17 = .ok (.iload 4, 2) := by decide +kernel
theorem dX7_entryValue_19 : decode cX7_entryValue 19 = .ok (.invokevirtual 146, 3) := by decide +kernel
theorem dX7_entryValue_22 : decode cX7_entryValue 22 = .ok (.goto 14, 3) := by decide +kernel
theorem dX7_entryValue_25 : decode cX7_entryValue 25 = .ok (.aload 5, 2) := by decide +kernel
theorem dX7_entryValue_27 : decode cX7_entryValue 27 = .ok (.getfield 102, 3) := by decide +kernel
theorem dX7_entryValue_30 : decode cX7_entryValue 30 = .ok (.iload_n 3, 1) := by decide +kernel
theorem dX7_entryValue_31 : decode cX7_entryValue 31 = .ok (.iload 4, 2) := by decide +kernel
theorem dX7_entryValue_33 : decode cX7_entryValue 33 = .ok (.invokevirtual 146, 3) := by decide +kernel
theorem dX7_entryValue_36 : decode cX7_entryValue 36 = .ok (.ireturn, 1) := by decide +kernel
theorem dX7_wholeValue_0 : decode cX7_wholeValue 0 = .ok (.iload_n 1, 1) := by decide +kernel
theorem dX7_wholeValue_1 : decode cX7_wholeValue 1 = .ok (.tableswitch 73 0 7 #[47, 52, 57, 62, 73, 73, 73, 67], 47) := by decide +kernel
theorem dX7_wholeValue_48 : decode cX7_wholeValue 48 = .ok (.aload_n 0, 1) := by decide +kernel
theorem dX7_wholeValue_49 : decode cX7_wholeValue 49 = .ok (.getfield 38, 3) := by decide +kernel
theorem dX7_wholeValue_52 : decode cX7_wholeValue 52 = .ok (.ireturn, 1) := by decide +kernel
theorem dX7_wholeValue_53 : decode cX7_wholeValue 53 = .ok (.aload_n 0, 1) := by decide +kernel
theorem dX7_wholeValue_54 : decode cX7_wholeValue 54 = .ok (.getfield 42, 3) := by decide +kernel
theorem dX7_wholeValue_57 : decode cX7_wholeValue 57 = .ok (.ireturn, 1) := by decide +kernel
theorem dX7_wholeValue_58 : decode cX7_wholeValue 58 = .ok (.aload_n 0, 1) := by decide +kernel
theorem dX7_wholeValue_59 : decode cX7_wholeValue 59 = .ok (.getfield 45, 3) := by decide +kernel
theorem dX7_wholeValue_62 : decode cX7_wholeValue 62 = .ok (.ireturn, 1) := by decide +kernel
theorem dX7_wholeValue_63 : decode cX7_wholeValue 63 = .ok (.aload_n 0, 1) := by decide +kernel
theorem dX7_wholeValue_64 : decode cX7_wholeValue 64 = .ok (.getfield 48, 3) := by decide +kernel
theorem dX7_wholeValue_67 : decode cX7_wholeValue 67 = .ok (.ireturn, 1) := by decide +kernel
theorem dX7_wholeValue_68 : decode cX7_wholeValue 68 = .ok (.aload_n 0, 1) := by decide +kernel
theorem dX7_wholeValue_69 : decode cX7_wholeValue 69 = .ok (.iconst (-1), 1) := by decide +kernel
theorem dX7_wholeValue_70 : decode cX7_wholeValue 70 = .ok (.invokevirtual 82, 3) := by decide +kernel
theorem dX7_wholeValue_73 : decode cX7_wholeValue 73 = .ok (.ireturn, 1) := by decide +kernel
theorem dX7_wholeValue_74 : decode cX7_wholeValue 74 = .ok (.aload_n 0, 1) := by decide +kernel
theorem dX7_wholeValue_75 : decode cX7_wholeValue 75 = .ok (.iload_n 1, 1) := by decide +kernel
theorem dX7_wholeValue_76 : decode cX7_wholeValue 76 = .ok (.invokevirtual 222, 3) := by decide +kernel
theorem dX7_wholeValue_79 : decode cX7_wholeValue 79 = .ok (.ireturn, 1) := by decide +kernel
theorem dX7_sumOfApprentices_0 : decode cX7_sumOfApprentices 0 = .ok (.iconst 0, 1) := by decide +kernel
theorem dX7_sumOfApprentices_1 : decode cX7_sumOfApprentices 1 = .ok (.istore_n 2, 1) := by decide +kernel
theorem dX7_sumOfApprentices_2 : decode cX7_sumOfApprentices 2 = .ok (.iconst 0, 1) := by decide +kernel
theorem dX7_sumOfApprentices_3 : decode cX7_sumOfApprentices 3 = .ok (.istore_n 3, 1) := by decide +kernel
theorem dX7_sumOfApprentices_4 : decode cX7_sumOfApprentices 4 = .ok (.iload_n 3, 1) := by decide +kernel
theorem dX7_sumOfApprentices_5 : decode cX7_sumOfApprentices 5 = .ok (.aload_n 0, 1) := by decide +kernel
theorem dX7_sumOfApprentices_6 : decode cX7_sumOfApprentices 6 = .ok (.getfield 45, 3) := by decide +kernel
theorem dX7_sumOfApprentices_9 : decode cX7_sumOfApprentices 9 = .ok (.if_icmp .ge 101, 3) := by decide +kernel
theorem dX7_sumOfApprentices_12 : decode cX7_sumOfApprentices 12 = .ok (.aload_n 0, 1) := by decide +kernel
theorem dX7_sumOfApprentices_13 : decode cX7_sumOfApprentices 13 = .ok (.getfield 24, 3) := by decide +kernel
theorem dX7_sumOfApprentices_16 : decode cX7_sumOfApprentices 16 = .ok (.iload_n 3, 1) := by decide +kernel
theorem dX7_sumOfApprentices_17 : decode cX7_sumOfApprentices 17 = .ok (.aaload, 1) := by decide +kernel
theorem dX7_sumOfApprentices_18 : decode cX7_sumOfApprentices 18 = .ok (.astore 4, 2) := by decide +kernel
theorem dX7_sumOfApprentices_20 : decode cX7_sumOfApprentices 20 = .ok (.iload_n 1, 1) := by decide +kernel
theorem dX7_sumOfApprentices_21 : decode cX7_sumOfApprentices 21 = .ok (.tableswitch 75 4 6 #[27, 41, 55], 27) := by decide +kernel
theorem dX7_sumOfApprentices_48 : decode cX7_sumOfApprentices 48 = .ok (.iload_n 2, 1) := by decide +kernel
theorem dX7_sumOfApprentices_49 : decode cX7_sumOfApprentices 49 = .ok (.aload 4, 2) := by decide +kernel
theorem dX7_sumOfApprentices_51 : decode cX7_sumOfApprentices 51 = .ok (.getfield 102, 3) := by decide +kernel
theorem dX7_sumOfApprentices_54 : decode cX7_sumOfApprentices 54 = .ok (.getfield 97, 3) := by decide +kernel
theorem dX7_sumOfApprentices_57 : decode cX7_sumOfApprentices 57 = .ok (.iadd, 1) := by decide +kernel
theorem dX7_sumOfApprentices_58 : decode cX7_sumOfApprentices 58 = .ok (.istore_n 2, 1) := by decide +kernel
theorem dX7_sumOfApprentices_59 : decode cX7_sumOfApprentices 59 = .ok (.goto 45, 3) := by decide +kernel
theorem dX7_sumOfApprentices_62 : decode cX7_sumOfApprentices 62 = .ok (.iload_n 2, 1) := by decide +kernel
theorem dX7_sumOfApprentices_63 : decode cX7_sumOfApprentices 63 = .ok (.aload 4, 2) := by decide +kernel
theorem dX7_sumOfApprentices_65 : decode cX7_sumOfApprentices 65 = .ok (.getfield 93, 3) := by decide +kernel
theorem dX7_sumOfApprentices_68 : decode cX7_sumOfApprentices 68 = .ok (.getfield 97, 3) := by decide +kernel
theorem dX7_sumOfApprentices_71 : decode cX7_sumOfApprentices 71 = .ok (.iadd, 1) := by decide +kernel
theorem dX7_sumOfApprentices_72 : decode cX7_sumOfApprentices 72 = .ok (.istore_n 2, 1) := by decide +kernel
theorem dX7_sumOfApprentices_73 : decode cX7_sumOfApprentices 73 = .ok (.goto 31, 3) := by decide +kernel
theorem dX7_sumOfApprentices_76 : decode cX7_sumOfApprentices 76 = .ok (.iload_n 2, 1) := by decide +kernel
theorem dX7_sumOfApprentices_77 : decode cX7_sumOfApprentices 77 = .ok (.aload_n 0, 1) := by decide +kernel
theorem dX7_sumOfApprentices_78 : decode cX7_sumOfApprentices 78 = .ok (.aload 4, 2) := by decide +kernel
theorem dX7_sumOfApprentices_80 : decode cX7_sumOfApprentices 80 = .ok (.invokevirtual 215, 3) := by decide +kernel
theorem dX7_sumOfApprentices_83 : decode cX7_sumOfApprentices 83 = .ok (.ifCond .eq 7, 3) := by decide +kernel
theorem dX7_sumOfApprentices_86 : decode cX7_sumOfApprentices 86 = .ok (.iconst 1, 1) := by decide +kernel
theorem dX7_sumOfApprentices_87 : decode cX7_sumOfApprentices 87 = .ok (.goto 4, 3) := by decide +kernel
theorem dX7_sumOfApprentices_90 : decode cX7_sumOfApprentices 90 = .ok (.iconst 0, 1) := by decide +kernel
theorem dX7_sumOfApprentices_91 : decode cX7_sumOfApprentices 91 = .ok (.iadd, 1) := by decide +kernel
theorem dX7_sumOfApprentices_92 : decode cX7_sumOfApprentices 92 = .ok (.istore_n 2, 1) := by decide +kernel
theorem dX7_sumOfApprentices_93 : decode cX7_sumOfApprentices 93 = .ok (.goto 11, 3) := by decide +kernel
theorem dX7_sumOfApprentices_96 : decode cX7_sumOfApprentices 96 = .ok (.iload_n 2, 1) := by decide +kernel
theorem dX7_sumOfApprentices_97 : decode cX7_sumOfApprentices 97 = .ok (.aload 4, 2) := by decide +kernel
theorem dX7_sumOfApprentices_99 : decode cX7_sumOfApprentices 99 = .ok (.getfield 187, 3) := by decide +kernel
theorem dX7_sumOfApprentices_102 : decode cX7_sumOfApprentices 102 = .ok (.iadd, 1) := by decide +kernel
theorem dX7_sumOfApprentices_103 : decode cX7_sumOfApprentices 103 = .ok (.istore_n 2, 1) := by decide +kernel
theorem dX7_sumOfApprentices_104 : decode cX7_sumOfApprentices 104 = .ok (.iinc 3 1, 3) := by decide +kernel
theorem dX7_sumOfApprentices_107 : decode cX7_sumOfApprentices 107 = .ok (.goto (-103), 3) := by decide +kernel
theorem dX7_sumOfApprentices_110 : decode cX7_sumOfApprentices 110 = .ok (.iload_n 2, 1) := by decide +kernel
theorem dX7_sumOfApprentices_111 : decode cX7_sumOfApprentices 111 = .ok (.ireturn, 1) := by decide +kernel
theorem dX7_completionDay_0 : decode cX7_completionDay 0 = .ok (.aload_n 0, 1) := by decide +kernel
theorem dX7_completionDay_1 : decode cX7_completionDay 1 = .ok (.iload_n 1, 1) := by decide +kernel
theorem dX7_completionDay_2 : decode cX7_completionDay 2 = .ok (.invokevirtual 89, 3) := by decide +kernel
theorem dX7_completionDay_5 : decode cX7_completionDay 5 = .ok (.astore_n 3, 1) := by decide +kernel
theorem dX7_completionDay_6 : decode cX7_completionDay 6 = .ok (.iconst 0, 1) := by decide +kernel
theorem dX7_completionDay_7 : decode cX7_completionDay 7 = .ok (.istore 4, 2) := by decide +kernel
theorem dX7_completionDay_9 : decode cX7_completionDay 9 = .ok (.iconst 0, 1) := by decide +kernel
theorem dX7_completionDay_10 : decode cX7_completionDay 10 = .ok (.istore 5, 2) := by decide +kernel
theorem dX7_completionDay_12 : decode cX7_completionDay 12 = .ok (.iload 5, 2) := by decide +kernel
theorem dX7_completionDay_14 : decode cX7_completionDay 14 = .ok (.iconst 3, 1) := by decide +kernel
theorem dX7_completionDay_15 : decode cX7_completionDay 15 = .ok (.if_icmp .ge 35, 3) := by decide +kernel
theorem dX7_completionDay_18 : decode cX7_completionDay 18 = .ok (.iload 4, 2) := by decide +kernel
theorem dX7_completionDay_20 : decode cX7_completionDay 20 = .ok (.iconst 0, 1) := by decide +kernel
theorem dX7_completionDay_21 : decode cX7_completionDay 21 = .ok (.aload_n 0, 1) := by decide +kernel
theorem dX7_completionDay_22 : decode cX7_completionDay 22 = .ok (.aload_n 3, 1) := by decide +kernel
theorem dX7_completionDay_23 : decode cX7_completionDay 23 = .ok (.iload 5, 2) := by decide +kernel
theorem dX7_completionDay_25 : decode cX7_completionDay 25 = .ok (.invokevirtual 130, 3) := by decide +kernel
theorem dX7_completionDay_28 : decode cX7_completionDay 28 = .ok (.aload_n 3, 1) := by decide +kernel
theorem dX7_completionDay_29 : decode cX7_completionDay 29 = .ok (.getfield 102, 3) := by decide +kernel
theorem dX7_completionDay_32 : decode cX7_completionDay 32 = .ok (.iload 5, 2) := by decide +kernel
theorem dX7_completionDay_34 : decode cX7_completionDay 34 = .ok (.invokevirtual 219, 3) := by decide +kernel
theorem dX7_completionDay_37 : decode cX7_completionDay 37 = .ok (.isub, 1) := by decide +kernel
theorem dX7_completionDay_38 : decode cX7_completionDay 38 = .ok (.invokestatic 124, 3) := by decide +kernel
theorem dX7_completionDay_41 : decode cX7_completionDay 41 = .ok (.iadd, 1) := by decide +kernel
theorem dX7_completionDay_42 : decode cX7_completionDay 42 = .ok (.istore 4, 2) := by decide +kernel
theorem dX7_completionDay_44 : decode cX7_completionDay 44 = .ok (.iinc 5 1, 3) := by decide +kernel
theorem dX7_completionDay_47 : decode cX7_completionDay 47 = .ok (.goto (-35), 3) := by decide +kernel
theorem dX7_completionDay_50 : decode cX7_completionDay 50 = .ok (.iload 4, 2) := by decide +kernel
theorem dX7_completionDay_52 : decode cX7_completionDay 52 = .ok (.ifCond .ne 8, 3) := by decide +kernel
theorem dX7_completionDay_55 : decode cX7_completionDay 55 = .ok (.aload_n 0, 1) := by decide +kernel
theorem dX7_completionDay_56 : decode cX7_completionDay 56 = .ok (.getfield 48, 3) := by decide +kernel
theorem dX7_completionDay_59 : decode cX7_completionDay 59 = .ok (.ireturn, 1) := by decide +kernel
theorem dX7_completionDay_60 : decode cX7_completionDay 60 = .ok (.iconst 0, 1) := by decide +kernel
theorem dX7_completionDay_61 : decode cX7_completionDay 61 = .ok (.istore 5, 2) := by decide +kernel
theorem dX7_completionDay_63 : decode cX7_completionDay 63 = .ok (.iload 5, 2) := by decide +kernel
theorem dX7_completionDay_65 : decode cX7_completionDay 65 = .ok (.sipush 2000, 3) := by decide +kernel
theorem dX7_completionDay_68 : decode cX7_completionDay 68 = .ok (.if_icmp .ge 49, 3) := by decide +kernel
theorem dX7_completionDay_71 : decode cX7_completionDay 71 = .ok (.iload 4, 2) := by decide +kernel
theorem dX7_completionDay_73 : decode cX7_completionDay 73 = .ok (.aload_n 3, 1) := by decide +kernel
theorem dX7_completionDay_74 : decode cX7_completionDay 74 = .ok (.getfield 163, 3) := by decide +kernel
theorem dX7_completionDay_77 : decode cX7_completionDay 77 = .ok (.aload_n 0, 1) := by decide +kernel
theorem dX7_completionDay_78 : decode cX7_completionDay 78 = .ok (.getfield 48, 3) := by decide +kernel
theorem dX7_completionDay_81 : decode cX7_completionDay 81 = .ok (.iload 5, 2) := by decide +kernel
theorem dX7_completionDay_83 : decode cX7_completionDay 83 = .ok (.iadd, 1) := by decide +kernel
theorem dX7_completionDay_84 : decode cX7_completionDay 84 = .ok (.invokevirtual 109, 3) := by decide +kernel
theorem dX7_completionDay_87 : decode cX7_completionDay 87 = .ok (.ifCond .eq 7, 3) := by decide +kernel
theorem dX7_completionDay_90 : decode cX7_completionDay 90 = .ok (.iconst 0, 1) := by decide +kernel
theorem dX7_completionDay_91 : decode cX7_completionDay 91 = .ok (.goto 4, 3) := by decide +kernel
theorem dX7_completionDay_94 : decode cX7_completionDay 94 = .ok (.iload_n 2, 1) := by decide +kernel
theorem dX7_completionDay_95 : decode cX7_completionDay 95 = .ok (.isub, 1) := by decide +kernel
theorem dX7_completionDay_96 : decode cX7_completionDay 96 = .ok (.istore 4, 2) := by decide +kernel
theorem dX7_completionDay_98 : decode cX7_completionDay 98 = .ok (.iload 4, 2) := by decide +kernel
theorem dX7_completionDay_100 : decode cX7_completionDay 100 = .ok (.ifCond .gt 11, 3) := by decide +kernel
theorem dX7_completionDay_103 : decode cX7_completionDay 103 = .ok (.aload_n 0, 1) := by decide +kernel
theorem dX7_completionDay_104 : decode cX7_completionDay 104 = .ok (.getfield 48, 3) := by decide +kernel
theorem dX7_completionDay_107 : decode cX7_completionDay 107 = .ok (.iload 5, 2) := by decide +kernel
theorem dX7_completionDay_109 : decode cX7_completionDay 109 = .ok (.iadd, 1) := by decide +kernel
theorem dX7_completionDay_110 : decode cX7_completionDay 110 = .ok (.ireturn, 1) := by decide +kernel
theorem dX7_completionDay_111 : decode cX7_completionDay 111 = .ok (.iinc 5 1, 3) := by decide +kernel
theorem dX7_completionDay_114 : decode cX7_completionDay 114 = .ok (.goto (-51), 3) := by decide +kernel
theorem dX7_completionDay_117 : decode cX7_completionDay 117 = .ok (.iconst (-1), 1) := by decide +kernel
theorem dX7_completionDay_118 : decode cX7_completionDay 118 = .ok (.ireturn, 1) := by decide +kernel
theorem dX7_leastBusyMentor_0 : decode cX7_leastBusyMentor 0 = .ok (.iconst (-1), 1) := by decide +kernel
theorem dX7_leastBusyMentor_1 : decode cX7_leastBusyMentor 1 = .ok (.istore_n 2, 1) := by decide +kernel
theorem dX7_leastBusyMentor_2 : decode cX7_leastBusyMentor 2 = .ok (.iconst 0, 1) := by decide +kernel
theorem dX7_leastBusyMentor_3 : decode cX7_leastBusyMentor 3 = .ok (.istore_n 3, 1) := by decide +kernel
theorem dX7_leastBusyMentor_4 : decode cX7_leastBusyMentor 4 = .ok (.iload_n 3, 1) := by decide +kernel
theorem dX7_leastBusyMentor_5 : decode cX7_leastBusyMentor 5 = .ok (.aload_n 0, 1) := by decide +kernel
theorem dX7_leastBusyMentor_6 : decode cX7_leastBusyMentor 6 = .ok (.getfield 42, 3) := by decide +kernel
theorem dX7_leastBusyMentor_9 : decode cX7_leastBusyMentor 9 = .ok (.if_icmp .ge 34, 3) := by decide +kernel
theorem dX7_leastBusyMentor_12 : decode cX7_leastBusyMentor 12 = .ok (.aload_n 0, 1) := by decide +kernel
theorem dX7_leastBusyMentor_13 : decode cX7_leastBusyMentor 13 = .ok (.iload_n 1, 1) := by decide +kernel
theorem dX7_leastBusyMentor_14 : decode cX7_leastBusyMentor 14 = .ok (.iload_n 3, 1) := by decide +kernel
theorem dX7_leastBusyMentor_15 : decode cX7_leastBusyMentor 15 = .ok (.invokevirtual 225, 3) := by decide +kernel
theorem dX7_leastBusyMentor_18 : decode cX7_leastBusyMentor 18 = .ok (.ifCond .ne 19, 3) := by decide +kernel
theorem dX7_leastBusyMentor_21 : decode cX7_leastBusyMentor 21 = .ok (.iload_n 2, 1) := by decide +kernel
theorem dX7_leastBusyMentor_22 : decode cX7_leastBusyMentor 22 = .ok (.iconst (-1), 1) := by decide +kernel
theorem dX7_leastBusyMentor_23 : decode cX7_leastBusyMentor 23 = .ok (.if_icmp .eq 12, 3) := by decide +kernel
theorem dX7_leastBusyMentor_26 : decode cX7_leastBusyMentor 26 = .ok (.aload_n 0, 1) := by decide +kernel
theorem dX7_leastBusyMentor_27 : decode cX7_leastBusyMentor 27 = .ok (.iload_n 3, 1) := by decide +kernel
theorem dX7_leastBusyMentor_28 : decode cX7_leastBusyMentor 28 = .ok (.iload_n 2, 1) := by decide +kernel
theorem dX7_leastBusyMentor_29 : decode cX7_leastBusyMentor 29 = .ok (.invokevirtual 228, 3) := by decide +kernel
theorem dX7_leastBusyMentor_32 : decode cX7_leastBusyMentor 32 = .ok (.ifCond .eq 5, 3) := by decide +kernel
theorem dX7_leastBusyMentor_35 : decode cX7_leastBusyMentor 35 = .ok (.iload_n 3, 1) := by decide +kernel
theorem dX7_leastBusyMentor_36 : decode cX7_leastBusyMentor 36 = .ok (.istore_n 2, 1) := by decide +kernel
theorem dX7_leastBusyMentor_37 : decode cX7_leastBusyMentor 37 = .ok (.iinc 3 1, 3) := by decide +kernel
theorem dX7_leastBusyMentor_40 : decode cX7_leastBusyMentor 40 = .ok (.goto (-36), 3) := by decide +kernel
theorem dX7_leastBusyMentor_43 : decode cX7_leastBusyMentor 43 = .ok (.iload_n 2, 1) := by decide +kernel
theorem dX7_leastBusyMentor_44 : decode cX7_leastBusyMentor 44 = .ok (.ireturn, 1) := by decide +kernel
theorem dX7_isLessBusy_0 : decode cX7_isLessBusy 0 = .ok (.aload_n 0, 1) := by decide +kernel
theorem dX7_isLessBusy_1 : decode cX7_isLessBusy 1 = .ok (.iload_n 1, 1) := by decide +kernel
theorem dX7_isLessBusy_2 : decode cX7_isLessBusy 2 = .ok (.invokevirtual 82, 3) := by decide +kernel
theorem dX7_isLessBusy_5 : decode cX7_isLessBusy 5 = .ok (.iconst 1, 1) := by decide +kernel
theorem dX7_isLessBusy_6 : decode cX7_isLessBusy 6 = .ok (.iadd, 1) := by decide +kernel
theorem dX7_isLessBusy_7 : decode cX7_isLessBusy 7 = .ok (.aload_n 0, 1) := by decide +kernel
theorem dX7_isLessBusy_8 : decode cX7_isLessBusy 8 = .ok (.iload_n 2, 1) := by decide +kernel
theorem dX7_isLessBusy_9 : decode cX7_isLessBusy 9 = .ok (.invokevirtual 72, 3) := by decide +kernel
theorem dX7_isLessBusy_12 : decode cX7_isLessBusy 12 = .ok (.getfield 86, 3) := by decide +kernel
theorem dX7_isLessBusy_15 : decode cX7_isLessBusy 15 = .ok (.imul, 1) := by decide +kernel
theorem dX7_isLessBusy_16 : decode cX7_isLessBusy 16 = .ok (.aload_n 0, 1) := by decide +kernel
theorem dX7_isLessBusy_17 : decode cX7_isLessBusy 17 = .ok (.iload_n 2, 1) := by decide +kernel
theorem dX7_isLessBusy_18 : decode cX7_isLessBusy 18 = .ok (.invokevirtual 82, 3) := by decide +kernel
theorem dX7_isLessBusy_21 : decode cX7_isLessBusy 21 = .ok (.iconst 1, 1) := by decide +kernel
theorem dX7_isLessBusy_22 : decode cX7_isLessBusy 22 = .ok (.iadd, 1) := by decide +kernel
theorem dX7_isLessBusy_23 : decode cX7_isLessBusy 23 = .ok (.aload_n 0, 1) := by decide +kernel
theorem dX7_isLessBusy_24 : decode cX7_isLessBusy 24 = .ok (.iload_n 1, 1) := by decide +kernel
theorem dX7_isLessBusy_25 : decode cX7_isLessBusy 25 = .ok (.invokevirtual 72, 3) := by decide +kernel
theorem dX7_isLessBusy_28 : decode cX7_isLessBusy 28 = .ok (.getfield 86, 3) := by decide +kernel
theorem dX7_isLessBusy_31 : decode cX7_isLessBusy 31 = .ok (.imul, 1) := by decide +kernel
theorem dX7_isLessBusy_32 : decode cX7_isLessBusy 32 = .ok (.if_icmp .ge 7, 3) := by decide +kernel
theorem dX7_isLessBusy_35 : decode cX7_isLessBusy 35 = .ok (.iconst 1, 1) := by decide +kernel
theorem dX7_isLessBusy_36 : decode cX7_isLessBusy 36 = .ok (.goto 4, 3) := by decide +kernel
theorem dX7_isLessBusy_39 : decode cX7_isLessBusy 39 = .ok (.iconst 0, 1) := by decide +kernel
theorem dX7_isLessBusy_40 : decode cX7_isLessBusy 40 = .ok (.ireturn, 1) := by decide +kernel
theorem dX7_doubtsOfExchange_0 : decode cX7_doubtsOfExchange 0 = .ok (.aload_n 0, 1) := by decide +kernel
theorem dX7_doubtsOfExchange_1 : decode cX7_doubtsOfExchange 1 = .ok (.iload_n 1, 1) := by decide +kernel
theorem dX7_doubtsOfExchange_2 : decode cX7_doubtsOfExchange 2 = .ok (.invokevirtual 89, 3) := by decide +kernel
theorem dX7_doubtsOfExchange_5 : decode cX7_doubtsOfExchange 5 = .ok (.aload_n 0, 1) := by decide +kernel
theorem dX7_doubtsOfExchange_6 : decode cX7_doubtsOfExchange 6 = .ok (.iload_n 2, 1) := by decide +kernel
theorem dX7_doubtsOfExchange_7 : decode cX7_doubtsOfExchange 7 = .ok (.invokevirtual 89, 3) := by decide +kernel
theorem dX7_doubtsOfExchange_10 : decode cX7_doubtsOfExchange 10 = .ok (.getfield 79, 3) := by decide +kernel
theorem dX7_doubtsOfExchange_13 : decode cX7_doubtsOfExchange 13 = .ok (.invokevirtual 231, 3) := by decide +kernel
theorem dX7_doubtsOfExchange_16 : decode cX7_doubtsOfExchange 16 = .ok (.aload_n 0, 1) := by decide +kernel
theorem dX7_doubtsOfExchange_17 : decode cX7_doubtsOfExchange 17 = .ok (.iload_n 2, 1) := by decide +kernel
theorem dX7_doubtsOfExchange_18 : decode cX7_doubtsOfExchange 18 = .ok (.invokevirtual 89, 3) := by decide +kernel
theorem dX7_doubtsOfExchange_21 : decode cX7_doubtsOfExchange 21 = .ok (.aload_n 0, 1) := by decide +kernel
theorem dX7_doubtsOfExchange_22 : decode cX7_doubtsOfExchange 22 = .ok (.iload_n 1, 1) := by decide +kernel
theorem dX7_doubtsOfExchange_23 : decode cX7_doubtsOfExchange 23 = .ok (.invokevirtual 89, 3) := by decide +kernel
theorem dX7_doubtsOfExchange_26 : decode cX7_doubtsOfExchange 26 = .ok (.getfield 79, 3) := by decide +kernel
theorem dX7_doubtsOfExchange_29 : decode cX7_doubtsOfExchange 29 = .ok (.invokevirtual 231, 3) := by decide +kernel
theorem dX7_doubtsOfExchange_32 : decode cX7_doubtsOfExchange 32 = .ok (.iadd, 1) := by decide +kernel
theorem dX7_doubtsOfExchange_33 : decode cX7_doubtsOfExchange 33 = .ok (.ireturn, 1) := by decide +kernel
theorem dX7_firstRelease_0 : decode cX7_firstRelease 0 = .ok (.aload_n 0, 1) := by decide +kernel
theorem dX7_firstRelease_1 : decode cX7_firstRelease 1 = .ok (.iload_n 1, 1) := by decide +kernel
theorem dX7_firstRelease_2 : decode cX7_firstRelease 2 = .ok (.invokevirtual 89, 3) := by decide +kernel
theorem dX7_firstRelease_5 : decode cX7_firstRelease 5 = .ok (.getfield 163, 3) := by decide +kernel
theorem dX7_firstRelease_8 : decode cX7_firstRelease 8 = .ok (.iload_n 2, 1) := by decide +kernel
theorem dX7_firstRelease_9 : decode cX7_firstRelease 9 = .ok (.invokevirtual 234, 3) := by decide +kernel
theorem dX7_firstRelease_12 : decode cX7_firstRelease 12 = .ok (.ireturn, 1) := by decide +kernel
theorem dX8_init_0 : decode cX8_init 0 = .ok (.aload_n 0, 1) := by decide +kernel
theorem dX8_init_1 : decode cX8_init 1 = .ok (.invokespecial 3, 3) := by decide +kernel
theorem dX8_init_4 : decode cX8_init 4 = .ok (.aload_n 0, 1) := by decide +kernel
theorem dX8_init_5 : decode cX8_init 5 = .ok (.iconst 4, 1) := by decide +kernel
theorem dX8_init_6 : decode cX8_init 6 = .ok (.anewarray 9, 3) := by decide +kernel
theorem dX8_init_9 : decode cX8_init 9 = .ok (.putfield 11, 3) := by decide +kernel
theorem dX8_init_12 : decode cX8_init 12 = .ok (.iconst 0, 1) := by decide +kernel
theorem dX8_init_13 : decode cX8_init 13 = .ok (.istore_n 1, 1) := by decide +kernel
theorem dX8_init_14 : decode cX8_init 14 = .ok (.iload_n 1, 1) := by decide +kernel
theorem dX8_init_15 : decode cX8_init 15 = .ok (.iconst 4, 1) := by decide +kernel
theorem dX8_init_16 : decode cX8_init 16 = .ok (.if_icmp .ge 22, 3) := by decide +kernel
theorem dX8_init_19 : decode cX8_init 19 = .ok (.aload_n 0, 1) := by decide +kernel
theorem dX8_init_20 : decode cX8_init 20 = .ok (.getfield 11, 3) := by decide +kernel
theorem dX8_init_23 : decode cX8_init 23 = .ok (.iload_n 1, 1) := by decide +kernel
theorem dX8_init_24 : decode cX8_init 24 = .ok (.new 9, 3) := by decide +kernel
theorem dX8_init_27 : decode cX8_init 27 = .ok (.dup, 1) := by decide +kernel
theorem dX8_init_28 : decode cX8_init 28 = .ok (.invokespecial 17, 3) := by decide +kernel
theorem dX8_init_31 : decode cX8_init 31 = .ok (.aastore, 1) := by decide +kernel
theorem dX8_init_32 : decode cX8_init 32 = .ok (.iinc 1 1, 3) := by decide +kernel
theorem dX8_init_35 : decode cX8_init 35 = .ok (.goto (-21), 3) := by decide +kernel
theorem dX8_init_38 : decode cX8_init 38 = .ok (.return_, 1) := by decide +kernel
theorem dX8_save_0 : decode cX8_save 0 = .ok (.aload_n 0, 1) := by decide +kernel
theorem dX8_save_1 : decode cX8_save 1 = .ok (.getfield 11, 3) := by decide +kernel
theorem dX8_save_4 : decode cX8_save 4 = .ok (.aload_n 0, 1) := by decide +kernel
theorem dX8_save_5 : decode cX8_save 5 = .ok (.getfield 18, 3) := by decide +kernel
theorem dX8_save_8 : decode cX8_save 8 = .ok (.aload_n 0, 1) := by decide +kernel
theorem dX8_save_9 : decode cX8_save 9 = .ok (.getfield 22, 3) := by decide +kernel
theorem dX8_save_12 : decode cX8_save 12 = .ok (.iadd, 1) := by decide +kernel
theorem dX8_save_13 : decode cX8_save 13 = .ok (.iconst 4, 1) := by decide +kernel
theorem dX8_save_14 : decode cX8_save 14 = .ok (.irem, 1) := by decide +kernel
theorem dX8_save_15 : decode cX8_save 15 = .ok (.aaload, 1) := by decide +kernel
theorem dX8_save_16 : decode cX8_save 16 = .ok (.aload_n 1, 1) := by decide +kernel
theorem dX8_save_17 : decode cX8_save 17 = .ok (.invokevirtual 25, 3) := by decide +kernel
theorem dX8_save_20 : decode cX8_save 20 = .ok (.aload_n 0, 1) := by decide +kernel
theorem dX8_save_21 : decode cX8_save 21 = .ok (.getfield 22, 3) := by decide +kernel
theorem dX8_save_24 : decode cX8_save 24 = .ok (.iconst 4, 1) := by decide +kernel
theorem dX8_save_25 : decode cX8_save 25 = .ok (.if_icmp .ge 16, 3) := by decide +kernel
theorem dX8_save_28 : decode cX8_save 28 = .ok (.aload_n 0, 1) := by decide +kernel
theorem dX8_save_29 : decode cX8_save 29 = .ok (.dup, 1) := by decide +kernel
theorem dX8_save_30 : decode cX8_save 30 = .ok (.getfield 22, 3) := by decide +kernel
theorem dX8_save_33 : decode cX8_save 33 = .ok (.iconst 1, 1) := by decide +kernel
theorem dX8_save_34 : decode cX8_save 34 = .ok (.iadd, 1) := by decide +kernel
theorem dX8_save_35 : decode cX8_save 35 = .ok (.putfield 22, 3) := by decide +kernel
theorem dX8_save_38 : decode cX8_save 38 = .ok (.goto 15, 3) := by decide +kernel
theorem dX8_save_41 : decode cX8_save 41 = .ok (.aload_n 0, 1) := by decide +kernel
theorem dX8_save_42 : decode cX8_save 42 = .ok (.aload_n 0, 1) := by decide +kernel
theorem dX8_save_43 : decode cX8_save 43 = .ok (.getfield 18, 3) := by decide +kernel
theorem dX8_save_46 : decode cX8_save 46 = .ok (.iconst 1, 1) := by decide +kernel
theorem dX8_save_47 : decode cX8_save 47 = .ok (.iadd, 1) := by decide +kernel
theorem dX8_save_48 : decode cX8_save 48 = .ok (.iconst 4, 1) := by decide +kernel
theorem dX8_save_49 : decode cX8_save 49 = .ok (.irem, 1) := by decide +kernel
theorem dX8_save_50 : decode cX8_save 50 = .ok (.putfield 18, 3) := by decide +kernel
theorem dX8_save_53 : decode cX8_save 53 = .ok (.return_, 1) := by decide +kernel
theorem dX8_restore_0 : decode cX8_restore 0 = .ok (.aload_n 0, 1) := by decide +kernel
theorem dX8_restore_1 : decode cX8_restore 1 = .ok (.getfield 22, 3) := by decide +kernel
theorem dX8_restore_4 : decode cX8_restore 4 = .ok (.ifCond .le 33, 3) := by decide +kernel
theorem dX8_restore_7 : decode cX8_restore 7 = .ok (.aload_n 0, 1) := by decide +kernel
theorem dX8_restore_8 : decode cX8_restore 8 = .ok (.dup, 1) := by decide +kernel
theorem dX8_restore_9 : decode cX8_restore 9 = .ok (.getfield 22, 3) := by decide +kernel
theorem dX8_restore_12 : decode cX8_restore 12 = .ok (.iconst 1, 1) := by decide +kernel
theorem dX8_restore_13 : decode cX8_restore 13 = .ok (.isub, 1) := by decide +kernel
theorem dX8_restore_14 : decode cX8_restore 14 = .ok (.putfield 22, 3) := by decide +kernel
theorem dX8_restore_17 : decode cX8_restore 17 = .ok (.aload_n 1, 1) := by decide +kernel
theorem dX8_restore_18 : decode cX8_restore 18 = .ok (.aload_n 0, 1) := by decide +kernel
theorem dX8_restore_19 : decode cX8_restore 19 = .ok (.getfield 11, 3) := by decide +kernel
theorem dX8_restore_22 : decode cX8_restore 22 = .ok (.aload_n 0, 1) := by decide +kernel
theorem dX8_restore_23 : decode cX8_restore 23 = .ok (.getfield 18, 3) := by decide +kernel
theorem dX8_restore_26 : decode cX8_restore 26 = .ok (.aload_n 0, 1) := by decide +kernel
theorem dX8_restore_27 : decode cX8_restore 27 = .ok (.getfield 22, 3) := by decide +kernel
theorem dX8_restore_30 : decode cX8_restore 30 = .ok (.iadd, 1) := by decide +kernel
theorem dX8_restore_31 : decode cX8_restore 31 = .ok (.iconst 4, 1) := by decide +kernel
theorem dX8_restore_32 : decode cX8_restore 32 = .ok (.irem, 1) := by decide +kernel
theorem dX8_restore_33 : decode cX8_restore 33 = .ok (.aaload, 1) := by decide +kernel
theorem dX8_restore_34 : decode cX8_restore 34 = .ok (.invokevirtual 25, 3) := by decide +kernel
theorem dX8_restore_37 : decode cX8_restore 37 = .ok (.aload_n 0, 1) := by decide +kernel
theorem dX8_restore_38 : decode cX8_restore 38 = .ok (.getfield 22, 3) := by decide +kernel
theorem dX8_restore_41 : decode cX8_restore 41 = .ok (.ireturn, 1) := by decide +kernel
theorem dX9_init_0 : decode cX9_init 0 = .ok (.aload_n 0, 1) := by decide +kernel
theorem dX9_init_1 : decode cX9_init 1 = .ok (.invokespecial 1, 3) := by decide +kernel
theorem dX9_init_4 : decode cX9_init 4 = .ok (.aload_n 0, 1) := by decide +kernel
theorem dX9_init_5 : decode cX9_init 5 = .ok (.new 7, 3) := by decide +kernel
theorem dX9_init_8 : decode cX9_init 8 = .ok (.dup, 1) := by decide +kernel
theorem dX9_init_9 : decode cX9_init 9 = .ok (.invokespecial 9, 3) := by decide +kernel
theorem dX9_init_12 : decode cX9_init 12 = .ok (.putfield 10, 3) := by decide +kernel
theorem dX9_init_15 : decode cX9_init 15 = .ok (.aload_n 0, 1) := by decide +kernel
theorem dX9_init_16 : decode cX9_init 16 = .ok (.new 16, 3) := by decide +kernel
theorem dX9_init_19 : decode cX9_init 19 = .ok (.dup, 1) := by decide +kernel
theorem dX9_init_20 : decode cX9_init 20 = .ok (.invokespecial 18, 3) := by decide +kernel
theorem dX9_init_23 : decode cX9_init 23 = .ok (.putfield 19, 3) := by decide +kernel
theorem dX9_init_26 : decode cX9_init 26 = .ok (.aload_n 0, 1) := by decide +kernel
theorem dX9_init_27 : decode cX9_init 27 = .ok (.new 23, 3) := by decide +kernel
theorem dX9_init_30 : decode cX9_init 30 = .ok (.dup, 1) := by decide +kernel
theorem dX9_init_31 : decode cX9_init 31 = .ok (.invokespecial 25, 3) := by decide +kernel
theorem dX9_init_34 : decode cX9_init 34 = .ok (.putfield 26, 3) := by decide +kernel
theorem dX9_init_37 : decode cX9_init 37 = .ok (.return_, 1) := by decide +kernel
theorem dX9_addTrade_0 : decode cX9_addTrade 0 = .ok (.aload_n 0, 1) := by decide +kernel
theorem dX9_addTrade_1 : decode cX9_addTrade 1 = .ok (.iload_n 1, 1) := by decide +kernel
theorem dX9_addTrade_2 : decode cX9_addTrade 2 = .ok (.iload_n 2, 1) := by decide +kernel
theorem dX9_addTrade_3 : decode cX9_addTrade 3 = .ok (.iload_n 3, 1) := by decide +kernel
theorem dX9_addTrade_4 : decode cX9_addTrade 4 = .ok (.invokevirtual 30, 3) := by decide +kernel
theorem dX9_addTrade_7 : decode cX9_addTrade 7 = .ok (.invokestatic 34, 3) := by decide +kernel
theorem dX9_addTrade_10 : decode cX9_addTrade 10 = .ok (.aload_n 0, 1) := by decide +kernel
theorem dX9_addTrade_11 : decode cX9_addTrade 11 = .ok (.getfield 19, 3) := by decide +kernel
theorem dX9_addTrade_14 : decode cX9_addTrade 14 = .ok (.aload_n 0, 1) := by decide +kernel
theorem dX9_addTrade_15 : decode cX9_addTrade 15 = .ok (.getfield 10, 3) := by decide +kernel
theorem dX9_addTrade_18 : decode cX9_addTrade 18 = .ok (.invokevirtual 38, 3) := by decide +kernel
theorem dX9_addTrade_21 : decode cX9_addTrade 21 = .ok (.aload_n 0, 1) := by decide +kernel
theorem dX9_addTrade_22 : decode cX9_addTrade 22 = .ok (.getfield 10, 3) := by decide +kernel
theorem dX9_addTrade_25 : decode cX9_addTrade 25 = .ok (.iload_n 1, 1) := by decide +kernel
theorem dX9_addTrade_26 : decode cX9_addTrade 26 = .ok (.iload_n 2, 1) := by decide +kernel
theorem dX9_addTrade_27 : decode cX9_addTrade 27 = .ok (.iload_n 3, 1) := by decide +kernel
theorem dX9_addTrade_28 : decode cX9_addTrade 28 = .ok (.invokevirtual 42, 3) := by decide +kernel
theorem dX9_addTrade_31 : decode cX9_addTrade 31 = .ok (.ireturn, 1) := by decide +kernel
theorem dX9_addMentor_0 : decode cX9_addMentor 0 = .ok (.aload_n 0, 1) := by decide +kernel
theorem dX9_addMentor_1 : decode cX9_addMentor 1 = .ok (.iload_n 1, 1) := by decide +kernel
theorem dX9_addMentor_2 : decode cX9_addMentor 2 = .ok (.iload_n 2, 1) := by decide +kernel
theorem dX9_addMentor_3 : decode cX9_addMentor 3 = .ok (.invokevirtual 45, 3) := by decide +kernel
theorem dX9_addMentor_6 : decode cX9_addMentor 6 = .ok (.invokestatic 34, 3) := by decide +kernel
theorem dX9_addMentor_9 : decode cX9_addMentor 9 = .ok (.aload_n 0, 1) := by decide +kernel
theorem dX9_addMentor_10 : decode cX9_addMentor 10 = .ok (.getfield 19, 3) := by decide +kernel
theorem dX9_addMentor_13 : decode cX9_addMentor 13 = .ok (.aload_n 0, 1) := by decide +kernel
theorem dX9_addMentor_14 : decode cX9_addMentor 14 = .ok (.getfield 10, 3) := by decide +kernel
theorem dX9_addMentor_17 : decode cX9_addMentor 17 = .ok (.invokevirtual 38, 3) := by decide +kernel
theorem dX9_addMentor_20 : decode cX9_addMentor 20 = .ok (.aload_n 0, 1) := by decide +kernel
theorem dX9_addMentor_21 : decode cX9_addMentor 21 = .ok (.getfield 10, 3) := by decide +kernel
theorem dX9_addMentor_24 : decode cX9_addMentor 24 = .ok (.iload_n 1, 1) := by decide +kernel
theorem dX9_addMentor_25 : decode cX9_addMentor 25 = .ok (.iload_n 2, 1) := by decide +kernel
theorem dX9_addMentor_26 : decode cX9_addMentor 26 = .ok (.invokevirtual 49, 3) := by decide +kernel
theorem dX9_addMentor_29 : decode cX9_addMentor 29 = .ok (.ireturn, 1) := by decide +kernel
theorem dX9_addApprentice_0 : decode cX9_addApprentice 0 = .ok (.aload_n 0, 1) := by decide +kernel
theorem dX9_addApprentice_1 : decode cX9_addApprentice 1 = .ok (.iload_n 1, 1) := by decide +kernel
theorem dX9_addApprentice_2 : decode cX9_addApprentice 2 = .ok (.iload_n 2, 1) := by decide +kernel
theorem dX9_addApprentice_3 : decode cX9_addApprentice 3 = .ok (.invokevirtual 52, 3) := by decide +kernel
theorem dX9_addApprentice_6 : decode cX9_addApprentice 6 = .ok (.invokestatic 34, 3) := by decide +kernel
theorem dX9_addApprentice_9 : decode cX9_addApprentice 9 = .ok (.aload_n 0, 1) := by decide +kernel
theorem dX9_addApprentice_10 : decode cX9_addApprentice 10 = .ok (.getfield 19, 3) := by decide +kernel
theorem dX9_addApprentice_13 : decode cX9_addApprentice 13 = .ok (.aload_n 0, 1) := by decide +kernel
theorem dX9_addApprentice_14 : decode cX9_addApprentice 14 = .ok (.getfield 10, 3) := by decide +kernel
theorem dX9_addApprentice_17 : decode cX9_addApprentice 17 = .ok (.invokevirtual 38, 3) := by decide +kernel
theorem dX9_addApprentice_20 : decode cX9_addApprentice 20 = .ok (.aload_n 0, 1) := by decide +kernel
theorem dX9_addApprentice_21 : decode cX9_addApprentice 21 = .ok (.getfield 10, 3) := by decide +kernel
theorem dX9_addApprentice_24 : decode cX9_addApprentice 24 = .ok (.iload_n 1, 1) := by decide +kernel
theorem dX9_addApprentice_25 : decode cX9_addApprentice 25 = .ok (.iload_n 2, 1) := by decide +kernel
theorem dX9_addApprentice_26 : decode cX9_addApprentice 26 = .ok (.invokevirtual 55, 3) := by decide +kernel
theorem dX9_addApprentice_29 : decode cX9_addApprentice 29 = .ok (.ireturn, 1) := by decide +kernel
theorem dX9_release_0 : decode cX9_release 0 = .ok (.aload_n 0, 1) := by decide +kernel
theorem dX9_release_1 : decode cX9_release 1 = .ok (.iload_n 1, 1) := by decide +kernel
theorem dX9_release_2 : decode cX9_release 2 = .ok (.iload_n 2, 1) := by decide +kernel
theorem dX9_release_3 : decode cX9_release 3 = .ok (.invokevirtual 58, 3) := by decide +kernel
theorem dX9_release_6 : decode cX9_release 6 = .ok (.invokestatic 34, 3) := by decide +kernel
theorem dX9_release_9 : decode cX9_release 9 = .ok (.aload_n 0, 1) := by decide +kernel
theorem dX9_release_10 : decode cX9_release 10 = .ok (.getfield 19, 3) := by decide +kernel
theorem dX9_release_13 : decode cX9_release 13 = .ok (.aload_n 0, 1) := by decide +kernel
theorem dX9_release_14 : decode cX9_release 14 = .ok (.getfield 10, 3) := by decide +kernel
theorem dX9_release_17 : decode cX9_release 17 = .ok (.invokevirtual 38, 3) := by decide +kernel
theorem dX9_release_20 : decode cX9_release 20 = .ok (.aload_n 0, 1) := by decide +kernel
theorem dX9_release_21 : decode cX9_release 21 = .ok (.getfield 10, 3) := by decide +kernel
theorem dX9_release_24 : decode cX9_release 24 = .ok (.iload_n 1, 1) := by decide +kernel
theorem dX9_release_25 : decode cX9_release 25 = .ok (.iload_n 2, 1) := by decide +kernel
theorem dX9_release_26 : decode cX9_release 26 = .ok (.invokevirtual 61, 3) := by decide +kernel
theorem dX9_release_29 : decode cX9_release 29 = .ok (.ireturn, 1) := by decide +kernel
theorem dX9_log_0 : decode cX9_log 0 = .ok (.aload_n 0, 1) := by decide +kernel
theorem dX9_log_1 : decode cX9_log 1 = .ok (.iload_n 1, 1) := by decide +kernel
theorem dX9_log_2 : decode cX9_log 2 = .ok (.iload_n 2, 1) := by decide +kernel
theorem dX9_log_3 : decode cX9_log 3 = .ok (.iload_n 3, 1) := by decide +kernel
theorem dX9_log_4 : decode cX9_log 4 = .ok (.invokevirtual 64, 3) := by decide +kernel
theorem dX9_log_7 : decode cX9_log 7 = .ok (.invokestatic 34, 3) := by decide +kernel
theorem dX9_log_10 : decode cX9_log 10 = .ok (.aload_n 0, 1) := by decide +kernel
theorem dX9_log_11 : decode cX9_log 11 = .ok (.getfield 19, 3) := by decide +kernel
theorem dX9_log_14 : decode cX9_log 14 = .ok (.aload_n 0, 1) := by decide +kernel
theorem dX9_log_15 : decode cX9_log 15 = .ok (.getfield 10, 3) := by decide +kernel
theorem dX9_log_18 : decode cX9_log 18 = .ok (.invokevirtual 38, 3) := by decide +kernel
theorem dX9_log_21 : decode cX9_log 21 = .ok (.aload_n 0, 1) := by decide +kernel
theorem dX9_log_22 : decode cX9_log 22 = .ok (.getfield 10, 3) := by decide +kernel
theorem dX9_log_25 : decode cX9_log 25 = .ok (.iload_n 1, 1) := by decide +kernel
theorem dX9_log_26 : decode cX9_log 26 = .ok (.iload_n 2, 1) := by decide +kernel
theorem dX9_log_27 : decode cX9_log 27 = .ok (.iload_n 3, 1) := by decide +kernel
theorem dX9_log_28 : decode cX9_log 28 = .ok (.invokevirtual 67, 3) := by decide +kernel
theorem dX9_log_31 : decode cX9_log 31 = .ok (.ireturn, 1) := by decide +kernel
theorem dX9_confirm_0 : decode cX9_confirm 0 = .ok (.aload_n 0, 1) := by decide +kernel
theorem dX9_confirm_1 : decode cX9_confirm 1 = .ok (.iload_n 1, 1) := by decide +kernel
theorem dX9_confirm_2 : decode cX9_confirm 2 = .ok (.iload_n 2, 1) := by decide +kernel
theorem dX9_confirm_3 : decode cX9_confirm 3 = .ok (.invokevirtual 70, 3) := by decide +kernel
theorem dX9_confirm_6 : decode cX9_confirm 6 = .ok (.invokestatic 34, 3) := by decide +kernel
theorem dX9_confirm_9 : decode cX9_confirm 9 = .ok (.aload_n 0, 1) := by decide +kernel
theorem dX9_confirm_10 : decode cX9_confirm 10 = .ok (.getfield 19, 3) := by decide +kernel
theorem dX9_confirm_13 : decode cX9_confirm 13 = .ok (.aload_n 0, 1) := by decide +kernel
theorem dX9_confirm_14 : decode cX9_confirm 14 = .ok (.getfield 10, 3) := by decide +kernel
theorem dX9_confirm_17 : decode cX9_confirm 17 = .ok (.invokevirtual 38, 3) := by decide +kernel
theorem dX9_confirm_20 : decode cX9_confirm 20 = .ok (.aload_n 0, 1) := by decide +kernel
theorem dX9_confirm_21 : decode cX9_confirm 21 = .ok (.getfield 10, 3) := by decide +kernel
theorem dX9_confirm_24 : decode cX9_confirm 24 = .ok (.iload_n 1, 1) := by decide +kernel
theorem dX9_confirm_25 : decode cX9_confirm 25 = .ok (.iload_n 2, 1) := by decide +kernel
theorem dX9_confirm_26 : decode cX9_confirm 26 = .ok (.invokevirtual 73, 3) := by decide +kernel
theorem dX9_confirm_29 : decode cX9_confirm 29 = .ok (.ireturn, 1) := by decide +kernel
theorem dX9_doubt_0 : decode cX9_doubt 0 = .ok (.aload_n 0, 1) := by decide +kernel
theorem dX9_doubt_1 : decode cX9_doubt 1 = .ok (.iload_n 1, 1) := by decide +kernel
theorem dX9_doubt_2 : decode cX9_doubt 2 = .ok (.invokevirtual 76, 3) := by decide +kernel
theorem dX9_doubt_5 : decode cX9_doubt 5 = .ok (.invokestatic 34, 3) := by decide +kernel
theorem dX9_doubt_8 : decode cX9_doubt 8 = .ok (.aload_n 0, 1) := by decide +kernel
theorem dX9_doubt_9 : decode cX9_doubt 9 = .ok (.getfield 19, 3) := by decide +kernel
theorem dX9_doubt_12 : decode cX9_doubt 12 = .ok (.aload_n 0, 1) := by decide +kernel
theorem dX9_doubt_13 : decode cX9_doubt 13 = .ok (.getfield 10, 3) := by decide +kernel
theorem dX9_doubt_16 : decode cX9_doubt 16 = .ok (.invokevirtual 38, 3) := by decide +kernel
theorem dX9_doubt_19 : decode cX9_doubt 19 = .ok (.aload_n 0, 1) := by decide +kernel
theorem dX9_doubt_20 : decode cX9_doubt 20 = .ok (.getfield 10, 3) := by decide +kernel
theorem dX9_doubt_23 : decode cX9_doubt 23 = .ok (.iload_n 1, 1) := by decide +kernel
theorem dX9_doubt_24 : decode cX9_doubt 24 = .ok (.invokevirtual 80, 3) := by decide +kernel
theorem dX9_doubt_27 : decode cX9_doubt 27 = .ok (.ireturn, 1) := by decide +kernel
theorem dX9_settle_0 : decode cX9_settle 0 = .ok (.aload_n 0, 1) := by decide +kernel
theorem dX9_settle_1 : decode cX9_settle 1 = .ok (.iload_n 1, 1) := by decide +kernel
theorem dX9_settle_2 : decode cX9_settle 2 = .ok (.iload_n 2, 1) := by decide +kernel
theorem dX9_settle_3 : decode cX9_settle 3 = .ok (.invokevirtual 83, 3) := by decide +kernel
theorem dX9_settle_6 : decode cX9_settle 6 = .ok (.invokestatic 34, 3) := by decide +kernel
theorem dX9_settle_9 : decode cX9_settle 9 = .ok (.aload_n 0, 1) := by decide +kernel
theorem dX9_settle_10 : decode cX9_settle 10 = .ok (.getfield 19, 3) := by decide +kernel
theorem dX9_settle_13 : decode cX9_settle 13 = .ok (.aload_n 0, 1) := by decide +kernel
theorem dX9_settle_14 : decode cX9_settle 14 = .ok (.getfield 10, 3) := by decide +kernel
theorem dX9_settle_17 : decode cX9_settle 17 = .ok (.invokevirtual 38, 3) := by decide +kernel
theorem dX9_settle_20 : decode cX9_settle 20 = .ok (.aload_n 0, 1) := by decide +kernel
theorem dX9_settle_21 : decode cX9_settle 21 = .ok (.getfield 10, 3) := by decide +kernel
theorem dX9_settle_24 : decode cX9_settle 24 = .ok (.iload_n 1, 1) := by decide +kernel
theorem dX9_settle_25 : decode cX9_settle 25 = .ok (.iload_n 2, 1) := by decide +kernel
theorem dX9_settle_26 : decode cX9_settle 26 = .ok (.invokevirtual 87, 3) := by decide +kernel
theorem dX9_settle_29 : decode cX9_settle 29 = .ok (.ireturn, 1) := by decide +kernel
theorem dX9_credit_0 : decode cX9_credit 0 = .ok (.aload_n 0, 1) := by decide +kernel
theorem dX9_credit_1 : decode cX9_credit 1 = .ok (.iload_n 1, 1) := by decide +kernel
theorem dX9_credit_2 : decode cX9_credit 2 = .ok (.iload_n 2, 1) := by decide +kernel
theorem dX9_credit_3 : decode cX9_credit 3 = .ok (.iload_n 3, 1) := by decide +kernel
theorem dX9_credit_4 : decode cX9_credit 4 = .ok (.invokevirtual 90, 3) := by decide +kernel
theorem dX9_credit_7 : decode cX9_credit 7 = .ok (.invokestatic 34, 3) := by decide +kernel
theorem dX9_credit_10 : decode cX9_credit 10 = .ok (.aload_n 0, 1) := by decide +kernel
theorem dX9_credit_11 : decode cX9_credit 11 = .ok (.getfield 19, 3) := by decide +kernel
theorem dX9_credit_14 : decode cX9_credit 14 = .ok (.aload_n 0, 1) := by decide +kernel
theorem dX9_credit_15 : decode cX9_credit 15 = .ok (.getfield 10, 3) := by decide +kernel
theorem dX9_credit_18 : decode cX9_credit 18 = .ok (.invokevirtual 38, 3) := by decide +kernel
theorem dX9_credit_21 : decode cX9_credit 21 = .ok (.aload_n 0, 1) := by decide +kernel
theorem dX9_credit_22 : decode cX9_credit 22 = .ok (.getfield 10, 3) := by decide +kernel
theorem dX9_credit_25 : decode cX9_credit 25 = .ok (.iload_n 1, 1) := by decide +kernel
theorem dX9_credit_26 : decode cX9_credit 26 = .ok (.iload_n 2, 1) := by decide +kernel
theorem dX9_credit_27 : decode cX9_credit 27 = .ok (.iload_n 3, 1) := by decide +kernel
theorem dX9_credit_28 : decode cX9_credit 28 = .ok (.invokevirtual 93, 3) := by decide +kernel
theorem dX9_credit_31 : decode cX9_credit 31 = .ok (.ireturn, 1) := by decide +kernel
theorem dX9_endDay_0 : decode cX9_endDay 0 = .ok (.aload_n 0, 1) := by decide +kernel
theorem dX9_endDay_1 : decode cX9_endDay 1 = .ok (.iconst 1, 1) := by decide +kernel
theorem dX9_endDay_2 : decode cX9_endDay 2 = .ok (.invokevirtual 96, 3) := by decide +kernel
theorem dX9_endDay_5 : decode cX9_endDay 5 = .ok (.invokestatic 34, 3) := by decide +kernel
theorem dX9_endDay_8 : decode cX9_endDay 8 = .ok (.aload_n 0, 1) := by decide +kernel
theorem dX9_endDay_9 : decode cX9_endDay 9 = .ok (.getfield 19, 3) := by decide +kernel
theorem dX9_endDay_12 : decode cX9_endDay 12 = .ok (.aload_n 0, 1) := by decide +kernel
theorem dX9_endDay_13 : decode cX9_endDay 13 = .ok (.getfield 10, 3) := by decide +kernel
theorem dX9_endDay_16 : decode cX9_endDay 16 = .ok (.invokevirtual 38, 3) := by decide +kernel
theorem dX9_endDay_19 : decode cX9_endDay 19 = .ok (.aload_n 0, 1) := by decide +kernel
theorem dX9_endDay_20 : decode cX9_endDay 20 = .ok (.getfield 10, 3) := by decide +kernel
theorem dX9_endDay_23 : decode cX9_endDay 23 = .ok (.iconst 1, 1) := by decide +kernel
theorem dX9_endDay_24 : decode cX9_endDay 24 = .ok (.invokevirtual 99, 3) := by decide +kernel
theorem dX9_endDay_27 : decode cX9_endDay 27 = .ok (.ireturn, 1) := by decide +kernel
theorem dX9_move_0 : decode cX9_move 0 = .ok (.aload_n 0, 1) := by decide +kernel
theorem dX9_move_1 : decode cX9_move 1 = .ok (.iload_n 1, 1) := by decide +kernel
theorem dX9_move_2 : decode cX9_move 2 = .ok (.iload_n 2, 1) := by decide +kernel
theorem dX9_move_3 : decode cX9_move 3 = .ok (.invokevirtual 102, 3) := by decide +kernel
theorem dX9_move_6 : decode cX9_move 6 = .ok (.invokestatic 34, 3) := by decide +kernel
theorem dX9_move_9 : decode cX9_move 9 = .ok (.aload_n 0, 1) := by decide +kernel
theorem dX9_move_10 : decode cX9_move 10 = .ok (.getfield 19, 3) := by decide +kernel
theorem dX9_move_13 : decode cX9_move 13 = .ok (.aload_n 0, 1) := by decide +kernel
theorem dX9_move_14 : decode cX9_move 14 = .ok (.getfield 10, 3) := by decide +kernel
theorem dX9_move_17 : decode cX9_move 17 = .ok (.invokevirtual 38, 3) := by decide +kernel
theorem dX9_move_20 : decode cX9_move 20 = .ok (.aload_n 0, 1) := by decide +kernel
theorem dX9_move_21 : decode cX9_move 21 = .ok (.getfield 10, 3) := by decide +kernel
theorem dX9_move_24 : decode cX9_move 24 = .ok (.iload_n 1, 1) := by decide +kernel
theorem dX9_move_25 : decode cX9_move 25 = .ok (.iload_n 2, 1) := by decide +kernel
theorem dX9_move_26 : decode cX9_move 26 = .ok (.invokevirtual 105, 3) := by decide +kernel
theorem dX9_move_29 : decode cX9_move 29 = .ok (.ireturn, 1) := by decide +kernel
theorem dX9_leave_0 : decode cX9_leave 0 = .ok (.aload_n 0, 1) := by decide +kernel
theorem dX9_leave_1 : decode cX9_leave 1 = .ok (.iload_n 1, 1) := by decide +kernel
theorem dX9_leave_2 : decode cX9_leave 2 = .ok (.invokevirtual 108, 3) := by decide +kernel
theorem dX9_leave_5 : decode cX9_leave 5 = .ok (.invokestatic 34, 3) := by decide +kernel
theorem dX9_leave_8 : decode cX9_leave 8 = .ok (.aload_n 0, 1) := by decide +kernel
theorem dX9_leave_9 : decode cX9_leave 9 = .ok (.getfield 19, 3) := by decide +kernel
theorem dX9_leave_12 : decode cX9_leave 12 = .ok (.aload_n 0, 1) := by decide +kernel
theorem dX9_leave_13 : decode cX9_leave 13 = .ok (.getfield 10, 3) := by decide +kernel
theorem dX9_leave_16 : decode cX9_leave 16 = .ok (.invokevirtual 38, 3) := by decide +kernel
theorem dX9_leave_19 : decode cX9_leave 19 = .ok (.aload_n 0, 1) := by decide +kernel
theorem dX9_leave_20 : decode cX9_leave 20 = .ok (.getfield 10, 3) := by decide +kernel
theorem dX9_leave_23 : decode cX9_leave 23 = .ok (.iload_n 1, 1) := by decide +kernel
theorem dX9_leave_24 : decode cX9_leave 24 = .ok (.invokevirtual 111, 3) := by decide +kernel
theorem dX9_leave_27 : decode cX9_leave 27 = .ok (.ireturn, 1) := by decide +kernel
theorem dX9_exchange_0 : decode cX9_exchange 0 = .ok (.aload_n 0, 1) := by decide +kernel
theorem dX9_exchange_1 : decode cX9_exchange 1 = .ok (.iload_n 1, 1) := by decide +kernel
theorem dX9_exchange_2 : decode cX9_exchange 2 = .ok (.iload_n 2, 1) := by decide +kernel
theorem dX9_exchange_3 : decode cX9_exchange 3 = .ok (.invokevirtual 114, 3) := by decide +kernel
theorem dX9_exchange_6 : decode cX9_exchange 6 = .ok (.invokestatic 34, 3) := by decide +kernel
theorem dX9_exchange_9 : decode cX9_exchange 9 = .ok (.aload_n 0, 1) := by decide +kernel
theorem dX9_exchange_10 : decode cX9_exchange 10 = .ok (.getfield 19, 3) := by decide +kernel
theorem dX9_exchange_13 : decode cX9_exchange 13 = .ok (.aload_n 0, 1) := by decide +kernel
theorem dX9_exchange_14 : decode cX9_exchange 14 = .ok (.getfield 10, 3) := by decide +kernel
theorem dX9_exchange_17 : decode cX9_exchange 17 = .ok (.invokevirtual 38, 3) := by decide +kernel
theorem dX9_exchange_20 : decode cX9_exchange 20 = .ok (.aload_n 0, 1) := by decide +kernel
theorem dX9_exchange_21 : decode cX9_exchange 21 = .ok (.getfield 10, 3) := by decide +kernel
theorem dX9_exchange_24 : decode cX9_exchange 24 = .ok (.iload_n 1, 1) := by decide +kernel
theorem dX9_exchange_25 : decode cX9_exchange 25 = .ok (.iload_n 2, 1) := by decide +kernel
theorem dX9_exchange_26 : decode cX9_exchange 26 = .ok (.invokevirtual 117, 3) := by decide +kernel
theorem dX9_exchange_29 : decode cX9_exchange 29 = .ok (.ireturn, 1) := by decide +kernel
theorem dX9_reason_0 : decode cX9_reason 0 = .ok (.aload_n 0, 1) := by decide +kernel
theorem dX9_reason_1 : decode cX9_reason 1 = .ok (.iload_n 1, 1) := by decide +kernel
theorem dX9_reason_2 : decode cX9_reason 2 = .ok (.iload_n 2, 1) := by decide +kernel
theorem dX9_reason_3 : decode cX9_reason 3 = .ok (.invokevirtual 120, 3) := by decide +kernel
theorem dX9_reason_6 : decode cX9_reason 6 = .ok (.invokestatic 34, 3) := by decide +kernel
theorem dX9_reason_9 : decode cX9_reason 9 = .ok (.aload_n 0, 1) := by decide +kernel
theorem dX9_reason_10 : decode cX9_reason 10 = .ok (.getfield 10, 3) := by decide +kernel
theorem dX9_reason_13 : decode cX9_reason 13 = .ok (.iload_n 1, 1) := by decide +kernel
theorem dX9_reason_14 : decode cX9_reason 14 = .ok (.iload_n 2, 1) := by decide +kernel
theorem dX9_reason_15 : decode cX9_reason 15 = .ok (.invokevirtual 123, 3) := by decide +kernel
theorem dX9_reason_18 : decode cX9_reason 18 = .ok (.ireturn, 1) := by decide +kernel
theorem dX9_mentor_0 : decode cX9_mentor 0 = .ok (.aload_n 0, 1) := by decide +kernel
theorem dX9_mentor_1 : decode cX9_mentor 1 = .ok (.getfield 10, 3) := by decide +kernel
theorem dX9_mentor_4 : decode cX9_mentor 4 = .ok (.iload_n 1, 1) := by decide +kernel
theorem dX9_mentor_5 : decode cX9_mentor 5 = .ok (.invokevirtual 126, 3) := by decide +kernel
theorem dX9_mentor_8 : decode cX9_mentor 8 = .ok (.ifCond .eq 7, 3) := by decide +kernel
theorem dX9_mentor_11 : decode cX9_mentor 11 = .ok (.iconst 0, 1) := by decide +kernel
theorem dX9_mentor_12 : decode cX9_mentor 12 = .ok (.goto 4, 3) := by decide +kernel
theorem dX9_mentor_15 : decode cX9_mentor 15 = .ok (.iconst 1, 1) := by decide +kernel
theorem dX9_mentor_16 : decode cX9_mentor 16 = .ok (.invokestatic 34, 3) := by decide +kernel
theorem dX9_mentor_19 : decode cX9_mentor 19 = .ok (.iload_n 2, 1) := by decide +kernel
theorem dX9_mentor_20 : decode cX9_mentor 20 = .ok (.iconst 0, 1) := by decide +kernel
theorem dX9_mentor_21 : decode cX9_mentor 21 = .ok (.iconst 4, 1) := by decide +kernel
theorem dX9_mentor_22 : decode cX9_mentor 22 = .ok (.invokestatic 130, 3) := by decide +kernel
theorem dX9_mentor_25 : decode cX9_mentor 25 = .ok (.ifCond .eq 7, 3) := by decide +kernel
theorem dX9_mentor_28 : decode cX9_mentor 28 = .ok (.iconst 0, 1) := by decide +kernel
theorem dX9_mentor_29 : decode cX9_mentor 29 = .ok (.goto 4, 3) := by decide +kernel
theorem dX9_mentor_32 : decode cX9_mentor 32 = .ok (.iconst 2, 1) := by decide +kernel
theorem dX9_mentor_33 : decode cX9_mentor 33 = .ok (.invokestatic 34, 3) := by decide +kernel
theorem dX9_mentor_36 : decode cX9_mentor 36 = .ok (.aload_n 0, 1) := by decide +kernel
theorem dX9_mentor_37 : decode cX9_mentor 37 = .ok (.getfield 10, 3) := by decide +kernel
theorem dX9_mentor_40 : decode cX9_mentor 40 = .ok (.iload_n 1, 1) := by decide +kernel
theorem dX9_mentor_41 : decode cX9_mentor 41 = .ok (.iload_n 2, 1) := by decide +kernel
theorem dX9_mentor_42 : decode cX9_mentor 42 = .ok (.invokevirtual 134, 3) := by decide +kernel
theorem dX9_mentor_45 : decode cX9_mentor 45 = .ok (.ireturn, 1) := by decide +kernel
theorem dX9_apprentice_0 : decode cX9_apprentice 0 = .ok (.aload_n 0, 1) := by decide +kernel
theorem dX9_apprentice_1 : decode cX9_apprentice 1 = .ok (.getfield 10, 3) := by decide +kernel
theorem dX9_apprentice_4 : decode cX9_apprentice 4 = .ok (.iload_n 1, 1) := by decide +kernel
theorem dX9_apprentice_5 : decode cX9_apprentice 5 = .ok (.invokevirtual 137, 3) := by decide +kernel
theorem dX9_apprentice_8 : decode cX9_apprentice 8 = .ok (.ifCond .eq 7, 3) := by decide +kernel
theorem dX9_apprentice_11 : decode cX9_apprentice 11 = .ok (.iconst 0, 1) := by decide +kernel
theorem dX9_apprentice_12 : decode cX9_apprentice 12 = .ok (.goto 4, 3) := by decide +kernel
theorem dX9_apprentice_15 : decode cX9_apprentice 15 = .ok (.iconst 1, 1) := by decide +kernel
theorem dX9_apprentice_16 : decode cX9_apprentice 16 = .ok (.invokestatic 34, 3) := by decide +kernel
theorem dX9_apprentice_19 : decode cX9_apprentice 19 = .ok (.iload_n 2, 1) := by decide +kernel
theorem dX9_apprentice_20 : decode cX9_apprentice 20 = .ok (.iconst 0, 1) := by decide +kernel
theorem dX9_apprentice_21 : decode cX9_apprentice 21 = .ok (.bipush 11, 2) := by decide +kernel
theorem dX9_apprentice_23 : decode cX9_apprentice 23 = .ok (.invokestatic 130, 3) := by decide +kernel
theorem dX9_apprentice_26 : decode cX9_apprentice 26 = .ok (.ifCond .eq 7, 3) := by decide +kernel
theorem dX9_apprentice_29 : decode cX9_apprentice 29 = .ok (.iconst 0, 1) := by decide +kernel
theorem dX9_apprentice_30 : decode cX9_apprentice 30 = .ok (.goto 4, 3) := by decide +kernel
theorem dX9_apprentice_33 : decode cX9_apprentice 33 = .ok (.iconst 2, 1) := by decide +kernel
theorem dX9_apprentice_34 : decode cX9_apprentice 34 = .ok (.invokestatic 34, 3) := by decide +kernel
theorem dX9_apprentice_37 : decode cX9_apprentice 37 = .ok (.aload_n 0, 1) := by decide +kernel
theorem dX9_apprentice_38 : decode cX9_apprentice 38 = .ok (.getfield 10, 3) := by decide +kernel
theorem dX9_apprentice_41 : decode cX9_apprentice 41 = .ok (.iload_n 1, 1) := by decide +kernel
theorem dX9_apprentice_42 : decode cX9_apprentice 42 = .ok (.iload_n 2, 1) := by decide +kernel
theorem dX9_apprentice_43 : decode cX9_apprentice 43 = .ok (.invokevirtual 140, 3) := by decide +kernel
theorem dX9_apprentice_46 : decode cX9_apprentice 46 = .ok (.ireturn, 1) := by decide +kernel
theorem dX9_part_0 : decode cX9_part 0 = .ok (.aload_n 0, 1) := by decide +kernel
theorem dX9_part_1 : decode cX9_part 1 = .ok (.getfield 10, 3) := by decide +kernel
theorem dX9_part_4 : decode cX9_part 4 = .ok (.iload_n 1, 1) := by decide +kernel
theorem dX9_part_5 : decode cX9_part 5 = .ok (.invokevirtual 137, 3) := by decide +kernel
theorem dX9_part_8 : decode cX9_part 8 = .ok (.ifCond .eq 7, 3) := by decide +kernel
theorem dX9_part_11 : decode cX9_part 11 = .ok (.iconst 0, 1) := by decide +kernel
theorem dX9_part_12 : decode cX9_part 12 = .ok (.goto 4, 3) := by decide +kernel
theorem dX9_part_15 : decode cX9_part 15 = .ok (.iconst 1, 1) := by decide +kernel
theorem dX9_part_16 : decode cX9_part 16 = .ok (.invokestatic 34, 3) := by decide +kernel
theorem dX9_part_19 : decode cX9_part 19 = .ok (.iload_n 2, 1) := by decide +kernel
theorem dX9_part_20 : decode cX9_part 20 = .ok (.invokestatic 143, 3) := by decide +kernel
theorem dX9_part_23 : decode cX9_part 23 = .ok (.ifCond .eq 16, 3) := by decide +kernel
theorem dX9_part_26 : decode cX9_part 26 = .ok (.iload_n 3, 1) := by decide +kernel
theorem dX9_part_27 : decode cX9_part 27 = .ok (.iconst 0, 1) := by decide +kernel
theorem dX9_part_28 : decode cX9_part 28 = .ok (.iconst 4, 1) := by decide +kernel
theorem dX9_part_29 : decode cX9_part 29 = .ok (.invokestatic 130, 3) := by decide +kernel
theorem dX9_part_32 : decode cX9_part 32 = .ok (.ifCond .eq 7, 3) := by decide +kernel
theorem dX9_part_35 : decode cX9_part 35 = .ok (.iconst 0, 1) := by decide +kernel
theorem dX9_part_36 : decode cX9_part 36 = .ok (.goto 4, 3) := by decide +kernel
theorem dX9_part_39 : decode cX9_part 39 = .ok (.iconst 2, 1) := by decide +kernel
theorem dX9_part_40 : decode cX9_part 40 = .ok (.invokestatic 34, 3) := by decide +kernel
theorem dX9_part_43 : decode cX9_part 43 = .ok (.aload_n 0, 1) := by decide +kernel
theorem dX9_part_44 : decode cX9_part 44 = .ok (.getfield 10, 3) := by decide +kernel
theorem dX9_part_47 : decode cX9_part 47 = .ok (.iload_n 1, 1) := by decide +kernel
theorem dX9_part_48 : decode cX9_part 48 = .ok (.iload_n 2, 1) := by decide +kernel
theorem dX9_part_49 : decode cX9_part 49 = .ok (.iload_n 3, 1) := by decide +kernel
theorem dX9_part_50 : decode cX9_part 50 = .ok (.invokevirtual 146, 3) := by decide +kernel
theorem dX9_part_53 : decode cX9_part 53 = .ok (.ireturn, 1) := by decide +kernel
theorem dX9_entry_0 : decode cX9_entry 0 = .ok (.aload_n 0, 1) := by decide +kernel
theorem dX9_entry_1 : decode cX9_entry 1 = .ok (.getfield 10, 3) := by decide +kernel
theorem dX9_entry_4 : decode cX9_entry 4 = .ok (.iload_n 1, 1) := by decide +kernel
theorem dX9_entry_5 : decode cX9_entry 5 = .ok (.invokevirtual 137, 3) := by decide +kernel
theorem dX9_entry_8 : decode cX9_entry 8 = .ok (.ifCond .eq 7, 3) := by decide +kernel
theorem dX9_entry_11 : decode cX9_entry 11 = .ok (.iconst 0, 1) := by decide +kernel
theorem dX9_entry_12 : decode cX9_entry 12 = .ok (.goto 4, 3) := by decide +kernel
theorem dX9_entry_15 : decode cX9_entry 15 = .ok (.iconst 1, 1) := by decide +kernel
theorem dX9_entry_16 : decode cX9_entry 16 = .ok (.invokestatic 34, 3) := by decide +kernel
theorem dX9_entry_19 : decode cX9_entry 19 = .ok (.iload_n 3, 1) := by decide +kernel
theorem dX9_entry_20 : decode cX9_entry 20 = .ok (.ifCond .lt 17, 3) := by decide +kernel
theorem dX9_entry_23 : decode cX9_entry 23 = .ok (.iload 4, 2) := by decide +kernel
theorem dX9_entry_25 : decode cX9_entry 25 = .ok (.iconst 0, 1) := by decide +kernel
theorem dX9_entry_26 : decode cX9_entry 26 = .ok (.iconst 3, 1) := by decide +kernel
theorem dX9_entry_27 : decode cX9_entry 27 = .ok (.invokestatic 130, 3) := by decide +kernel
theorem dX9_entry_30 : decode cX9_entry 30 = .ok (.ifCond .eq 7, 3) := by decide +kernel
theorem dX9_entry_33 : decode cX9_entry 33 = .ok (.iconst 0, 1) := by decide +kernel
theorem dX9_entry_34 : decode cX9_entry 34 = .ok (.goto 4, 3) := by decide +kernel
theorem dX9_entry_37 : decode cX9_entry 37 = .ok (.iconst 2, 1) := by decide +kernel
theorem dX9_entry_38 : decode cX9_entry 38 = .ok (.invokestatic 34, 3) := by decide +kernel
theorem dX9_entry_41 : decode cX9_entry 41 = .ok (.aload_n 0, 1) := by decide +kernel
theorem dX9_entry_42 : decode cX9_entry 42 = .ok (.getfield 10, 3) := by decide +kernel
theorem dX9_entry_45 : decode cX9_entry 45 = .ok (.iload_n 1, 1) := by decide +kernel
theorem dX9_entry_46 : decode cX9_entry 46 = .ok (.iload_n 2, 1) := by decide +kernel
theorem dX9_entry_47 : decode cX9_entry 47 = .ok (.iload_n 3, 1) := by decide +kernel
theorem dX9_entry_48 : decode cX9_entry 48 = .ok (.iload 4, 2) := by decide +kernel
theorem dX9_entry_50 : decode cX9_entry 50 = .ok (.invokevirtual 149, 3) := by decide +kernel
theorem dX9_entry_53 : decode cX9_entry 53 = .ok (.ireturn, 1) := by decide +kernel
theorem dX9_whole_0 : decode cX9_whole 0 = .ok (.iload_n 1, 1) := by decide +kernel
theorem dX9_whole_1 : decode cX9_whole 1 = .ok (.iconst 0, 1) := by decide +kernel
theorem dX9_whole_2 : decode cX9_whole 2 = .ok (.bipush 9, 2) := by decide +kernel
theorem dX9_whole_4 : decode cX9_whole 4 = .ok (.invokestatic 130, 3) := by decide +kernel
theorem dX9_whole_7 : decode cX9_whole 7 = .ok (.ifCond .eq 7, 3) := by decide +kernel
theorem dX9_whole_10 : decode cX9_whole 10 = .ok (.iconst 0, 1) := by decide +kernel
theorem dX9_whole_11 : decode cX9_whole 11 = .ok (.goto 4, 3) := by decide +kernel
theorem dX9_whole_14 : decode cX9_whole 14 = .ok (.iconst 2, 1) := by decide +kernel
theorem dX9_whole_15 : decode cX9_whole 15 = .ok (.invokestatic 34, 3) := by decide +kernel
theorem dX9_whole_18 : decode cX9_whole 18 = .ok (.aload_n 0, 1) := by decide +kernel
theorem dX9_whole_19 : decode cX9_whole 19 = .ok (.iload_n 1, 1) := by decide +kernel
theorem dX9_whole_20 : decode cX9_whole 20 = .ok (.invokevirtual 153, 3) := by decide +kernel
theorem dX9_whole_23 : decode cX9_whole 23 = .ok (.ireturn, 1) := by decide +kernel
theorem dX9_completeOn_0 : decode cX9_completeOn 0 = .ok (.aload_n 0, 1) := by decide +kernel
theorem dX9_completeOn_1 : decode cX9_completeOn 1 = .ok (.getfield 10, 3) := by decide +kernel
theorem dX9_completeOn_4 : decode cX9_completeOn 4 = .ok (.iload_n 1, 1) := by decide +kernel
theorem dX9_completeOn_5 : decode cX9_completeOn 5 = .ok (.invokevirtual 137, 3) := by decide +kernel
theorem dX9_completeOn_8 : decode cX9_completeOn 8 = .ok (.ifCond .eq 7, 3) := by decide +kernel
theorem dX9_completeOn_11 : decode cX9_completeOn 11 = .ok (.iconst 0, 1) := by decide +kernel
theorem dX9_completeOn_12 : decode cX9_completeOn 12 = .ok (.goto 4, 3) := by decide +kernel
theorem dX9_completeOn_15 : decode cX9_completeOn 15 = .ok (.iconst 1, 1) := by decide +kernel
theorem dX9_completeOn_16 : decode cX9_completeOn 16 = .ok (.invokestatic 34, 3) := by decide +kernel
theorem dX9_completeOn_19 : decode cX9_completeOn 19 = .ok (.iload_n 2, 1) := by decide +kernel
theorem dX9_completeOn_20 : decode cX9_completeOn 20 = .ok (.iconst 1, 1) := by decide +kernel
theorem dX9_completeOn_21 : decode cX9_completeOn 21 = .ok (.bipush 12, 2) := by decide +kernel
theorem dX9_completeOn_23 : decode cX9_completeOn 23 = .ok (.invokestatic 130, 3) := by decide +kernel
theorem dX9_completeOn_26 : decode cX9_completeOn 26 = .ok (.ifCond .eq 7, 3) := by decide +kernel
theorem dX9_completeOn_29 : decode cX9_completeOn 29 = .ok (.iconst 0, 1) := by decide +kernel
theorem dX9_completeOn_30 : decode cX9_completeOn 30 = .ok (.goto 4, 3) := by decide +kernel
theorem dX9_completeOn_33 : decode cX9_completeOn 33 = .ok (.iconst 2, 1) := by decide +kernel
theorem dX9_completeOn_34 : decode cX9_completeOn 34 = .ok (.invokestatic 34, 3) := by decide +kernel
theorem dX9_completeOn_37 : decode cX9_completeOn 37 = .ok (.aload_n 0, 1) := by decide +kernel
theorem dX9_completeOn_38 : decode cX9_completeOn 38 = .ok (.getfield 10, 3) := by decide +kernel
theorem dX9_completeOn_41 : decode cX9_completeOn 41 = .ok (.iload_n 1, 1) := by decide +kernel
theorem dX9_completeOn_42 : decode cX9_completeOn 42 = .ok (.iload_n 2, 1) := by decide +kernel
theorem dX9_completeOn_43 : decode cX9_completeOn 43 = .ok (.invokevirtual 156, 3) := by decide +kernel
theorem dX9_completeOn_46 : decode cX9_completeOn 46 = .ok (.ireturn, 1) := by decide +kernel
theorem dX9_bestMentor_0 : decode cX9_bestMentor 0 = .ok (.aload_n 0, 1) := by decide +kernel
theorem dX9_bestMentor_1 : decode cX9_bestMentor 1 = .ok (.getfield 10, 3) := by decide +kernel
theorem dX9_bestMentor_4 : decode cX9_bestMentor 4 = .ok (.iload_n 1, 1) := by decide +kernel
theorem dX9_bestMentor_5 : decode cX9_bestMentor 5 = .ok (.invokevirtual 137, 3) := by decide +kernel
theorem dX9_bestMentor_8 : decode cX9_bestMentor 8 = .ok (.ifCond .eq 7, 3) := by decide +kernel
theorem dX9_bestMentor_11 : decode cX9_bestMentor 11 = .ok (.iconst 0, 1) := by decide +kernel
theorem dX9_bestMentor_12 : decode cX9_bestMentor 12 = .ok (.goto 4, 3) := by decide +kernel
theorem dX9_bestMentor_15 : decode cX9_bestMentor 15 = .ok (.iconst 1, 1) := by decide +kernel
theorem dX9_bestMentor_16 : decode cX9_bestMentor 16 = .ok (.invokestatic 34, 3) := by decide +kernel
theorem dX9_bestMentor_19 : decode cX9_bestMentor 19 = .ok (.aload_n 0, 1) := by decide +kernel
theorem dX9_bestMentor_20 : decode cX9_bestMentor 20 = .ok (.getfield 10, 3) := by decide +kernel
theorem dX9_bestMentor_23 : decode cX9_bestMentor 23 = .ok (.iload_n 1, 1) := by decide +kernel
theorem dX9_bestMentor_24 : decode cX9_bestMentor 24 = .ok (.invokevirtual 159, 3) := by decide +kernel
theorem dX9_bestMentor_27 : decode cX9_bestMentor 27 = .ok (.ireturn, 1) := by decide +kernel
theorem dX9_doubtsBy_0 : decode cX9_doubtsBy 0 = .ok (.aload_n 0, 1) := by decide +kernel
theorem dX9_doubtsBy_1 : decode cX9_doubtsBy 1 = .ok (.getfield 10, 3) := by decide +kernel
theorem dX9_doubtsBy_4 : decode cX9_doubtsBy 4 = .ok (.iload_n 1, 1) := by decide +kernel
theorem dX9_doubtsBy_5 : decode cX9_doubtsBy 5 = .ok (.invokevirtual 137, 3) := by decide +kernel
theorem dX9_doubtsBy_8 : decode cX9_doubtsBy 8 = .ok (.ifCond .eq 18, 3) := by decide +kernel
theorem dX9_doubtsBy_11 : decode cX9_doubtsBy 11 = .ok (.aload_n 0, 1) := by decide +kernel
theorem dX9_doubtsBy_12 : decode cX9_doubtsBy 12 = .ok (.getfield 10, 3) := by decide +kernel
theorem dX9_doubtsBy_15 : decode cX9_doubtsBy 15 = .ok (.iload_n 2, 1) := by decide +kernel
theorem dX9_doubtsBy_16 : decode cX9_doubtsBy 16 = .ok (.invokevirtual 137, 3) := by decide +kernel
theorem dX9_doubtsBy_19 : decode cX9_doubtsBy 19 = .ok (.ifCond .eq 7, 3) := by decide +kernel
theorem dX9_doubtsBy_22 : decode cX9_doubtsBy 22 = .ok (.iconst 0, 1) := by decide +kernel
theorem dX9_doubtsBy_23 : decode cX9_doubtsBy 23 = .ok (.goto 4, 3) := by decide +kernel
theorem dX9_doubtsBy_26 : decode cX9_doubtsBy 26 = .ok (.iconst 1, 1) := by decide +kernel
theorem dX9_doubtsBy_27 : decode cX9_doubtsBy 27 = .ok (.invokestatic 34, 3) := by decide +kernel
theorem dX9_doubtsBy_30 : decode cX9_doubtsBy 30 = .ok (.aload_n 0, 1) := by decide +kernel
theorem dX9_doubtsBy_31 : decode cX9_doubtsBy 31 = .ok (.getfield 10, 3) := by decide +kernel
theorem dX9_doubtsBy_34 : decode cX9_doubtsBy 34 = .ok (.iload_n 1, 1) := by decide +kernel
theorem dX9_doubtsBy_35 : decode cX9_doubtsBy 35 = .ok (.iload_n 2, 1) := by decide +kernel
theorem dX9_doubtsBy_36 : decode cX9_doubtsBy 36 = .ok (.invokevirtual 162, 3) := by decide +kernel
theorem dX9_doubtsBy_39 : decode cX9_doubtsBy 39 = .ok (.ifCond .eq 15, 3) := by decide +kernel
theorem dX9_doubtsBy_42 : decode cX9_doubtsBy 42 = .ok (.aload_n 0, 1) := by decide +kernel
theorem dX9_doubtsBy_43 : decode cX9_doubtsBy 43 = .ok (.getfield 10, 3) := by decide +kernel
theorem dX9_doubtsBy_46 : decode cX9_doubtsBy 46 = .ok (.iload_n 1, 1) := by decide +kernel
theorem dX9_doubtsBy_47 : decode cX9_doubtsBy 47 = .ok (.iload_n 2, 1) := by decide +kernel
theorem dX9_doubtsBy_48 : decode cX9_doubtsBy 48 = .ok (.invokevirtual 166, 3) := by decide +kernel
theorem dX9_doubtsBy_51 : decode cX9_doubtsBy 51 = .ok (.goto 4, 3) := by decide +kernel
theorem dX9_doubtsBy_54 : decode cX9_doubtsBy 54 = .ok (.iconst (-1), 1) := by decide +kernel
theorem dX9_doubtsBy_55 : decode cX9_doubtsBy 55 = .ok (.ireturn, 1) := by decide +kernel
theorem dX9_nextRelease_0 : decode cX9_nextRelease 0 = .ok (.aload_n 0, 1) := by decide +kernel
theorem dX9_nextRelease_1 : decode cX9_nextRelease 1 = .ok (.getfield 10, 3) := by decide +kernel
theorem dX9_nextRelease_4 : decode cX9_nextRelease 4 = .ok (.iload_n 1, 1) := by decide +kernel
theorem dX9_nextRelease_5 : decode cX9_nextRelease 5 = .ok (.invokevirtual 137, 3) := by decide +kernel
theorem dX9_nextRelease_8 : decode cX9_nextRelease 8 = .ok (.ifCond .eq 7, 3) := by decide +kernel
theorem dX9_nextRelease_11 : decode cX9_nextRelease 11 = .ok (.iconst 0, 1) := by decide +kernel
theorem dX9_nextRelease_12 : decode cX9_nextRelease 12 = .ok (.goto 4, 3) := by decide +kernel
theorem dX9_nextRelease_15 : decode cX9_nextRelease 15 = .ok (.iconst 1, 1) := by decide +kernel
theorem dX9_nextRelease_16 : decode cX9_nextRelease 16 = .ok (.invokestatic 34, 3) := by decide +kernel
theorem dX9_nextRelease_19 : decode cX9_nextRelease 19 = .ok (.iload_n 2, 1) := by decide +kernel
theorem dX9_nextRelease_20 : decode cX9_nextRelease 20 = .ok (.iconst 0, 1) := by decide +kernel
theorem dX9_nextRelease_21 : decode cX9_nextRelease 21 = .ok (.sipush 9999, 3) := by decide +kernel
theorem dX9_nextRelease_24 : decode cX9_nextRelease 24 = .ok (.invokestatic 130, 3) := by decide +kernel
theorem dX9_nextRelease_27 : decode cX9_nextRelease 27 = .ok (.ifCond .eq 7, 3) := by decide +kernel
theorem dX9_nextRelease_30 : decode cX9_nextRelease 30 = .ok (.iconst 0, 1) := by decide +kernel
theorem dX9_nextRelease_31 : decode cX9_nextRelease 31 = .ok (.goto 4, 3) := by decide +kernel
theorem dX9_nextRelease_34 : decode cX9_nextRelease 34 = .ok (.iconst 2, 1) := by decide +kernel
theorem dX9_nextRelease_35 : decode cX9_nextRelease 35 = .ok (.invokestatic 34, 3) := by decide +kernel
theorem dX9_nextRelease_38 : decode cX9_nextRelease 38 = .ok (.aload_n 0, 1) := by decide +kernel
theorem dX9_nextRelease_39 : decode cX9_nextRelease 39 = .ok (.getfield 10, 3) := by decide +kernel
theorem dX9_nextRelease_42 : decode cX9_nextRelease 42 = .ok (.iload_n 1, 1) := by decide +kernel
theorem dX9_nextRelease_43 : decode cX9_nextRelease 43 = .ok (.iload_n 2, 1) := by decide +kernel
theorem dX9_nextRelease_44 : decode cX9_nextRelease 44 = .ok (.invokevirtual 169, 3) := by decide +kernel
theorem dX9_nextRelease_47 : decode cX9_nextRelease 47 = .ok (.ireturn, 1) := by decide +kernel
theorem dX9_type_0 : decode cX9_type 0 = .ok (.iload_n 1, 1) := by decide +kernel
theorem dX9_type_1 : decode cX9_type 1 = .ok (.iconst 0, 1) := by decide +kernel
theorem dX9_type_2 : decode cX9_type 2 = .ok (.bipush 127, 2) := by decide +kernel
theorem dX9_type_4 : decode cX9_type 4 = .ok (.invokestatic 130, 3) := by decide +kernel
theorem dX9_type_7 : decode cX9_type 7 = .ok (.ifCond .eq 7, 3) := by decide +kernel
theorem dX9_type_10 : decode cX9_type 10 = .ok (.iconst 0, 1) := by decide +kernel
theorem dX9_type_11 : decode cX9_type 11 = .ok (.goto 4, 3) := by decide +kernel
theorem dX9_type_14 : decode cX9_type 14 = .ok (.iconst 2, 1) := by decide +kernel
theorem dX9_type_15 : decode cX9_type 15 = .ok (.invokestatic 34, 3) := by decide +kernel
theorem dX9_type_18 : decode cX9_type 18 = .ok (.aload_n 0, 1) := by decide +kernel
theorem dX9_type_19 : decode cX9_type 19 = .ok (.getfield 26, 3) := by decide +kernel
theorem dX9_type_22 : decode cX9_type 22 = .ok (.getfield 172, 3) := by decide +kernel
theorem dX9_type_25 : decode cX9_type 25 = .ok (.sipush 150, 3) := by decide +kernel
theorem dX9_type_28 : decode cX9_type 28 = .ok (.if_icmp .ge 7, 3) := by decide +kernel
theorem dX9_type_31 : decode cX9_type 31 = .ok (.iconst 0, 1) := by decide +kernel
theorem dX9_type_32 : decode cX9_type 32 = .ok (.goto 4, 3) := by decide +kernel
theorem dX9_type_35 : decode cX9_type 35 = .ok (.iconst 3, 1) := by decide +kernel
theorem dX9_type_36 : decode cX9_type 36 = .ok (.invokestatic 34, 3) := by decide +kernel
theorem dX9_type_39 : decode cX9_type 39 = .ok (.aload_n 0, 1) := by decide +kernel
theorem dX9_type_40 : decode cX9_type 40 = .ok (.getfield 26, 3) := by decide +kernel
theorem dX9_type_43 : decode cX9_type 43 = .ok (.iload_n 1, 1) := by decide +kernel
theorem dX9_type_44 : decode cX9_type 44 = .ok (.invokevirtual 176, 3) := by decide +kernel
theorem dX9_type_47 : decode cX9_type 47 = .ok (.ireturn, 1) := by decide +kernel
theorem dX9_clearCommands_0 : decode cX9_clearCommands 0 = .ok (.aload_n 0, 1) := by decide +kernel
theorem dX9_clearCommands_1 : decode cX9_clearCommands 1 = .ok (.getfield 26, 3) := by decide +kernel
theorem dX9_clearCommands_4 : decode cX9_clearCommands 4 = .ok (.invokevirtual 179, 3) := by decide +kernel
theorem dX9_clearCommands_7 : decode cX9_clearCommands 7 = .ok (.ireturn, 1) := by decide +kernel
theorem dX9_runCommands_0 : decode cX9_runCommands 0 = .ok (.aload_n 0, 1) := by decide +kernel
theorem dX9_runCommands_1 : decode cX9_runCommands 1 = .ok (.getfield 26, 3) := by decide +kernel
theorem dX9_runCommands_4 : decode cX9_runCommands 4 = .ok (.invokevirtual 183, 3) := by decide +kernel
theorem dX9_runCommands_7 : decode cX9_runCommands 7 = .ok (.istore_n 1, 1) := by decide +kernel
theorem dX9_runCommands_8 : decode cX9_runCommands 8 = .ok (.iload_n 1, 1) := by decide +kernel
theorem dX9_runCommands_9 : decode cX9_runCommands 9 = .ok (.iconst (-1), 1) := by decide +kernel
theorem dX9_runCommands_10 : decode cX9_runCommands 10 = .ok (.if_icmp .eq 8, 3) := by decide +kernel
theorem dX9_runCommands_13 : decode cX9_runCommands 13 = .ok (.bipush (-10), 2) := by decide +kernel
theorem dX9_runCommands_15 : decode cX9_runCommands 15 = .ok (.iload_n 1, 1) := by decide +kernel
theorem dX9_runCommands_16 : decode cX9_runCommands 16 = .ok (.isub, 1) := by decide +kernel
theorem dX9_runCommands_17 : decode cX9_runCommands 17 = .ok (.ireturn, 1) := by decide +kernel
theorem dX9_runCommands_18 : decode cX9_runCommands 18 = .ok (.aload_n 0, 1) := by decide +kernel
theorem dX9_runCommands_19 : decode cX9_runCommands 19 = .ok (.getfield 19, 3) := by decide +kernel
theorem dX9_runCommands_22 : decode cX9_runCommands 22 = .ok (.aload_n 0, 1) := by decide +kernel
theorem dX9_runCommands_23 : decode cX9_runCommands 23 = .ok (.getfield 10, 3) := by decide +kernel
theorem dX9_runCommands_26 : decode cX9_runCommands 26 = .ok (.invokevirtual 38, 3) := by decide +kernel
theorem dX9_runCommands_29 : decode cX9_runCommands 29 = .ok (.aload_n 0, 1) := by decide +kernel
theorem dX9_runCommands_30 : decode cX9_runCommands 30 = .ok (.getfield 26, 3) := by decide +kernel
theorem dX9_runCommands_33 : decode cX9_runCommands 33 = .ok (.getfield 186, 3) := by decide +kernel
theorem dX9_runCommands_36 : decode cX9_runCommands 36 = .ok (.istore_n 2, 1) := by decide +kernel
theorem dX9_runCommands_37 : decode cX9_runCommands 37 = .ok (.iconst 0, 1) := by decide +kernel
theorem dX9_runCommands_38 : decode cX9_runCommands 38 = .ok (.istore_n 3, 1) := by decide +kernel
theorem dX9_runCommands_39 : decode cX9_runCommands 39 = .ok (.iload_n 3, 1) := by decide +kernel
theorem dX9_runCommands_40 : decode cX9_runCommands 40 = .ok (.iload_n 2, 1) := by decide +kernel
theorem dX9_runCommands_41 : decode cX9_runCommands 41 = .ok (.if_icmp .ge 24, 3) := by decide +kernel
theorem dX9_runCommands_44 : decode cX9_runCommands 44 = .ok (.aload_n 0, 1) := by decide +kernel
theorem dX9_runCommands_45 : decode cX9_runCommands 45 = .ok (.iload_n 3, 1) := by decide +kernel
theorem dX9_runCommands_46 : decode cX9_runCommands 46 = .ok (.invokevirtual 189, 3) := by decide +kernel
theorem dX9_runCommands_49 : decode cX9_runCommands 49 = .ok (.ifCond .eq 5, 3) := by decide +kernel
theorem dX9_runCommands_52 : decode cX9_runCommands 52 = .ok (.iload_n 3, 1) := by decide +kernel
theorem dX9_runCommands_53 : decode cX9_runCommands 53 = .ok (.ireturn, 1) := by decide +kernel
theorem dX9_runCommands_54 : decode cX9_runCommands 54 = .ok (.aload_n 0, 1) := by decide +kernel
theorem dX9_runCommands_55 : decode cX9_runCommands 55 = .ok (.iload_n 3, 1) := by decide +kernel
theorem dX9_runCommands_56 : decode cX9_runCommands 56 = .ok (.invokevirtual 192, 3) := by decide +kernel
theorem dX9_runCommands_59 : decode cX9_runCommands 59 = .ok (.iinc 3 1, 3) := by decide +kernel
theorem dX9_runCommands_62 : decode cX9_runCommands 62 = .ok (.goto (-23), 3) := by decide +kernel
theorem dX9_runCommands_65 : decode cX9_runCommands 65 = .ok (.iload_n 2, 1) := by decide +kernel
theorem dX9_runCommands_66 : decode cX9_runCommands 66 = .ok (.ireturn, 1) := by decide +kernel
theorem dX9_undo_0 : decode cX9_undo 0 = .ok (.aload_n 0, 1) := by decide +kernel
theorem dX9_undo_1 : decode cX9_undo 1 = .ok (.getfield 19, 3) := by decide +kernel
theorem dX9_undo_4 : decode cX9_undo 4 = .ok (.getfield 195, 3) := by decide +kernel
theorem dX9_undo_7 : decode cX9_undo 7 = .ok (.ifCond .le 7, 3) := by decide +kernel
theorem dX9_undo_10 : decode cX9_undo 10 = .ok (.iconst 0, 1) := by decide +kernel
theorem dX9_undo_11 : decode cX9_undo 11 = .ok (.goto 4, 3) := by decide +kernel
theorem dX9_undo_14 : decode cX9_undo 14 = .ok (.iconst 3, 1) := by decide +kernel
theorem dX9_undo_15 : decode cX9_undo 15 = .ok (.invokestatic 34, 3) := by decide +kernel
theorem dX9_undo_18 : decode cX9_undo 18 = .ok (.aload_n 0, 1) := by decide +kernel
theorem dX9_undo_19 : decode cX9_undo 19 = .ok (.getfield 19, 3) := by decide +kernel
theorem dX9_undo_22 : decode cX9_undo 22 = .ok (.aload_n 0, 1) := by decide +kernel
theorem dX9_undo_23 : decode cX9_undo 23 = .ok (.getfield 10, 3) := by decide +kernel
theorem dX9_undo_26 : decode cX9_undo 26 = .ok (.invokevirtual 198, 3) := by decide +kernel
theorem dX9_undo_29 : decode cX9_undo 29 = .ok (.ireturn, 1) := by decide +kernel
theorem dX9_digest_0 : decode cX9_digest 0 = .ok (.ldc2_w 202, 3) := by decide +kernel
theorem dX9_digest_3 : decode cX9_digest 3 = .ok (.aload_n 0, 1) := by decide +kernel
theorem dX9_digest_4 : decode cX9_digest 4 = .ok (.getfield 19, 3) := by decide +kernel
theorem dX9_digest_7 : decode cX9_digest 7 = .ok (.getfield 195, 3) := by decide +kernel
theorem dX9_digest_10 : decode cX9_digest 10 = .ok (.invokestatic 204, 3) := by decide +kernel
theorem dX9_digest_13 : decode cX9_digest 13 = .ok (.lstore_n 1, 1) := by decide +kernel
theorem dX9_digest_14 : decode cX9_digest 14 = .ok (.iconst 0, 1) := by decide +kernel
theorem dX9_digest_15 : decode cX9_digest 15 = .ok (.istore_n 3, 1) := by decide +kernel
theorem dX9_digest_16 : decode cX9_digest 16 = .ok (.iload_n 3, 1) := by decide +kernel
theorem dX9_digest_17 : decode cX9_digest 17 = .ok (.bipush 10, 2) := by decide +kernel
theorem dX9_digest_19 : decode cX9_digest 19 = .ok (.if_icmp .ge 19, 3) := by decide +kernel
theorem dX9_digest_22 : decode cX9_digest 22 = .ok (.lload_n 1, 1) := by decide +kernel
theorem dX9_digest_23 : decode cX9_digest 23 = .ok (.aload_n 0, 1) := by decide +kernel
theorem dX9_digest_24 : decode cX9_digest 24 = .ok (.iload_n 3, 1) := by decide +kernel
theorem dX9_digest_25 : decode cX9_digest 25 = .ok (.invokevirtual 153, 3) := by decide +kernel
theorem dX9_digest_28 : decode cX9_digest 28 = .ok (.invokestatic 204, 3) := by decide +kernel
theorem dX9_digest_31 : decode cX9_digest 31 = .ok (.lstore_n 1, 1) := by decide +kernel
theorem dX9_digest_32 : decode cX9_digest 32 = .ok (.iinc 3 1, 3) := by decide +kernel
theorem dX9_digest_35 : decode cX9_digest 35 = .ok (.goto (-19), 3) := by decide +kernel
theorem dX9_digest_38 : decode cX9_digest 38 = .ok (.iconst 0, 1) := by decide +kernel
theorem dX9_digest_39 : decode cX9_digest 39 = .ok (.istore_n 3, 1) := by decide +kernel
theorem dX9_digest_40 : decode cX9_digest 40 = .ok (.iload_n 3, 1) := by decide +kernel
theorem dX9_digest_41 : decode cX9_digest 41 = .ok (.aload_n 0, 1) := by decide +kernel
theorem dX9_digest_42 : decode cX9_digest 42 = .ok (.getfield 10, 3) := by decide +kernel
theorem dX9_digest_45 : decode cX9_digest 45 = .ok (.getfield 208, 3) := by decide +kernel
theorem dX9_digest_48 : decode cX9_digest 48 = .ok (.if_icmp .ge 39, 3) := by decide +kernel
theorem dX9_digest_51 : decode cX9_digest 51 = .ok (.iconst 0, 1) := by decide +kernel
theorem dX9_digest_52 : decode cX9_digest 52 = .ok (.istore 4, 2) := by decide +kernel
theorem dX9_digest_54 : decode cX9_digest 54 = .ok (.iload 4, 2) := by decide +kernel
theorem dX9_digest_56 : decode cX9_digest 56 = .ok (.iconst 5, 1) := by decide +kernel
theorem dX9_digest_57 : decode cX9_digest 57 = .ok (.if_icmp .ge 24, 3) := by decide +kernel
theorem dX9_digest_60 : decode cX9_digest 60 = .ok (.lload_n 1, 1) := by decide +kernel
theorem dX9_digest_61 : decode cX9_digest 61 = .ok (.aload_n 0, 1) := by decide +kernel
theorem dX9_digest_62 : decode cX9_digest 62 = .ok (.getfield 10, 3) := by decide +kernel
theorem dX9_digest_65 : decode cX9_digest 65 = .ok (.iload_n 3, 1) := by decide +kernel
theorem dX9_digest_66 : decode cX9_digest 66 = .ok (.iload 4, 2) := by decide +kernel
theorem dX9_digest_68 : decode cX9_digest 68 = .ok (.invokevirtual 134, 3) := by decide +kernel
theorem dX9_digest_71 : decode cX9_digest 71 = .ok (.invokestatic 204, 3) := by decide +kernel
theorem dX9_digest_74 : decode cX9_digest 74 = .ok (.lstore_n 1, 1) := by decide +kernel
theorem dX9_digest_75 : decode cX9_digest 75 = .ok (.iinc 4 1, 3) := by decide +kernel
theorem dX9_digest_78 : decode cX9_digest 78 = .ok (.goto (-24), 3) := by decide +kernel
theorem dX9_digest_81 : decode cX9_digest 81 = .ok (.iinc 3 1, 3) := by decide +kernel
theorem dX9_digest_84 : decode cX9_digest 84 = .ok (.goto (-44), 3) := by decide +kernel
theorem dX9_digest_87 : decode cX9_digest 87 = .ok (.iconst 0, 1) := by decide +kernel
theorem dX9_digest_88 : decode cX9_digest 88 = .ok (.istore_n 3, 1) := by decide +kernel
theorem dX9_digest_89 : decode cX9_digest 89 = .ok (.iload_n 3, 1) := by decide +kernel
theorem dX9_digest_90 : decode cX9_digest 90 = .ok (.aload_n 0, 1) := by decide +kernel
theorem dX9_digest_91 : decode cX9_digest 91 = .ok (.getfield 10, 3) := by decide +kernel
theorem dX9_digest_94 : decode cX9_digest 94 = .ok (.getfield 211, 3) := by decide +kernel
theorem dX9_digest_97 : decode cX9_digest 97 = .ok (.if_icmp .ge 16, 3) := by decide +kernel
theorem dX9_digest_100 : decode cX9_digest 100 = .ok (.aload_n 0, 1) := by decide +kernel
theorem dX9_digest_101 : decode cX9_digest 101 = .ok (.lload_n 1, 1) := by decide +kernel
theorem dX9_digest_102 : decode cX9_digest 102 = .ok (.iload_n 3, 1) := by decide +kernel
theorem dX9_digest_103 : decode cX9_digest 103 = .ok (.invokevirtual 214, 3) := by decide +kernel
theorem dX9_digest_106 : decode cX9_digest 106 = .ok (.lstore_n 1, 1) := by decide +kernel
theorem dX9_digest_107 : decode cX9_digest 107 = .ok (.iinc 3 1, 3) := by decide +kernel
theorem dX9_digest_110 : decode cX9_digest 110 = .ok (.goto (-21), 3) := by decide +kernel
theorem dX9_digest_113 : decode cX9_digest 113 = .ok (.lload_n 1, 1) := by decide +kernel
theorem dX9_digest_114 : decode cX9_digest 114 = .ok (.lreturn, 1) := by decide +kernel
theorem dX9_withValue_0 : decode cX9_withValue 0 = .ok (.ldc2_w 217, 3) := by decide +kernel
theorem dX9_withValue_3 : decode cX9_withValue 3 = .ok (.lload_n 0, 1) := by decide +kernel
theorem dX9_withValue_4 : decode cX9_withValue 4 = .ok (.lmul, 1) := by decide +kernel
theorem dX9_withValue_5 : decode cX9_withValue 5 = .ok (.iload_n 2, 1) := by decide +kernel
theorem dX9_withValue_6 : decode cX9_withValue 6 = .ok (.i2l, 1) := by decide +kernel
theorem dX9_withValue_7 : decode cX9_withValue 7 = .ok (.ladd, 1) := by decide +kernel
theorem dX9_withValue_8 : decode cX9_withValue 8 = .ok (.lreturn, 1) := by decide +kernel
theorem dX9_withApprentice_0 : decode cX9_withApprentice 0 = .ok (.lload_n 1, 1) := by decide +kernel
theorem dX9_withApprentice_1 : decode cX9_withApprentice 1 = .ok (.lstore 4, 2) := by decide +kernel
