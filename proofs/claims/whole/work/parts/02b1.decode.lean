theorem dX5_placeAt_6 : decode cX5_placeAt 6 = .ok (.ireturn, 1) := by decide +kernel
theorem dX5_beside_0 : decode cX5_beside 0 = .ok (.iload_n 1, 1) := by decide +kernel
theorem dX5_beside_1 : decode cX5_beside 1 = .ok (.tableswitch 74 0 2 #[27, 42, 59], 27) := by decide +kernel
theorem dX5_beside_28 : decode cX5_beside 28 = .ok (.iload_n 0, 1) := by decide +kernel
theorem dX5_beside_29 : decode cX5_beside 29 = .ok (.bipush 10, 2) := by decide +kernel
theorem dX5_beside_31 : decode cX5_beside 31 = .ok (.if_icmp .lt 10, 3) := by decide +kernel
theorem dX5_beside_34 : decode cX5_beside 34 = .ok (.iload_n 0, 1) := by decide +kernel
theorem dX5_beside_35 : decode cX5_beside 35 = .ok (.bipush 10, 2) := by decide +kernel
theorem dX5_beside_37 : decode cX5_beside 37 = .ok (.isub, 1) := by decide +kernel
theorem dX5_beside_38 : decode cX5_beside 38 = .ok (.goto 4, 3) := by decide +kernel
theorem dX5_beside_41 : decode cX5_beside 41 = .ok (.iconst (-1), 1) := by decide +kernel
theorem dX5_beside_42 : decode cX5_beside 42 = .ok (.ireturn, 1) := by decide +kernel
theorem dX5_beside_43 : decode cX5_beside 43 = .ok (.iload_n 0, 1) := by decide +kernel
theorem dX5_beside_44 : decode cX5_beside 44 = .ok (.bipush 10, 2) := by decide +kernel
theorem dX5_beside_46 : decode cX5_beside 46 = .ok (.irem, 1) := by decide +kernel
theorem dX5_beside_47 : decode cX5_beside 47 = .ok (.bipush 9, 2) := by decide +kernel
theorem dX5_beside_49 : decode cX5_beside 49 = .ok (.if_icmp .ge 9, 3) := by decide +kernel
theorem dX5_beside_52 : decode cX5_beside 52 = .ok (.iload_n 0, 1) := by decide +kernel
theorem dX5_beside_53 : decode cX5_beside 53 = .ok (.iconst 1, 1) := by decide +kernel
theorem dX5_beside_54 : decode cX5_beside 54 = .ok (.iadd, 1) := by decide +kernel
theorem dX5_beside_55 : decode cX5_beside 55 = .ok (.goto 4, 3) := by decide +kernel
theorem dX5_beside_58 : decode cX5_beside 58 = .ok (.iconst (-1), 1) := by decide +kernel
theorem dX5_beside_59 : decode cX5_beside 59 = .ok (.ireturn, 1) := by decide +kernel
theorem dX5_beside_60 : decode cX5_beside 60 = .ok (.iload_n 0, 1) := by decide +kernel
theorem dX5_beside_61 : decode cX5_beside 61 = .ok (.bipush 90, 2) := by decide +kernel
theorem dX5_beside_63 : decode cX5_beside 63 = .ok (.if_icmp .ge 10, 3) := by decide +kernel
theorem dX5_beside_66 : decode cX5_beside 66 = .ok (.iload_n 0, 1) := by decide +kernel
theorem dX5_beside_67 : decode cX5_beside 67 = .ok (.bipush 10, 2) := by decide +kernel
theorem dX5_beside_69 : decode cX5_beside 69 = .ok (.iadd, 1) := by decide +kernel
theorem dX5_beside_70 : decode cX5_beside 70 = .ok (.goto 4, 3) := by decide +kernel
theorem dX5_beside_73 : decode cX5_beside 73 = .ok (.iconst (-1), 1) := by decide +kernel
theorem dX5_beside_74 : decode cX5_beside 74 = .ok (.ireturn, 1) := by decide +kernel
theorem dX5_beside_75 : decode cX5_beside 75 = .ok (.iload_n 0, 1) := by decide +kernel
theorem dX5_beside_76 : decode cX5_beside 76 = .ok (.bipush 10, 2) := by decide +kernel
theorem dX5_beside_78 : decode cX5_beside 78 = .ok (.irem, 1) := by decide +kernel
theorem dX5_beside_79 : decode cX5_beside 79 = .ok (.ifCond .le 9, 3) := by decide +kernel
theorem dX5_beside_82 : decode cX5_beside 82 = .ok (.iload_n 0, 1) := by decide +kernel
theorem dX5_beside_83 : decode cX5_beside 83 = .ok (.iconst 1, 1) := by decide +kernel
theorem dX5_beside_84 : decode cX5_beside 84 = .ok (.isub, 1) := by decide +kernel
theorem dX5_beside_85 : decode cX5_beside 85 = .ok (.goto 4, 3) := by decide +kernel
theorem dX5_beside_88 : decode cX5_beside 88 = .ok (.iconst (-1), 1) := by decide +kernel
theorem dX5_beside_89 : decode cX5_beside 89 = .ok (.ireturn, 1) := by decide +kernel
theorem dX5_sideBetween_0 : decode cX5_sideBetween 0 = .ok (.iload_n 0, 1) := by decide +kernel
theorem dX5_sideBetween_1 : decode cX5_sideBetween 1 = .ok (.iload_n 1, 1) := by decide +kernel
theorem dX5_sideBetween_2 : decode cX5_sideBetween 2 = .ok (.invokestatic 265, 3) := by decide +kernel
theorem dX5_sideBetween_5 : decode cX5_sideBetween 5 = .ok (.iconst 2, 1) := by decide +kernel
theorem dX5_sideBetween_6 : decode cX5_sideBetween 6 = .ok (.imul, 1) := by decide +kernel
theorem dX5_sideBetween_7 : decode cX5_sideBetween 7 = .ok (.iload_n 2, 1) := by decide +kernel
theorem dX5_sideBetween_8 : decode cX5_sideBetween 8 = .ok (.iconst 2, 1) := by decide +kernel
theorem dX5_sideBetween_9 : decode cX5_sideBetween 9 = .ok (.irem, 1) := by decide +kernel
theorem dX5_sideBetween_10 : decode cX5_sideBetween 10 = .ok (.iadd, 1) := by decide +kernel
theorem dX5_sideBetween_11 : decode cX5_sideBetween 11 = .ok (.ireturn, 1) := by decide +kernel
theorem dX5_turn_0 : decode cX5_turn 0 = .ok (.aload_n 0, 1) := by decide +kernel
theorem dX5_turn_1 : decode cX5_turn 1 = .ok (.getfield 28, 3) := by decide +kernel
theorem dX5_turn_4 : decode cX5_turn 4 = .ok (.getfield 106, 3) := by decide +kernel
theorem dX5_turn_7 : decode cX5_turn 7 = .ok (.iload_n 1, 1) := by decide +kernel
theorem dX5_turn_8 : decode cX5_turn 8 = .ok (.baload, 1) := by decide +kernel
theorem dX5_turn_9 : decode cX5_turn 9 = .ok (.iload_n 2, 1) := by decide +kernel
theorem dX5_turn_10 : decode cX5_turn 10 = .ok (.if_icmp .ne 5, 3) := by decide +kernel
theorem dX5_turn_13 : decode cX5_turn 13 = .ok (.iconst 0, 1) := by decide +kernel
theorem dX5_turn_14 : decode cX5_turn 14 = .ok (.ireturn, 1) := by decide +kernel
theorem dX5_turn_15 : decode cX5_turn 15 = .ok (.aload_n 0, 1) := by decide +kernel
theorem dX5_turn_16 : decode cX5_turn 16 = .ok (.getfield 28, 3) := by decide +kernel
theorem dX5_turn_19 : decode cX5_turn 19 = .ok (.getfield 106, 3) := by decide +kernel
theorem dX5_turn_22 : decode cX5_turn 22 = .ok (.iload_n 1, 1) := by decide +kernel
theorem dX5_turn_23 : decode cX5_turn 23 = .ok (.iload_n 2, 1) := by decide +kernel
theorem dX5_turn_24 : decode cX5_turn 24 = .ok (.bastore, 1) := by decide +kernel
theorem dX5_turn_25 : decode cX5_turn 25 = .ok (.iconst 1, 1) := by decide +kernel
theorem dX5_turn_26 : decode cX5_turn 26 = .ok (.ireturn, 1) := by decide +kernel
theorem dX5_goThroughLines_0 : decode cX5_goThroughLines 0 = .ok (.iconst 0, 1) := by decide +kernel
theorem dX5_goThroughLines_1 : decode cX5_goThroughLines 1 = .ok (.istore_n 1, 1) := by decide +kernel
theorem dX5_goThroughLines_2 : decode cX5_goThroughLines 2 = .ok (.iconst 0, 1) := by decide +kernel
theorem dX5_goThroughLines_3 : decode cX5_goThroughLines 3 = .ok (.istore_n 2, 1) := by decide +kernel
theorem dX5_goThroughLines_4 : decode cX5_goThroughLines 4 = .ok (.iload_n 2, 1) := by decide +kernel
theorem dX5_goThroughLines_5 : decode cX5_goThroughLines 5 = .ok (.aload_n 0, 1) := by decide +kernel
theorem dX5_goThroughLines_6 : decode cX5_goThroughLines 6 = .ok (.getfield 129, 3) := by decide +kernel
theorem dX5_goThroughLines_9 : decode cX5_goThroughLines 9 = .ok (.if_icmp .ge 25, 3) := by decide +kernel
theorem dX5_goThroughLines_12 : decode cX5_goThroughLines 12 = .ok (.aload_n 0, 1) := by decide +kernel
theorem dX5_goThroughLines_13 : decode cX5_goThroughLines 13 = .ok (.aload_n 0, 1) := by decide +kernel
theorem dX5_goThroughLines_14 : decode cX5_goThroughLines 14 = .ok (.getfield 21, 3) := by decide +kernel
theorem dX5_goThroughLines_17 : decode cX5_goThroughLines 17 = .ok (.iload_n 2, 1) := by decide +kernel
theorem dX5_goThroughLines_18 : decode cX5_goThroughLines 18 = .ok (.aaload, 1) := by decide +kernel
theorem dX5_goThroughLines_19 : decode cX5_goThroughLines 19 = .ok (.invokevirtual 270, 3) := by decide +kernel
theorem dX5_goThroughLines_22 : decode cX5_goThroughLines 22 = .ok (.ifCond .eq 6, 3) := by decide +kernel
theorem dX5_goThroughLines_25 : decode cX5_goThroughLines 25 = .ok (.iinc 1 1, 3) := by decide +kernel
theorem dX5_goThroughLines_28 : decode cX5_goThroughLines 28 = .ok (.iinc 2 1, 3) := by decide +kernel
theorem dX5_goThroughLines_31 : decode cX5_goThroughLines 31 = .ok (.goto (-27), 3) := by decide +kernel
theorem dX5_goThroughLines_34 : decode cX5_goThroughLines 34 = .ok (.iload_n 1, 1) := by decide +kernel
theorem dX5_goThroughLines_35 : decode cX5_goThroughLines 35 = .ok (.ireturn, 1) := by decide +kernel
theorem dX5_leadIfBetter_0 : decode cX5_leadIfBetter 0 = .ok (.aload_n 0, 1) := by decide +kernel
theorem dX5_leadIfBetter_1 : decode cX5_leadIfBetter 1 = .ok (.getfield 35, 3) := by decide +kernel
theorem dX5_leadIfBetter_4 : decode cX5_leadIfBetter 4 = .ok (.aload_n 0, 1) := by decide +kernel
theorem dX5_leadIfBetter_5 : decode cX5_leadIfBetter 5 = .ok (.getfield 28, 3) := by decide +kernel
theorem dX5_leadIfBetter_8 : decode cX5_leadIfBetter 8 = .ok (.aload_n 1, 1) := by decide +kernel
theorem dX5_leadIfBetter_9 : decode cX5_leadIfBetter 9 = .ok (.invokevirtual 144, 3) := by decide +kernel
theorem dX5_leadIfBetter_12 : decode cX5_leadIfBetter 12 = .ok (.ifCond .ne 5, 3) := by decide +kernel
theorem dX5_leadIfBetter_15 : decode cX5_leadIfBetter 15 = .ok (.iconst 0, 1) := by decide +kernel
theorem dX5_leadIfBetter_16 : decode cX5_leadIfBetter 16 = .ok (.ireturn, 1) := by decide +kernel
theorem dX5_leadIfBetter_17 : decode cX5_leadIfBetter 17 = .ok (.aload_n 1, 1) := by decide +kernel
theorem dX5_leadIfBetter_18 : decode cX5_leadIfBetter 18 = .ok (.invokevirtual 169, 3) := by decide +kernel
theorem dX5_leadIfBetter_21 : decode cX5_leadIfBetter 21 = .ok (.ifCond .eq 23, 3) := by decide +kernel
theorem dX5_leadIfBetter_24 : decode cX5_leadIfBetter 24 = .ok (.aload_n 0, 1) := by decide +kernel
theorem dX5_leadIfBetter_25 : decode cX5_leadIfBetter 25 = .ok (.getfield 35, 3) := by decide +kernel
theorem dX5_leadIfBetter_28 : decode cX5_leadIfBetter 28 = .ok (.getfield 162, 3) := by decide +kernel
theorem dX5_leadIfBetter_31 : decode cX5_leadIfBetter 31 = .ok (.aload_n 0, 1) := by decide +kernel
theorem dX5_leadIfBetter_32 : decode cX5_leadIfBetter 32 = .ok (.getfield 28, 3) := by decide +kernel
theorem dX5_leadIfBetter_35 : decode cX5_leadIfBetter 35 = .ok (.aload_n 1, 1) := by decide +kernel
theorem dX5_leadIfBetter_36 : decode cX5_leadIfBetter 36 = .ok (.invokevirtual 274, 3) := by decide +kernel
theorem dX5_leadIfBetter_39 : decode cX5_leadIfBetter 39 = .ok (.if_icmp .lt 5, 3) := by decide +kernel
theorem dX5_leadIfBetter_42 : decode cX5_leadIfBetter 42 = .ok (.iconst 0, 1) := by decide +kernel
theorem dX5_leadIfBetter_43 : decode cX5_leadIfBetter 43 = .ok (.ireturn, 1) := by decide +kernel
theorem dX5_leadIfBetter_44 : decode cX5_leadIfBetter 44 = .ok (.aload_n 0, 1) := by decide +kernel
theorem dX5_leadIfBetter_45 : decode cX5_leadIfBetter 45 = .ok (.getfield 28, 3) := by decide +kernel
theorem dX5_leadIfBetter_48 : decode cX5_leadIfBetter 48 = .ok (.aload_n 1, 1) := by decide +kernel
theorem dX5_leadIfBetter_49 : decode cX5_leadIfBetter 49 = .ok (.aload_n 0, 1) := by decide +kernel
theorem dX5_leadIfBetter_50 : decode cX5_leadIfBetter 50 = .ok (.getfield 35, 3) := by decide +kernel
theorem dX5_leadIfBetter_53 : decode cX5_leadIfBetter 53 = .ok (.getfield 152, 3) := by decide +kernel
theorem dX5_leadIfBetter_56 : decode cX5_leadIfBetter 56 = .ok (.iconst 0, 1) := by decide +kernel
theorem dX5_leadIfBetter_57 : decode cX5_leadIfBetter 57 = .ok (.aload_n 0, 1) := by decide +kernel
theorem dX5_leadIfBetter_58 : decode cX5_leadIfBetter 58 = .ok (.getfield 35, 3) := by decide +kernel
theorem dX5_leadIfBetter_61 : decode cX5_leadIfBetter 61 = .ok (.getfield 155, 3) := by decide +kernel
theorem dX5_leadIfBetter_64 : decode cX5_leadIfBetter 64 = .ok (.invokevirtual 158, 3) := by decide +kernel
theorem dX5_leadIfBetter_67 : decode cX5_leadIfBetter 67 = .ok (.iconst 1, 1) := by decide +kernel
theorem dX5_leadIfBetter_68 : decode cX5_leadIfBetter 68 = .ok (.ireturn, 1) := by decide +kernel
theorem dX5_sidesOfWays_0 : decode cX5_sidesOfWays 0 = .ok (.iconst 0, 1) := by decide +kernel
theorem dX5_sidesOfWays_1 : decode cX5_sidesOfWays 1 = .ok (.istore_n 1, 1) := by decide +kernel
theorem dX5_sidesOfWays_2 : decode cX5_sidesOfWays 2 = .ok (.iconst 0, 1) := by decide +kernel
theorem dX5_sidesOfWays_3 : decode cX5_sidesOfWays 3 = .ok (.istore_n 2, 1) := by decide +kernel
theorem dX5_sidesOfWays_4 : decode cX5_sidesOfWays 4 = .ok (.iload_n 2, 1) := by decide +kernel
theorem dX5_sidesOfWays_5 : decode cX5_sidesOfWays 5 = .ok (.aload_n 0, 1) := by decide +kernel
theorem dX5_sidesOfWays_6 : decode cX5_sidesOfWays 6 = .ok (.getfield 129, 3) := by decide +kernel
theorem dX5_sidesOfWays_9 : decode cX5_sidesOfWays 9 = .ok (.if_icmp .ge 21, 3) := by decide +kernel
theorem dX5_sidesOfWays_12 : decode cX5_sidesOfWays 12 = .ok (.iload_n 1, 1) := by decide +kernel
theorem dX5_sidesOfWays_13 : decode cX5_sidesOfWays 13 = .ok (.aload_n 0, 1) := by decide +kernel
theorem dX5_sidesOfWays_14 : decode cX5_sidesOfWays 14 = .ok (.getfield 21, 3) := by decide +kernel
theorem dX5_sidesOfWays_17 : decode cX5_sidesOfWays 17 = .ok (.iload_n 2, 1) := by decide +kernel
theorem dX5_sidesOfWays_18 : decode cX5_sidesOfWays 18 = .ok (.aaload, 1) := by decide +kernel
theorem dX5_sidesOfWays_19 : decode cX5_sidesOfWays 19 = .ok (.getfield 177, 3) := by decide +kernel
theorem dX5_sidesOfWays_22 : decode cX5_sidesOfWays 22 = .ok (.iadd, 1) := by decide +kernel
theorem dX5_sidesOfWays_23 : decode cX5_sidesOfWays 23 = .ok (.istore_n 1, 1) := by decide +kernel
theorem dX5_sidesOfWays_24 : decode cX5_sidesOfWays 24 = .ok (.iinc 2 1, 3) := by decide +kernel
theorem dX5_sidesOfWays_27 : decode cX5_sidesOfWays 27 = .ok (.goto (-23), 3) := by decide +kernel
theorem dX5_sidesOfWays_30 : decode cX5_sidesOfWays 30 = .ok (.iload_n 1, 1) := by decide +kernel
theorem dX5_sidesOfWays_31 : decode cX5_sidesOfWays 31 = .ok (.ireturn, 1) := by decide +kernel
theorem dX5_waysMask_0 : decode cX5_waysMask 0 = .ok (.iconst 0, 1) := by decide +kernel
theorem dX5_waysMask_1 : decode cX5_waysMask 1 = .ok (.istore_n 1, 1) := by decide +kernel
theorem dX5_waysMask_2 : decode cX5_waysMask 2 = .ok (.iconst 0, 1) := by decide +kernel
theorem dX5_waysMask_3 : decode cX5_waysMask 3 = .ok (.istore_n 2, 1) := by decide +kernel
theorem dX5_waysMask_4 : decode cX5_waysMask 4 = .ok (.iload_n 2, 1) := by decide +kernel
theorem dX5_waysMask_5 : decode cX5_waysMask 5 = .ok (.aload_n 0, 1) := by decide +kernel
theorem dX5_waysMask_6 : decode cX5_waysMask 6 = .ok (.getfield 129, 3) := by decide +kernel
theorem dX5_waysMask_9 : decode cX5_waysMask 9 = .ok (.if_icmp .ge 33, 3) := by decide +kernel
theorem dX5_waysMask_12 : decode cX5_waysMask 12 = .ok (.aload_n 0, 1) := by decide +kernel
theorem dX5_waysMask_13 : decode cX5_waysMask 13 = .ok (.getfield 21, 3) := by decide +kernel
theorem dX5_waysMask_16 : decode cX5_waysMask 16 = .ok (.iload_n 2, 1) := by decide +kernel
theorem dX5_waysMask_17 : decode cX5_waysMask 17 = .ok (.aaload, 1) := by decide +kernel
theorem dX5_waysMask_18 : decode cX5_waysMask 18 = .ok (.invokevirtual 169, 3) := by decide +kernel
theorem dX5_waysMask_21 : decode cX5_waysMask 21 = .ok (.ifCond .eq 15, 3) := by decide +kernel
theorem dX5_waysMask_24 : decode cX5_waysMask 24 = .ok (.iload_n 1, 1) := by decide +kernel
theorem dX5_waysMask_25 : decode cX5_waysMask 25 = .ok (.aload_n 0, 1) := by decide +kernel
theorem dX5_waysMask_26 : decode cX5_waysMask 26 = .ok (.getfield 21, 3) := by decide +kernel
theorem dX5_waysMask_29 : decode cX5_waysMask 29 = .ok (.iload_n 2, 1) := by decide +kernel
theorem dX5_waysMask_30 : decode cX5_waysMask 30 = .ok (.aaload, 1) := by decide +kernel
theorem dX5_waysMask_31 : decode cX5_waysMask 31 = .ok (.getfield 206, 3) := by decide +kernel
theorem dX5_waysMask_34 : decode cX5_waysMask 34 = .ok (.ior, 1) := by decide +kernel
theorem dX5_waysMask_35 : decode cX5_waysMask 35 = .ok (.istore_n 1, 1) := by decide +kernel
theorem dX5_waysMask_36 : decode cX5_waysMask 36 = .ok (.iinc 2 1, 3) := by decide +kernel
theorem dX5_waysMask_39 : decode cX5_waysMask 39 = .ok (.goto (-35), 3) := by decide +kernel
theorem dX5_waysMask_42 : decode cX5_waysMask 42 = .ok (.iload_n 1, 1) := by decide +kernel
theorem dX5_waysMask_43 : decode cX5_waysMask 43 = .ok (.ireturn, 1) := by decide +kernel
theorem dX5_isEndOfWay_0 : decode cX5_isEndOfWay 0 = .ok (.iconst 0, 1) := by decide +kernel
theorem dX5_isEndOfWay_1 : decode cX5_isEndOfWay 1 = .ok (.istore_n 2, 1) := by decide +kernel
theorem dX5_isEndOfWay_2 : decode cX5_isEndOfWay 2 = .ok (.iload_n 2, 1) := by decide +kernel
theorem dX5_isEndOfWay_3 : decode cX5_isEndOfWay 3 = .ok (.aload_n 0, 1) := by decide +kernel
theorem dX5_isEndOfWay_4 : decode cX5_isEndOfWay 4 = .ok (.getfield 129, 3) := by decide +kernel
theorem dX5_isEndOfWay_7 : decode cX5_isEndOfWay 7 = .ok (.if_icmp .ge 49, 3) := by decide +kernel
theorem dX5_isEndOfWay_10 : decode cX5_isEndOfWay 10 = .ok (.aload_n 0, 1) := by decide +kernel
theorem dX5_isEndOfWay_11 : decode cX5_isEndOfWay 11 = .ok (.getfield 21, 3) := by decide +kernel
theorem dX5_isEndOfWay_14 : decode cX5_isEndOfWay 14 = .ok (.iload_n 2, 1) := by decide +kernel
theorem dX5_isEndOfWay_15 : decode cX5_isEndOfWay 15 = .ok (.aaload, 1) := by decide +kernel
theorem dX5_isEndOfWay_16 : decode cX5_isEndOfWay 16 = .ok (.invokevirtual 169, 3) := by decide +kernel
theorem dX5_isEndOfWay_19 : decode cX5_isEndOfWay 19 = .ok (.ifCond .eq 31, 3) := by decide +kernel
theorem dX5_isEndOfWay_22 : decode cX5_isEndOfWay 22 = .ok (.aload_n 0, 1) := by decide +kernel
theorem dX5_isEndOfWay_23 : decode cX5_isEndOfWay 23 = .ok (.getfield 21, 3) := by decide +kernel
theorem dX5_isEndOfWay_26 : decode cX5_isEndOfWay 26 = .ok (.iload_n 2, 1) := by decide +kernel
theorem dX5_isEndOfWay_27 : decode cX5_isEndOfWay 27 = .ok (.aaload, 1) := by decide +kernel
theorem dX5_isEndOfWay_28 : decode cX5_isEndOfWay 28 = .ok (.getfield 277, 3) := by decide +kernel
theorem dX5_isEndOfWay_31 : decode cX5_isEndOfWay 31 = .ok (.iload_n 1, 1) := by decide +kernel
theorem dX5_isEndOfWay_32 : decode cX5_isEndOfWay 32 = .ok (.if_icmp .eq 16, 3) := by decide +kernel
theorem dX5_isEndOfWay_35 : decode cX5_isEndOfWay 35 = .ok (.aload_n 0, 1) := by decide +kernel
theorem dX5_isEndOfWay_36 : decode cX5_isEndOfWay 36 = .ok (.getfield 21, 3) := by decide +kernel
theorem dX5_isEndOfWay_39 : decode cX5_isEndOfWay 39 = .ok (.iload_n 2, 1) := by decide +kernel
theorem dX5_isEndOfWay_40 : decode cX5_isEndOfWay 40 = .ok (.aaload, 1) := by decide +kernel
theorem dX5_isEndOfWay_41 : decode cX5_isEndOfWay 41 = .ok (.getfield 280, 3) := by decide +kernel
theorem dX5_isEndOfWay_44 : decode cX5_isEndOfWay 44 = .ok (.iload_n 1, 1) := by decide +kernel
theorem dX5_isEndOfWay_45 : decode cX5_isEndOfWay 45 = .ok (.if_icmp .ne 5, 3) := by decide +kernel
theorem dX5_isEndOfWay_48 : decode cX5_isEndOfWay 48 = .ok (.iconst 1, 1) := by decide +kernel
theorem dX5_isEndOfWay_49 : decode cX5_isEndOfWay 49 = .ok (.ireturn, 1) := by decide +kernel
theorem dX5_isEndOfWay_50 : decode cX5_isEndOfWay 50 = .ok (.iinc 2 1, 3) := by decide +kernel
theorem dX5_isEndOfWay_53 : decode cX5_isEndOfWay 53 = .ok (.goto (-51), 3) := by decide +kernel
theorem dX5_isEndOfWay_56 : decode cX5_isEndOfWay 56 = .ok (.iconst 0, 1) := by decide +kernel
theorem dX5_isEndOfWay_57 : decode cX5_isEndOfWay 57 = .ok (.ireturn, 1) := by decide +kernel
theorem dX5_sheetsThere_0 : decode cX5_sheetsThere 0 = .ok (.iconst 0, 1) := by decide +kernel
theorem dX5_sheetsThere_1 : decode cX5_sheetsThere 1 = .ok (.istore_n 1, 1) := by decide +kernel
theorem dX5_sheetsThere_2 : decode cX5_sheetsThere 2 = .ok (.iconst 0, 1) := by decide +kernel
theorem dX5_sheetsThere_3 : decode cX5_sheetsThere 3 = .ok (.istore_n 2, 1) := by decide +kernel
theorem dX5_sheetsThere_4 : decode cX5_sheetsThere 4 = .ok (.iload_n 2, 1) := by decide +kernel
theorem dX5_sheetsThere_5 : decode cX5_sheetsThere 5 = .ok (.bipush 8, 2) := by decide +kernel
theorem dX5_sheetsThere_7 : decode cX5_sheetsThere 7 = .ok (.if_icmp .ge 24, 3) := by decide +kernel
theorem dX5_sheetsThere_10 : decode cX5_sheetsThere 10 = .ok (.aload_n 0, 1) := by decide +kernel
theorem dX5_sheetsThere_11 : decode cX5_sheetsThere 11 = .ok (.getfield 11, 3) := by decide +kernel
theorem dX5_sheetsThere_14 : decode cX5_sheetsThere 14 = .ok (.iload_n 2, 1) := by decide +kernel
theorem dX5_sheetsThere_15 : decode cX5_sheetsThere 15 = .ok (.aaload, 1) := by decide +kernel
theorem dX5_sheetsThere_16 : decode cX5_sheetsThere 16 = .ok (.invokevirtual 69, 3) := by decide +kernel
theorem dX5_sheetsThere_19 : decode cX5_sheetsThere 19 = .ok (.ifCond .ne 6, 3) := by decide +kernel
theorem dX5_sheetsThere_22 : decode cX5_sheetsThere 22 = .ok (.iinc 1 1, 3) := by decide +kernel
theorem dX5_sheetsThere_25 : decode cX5_sheetsThere 25 = .ok (.iinc 2 1, 3) := by decide +kernel
theorem dX5_sheetsThere_28 : decode cX5_sheetsThere 28 = .ok (.goto (-24), 3) := by decide +kernel
theorem dX5_sheetsThere_31 : decode cX5_sheetsThere 31 = .ok (.iload_n 1, 1) := by decide +kernel
theorem dX5_sheetsThere_32 : decode cX5_sheetsThere 32 = .ok (.ireturn, 1) := by decide +kernel
theorem dX5_linesOfKind_0 : decode cX5_linesOfKind 0 = .ok (.iconst 0, 1) := by decide +kernel
theorem dX5_linesOfKind_1 : decode cX5_linesOfKind 1 = .ok (.istore_n 2, 1) := by decide +kernel
theorem dX5_linesOfKind_2 : decode cX5_linesOfKind 2 = .ok (.iconst 0, 1) := by decide +kernel
theorem dX5_linesOfKind_3 : decode cX5_linesOfKind 3 = .ok (.istore_n 3, 1) := by decide +kernel
theorem dX5_linesOfKind_4 : decode cX5_linesOfKind 4 = .ok (.iload_n 3, 1) := by decide +kernel
theorem dX5_linesOfKind_5 : decode cX5_linesOfKind 5 = .ok (.aload_n 0, 1) := by decide +kernel
theorem dX5_linesOfKind_6 : decode cX5_linesOfKind 6 = .ok (.getfield 129, 3) := by decide +kernel
theorem dX5_linesOfKind_9 : decode cX5_linesOfKind 9 = .ok (.if_icmp .ge 29, 3) := by decide +kernel
theorem dX5_linesOfKind_12 : decode cX5_linesOfKind 12 = .ok (.aload_n 0, 1) := by decide +kernel
theorem dX5_linesOfKind_13 : decode cX5_linesOfKind 13 = .ok (.getfield 28, 3) := by decide +kernel
theorem dX5_linesOfKind_16 : decode cX5_linesOfKind 16 = .ok (.aload_n 0, 1) := by decide +kernel
theorem dX5_linesOfKind_17 : decode cX5_linesOfKind 17 = .ok (.getfield 21, 3) := by decide +kernel
theorem dX5_linesOfKind_20 : decode cX5_linesOfKind 20 = .ok (.iload_n 3, 1) := by decide +kernel
theorem dX5_linesOfKind_21 : decode cX5_linesOfKind 21 = .ok (.aaload, 1) := by decide +kernel
theorem dX5_linesOfKind_22 : decode cX5_linesOfKind 22 = .ok (.invokevirtual 234, 3) := by decide +kernel
theorem dX5_linesOfKind_25 : decode cX5_linesOfKind 25 = .ok (.iload_n 1, 1) := by decide +kernel
theorem dX5_linesOfKind_26 : decode cX5_linesOfKind 26 = .ok (.if_icmp .ne 6, 3) := by decide +kernel
theorem dX5_linesOfKind_29 : decode cX5_linesOfKind 29 = .ok (.iinc 2 1, 3) := by decide +kernel
theorem dX5_linesOfKind_32 : decode cX5_linesOfKind 32 = .ok (.iinc 3 1, 3) := by decide +kernel
theorem dX5_linesOfKind_35 : decode cX5_linesOfKind 35 = .ok (.goto (-31), 3) := by decide +kernel
theorem dX5_linesOfKind_38 : decode cX5_linesOfKind 38 = .ok (.iload_n 2, 1) := by decide +kernel
theorem dX5_linesOfKind_39 : decode cX5_linesOfKind 39 = .ok (.ireturn, 1) := by decide +kernel
theorem dX5_leave_0 : decode cX5_leave 0 = .ok (.aload_n 0, 1) := by decide +kernel
theorem dX5_leave_1 : decode cX5_leave 1 = .ok (.getfield 238, 3) := by decide +kernel
theorem dX5_leave_4 : decode cX5_leave 4 = .ok (.bipush 16, 2) := by decide +kernel
theorem dX5_leave_6 : decode cX5_leave 6 = .ok (.if_icmp .ge 23, 3) := by decide +kernel
theorem dX5_leave_9 : decode cX5_leave 9 = .ok (.aload_n 0, 1) := by decide +kernel
theorem dX5_leave_10 : decode cX5_leave 10 = .ok (.getfield 46, 3) := by decide +kernel
theorem dX5_leave_13 : decode cX5_leave 13 = .ok (.aload_n 0, 1) := by decide +kernel
theorem dX5_leave_14 : decode cX5_leave 14 = .ok (.getfield 238, 3) := by decide +kernel
theorem dX5_leave_17 : decode cX5_leave 17 = .ok (.iload_n 1, 1) := by decide +kernel
theorem dX5_leave_18 : decode cX5_leave 18 = .ok (.iastore, 1) := by decide +kernel
theorem dX5_leave_19 : decode cX5_leave 19 = .ok (.aload_n 0, 1) := by decide +kernel
theorem dX5_leave_20 : decode cX5_leave 20 = .ok (.dup, 1) := by decide +kernel
theorem dX5_leave_21 : decode cX5_leave 21 = .ok (.getfield 238, 3) := by decide +kernel
theorem dX5_leave_24 : decode cX5_leave 24 = .ok (.iconst 1, 1) := by decide +kernel
theorem dX5_leave_25 : decode cX5_leave 25 = .ok (.iadd, 1) := by decide +kernel
theorem dX5_leave_26 : decode cX5_leave 26 = .ok (.putfield 238, 3) := by decide +kernel
theorem dX5_leave_29 : decode cX5_leave 29 = .ok (.return_, 1) := by decide +kernel
theorem dX5_sizeAsked_0 : decode cX5_sizeAsked 0 = .ok (.aload_n 0, 1) := by decide +kernel
theorem dX5_sizeAsked_1 : decode cX5_sizeAsked 1 = .ok (.getfield 28, 3) := by decide +kernel
theorem dX5_sizeAsked_4 : decode cX5_sizeAsked 4 = .ok (.aload_n 1, 1) := by decide +kernel
theorem dX5_sizeAsked_5 : decode cX5_sizeAsked 5 = .ok (.invokevirtual 234, 3) := by decide +kernel
theorem dX5_sizeAsked_8 : decode cX5_sizeAsked 8 = .ok (.tableswitch 46 1 3 #[28, 34, 40], 28) := by decide +kernel
theorem dX5_sizeAsked_36 : decode cX5_sizeAsked 36 = .ok (.aload_n 0, 1) := by decide +kernel
theorem dX5_sizeAsked_37 : decode cX5_sizeAsked 37 = .ok (.aload_n 1, 1) := by decide +kernel
theorem dX5_sizeAsked_38 : decode cX5_sizeAsked 38 = .ok (.invokevirtual 283, 3) := by decide +kernel
theorem dX5_sizeAsked_41 : decode cX5_sizeAsked 41 = .ok (.ireturn, 1) := by decide +kernel
theorem dX5_sizeAsked_42 : decode cX5_sizeAsked 42 = .ok (.aload_n 0, 1) := by decide +kernel
theorem dX5_sizeAsked_43 : decode cX5_sizeAsked 43 = .ok (.aload_n 1, 1) := by decide +kernel
theorem dX5_sizeAsked_44 : decode cX5_sizeAsked 44 = .ok (.invokevirtual 286, 3) := by decide +kernel
theorem dX5_sizeAsked_47 : decode cX5_sizeAsked 47 = .ok (.ireturn, 1) := by decide +kernel
theorem dX5_sizeAsked_48 : decode cX5_sizeAsked 48 = .ok (.aload_n 0, 1) := by decide +kernel
theorem dX5_sizeAsked_49 : decode cX5_sizeAsked 49 = .ok (.aload_n 1, 1) := by decide +kernel
theorem dX5_sizeAsked_50 : decode cX5_sizeAsked 50 = .ok (.invokevirtual 289, 3) := by decide +kernel
theorem dX5_sizeAsked_53 : decode cX5_sizeAsked 53 = .ok (.ireturn, 1) := by decide +kernel
theorem dX5_sizeAsked_54 : decode cX5_sizeAsked 54 = .ok (.aload_n 0, 1) := by decide +kernel
theorem dX5_sizeAsked_55 : decode cX5_sizeAsked 55 = .ok (.aload_n 1, 1) := by decide +kernel
theorem dX5_sizeAsked_56 : decode cX5_sizeAsked 56 = .ok (.invokevirtual 292, 3) := by decide +kernel
theorem dX5_sizeAsked_59 : decode cX5_sizeAsked 59 = .ok (.ireturn, 1) := by decide +kernel
theorem dX5_markAsked_0 : decode cX5_markAsked 0 = .ok (.aload_n 0, 1) := by decide +kernel
theorem dX5_markAsked_1 : decode cX5_markAsked 1 = .ok (.getfield 28, 3) := by decide +kernel
theorem dX5_markAsked_4 : decode cX5_markAsked 4 = .ok (.aload_n 1, 1) := by decide +kernel
theorem dX5_markAsked_5 : decode cX5_markAsked 5 = .ok (.invokevirtual 234, 3) := by decide +kernel
theorem dX5_markAsked_8 : decode cX5_markAsked 8 = .ok (.lookupswitch 40 #[(2, 28), (3, 34)], 28) := by decide +kernel
theorem dX5_markAsked_36 : decode cX5_markAsked 36 = .ok (.aload_n 0, 1) := by decide +kernel
theorem dX5_markAsked_37 : decode cX5_markAsked 37 = .ok (.aload_n 1, 1) := by decide +kernel
theorem dX5_markAsked_38 : decode cX5_markAsked 38 = .ok (.invokevirtual 295, 3) := by decide +kernel
theorem dX5_markAsked_41 : decode cX5_markAsked 41 = .ok (.ireturn, 1) := by decide +kernel
theorem dX5_markAsked_42 : decode cX5_markAsked 42 = .ok (.aload_n 0, 1) := by decide +kernel
theorem dX5_markAsked_43 : decode cX5_markAsked 43 = .ok (.aload_n 1, 1) := by decide +kernel
theorem dX5_markAsked_44 : decode cX5_markAsked 44 = .ok (.invokevirtual 298, 3) := by decide +kernel
theorem dX5_markAsked_47 : decode cX5_markAsked 47 = .ok (.ireturn, 1) := by decide +kernel
theorem dX5_markAsked_48 : decode cX5_markAsked 48 = .ok (.aload_n 0, 1) := by decide +kernel
theorem dX5_markAsked_49 : decode cX5_markAsked 49 = .ok (.aload_n 1, 1) := by decide +kernel
theorem dX5_markAsked_50 : decode cX5_markAsked 50 = .ok (.invokevirtual 301, 3) := by decide +kernel
theorem dX5_markAsked_53 : decode cX5_markAsked 53 = .ok (.ireturn, 1) := by decide +kernel
theorem dX5_sizeLent_0 : decode cX5_sizeLent 0 = .ok (.aload_n 0, 1) := by decide +kernel
theorem dX5_sizeLent_1 : decode cX5_sizeLent 1 = .ok (.bipush 10, 2) := by decide +kernel
theorem dX5_sizeLent_3 : decode cX5_sizeLent 3 = .ok (.invokevirtual 304, 3) := by decide +kernel
theorem dX5_sizeLent_6 : decode cX5_sizeLent 6 = .ok (.aload_n 1, 1) := by decide +kernel
theorem dX5_sizeLent_7 : decode cX5_sizeLent 7 = .ok (.getfield 177, 3) := by decide +kernel
theorem dX5_sizeLent_10 : decode cX5_sizeLent 10 = .ok (.ireturn, 1) := by decide +kernel
theorem dX5_sizeOfAlone_0 : decode cX5_sizeOfAlone 0 = .ok (.aload_n 0, 1) := by decide +kernel
theorem dX5_sizeOfAlone_1 : decode cX5_sizeOfAlone 1 = .ok (.bipush 11, 2) := by decide +kernel
theorem dX5_sizeOfAlone_3 : decode cX5_sizeOfAlone 3 = .ok (.invokevirtual 304, 3) := by decide +kernel
theorem dX5_sizeOfAlone_6 : decode cX5_sizeOfAlone 6 = .ok (.aload_n 0, 1) := by decide +kernel
theorem dX5_sizeOfAlone_7 : decode cX5_sizeOfAlone 7 = .ok (.aload_n 1, 1) := by decide +kernel
theorem dX5_sizeOfAlone_8 : decode cX5_sizeOfAlone 8 = .ok (.invokevirtual 292, 3) := by decide +kernel
theorem dX5_sizeOfAlone_11 : decode cX5_sizeOfAlone 11 = .ok (.aload_n 1, 1) := by decide +kernel
theorem dX5_sizeOfAlone_12 : decode cX5_sizeOfAlone 12 = .ok (.invokevirtual 203, 3) := by decide +kernel
theorem dX5_sizeOfAlone_15 : decode cX5_sizeOfAlone 15 = .ok (.iadd, 1) := by decide +kernel
theorem dX5_sizeOfAlone_16 : decode cX5_sizeOfAlone 16 = .ok (.ireturn, 1) := by decide +kernel
theorem dX5_sizeOfBound_0 : decode cX5_sizeOfBound 0 = .ok (.aload_n 0, 1) := by decide +kernel
theorem dX5_sizeOfBound_1 : decode cX5_sizeOfBound 1 = .ok (.bipush 12, 2) := by decide +kernel
theorem dX5_sizeOfBound_3 : decode cX5_sizeOfBound 3 = .ok (.invokevirtual 304, 3) := by decide +kernel
theorem dX5_sizeOfBound_6 : decode cX5_sizeOfBound 6 = .ok (.iconst 2, 1) := by decide +kernel
theorem dX5_sizeOfBound_7 : decode cX5_sizeOfBound 7 = .ok (.aload_n 0, 1) := by decide +kernel
theorem dX5_sizeOfBound_8 : decode cX5_sizeOfBound 8 = .ok (.aload_n 1, 1) := by decide +kernel
theorem dX5_sizeOfBound_9 : decode cX5_sizeOfBound 9 = .ok (.invokevirtual 292, 3) := by decide +kernel
theorem dX5_sizeOfBound_12 : decode cX5_sizeOfBound 12 = .ok (.imul, 1) := by decide +kernel
theorem dX5_sizeOfBound_13 : decode cX5_sizeOfBound 13 = .ok (.ireturn, 1) := by decide +kernel
theorem dX5_sizeOfForked_0 : decode cX5_sizeOfForked 0 = .ok (.aload_n 0, 1) := by decide +kernel
theorem dX5_sizeOfForked_1 : decode cX5_sizeOfForked 1 = .ok (.bipush 13, 2) := by decide +kernel
theorem dX5_sizeOfForked_3 : decode cX5_sizeOfForked 3 = .ok (.invokevirtual 304, 3) := by decide +kernel
theorem dX5_sizeOfForked_6 : decode cX5_sizeOfForked 6 = .ok (.aload_n 0, 1) := by decide +kernel
theorem dX5_sizeOfForked_7 : decode cX5_sizeOfForked 7 = .ok (.aload_n 1, 1) := by decide +kernel
theorem dX5_sizeOfForked_8 : decode cX5_sizeOfForked 8 = .ok (.invokevirtual 292, 3) := by decide +kernel
theorem dX5_sizeOfForked_11 : decode cX5_sizeOfForked 11 = .ok (.aload_n 0, 1) := by decide +kernel
theorem dX5_sizeOfForked_12 : decode cX5_sizeOfForked 12 = .ok (.aload_n 1, 1) := by decide +kernel
theorem dX5_sizeOfForked_13 : decode cX5_sizeOfForked 13 = .ok (.invokevirtual 298, 3) := by decide +kernel
theorem dX5_sizeOfForked_16 : decode cX5_sizeOfForked 16 = .ok (.iadd, 1) := by decide +kernel
theorem dX5_sizeOfForked_17 : decode cX5_sizeOfForked 17 = .ok (.ireturn, 1) := by decide +kernel
theorem dX5_markLent_0 : decode cX5_markLent 0 = .ok (.aload_n 0, 1) := by decide +kernel
theorem dX5_markLent_1 : decode cX5_markLent 1 = .ok (.bipush 20, 2) := by decide +kernel
theorem dX5_markLent_3 : decode cX5_markLent 3 = .ok (.invokevirtual 304, 3) := by decide +kernel
theorem dX5_markLent_6 : decode cX5_markLent 6 = .ok (.aload_n 0, 1) := by decide +kernel
theorem dX5_markLent_7 : decode cX5_markLent 7 = .ok (.getfield 28, 3) := by decide +kernel
theorem dX5_markLent_10 : decode cX5_markLent 10 = .ok (.aload_n 1, 1) := by decide +kernel
theorem dX5_markLent_11 : decode cX5_markLent 11 = .ok (.invokevirtual 274, 3) := by decide +kernel
theorem dX5_markLent_14 : decode cX5_markLent 14 = .ok (.ireturn, 1) := by decide +kernel
theorem dX5_markOfBound_0 : decode cX5_markOfBound 0 = .ok (.aload_n 0, 1) := by decide +kernel
theorem dX5_markOfBound_1 : decode cX5_markOfBound 1 = .ok (.bipush 21, 2) := by decide +kernel
theorem dX5_markOfBound_3 : decode cX5_markOfBound 3 = .ok (.invokevirtual 304, 3) := by decide +kernel
theorem dX5_markOfBound_6 : decode cX5_markOfBound 6 = .ok (.aload_n 0, 1) := by decide +kernel
theorem dX5_markOfBound_7 : decode cX5_markOfBound 7 = .ok (.aload_n 1, 1) := by decide +kernel
theorem dX5_markOfBound_8 : decode cX5_markOfBound 8 = .ok (.invokevirtual 301, 3) := by decide +kernel
theorem dX5_markOfBound_11 : decode cX5_markOfBound 11 = .ok (.aload_n 0, 1) := by decide +kernel
theorem dX5_markOfBound_12 : decode cX5_markOfBound 12 = .ok (.aload_n 1, 1) := by decide +kernel
theorem dX5_markOfBound_13 : decode cX5_markOfBound 13 = .ok (.invokevirtual 286, 3) := by decide +kernel
theorem dX5_markOfBound_16 : decode cX5_markOfBound 16 = .ok (.iadd, 1) := by decide +kernel
theorem dX5_markOfBound_17 : decode cX5_markOfBound 17 = .ok (.ireturn, 1) := by decide +kernel
theorem dX5_markOfForked_0 : decode cX5_markOfForked 0 = .ok (.aload_n 0, 1) := by decide +kernel
theorem dX5_markOfForked_1 : decode cX5_markOfForked 1 = .ok (.bipush 22, 2) := by decide +kernel
theorem dX5_markOfForked_3 : decode cX5_markOfForked 3 = .ok (.invokevirtual 304, 3) := by decide +kernel
theorem dX5_markOfForked_6 : decode cX5_markOfForked 6 = .ok (.aload_n 0, 1) := by decide +kernel
theorem dX5_markOfForked_7 : decode cX5_markOfForked 7 = .ok (.aload_n 1, 1) := by decide +kernel
theorem dX5_markOfForked_8 : decode cX5_markOfForked 8 = .ok (.invokevirtual 301, 3) := by decide +kernel
theorem dX5_markOfForked_11 : decode cX5_markOfForked 11 = .ok (.aload_n 0, 1) := by decide +kernel
theorem dX5_markOfForked_12 : decode cX5_markOfForked 12 = .ok (.getfield 28, 3) := by decide +kernel
theorem dX5_markOfForked_15 : decode cX5_markOfForked 15 = .ok (.aload_n 1, 1) := by decide +kernel
theorem dX5_markOfForked_16 : decode cX5_markOfForked 16 = .ok (.invokevirtual 307, 3) := by decide +kernel
theorem dX5_markOfForked_19 : decode cX5_markOfForked 19 = .ok (.iadd, 1) := by decide +kernel
theorem dX5_markOfForked_20 : decode cX5_markOfForked 20 = .ok (.ireturn, 1) := by decide +kernel
