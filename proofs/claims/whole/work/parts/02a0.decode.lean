theorem dX0_init_0 : decode cX0_init 0 = .ok (.aload_n 0, 1) := by decide +kernel
theorem dX0_init_1 : decode cX0_init 1 = .ok (.invokespecial 3, 3) := by decide +kernel
theorem dX0_init_4 : decode cX0_init 4 = .ok (.aload_n 0, 1) := by decide +kernel
theorem dX0_init_5 : decode cX0_init 5 = .ok (.bipush 100, 2) := by decide +kernel
theorem dX0_init_7 : decode cX0_init 7 = .ok (.newarray .int, 2) := by decide +kernel
theorem dX0_init_9 : decode cX0_init 9 = .ok (.putfield 9, 3) := by decide +kernel
theorem dX0_init_12 : decode cX0_init 12 = .ok (.aload_n 0, 1) := by decide +kernel
theorem dX0_init_13 : decode cX0_init 13 = .ok (.sipush 400, 3) := by decide +kernel
theorem dX0_init_16 : decode cX0_init 16 = .ok (.newarray .int, 2) := by decide +kernel
theorem dX0_init_18 : decode cX0_init 18 = .ok (.putfield 15, 3) := by decide +kernel
theorem dX0_init_21 : decode cX0_init 21 = .ok (.aload_n 0, 1) := by decide +kernel
theorem dX0_init_22 : decode cX0_init 22 = .ok (.bipush 100, 2) := by decide +kernel
theorem dX0_init_24 : decode cX0_init 24 = .ok (.newarray .int, 2) := by decide +kernel
theorem dX0_init_26 : decode cX0_init 26 = .ok (.putfield 18, 3) := by decide +kernel
theorem dX0_init_29 : decode cX0_init 29 = .ok (.return_, 1) := by decide +kernel
theorem dX0_findWay_0 : decode cX0_findWay 0 = .ok (.aload_n 0, 1) := by decide +kernel
theorem dX0_findWay_1 : decode cX0_findWay 1 = .ok (.aload_n 1, 1) := by decide +kernel
theorem dX0_findWay_2 : decode cX0_findWay 2 = .ok (.aload_n 2, 1) := by decide +kernel
theorem dX0_findWay_3 : decode cX0_findWay 3 = .ok (.invokevirtual 21, 3) := by decide +kernel
theorem dX0_findWay_6 : decode cX0_findWay 6 = .ok (.aload_n 0, 1) := by decide +kernel
theorem dX0_findWay_7 : decode cX0_findWay 7 = .ok (.iconst 0, 1) := by decide +kernel
theorem dX0_findWay_8 : decode cX0_findWay 8 = .ok (.putfield 25, 3) := by decide +kernel
theorem dX0_findWay_11 : decode cX0_findWay 11 = .ok (.aload_n 0, 1) := by decide +kernel
theorem dX0_findWay_12 : decode cX0_findWay 12 = .ok (.getfield 9, 3) := by decide +kernel
theorem dX0_findWay_15 : decode cX0_findWay 15 = .ok (.aload_n 2, 1) := by decide +kernel
theorem dX0_findWay_16 : decode cX0_findWay 16 = .ok (.getfield 29, 3) := by decide +kernel
theorem dX0_findWay_19 : decode cX0_findWay 19 = .ok (.iaload, 1) := by decide +kernel
theorem dX0_findWay_20 : decode cX0_findWay 20 = .ok (.ldc 34, 2) := by decide +kernel
theorem dX0_findWay_22 : decode cX0_findWay 22 = .ok (.if_icmp .lt 5, 3) := by decide +kernel
theorem dX0_findWay_25 : decode cX0_findWay 25 = .ok (.iconst 0, 1) := by decide +kernel
theorem dX0_findWay_26 : decode cX0_findWay 26 = .ok (.ireturn, 1) := by decide +kernel
theorem dX0_findWay_27 : decode cX0_findWay 27 = .ok (.aload_n 0, 1) := by decide +kernel
theorem dX0_findWay_28 : decode cX0_findWay 28 = .ok (.aload_n 0, 1) := by decide +kernel
theorem dX0_findWay_29 : decode cX0_findWay 29 = .ok (.getfield 9, 3) := by decide +kernel
theorem dX0_findWay_32 : decode cX0_findWay 32 = .ok (.aload_n 2, 1) := by decide +kernel
theorem dX0_findWay_33 : decode cX0_findWay 33 = .ok (.getfield 29, 3) := by decide +kernel
theorem dX0_findWay_36 : decode cX0_findWay 36 = .ok (.iaload, 1) := by decide +kernel
theorem dX0_findWay_37 : decode cX0_findWay 37 = .ok (.sipush 128, 3) := by decide +kernel
theorem dX0_findWay_40 : decode cX0_findWay 40 = .ok (.idiv, 1) := by decide +kernel
theorem dX0_findWay_41 : decode cX0_findWay 41 = .ok (.putfield 35, 3) := by decide +kernel
theorem dX0_findWay_44 : decode cX0_findWay 44 = .ok (.aload_n 2, 1) := by decide +kernel
theorem dX0_findWay_45 : decode cX0_findWay 45 = .ok (.getfield 29, 3) := by decide +kernel
theorem dX0_findWay_48 : decode cX0_findWay 48 = .ok (.istore_n 3, 1) := by decide +kernel
theorem dX0_findWay_49 : decode cX0_findWay 49 = .ok (.iconst 0, 1) := by decide +kernel
theorem dX0_findWay_50 : decode cX0_findWay 50 = .ok (.istore 4, 2) := by decide +kernel
theorem dX0_findWay_52 : decode cX0_findWay 52 = .ok (.iload 4, 2) := by decide +kernel
theorem dX0_findWay_54 : decode cX0_findWay 54 = .ok (.bipush 100, 2) := by decide +kernel
theorem dX0_findWay_56 : decode cX0_findWay 56 = .ok (.if_icmp .ge 61, 3) := by decide +kernel
theorem dX0_findWay_59 : decode cX0_findWay 59 = .ok (.iload_n 3, 1) := by decide +kernel
theorem dX0_findWay_60 : decode cX0_findWay 60 = .ok (.ifCond .lt 57, 3) := by decide +kernel
theorem dX0_findWay_63 : decode cX0_findWay 63 = .ok (.iload_n 3, 1) := by decide +kernel
theorem dX0_findWay_64 : decode cX0_findWay 64 = .ok (.aload_n 2, 1) := by decide +kernel
theorem dX0_findWay_65 : decode cX0_findWay 65 = .ok (.getfield 38, 3) := by decide +kernel
theorem dX0_findWay_68 : decode cX0_findWay 68 = .ok (.if_icmp .eq 49, 3) := by decide +kernel
theorem dX0_findWay_71 : decode cX0_findWay 71 = .ok (.aload_n 0, 1) := by decide +kernel
theorem dX0_findWay_72 : decode cX0_findWay 72 = .ok (.aload_n 1, 1) := by decide +kernel
theorem dX0_findWay_73 : decode cX0_findWay 73 = .ok (.aload_n 2, 1) := by decide +kernel
theorem dX0_findWay_74 : decode cX0_findWay 74 = .ok (.iload_n 3, 1) := by decide +kernel
theorem dX0_findWay_75 : decode cX0_findWay 75 = .ok (.invokevirtual 41, 3) := by decide +kernel
theorem dX0_findWay_78 : decode cX0_findWay 78 = .ok (.istore 5, 2) := by decide +kernel
theorem dX0_findWay_80 : decode cX0_findWay 80 = .ok (.iload 5, 2) := by decide +kernel
theorem dX0_findWay_82 : decode cX0_findWay 82 = .ok (.ifCond .ge 5, 3) := by decide +kernel
theorem dX0_findWay_85 : decode cX0_findWay 85 = .ok (.iconst 0, 1) := by decide +kernel
theorem dX0_findWay_86 : decode cX0_findWay 86 = .ok (.ireturn, 1) := by decide +kernel
theorem dX0_findWay_87 : decode cX0_findWay 87 = .ok (.aload_n 0, 1) := by decide +kernel
theorem dX0_findWay_88 : decode cX0_findWay 88 = .ok (.getfield 18, 3) := by decide +kernel
theorem dX0_findWay_91 : decode cX0_findWay 91 = .ok (.iload 4, 2) := by decide +kernel
theorem dX0_findWay_93 : decode cX0_findWay 93 = .ok (.iload 5, 2) := by decide +kernel
theorem dX0_findWay_95 : decode cX0_findWay 95 = .ok (.iastore, 1) := by decide +kernel
theorem dX0_findWay_96 : decode cX0_findWay 96 = .ok (.aload_n 0, 1) := by decide +kernel
theorem dX0_findWay_97 : decode cX0_findWay 97 = .ok (.iload 4, 2) := by decide +kernel
theorem dX0_findWay_99 : decode cX0_findWay 99 = .ok (.iconst 1, 1) := by decide +kernel
theorem dX0_findWay_100 : decode cX0_findWay 100 = .ok (.iadd, 1) := by decide +kernel
theorem dX0_findWay_101 : decode cX0_findWay 101 = .ok (.putfield 25, 3) := by decide +kernel
theorem dX0_findWay_104 : decode cX0_findWay 104 = .ok (.iload_n 3, 1) := by decide +kernel
theorem dX0_findWay_105 : decode cX0_findWay 105 = .ok (.iload 5, 2) := by decide +kernel
theorem dX0_findWay_107 : decode cX0_findWay 107 = .ok (.invokestatic 45, 3) := by decide +kernel
theorem dX0_findWay_110 : decode cX0_findWay 110 = .ok (.istore_n 3, 1) := by decide +kernel
theorem dX0_findWay_111 : decode cX0_findWay 111 = .ok (.iinc 4 1, 3) := by decide +kernel
theorem dX0_findWay_114 : decode cX0_findWay 114 = .ok (.goto (-62), 3) := by decide +kernel
theorem dX0_findWay_117 : decode cX0_findWay 117 = .ok (.iconst 1, 1) := by decide +kernel
theorem dX0_findWay_118 : decode cX0_findWay 118 = .ok (.ireturn, 1) := by decide +kernel
theorem dX0_weight_0 : decode cX0_weight 0 = .ok (.aload_n 0, 1) := by decide +kernel
theorem dX0_weight_1 : decode cX0_weight 1 = .ok (.aload_n 0, 1) := by decide +kernel
theorem dX0_weight_2 : decode cX0_weight 2 = .ok (.getfield 49, 3) := by decide +kernel
theorem dX0_weight_5 : decode cX0_weight 5 = .ok (.iload_n 2, 1) := by decide +kernel
theorem dX0_weight_6 : decode cX0_weight 6 = .ok (.iaload, 1) := by decide +kernel
theorem dX0_weight_7 : decode cX0_weight 7 = .ok (.aload_n 1, 1) := by decide +kernel
theorem dX0_weight_8 : decode cX0_weight 8 = .ok (.getfield 54, 3) := by decide +kernel
theorem dX0_weight_11 : decode cX0_weight 11 = .ok (.iconst (-1), 1) := by decide +kernel
theorem dX0_weight_12 : decode cX0_weight 12 = .ok (.ixor, 1) := by decide +kernel
theorem dX0_weight_13 : decode cX0_weight 13 = .ok (.iand, 1) := by decide +kernel
theorem dX0_weight_14 : decode cX0_weight 14 = .ok (.invokestatic 57, 3) := by decide +kernel
theorem dX0_weight_17 : decode cX0_weight 17 = .ok (.invokevirtual 63, 3) := by decide +kernel
theorem dX0_weight_20 : decode cX0_weight 20 = .ok (.sipush 128, 3) := by decide +kernel
theorem dX0_weight_23 : decode cX0_weight 23 = .ok (.imul, 1) := by decide +kernel
theorem dX0_weight_24 : decode cX0_weight 24 = .ok (.iconst 1, 1) := by decide +kernel
theorem dX0_weight_25 : decode cX0_weight 25 = .ok (.iadd, 1) := by decide +kernel
theorem dX0_weight_26 : decode cX0_weight 26 = .ok (.ireturn, 1) := by decide +kernel
theorem dX0_leastDirection_0 : decode cX0_leastDirection 0 = .ok (.iconst 0, 1) := by decide +kernel
theorem dX0_leastDirection_1 : decode cX0_leastDirection 1 = .ok (.istore 4, 2) := by decide +kernel
theorem dX0_leastDirection_3 : decode cX0_leastDirection 3 = .ok (.iload 4, 2) := by decide +kernel
theorem dX0_leastDirection_5 : decode cX0_leastDirection 5 = .ok (.iconst 4, 1) := by decide +kernel
theorem dX0_leastDirection_6 : decode cX0_leastDirection 6 = .ok (.if_icmp .ge 55, 3) := by decide +kernel
theorem dX0_leastDirection_9 : decode cX0_leastDirection 9 = .ok (.iload_n 3, 1) := by decide +kernel
theorem dX0_leastDirection_10 : decode cX0_leastDirection 10 = .ok (.iload 4, 2) := by decide +kernel
theorem dX0_leastDirection_12 : decode cX0_leastDirection 12 = .ok (.invokestatic 45, 3) := by decide +kernel
theorem dX0_leastDirection_15 : decode cX0_leastDirection 15 = .ok (.istore 5, 2) := by decide +kernel
theorem dX0_leastDirection_17 : decode cX0_leastDirection 17 = .ok (.iload 5, 2) := by decide +kernel
theorem dX0_leastDirection_19 : decode cX0_leastDirection 19 = .ok (.ifCond .lt 36, 3) := by decide +kernel
theorem dX0_leastDirection_22 : decode cX0_leastDirection 22 = .ok (.aload_n 0, 1) := by decide +kernel
theorem dX0_leastDirection_23 : decode cX0_leastDirection 23 = .ok (.getfield 9, 3) := by decide +kernel
theorem dX0_leastDirection_26 : decode cX0_leastDirection 26 = .ok (.iload_n 3, 1) := by decide +kernel
theorem dX0_leastDirection_27 : decode cX0_leastDirection 27 = .ok (.iaload, 1) := by decide +kernel
theorem dX0_leastDirection_28 : decode cX0_leastDirection 28 = .ok (.aload_n 0, 1) := by decide +kernel
theorem dX0_leastDirection_29 : decode cX0_leastDirection 29 = .ok (.getfield 9, 3) := by decide +kernel
theorem dX0_leastDirection_32 : decode cX0_leastDirection 32 = .ok (.iload 5, 2) := by decide +kernel
theorem dX0_leastDirection_34 : decode cX0_leastDirection 34 = .ok (.iaload, 1) := by decide +kernel
theorem dX0_leastDirection_35 : decode cX0_leastDirection 35 = .ok (.isub, 1) := by decide +kernel
theorem dX0_leastDirection_36 : decode cX0_leastDirection 36 = .ok (.aload_n 1, 1) := by decide +kernel
theorem dX0_leastDirection_37 : decode cX0_leastDirection 37 = .ok (.aload_n 2, 1) := by decide +kernel
theorem dX0_leastDirection_38 : decode cX0_leastDirection 38 = .ok (.iload_n 3, 1) := by decide +kernel
theorem dX0_leastDirection_39 : decode cX0_leastDirection 39 = .ok (.iload 5, 2) := by decide +kernel
theorem dX0_leastDirection_41 : decode cX0_leastDirection 41 = .ok (.iload 4, 2) := by decide +kernel
theorem dX0_leastDirection_43 : decode cX0_leastDirection 43 = .ok (.invokestatic 66, 3) := by decide +kernel
theorem dX0_leastDirection_46 : decode cX0_leastDirection 46 = .ok (.invokestatic 70, 3) := by decide +kernel
theorem dX0_leastDirection_49 : decode cX0_leastDirection 49 = .ok (.if_icmp .ne 6, 3) := by decide +kernel
theorem dX0_leastDirection_52 : decode cX0_leastDirection 52 = .ok (.iload 4, 2) := by decide +kernel
theorem dX0_leastDirection_54 : decode cX0_leastDirection 54 = .ok (.ireturn, 1) := by decide +kernel
theorem dX0_leastDirection_55 : decode cX0_leastDirection 55 = .ok (.iinc 4 1, 3) := by decide +kernel
theorem dX0_leastDirection_58 : decode cX0_leastDirection 58 = .ok (.goto (-55), 3) := by decide +kernel
theorem dX0_leastDirection_61 : decode cX0_leastDirection 61 = .ok (.iconst (-1), 1) := by decide +kernel
theorem dX0_leastDirection_62 : decode cX0_leastDirection 62 = .ok (.ireturn, 1) := by decide +kernel
theorem dX0_spread_0 : decode cX0_spread 0 = .ok (.iconst 0, 1) := by decide +kernel
theorem dX0_spread_1 : decode cX0_spread 1 = .ok (.istore_n 3, 1) := by decide +kernel
theorem dX0_spread_2 : decode cX0_spread 2 = .ok (.iload_n 3, 1) := by decide +kernel
theorem dX0_spread_3 : decode cX0_spread 3 = .ok (.bipush 100, 2) := by decide +kernel
theorem dX0_spread_5 : decode cX0_spread 5 = .ok (.if_icmp .ge 17, 3) := by decide +kernel
theorem dX0_spread_8 : decode cX0_spread 8 = .ok (.aload_n 0, 1) := by decide +kernel
theorem dX0_spread_9 : decode cX0_spread 9 = .ok (.getfield 9, 3) := by decide +kernel
theorem dX0_spread_12 : decode cX0_spread 12 = .ok (.iload_n 3, 1) := by decide +kernel
theorem dX0_spread_13 : decode cX0_spread 13 = .ok (.ldc 34, 2) := by decide +kernel
theorem dX0_spread_15 : decode cX0_spread 15 = .ok (.iastore, 1) := by decide +kernel
theorem dX0_spread_16 : decode cX0_spread 16 = .ok (.iinc 3 1, 3) := by decide +kernel
theorem dX0_spread_19 : decode cX0_spread 19 = .ok (.goto (-17), 3) := by decide +kernel
theorem dX0_spread_22 : decode cX0_spread 22 = .ok (.aload_n 0, 1) := by decide +kernel
theorem dX0_spread_23 : decode cX0_spread 23 = .ok (.iconst 0, 1) := by decide +kernel
theorem dX0_spread_24 : decode cX0_spread 24 = .ok (.putfield 73, 3) := by decide +kernel
theorem dX0_spread_27 : decode cX0_spread 27 = .ok (.aload_n 0, 1) := by decide +kernel
theorem dX0_spread_28 : decode cX0_spread 28 = .ok (.aload_n 2, 1) := by decide +kernel
theorem dX0_spread_29 : decode cX0_spread 29 = .ok (.getfield 38, 3) := by decide +kernel
theorem dX0_spread_32 : decode cX0_spread 32 = .ok (.iconst 0, 1) := by decide +kernel
theorem dX0_spread_33 : decode cX0_spread 33 = .ok (.invokevirtual 76, 3) := by decide +kernel
theorem dX0_spread_36 : decode cX0_spread 36 = .ok (.iconst 0, 1) := by decide +kernel
theorem dX0_spread_37 : decode cX0_spread 37 = .ok (.istore_n 3, 1) := by decide +kernel
theorem dX0_spread_38 : decode cX0_spread 38 = .ok (.iload_n 3, 1) := by decide +kernel
theorem dX0_spread_39 : decode cX0_spread 39 = .ok (.sipush 400, 3) := by decide +kernel
theorem dX0_spread_42 : decode cX0_spread 42 = .ok (.if_icmp .ge 64, 3) := by decide +kernel
theorem dX0_spread_45 : decode cX0_spread 45 = .ok (.aload_n 0, 1) := by decide +kernel
theorem dX0_spread_46 : decode cX0_spread 46 = .ok (.getfield 73, 3) := by decide +kernel
theorem dX0_spread_49 : decode cX0_spread 49 = .ok (.ifCond .le 57, 3) := by decide +kernel
theorem dX0_spread_52 : decode cX0_spread 52 = .ok (.aload_n 0, 1) := by decide +kernel
theorem dX0_spread_53 : decode cX0_spread 53 = .ok (.invokevirtual 80, 3) := by decide +kernel
theorem dX0_spread_56 : decode cX0_spread 56 = .ok (.istore 4, 2) := by decide +kernel
theorem dX0_spread_58 : decode cX0_spread 58 = .ok (.iload 4, 2) := by decide +kernel
theorem dX0_spread_60 : decode cX0_spread 60 = .ok (.sipush 128, 3) := by decide +kernel
theorem dX0_spread_63 : decode cX0_spread 63 = .ok (.irem, 1) := by decide +kernel
theorem dX0_spread_64 : decode cX0_spread 64 = .ok (.istore 5, 2) := by decide +kernel
theorem dX0_spread_66 : decode cX0_spread 66 = .ok (.iload 5, 2) := by decide +kernel
theorem dX0_spread_68 : decode cX0_spread 68 = .ok (.aload_n 2, 1) := by decide +kernel
theorem dX0_spread_69 : decode cX0_spread 69 = .ok (.getfield 29, 3) := by decide +kernel
theorem dX0_spread_72 : decode cX0_spread 72 = .ok (.if_icmp .ne 4, 3) := by decide +kernel
theorem dX0_spread_75 : decode cX0_spread 75 = .ok (.return_, 1) := by decide +kernel
theorem dX0_spread_76 : decode cX0_spread 76 = .ok (.iload 4, 2) := by decide +kernel
theorem dX0_spread_78 : decode cX0_spread 78 = .ok (.sipush 128, 3) := by decide +kernel
theorem dX0_spread_81 : decode cX0_spread 81 = .ok (.idiv, 1) := by decide +kernel
theorem dX0_spread_82 : decode cX0_spread 82 = .ok (.aload_n 0, 1) := by decide +kernel
theorem dX0_spread_83 : decode cX0_spread 83 = .ok (.getfield 9, 3) := by decide +kernel
theorem dX0_spread_86 : decode cX0_spread 86 = .ok (.iload 5, 2) := by decide +kernel
theorem dX0_spread_88 : decode cX0_spread 88 = .ok (.iaload, 1) := by decide +kernel
theorem dX0_spread_89 : decode cX0_spread 89 = .ok (.if_icmp .ne 11, 3) := by decide +kernel
theorem dX0_spread_92 : decode cX0_spread 92 = .ok (.aload_n 0, 1) := by decide +kernel
theorem dX0_spread_93 : decode cX0_spread 93 = .ok (.aload_n 1, 1) := by decide +kernel
theorem dX0_spread_94 : decode cX0_spread 94 = .ok (.aload_n 2, 1) := by decide +kernel
theorem dX0_spread_95 : decode cX0_spread 95 = .ok (.iload 5, 2) := by decide +kernel
theorem dX0_spread_97 : decode cX0_spread 97 = .ok (.invokevirtual 84, 3) := by decide +kernel
theorem dX0_spread_100 : decode cX0_spread 100 = .ok (.iinc 3 1, 3) := by decide +kernel
theorem dX0_spread_103 : decode cX0_spread 103 = .ok (.goto (-65), 3) := by decide +kernel
theorem dX0_spread_106 : decode cX0_spread 106 = .ok (.return_, 1) := by decide +kernel
theorem dX0_reachFrom_0 : decode cX0_reachFrom 0 = .ok (.iconst 0, 1) := by decide +kernel
theorem dX0_reachFrom_1 : decode cX0_reachFrom 1 = .ok (.istore 4, 2) := by decide +kernel
theorem dX0_reachFrom_3 : decode cX0_reachFrom 3 = .ok (.iload 4, 2) := by decide +kernel
theorem dX0_reachFrom_5 : decode cX0_reachFrom 5 = .ok (.iconst 4, 1) := by decide +kernel
theorem dX0_reachFrom_6 : decode cX0_reachFrom 6 = .ok (.if_icmp .ge 74, 3) := by decide +kernel
theorem dX0_reachFrom_9 : decode cX0_reachFrom 9 = .ok (.iload_n 3, 1) := by decide +kernel
theorem dX0_reachFrom_10 : decode cX0_reachFrom 10 = .ok (.iload 4, 2) := by decide +kernel
theorem dX0_reachFrom_12 : decode cX0_reachFrom 12 = .ok (.invokestatic 45, 3) := by decide +kernel
theorem dX0_reachFrom_15 : decode cX0_reachFrom 15 = .ok (.istore 5, 2) := by decide +kernel
theorem dX0_reachFrom_17 : decode cX0_reachFrom 17 = .ok (.iload 5, 2) := by decide +kernel
theorem dX0_reachFrom_19 : decode cX0_reachFrom 19 = .ok (.ifCond .lt 55, 3) := by decide +kernel
theorem dX0_reachFrom_22 : decode cX0_reachFrom 22 = .ok (.aload_n 1, 1) := by decide +kernel
theorem dX0_reachFrom_23 : decode cX0_reachFrom 23 = .ok (.getfield 88, 3) := by decide +kernel
theorem dX0_reachFrom_26 : decode cX0_reachFrom 26 = .ok (.iload 5, 2) := by decide +kernel
theorem dX0_reachFrom_28 : decode cX0_reachFrom 28 = .ok (.baload, 1) := by decide +kernel
theorem dX0_reachFrom_29 : decode cX0_reachFrom 29 = .ok (.ifCond .ne 45, 3) := by decide +kernel
theorem dX0_reachFrom_32 : decode cX0_reachFrom 32 = .ok (.aload_n 0, 1) := by decide +kernel
theorem dX0_reachFrom_33 : decode cX0_reachFrom 33 = .ok (.getfield 9, 3) := by decide +kernel
theorem dX0_reachFrom_36 : decode cX0_reachFrom 36 = .ok (.iload_n 3, 1) := by decide +kernel
theorem dX0_reachFrom_37 : decode cX0_reachFrom 37 = .ok (.iaload, 1) := by decide +kernel
theorem dX0_reachFrom_38 : decode cX0_reachFrom 38 = .ok (.aload_n 1, 1) := by decide +kernel
theorem dX0_reachFrom_39 : decode cX0_reachFrom 39 = .ok (.aload_n 2, 1) := by decide +kernel
theorem dX0_reachFrom_40 : decode cX0_reachFrom 40 = .ok (.iload_n 3, 1) := by decide +kernel
theorem dX0_reachFrom_41 : decode cX0_reachFrom 41 = .ok (.iload 5, 2) := by decide +kernel
theorem dX0_reachFrom_43 : decode cX0_reachFrom 43 = .ok (.iload 4, 2) := by decide +kernel
theorem dX0_reachFrom_45 : decode cX0_reachFrom 45 = .ok (.invokestatic 66, 3) := by decide +kernel
theorem dX0_reachFrom_48 : decode cX0_reachFrom 48 = .ok (.invokestatic 70, 3) := by decide +kernel
theorem dX0_reachFrom_51 : decode cX0_reachFrom 51 = .ok (.iadd, 1) := by decide +kernel
theorem dX0_reachFrom_52 : decode cX0_reachFrom 52 = .ok (.istore 6, 2) := by decide +kernel
theorem dX0_reachFrom_54 : decode cX0_reachFrom 54 = .ok (.iload 6, 2) := by decide +kernel
theorem dX0_reachFrom_56 : decode cX0_reachFrom 56 = .ok (.aload_n 0, 1) := by decide +kernel
theorem dX0_reachFrom_57 : decode cX0_reachFrom 57 = .ok (.getfield 9, 3) := by decide +kernel
theorem dX0_reachFrom_60 : decode cX0_reachFrom 60 = .ok (.iload 5, 2) := by decide +kernel
theorem dX0_reachFrom_62 : decode cX0_reachFrom 62 = .ok (.iaload, 1) := by decide +kernel
theorem dX0_reachFrom_63 : decode cX0_reachFrom 63 = .ok (.if_icmp .ge 11, 3) := by decide +kernel
theorem dX0_reachFrom_66 : decode cX0_reachFrom 66 = .ok (.aload_n 0, 1) := by decide +kernel
theorem dX0_reachFrom_67 : decode cX0_reachFrom 67 = .ok (.iload 5, 2) := by decide +kernel
theorem dX0_reachFrom_69 : decode cX0_reachFrom 69 = .ok (.iload 6, 2) := by decide +kernel
theorem dX0_reachFrom_71 : decode cX0_reachFrom 71 = .ok (.invokevirtual 76, 3) := by decide +kernel
theorem dX0_reachFrom_74 : decode cX0_reachFrom 74 = .ok (.iinc 4 1, 3) := by decide +kernel
theorem dX0_reachFrom_77 : decode cX0_reachFrom 77 = .ok (.goto (-74), 3) := by decide +kernel
theorem dX0_reachFrom_80 : decode cX0_reachFrom 80 = .ok (.return_, 1) := by decide +kernel
theorem dX0_reach_0 : decode cX0_reach 0 = .ok (.aload_n 0, 1) := by decide +kernel
theorem dX0_reach_1 : decode cX0_reach 1 = .ok (.getfield 73, 3) := by decide +kernel
theorem dX0_reach_4 : decode cX0_reach 4 = .ok (.sipush 400, 3) := by decide +kernel
theorem dX0_reach_7 : decode cX0_reach 7 = .ok (.if_icmp .lt 4, 3) := by decide +kernel
theorem dX0_reach_10 : decode cX0_reach 10 = .ok (.return_, 1) := by decide +kernel
theorem dX0_reach_11 : decode cX0_reach 11 = .ok (.aload_n 0, 1) := by decide +kernel
theorem dX0_reach_12 : decode cX0_reach 12 = .ok (.getfield 9, 3) := by decide +kernel
theorem dX0_reach_15 : decode cX0_reach 15 = .ok (.iload_n 1, 1) := by decide +kernel
theorem dX0_reach_16 : decode cX0_reach 16 = .ok (.iload_n 2, 1) := by decide +kernel
theorem dX0_reach_17 : decode cX0_reach 17 = .ok (.iastore, 1) := by decide +kernel
theorem dX0_reach_18 : decode cX0_reach 18 = .ok (.iload_n 2, 1) := by decide +kernel
theorem dX0_reach_19 : decode cX0_reach 19 = .ok (.sipush 128, 3) := by decide +kernel
theorem dX0_reach_22 : decode cX0_reach 22 = .ok (.imul, 1) := by decide +kernel
theorem dX0_reach_23 : decode cX0_reach 23 = .ok (.iload_n 1, 1) := by decide +kernel
theorem dX0_reach_24 : decode cX0_reach 24 = .ok (.iadd, 1) := by decide +kernel
theorem dX0_reach_25 : decode cX0_reach 25 = .ok (.istore_n 3, 1) := by decide +kernel
theorem dX0_reach_26 : decode cX0_reach 26 = .ok (.aload_n 0, 1) := by decide +kernel
theorem dX0_reach_27 : decode cX0_reach 27 = .ok (.getfield 73, 3) := by decide +kernel
theorem dX0_reach_30 : decode cX0_reach 30 = .ok (.istore 4, 2) := by decide +kernel
theorem dX0_reach_32 : decode cX0_reach 32 = .ok (.aload_n 0, 1) := by decide +kernel
theorem dX0_reach_33 : decode cX0_reach 33 = .ok (.dup, 1) := by decide +kernel
theorem dX0_reach_34 : decode cX0_reach 34 = .ok (.getfield 73, 3) := by decide +kernel
theorem dX0_reach_37 : decode cX0_reach 37 = .ok (.iconst 1, 1) := by decide +kernel
theorem dX0_reach_38 : decode cX0_reach 38 = .ok (.iadd, 1) := by decide +kernel
theorem dX0_reach_39 : decode cX0_reach 39 = .ok (.putfield 73, 3) := by decide +kernel
theorem dX0_reach_42 : decode cX0_reach 42 = .ok (.iload 4, 2) := by decide +kernel
theorem dX0_reach_44 : decode cX0_reach 44 = .ok (.ifCond .le 47, 3) := by decide +kernel
theorem dX0_reach_47 : decode cX0_reach 47 = .ok (.aload_n 0, 1) := by decide +kernel
theorem dX0_reach_48 : decode cX0_reach 48 = .ok (.getfield 15, 3) := by decide +kernel
theorem dX0_reach_51 : decode cX0_reach 51 = .ok (.iload 4, 2) := by decide +kernel
theorem dX0_reach_53 : decode cX0_reach 53 = .ok (.iconst 1, 1) := by decide +kernel
theorem dX0_reach_54 : decode cX0_reach 54 = .ok (.isub, 1) := by decide +kernel
theorem dX0_reach_55 : decode cX0_reach 55 = .ok (.iconst 2, 1) := by decide +kernel
theorem dX0_reach_56 : decode cX0_reach 56 = .ok (.idiv, 1) := by decide +kernel
theorem dX0_reach_57 : decode cX0_reach 57 = .ok (.iaload, 1) := by decide +kernel
theorem dX0_reach_58 : decode cX0_reach 58 = .ok (.iload_n 3, 1) := by decide +kernel
theorem dX0_reach_59 : decode cX0_reach 59 = .ok (.if_icmp .le 32, 3) := by decide +kernel
theorem dX0_reach_62 : decode cX0_reach 62 = .ok (.aload_n 0, 1) := by decide +kernel
theorem dX0_reach_63 : decode cX0_reach 63 = .ok (.getfield 15, 3) := by decide +kernel
theorem dX0_reach_66 : decode cX0_reach 66 = .ok (.iload 4, 2) := by decide +kernel
theorem dX0_reach_68 : decode cX0_reach 68 = .ok (.aload_n 0, 1) := by decide +kernel
theorem dX0_reach_69 : decode cX0_reach 69 = .ok (.getfield 15, 3) := by decide +kernel
theorem dX0_reach_72 : decode cX0_reach 72 = .ok (.iload 4, 2) := by decide +kernel
theorem dX0_reach_74 : decode cX0_reach 74 = .ok (.iconst 1, 1) := by decide +kernel
theorem dX0_reach_75 : decode cX0_reach 75 = .ok (.isub, 1) := by decide +kernel
theorem dX0_reach_76 : decode cX0_reach 76 = .ok (.iconst 2, 1) := by decide +kernel
theorem dX0_reach_77 : decode cX0_reach 77 = .ok (.idiv, 1) := by decide +kernel
theorem dX0_reach_78 : decode cX0_reach 78 = .ok (.iaload, 1) := by decide +kernel
theorem dX0_reach_79 : decode cX0_reach 79 = .ok (.iastore, 1) := by decide +kernel
theorem dX0_reach_80 : decode cX0_reach 80 = .ok (.iload 4, 2) := by decide +kernel
theorem dX0_reach_82 : decode cX0_reach 82 = .ok (.iconst 1, 1) := by decide +kernel
theorem dX0_reach_83 : decode cX0_reach 83 = .ok (.isub, 1) := by decide +kernel
theorem dX0_reach_84 : decode cX0_reach 84 = .ok (.iconst 2, 1) := by decide +kernel
theorem dX0_reach_85 : decode cX0_reach 85 = .ok (.idiv, 1) := by decide +kernel
theorem dX0_reach_86 : decode cX0_reach 86 = .ok (.istore 4, 2) := by decide +kernel
theorem dX0_reach_88 : decode cX0_reach 88 = .ok (.goto (-46), 3) := by decide +kernel
theorem dX0_reach_91 : decode cX0_reach 91 = .ok (.aload_n 0, 1) := by decide +kernel
theorem dX0_reach_92 : decode cX0_reach 92 = .ok (.getfield 15, 3) := by decide +kernel
theorem dX0_reach_95 : decode cX0_reach 95 = .ok (.iload 4, 2) := by decide +kernel
theorem dX0_reach_97 : decode cX0_reach 97 = .ok (.iload_n 3, 1) := by decide +kernel
theorem dX0_reach_98 : decode cX0_reach 98 = .ok (.iastore, 1) := by decide +kernel
theorem dX0_reach_99 : decode cX0_reach 99 = .ok (.return_, 1) := by decide +kernel
theorem dX0_pull_0 : decode cX0_pull 0 = .ok (.aload_n 0, 1) := by decide +kernel
theorem dX0_pull_1 : decode cX0_pull 1 = .ok (.getfield 15, 3) := by decide +kernel
theorem dX0_pull_4 : decode cX0_pull 4 = .ok (.iconst 0, 1) := by decide +kernel
theorem dX0_pull_5 : decode cX0_pull 5 = .ok (.iaload, 1) := by decide +kernel
theorem dX0_pull_6 : decode cX0_pull 6 = .ok (.istore_n 1, 1) := by decide +kernel
theorem dX0_pull_7 : decode cX0_pull 7 = .ok (.aload_n 0, 1) := by decide +kernel
theorem dX0_pull_8 : decode cX0_pull 8 = .ok (.dup, 1) := by decide +kernel
theorem dX0_pull_9 : decode cX0_pull 9 = .ok (.getfield 73, 3) := by decide +kernel
theorem dX0_pull_12 : decode cX0_pull 12 = .ok (.iconst 1, 1) := by decide +kernel
theorem dX0_pull_13 : decode cX0_pull 13 = .ok (.isub, 1) := by decide +kernel
theorem dX0_pull_14 : decode cX0_pull 14 = .ok (.putfield 73, 3) := by decide +kernel
theorem dX0_pull_17 : decode cX0_pull 17 = .ok (.aload_n 0, 1) := by decide +kernel
theorem dX0_pull_18 : decode cX0_pull 18 = .ok (.getfield 15, 3) := by decide +kernel
theorem dX0_pull_21 : decode cX0_pull 21 = .ok (.aload_n 0, 1) := by decide +kernel
theorem dX0_pull_22 : decode cX0_pull 22 = .ok (.getfield 73, 3) := by decide +kernel
theorem dX0_pull_25 : decode cX0_pull 25 = .ok (.iaload, 1) := by decide +kernel
theorem dX0_pull_26 : decode cX0_pull 26 = .ok (.istore_n 2, 1) := by decide +kernel
theorem dX0_pull_27 : decode cX0_pull 27 = .ok (.iconst 0, 1) := by decide +kernel
theorem dX0_pull_28 : decode cX0_pull 28 = .ok (.istore_n 3, 1) := by decide +kernel
theorem dX0_pull_29 : decode cX0_pull 29 = .ok (.iconst 1, 1) := by decide +kernel
theorem dX0_pull_30 : decode cX0_pull 30 = .ok (.istore 4, 2) := by decide +kernel
theorem dX0_pull_32 : decode cX0_pull 32 = .ok (.iload 4, 2) := by decide +kernel
theorem dX0_pull_34 : decode cX0_pull 34 = .ok (.aload_n 0, 1) := by decide +kernel
theorem dX0_pull_35 : decode cX0_pull 35 = .ok (.getfield 73, 3) := by decide +kernel
theorem dX0_pull_38 : decode cX0_pull 38 = .ok (.if_icmp .ge 76, 3) := by decide +kernel
theorem dX0_pull_41 : decode cX0_pull 41 = .ok (.iload 4, 2) := by decide +kernel
theorem dX0_pull_43 : decode cX0_pull 43 = .ok (.iconst 1, 1) := by decide +kernel
theorem dX0_pull_44 : decode cX0_pull 44 = .ok (.iadd, 1) := by decide +kernel
theorem dX0_pull_45 : decode cX0_pull 45 = .ok (.aload_n 0, 1) := by decide +kernel
theorem dX0_pull_46 : decode cX0_pull 46 = .ok (.getfield 73, 3) := by decide +kernel
theorem dX0_pull_49 : decode cX0_pull 49 = .ok (.if_icmp .ge 25, 3) := by decide +kernel
theorem dX0_pull_52 : decode cX0_pull 52 = .ok (.aload_n 0, 1) := by decide +kernel
theorem dX0_pull_53 : decode cX0_pull 53 = .ok (.getfield 15, 3) := by decide +kernel
theorem dX0_pull_56 : decode cX0_pull 56 = .ok (.iload 4, 2) := by decide +kernel
theorem dX0_pull_58 : decode cX0_pull 58 = .ok (.iconst 1, 1) := by decide +kernel
theorem dX0_pull_59 : decode cX0_pull 59 = .ok (.iadd, 1) := by decide +kernel
theorem dX0_pull_60 : decode cX0_pull 60 = .ok (.iaload, 1) := by decide +kernel
theorem dX0_pull_61 : decode cX0_pull 61 = .ok (.aload_n 0, 1) := by decide +kernel
theorem dX0_pull_62 : decode cX0_pull 62 = .ok (.getfield 15, 3) := by decide +kernel
theorem dX0_pull_65 : decode cX0_pull 65 = .ok (.iload 4, 2) := by decide +kernel
theorem dX0_pull_67 : decode cX0_pull 67 = .ok (.iaload, 1) := by decide +kernel
theorem dX0_pull_68 : decode cX0_pull 68 = .ok (.if_icmp .ge 6, 3) := by decide +kernel
theorem dX0_pull_71 : decode cX0_pull 71 = .ok (.iinc 4 1, 3) := by decide +kernel
theorem dX0_pull_74 : decode cX0_pull 74 = .ok (.aload_n 0, 1) := by decide +kernel
theorem dX0_pull_75 : decode cX0_pull 75 = .ok (.getfield 15, 3) := by decide +kernel
theorem dX0_pull_78 : decode cX0_pull 78 = .ok (.iload 4, 2) := by decide +kernel
theorem dX0_pull_80 : decode cX0_pull 80 = .ok (.iaload, 1) := by decide +kernel
theorem dX0_pull_81 : decode cX0_pull 81 = .ok (.iload_n 2, 1) := by decide +kernel
theorem dX0_pull_82 : decode cX0_pull 82 = .ok (.if_icmp .lt 6, 3) := by decide +kernel
theorem dX0_pull_85 : decode cX0_pull 85 = .ok (.goto 29, 3) := by decide +kernel
theorem dX0_pull_88 : decode cX0_pull 88 = .ok (.aload_n 0, 1) := by decide +kernel
theorem dX0_pull_89 : decode cX0_pull 89 = .ok (.getfield 15, 3) := by decide +kernel
theorem dX0_pull_92 : decode cX0_pull 92 = .ok (.iload_n 3, 1) := by decide +kernel
theorem dX0_pull_93 : decode cX0_pull 93 = .ok (.aload_n 0, 1) := by decide +kernel
theorem dX0_pull_94 : decode cX0_pull 94 = .ok (.getfield 15, 3) := by decide +kernel
theorem dX0_pull_97 : decode cX0_pull 97 = .ok (.iload 4, 2) := by decide +kernel
theorem dX0_pull_99 : decode cX0_pull 99 = .ok (.iaload, 1) := by decide +kernel
theorem dX0_pull_100 : decode cX0_pull 100 = .ok (.iastore, 1) := by decide +kernel
theorem dX0_pull_101 : decode cX0_pull 101 = .ok (.iload 4, 2) := by decide +kernel
theorem dX0_pull_103 : decode cX0_pull 103 = .ok (.istore_n 3, 1) := by decide +kernel
theorem dX0_pull_104 : decode cX0_pull 104 = .ok (.iconst 2, 1) := by decide +kernel
theorem dX0_pull_105 : decode cX0_pull 105 = .ok (.iload_n 3, 1) := by decide +kernel
theorem dX0_pull_106 : decode cX0_pull 106 = .ok (.imul, 1) := by decide +kernel
theorem dX0_pull_107 : decode cX0_pull 107 = .ok (.iconst 1, 1) := by decide +kernel
theorem dX0_pull_108 : decode cX0_pull 108 = .ok (.iadd, 1) := by decide +kernel
theorem dX0_pull_109 : decode cX0_pull 109 = .ok (.istore 4, 2) := by decide +kernel
theorem dX0_pull_111 : decode cX0_pull 111 = .ok (.goto (-79), 3) := by decide +kernel
theorem dX0_pull_114 : decode cX0_pull 114 = .ok (.aload_n 0, 1) := by decide +kernel
theorem dX0_pull_115 : decode cX0_pull 115 = .ok (.getfield 15, 3) := by decide +kernel
theorem dX0_pull_118 : decode cX0_pull 118 = .ok (.iload_n 3, 1) := by decide +kernel
theorem dX0_pull_119 : decode cX0_pull 119 = .ok (.iload_n 2, 1) := by decide +kernel
theorem dX0_pull_120 : decode cX0_pull 120 = .ok (.iastore, 1) := by decide +kernel
theorem dX0_pull_121 : decode cX0_pull 121 = .ok (.iload_n 1, 1) := by decide +kernel
theorem dX0_pull_122 : decode cX0_pull 122 = .ok (.ireturn, 1) := by decide +kernel
theorem dX1_init_0 : decode cX1_init 0 = .ok (.aload_n 0, 1) := by decide +kernel
theorem dX1_init_1 : decode cX1_init 1 = .ok (.invokespecial 3, 3) := by decide +kernel
theorem dX1_init_4 : decode cX1_init 4 = .ok (.aload_n 0, 1) := by decide +kernel
theorem dX1_init_5 : decode cX1_init 5 = .ok (.bipush 100, 2) := by decide +kernel
theorem dX1_init_7 : decode cX1_init 7 = .ok (.newarray .int, 2) := by decide +kernel
theorem dX1_init_9 : decode cX1_init 9 = .ok (.putfield 9, 3) := by decide +kernel
theorem dX1_init_12 : decode cX1_init 12 = .ok (.aload_n 0, 1) := by decide +kernel
theorem dX1_init_13 : decode cX1_init 13 = .ok (.iload_n 1, 1) := by decide +kernel
theorem dX1_init_14 : decode cX1_init 14 = .ok (.putfield 15, 3) := by decide +kernel
theorem dX1_init_17 : decode cX1_init 17 = .ok (.return_, 1) := by decide +kernel
theorem dX1_join_0 : decode cX1_join 0 = .ok (.aload_n 0, 1) := by decide +kernel
theorem dX1_join_1 : decode cX1_join 1 = .ok (.iload_n 1, 1) := by decide +kernel
theorem dX1_join_2 : decode cX1_join 2 = .ok (.putfield 19, 3) := by decide +kernel
theorem dX1_join_5 : decode cX1_join 5 = .ok (.aload_n 0, 1) := by decide +kernel
theorem dX1_join_6 : decode cX1_join 6 = .ok (.iload_n 2, 1) := by decide +kernel
theorem dX1_join_7 : decode cX1_join 7 = .ok (.putfield 22, 3) := by decide +kernel
theorem dX1_join_10 : decode cX1_join 10 = .ok (.aload_n 0, 1) := by decide +kernel
theorem dX1_join_11 : decode cX1_join 11 = .ok (.iconst 0, 1) := by decide +kernel
theorem dX1_join_12 : decode cX1_join 12 = .ok (.putfield 25, 3) := by decide +kernel
theorem dX1_join_15 : decode cX1_join 15 = .ok (.return_, 1) := by decide +kernel
theorem dX1_hasWay_0 : decode cX1_hasWay 0 = .ok (.aload_n 0, 1) := by decide +kernel
theorem dX1_hasWay_1 : decode cX1_hasWay 1 = .ok (.getfield 25, 3) := by decide +kernel
theorem dX1_hasWay_4 : decode cX1_hasWay 4 = .ok (.ifCond .le 7, 3) := by decide +kernel
theorem dX1_hasWay_7 : decode cX1_hasWay 7 = .ok (.iconst 1, 1) := by decide +kernel
theorem dX1_hasWay_8 : decode cX1_hasWay 8 = .ok (.goto 4, 3) := by decide +kernel
theorem dX1_hasWay_11 : decode cX1_hasWay 11 = .ok (.iconst 0, 1) := by decide +kernel
theorem dX1_hasWay_12 : decode cX1_hasWay 12 = .ok (.ireturn, 1) := by decide +kernel
theorem dX1_detourOfWay_0 : decode cX1_detourOfWay 0 = .ok (.aload_n 0, 1) := by decide +kernel
theorem dX1_detourOfWay_1 : decode cX1_detourOfWay 1 = .ok (.getfield 19, 3) := by decide +kernel
theorem dX1_detourOfWay_4 : decode cX1_detourOfWay 4 = .ok (.bipush 10, 2) := by decide +kernel
theorem dX1_detourOfWay_6 : decode cX1_detourOfWay 6 = .ok (.irem, 1) := by decide +kernel
theorem dX1_detourOfWay_7 : decode cX1_detourOfWay 7 = .ok (.aload_n 0, 1) := by decide +kernel
theorem dX1_detourOfWay_8 : decode cX1_detourOfWay 8 = .ok (.getfield 22, 3) := by decide +kernel
theorem dX1_detourOfWay_11 : decode cX1_detourOfWay 11 = .ok (.bipush 10, 2) := by decide +kernel
theorem dX1_detourOfWay_13 : decode cX1_detourOfWay 13 = .ok (.irem, 1) := by decide +kernel
theorem dX1_detourOfWay_14 : decode cX1_detourOfWay 14 = .ok (.isub, 1) := by decide +kernel
theorem dX1_detourOfWay_15 : decode cX1_detourOfWay 15 = .ok (.invokestatic 28, 3) := by decide +kernel
theorem dX1_detourOfWay_18 : decode cX1_detourOfWay 18 = .ok (.aload_n 0, 1) := by decide +kernel
theorem dX1_detourOfWay_19 : decode cX1_detourOfWay 19 = .ok (.getfield 19, 3) := by decide +kernel
theorem dX1_detourOfWay_22 : decode cX1_detourOfWay 22 = .ok (.bipush 10, 2) := by decide +kernel
theorem dX1_detourOfWay_24 : decode cX1_detourOfWay 24 = .ok (.idiv, 1) := by decide +kernel
theorem dX1_detourOfWay_25 : decode cX1_detourOfWay 25 = .ok (.aload_n 0, 1) := by decide +kernel
theorem dX1_detourOfWay_26 : decode cX1_detourOfWay 26 = .ok (.getfield 22, 3) := by decide +kernel
theorem dX1_detourOfWay_29 : decode cX1_detourOfWay 29 = .ok (.bipush 10, 2) := by decide +kernel
theorem dX1_detourOfWay_31 : decode cX1_detourOfWay 31 = .ok (.idiv, 1) := by decide +kernel
theorem dX1_detourOfWay_32 : decode cX1_detourOfWay 32 = .ok (.isub, 1) := by decide +kernel
theorem dX1_detourOfWay_33 : decode cX1_detourOfWay 33 = .ok (.invokestatic 28, 3) := by decide +kernel
theorem dX1_detourOfWay_36 : decode cX1_detourOfWay 36 = .ok (.iadd, 1) := by decide +kernel
theorem dX1_detourOfWay_37 : decode cX1_detourOfWay 37 = .ok (.istore_n 1, 1) := by decide +kernel
theorem dX1_detourOfWay_38 : decode cX1_detourOfWay 38 = .ok (.iload_n 1, 1) := by decide +kernel
theorem dX1_detourOfWay_39 : decode cX1_detourOfWay 39 = .ok (.ifCond .le 15, 3) := by decide +kernel
theorem dX1_detourOfWay_42 : decode cX1_detourOfWay 42 = .ok (.aload_n 0, 1) := by decide +kernel
theorem dX1_detourOfWay_43 : decode cX1_detourOfWay 43 = .ok (.getfield 25, 3) := by decide +kernel
theorem dX1_detourOfWay_46 : decode cX1_detourOfWay 46 = .ok (.bipush 100, 2) := by decide +kernel
theorem dX1_detourOfWay_48 : decode cX1_detourOfWay 48 = .ok (.imul, 1) := by decide +kernel
theorem dX1_detourOfWay_49 : decode cX1_detourOfWay 49 = .ok (.iload_n 1, 1) := by decide +kernel
theorem dX1_detourOfWay_50 : decode cX1_detourOfWay 50 = .ok (.idiv, 1) := by decide +kernel
theorem dX1_detourOfWay_51 : decode cX1_detourOfWay 51 = .ok (.goto 5, 3) := by decide +kernel
theorem dX1_detourOfWay_54 : decode cX1_detourOfWay 54 = .ok (.ldc 34, 2) := by decide +kernel
theorem dX1_detourOfWay_56 : decode cX1_detourOfWay 56 = .ok (.ireturn, 1) := by decide +kernel
theorem dX2_init_0 : decode cX2_init 0 = .ok (.aload_n 0, 1) := by decide +kernel
theorem dX2_init_1 : decode cX2_init 1 = .ok (.invokespecial 3, 3) := by decide +kernel
theorem dX2_init_4 : decode cX2_init 4 = .ok (.aload_n 0, 1) := by decide +kernel
theorem dX2_init_5 : decode cX2_init 5 = .ok (.bipush 100, 2) := by decide +kernel
theorem dX2_init_7 : decode cX2_init 7 = .ok (.newarray .boolean, 2) := by decide +kernel
theorem dX2_init_9 : decode cX2_init 9 = .ok (.putfield 9, 3) := by decide +kernel
theorem dX2_init_12 : decode cX2_init 12 = .ok (.aload_n 0, 1) := by decide +kernel
theorem dX2_init_13 : decode cX2_init 13 = .ok (.bipush 100, 2) := by decide +kernel
theorem dX2_init_15 : decode cX2_init 15 = .ok (.newarray .int, 2) := by decide +kernel
theorem dX2_init_17 : decode cX2_init 17 = .ok (.putfield 15, 3) := by decide +kernel
theorem dX2_init_20 : decode cX2_init 20 = .ok (.aload_n 0, 1) := by decide +kernel
theorem dX2_init_21 : decode cX2_init 21 = .ok (.sipush 200, 3) := by decide +kernel
theorem dX2_init_24 : decode cX2_init 24 = .ok (.newarray .int, 2) := by decide +kernel
theorem dX2_init_26 : decode cX2_init 26 = .ok (.putfield 19, 3) := by decide +kernel
theorem dX2_init_29 : decode cX2_init 29 = .ok (.aload_n 0, 1) := by decide +kernel
theorem dX2_init_30 : decode cX2_init 30 = .ok (.bipush 100, 2) := by decide +kernel
theorem dX2_init_32 : decode cX2_init 32 = .ok (.newarray .boolean, 2) := by decide +kernel
theorem dX2_init_34 : decode cX2_init 34 = .ok (.putfield 22, 3) := by decide +kernel
theorem dX2_init_37 : decode cX2_init 37 = .ok (.aload_n 0, 1) := by decide +kernel
theorem dX2_init_38 : decode cX2_init 38 = .ok (.bipush 10, 2) := by decide +kernel
theorem dX2_init_40 : decode cX2_init 40 = .ok (.putfield 25, 3) := by decide +kernel
theorem dX2_init_43 : decode cX2_init 43 = .ok (.aload_n 0, 1) := by decide +kernel
theorem dX2_init_44 : decode cX2_init 44 = .ok (.iconst 3, 1) := by decide +kernel
theorem dX2_init_45 : decode cX2_init 45 = .ok (.putfield 29, 3) := by decide +kernel
theorem dX2_init_48 : decode cX2_init 48 = .ok (.iconst 0, 1) := by decide +kernel
theorem dX2_init_49 : decode cX2_init 49 = .ok (.istore_n 1, 1) := by decide +kernel
theorem dX2_init_50 : decode cX2_init 50 = .ok (.iload_n 1, 1) := by decide +kernel
theorem dX2_init_51 : decode cX2_init 51 = .ok (.bipush 100, 2) := by decide +kernel
theorem dX2_init_53 : decode cX2_init 53 = .ok (.if_icmp .ge 17, 3) := by decide +kernel
theorem dX2_init_56 : decode cX2_init 56 = .ok (.aload_n 0, 1) := by decide +kernel
theorem dX2_init_57 : decode cX2_init 57 = .ok (.getfield 15, 3) := by decide +kernel
theorem dX2_init_60 : decode cX2_init 60 = .ok (.iload_n 1, 1) := by decide +kernel
theorem dX2_init_61 : decode cX2_init 61 = .ok (.ldc 32, 2) := by decide +kernel
theorem dX2_init_63 : decode cX2_init 63 = .ok (.iastore, 1) := by decide +kernel
theorem dX2_init_64 : decode cX2_init 64 = .ok (.iinc 1 1, 3) := by decide +kernel
theorem dX2_init_67 : decode cX2_init 67 = .ok (.goto (-17), 3) := by decide +kernel
theorem dX2_init_70 : decode cX2_init 70 = .ok (.return_, 1) := by decide +kernel
theorem dX2_price_0 : decode cX2_price 0 = .ok (.iconst 1, 1) := by decide +kernel
theorem dX2_price_1 : decode cX2_price 1 = .ok (.aload_n 0, 1) := by decide +kernel
theorem dX2_price_2 : decode cX2_price 2 = .ok (.getfield 25, 3) := by decide +kernel
theorem dX2_price_5 : decode cX2_price 5 = .ok (.iload_n 1, 1) := by decide +kernel
theorem dX2_price_6 : decode cX2_price 6 = .ok (.aload_n 0, 1) := by decide +kernel
theorem dX2_price_7 : decode cX2_price 7 = .ok (.getfield 29, 3) := by decide +kernel
theorem dX2_price_10 : decode cX2_price 10 = .ok (.imul, 1) := by decide +kernel
theorem dX2_price_11 : decode cX2_price 11 = .ok (.isub, 1) := by decide +kernel
theorem dX2_price_12 : decode cX2_price 12 = .ok (.invokestatic 33, 3) := by decide +kernel
theorem dX2_price_15 : decode cX2_price 15 = .ok (.ireturn, 1) := by decide +kernel
theorem dX2_linesFrom_0 : decode cX2_linesFrom 0 = .ok (.iload_n 1, 1) := by decide +kernel
theorem dX2_linesFrom_1 : decode cX2_linesFrom 1 = .ok (.iload_n 2, 1) := by decide +kernel
theorem dX2_linesFrom_2 : decode cX2_linesFrom 2 = .ok (.invokestatic 39, 3) := by decide +kernel
theorem dX2_linesFrom_5 : decode cX2_linesFrom 5 = .ok (.istore_n 3, 1) := by decide +kernel
theorem dX2_linesFrom_6 : decode cX2_linesFrom 6 = .ok (.iload_n 3, 1) := by decide +kernel
theorem dX2_linesFrom_7 : decode cX2_linesFrom 7 = .ok (.ifCond .ge 7, 3) := by decide +kernel
theorem dX2_linesFrom_10 : decode cX2_linesFrom 10 = .ok (.iconst 0, 1) := by decide +kernel
theorem dX2_linesFrom_11 : decode cX2_linesFrom 11 = .ok (.goto 14, 3) := by decide +kernel
theorem dX2_linesFrom_14 : decode cX2_linesFrom 14 = .ok (.aload_n 0, 1) := by decide +kernel
theorem dX2_linesFrom_15 : decode cX2_linesFrom 15 = .ok (.getfield 19, 3) := by decide +kernel
theorem dX2_linesFrom_18 : decode cX2_linesFrom 18 = .ok (.iload_n 1, 1) := by decide +kernel
theorem dX2_linesFrom_19 : decode cX2_linesFrom 19 = .ok (.iload_n 3, 1) := by decide +kernel
theorem dX2_linesFrom_20 : decode cX2_linesFrom 20 = .ok (.iload_n 2, 1) := by decide +kernel
theorem dX2_linesFrom_21 : decode cX2_linesFrom 21 = .ok (.invokestatic 42, 3) := by decide +kernel
theorem dX2_linesFrom_24 : decode cX2_linesFrom 24 = .ok (.iaload, 1) := by decide +kernel
theorem dX2_linesFrom_25 : decode cX2_linesFrom 25 = .ok (.ireturn, 1) := by decide +kernel
theorem dX2_widthFrom_0 : decode cX2_widthFrom 0 = .ok (.aload_n 0, 1) := by decide +kernel
theorem dX2_widthFrom_1 : decode cX2_widthFrom 1 = .ok (.iload_n 1, 1) := by decide +kernel
theorem dX2_widthFrom_2 : decode cX2_widthFrom 2 = .ok (.iload_n 2, 1) := by decide +kernel
theorem dX2_widthFrom_3 : decode cX2_widthFrom 3 = .ok (.invokevirtual 46, 3) := by decide +kernel
theorem dX2_widthFrom_6 : decode cX2_widthFrom 6 = .ok (.invokestatic 49, 3) := by decide +kernel
theorem dX2_widthFrom_9 : decode cX2_widthFrom 9 = .ok (.ireturn, 1) := by decide +kernel
theorem dX2_shutPlaces_0 : decode cX2_shutPlaces 0 = .ok (.iconst 0, 1) := by decide +kernel
theorem dX2_shutPlaces_1 : decode cX2_shutPlaces 1 = .ok (.istore_n 1, 1) := by decide +kernel
theorem dX2_shutPlaces_2 : decode cX2_shutPlaces 2 = .ok (.iconst 0, 1) := by decide +kernel
theorem dX2_shutPlaces_3 : decode cX2_shutPlaces 3 = .ok (.istore_n 2, 1) := by decide +kernel
theorem dX2_shutPlaces_4 : decode cX2_shutPlaces 4 = .ok (.iload_n 2, 1) := by decide +kernel
theorem dX2_shutPlaces_5 : decode cX2_shutPlaces 5 = .ok (.bipush 100, 2) := by decide +kernel
theorem dX2_shutPlaces_7 : decode cX2_shutPlaces 7 = .ok (.if_icmp .ge 21, 3) := by decide +kernel
theorem dX2_shutPlaces_10 : decode cX2_shutPlaces 10 = .ok (.aload_n 0, 1) := by decide +kernel
theorem dX2_shutPlaces_11 : decode cX2_shutPlaces 11 = .ok (.getfield 9, 3) := by decide +kernel
theorem dX2_shutPlaces_14 : decode cX2_shutPlaces 14 = .ok (.iload_n 2, 1) := by decide +kernel
theorem dX2_shutPlaces_15 : decode cX2_shutPlaces 15 = .ok (.baload, 1) := by decide +kernel
theorem dX2_shutPlaces_16 : decode cX2_shutPlaces 16 = .ok (.ifCond .eq 6, 3) := by decide +kernel
theorem dX2_shutPlaces_19 : decode cX2_shutPlaces 19 = .ok (.iinc 1 1, 3) := by decide +kernel
theorem dX2_shutPlaces_22 : decode cX2_shutPlaces 22 = .ok (.iinc 2 1, 3) := by decide +kernel
theorem dX2_shutPlaces_25 : decode cX2_shutPlaces 25 = .ok (.goto (-21), 3) := by decide +kernel
theorem dX2_shutPlaces_28 : decode cX2_shutPlaces 28 = .ok (.iload_n 1, 1) := by decide +kernel
theorem dX2_shutPlaces_29 : decode cX2_shutPlaces 29 = .ok (.ireturn, 1) := by decide +kernel
theorem dX2_isGoneThrough_0 : decode cX2_isGoneThrough 0 = .ok (.iconst 0, 1) := by decide +kernel
theorem dX2_isGoneThrough_1 : decode cX2_isGoneThrough 1 = .ok (.istore_n 2, 1) := by decide +kernel
theorem dX2_isGoneThrough_2 : decode cX2_isGoneThrough 2 = .ok (.iconst 0, 1) := by decide +kernel
theorem dX2_isGoneThrough_3 : decode cX2_isGoneThrough 3 = .ok (.istore_n 3, 1) := by decide +kernel
theorem dX2_isGoneThrough_4 : decode cX2_isGoneThrough 4 = .ok (.iload_n 3, 1) := by decide +kernel
theorem dX2_isGoneThrough_5 : decode cX2_isGoneThrough 5 = .ok (.iconst 4, 1) := by decide +kernel
theorem dX2_isGoneThrough_6 : decode cX2_isGoneThrough 6 = .ok (.if_icmp .ge 18, 3) := by decide +kernel
theorem dX2_isGoneThrough_9 : decode cX2_isGoneThrough 9 = .ok (.iload_n 2, 1) := by decide +kernel
theorem dX2_isGoneThrough_10 : decode cX2_isGoneThrough 10 = .ok (.aload_n 0, 1) := by decide +kernel
theorem dX2_isGoneThrough_11 : decode cX2_isGoneThrough 11 = .ok (.iload_n 1, 1) := by decide +kernel
theorem dX2_isGoneThrough_12 : decode cX2_isGoneThrough 12 = .ok (.iload_n 3, 1) := by decide +kernel
theorem dX2_isGoneThrough_13 : decode cX2_isGoneThrough 13 = .ok (.invokevirtual 46, 3) := by decide +kernel
theorem dX2_isGoneThrough_16 : decode cX2_isGoneThrough 16 = .ok (.ior, 1) := by decide +kernel
theorem dX2_isGoneThrough_17 : decode cX2_isGoneThrough 17 = .ok (.istore_n 2, 1) := by decide +kernel
theorem dX2_isGoneThrough_18 : decode cX2_isGoneThrough 18 = .ok (.iinc 3 1, 3) := by decide +kernel
theorem dX2_isGoneThrough_21 : decode cX2_isGoneThrough 21 = .ok (.goto (-17), 3) := by decide +kernel
theorem dX2_isGoneThrough_24 : decode cX2_isGoneThrough 24 = .ok (.iload_n 2, 1) := by decide +kernel
theorem dX2_isGoneThrough_25 : decode cX2_isGoneThrough 25 = .ok (.ifCond .eq 7, 3) := by decide +kernel
theorem dX2_isGoneThrough_28 : decode cX2_isGoneThrough 28 = .ok (.iconst 1, 1) := by decide +kernel
theorem dX2_isGoneThrough_29 : decode cX2_isGoneThrough 29 = .ok (.goto 4, 3) := by decide +kernel
theorem dX2_isGoneThrough_32 : decode cX2_isGoneThrough 32 = .ok (.iconst 0, 1) := by decide +kernel
theorem dX2_isGoneThrough_33 : decode cX2_isGoneThrough 33 = .ok (.ireturn, 1) := by decide +kernel
theorem dX2_isWay_0 : decode cX2_isWay 0 = .ok (.iconst 0, 1) := by decide +kernel
theorem dX2_isWay_1 : decode cX2_isWay 1 = .ok (.istore 5, 2) := by decide +kernel
theorem dX2_isWay_3 : decode cX2_isWay 3 = .ok (.iload 5, 2) := by decide +kernel
theorem dX2_isWay_5 : decode cX2_isWay 5 = .ok (.bipush 100, 2) := by decide +kernel
theorem dX2_isWay_7 : decode cX2_isWay 7 = .ok (.if_icmp .ge 23, 3) := by decide +kernel
theorem dX2_isWay_10 : decode cX2_isWay 10 = .ok (.aload_n 0, 1) := by decide +kernel
theorem dX2_isWay_11 : decode cX2_isWay 11 = .ok (.getfield 22, 3) := by decide +kernel
theorem dX2_isWay_14 : decode cX2_isWay 14 = .ok (.iload 5, 2) := by decide +kernel
theorem dX2_isWay_16 : decode cX2_isWay 16 = .ok (.aload_n 0, 1) := by decide +kernel
theorem dX2_isWay_17 : decode cX2_isWay 17 = .ok (.getfield 9, 3) := by decide +kernel
theorem dX2_isWay_20 : decode cX2_isWay 20 = .ok (.iload 5, 2) := by decide +kernel
theorem dX2_isWay_22 : decode cX2_isWay 22 = .ok (.baload, 1) := by decide +kernel
theorem dX2_isWay_23 : decode cX2_isWay 23 = .ok (.bastore, 1) := by decide +kernel
theorem dX2_isWay_24 : decode cX2_isWay 24 = .ok (.iinc 5 1, 3) := by decide +kernel
theorem dX2_isWay_27 : decode cX2_isWay 27 = .ok (.goto (-24), 3) := by decide +kernel
theorem dX2_isWay_30 : decode cX2_isWay 30 = .ok (.aload_n 1, 1) := by decide +kernel
theorem dX2_isWay_31 : decode cX2_isWay 31 = .ok (.getfield 55, 3) := by decide +kernel
theorem dX2_isWay_34 : decode cX2_isWay 34 = .ok (.istore 5, 2) := by decide +kernel
theorem dX2_isWay_36 : decode cX2_isWay 36 = .ok (.aload_n 0, 1) := by decide +kernel
theorem dX2_isWay_37 : decode cX2_isWay 37 = .ok (.getfield 22, 3) := by decide +kernel
theorem dX2_isWay_40 : decode cX2_isWay 40 = .ok (.iload 5, 2) := by decide +kernel
theorem dX2_isWay_42 : decode cX2_isWay 42 = .ok (.iconst 1, 1) := by decide +kernel
theorem dX2_isWay_43 : decode cX2_isWay 43 = .ok (.bastore, 1) := by decide +kernel
theorem dX2_isWay_44 : decode cX2_isWay 44 = .ok (.iload_n 3, 1) := by decide +kernel
theorem dX2_isWay_45 : decode cX2_isWay 45 = .ok (.istore 6, 2) := by decide +kernel
theorem dX2_isWay_47 : decode cX2_isWay 47 = .ok (.iload 6, 2) := by decide +kernel
theorem dX2_isWay_49 : decode cX2_isWay 49 = .ok (.iload_n 3, 1) := by decide +kernel
theorem dX2_isWay_50 : decode cX2_isWay 50 = .ok (.iload 4, 2) := by decide +kernel
theorem dX2_isWay_52 : decode cX2_isWay 52 = .ok (.iadd, 1) := by decide +kernel
theorem dX2_isWay_53 : decode cX2_isWay 53 = .ok (.if_icmp .ge 59, 3) := by decide +kernel
theorem dX2_isWay_56 : decode cX2_isWay 56 = .ok (.aload_n 2, 1) := by decide +kernel
theorem dX2_isWay_57 : decode cX2_isWay 57 = .ok (.iload 6, 2) := by decide +kernel
theorem dX2_isWay_59 : decode cX2_isWay 59 = .ok (.iaload, 1) := by decide +kernel
theorem dX2_isWay_60 : decode cX2_isWay 60 = .ok (.invokestatic 60, 3) := by decide +kernel
theorem dX2_isWay_63 : decode cX2_isWay 63 = .ok (.ifCond .eq 15, 3) := by decide +kernel
theorem dX2_isWay_66 : decode cX2_isWay 66 = .ok (.iload 5, 2) := by decide +kernel
theorem dX2_isWay_68 : decode cX2_isWay 68 = .ok (.aload_n 2, 1) := by decide +kernel
theorem dX2_isWay_69 : decode cX2_isWay 69 = .ok (.iload 6, 2) := by decide +kernel
theorem dX2_isWay_71 : decode cX2_isWay 71 = .ok (.iaload, 1) := by decide +kernel
theorem dX2_isWay_72 : decode cX2_isWay 72 = .ok (.invokestatic 39, 3) := by decide +kernel
theorem dX2_isWay_75 : decode cX2_isWay 75 = .ok (.goto 4, 3) := by decide +kernel
theorem dX2_isWay_78 : decode cX2_isWay 78 = .ok (.iconst (-1), 1) := by decide +kernel
theorem dX2_isWay_79 : decode cX2_isWay 79 = .ok (.istore 5, 2) := by decide +kernel
theorem dX2_isWay_81 : decode cX2_isWay 81 = .ok (.iload 5, 2) := by decide +kernel
theorem dX2_isWay_83 : decode cX2_isWay 83 = .ok (.ifCond .lt 13, 3) := by decide +kernel
theorem dX2_isWay_86 : decode cX2_isWay 86 = .ok (.aload_n 0, 1) := by decide +kernel
theorem dX2_isWay_87 : decode cX2_isWay 87 = .ok (.getfield 22, 3) := by decide +kernel
theorem dX2_isWay_90 : decode cX2_isWay 90 = .ok (.iload 5, 2) := by decide +kernel
theorem dX2_isWay_92 : decode cX2_isWay 92 = .ok (.baload, 1) := by decide +kernel
theorem dX2_isWay_93 : decode cX2_isWay 93 = .ok (.ifCond .eq 5, 3) := by decide +kernel
theorem dX2_isWay_96 : decode cX2_isWay 96 = .ok (.iconst 0, 1) := by decide +kernel
theorem dX2_isWay_97 : decode cX2_isWay 97 = .ok (.ireturn, 1) := by decide +kernel
theorem dX2_isWay_98 : decode cX2_isWay 98 = .ok (.aload_n 0, 1) := by decide +kernel
theorem dX2_isWay_99 : decode cX2_isWay 99 = .ok (.getfield 22, 3) := by decide +kernel
theorem dX2_isWay_102 : decode cX2_isWay 102 = .ok (.iload 5, 2) := by decide +kernel
theorem dX2_isWay_104 : decode cX2_isWay 104 = .ok (.iconst 1, 1) := by decide +kernel
theorem dX2_isWay_105 : decode cX2_isWay 105 = .ok (.bastore, 1) := by decide +kernel
theorem dX2_isWay_106 : decode cX2_isWay 106 = .ok (.iinc 6 1, 3) := by decide +kernel
theorem dX2_isWay_109 : decode cX2_isWay 109 = .ok (.goto (-62), 3) := by decide +kernel
theorem dX2_isWay_112 : decode cX2_isWay 112 = .ok (.iload 5, 2) := by decide +kernel
theorem dX2_isWay_114 : decode cX2_isWay 114 = .ok (.aload_n 1, 1) := by decide +kernel
theorem dX2_isWay_115 : decode cX2_isWay 115 = .ok (.getfield 64, 3) := by decide +kernel
theorem dX2_isWay_118 : decode cX2_isWay 118 = .ok (.if_icmp .ne 7, 3) := by decide +kernel
theorem dX2_isWay_121 : decode cX2_isWay 121 = .ok (.iconst 1, 1) := by decide +kernel
theorem dX2_isWay_122 : decode cX2_isWay 122 = .ok (.goto 4, 3) := by decide +kernel
theorem dX2_isWay_125 : decode cX2_isWay 125 = .ok (.iconst 0, 1) := by decide +kernel
theorem dX2_isWay_126 : decode cX2_isWay 126 = .ok (.ireturn, 1) := by decide +kernel
theorem dX2_giveWay_0 : decode cX2_giveWay 0 = .ok (.aload_n 0, 1) := by decide +kernel
theorem dX2_giveWay_1 : decode cX2_giveWay 1 = .ok (.aload_n 1, 1) := by decide +kernel
theorem dX2_giveWay_2 : decode cX2_giveWay 2 = .ok (.invokevirtual 67, 3) := by decide +kernel
theorem dX2_giveWay_5 : decode cX2_giveWay 5 = .ok (.aload_n 2, 1) := by decide +kernel
theorem dX2_giveWay_6 : decode cX2_giveWay 6 = .ok (.iload_n 3, 1) := by decide +kernel
theorem dX2_giveWay_7 : decode cX2_giveWay 7 = .ok (.aload_n 1, 1) := by decide +kernel
theorem dX2_giveWay_8 : decode cX2_giveWay 8 = .ok (.getfield 71, 3) := by decide +kernel
theorem dX2_giveWay_11 : decode cX2_giveWay 11 = .ok (.iconst 0, 1) := by decide +kernel
theorem dX2_giveWay_12 : decode cX2_giveWay 12 = .ok (.iload 4, 2) := by decide +kernel
theorem dX2_giveWay_14 : decode cX2_giveWay 14 = .ok (.invokestatic 74, 3) := by decide +kernel
theorem dX2_giveWay_17 : decode cX2_giveWay 17 = .ok (.aload_n 1, 1) := by decide +kernel
theorem dX2_giveWay_18 : decode cX2_giveWay 18 = .ok (.iload 4, 2) := by decide +kernel
theorem dX2_giveWay_20 : decode cX2_giveWay 20 = .ok (.putfield 80, 3) := by decide +kernel
theorem dX2_giveWay_23 : decode cX2_giveWay 23 = .ok (.aload_n 0, 1) := by decide +kernel
theorem dX2_giveWay_24 : decode cX2_giveWay 24 = .ok (.aload_n 1, 1) := by decide +kernel
theorem dX2_giveWay_25 : decode cX2_giveWay 25 = .ok (.invokevirtual 83, 3) := by decide +kernel
theorem dX2_giveWay_28 : decode cX2_giveWay 28 = .ok (.return_, 1) := by decide +kernel
theorem dX2_lift_0 : decode cX2_lift 0 = .ok (.aload_n 0, 1) := by decide +kernel
theorem dX2_lift_1 : decode cX2_lift 1 = .ok (.aload_n 1, 1) := by decide +kernel
theorem dX2_lift_2 : decode cX2_lift 2 = .ok (.invokevirtual 83, 3) := by decide +kernel
theorem dX2_lift_5 : decode cX2_lift 5 = .ok (.aload_n 1, 1) := by decide +kernel
theorem dX2_lift_6 : decode cX2_lift 6 = .ok (.iconst 0, 1) := by decide +kernel
theorem dX2_lift_7 : decode cX2_lift 7 = .ok (.putfield 80, 3) := by decide +kernel
theorem dX2_lift_10 : decode cX2_lift 10 = .ok (.return_, 1) := by decide +kernel
theorem dX2_flipAlong_0 : decode cX2_flipAlong 0 = .ok (.aload_n 1, 1) := by decide +kernel
theorem dX2_flipAlong_1 : decode cX2_flipAlong 1 = .ok (.getfield 55, 3) := by decide +kernel
theorem dX2_flipAlong_4 : decode cX2_flipAlong 4 = .ok (.istore_n 2, 1) := by decide +kernel
theorem dX2_flipAlong_5 : decode cX2_flipAlong 5 = .ok (.iconst 0, 1) := by decide +kernel
theorem dX2_flipAlong_6 : decode cX2_flipAlong 6 = .ok (.istore_n 3, 1) := by decide +kernel
theorem dX2_flipAlong_7 : decode cX2_flipAlong 7 = .ok (.iload_n 3, 1) := by decide +kernel
theorem dX2_flipAlong_8 : decode cX2_flipAlong 8 = .ok (.aload_n 1, 1) := by decide +kernel
theorem dX2_flipAlong_9 : decode cX2_flipAlong 9 = .ok (.getfield 80, 3) := by decide +kernel
theorem dX2_flipAlong_12 : decode cX2_flipAlong 12 = .ok (.if_icmp .ge 54, 3) := by decide +kernel
theorem dX2_flipAlong_15 : decode cX2_flipAlong 15 = .ok (.iload_n 2, 1) := by decide +kernel
theorem dX2_flipAlong_16 : decode cX2_flipAlong 16 = .ok (.aload_n 1, 1) := by decide +kernel
theorem dX2_flipAlong_17 : decode cX2_flipAlong 17 = .ok (.getfield 71, 3) := by decide +kernel
theorem dX2_flipAlong_20 : decode cX2_flipAlong 20 = .ok (.iload_n 3, 1) := by decide +kernel
theorem dX2_flipAlong_21 : decode cX2_flipAlong 21 = .ok (.iaload, 1) := by decide +kernel
theorem dX2_flipAlong_22 : decode cX2_flipAlong 22 = .ok (.invokestatic 39, 3) := by decide +kernel
theorem dX2_flipAlong_25 : decode cX2_flipAlong 25 = .ok (.istore 4, 2) := by decide +kernel
theorem dX2_flipAlong_27 : decode cX2_flipAlong 27 = .ok (.iload 4, 2) := by decide +kernel
theorem dX2_flipAlong_29 : decode cX2_flipAlong 29 = .ok (.ifCond .ge 4, 3) := by decide +kernel
theorem dX2_flipAlong_32 : decode cX2_flipAlong 32 = .ok (.return_, 1) := by decide +kernel
theorem dX2_flipAlong_33 : decode cX2_flipAlong 33 = .ok (.aload_n 0, 1) := by decide +kernel
theorem dX2_flipAlong_34 : decode cX2_flipAlong 34 = .ok (.getfield 19, 3) := by decide +kernel
theorem dX2_flipAlong_37 : decode cX2_flipAlong 37 = .ok (.iload_n 2, 1) := by decide +kernel
theorem dX2_flipAlong_38 : decode cX2_flipAlong 38 = .ok (.iload 4, 2) := by decide +kernel
theorem dX2_flipAlong_40 : decode cX2_flipAlong 40 = .ok (.aload_n 1, 1) := by decide +kernel
theorem dX2_flipAlong_41 : decode cX2_flipAlong 41 = .ok (.getfield 71, 3) := by decide +kernel
theorem dX2_flipAlong_44 : decode cX2_flipAlong 44 = .ok (.iload_n 3, 1) := by decide +kernel
theorem dX2_flipAlong_45 : decode cX2_flipAlong 45 = .ok (.iaload, 1) := by decide +kernel
theorem dX2_flipAlong_46 : decode cX2_flipAlong 46 = .ok (.invokestatic 42, 3) := by decide +kernel
theorem dX2_flipAlong_49 : decode cX2_flipAlong 49 = .ok (.dup2, 1) := by decide +kernel
theorem dX2_flipAlong_50 : decode cX2_flipAlong 50 = .ok (.iaload, 1) := by decide +kernel
theorem dX2_flipAlong_51 : decode cX2_flipAlong 51 = .ok (.aload_n 1, 1) := by decide +kernel
theorem dX2_flipAlong_52 : decode cX2_flipAlong 52 = .ok (.getfield 86, 3) := by decide +kernel
theorem dX2_flipAlong_55 : decode cX2_flipAlong 55 = .ok (.ixor, 1) := by decide +kernel
theorem dX2_flipAlong_56 : decode cX2_flipAlong 56 = .ok (.iastore, 1) := by decide +kernel
theorem dX2_flipAlong_57 : decode cX2_flipAlong 57 = .ok (.iload 4, 2) := by decide +kernel
theorem dX2_flipAlong_59 : decode cX2_flipAlong 59 = .ok (.istore_n 2, 1) := by decide +kernel
theorem dX2_flipAlong_60 : decode cX2_flipAlong 60 = .ok (.iinc 3 1, 3) := by decide +kernel
theorem dX2_flipAlong_63 : decode cX2_flipAlong 63 = .ok (.goto (-56), 3) := by decide +kernel
theorem dX2_flipAlong_66 : decode cX2_flipAlong 66 = .ok (.return_, 1) := by decide +kernel
theorem dX2_costAmongOthers_0 : decode cX2_costAmongOthers 0 = .ok (.iconst 0, 1) := by decide +kernel
theorem dX2_costAmongOthers_1 : decode cX2_costAmongOthers 1 = .ok (.istore_n 2, 1) := by decide +kernel
theorem dX2_costAmongOthers_2 : decode cX2_costAmongOthers 2 = .ok (.iconst 0, 1) := by decide +kernel
theorem dX2_costAmongOthers_3 : decode cX2_costAmongOthers 3 = .ok (.istore_n 3, 1) := by decide +kernel
theorem dX2_costAmongOthers_4 : decode cX2_costAmongOthers 4 = .ok (.iload_n 3, 1) := by decide +kernel
theorem dX2_costAmongOthers_5 : decode cX2_costAmongOthers 5 = .ok (.sipush 200, 3) := by decide +kernel
theorem dX2_costAmongOthers_8 : decode cX2_costAmongOthers 8 = .ok (.if_icmp .ge 41, 3) := by decide +kernel
theorem dX2_costAmongOthers_11 : decode cX2_costAmongOthers 11 = .ok (.aload_n 0, 1) := by decide +kernel
theorem dX2_costAmongOthers_12 : decode cX2_costAmongOthers 12 = .ok (.getfield 19, 3) := by decide +kernel
theorem dX2_costAmongOthers_15 : decode cX2_costAmongOthers 15 = .ok (.iload_n 3, 1) := by decide +kernel
theorem dX2_costAmongOthers_16 : decode cX2_costAmongOthers 16 = .ok (.iaload, 1) := by decide +kernel
theorem dX2_costAmongOthers_17 : decode cX2_costAmongOthers 17 = .ok (.aload_n 1, 1) := by decide +kernel
theorem dX2_costAmongOthers_18 : decode cX2_costAmongOthers 18 = .ok (.getfield 86, 3) := by decide +kernel
theorem dX2_costAmongOthers_21 : decode cX2_costAmongOthers 21 = .ok (.iand, 1) := by decide +kernel
theorem dX2_costAmongOthers_22 : decode cX2_costAmongOthers 22 = .ok (.ifCond .eq 21, 3) := by decide +kernel
theorem dX2_costAmongOthers_25 : decode cX2_costAmongOthers 25 = .ok (.iload_n 2, 1) := by decide +kernel
theorem dX2_costAmongOthers_26 : decode cX2_costAmongOthers 26 = .ok (.aload_n 0, 1) := by decide +kernel
theorem dX2_costAmongOthers_27 : decode cX2_costAmongOthers 27 = .ok (.aload_n 0, 1) := by decide +kernel
theorem dX2_costAmongOthers_28 : decode cX2_costAmongOthers 28 = .ok (.getfield 19, 3) := by decide +kernel
theorem dX2_costAmongOthers_31 : decode cX2_costAmongOthers 31 = .ok (.iload_n 3, 1) := by decide +kernel
theorem dX2_costAmongOthers_32 : decode cX2_costAmongOthers 32 = .ok (.iaload, 1) := by decide +kernel
theorem dX2_costAmongOthers_33 : decode cX2_costAmongOthers 33 = .ok (.invokestatic 49, 3) := by decide +kernel
theorem dX2_costAmongOthers_36 : decode cX2_costAmongOthers 36 = .ok (.iconst 1, 1) := by decide +kernel
theorem dX2_costAmongOthers_37 : decode cX2_costAmongOthers 37 = .ok (.isub, 1) := by decide +kernel
theorem dX2_costAmongOthers_38 : decode cX2_costAmongOthers 38 = .ok (.invokevirtual 89, 3) := by decide +kernel
theorem dX2_costAmongOthers_41 : decode cX2_costAmongOthers 41 = .ok (.iadd, 1) := by decide +kernel
theorem dX2_costAmongOthers_42 : decode cX2_costAmongOthers 42 = .ok (.istore_n 2, 1) := by decide +kernel
theorem dX2_costAmongOthers_43 : decode cX2_costAmongOthers 43 = .ok (.iinc 3 1, 3) := by decide +kernel
theorem dX2_costAmongOthers_46 : decode cX2_costAmongOthers 46 = .ok (.goto (-42), 3) := by decide +kernel
theorem dX2_costAmongOthers_49 : decode cX2_costAmongOthers 49 = .ok (.iload_n 2, 1) := by decide +kernel
theorem dX2_costAmongOthers_50 : decode cX2_costAmongOthers 50 = .ok (.ireturn, 1) := by decide +kernel
theorem dX2_sidesWithAll_0 : decode cX2_sidesWithAll 0 = .ok (.iconst 0, 1) := by decide +kernel
theorem dX2_sidesWithAll_1 : decode cX2_sidesWithAll 1 = .ok (.istore_n 2, 1) := by decide +kernel
theorem dX2_sidesWithAll_2 : decode cX2_sidesWithAll 2 = .ok (.iconst 0, 1) := by decide +kernel
theorem dX2_sidesWithAll_3 : decode cX2_sidesWithAll 3 = .ok (.istore_n 3, 1) := by decide +kernel
theorem dX2_sidesWithAll_4 : decode cX2_sidesWithAll 4 = .ok (.iload_n 3, 1) := by decide +kernel
theorem dX2_sidesWithAll_5 : decode cX2_sidesWithAll 5 = .ok (.sipush 200, 3) := by decide +kernel
theorem dX2_sidesWithAll_8 : decode cX2_sidesWithAll 8 = .ok (.if_icmp .ge 24, 3) := by decide +kernel
theorem dX2_sidesWithAll_11 : decode cX2_sidesWithAll 11 = .ok (.aload_n 0, 1) := by decide +kernel
theorem dX2_sidesWithAll_12 : decode cX2_sidesWithAll 12 = .ok (.getfield 19, 3) := by decide +kernel
theorem dX2_sidesWithAll_15 : decode cX2_sidesWithAll 15 = .ok (.iload_n 3, 1) := by decide +kernel
theorem dX2_sidesWithAll_16 : decode cX2_sidesWithAll 16 = .ok (.iaload, 1) := by decide +kernel
theorem dX2_sidesWithAll_17 : decode cX2_sidesWithAll 17 = .ok (.iload_n 1, 1) := by decide +kernel
theorem dX2_sidesWithAll_18 : decode cX2_sidesWithAll 18 = .ok (.iand, 1) := by decide +kernel
theorem dX2_sidesWithAll_19 : decode cX2_sidesWithAll 19 = .ok (.iload_n 1, 1) := by decide +kernel
theorem dX2_sidesWithAll_20 : decode cX2_sidesWithAll 20 = .ok (.if_icmp .ne 6, 3) := by decide +kernel
theorem dX2_sidesWithAll_23 : decode cX2_sidesWithAll 23 = .ok (.iinc 2 1, 3) := by decide +kernel
theorem dX2_sidesWithAll_26 : decode cX2_sidesWithAll 26 = .ok (.iinc 3 1, 3) := by decide +kernel
theorem dX2_sidesWithAll_29 : decode cX2_sidesWithAll 29 = .ok (.goto (-25), 3) := by decide +kernel
theorem dX2_sidesWithAll_32 : decode cX2_sidesWithAll 32 = .ok (.iload_n 2, 1) := by decide +kernel
theorem dX2_sidesWithAll_33 : decode cX2_sidesWithAll 33 = .ok (.ireturn, 1) := by decide +kernel
theorem dX2_sidesWithOthers_0 : decode cX2_sidesWithOthers 0 = .ok (.iconst 0, 1) := by decide +kernel
theorem dX2_sidesWithOthers_1 : decode cX2_sidesWithOthers 1 = .ok (.istore_n 2, 1) := by decide +kernel
theorem dX2_sidesWithOthers_2 : decode cX2_sidesWithOthers 2 = .ok (.iconst 0, 1) := by decide +kernel
theorem dX2_sidesWithOthers_3 : decode cX2_sidesWithOthers 3 = .ok (.istore_n 3, 1) := by decide +kernel
theorem dX2_sidesWithOthers_4 : decode cX2_sidesWithOthers 4 = .ok (.iload_n 3, 1) := by decide +kernel
theorem dX2_sidesWithOthers_5 : decode cX2_sidesWithOthers 5 = .ok (.sipush 200, 3) := by decide +kernel
theorem dX2_sidesWithOthers_8 : decode cX2_sidesWithOthers 8 = .ok (.if_icmp .ge 39, 3) := by decide +kernel
theorem dX2_sidesWithOthers_11 : decode cX2_sidesWithOthers 11 = .ok (.aload_n 0, 1) := by decide +kernel
theorem dX2_sidesWithOthers_12 : decode cX2_sidesWithOthers 12 = .ok (.getfield 19, 3) := by decide +kernel
theorem dX2_sidesWithOthers_15 : decode cX2_sidesWithOthers 15 = .ok (.iload_n 3, 1) := by decide +kernel
theorem dX2_sidesWithOthers_16 : decode cX2_sidesWithOthers 16 = .ok (.iaload, 1) := by decide +kernel
theorem dX2_sidesWithOthers_17 : decode cX2_sidesWithOthers 17 = .ok (.aload_n 1, 1) := by decide +kernel
theorem dX2_sidesWithOthers_18 : decode cX2_sidesWithOthers 18 = .ok (.getfield 86, 3) := by decide +kernel
theorem dX2_sidesWithOthers_21 : decode cX2_sidesWithOthers 21 = .ok (.iand, 1) := by decide +kernel
theorem dX2_sidesWithOthers_22 : decode cX2_sidesWithOthers 22 = .ok (.ifCond .eq 19, 3) := by decide +kernel
theorem dX2_sidesWithOthers_25 : decode cX2_sidesWithOthers 25 = .ok (.aload_n 0, 1) := by decide +kernel
theorem dX2_sidesWithOthers_26 : decode cX2_sidesWithOthers 26 = .ok (.getfield 19, 3) := by decide +kernel
theorem dX2_sidesWithOthers_29 : decode cX2_sidesWithOthers 29 = .ok (.iload_n 3, 1) := by decide +kernel
theorem dX2_sidesWithOthers_30 : decode cX2_sidesWithOthers 30 = .ok (.iaload, 1) := by decide +kernel
theorem dX2_sidesWithOthers_31 : decode cX2_sidesWithOthers 31 = .ok (.aload_n 1, 1) := by decide +kernel
theorem dX2_sidesWithOthers_32 : decode cX2_sidesWithOthers 32 = .ok (.getfield 86, 3) := by decide +kernel
theorem dX2_sidesWithOthers_35 : decode cX2_sidesWithOthers 35 = .ok (.if_icmp .eq 6, 3) := by decide +kernel
theorem dX2_sidesWithOthers_38 : decode cX2_sidesWithOthers 38 = .ok (.iinc 2 1, 3) := by decide +kernel
theorem dX2_sidesWithOthers_41 : decode cX2_sidesWithOthers 41 = .ok (.iinc 3 1, 3) := by decide +kernel
theorem dX2_sidesWithOthers_44 : decode cX2_sidesWithOthers 44 = .ok (.goto (-40), 3) := by decide +kernel
theorem dX2_sidesWithOthers_47 : decode cX2_sidesWithOthers 47 = .ok (.iload_n 2, 1) := by decide +kernel
theorem dX2_sidesWithOthers_48 : decode cX2_sidesWithOthers 48 = .ok (.ireturn, 1) := by decide +kernel
theorem dX2_kindOf_0 : decode cX2_kindOf 0 = .ok (.aload_n 1, 1) := by decide +kernel
theorem dX2_kindOf_1 : decode cX2_kindOf 1 = .ok (.invokevirtual 92, 3) := by decide +kernel
theorem dX2_kindOf_4 : decode cX2_kindOf 4 = .ok (.ifCond .ne 6, 3) := by decide +kernel
theorem dX2_kindOf_7 : decode cX2_kindOf 7 = .ok (.ldc 32, 2) := by decide +kernel
theorem dX2_kindOf_9 : decode cX2_kindOf 9 = .ok (.ireturn, 1) := by decide +kernel
theorem dX2_kindOf_10 : decode cX2_kindOf 10 = .ok (.aload_n 0, 1) := by decide +kernel
theorem dX2_kindOf_11 : decode cX2_kindOf 11 = .ok (.aload_n 1, 1) := by decide +kernel
theorem dX2_kindOf_12 : decode cX2_kindOf 12 = .ok (.invokevirtual 96, 3) := by decide +kernel
theorem dX2_kindOf_15 : decode cX2_kindOf 15 = .ok (.istore_n 2, 1) := by decide +kernel
theorem dX2_kindOf_16 : decode cX2_kindOf 16 = .ok (.iload_n 2, 1) := by decide +kernel
theorem dX2_kindOf_17 : decode cX2_kindOf 17 = .ok (.ifCond .ne 5, 3) := by decide +kernel
theorem dX2_kindOf_20 : decode cX2_kindOf 20 = .ok (.iconst 1, 1) := by decide +kernel
theorem dX2_kindOf_21 : decode cX2_kindOf 21 = .ok (.ireturn, 1) := by decide +kernel
theorem dX2_kindOf_22 : decode cX2_kindOf 22 = .ok (.iload_n 2, 1) := by decide +kernel
theorem dX2_kindOf_23 : decode cX2_kindOf 23 = .ok (.aload_n 1, 1) := by decide +kernel
theorem dX2_kindOf_24 : decode cX2_kindOf 24 = .ok (.getfield 80, 3) := by decide +kernel
theorem dX2_kindOf_27 : decode cX2_kindOf 27 = .ok (.if_icmp .ne 7, 3) := by decide +kernel
theorem dX2_kindOf_30 : decode cX2_kindOf 30 = .ok (.iconst 2, 1) := by decide +kernel
theorem dX2_kindOf_31 : decode cX2_kindOf 31 = .ok (.goto 4, 3) := by decide +kernel
theorem dX2_kindOf_34 : decode cX2_kindOf 34 = .ok (.iconst 3, 1) := by decide +kernel
theorem dX2_kindOf_35 : decode cX2_kindOf 35 = .ok (.ireturn, 1) := by decide +kernel
theorem dX2_costOfAll_0 : decode cX2_costOfAll 0 = .ok (.iconst 0, 1) := by decide +kernel
theorem dX2_costOfAll_1 : decode cX2_costOfAll 1 = .ok (.istore_n 1, 1) := by decide +kernel
theorem dX2_costOfAll_2 : decode cX2_costOfAll 2 = .ok (.iconst 0, 1) := by decide +kernel
theorem dX2_costOfAll_3 : decode cX2_costOfAll 3 = .ok (.istore_n 2, 1) := by decide +kernel
theorem dX2_costOfAll_4 : decode cX2_costOfAll 4 = .ok (.iload_n 2, 1) := by decide +kernel
theorem dX2_costOfAll_5 : decode cX2_costOfAll 5 = .ok (.sipush 200, 3) := by decide +kernel
theorem dX2_costOfAll_8 : decode cX2_costOfAll 8 = .ok (.if_icmp .ge 43, 3) := by decide +kernel
theorem dX2_costOfAll_11 : decode cX2_costOfAll 11 = .ok (.aload_n 0, 1) := by decide +kernel
theorem dX2_costOfAll_12 : decode cX2_costOfAll 12 = .ok (.getfield 19, 3) := by decide +kernel
theorem dX2_costOfAll_15 : decode cX2_costOfAll 15 = .ok (.iload_n 2, 1) := by decide +kernel
theorem dX2_costOfAll_16 : decode cX2_costOfAll 16 = .ok (.iaload, 1) := by decide +kernel
theorem dX2_costOfAll_17 : decode cX2_costOfAll 17 = .ok (.invokestatic 49, 3) := by decide +kernel
theorem dX2_costOfAll_20 : decode cX2_costOfAll 20 = .ok (.istore_n 3, 1) := by decide +kernel
theorem dX2_costOfAll_21 : decode cX2_costOfAll 21 = .ok (.iconst 0, 1) := by decide +kernel
theorem dX2_costOfAll_22 : decode cX2_costOfAll 22 = .ok (.istore 4, 2) := by decide +kernel
theorem dX2_costOfAll_24 : decode cX2_costOfAll 24 = .ok (.iload 4, 2) := by decide +kernel
theorem dX2_costOfAll_26 : decode cX2_costOfAll 26 = .ok (.iload_n 3, 1) := by decide +kernel
theorem dX2_costOfAll_27 : decode cX2_costOfAll 27 = .ok (.if_icmp .ge 18, 3) := by decide +kernel
theorem dX2_costOfAll_30 : decode cX2_costOfAll 30 = .ok (.iload_n 1, 1) := by decide +kernel
theorem dX2_costOfAll_31 : decode cX2_costOfAll 31 = .ok (.aload_n 0, 1) := by decide +kernel
theorem dX2_costOfAll_32 : decode cX2_costOfAll 32 = .ok (.iload 4, 2) := by decide +kernel
theorem dX2_costOfAll_34 : decode cX2_costOfAll 34 = .ok (.invokevirtual 89, 3) := by decide +kernel
theorem dX2_costOfAll_37 : decode cX2_costOfAll 37 = .ok (.iadd, 1) := by decide +kernel
theorem dX2_costOfAll_38 : decode cX2_costOfAll 38 = .ok (.istore_n 1, 1) := by decide +kernel
theorem dX2_costOfAll_39 : decode cX2_costOfAll 39 = .ok (.iinc 4 1, 3) := by decide +kernel
theorem dX2_costOfAll_42 : decode cX2_costOfAll 42 = .ok (.goto (-18), 3) := by decide +kernel
theorem dX2_costOfAll_45 : decode cX2_costOfAll 45 = .ok (.iinc 2 1, 3) := by decide +kernel
theorem dX2_costOfAll_48 : decode cX2_costOfAll 48 = .ok (.goto (-44), 3) := by decide +kernel
theorem dX2_costOfAll_51 : decode cX2_costOfAll 51 = .ok (.iload_n 1, 1) := by decide +kernel
theorem dX2_costOfAll_52 : decode cX2_costOfAll 52 = .ok (.ireturn, 1) := by decide +kernel
theorem dX2_usedSides_0 : decode cX2_usedSides 0 = .ok (.iconst 0, 1) := by decide +kernel
theorem dX2_usedSides_1 : decode cX2_usedSides 1 = .ok (.istore_n 1, 1) := by decide +kernel
theorem dX2_usedSides_2 : decode cX2_usedSides 2 = .ok (.iconst 0, 1) := by decide +kernel
theorem dX2_usedSides_3 : decode cX2_usedSides 3 = .ok (.istore_n 2, 1) := by decide +kernel
theorem dX2_usedSides_4 : decode cX2_usedSides 4 = .ok (.iload_n 2, 1) := by decide +kernel
theorem dX2_usedSides_5 : decode cX2_usedSides 5 = .ok (.sipush 200, 3) := by decide +kernel
theorem dX2_usedSides_8 : decode cX2_usedSides 8 = .ok (.if_icmp .ge 21, 3) := by decide +kernel
theorem dX2_usedSides_11 : decode cX2_usedSides 11 = .ok (.aload_n 0, 1) := by decide +kernel
theorem dX2_usedSides_12 : decode cX2_usedSides 12 = .ok (.getfield 19, 3) := by decide +kernel
theorem dX2_usedSides_15 : decode cX2_usedSides 15 = .ok (.iload_n 2, 1) := by decide +kernel
theorem dX2_usedSides_16 : decode cX2_usedSides 16 = .ok (.iaload, 1) := by decide +kernel
theorem dX2_usedSides_17 : decode cX2_usedSides 17 = .ok (.ifCond .eq 6, 3) := by decide +kernel
theorem dX2_usedSides_20 : decode cX2_usedSides 20 = .ok (.iinc 1 1, 3) := by decide +kernel
theorem dX2_usedSides_23 : decode cX2_usedSides 23 = .ok (.iinc 2 1, 3) := by decide +kernel
theorem dX2_usedSides_26 : decode cX2_usedSides 26 = .ok (.goto (-22), 3) := by decide +kernel
theorem dX2_usedSides_29 : decode cX2_usedSides 29 = .ok (.iload_n 1, 1) := by decide +kernel
theorem dX2_usedSides_30 : decode cX2_usedSides 30 = .ok (.ireturn, 1) := by decide +kernel
theorem dX2_greatestWidth_0 : decode cX2_greatestWidth 0 = .ok (.iconst 0, 1) := by decide +kernel
theorem dX2_greatestWidth_1 : decode cX2_greatestWidth 1 = .ok (.istore_n 1, 1) := by decide +kernel
theorem dX2_greatestWidth_2 : decode cX2_greatestWidth 2 = .ok (.iconst 0, 1) := by decide +kernel
theorem dX2_greatestWidth_3 : decode cX2_greatestWidth 3 = .ok (.istore_n 2, 1) := by decide +kernel
theorem dX2_greatestWidth_4 : decode cX2_greatestWidth 4 = .ok (.iload_n 2, 1) := by decide +kernel
theorem dX2_greatestWidth_5 : decode cX2_greatestWidth 5 = .ok (.sipush 200, 3) := by decide +kernel
theorem dX2_greatestWidth_8 : decode cX2_greatestWidth 8 = .ok (.if_icmp .ge 23, 3) := by decide +kernel
theorem dX2_greatestWidth_11 : decode cX2_greatestWidth 11 = .ok (.iload_n 1, 1) := by decide +kernel
theorem dX2_greatestWidth_12 : decode cX2_greatestWidth 12 = .ok (.aload_n 0, 1) := by decide +kernel
theorem dX2_greatestWidth_13 : decode cX2_greatestWidth 13 = .ok (.getfield 19, 3) := by decide +kernel
theorem dX2_greatestWidth_16 : decode cX2_greatestWidth 16 = .ok (.iload_n 2, 1) := by decide +kernel
theorem dX2_greatestWidth_17 : decode cX2_greatestWidth 17 = .ok (.iaload, 1) := by decide +kernel
theorem dX2_greatestWidth_18 : decode cX2_greatestWidth 18 = .ok (.invokestatic 49, 3) := by decide +kernel
theorem dX2_greatestWidth_21 : decode cX2_greatestWidth 21 = .ok (.invokestatic 33, 3) := by decide +kernel
theorem dX2_greatestWidth_24 : decode cX2_greatestWidth 24 = .ok (.istore_n 1, 1) := by decide +kernel
theorem dX2_greatestWidth_25 : decode cX2_greatestWidth 25 = .ok (.iinc 2 1, 3) := by decide +kernel
theorem dX2_greatestWidth_28 : decode cX2_greatestWidth 28 = .ok (.goto (-24), 3) := by decide +kernel
theorem dX2_greatestWidth_31 : decode cX2_greatestWidth 31 = .ok (.iload_n 1, 1) := by decide +kernel
theorem dX2_greatestWidth_32 : decode cX2_greatestWidth 32 = .ok (.ireturn, 1) := by decide +kernel
theorem dX2_forks_0 : decode cX2_forks 0 = .ok (.iconst 0, 1) := by decide +kernel
theorem dX2_forks_1 : decode cX2_forks 1 = .ok (.istore_n 1, 1) := by decide +kernel
theorem dX2_forks_2 : decode cX2_forks 2 = .ok (.iconst 0, 1) := by decide +kernel
theorem dX2_forks_3 : decode cX2_forks 3 = .ok (.istore_n 2, 1) := by decide +kernel
theorem dX2_forks_4 : decode cX2_forks 4 = .ok (.iload_n 2, 1) := by decide +kernel
theorem dX2_forks_5 : decode cX2_forks 5 = .ok (.bipush 100, 2) := by decide +kernel
theorem dX2_forks_7 : decode cX2_forks 7 = .ok (.if_icmp .ge 20, 3) := by decide +kernel
theorem dX2_forks_10 : decode cX2_forks 10 = .ok (.aload_n 0, 1) := by decide +kernel
theorem dX2_forks_11 : decode cX2_forks 11 = .ok (.iload_n 2, 1) := by decide +kernel
theorem dX2_forks_12 : decode cX2_forks 12 = .ok (.invokevirtual 100, 3) := by decide +kernel
theorem dX2_forks_15 : decode cX2_forks 15 = .ok (.ifCond .eq 6, 3) := by decide +kernel
theorem dX2_forks_18 : decode cX2_forks 18 = .ok (.iinc 1 1, 3) := by decide +kernel
theorem dX2_forks_21 : decode cX2_forks 21 = .ok (.iinc 2 1, 3) := by decide +kernel
theorem dX2_forks_24 : decode cX2_forks 24 = .ok (.goto (-20), 3) := by decide +kernel
theorem dX2_forks_27 : decode cX2_forks 27 = .ok (.iload_n 1, 1) := by decide +kernel
theorem dX2_forks_28 : decode cX2_forks 28 = .ok (.ireturn, 1) := by decide +kernel
theorem dX2_isFork_0 : decode cX2_isFork 0 = .ok (.iconst 0, 1) := by decide +kernel
theorem dX2_isFork_1 : decode cX2_isFork 1 = .ok (.istore_n 2, 1) := by decide +kernel
theorem dX2_isFork_2 : decode cX2_isFork 2 = .ok (.iload_n 2, 1) := by decide +kernel
theorem dX2_isFork_3 : decode cX2_isFork 3 = .ok (.iconst 4, 1) := by decide +kernel
theorem dX2_isFork_4 : decode cX2_isFork 4 = .ok (.if_icmp .ge 55, 3) := by decide +kernel
theorem dX2_isFork_7 : decode cX2_isFork 7 = .ok (.aload_n 0, 1) := by decide +kernel
theorem dX2_isFork_8 : decode cX2_isFork 8 = .ok (.iload_n 1, 1) := by decide +kernel
theorem dX2_isFork_9 : decode cX2_isFork 9 = .ok (.iload_n 2, 1) := by decide +kernel
theorem dX2_isFork_10 : decode cX2_isFork 10 = .ok (.invokevirtual 46, 3) := by decide +kernel
theorem dX2_isFork_13 : decode cX2_isFork 13 = .ok (.istore_n 3, 1) := by decide +kernel
theorem dX2_isFork_14 : decode cX2_isFork 14 = .ok (.iconst 0, 1) := by decide +kernel
theorem dX2_isFork_15 : decode cX2_isFork 15 = .ok (.istore 4, 2) := by decide +kernel
theorem dX2_isFork_17 : decode cX2_isFork 17 = .ok (.iload 4, 2) := by decide +kernel
theorem dX2_isFork_19 : decode cX2_isFork 19 = .ok (.iconst 4, 1) := by decide +kernel
theorem dX2_isFork_20 : decode cX2_isFork 20 = .ok (.if_icmp .ge 33, 3) := by decide +kernel
theorem dX2_isFork_23 : decode cX2_isFork 23 = .ok (.iload_n 3, 1) := by decide +kernel
theorem dX2_isFork_24 : decode cX2_isFork 24 = .ok (.aload_n 0, 1) := by decide +kernel
theorem dX2_isFork_25 : decode cX2_isFork 25 = .ok (.iload_n 1, 1) := by decide +kernel
theorem dX2_isFork_26 : decode cX2_isFork 26 = .ok (.iload 4, 2) := by decide +kernel
theorem dX2_isFork_28 : decode cX2_isFork 28 = .ok (.invokevirtual 46, 3) := by decide +kernel
theorem dX2_isFork_31 : decode cX2_isFork 31 = .ok (.iand, 1) := by decide +kernel
theorem dX2_isFork_32 : decode cX2_isFork 32 = .ok (.istore 5, 2) := by decide +kernel
theorem dX2_isFork_34 : decode cX2_isFork 34 = .ok (.iload 5, 2) := by decide +kernel
theorem dX2_isFork_36 : decode cX2_isFork 36 = .ok (.ifCond .eq 11, 3) := by decide +kernel
theorem dX2_isFork_39 : decode cX2_isFork 39 = .ok (.iload 5, 2) := by decide +kernel
theorem dX2_isFork_41 : decode cX2_isFork 41 = .ok (.iload_n 3, 1) := by decide +kernel
theorem dX2_isFork_42 : decode cX2_isFork 42 = .ok (.if_icmp .eq 5, 3) := by decide +kernel
theorem dX2_isFork_45 : decode cX2_isFork 45 = .ok (.iconst 1, 1) := by decide +kernel
theorem dX2_isFork_46 : decode cX2_isFork 46 = .ok (.ireturn, 1) := by decide +kernel
theorem dX2_isFork_47 : decode cX2_isFork 47 = .ok (.iinc 4 1, 3) := by decide +kernel
theorem dX2_isFork_50 : decode cX2_isFork 50 = .ok (.goto (-33), 3) := by decide +kernel
theorem dX2_isFork_53 : decode cX2_isFork 53 = .ok (.iinc 2 1, 3) := by decide +kernel
theorem dX2_isFork_56 : decode cX2_isFork 56 = .ok (.goto (-54), 3) := by decide +kernel
theorem dX2_isFork_59 : decode cX2_isFork 59 = .ok (.iconst 0, 1) := by decide +kernel
theorem dX2_isFork_60 : decode cX2_isFork 60 = .ok (.ireturn, 1) := by decide +kernel
theorem dX2_crossings_0 : decode cX2_crossings 0 = .ok (.iconst 0, 1) := by decide +kernel
theorem dX2_crossings_1 : decode cX2_crossings 1 = .ok (.istore_n 1, 1) := by decide +kernel
theorem dX2_crossings_2 : decode cX2_crossings 2 = .ok (.iconst 0, 1) := by decide +kernel
theorem dX2_crossings_3 : decode cX2_crossings 3 = .ok (.istore_n 2, 1) := by decide +kernel
theorem dX2_crossings_4 : decode cX2_crossings 4 = .ok (.iload_n 2, 1) := by decide +kernel
theorem dX2_crossings_5 : decode cX2_crossings 5 = .ok (.bipush 100, 2) := by decide +kernel
theorem dX2_crossings_7 : decode cX2_crossings 7 = .ok (.if_icmp .ge 51, 3) := by decide +kernel
theorem dX2_crossings_10 : decode cX2_crossings 10 = .ok (.aload_n 0, 1) := by decide +kernel
theorem dX2_crossings_11 : decode cX2_crossings 11 = .ok (.iload_n 2, 1) := by decide +kernel
theorem dX2_crossings_12 : decode cX2_crossings 12 = .ok (.iconst 0, 1) := by decide +kernel
theorem dX2_crossings_13 : decode cX2_crossings 13 = .ok (.invokevirtual 46, 3) := by decide +kernel
theorem dX2_crossings_16 : decode cX2_crossings 16 = .ok (.aload_n 0, 1) := by decide +kernel
theorem dX2_crossings_17 : decode cX2_crossings 17 = .ok (.iload_n 2, 1) := by decide +kernel
theorem dX2_crossings_18 : decode cX2_crossings 18 = .ok (.iconst 2, 1) := by decide +kernel
theorem dX2_crossings_19 : decode cX2_crossings 19 = .ok (.invokevirtual 46, 3) := by decide +kernel
theorem dX2_crossings_22 : decode cX2_crossings 22 = .ok (.iand, 1) := by decide +kernel
theorem dX2_crossings_23 : decode cX2_crossings 23 = .ok (.istore_n 3, 1) := by decide +kernel
theorem dX2_crossings_24 : decode cX2_crossings 24 = .ok (.aload_n 0, 1) := by decide +kernel
theorem dX2_crossings_25 : decode cX2_crossings 25 = .ok (.iload_n 2, 1) := by decide +kernel
theorem dX2_crossings_26 : decode cX2_crossings 26 = .ok (.iconst 1, 1) := by decide +kernel
theorem dX2_crossings_27 : decode cX2_crossings 27 = .ok (.invokevirtual 46, 3) := by decide +kernel
theorem dX2_crossings_30 : decode cX2_crossings 30 = .ok (.aload_n 0, 1) := by decide +kernel
theorem dX2_crossings_31 : decode cX2_crossings 31 = .ok (.iload_n 2, 1) := by decide +kernel
theorem dX2_crossings_32 : decode cX2_crossings 32 = .ok (.iconst 3, 1) := by decide +kernel
theorem dX2_crossings_33 : decode cX2_crossings 33 = .ok (.invokevirtual 46, 3) := by decide +kernel
theorem dX2_crossings_36 : decode cX2_crossings 36 = .ok (.iand, 1) := by decide +kernel
theorem dX2_crossings_37 : decode cX2_crossings 37 = .ok (.istore 4, 2) := by decide +kernel
theorem dX2_crossings_39 : decode cX2_crossings 39 = .ok (.iload_n 1, 1) := by decide +kernel
theorem dX2_crossings_40 : decode cX2_crossings 40 = .ok (.iload_n 3, 1) := by decide +kernel
theorem dX2_crossings_41 : decode cX2_crossings 41 = .ok (.invokestatic 49, 3) := by decide +kernel
theorem dX2_crossings_44 : decode cX2_crossings 44 = .ok (.iload 4, 2) := by decide +kernel
theorem dX2_crossings_46 : decode cX2_crossings 46 = .ok (.invokestatic 49, 3) := by decide +kernel
theorem dX2_crossings_49 : decode cX2_crossings 49 = .ok (.imul, 1) := by decide +kernel
theorem dX2_crossings_50 : decode cX2_crossings 50 = .ok (.iadd, 1) := by decide +kernel
theorem dX2_crossings_51 : decode cX2_crossings 51 = .ok (.istore_n 1, 1) := by decide +kernel
theorem dX2_crossings_52 : decode cX2_crossings 52 = .ok (.iinc 2 1, 3) := by decide +kernel
theorem dX2_crossings_55 : decode cX2_crossings 55 = .ok (.goto (-51), 3) := by decide +kernel
theorem dX2_crossings_58 : decode cX2_crossings 58 = .ok (.iload_n 1, 1) := by decide +kernel
theorem dX2_crossings_59 : decode cX2_crossings 59 = .ok (.ireturn, 1) := by decide +kernel
theorem dX2_onward_0 : decode cX2_onward 0 = .ok (.iload_n 2, 1) := by decide +kernel
theorem dX2_onward_1 : decode cX2_onward 1 = .ok (.iconst 1, 1) := by decide +kernel
theorem dX2_onward_2 : decode cX2_onward 2 = .ok (.iadd, 1) := by decide +kernel
theorem dX2_onward_3 : decode cX2_onward 3 = .ok (.iconst 4, 1) := by decide +kernel
theorem dX2_onward_4 : decode cX2_onward 4 = .ok (.irem, 1) := by decide +kernel
theorem dX2_onward_5 : decode cX2_onward 5 = .ok (.istore_n 3, 1) := by decide +kernel
theorem dX2_onward_6 : decode cX2_onward 6 = .ok (.iload_n 2, 1) := by decide +kernel
theorem dX2_onward_7 : decode cX2_onward 7 = .ok (.iconst 3, 1) := by decide +kernel
theorem dX2_onward_8 : decode cX2_onward 8 = .ok (.iadd, 1) := by decide +kernel
theorem dX2_onward_9 : decode cX2_onward 9 = .ok (.iconst 4, 1) := by decide +kernel
theorem dX2_onward_10 : decode cX2_onward 10 = .ok (.irem, 1) := by decide +kernel
theorem dX2_onward_11 : decode cX2_onward 11 = .ok (.istore 4, 2) := by decide +kernel
theorem dX2_onward_13 : decode cX2_onward 13 = .ok (.aload_n 0, 1) := by decide +kernel
theorem dX2_onward_14 : decode cX2_onward 14 = .ok (.iload_n 1, 1) := by decide +kernel
theorem dX2_onward_15 : decode cX2_onward 15 = .ok (.iload_n 2, 1) := by decide +kernel
theorem dX2_onward_16 : decode cX2_onward 16 = .ok (.invokevirtual 46, 3) := by decide +kernel
theorem dX2_onward_19 : decode cX2_onward 19 = .ok (.ifCond .eq 5, 3) := by decide +kernel
theorem dX2_onward_22 : decode cX2_onward 22 = .ok (.iload_n 2, 1) := by decide +kernel
theorem dX2_onward_23 : decode cX2_onward 23 = .ok (.ireturn, 1) := by decide +kernel
theorem dX2_onward_24 : decode cX2_onward 24 = .ok (.aload_n 0, 1) := by decide +kernel
theorem dX2_onward_25 : decode cX2_onward 25 = .ok (.iload_n 1, 1) := by decide +kernel
theorem dX2_onward_26 : decode cX2_onward 26 = .ok (.iload_n 3, 1) := by decide +kernel
theorem dX2_onward_27 : decode cX2_onward 27 = .ok (.invokevirtual 46, 3) := by decide +kernel
theorem dX2_onward_30 : decode cX2_onward 30 = .ok (.ifCond .eq 5, 3) := by decide +kernel
theorem dX2_onward_33 : decode cX2_onward 33 = .ok (.iload_n 3, 1) := by decide +kernel
theorem dX2_onward_34 : decode cX2_onward 34 = .ok (.ireturn, 1) := by decide +kernel
theorem dX2_onward_35 : decode cX2_onward 35 = .ok (.aload_n 0, 1) := by decide +kernel
theorem dX2_onward_36 : decode cX2_onward 36 = .ok (.iload_n 1, 1) := by decide +kernel
theorem dX2_onward_37 : decode cX2_onward 37 = .ok (.iload 4, 2) := by decide +kernel
theorem dX2_onward_39 : decode cX2_onward 39 = .ok (.invokevirtual 46, 3) := by decide +kernel
