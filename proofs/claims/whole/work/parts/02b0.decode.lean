theorem dX5_init_0 : decode cX5_init 0 = .ok (.aload_n 0, 1) := by decide +kernel
theorem dX5_init_1 : decode cX5_init 1 = .ok (.invokespecial 3, 3) := by decide +kernel
theorem dX5_init_4 : decode cX5_init 4 = .ok (.aload_n 0, 1) := by decide +kernel
theorem dX5_init_5 : decode cX5_init 5 = .ok (.bipush 8, 2) := by decide +kernel
theorem dX5_init_7 : decode cX5_init 7 = .ok (.anewarray 9, 3) := by decide +kernel
theorem dX5_init_10 : decode cX5_init 10 = .ok (.putfield 11, 3) := by decide +kernel
theorem dX5_init_13 : decode cX5_init 13 = .ok (.aload_n 0, 1) := by decide +kernel
theorem dX5_init_14 : decode cX5_init 14 = .ok (.bipush 12, 2) := by decide +kernel
theorem dX5_init_16 : decode cX5_init 16 = .ok (.newarray .int, 2) := by decide +kernel
theorem dX5_init_18 : decode cX5_init 18 = .ok (.putfield 15, 3) := by decide +kernel
theorem dX5_init_21 : decode cX5_init 21 = .ok (.aload_n 0, 1) := by decide +kernel
theorem dX5_init_22 : decode cX5_init 22 = .ok (.bipush 12, 2) := by decide +kernel
theorem dX5_init_24 : decode cX5_init 24 = .ok (.anewarray 19, 3) := by decide +kernel
theorem dX5_init_27 : decode cX5_init 27 = .ok (.putfield 21, 3) := by decide +kernel
theorem dX5_init_30 : decode cX5_init 30 = .ok (.aload_n 0, 1) := by decide +kernel
theorem dX5_init_31 : decode cX5_init 31 = .ok (.new 25, 3) := by decide +kernel
theorem dX5_init_34 : decode cX5_init 34 = .ok (.dup, 1) := by decide +kernel
theorem dX5_init_35 : decode cX5_init 35 = .ok (.invokespecial 27, 3) := by decide +kernel
theorem dX5_init_38 : decode cX5_init 38 = .ok (.putfield 28, 3) := by decide +kernel
theorem dX5_init_41 : decode cX5_init 41 = .ok (.aload_n 0, 1) := by decide +kernel
theorem dX5_init_42 : decode cX5_init 42 = .ok (.new 32, 3) := by decide +kernel
theorem dX5_init_45 : decode cX5_init 45 = .ok (.dup, 1) := by decide +kernel
theorem dX5_init_46 : decode cX5_init 46 = .ok (.invokespecial 34, 3) := by decide +kernel
theorem dX5_init_49 : decode cX5_init 49 = .ok (.putfield 35, 3) := by decide +kernel
theorem dX5_init_52 : decode cX5_init 52 = .ok (.aload_n 0, 1) := by decide +kernel
theorem dX5_init_53 : decode cX5_init 53 = .ok (.new 39, 3) := by decide +kernel
theorem dX5_init_56 : decode cX5_init 56 = .ok (.dup, 1) := by decide +kernel
theorem dX5_init_57 : decode cX5_init 57 = .ok (.invokespecial 41, 3) := by decide +kernel
theorem dX5_init_60 : decode cX5_init 60 = .ok (.putfield 42, 3) := by decide +kernel
theorem dX5_init_63 : decode cX5_init 63 = .ok (.aload_n 0, 1) := by decide +kernel
theorem dX5_init_64 : decode cX5_init 64 = .ok (.bipush 16, 2) := by decide +kernel
theorem dX5_init_66 : decode cX5_init 66 = .ok (.newarray .int, 2) := by decide +kernel
theorem dX5_init_68 : decode cX5_init 68 = .ok (.putfield 46, 3) := by decide +kernel
theorem dX5_init_71 : decode cX5_init 71 = .ok (.iconst 0, 1) := by decide +kernel
theorem dX5_init_72 : decode cX5_init 72 = .ok (.istore_n 1, 1) := by decide +kernel
theorem dX5_init_73 : decode cX5_init 73 = .ok (.iload_n 1, 1) := by decide +kernel
theorem dX5_init_74 : decode cX5_init 74 = .ok (.bipush 8, 2) := by decide +kernel
theorem dX5_init_76 : decode cX5_init 76 = .ok (.if_icmp .ge 22, 3) := by decide +kernel
theorem dX5_init_79 : decode cX5_init 79 = .ok (.aload_n 0, 1) := by decide +kernel
theorem dX5_init_80 : decode cX5_init 80 = .ok (.getfield 11, 3) := by decide +kernel
theorem dX5_init_83 : decode cX5_init 83 = .ok (.iload_n 1, 1) := by decide +kernel
theorem dX5_init_84 : decode cX5_init 84 = .ok (.new 9, 3) := by decide +kernel
theorem dX5_init_87 : decode cX5_init 87 = .ok (.dup, 1) := by decide +kernel
theorem dX5_init_88 : decode cX5_init 88 = .ok (.invokespecial 49, 3) := by decide +kernel
theorem dX5_init_91 : decode cX5_init 91 = .ok (.aastore, 1) := by decide +kernel
theorem dX5_init_92 : decode cX5_init 92 = .ok (.iinc 1 1, 3) := by decide +kernel
theorem dX5_init_95 : decode cX5_init 95 = .ok (.goto (-22), 3) := by decide +kernel
theorem dX5_init_98 : decode cX5_init 98 = .ok (.iconst 0, 1) := by decide +kernel
theorem dX5_init_99 : decode cX5_init 99 = .ok (.istore_n 1, 1) := by decide +kernel
theorem dX5_init_100 : decode cX5_init 100 = .ok (.iload_n 1, 1) := by decide +kernel
theorem dX5_init_101 : decode cX5_init 101 = .ok (.bipush 12, 2) := by decide +kernel
theorem dX5_init_103 : decode cX5_init 103 = .ok (.if_icmp .ge 25, 3) := by decide +kernel
theorem dX5_init_106 : decode cX5_init 106 = .ok (.aload_n 0, 1) := by decide +kernel
theorem dX5_init_107 : decode cX5_init 107 = .ok (.getfield 21, 3) := by decide +kernel
theorem dX5_init_110 : decode cX5_init 110 = .ok (.iload_n 1, 1) := by decide +kernel
theorem dX5_init_111 : decode cX5_init 111 = .ok (.new 19, 3) := by decide +kernel
theorem dX5_init_114 : decode cX5_init 114 = .ok (.dup, 1) := by decide +kernel
theorem dX5_init_115 : decode cX5_init 115 = .ok (.iconst 1, 1) := by decide +kernel
theorem dX5_init_116 : decode cX5_init 116 = .ok (.iload_n 1, 1) := by decide +kernel
theorem dX5_init_117 : decode cX5_init 117 = .ok (.ishl, 1) := by decide +kernel
theorem dX5_init_118 : decode cX5_init 118 = .ok (.invokespecial 50, 3) := by decide +kernel
theorem dX5_init_121 : decode cX5_init 121 = .ok (.aastore, 1) := by decide +kernel
theorem dX5_init_122 : decode cX5_init 122 = .ok (.iinc 1 1, 3) := by decide +kernel
theorem dX5_init_125 : decode cX5_init 125 = .ok (.goto (-25), 3) := by decide +kernel
theorem dX5_init_128 : decode cX5_init 128 = .ok (.return_, 1) := by decide +kernel
theorem dX5_sheet_0 : decode cX5_sheet 0 = .ok (.iload_n 1, 1) := by decide +kernel
theorem dX5_sheet_1 : decode cX5_sheet 1 = .ok (.invokestatic 53, 3) := by decide +kernel
theorem dX5_sheet_4 : decode cX5_sheet 4 = .ok (.ifCond .eq 18, 3) := by decide +kernel
theorem dX5_sheet_7 : decode cX5_sheet 7 = .ok (.iload_n 2, 1) := by decide +kernel
theorem dX5_sheet_8 : decode cX5_sheet 8 = .ok (.ifCond .lt 14, 3) := by decide +kernel
theorem dX5_sheet_11 : decode cX5_sheet 11 = .ok (.iload_n 2, 1) := by decide +kernel
theorem dX5_sheet_12 : decode cX5_sheet 12 = .ok (.iconst 3, 1) := by decide +kernel
theorem dX5_sheet_13 : decode cX5_sheet 13 = .ok (.if_icmp .ge 9, 3) := by decide +kernel
theorem dX5_sheet_16 : decode cX5_sheet 16 = .ok (.iload_n 3, 1) := by decide +kernel
theorem dX5_sheet_17 : decode cX5_sheet 17 = .ok (.bipush 60, 2) := by decide +kernel
theorem dX5_sheet_19 : decode cX5_sheet 19 = .ok (.if_icmp .le 6, 3) := by decide +kernel
theorem dX5_sheet_22 : decode cX5_sheet 22 = .ok (.ldc 57, 2) := by decide +kernel
theorem dX5_sheet_24 : decode cX5_sheet 24 = .ok (.ireturn, 1) := by decide +kernel
theorem dX5_sheet_25 : decode cX5_sheet 25 = .ok (.iload_n 3, 1) := by decide +kernel
theorem dX5_sheet_26 : decode cX5_sheet 26 = .ok (.ifCond .ge 9, 3) := by decide +kernel
theorem dX5_sheet_29 : decode cX5_sheet 29 = .ok (.aload_n 0, 1) := by decide +kernel
theorem dX5_sheet_30 : decode cX5_sheet 30 = .ok (.iconst 4, 1) := by decide +kernel
theorem dX5_sheet_31 : decode cX5_sheet 31 = .ok (.invokevirtual 58, 3) := by decide +kernel
theorem dX5_sheet_34 : decode cX5_sheet 34 = .ok (.ireturn, 1) := by decide +kernel
theorem dX5_sheet_35 : decode cX5_sheet 35 = .ok (.aload_n 0, 1) := by decide +kernel
theorem dX5_sheet_36 : decode cX5_sheet 36 = .ok (.getfield 11, 3) := by decide +kernel
theorem dX5_sheet_39 : decode cX5_sheet 39 = .ok (.iload_n 1, 1) := by decide +kernel
theorem dX5_sheet_40 : decode cX5_sheet 40 = .ok (.aaload, 1) := by decide +kernel
theorem dX5_sheet_41 : decode cX5_sheet 41 = .ok (.iload_n 2, 1) := by decide +kernel
theorem dX5_sheet_42 : decode cX5_sheet 42 = .ok (.iload_n 3, 1) := by decide +kernel
theorem dX5_sheet_43 : decode cX5_sheet 43 = .ok (.invokevirtual 62, 3) := by decide +kernel
theorem dX5_sheet_46 : decode cX5_sheet 46 = .ok (.aload_n 0, 1) := by decide +kernel
theorem dX5_sheet_47 : decode cX5_sheet 47 = .ok (.iload_n 3, 1) := by decide +kernel
theorem dX5_sheet_48 : decode cX5_sheet 48 = .ok (.invokevirtual 66, 3) := by decide +kernel
theorem dX5_sheet_51 : decode cX5_sheet 51 = .ok (.ireturn, 1) := by decide +kernel
theorem dX5_set_0 : decode cX5_set 0 = .ok (.iload_n 1, 1) := by decide +kernel
theorem dX5_set_1 : decode cX5_set 1 = .ok (.invokestatic 53, 3) := by decide +kernel
theorem dX5_set_4 : decode cX5_set 4 = .ok (.ifCond .ne 6, 3) := by decide +kernel
theorem dX5_set_7 : decode cX5_set 7 = .ok (.ldc 57, 2) := by decide +kernel
theorem dX5_set_9 : decode cX5_set 9 = .ok (.ireturn, 1) := by decide +kernel
theorem dX5_set_10 : decode cX5_set 10 = .ok (.aload_n 0, 1) := by decide +kernel
theorem dX5_set_11 : decode cX5_set 11 = .ok (.getfield 11, 3) := by decide +kernel
theorem dX5_set_14 : decode cX5_set 14 = .ok (.iload_n 1, 1) := by decide +kernel
theorem dX5_set_15 : decode cX5_set 15 = .ok (.aaload, 1) := by decide +kernel
theorem dX5_set_16 : decode cX5_set 16 = .ok (.astore 4, 2) := by decide +kernel
theorem dX5_set_18 : decode cX5_set 18 = .ok (.aload 4, 2) := by decide +kernel
theorem dX5_set_20 : decode cX5_set 20 = .ok (.invokevirtual 69, 3) := by decide +kernel
theorem dX5_set_23 : decode cX5_set 23 = .ok (.ifCond .eq 9, 3) := by decide +kernel
theorem dX5_set_26 : decode cX5_set 26 = .ok (.aload_n 0, 1) := by decide +kernel
theorem dX5_set_27 : decode cX5_set 27 = .ok (.iconst 1, 1) := by decide +kernel
theorem dX5_set_28 : decode cX5_set 28 = .ok (.invokevirtual 58, 3) := by decide +kernel
theorem dX5_set_31 : decode cX5_set 31 = .ok (.ireturn, 1) := by decide +kernel
theorem dX5_set_32 : decode cX5_set 32 = .ok (.aload 4, 2) := by decide +kernel
theorem dX5_set_34 : decode cX5_set 34 = .ok (.iload_n 2, 1) := by decide +kernel
theorem dX5_set_35 : decode cX5_set 35 = .ok (.iconst 1, 1) := by decide +kernel
theorem dX5_set_36 : decode cX5_set 36 = .ok (.invokevirtual 73, 3) := by decide +kernel
theorem dX5_set_39 : decode cX5_set 39 = .ok (.ifCond .ne 9, 3) := by decide +kernel
theorem dX5_set_42 : decode cX5_set 42 = .ok (.aload_n 0, 1) := by decide +kernel
theorem dX5_set_43 : decode cX5_set 43 = .ok (.iconst 2, 1) := by decide +kernel
theorem dX5_set_44 : decode cX5_set 44 = .ok (.invokevirtual 58, 3) := by decide +kernel
theorem dX5_set_47 : decode cX5_set 47 = .ok (.ireturn, 1) := by decide +kernel
theorem dX5_set_48 : decode cX5_set 48 = .ok (.aload_n 0, 1) := by decide +kernel
theorem dX5_set_49 : decode cX5_set 49 = .ok (.aload 4, 2) := by decide +kernel
theorem dX5_set_51 : decode cX5_set 51 = .ok (.iload_n 2, 1) := by decide +kernel
theorem dX5_set_52 : decode cX5_set 52 = .ok (.iload_n 3, 1) := by decide +kernel
theorem dX5_set_53 : decode cX5_set 53 = .ok (.invokevirtual 77, 3) := by decide +kernel
theorem dX5_set_56 : decode cX5_set 56 = .ok (.invokevirtual 66, 3) := by decide +kernel
theorem dX5_set_59 : decode cX5_set 59 = .ok (.ireturn, 1) := by decide +kernel
theorem dX5_copy_0 : decode cX5_copy 0 = .ok (.iload_n 1, 1) := by decide +kernel
theorem dX5_copy_1 : decode cX5_copy 1 = .ok (.invokestatic 53, 3) := by decide +kernel
theorem dX5_copy_4 : decode cX5_copy 4 = .ok (.ifCond .eq 10, 3) := by decide +kernel
theorem dX5_copy_7 : decode cX5_copy 7 = .ok (.iload_n 3, 1) := by decide +kernel
theorem dX5_copy_8 : decode cX5_copy 8 = .ok (.invokestatic 53, 3) := by decide +kernel
theorem dX5_copy_11 : decode cX5_copy 11 = .ok (.ifCond .ne 6, 3) := by decide +kernel
theorem dX5_copy_14 : decode cX5_copy 14 = .ok (.ldc 57, 2) := by decide +kernel
theorem dX5_copy_16 : decode cX5_copy 16 = .ok (.ireturn, 1) := by decide +kernel
theorem dX5_copy_17 : decode cX5_copy 17 = .ok (.aload_n 0, 1) := by decide +kernel
theorem dX5_copy_18 : decode cX5_copy 18 = .ok (.getfield 11, 3) := by decide +kernel
theorem dX5_copy_21 : decode cX5_copy 21 = .ok (.iload_n 1, 1) := by decide +kernel
theorem dX5_copy_22 : decode cX5_copy 22 = .ok (.aaload, 1) := by decide +kernel
theorem dX5_copy_23 : decode cX5_copy 23 = .ok (.astore 6, 2) := by decide +kernel
theorem dX5_copy_25 : decode cX5_copy 25 = .ok (.aload_n 0, 1) := by decide +kernel
theorem dX5_copy_26 : decode cX5_copy 26 = .ok (.getfield 11, 3) := by decide +kernel
theorem dX5_copy_29 : decode cX5_copy 29 = .ok (.iload_n 3, 1) := by decide +kernel
theorem dX5_copy_30 : decode cX5_copy 30 = .ok (.aaload, 1) := by decide +kernel
theorem dX5_copy_31 : decode cX5_copy 31 = .ok (.astore 7, 2) := by decide +kernel
theorem dX5_copy_33 : decode cX5_copy 33 = .ok (.aload 6, 2) := by decide +kernel
theorem dX5_copy_35 : decode cX5_copy 35 = .ok (.invokevirtual 69, 3) := by decide +kernel
theorem dX5_copy_38 : decode cX5_copy 38 = .ok (.ifCond .ne 11, 3) := by decide +kernel
theorem dX5_copy_41 : decode cX5_copy 41 = .ok (.aload 7, 2) := by decide +kernel
theorem dX5_copy_43 : decode cX5_copy 43 = .ok (.invokevirtual 69, 3) := by decide +kernel
theorem dX5_copy_46 : decode cX5_copy 46 = .ok (.ifCond .eq 9, 3) := by decide +kernel
theorem dX5_copy_49 : decode cX5_copy 49 = .ok (.aload_n 0, 1) := by decide +kernel
theorem dX5_copy_50 : decode cX5_copy 50 = .ok (.iconst 1, 1) := by decide +kernel
theorem dX5_copy_51 : decode cX5_copy 51 = .ok (.invokevirtual 58, 3) := by decide +kernel
theorem dX5_copy_54 : decode cX5_copy 54 = .ok (.ireturn, 1) := by decide +kernel
theorem dX5_copy_55 : decode cX5_copy 55 = .ok (.aload 6, 2) := by decide +kernel
theorem dX5_copy_57 : decode cX5_copy 57 = .ok (.getfield 81, 3) := by decide +kernel
theorem dX5_copy_60 : decode cX5_copy 60 = .ok (.aload 7, 2) := by decide +kernel
theorem dX5_copy_62 : decode cX5_copy 62 = .ok (.getfield 81, 3) := by decide +kernel
theorem dX5_copy_65 : decode cX5_copy 65 = .ok (.if_icmp .eq 9, 3) := by decide +kernel
theorem dX5_copy_68 : decode cX5_copy 68 = .ok (.aload_n 0, 1) := by decide +kernel
theorem dX5_copy_69 : decode cX5_copy 69 = .ok (.iconst 5, 1) := by decide +kernel
theorem dX5_copy_70 : decode cX5_copy 70 = .ok (.invokevirtual 58, 3) := by decide +kernel
theorem dX5_copy_73 : decode cX5_copy 73 = .ok (.ireturn, 1) := by decide +kernel
theorem dX5_copy_74 : decode cX5_copy 74 = .ok (.aload 6, 2) := by decide +kernel
theorem dX5_copy_76 : decode cX5_copy 76 = .ok (.iload_n 2, 1) := by decide +kernel
theorem dX5_copy_77 : decode cX5_copy 77 = .ok (.iload 5, 2) := by decide +kernel
theorem dX5_copy_79 : decode cX5_copy 79 = .ok (.invokevirtual 73, 3) := by decide +kernel
theorem dX5_copy_82 : decode cX5_copy 82 = .ok (.ifCond .eq 15, 3) := by decide +kernel
theorem dX5_copy_85 : decode cX5_copy 85 = .ok (.aload 7, 2) := by decide +kernel
theorem dX5_copy_87 : decode cX5_copy 87 = .ok (.iload 4, 2) := by decide +kernel
theorem dX5_copy_89 : decode cX5_copy 89 = .ok (.iload 5, 2) := by decide +kernel
theorem dX5_copy_91 : decode cX5_copy 91 = .ok (.invokevirtual 73, 3) := by decide +kernel
theorem dX5_copy_94 : decode cX5_copy 94 = .ok (.ifCond .ne 9, 3) := by decide +kernel
theorem dX5_copy_97 : decode cX5_copy 97 = .ok (.aload_n 0, 1) := by decide +kernel
theorem dX5_copy_98 : decode cX5_copy 98 = .ok (.iconst 2, 1) := by decide +kernel
theorem dX5_copy_99 : decode cX5_copy 99 = .ok (.invokevirtual 58, 3) := by decide +kernel
theorem dX5_copy_102 : decode cX5_copy 102 = .ok (.ireturn, 1) := by decide +kernel
theorem dX5_copy_103 : decode cX5_copy 103 = .ok (.aload 6, 2) := by decide +kernel
theorem dX5_copy_105 : decode cX5_copy 105 = .ok (.getfield 85, 3) := by decide +kernel
theorem dX5_copy_108 : decode cX5_copy 108 = .ok (.iload_n 2, 1) := by decide +kernel
theorem dX5_copy_109 : decode cX5_copy 109 = .ok (.aload 7, 2) := by decide +kernel
theorem dX5_copy_111 : decode cX5_copy 111 = .ok (.getfield 85, 3) := by decide +kernel
theorem dX5_copy_114 : decode cX5_copy 114 = .ok (.iload 4, 2) := by decide +kernel
theorem dX5_copy_116 : decode cX5_copy 116 = .ok (.iload 5, 2) := by decide +kernel
theorem dX5_copy_118 : decode cX5_copy 118 = .ok (.invokestatic 88, 3) := by decide +kernel
theorem dX5_copy_121 : decode cX5_copy 121 = .ok (.aload_n 0, 1) := by decide +kernel
theorem dX5_copy_122 : decode cX5_copy 122 = .ok (.iload 5, 2) := by decide +kernel
theorem dX5_copy_124 : decode cX5_copy 124 = .ok (.invokevirtual 66, 3) := by decide +kernel
theorem dX5_copy_127 : decode cX5_copy 127 = .ok (.ireturn, 1) := by decide +kernel
theorem dX5_drop_0 : decode cX5_drop 0 = .ok (.iload_n 1, 1) := by decide +kernel
theorem dX5_drop_1 : decode cX5_drop 1 = .ok (.invokestatic 53, 3) := by decide +kernel
theorem dX5_drop_4 : decode cX5_drop 4 = .ok (.ifCond .ne 6, 3) := by decide +kernel
theorem dX5_drop_7 : decode cX5_drop 7 = .ok (.ldc 57, 2) := by decide +kernel
theorem dX5_drop_9 : decode cX5_drop 9 = .ok (.ireturn, 1) := by decide +kernel
theorem dX5_drop_10 : decode cX5_drop 10 = .ok (.aload_n 0, 1) := by decide +kernel
theorem dX5_drop_11 : decode cX5_drop 11 = .ok (.getfield 11, 3) := by decide +kernel
theorem dX5_drop_14 : decode cX5_drop 14 = .ok (.iload_n 1, 1) := by decide +kernel
theorem dX5_drop_15 : decode cX5_drop 15 = .ok (.aaload, 1) := by decide +kernel
theorem dX5_drop_16 : decode cX5_drop 16 = .ok (.astore_n 2, 1) := by decide +kernel
theorem dX5_drop_17 : decode cX5_drop 17 = .ok (.aload_n 2, 1) := by decide +kernel
theorem dX5_drop_18 : decode cX5_drop 18 = .ok (.invokevirtual 69, 3) := by decide +kernel
theorem dX5_drop_21 : decode cX5_drop 21 = .ok (.ifCond .eq 9, 3) := by decide +kernel
theorem dX5_drop_24 : decode cX5_drop 24 = .ok (.aload_n 0, 1) := by decide +kernel
theorem dX5_drop_25 : decode cX5_drop 25 = .ok (.iconst 1, 1) := by decide +kernel
theorem dX5_drop_26 : decode cX5_drop 26 = .ok (.invokevirtual 58, 3) := by decide +kernel
theorem dX5_drop_29 : decode cX5_drop 29 = .ok (.ireturn, 1) := by decide +kernel
theorem dX5_drop_30 : decode cX5_drop 30 = .ok (.aload_n 2, 1) := by decide +kernel
theorem dX5_drop_31 : decode cX5_drop 31 = .ok (.getfield 94, 3) := by decide +kernel
theorem dX5_drop_34 : decode cX5_drop 34 = .ok (.istore_n 3, 1) := by decide +kernel
theorem dX5_drop_35 : decode cX5_drop 35 = .ok (.aload_n 2, 1) := by decide +kernel
theorem dX5_drop_36 : decode cX5_drop 36 = .ok (.invokevirtual 97, 3) := by decide +kernel
theorem dX5_drop_39 : decode cX5_drop 39 = .ok (.aload_n 0, 1) := by decide +kernel
theorem dX5_drop_40 : decode cX5_drop 40 = .ok (.iload_n 3, 1) := by decide +kernel
theorem dX5_drop_41 : decode cX5_drop 41 = .ok (.invokevirtual 66, 3) := by decide +kernel
theorem dX5_drop_44 : decode cX5_drop 44 = .ok (.ireturn, 1) := by decide +kernel
theorem dX5_point_0 : decode cX5_point 0 = .ok (.iload_n 1, 1) := by decide +kernel
theorem dX5_point_1 : decode cX5_point 1 = .ok (.iload_n 2, 1) := by decide +kernel
theorem dX5_point_2 : decode cX5_point 2 = .ok (.invokestatic 100, 3) := by decide +kernel
theorem dX5_point_5 : decode cX5_point 5 = .ok (.ifCond .ne 6, 3) := by decide +kernel
theorem dX5_point_8 : decode cX5_point 8 = .ok (.ldc 57, 2) := by decide +kernel
theorem dX5_point_10 : decode cX5_point 10 = .ok (.ireturn, 1) := by decide +kernel
theorem dX5_point_11 : decode cX5_point 11 = .ok (.iload_n 1, 1) := by decide +kernel
theorem dX5_point_12 : decode cX5_point 12 = .ok (.iload_n 2, 1) := by decide +kernel
theorem dX5_point_13 : decode cX5_point 13 = .ok (.invokestatic 103, 3) := by decide +kernel
theorem dX5_point_16 : decode cX5_point 16 = .ok (.istore_n 3, 1) := by decide +kernel
theorem dX5_point_17 : decode cX5_point 17 = .ok (.aload_n 0, 1) := by decide +kernel
theorem dX5_point_18 : decode cX5_point 18 = .ok (.getfield 28, 3) := by decide +kernel
theorem dX5_point_21 : decode cX5_point 21 = .ok (.getfield 106, 3) := by decide +kernel
theorem dX5_point_24 : decode cX5_point 24 = .ok (.iload_n 3, 1) := by decide +kernel
theorem dX5_point_25 : decode cX5_point 25 = .ok (.baload, 1) := by decide +kernel
theorem dX5_point_26 : decode cX5_point 26 = .ok (.ifCond .ne 17, 3) := by decide +kernel
theorem dX5_point_29 : decode cX5_point 29 = .ok (.aload_n 0, 1) := by decide +kernel
theorem dX5_point_30 : decode cX5_point 30 = .ok (.getfield 28, 3) := by decide +kernel
theorem dX5_point_33 : decode cX5_point 33 = .ok (.getfield 110, 3) := by decide +kernel
theorem dX5_point_36 : decode cX5_point 36 = .ok (.iload_n 3, 1) := by decide +kernel
theorem dX5_point_37 : decode cX5_point 37 = .ok (.iaload, 1) := by decide +kernel
theorem dX5_point_38 : decode cX5_point 38 = .ok (.ldc 113, 2) := by decide +kernel
theorem dX5_point_40 : decode cX5_point 40 = .ok (.if_icmp .eq 6, 3) := by decide +kernel
theorem dX5_point_43 : decode cX5_point 43 = .ok (.ldc 114, 2) := by decide +kernel
theorem dX5_point_45 : decode cX5_point 45 = .ok (.ireturn, 1) := by decide +kernel
theorem dX5_point_46 : decode cX5_point 46 = .ok (.aload_n 0, 1) := by decide +kernel
theorem dX5_point_47 : decode cX5_point 47 = .ok (.getfield 115, 3) := by decide +kernel
theorem dX5_point_50 : decode cX5_point 50 = .ok (.bipush 12, 2) := by decide +kernel
theorem dX5_point_52 : decode cX5_point 52 = .ok (.if_icmp .lt 6, 3) := by decide +kernel
theorem dX5_point_55 : decode cX5_point 55 = .ok (.ldc 118, 2) := by decide +kernel
theorem dX5_point_57 : decode cX5_point 57 = .ok (.ireturn, 1) := by decide +kernel
theorem dX5_point_58 : decode cX5_point 58 = .ok (.aload_n 0, 1) := by decide +kernel
theorem dX5_point_59 : decode cX5_point 59 = .ok (.getfield 15, 3) := by decide +kernel
theorem dX5_point_62 : decode cX5_point 62 = .ok (.aload_n 0, 1) := by decide +kernel
theorem dX5_point_63 : decode cX5_point 63 = .ok (.getfield 115, 3) := by decide +kernel
theorem dX5_point_66 : decode cX5_point 66 = .ok (.iload_n 3, 1) := by decide +kernel
theorem dX5_point_67 : decode cX5_point 67 = .ok (.iastore, 1) := by decide +kernel
theorem dX5_point_68 : decode cX5_point 68 = .ok (.aload_n 0, 1) := by decide +kernel
theorem dX5_point_69 : decode cX5_point 69 = .ok (.getfield 28, 3) := by decide +kernel
theorem dX5_point_72 : decode cX5_point 72 = .ok (.getfield 110, 3) := by decide +kernel
theorem dX5_point_75 : decode cX5_point 75 = .ok (.iload_n 3, 1) := by decide +kernel
theorem dX5_point_76 : decode cX5_point 76 = .ok (.aload_n 0, 1) := by decide +kernel
theorem dX5_point_77 : decode cX5_point 77 = .ok (.getfield 115, 3) := by decide +kernel
theorem dX5_point_80 : decode cX5_point 80 = .ok (.iastore, 1) := by decide +kernel
theorem dX5_point_81 : decode cX5_point 81 = .ok (.aload_n 0, 1) := by decide +kernel
theorem dX5_point_82 : decode cX5_point 82 = .ok (.dup, 1) := by decide +kernel
theorem dX5_point_83 : decode cX5_point 83 = .ok (.getfield 115, 3) := by decide +kernel
theorem dX5_point_86 : decode cX5_point 86 = .ok (.dup_x1, 1) := by decide +kernel
theorem dX5_point_87 : decode cX5_point 87 = .ok (.iconst 1, 1) := by decide +kernel
theorem dX5_point_88 : decode cX5_point 88 = .ok (.iadd, 1) := by decide +kernel
theorem dX5_point_89 : decode cX5_point 89 = .ok (.putfield 115, 3) := by decide +kernel
theorem dX5_point_92 : decode cX5_point 92 = .ok (.ireturn, 1) := by decide +kernel
theorem dX5_shut_0 : decode cX5_shut 0 = .ok (.iload_n 1, 1) := by decide +kernel
theorem dX5_shut_1 : decode cX5_shut 1 = .ok (.iload_n 2, 1) := by decide +kernel
theorem dX5_shut_2 : decode cX5_shut 2 = .ok (.invokestatic 100, 3) := by decide +kernel
theorem dX5_shut_5 : decode cX5_shut 5 = .ok (.ifCond .ne 6, 3) := by decide +kernel
theorem dX5_shut_8 : decode cX5_shut 8 = .ok (.ldc 57, 2) := by decide +kernel
theorem dX5_shut_10 : decode cX5_shut 10 = .ok (.ireturn, 1) := by decide +kernel
theorem dX5_shut_11 : decode cX5_shut 11 = .ok (.iload_n 1, 1) := by decide +kernel
theorem dX5_shut_12 : decode cX5_shut 12 = .ok (.iload_n 2, 1) := by decide +kernel
theorem dX5_shut_13 : decode cX5_shut 13 = .ok (.invokestatic 103, 3) := by decide +kernel
theorem dX5_shut_16 : decode cX5_shut 16 = .ok (.istore_n 3, 1) := by decide +kernel
theorem dX5_shut_17 : decode cX5_shut 17 = .ok (.aload_n 0, 1) := by decide +kernel
theorem dX5_shut_18 : decode cX5_shut 18 = .ok (.getfield 28, 3) := by decide +kernel
theorem dX5_shut_21 : decode cX5_shut 21 = .ok (.getfield 110, 3) := by decide +kernel
theorem dX5_shut_24 : decode cX5_shut 24 = .ok (.iload_n 3, 1) := by decide +kernel
theorem dX5_shut_25 : decode cX5_shut 25 = .ok (.iaload, 1) := by decide +kernel
theorem dX5_shut_26 : decode cX5_shut 26 = .ok (.ldc 113, 2) := by decide +kernel
theorem dX5_shut_28 : decode cX5_shut 28 = .ok (.if_icmp .ne 14, 3) := by decide +kernel
theorem dX5_shut_31 : decode cX5_shut 31 = .ok (.aload_n 0, 1) := by decide +kernel
theorem dX5_shut_32 : decode cX5_shut 32 = .ok (.getfield 28, 3) := by decide +kernel
theorem dX5_shut_35 : decode cX5_shut 35 = .ok (.iload_n 3, 1) := by decide +kernel
theorem dX5_shut_36 : decode cX5_shut 36 = .ok (.invokevirtual 119, 3) := by decide +kernel
theorem dX5_shut_39 : decode cX5_shut 39 = .ok (.ifCond .eq 6, 3) := by decide +kernel
theorem dX5_shut_42 : decode cX5_shut 42 = .ok (.ldc 114, 2) := by decide +kernel
theorem dX5_shut_44 : decode cX5_shut 44 = .ok (.ireturn, 1) := by decide +kernel
theorem dX5_shut_45 : decode cX5_shut 45 = .ok (.aload_n 0, 1) := by decide +kernel
theorem dX5_shut_46 : decode cX5_shut 46 = .ok (.iload_n 3, 1) := by decide +kernel
theorem dX5_shut_47 : decode cX5_shut 47 = .ok (.iconst 1, 1) := by decide +kernel
theorem dX5_shut_48 : decode cX5_shut 48 = .ok (.invokevirtual 122, 3) := by decide +kernel
theorem dX5_shut_51 : decode cX5_shut 51 = .ok (.ireturn, 1) := by decide +kernel
theorem dX5_open_0 : decode cX5_open 0 = .ok (.iload_n 1, 1) := by decide +kernel
theorem dX5_open_1 : decode cX5_open 1 = .ok (.iload_n 2, 1) := by decide +kernel
theorem dX5_open_2 : decode cX5_open 2 = .ok (.invokestatic 100, 3) := by decide +kernel
theorem dX5_open_5 : decode cX5_open 5 = .ok (.ifCond .eq 16, 3) := by decide +kernel
theorem dX5_open_8 : decode cX5_open 8 = .ok (.aload_n 0, 1) := by decide +kernel
theorem dX5_open_9 : decode cX5_open 9 = .ok (.iload_n 1, 1) := by decide +kernel
theorem dX5_open_10 : decode cX5_open 10 = .ok (.iload_n 2, 1) := by decide +kernel
theorem dX5_open_11 : decode cX5_open 11 = .ok (.invokestatic 103, 3) := by decide +kernel
theorem dX5_open_14 : decode cX5_open 14 = .ok (.iconst 0, 1) := by decide +kernel
theorem dX5_open_15 : decode cX5_open 15 = .ok (.invokevirtual 122, 3) := by decide +kernel
theorem dX5_open_18 : decode cX5_open 18 = .ok (.goto 5, 3) := by decide +kernel
theorem dX5_open_21 : decode cX5_open 21 = .ok (.ldc 57, 2) := by decide +kernel
theorem dX5_open_23 : decode cX5_open 23 = .ok (.ireturn, 1) := by decide +kernel
theorem dX5_line_0 : decode cX5_line 0 = .ok (.aload_n 0, 1) := by decide +kernel
theorem dX5_line_1 : decode cX5_line 1 = .ok (.iload_n 1, 1) := by decide +kernel
theorem dX5_line_2 : decode cX5_line 2 = .ok (.invokevirtual 126, 3) := by decide +kernel
theorem dX5_line_5 : decode cX5_line 5 = .ok (.ifCond .eq 16, 3) := by decide +kernel
theorem dX5_line_8 : decode cX5_line 8 = .ok (.aload_n 0, 1) := by decide +kernel
theorem dX5_line_9 : decode cX5_line 9 = .ok (.iload_n 2, 1) := by decide +kernel
theorem dX5_line_10 : decode cX5_line 10 = .ok (.invokevirtual 126, 3) := by decide +kernel
theorem dX5_line_13 : decode cX5_line 13 = .ok (.ifCond .eq 8, 3) := by decide +kernel
theorem dX5_line_16 : decode cX5_line 16 = .ok (.iload_n 1, 1) := by decide +kernel
theorem dX5_line_17 : decode cX5_line 17 = .ok (.iload_n 2, 1) := by decide +kernel
theorem dX5_line_18 : decode cX5_line 18 = .ok (.if_icmp .ne 6, 3) := by decide +kernel
theorem dX5_line_21 : decode cX5_line 21 = .ok (.ldc 57, 2) := by decide +kernel
theorem dX5_line_23 : decode cX5_line 23 = .ok (.ireturn, 1) := by decide +kernel
theorem dX5_line_24 : decode cX5_line 24 = .ok (.aload_n 0, 1) := by decide +kernel
theorem dX5_line_25 : decode cX5_line 25 = .ok (.getfield 129, 3) := by decide +kernel
theorem dX5_line_28 : decode cX5_line 28 = .ok (.bipush 12, 2) := by decide +kernel
theorem dX5_line_30 : decode cX5_line 30 = .ok (.if_icmp .lt 6, 3) := by decide +kernel
theorem dX5_line_33 : decode cX5_line 33 = .ok (.ldc 118, 2) := by decide +kernel
theorem dX5_line_35 : decode cX5_line 35 = .ok (.ireturn, 1) := by decide +kernel
theorem dX5_line_36 : decode cX5_line 36 = .ok (.aload_n 0, 1) := by decide +kernel
theorem dX5_line_37 : decode cX5_line 37 = .ok (.getfield 21, 3) := by decide +kernel
theorem dX5_line_40 : decode cX5_line 40 = .ok (.aload_n 0, 1) := by decide +kernel
theorem dX5_line_41 : decode cX5_line 41 = .ok (.getfield 129, 3) := by decide +kernel
theorem dX5_line_44 : decode cX5_line 44 = .ok (.aaload, 1) := by decide +kernel
theorem dX5_line_45 : decode cX5_line 45 = .ok (.aload_n 0, 1) := by decide +kernel
theorem dX5_line_46 : decode cX5_line 46 = .ok (.getfield 15, 3) := by decide +kernel
theorem dX5_line_49 : decode cX5_line 49 = .ok (.iload_n 1, 1) := by decide +kernel
theorem dX5_line_50 : decode cX5_line 50 = .ok (.iaload, 1) := by decide +kernel
theorem dX5_line_51 : decode cX5_line 51 = .ok (.aload_n 0, 1) := by decide +kernel
theorem dX5_line_52 : decode cX5_line 52 = .ok (.getfield 15, 3) := by decide +kernel
theorem dX5_line_55 : decode cX5_line 55 = .ok (.iload_n 2, 1) := by decide +kernel
theorem dX5_line_56 : decode cX5_line 56 = .ok (.iaload, 1) := by decide +kernel
theorem dX5_line_57 : decode cX5_line 57 = .ok (.invokevirtual 132, 3) := by decide +kernel
theorem dX5_line_60 : decode cX5_line 60 = .ok (.aload_n 0, 1) := by decide +kernel
theorem dX5_line_61 : decode cX5_line 61 = .ok (.dup, 1) := by decide +kernel
theorem dX5_line_62 : decode cX5_line 62 = .ok (.getfield 129, 3) := by decide +kernel
theorem dX5_line_65 : decode cX5_line 65 = .ok (.dup_x1, 1) := by decide +kernel
theorem dX5_line_66 : decode cX5_line 66 = .ok (.iconst 1, 1) := by decide +kernel
theorem dX5_line_67 : decode cX5_line 67 = .ok (.iadd, 1) := by decide +kernel
theorem dX5_line_68 : decode cX5_line 68 = .ok (.putfield 129, 3) := by decide +kernel
theorem dX5_line_71 : decode cX5_line 71 = .ok (.ireturn, 1) := by decide +kernel
theorem dX5_rule_0 : decode cX5_rule 0 = .ok (.ldc 57, 2) := by decide +kernel
theorem dX5_rule_2 : decode cX5_rule 2 = .ok (.istore_n 3, 1) := by decide +kernel
theorem dX5_rule_3 : decode cX5_rule 3 = .ok (.iload_n 1, 1) := by decide +kernel
theorem dX5_rule_4 : decode cX5_rule 4 = .ok (.ifCond .ne 33, 3) := by decide +kernel
theorem dX5_rule_7 : decode cX5_rule 7 = .ok (.iload_n 2, 1) := by decide +kernel
theorem dX5_rule_8 : decode cX5_rule 8 = .ok (.iconst 1, 1) := by decide +kernel
theorem dX5_rule_9 : decode cX5_rule 9 = .ok (.if_icmp .lt 28, 3) := by decide +kernel
theorem dX5_rule_12 : decode cX5_rule 12 = .ok (.iload_n 2, 1) := by decide +kernel
theorem dX5_rule_13 : decode cX5_rule 13 = .ok (.bipush 100, 2) := by decide +kernel
theorem dX5_rule_15 : decode cX5_rule 15 = .ok (.if_icmp .gt 22, 3) := by decide +kernel
theorem dX5_rule_18 : decode cX5_rule 18 = .ok (.aload_n 0, 1) := by decide +kernel
theorem dX5_rule_19 : decode cX5_rule 19 = .ok (.getfield 28, 3) := by decide +kernel
theorem dX5_rule_22 : decode cX5_rule 22 = .ok (.getfield 135, 3) := by decide +kernel
theorem dX5_rule_25 : decode cX5_rule 25 = .ok (.istore_n 3, 1) := by decide +kernel
theorem dX5_rule_26 : decode cX5_rule 26 = .ok (.aload_n 0, 1) := by decide +kernel
theorem dX5_rule_27 : decode cX5_rule 27 = .ok (.getfield 28, 3) := by decide +kernel
theorem dX5_rule_30 : decode cX5_rule 30 = .ok (.iload_n 2, 1) := by decide +kernel
theorem dX5_rule_31 : decode cX5_rule 31 = .ok (.putfield 135, 3) := by decide +kernel
theorem dX5_rule_34 : decode cX5_rule 34 = .ok (.goto 34, 3) := by decide +kernel
theorem dX5_rule_37 : decode cX5_rule 37 = .ok (.iload_n 1, 1) := by decide +kernel
theorem dX5_rule_38 : decode cX5_rule 38 = .ok (.iconst 1, 1) := by decide +kernel
theorem dX5_rule_39 : decode cX5_rule 39 = .ok (.if_icmp .ne 29, 3) := by decide +kernel
theorem dX5_rule_42 : decode cX5_rule 42 = .ok (.iload_n 2, 1) := by decide +kernel
theorem dX5_rule_43 : decode cX5_rule 43 = .ok (.ifCond .lt 25, 3) := by decide +kernel
theorem dX5_rule_46 : decode cX5_rule 46 = .ok (.iload_n 2, 1) := by decide +kernel
theorem dX5_rule_47 : decode cX5_rule 47 = .ok (.bipush 50, 2) := by decide +kernel
theorem dX5_rule_49 : decode cX5_rule 49 = .ok (.if_icmp .gt 19, 3) := by decide +kernel
theorem dX5_rule_52 : decode cX5_rule 52 = .ok (.aload_n 0, 1) := by decide +kernel
theorem dX5_rule_53 : decode cX5_rule 53 = .ok (.getfield 28, 3) := by decide +kernel
theorem dX5_rule_56 : decode cX5_rule 56 = .ok (.getfield 138, 3) := by decide +kernel
theorem dX5_rule_59 : decode cX5_rule 59 = .ok (.istore_n 3, 1) := by decide +kernel
theorem dX5_rule_60 : decode cX5_rule 60 = .ok (.aload_n 0, 1) := by decide +kernel
theorem dX5_rule_61 : decode cX5_rule 61 = .ok (.getfield 28, 3) := by decide +kernel
theorem dX5_rule_64 : decode cX5_rule 64 = .ok (.iload_n 2, 1) := by decide +kernel
theorem dX5_rule_65 : decode cX5_rule 65 = .ok (.putfield 138, 3) := by decide +kernel
theorem dX5_rule_68 : decode cX5_rule 68 = .ok (.iload_n 3, 1) := by decide +kernel
theorem dX5_rule_69 : decode cX5_rule 69 = .ok (.ireturn, 1) := by decide +kernel
theorem dX5_lead_0 : decode cX5_lead 0 = .ok (.aload_n 0, 1) := by decide +kernel
theorem dX5_lead_1 : decode cX5_lead 1 = .ok (.iload_n 1, 1) := by decide +kernel
theorem dX5_lead_2 : decode cX5_lead 2 = .ok (.invokevirtual 141, 3) := by decide +kernel
theorem dX5_lead_5 : decode cX5_lead 5 = .ok (.ifCond .ne 6, 3) := by decide +kernel
theorem dX5_lead_8 : decode cX5_lead 8 = .ok (.ldc 57, 2) := by decide +kernel
theorem dX5_lead_10 : decode cX5_lead 10 = .ok (.ireturn, 1) := by decide +kernel
theorem dX5_lead_11 : decode cX5_lead 11 = .ok (.aload_n 0, 1) := by decide +kernel
theorem dX5_lead_12 : decode cX5_lead 12 = .ok (.getfield 21, 3) := by decide +kernel
theorem dX5_lead_15 : decode cX5_lead 15 = .ok (.iload_n 1, 1) := by decide +kernel
theorem dX5_lead_16 : decode cX5_lead 16 = .ok (.aaload, 1) := by decide +kernel
theorem dX5_lead_17 : decode cX5_lead 17 = .ok (.astore_n 2, 1) := by decide +kernel
theorem dX5_lead_18 : decode cX5_lead 18 = .ok (.aload_n 0, 1) := by decide +kernel
theorem dX5_lead_19 : decode cX5_lead 19 = .ok (.getfield 35, 3) := by decide +kernel
theorem dX5_lead_22 : decode cX5_lead 22 = .ok (.aload_n 0, 1) := by decide +kernel
theorem dX5_lead_23 : decode cX5_lead 23 = .ok (.getfield 28, 3) := by decide +kernel
theorem dX5_lead_26 : decode cX5_lead 26 = .ok (.aload_n 2, 1) := by decide +kernel
theorem dX5_lead_27 : decode cX5_lead 27 = .ok (.invokevirtual 144, 3) := by decide +kernel
theorem dX5_lead_30 : decode cX5_lead 30 = .ok (.ifCond .ne 14, 3) := by decide +kernel
theorem dX5_lead_33 : decode cX5_lead 33 = .ok (.aload_n 0, 1) := by decide +kernel
theorem dX5_lead_34 : decode cX5_lead 34 = .ok (.getfield 28, 3) := by decide +kernel
theorem dX5_lead_37 : decode cX5_lead 37 = .ok (.aload_n 2, 1) := by decide +kernel
theorem dX5_lead_38 : decode cX5_lead 38 = .ok (.invokevirtual 148, 3) := by decide +kernel
theorem dX5_lead_41 : decode cX5_lead 41 = .ok (.ldc 113, 2) := by decide +kernel
theorem dX5_lead_43 : decode cX5_lead 43 = .ok (.ireturn, 1) := by decide +kernel
theorem dX5_lead_44 : decode cX5_lead 44 = .ok (.aload_n 0, 1) := by decide +kernel
theorem dX5_lead_45 : decode cX5_lead 45 = .ok (.getfield 28, 3) := by decide +kernel
theorem dX5_lead_48 : decode cX5_lead 48 = .ok (.aload_n 2, 1) := by decide +kernel
theorem dX5_lead_49 : decode cX5_lead 49 = .ok (.aload_n 0, 1) := by decide +kernel
theorem dX5_lead_50 : decode cX5_lead 50 = .ok (.getfield 35, 3) := by decide +kernel
theorem dX5_lead_53 : decode cX5_lead 53 = .ok (.getfield 152, 3) := by decide +kernel
theorem dX5_lead_56 : decode cX5_lead 56 = .ok (.iconst 0, 1) := by decide +kernel
theorem dX5_lead_57 : decode cX5_lead 57 = .ok (.aload_n 0, 1) := by decide +kernel
theorem dX5_lead_58 : decode cX5_lead 58 = .ok (.getfield 35, 3) := by decide +kernel
theorem dX5_lead_61 : decode cX5_lead 61 = .ok (.getfield 155, 3) := by decide +kernel
theorem dX5_lead_64 : decode cX5_lead 64 = .ok (.invokevirtual 158, 3) := by decide +kernel
theorem dX5_lead_67 : decode cX5_lead 67 = .ok (.aload_n 0, 1) := by decide +kernel
theorem dX5_lead_68 : decode cX5_lead 68 = .ok (.getfield 35, 3) := by decide +kernel
theorem dX5_lead_71 : decode cX5_lead 71 = .ok (.getfield 162, 3) := by decide +kernel
theorem dX5_lead_74 : decode cX5_lead 74 = .ok (.ireturn, 1) := by decide +kernel
theorem dX5_lay_0 : decode cX5_lay 0 = .ok (.aload_n 0, 1) := by decide +kernel
theorem dX5_lay_1 : decode cX5_lay 1 = .ok (.iload_n 1, 1) := by decide +kernel
theorem dX5_lay_2 : decode cX5_lay 2 = .ok (.invokevirtual 141, 3) := by decide +kernel
theorem dX5_lay_5 : decode cX5_lay 5 = .ok (.ifCond .eq 23, 3) := by decide +kernel
theorem dX5_lay_8 : decode cX5_lay 8 = .ok (.iload_n 2, 1) := by decide +kernel
theorem dX5_lay_9 : decode cX5_lay 9 = .ok (.invokestatic 53, 3) := by decide +kernel
theorem dX5_lay_12 : decode cX5_lay 12 = .ok (.ifCond .eq 16, 3) := by decide +kernel
theorem dX5_lay_15 : decode cX5_lay 15 = .ok (.iload 4, 2) := by decide +kernel
theorem dX5_lay_17 : decode cX5_lay 17 = .ok (.iconst 1, 1) := by decide +kernel
theorem dX5_lay_18 : decode cX5_lay 18 = .ok (.if_icmp .lt 10, 3) := by decide +kernel
theorem dX5_lay_21 : decode cX5_lay 21 = .ok (.iload 4, 2) := by decide +kernel
theorem dX5_lay_23 : decode cX5_lay 23 = .ok (.bipush 40, 2) := by decide +kernel
theorem dX5_lay_25 : decode cX5_lay 25 = .ok (.if_icmp .le 6, 3) := by decide +kernel
theorem dX5_lay_28 : decode cX5_lay 28 = .ok (.ldc 57, 2) := by decide +kernel
theorem dX5_lay_30 : decode cX5_lay 30 = .ok (.ireturn, 1) := by decide +kernel
theorem dX5_lay_31 : decode cX5_lay 31 = .ok (.aload_n 0, 1) := by decide +kernel
theorem dX5_lay_32 : decode cX5_lay 32 = .ok (.getfield 11, 3) := by decide +kernel
theorem dX5_lay_35 : decode cX5_lay 35 = .ok (.iload_n 2, 1) := by decide +kernel
theorem dX5_lay_36 : decode cX5_lay 36 = .ok (.aaload, 1) := by decide +kernel
theorem dX5_lay_37 : decode cX5_lay 37 = .ok (.astore 5, 2) := by decide +kernel
theorem dX5_lay_39 : decode cX5_lay 39 = .ok (.aload 5, 2) := by decide +kernel
theorem dX5_lay_41 : decode cX5_lay 41 = .ok (.invokevirtual 69, 3) := by decide +kernel
theorem dX5_lay_44 : decode cX5_lay 44 = .ok (.ifCond .eq 9, 3) := by decide +kernel
theorem dX5_lay_47 : decode cX5_lay 47 = .ok (.aload_n 0, 1) := by decide +kernel
theorem dX5_lay_48 : decode cX5_lay 48 = .ok (.iconst 1, 1) := by decide +kernel
theorem dX5_lay_49 : decode cX5_lay 49 = .ok (.invokevirtual 58, 3) := by decide +kernel
theorem dX5_lay_52 : decode cX5_lay 52 = .ok (.ireturn, 1) := by decide +kernel
theorem dX5_lay_53 : decode cX5_lay 53 = .ok (.aload 5, 2) := by decide +kernel
theorem dX5_lay_55 : decode cX5_lay 55 = .ok (.iload_n 3, 1) := by decide +kernel
theorem dX5_lay_56 : decode cX5_lay 56 = .ok (.iload 4, 2) := by decide +kernel
theorem dX5_lay_58 : decode cX5_lay 58 = .ok (.invokevirtual 73, 3) := by decide +kernel
theorem dX5_lay_61 : decode cX5_lay 61 = .ok (.ifCond .ne 9, 3) := by decide +kernel
theorem dX5_lay_64 : decode cX5_lay 64 = .ok (.aload_n 0, 1) := by decide +kernel
theorem dX5_lay_65 : decode cX5_lay 65 = .ok (.iconst 2, 1) := by decide +kernel
theorem dX5_lay_66 : decode cX5_lay 66 = .ok (.invokevirtual 58, 3) := by decide +kernel
theorem dX5_lay_69 : decode cX5_lay 69 = .ok (.ireturn, 1) := by decide +kernel
theorem dX5_lay_70 : decode cX5_lay 70 = .ok (.aload_n 0, 1) := by decide +kernel
theorem dX5_lay_71 : decode cX5_lay 71 = .ok (.getfield 28, 3) := by decide +kernel
theorem dX5_lay_74 : decode cX5_lay 74 = .ok (.aload_n 0, 1) := by decide +kernel
theorem dX5_lay_75 : decode cX5_lay 75 = .ok (.getfield 21, 3) := by decide +kernel
theorem dX5_lay_78 : decode cX5_lay 78 = .ok (.iload_n 1, 1) := by decide +kernel
theorem dX5_lay_79 : decode cX5_lay 79 = .ok (.aaload, 1) := by decide +kernel
theorem dX5_lay_80 : decode cX5_lay 80 = .ok (.aload 5, 2) := by decide +kernel
theorem dX5_lay_82 : decode cX5_lay 82 = .ok (.getfield 85, 3) := by decide +kernel
theorem dX5_lay_85 : decode cX5_lay 85 = .ok (.iload_n 3, 1) := by decide +kernel
theorem dX5_lay_86 : decode cX5_lay 86 = .ok (.iload 4, 2) := by decide +kernel
theorem dX5_lay_88 : decode cX5_lay 88 = .ok (.invokevirtual 165, 3) := by decide +kernel
theorem dX5_lay_91 : decode cX5_lay 91 = .ok (.ifCond .ne 6, 3) := by decide +kernel
theorem dX5_lay_94 : decode cX5_lay 94 = .ok (.ldc 57, 2) := by decide +kernel
theorem dX5_lay_96 : decode cX5_lay 96 = .ok (.ireturn, 1) := by decide +kernel
theorem dX5_lay_97 : decode cX5_lay 97 = .ok (.aload_n 0, 1) := by decide +kernel
theorem dX5_lay_98 : decode cX5_lay 98 = .ok (.getfield 28, 3) := by decide +kernel
theorem dX5_lay_101 : decode cX5_lay 101 = .ok (.aload_n 0, 1) := by decide +kernel
theorem dX5_lay_102 : decode cX5_lay 102 = .ok (.getfield 21, 3) := by decide +kernel
theorem dX5_lay_105 : decode cX5_lay 105 = .ok (.iload_n 1, 1) := by decide +kernel
theorem dX5_lay_106 : decode cX5_lay 106 = .ok (.aaload, 1) := by decide +kernel
theorem dX5_lay_107 : decode cX5_lay 107 = .ok (.aload 5, 2) := by decide +kernel
theorem dX5_lay_109 : decode cX5_lay 109 = .ok (.getfield 85, 3) := by decide +kernel
theorem dX5_lay_112 : decode cX5_lay 112 = .ok (.iload_n 3, 1) := by decide +kernel
theorem dX5_lay_113 : decode cX5_lay 113 = .ok (.iload 4, 2) := by decide +kernel
theorem dX5_lay_115 : decode cX5_lay 115 = .ok (.invokevirtual 158, 3) := by decide +kernel
theorem dX5_lay_118 : decode cX5_lay 118 = .ok (.aload_n 0, 1) := by decide +kernel
theorem dX5_lay_119 : decode cX5_lay 119 = .ok (.iconst 1, 1) := by decide +kernel
theorem dX5_lay_120 : decode cX5_lay 120 = .ok (.invokevirtual 66, 3) := by decide +kernel
theorem dX5_lay_123 : decode cX5_lay 123 = .ok (.ireturn, 1) := by decide +kernel
theorem dX5_take_0 : decode cX5_take 0 = .ok (.aload_n 0, 1) := by decide +kernel
theorem dX5_take_1 : decode cX5_take 1 = .ok (.iload_n 1, 1) := by decide +kernel
theorem dX5_take_2 : decode cX5_take 2 = .ok (.invokevirtual 141, 3) := by decide +kernel
theorem dX5_take_5 : decode cX5_take 5 = .ok (.ifCond .ne 6, 3) := by decide +kernel
theorem dX5_take_8 : decode cX5_take 8 = .ok (.ldc 57, 2) := by decide +kernel
theorem dX5_take_10 : decode cX5_take 10 = .ok (.ireturn, 1) := by decide +kernel
theorem dX5_take_11 : decode cX5_take 11 = .ok (.aload_n 0, 1) := by decide +kernel
theorem dX5_take_12 : decode cX5_take 12 = .ok (.getfield 21, 3) := by decide +kernel
theorem dX5_take_15 : decode cX5_take 15 = .ok (.iload_n 1, 1) := by decide +kernel
theorem dX5_take_16 : decode cX5_take 16 = .ok (.aaload, 1) := by decide +kernel
theorem dX5_take_17 : decode cX5_take 17 = .ok (.invokevirtual 169, 3) := by decide +kernel
theorem dX5_take_20 : decode cX5_take 20 = .ok (.ifCond .eq 7, 3) := by decide +kernel
theorem dX5_take_23 : decode cX5_take 23 = .ok (.iconst 1, 1) := by decide +kernel
theorem dX5_take_24 : decode cX5_take 24 = .ok (.goto 4, 3) := by decide +kernel
theorem dX5_take_27 : decode cX5_take 27 = .ok (.iconst 0, 1) := by decide +kernel
theorem dX5_take_28 : decode cX5_take 28 = .ok (.istore_n 2, 1) := by decide +kernel
theorem dX5_take_29 : decode cX5_take 29 = .ok (.aload_n 0, 1) := by decide +kernel
theorem dX5_take_30 : decode cX5_take 30 = .ok (.getfield 28, 3) := by decide +kernel
theorem dX5_take_33 : decode cX5_take 33 = .ok (.aload_n 0, 1) := by decide +kernel
theorem dX5_take_34 : decode cX5_take 34 = .ok (.getfield 21, 3) := by decide +kernel
theorem dX5_take_37 : decode cX5_take 37 = .ok (.iload_n 1, 1) := by decide +kernel
theorem dX5_take_38 : decode cX5_take 38 = .ok (.aaload, 1) := by decide +kernel
theorem dX5_take_39 : decode cX5_take 39 = .ok (.invokevirtual 148, 3) := by decide +kernel
theorem dX5_take_42 : decode cX5_take 42 = .ok (.iload_n 2, 1) := by decide +kernel
theorem dX5_take_43 : decode cX5_take 43 = .ok (.ireturn, 1) := by decide +kernel
theorem dX5_pass_0 : decode cX5_pass 0 = .ok (.aload_n 0, 1) := by decide +kernel
theorem dX5_pass_1 : decode cX5_pass 1 = .ok (.invokevirtual 172, 3) := by decide +kernel
theorem dX5_pass_4 : decode cX5_pass 4 = .ok (.ireturn, 1) := by decide +kernel
theorem dX5_rest_0 : decode cX5_rest 0 = .ok (.iconst 0, 1) := by decide +kernel
theorem dX5_rest_1 : decode cX5_rest 1 = .ok (.istore_n 1, 1) := by decide +kernel
theorem dX5_rest_2 : decode cX5_rest 2 = .ok (.iload_n 1, 1) := by decide +kernel
theorem dX5_rest_3 : decode cX5_rest 3 = .ok (.ldc 176, 2) := by decide +kernel
theorem dX5_rest_5 : decode cX5_rest 5 = .ok (.if_icmp .ge 16, 3) := by decide +kernel
theorem dX5_rest_8 : decode cX5_rest 8 = .ok (.aload_n 0, 1) := by decide +kernel
theorem dX5_rest_9 : decode cX5_rest 9 = .ok (.invokevirtual 172, 3) := by decide +kernel
theorem dX5_rest_12 : decode cX5_rest 12 = .ok (.ifCond .le 9, 3) := by decide +kernel
theorem dX5_rest_15 : decode cX5_rest 15 = .ok (.iinc 1 1, 3) := by decide +kernel
theorem dX5_rest_18 : decode cX5_rest 18 = .ok (.goto (-16), 3) := by decide +kernel
theorem dX5_rest_21 : decode cX5_rest 21 = .ok (.iload_n 1, 1) := by decide +kernel
theorem dX5_rest_22 : decode cX5_rest 22 = .ok (.ireturn, 1) := by decide +kernel
theorem dX5_way_0 : decode cX5_way 0 = .ok (.aload_n 0, 1) := by decide +kernel
theorem dX5_way_1 : decode cX5_way 1 = .ok (.iload_n 1, 1) := by decide +kernel
theorem dX5_way_2 : decode cX5_way 2 = .ok (.invokevirtual 141, 3) := by decide +kernel
theorem dX5_way_5 : decode cX5_way 5 = .ok (.ifCond .eq 8, 3) := by decide +kernel
theorem dX5_way_8 : decode cX5_way 8 = .ok (.iload_n 2, 1) := by decide +kernel
theorem dX5_way_9 : decode cX5_way 9 = .ok (.iconst (-1), 1) := by decide +kernel
theorem dX5_way_10 : decode cX5_way 10 = .ok (.if_icmp .ge 6, 3) := by decide +kernel
theorem dX5_way_13 : decode cX5_way 13 = .ok (.ldc 57, 2) := by decide +kernel
theorem dX5_way_15 : decode cX5_way 15 = .ok (.ireturn, 1) := by decide +kernel
theorem dX5_way_16 : decode cX5_way 16 = .ok (.aload_n 0, 1) := by decide +kernel
theorem dX5_way_17 : decode cX5_way 17 = .ok (.getfield 21, 3) := by decide +kernel
theorem dX5_way_20 : decode cX5_way 20 = .ok (.iload_n 1, 1) := by decide +kernel
theorem dX5_way_21 : decode cX5_way 21 = .ok (.aaload, 1) := by decide +kernel
theorem dX5_way_22 : decode cX5_way 22 = .ok (.astore_n 3, 1) := by decide +kernel
theorem dX5_way_23 : decode cX5_way 23 = .ok (.iload_n 2, 1) := by decide +kernel
theorem dX5_way_24 : decode cX5_way 24 = .ok (.iconst (-1), 1) := by decide +kernel
theorem dX5_way_25 : decode cX5_way 25 = .ok (.if_icmp .ne 8, 3) := by decide +kernel
theorem dX5_way_28 : decode cX5_way 28 = .ok (.aload_n 3, 1) := by decide +kernel
theorem dX5_way_29 : decode cX5_way 29 = .ok (.getfield 177, 3) := by decide +kernel
theorem dX5_way_32 : decode cX5_way 32 = .ok (.ireturn, 1) := by decide +kernel
theorem dX5_way_33 : decode cX5_way 33 = .ok (.iload_n 2, 1) := by decide +kernel
theorem dX5_way_34 : decode cX5_way 34 = .ok (.aload_n 3, 1) := by decide +kernel
theorem dX5_way_35 : decode cX5_way 35 = .ok (.getfield 177, 3) := by decide +kernel
theorem dX5_way_38 : decode cX5_way 38 = .ok (.if_icmp .ge 12, 3) := by decide +kernel
theorem dX5_way_41 : decode cX5_way 41 = .ok (.aload_n 3, 1) := by decide +kernel
theorem dX5_way_42 : decode cX5_way 42 = .ok (.getfield 178, 3) := by decide +kernel
theorem dX5_way_45 : decode cX5_way 45 = .ok (.iload_n 2, 1) := by decide +kernel
theorem dX5_way_46 : decode cX5_way 46 = .ok (.iaload, 1) := by decide +kernel
theorem dX5_way_47 : decode cX5_way 47 = .ok (.goto 5, 3) := by decide +kernel
theorem dX5_way_50 : decode cX5_way 50 = .ok (.ldc 113, 2) := by decide +kernel
theorem dX5_way_52 : decode cX5_way 52 = .ok (.ireturn, 1) := by decide +kernel
theorem dX5_width_0 : decode cX5_width 0 = .ok (.iload_n 1, 1) := by decide +kernel
theorem dX5_width_1 : decode cX5_width 1 = .ok (.iload_n 2, 1) := by decide +kernel
theorem dX5_width_2 : decode cX5_width 2 = .ok (.invokestatic 100, 3) := by decide +kernel
theorem dX5_width_5 : decode cX5_width 5 = .ok (.ifCond .eq 10, 3) := by decide +kernel
theorem dX5_width_8 : decode cX5_width 8 = .ok (.iload_n 3, 1) := by decide +kernel
theorem dX5_width_9 : decode cX5_width 9 = .ok (.invokestatic 179, 3) := by decide +kernel
theorem dX5_width_12 : decode cX5_width 12 = .ok (.ifCond .ne 6, 3) := by decide +kernel
theorem dX5_width_15 : decode cX5_width 15 = .ok (.ldc 57, 2) := by decide +kernel
theorem dX5_width_17 : decode cX5_width 17 = .ok (.ireturn, 1) := by decide +kernel
theorem dX5_width_18 : decode cX5_width 18 = .ok (.aload_n 0, 1) := by decide +kernel
theorem dX5_width_19 : decode cX5_width 19 = .ok (.getfield 28, 3) := by decide +kernel
theorem dX5_width_22 : decode cX5_width 22 = .ok (.iload_n 1, 1) := by decide +kernel
theorem dX5_width_23 : decode cX5_width 23 = .ok (.iload_n 2, 1) := by decide +kernel
theorem dX5_width_24 : decode cX5_width 24 = .ok (.invokestatic 103, 3) := by decide +kernel
theorem dX5_width_27 : decode cX5_width 27 = .ok (.iload_n 3, 1) := by decide +kernel
theorem dX5_width_28 : decode cX5_width 28 = .ok (.invokevirtual 182, 3) := by decide +kernel
theorem dX5_width_31 : decode cX5_width 31 = .ok (.ireturn, 1) := by decide +kernel
theorem dX5_all_0 : decode cX5_all 0 = .ok (.iload_n 1, 1) := by decide +kernel
theorem dX5_all_1 : decode cX5_all 1 = .ok (.tableswitch 84 0 5 #[39, 47, 55, 63, 71, 79], 39) := by decide +kernel
theorem dX5_all_40 : decode cX5_all 40 = .ok (.aload_n 0, 1) := by decide +kernel
theorem dX5_all_41 : decode cX5_all 41 = .ok (.getfield 28, 3) := by decide +kernel
theorem dX5_all_44 : decode cX5_all 44 = .ok (.invokevirtual 185, 3) := by decide +kernel
theorem dX5_all_47 : decode cX5_all 47 = .ok (.ireturn, 1) := by decide +kernel
theorem dX5_all_48 : decode cX5_all 48 = .ok (.aload_n 0, 1) := by decide +kernel
theorem dX5_all_49 : decode cX5_all 49 = .ok (.getfield 28, 3) := by decide +kernel
theorem dX5_all_52 : decode cX5_all 52 = .ok (.invokevirtual 188, 3) := by decide +kernel
theorem dX5_all_55 : decode cX5_all 55 = .ok (.ireturn, 1) := by decide +kernel
theorem dX5_all_56 : decode cX5_all 56 = .ok (.aload_n 0, 1) := by decide +kernel
theorem dX5_all_57 : decode cX5_all 57 = .ok (.getfield 28, 3) := by decide +kernel
theorem dX5_all_60 : decode cX5_all 60 = .ok (.invokevirtual 191, 3) := by decide +kernel
theorem dX5_all_63 : decode cX5_all 63 = .ok (.ireturn, 1) := by decide +kernel
theorem dX5_all_64 : decode cX5_all 64 = .ok (.aload_n 0, 1) := by decide +kernel
theorem dX5_all_65 : decode cX5_all 65 = .ok (.getfield 28, 3) := by decide +kernel
theorem dX5_all_68 : decode cX5_all 68 = .ok (.invokevirtual 194, 3) := by decide +kernel
theorem dX5_all_71 : decode cX5_all 71 = .ok (.ireturn, 1) := by decide +kernel
theorem dX5_all_72 : decode cX5_all 72 = .ok (.aload_n 0, 1) := by decide +kernel
theorem dX5_all_73 : decode cX5_all 73 = .ok (.getfield 28, 3) := by decide +kernel
theorem dX5_all_76 : decode cX5_all 76 = .ok (.invokevirtual 197, 3) := by decide +kernel
theorem dX5_all_79 : decode cX5_all 79 = .ok (.ireturn, 1) := by decide +kernel
theorem dX5_all_80 : decode cX5_all 80 = .ok (.aload_n 0, 1) := by decide +kernel
theorem dX5_all_81 : decode cX5_all 81 = .ok (.invokevirtual 200, 3) := by decide +kernel
theorem dX5_all_84 : decode cX5_all 84 = .ok (.ireturn, 1) := by decide +kernel
theorem dX5_all_85 : decode cX5_all 85 = .ok (.ldc 57, 2) := by decide +kernel
theorem dX5_all_87 : decode cX5_all 87 = .ok (.ireturn, 1) := by decide +kernel
theorem dX5_detour_0 : decode cX5_detour 0 = .ok (.aload_n 0, 1) := by decide +kernel
theorem dX5_detour_1 : decode cX5_detour 1 = .ok (.iload_n 1, 1) := by decide +kernel
theorem dX5_detour_2 : decode cX5_detour 2 = .ok (.invokevirtual 141, 3) := by decide +kernel
theorem dX5_detour_5 : decode cX5_detour 5 = .ok (.ifCond .ne 6, 3) := by decide +kernel
theorem dX5_detour_8 : decode cX5_detour 8 = .ok (.ldc 57, 2) := by decide +kernel
theorem dX5_detour_10 : decode cX5_detour 10 = .ok (.ireturn, 1) := by decide +kernel
theorem dX5_detour_11 : decode cX5_detour 11 = .ok (.aload_n 0, 1) := by decide +kernel
theorem dX5_detour_12 : decode cX5_detour 12 = .ok (.getfield 21, 3) := by decide +kernel
theorem dX5_detour_15 : decode cX5_detour 15 = .ok (.iload_n 1, 1) := by decide +kernel
theorem dX5_detour_16 : decode cX5_detour 16 = .ok (.aaload, 1) := by decide +kernel
theorem dX5_detour_17 : decode cX5_detour 17 = .ok (.invokevirtual 169, 3) := by decide +kernel
theorem dX5_detour_20 : decode cX5_detour 20 = .ok (.ifCond .eq 15, 3) := by decide +kernel
theorem dX5_detour_23 : decode cX5_detour 23 = .ok (.aload_n 0, 1) := by decide +kernel
theorem dX5_detour_24 : decode cX5_detour 24 = .ok (.getfield 21, 3) := by decide +kernel
theorem dX5_detour_27 : decode cX5_detour 27 = .ok (.iload_n 1, 1) := by decide +kernel
theorem dX5_detour_28 : decode cX5_detour 28 = .ok (.aaload, 1) := by decide +kernel
theorem dX5_detour_29 : decode cX5_detour 29 = .ok (.invokevirtual 203, 3) := by decide +kernel
theorem dX5_detour_32 : decode cX5_detour 32 = .ok (.goto 5, 3) := by decide +kernel
theorem dX5_detour_35 : decode cX5_detour 35 = .ok (.ldc 114, 2) := by decide +kernel
theorem dX5_detour_37 : decode cX5_detour 37 = .ok (.ireturn, 1) := by decide +kernel
theorem dX5_shared_0 : decode cX5_shared 0 = .ok (.aload_n 0, 1) := by decide +kernel
theorem dX5_shared_1 : decode cX5_shared 1 = .ok (.iload_n 1, 1) := by decide +kernel
theorem dX5_shared_2 : decode cX5_shared 2 = .ok (.invokevirtual 141, 3) := by decide +kernel
theorem dX5_shared_5 : decode cX5_shared 5 = .ok (.ifCond .eq 11, 3) := by decide +kernel
theorem dX5_shared_8 : decode cX5_shared 8 = .ok (.aload_n 0, 1) := by decide +kernel
theorem dX5_shared_9 : decode cX5_shared 9 = .ok (.iload_n 2, 1) := by decide +kernel
theorem dX5_shared_10 : decode cX5_shared 10 = .ok (.invokevirtual 141, 3) := by decide +kernel
theorem dX5_shared_13 : decode cX5_shared 13 = .ok (.ifCond .ne 6, 3) := by decide +kernel
theorem dX5_shared_16 : decode cX5_shared 16 = .ok (.ldc 57, 2) := by decide +kernel
theorem dX5_shared_18 : decode cX5_shared 18 = .ok (.ireturn, 1) := by decide +kernel
theorem dX5_shared_19 : decode cX5_shared 19 = .ok (.aload_n 0, 1) := by decide +kernel
theorem dX5_shared_20 : decode cX5_shared 20 = .ok (.getfield 28, 3) := by decide +kernel
theorem dX5_shared_23 : decode cX5_shared 23 = .ok (.aload_n 0, 1) := by decide +kernel
theorem dX5_shared_24 : decode cX5_shared 24 = .ok (.getfield 21, 3) := by decide +kernel
theorem dX5_shared_27 : decode cX5_shared 27 = .ok (.iload_n 1, 1) := by decide +kernel
theorem dX5_shared_28 : decode cX5_shared 28 = .ok (.aaload, 1) := by decide +kernel
theorem dX5_shared_29 : decode cX5_shared 29 = .ok (.getfield 206, 3) := by decide +kernel
theorem dX5_shared_32 : decode cX5_shared 32 = .ok (.aload_n 0, 1) := by decide +kernel
theorem dX5_shared_33 : decode cX5_shared 33 = .ok (.getfield 21, 3) := by decide +kernel
theorem dX5_shared_36 : decode cX5_shared 36 = .ok (.iload_n 2, 1) := by decide +kernel
theorem dX5_shared_37 : decode cX5_shared 37 = .ok (.aaload, 1) := by decide +kernel
theorem dX5_shared_38 : decode cX5_shared 38 = .ok (.getfield 206, 3) := by decide +kernel
theorem dX5_shared_41 : decode cX5_shared 41 = .ok (.ior, 1) := by decide +kernel
theorem dX5_shared_42 : decode cX5_shared 42 = .ok (.invokevirtual 209, 3) := by decide +kernel
theorem dX5_shared_45 : decode cX5_shared 45 = .ok (.ireturn, 1) := by decide +kernel
theorem dX5_tint_0 : decode cX5_tint 0 = .ok (.iload_n 1, 1) := by decide +kernel
theorem dX5_tint_1 : decode cX5_tint 1 = .ok (.ldc 113, 2) := by decide +kernel
theorem dX5_tint_3 : decode cX5_tint 3 = .ok (.if_icmp .eq 14, 3) := by decide +kernel
theorem dX5_tint_6 : decode cX5_tint 6 = .ok (.aload_n 0, 1) := by decide +kernel
theorem dX5_tint_7 : decode cX5_tint 7 = .ok (.iload_n 1, 1) := by decide +kernel
theorem dX5_tint_8 : decode cX5_tint 8 = .ok (.invokevirtual 141, 3) := by decide +kernel
theorem dX5_tint_11 : decode cX5_tint 11 = .ok (.ifCond .ne 6, 3) := by decide +kernel
theorem dX5_tint_14 : decode cX5_tint 14 = .ok (.ldc 57, 2) := by decide +kernel
theorem dX5_tint_16 : decode cX5_tint 16 = .ok (.ireturn, 1) := by decide +kernel
theorem dX5_tint_17 : decode cX5_tint 17 = .ok (.aload_n 0, 1) := by decide +kernel
theorem dX5_tint_18 : decode cX5_tint 18 = .ok (.getfield 42, 3) := by decide +kernel
theorem dX5_tint_21 : decode cX5_tint 21 = .ok (.aload_n 0, 1) := by decide +kernel
theorem dX5_tint_22 : decode cX5_tint 22 = .ok (.getfield 28, 3) := by decide +kernel
theorem dX5_tint_25 : decode cX5_tint 25 = .ok (.aload_n 0, 1) := by decide +kernel
theorem dX5_tint_26 : decode cX5_tint 26 = .ok (.invokevirtual 212, 3) := by decide +kernel
theorem dX5_tint_29 : decode cX5_tint 29 = .ok (.invokevirtual 215, 3) := by decide +kernel
theorem dX5_tint_32 : decode cX5_tint 32 = .ok (.iload_n 1, 1) := by decide +kernel
theorem dX5_tint_33 : decode cX5_tint 33 = .ok (.ldc 113, 2) := by decide +kernel
theorem dX5_tint_35 : decode cX5_tint 35 = .ok (.if_icmp .ne 13, 3) := by decide +kernel
theorem dX5_tint_38 : decode cX5_tint 38 = .ok (.aload_n 0, 1) := by decide +kernel
theorem dX5_tint_39 : decode cX5_tint 39 = .ok (.getfield 42, 3) := by decide +kernel
theorem dX5_tint_42 : decode cX5_tint 42 = .ok (.getfield 219, 3) := by decide +kernel
theorem dX5_tint_45 : decode cX5_tint 45 = .ok (.goto 12, 3) := by decide +kernel
theorem dX5_tint_48 : decode cX5_tint 48 = .ok (.aload_n 0, 1) := by decide +kernel
theorem dX5_tint_49 : decode cX5_tint 49 = .ok (.getfield 42, 3) := by decide +kernel
theorem dX5_tint_52 : decode cX5_tint 52 = .ok (.getfield 222, 3) := by decide +kernel
theorem dX5_tint_55 : decode cX5_tint 55 = .ok (.iload_n 1, 1) := by decide +kernel
theorem dX5_tint_56 : decode cX5_tint 56 = .ok (.iaload, 1) := by decide +kernel
theorem dX5_tint_57 : decode cX5_tint 57 = .ok (.ireturn, 1) := by decide +kernel
theorem dX5_reads_0 : decode cX5_reads 0 = .ok (.aload_n 0, 1) := by decide +kernel
theorem dX5_reads_1 : decode cX5_reads 1 = .ok (.iload_n 1, 1) := by decide +kernel
theorem dX5_reads_2 : decode cX5_reads 2 = .ok (.invokevirtual 126, 3) := by decide +kernel
theorem dX5_reads_5 : decode cX5_reads 5 = .ok (.ifCond .eq 10, 3) := by decide +kernel
theorem dX5_reads_8 : decode cX5_reads 8 = .ok (.iload_n 2, 1) := by decide +kernel
theorem dX5_reads_9 : decode cX5_reads 9 = .ok (.invokestatic 179, 3) := by decide +kernel
theorem dX5_reads_12 : decode cX5_reads 12 = .ok (.ifCond .ne 6, 3) := by decide +kernel
theorem dX5_reads_15 : decode cX5_reads 15 = .ok (.ldc 57, 2) := by decide +kernel
theorem dX5_reads_17 : decode cX5_reads 17 = .ok (.ireturn, 1) := by decide +kernel
theorem dX5_reads_18 : decode cX5_reads 18 = .ok (.aload_n 0, 1) := by decide +kernel
theorem dX5_reads_19 : decode cX5_reads 19 = .ok (.getfield 15, 3) := by decide +kernel
theorem dX5_reads_22 : decode cX5_reads 22 = .ok (.iload_n 1, 1) := by decide +kernel
theorem dX5_reads_23 : decode cX5_reads 23 = .ok (.iaload, 1) := by decide +kernel
theorem dX5_reads_24 : decode cX5_reads 24 = .ok (.istore_n 3, 1) := by decide +kernel
theorem dX5_reads_25 : decode cX5_reads 25 = .ok (.aload_n 0, 1) := by decide +kernel
theorem dX5_reads_26 : decode cX5_reads 26 = .ok (.getfield 28, 3) := by decide +kernel
theorem dX5_reads_29 : decode cX5_reads 29 = .ok (.iload_n 3, 1) := by decide +kernel
theorem dX5_reads_30 : decode cX5_reads 30 = .ok (.iload_n 2, 1) := by decide +kernel
theorem dX5_reads_31 : decode cX5_reads 31 = .ok (.invokevirtual 182, 3) := by decide +kernel
theorem dX5_reads_34 : decode cX5_reads 34 = .ok (.ifCond .ne 6, 3) := by decide +kernel
theorem dX5_reads_37 : decode cX5_reads 37 = .ok (.ldc 114, 2) := by decide +kernel
theorem dX5_reads_39 : decode cX5_reads 39 = .ok (.ireturn, 1) := by decide +kernel
theorem dX5_reads_40 : decode cX5_reads 40 = .ok (.iload_n 3, 1) := by decide +kernel
theorem dX5_reads_41 : decode cX5_reads 41 = .ok (.istore 4, 2) := by decide +kernel
theorem dX5_reads_43 : decode cX5_reads 43 = .ok (.iload_n 2, 1) := by decide +kernel
theorem dX5_reads_44 : decode cX5_reads 44 = .ok (.istore 5, 2) := by decide +kernel
theorem dX5_reads_46 : decode cX5_reads 46 = .ok (.iconst 0, 1) := by decide +kernel
theorem dX5_reads_47 : decode cX5_reads 47 = .ok (.istore 6, 2) := by decide +kernel
theorem dX5_reads_49 : decode cX5_reads 49 = .ok (.iload 6, 2) := by decide +kernel
theorem dX5_reads_51 : decode cX5_reads 51 = .ok (.bipush 100, 2) := by decide +kernel
theorem dX5_reads_53 : decode cX5_reads 53 = .ok (.if_icmp .ge 63, 3) := by decide +kernel
theorem dX5_reads_56 : decode cX5_reads 56 = .ok (.iload 5, 2) := by decide +kernel
theorem dX5_reads_58 : decode cX5_reads 58 = .ok (.ifCond .lt 58, 3) := by decide +kernel
theorem dX5_reads_61 : decode cX5_reads 61 = .ok (.iload 4, 2) := by decide +kernel
theorem dX5_reads_63 : decode cX5_reads 63 = .ok (.iload 5, 2) := by decide +kernel
theorem dX5_reads_65 : decode cX5_reads 65 = .ok (.invokestatic 225, 3) := by decide +kernel
theorem dX5_reads_68 : decode cX5_reads 68 = .ok (.istore 4, 2) := by decide +kernel
theorem dX5_reads_70 : decode cX5_reads 70 = .ok (.iload 4, 2) := by decide +kernel
theorem dX5_reads_72 : decode cX5_reads 72 = .ok (.ifCond .ge 6, 3) := by decide +kernel
theorem dX5_reads_75 : decode cX5_reads 75 = .ok (.ldc 113, 2) := by decide +kernel
theorem dX5_reads_77 : decode cX5_reads 77 = .ok (.ireturn, 1) := by decide +kernel
theorem dX5_reads_78 : decode cX5_reads 78 = .ok (.iload 4, 2) := by decide +kernel
theorem dX5_reads_80 : decode cX5_reads 80 = .ok (.iload_n 3, 1) := by decide +kernel
theorem dX5_reads_81 : decode cX5_reads 81 = .ok (.if_icmp .eq 16, 3) := by decide +kernel
theorem dX5_reads_84 : decode cX5_reads 84 = .ok (.aload_n 0, 1) := by decide +kernel
theorem dX5_reads_85 : decode cX5_reads 85 = .ok (.iload 4, 2) := by decide +kernel
theorem dX5_reads_87 : decode cX5_reads 87 = .ok (.invokevirtual 228, 3) := by decide +kernel
theorem dX5_reads_90 : decode cX5_reads 90 = .ok (.ifCond .eq 7, 3) := by decide +kernel
theorem dX5_reads_93 : decode cX5_reads 93 = .ok (.iconst (-1), 1) := by decide +kernel
theorem dX5_reads_94 : decode cX5_reads 94 = .ok (.goto 14, 3) := by decide +kernel
theorem dX5_reads_97 : decode cX5_reads 97 = .ok (.aload_n 0, 1) := by decide +kernel
theorem dX5_reads_98 : decode cX5_reads 98 = .ok (.getfield 28, 3) := by decide +kernel
theorem dX5_reads_101 : decode cX5_reads 101 = .ok (.iload 4, 2) := by decide +kernel
theorem dX5_reads_103 : decode cX5_reads 103 = .ok (.iload 5, 2) := by decide +kernel
theorem dX5_reads_105 : decode cX5_reads 105 = .ok (.invokevirtual 231, 3) := by decide +kernel
theorem dX5_reads_108 : decode cX5_reads 108 = .ok (.istore 5, 2) := by decide +kernel
theorem dX5_reads_110 : decode cX5_reads 110 = .ok (.iinc 6 1, 3) := by decide +kernel
theorem dX5_reads_113 : decode cX5_reads 113 = .ok (.goto (-64), 3) := by decide +kernel
theorem dX5_reads_116 : decode cX5_reads 116 = .ok (.aload_n 0, 1) := by decide +kernel
theorem dX5_reads_117 : decode cX5_reads 117 = .ok (.getfield 28, 3) := by decide +kernel
theorem dX5_reads_120 : decode cX5_reads 120 = .ok (.getfield 110, 3) := by decide +kernel
theorem dX5_reads_123 : decode cX5_reads 123 = .ok (.iload 4, 2) := by decide +kernel
theorem dX5_reads_125 : decode cX5_reads 125 = .ok (.iaload, 1) := by decide +kernel
theorem dX5_reads_126 : decode cX5_reads 126 = .ok (.ireturn, 1) := by decide +kernel
theorem dX5_kind_0 : decode cX5_kind 0 = .ok (.aload_n 0, 1) := by decide +kernel
theorem dX5_kind_1 : decode cX5_kind 1 = .ok (.iload_n 1, 1) := by decide +kernel
theorem dX5_kind_2 : decode cX5_kind 2 = .ok (.invokevirtual 141, 3) := by decide +kernel
theorem dX5_kind_5 : decode cX5_kind 5 = .ok (.ifCond .eq 19, 3) := by decide +kernel
theorem dX5_kind_8 : decode cX5_kind 8 = .ok (.aload_n 0, 1) := by decide +kernel
theorem dX5_kind_9 : decode cX5_kind 9 = .ok (.getfield 28, 3) := by decide +kernel
theorem dX5_kind_12 : decode cX5_kind 12 = .ok (.aload_n 0, 1) := by decide +kernel
theorem dX5_kind_13 : decode cX5_kind 13 = .ok (.getfield 21, 3) := by decide +kernel
theorem dX5_kind_16 : decode cX5_kind 16 = .ok (.iload_n 1, 1) := by decide +kernel
theorem dX5_kind_17 : decode cX5_kind 17 = .ok (.aaload, 1) := by decide +kernel
theorem dX5_kind_18 : decode cX5_kind 18 = .ok (.invokevirtual 234, 3) := by decide +kernel
theorem dX5_kind_21 : decode cX5_kind 21 = .ok (.goto 5, 3) := by decide +kernel
theorem dX5_kind_24 : decode cX5_kind 24 = .ok (.ldc 57, 2) := by decide +kernel
theorem dX5_kind_26 : decode cX5_kind 26 = .ok (.ireturn, 1) := by decide +kernel
theorem dX5_as_0 : decode cX5_as 0 = .ok (.aload_n 0, 1) := by decide +kernel
theorem dX5_as_1 : decode cX5_as 1 = .ok (.iload_n 1, 1) := by decide +kernel
theorem dX5_as_2 : decode cX5_as 2 = .ok (.invokevirtual 141, 3) := by decide +kernel
theorem dX5_as_5 : decode cX5_as 5 = .ok (.ifCond .eq 12, 3) := by decide +kernel
theorem dX5_as_8 : decode cX5_as 8 = .ok (.iload_n 2, 1) := by decide +kernel
theorem dX5_as_9 : decode cX5_as 9 = .ok (.ifCond .lt 8, 3) := by decide +kernel
theorem dX5_as_12 : decode cX5_as 12 = .ok (.iload_n 2, 1) := by decide +kernel
theorem dX5_as_13 : decode cX5_as 13 = .ok (.iconst 3, 1) := by decide +kernel
theorem dX5_as_14 : decode cX5_as 14 = .ok (.if_icmp .le 6, 3) := by decide +kernel
theorem dX5_as_17 : decode cX5_as 17 = .ok (.ldc 57, 2) := by decide +kernel
theorem dX5_as_19 : decode cX5_as 19 = .ok (.ireturn, 1) := by decide +kernel
theorem dX5_as_20 : decode cX5_as 20 = .ok (.aload_n 0, 1) := by decide +kernel
theorem dX5_as_21 : decode cX5_as 21 = .ok (.getfield 21, 3) := by decide +kernel
theorem dX5_as_24 : decode cX5_as 24 = .ok (.iload_n 1, 1) := by decide +kernel
theorem dX5_as_25 : decode cX5_as 25 = .ok (.aaload, 1) := by decide +kernel
theorem dX5_as_26 : decode cX5_as 26 = .ok (.astore_n 3, 1) := by decide +kernel
theorem dX5_as_27 : decode cX5_as 27 = .ok (.aload_n 3, 1) := by decide +kernel
theorem dX5_as_28 : decode cX5_as 28 = .ok (.invokevirtual 169, 3) := by decide +kernel
theorem dX5_as_31 : decode cX5_as 31 = .ok (.ifCond .ne 6, 3) := by decide +kernel
theorem dX5_as_34 : decode cX5_as 34 = .ok (.ldc 114, 2) := by decide +kernel
theorem dX5_as_36 : decode cX5_as 36 = .ok (.ireturn, 1) := by decide +kernel
theorem dX5_as_37 : decode cX5_as 37 = .ok (.iload_n 2, 1) := by decide +kernel
theorem dX5_as_38 : decode cX5_as 38 = .ok (.ifCond .eq 21, 3) := by decide +kernel
theorem dX5_as_41 : decode cX5_as 41 = .ok (.iload_n 2, 1) := by decide +kernel
theorem dX5_as_42 : decode cX5_as 42 = .ok (.aload_n 0, 1) := by decide +kernel
theorem dX5_as_43 : decode cX5_as 43 = .ok (.getfield 28, 3) := by decide +kernel
theorem dX5_as_46 : decode cX5_as 46 = .ok (.aload_n 3, 1) := by decide +kernel
theorem dX5_as_47 : decode cX5_as 47 = .ok (.invokevirtual 234, 3) := by decide +kernel
theorem dX5_as_50 : decode cX5_as 50 = .ok (.if_icmp .eq 9, 3) := by decide +kernel
theorem dX5_as_53 : decode cX5_as 53 = .ok (.aload_n 0, 1) := by decide +kernel
theorem dX5_as_54 : decode cX5_as 54 = .ok (.iconst 3, 1) := by decide +kernel
theorem dX5_as_55 : decode cX5_as 55 = .ok (.invokevirtual 58, 3) := by decide +kernel
theorem dX5_as_58 : decode cX5_as 58 = .ok (.ireturn, 1) := by decide +kernel
theorem dX5_as_59 : decode cX5_as 59 = .ok (.aload_n 0, 1) := by decide +kernel
theorem dX5_as_60 : decode cX5_as 60 = .ok (.aload_n 3, 1) := by decide +kernel
theorem dX5_as_61 : decode cX5_as 61 = .ok (.getfield 177, 3) := by decide +kernel
theorem dX5_as_64 : decode cX5_as 64 = .ok (.invokevirtual 66, 3) := by decide +kernel
theorem dX5_as_67 : decode cX5_as 67 = .ok (.ireturn, 1) := by decide +kernel
theorem dX5_ask_0 : decode cX5_ask 0 = .ok (.aload_n 0, 1) := by decide +kernel
theorem dX5_ask_1 : decode cX5_ask 1 = .ok (.iload_n 1, 1) := by decide +kernel
theorem dX5_ask_2 : decode cX5_ask 2 = .ok (.invokevirtual 141, 3) := by decide +kernel
theorem dX5_ask_5 : decode cX5_ask 5 = .ok (.ifCond .eq 12, 3) := by decide +kernel
theorem dX5_ask_8 : decode cX5_ask 8 = .ok (.iload_n 2, 1) := by decide +kernel
theorem dX5_ask_9 : decode cX5_ask 9 = .ok (.ifCond .lt 8, 3) := by decide +kernel
theorem dX5_ask_12 : decode cX5_ask 12 = .ok (.iload_n 2, 1) := by decide +kernel
theorem dX5_ask_13 : decode cX5_ask 13 = .ok (.iconst 1, 1) := by decide +kernel
theorem dX5_ask_14 : decode cX5_ask 14 = .ok (.if_icmp .le 6, 3) := by decide +kernel
theorem dX5_ask_17 : decode cX5_ask 17 = .ok (.ldc 57, 2) := by decide +kernel
theorem dX5_ask_19 : decode cX5_ask 19 = .ok (.ireturn, 1) := by decide +kernel
theorem dX5_ask_20 : decode cX5_ask 20 = .ok (.aload_n 0, 1) := by decide +kernel
theorem dX5_ask_21 : decode cX5_ask 21 = .ok (.getfield 21, 3) := by decide +kernel
theorem dX5_ask_24 : decode cX5_ask 24 = .ok (.iload_n 1, 1) := by decide +kernel
theorem dX5_ask_25 : decode cX5_ask 25 = .ok (.aaload, 1) := by decide +kernel
theorem dX5_ask_26 : decode cX5_ask 26 = .ok (.astore_n 3, 1) := by decide +kernel
theorem dX5_ask_27 : decode cX5_ask 27 = .ok (.aload_n 3, 1) := by decide +kernel
theorem dX5_ask_28 : decode cX5_ask 28 = .ok (.invokevirtual 169, 3) := by decide +kernel
theorem dX5_ask_31 : decode cX5_ask 31 = .ok (.ifCond .ne 6, 3) := by decide +kernel
theorem dX5_ask_34 : decode cX5_ask 34 = .ok (.ldc 114, 2) := by decide +kernel
theorem dX5_ask_36 : decode cX5_ask 36 = .ok (.ireturn, 1) := by decide +kernel
theorem dX5_ask_37 : decode cX5_ask 37 = .ok (.aload_n 0, 1) := by decide +kernel
theorem dX5_ask_38 : decode cX5_ask 38 = .ok (.iconst 0, 1) := by decide +kernel
theorem dX5_ask_39 : decode cX5_ask 39 = .ok (.putfield 238, 3) := by decide +kernel
theorem dX5_ask_42 : decode cX5_ask 42 = .ok (.iload_n 2, 1) := by decide +kernel
theorem dX5_ask_43 : decode cX5_ask 43 = .ok (.ifCond .ne 11, 3) := by decide +kernel
theorem dX5_ask_46 : decode cX5_ask 46 = .ok (.aload_n 0, 1) := by decide +kernel
theorem dX5_ask_47 : decode cX5_ask 47 = .ok (.aload_n 3, 1) := by decide +kernel
theorem dX5_ask_48 : decode cX5_ask 48 = .ok (.invokevirtual 241, 3) := by decide +kernel
theorem dX5_ask_51 : decode cX5_ask 51 = .ok (.goto 8, 3) := by decide +kernel
theorem dX5_ask_54 : decode cX5_ask 54 = .ok (.aload_n 0, 1) := by decide +kernel
theorem dX5_ask_55 : decode cX5_ask 55 = .ok (.aload_n 3, 1) := by decide +kernel
theorem dX5_ask_56 : decode cX5_ask 56 = .ok (.invokevirtual 244, 3) := by decide +kernel
theorem dX5_ask_59 : decode cX5_ask 59 = .ok (.ireturn, 1) := by decide +kernel
theorem dX5_trace_0 : decode cX5_trace 0 = .ok (.iload_n 1, 1) := by decide +kernel
theorem dX5_trace_1 : decode cX5_trace 1 = .ok (.ifCond .lt 20, 3) := by decide +kernel
theorem dX5_trace_4 : decode cX5_trace 4 = .ok (.iload_n 1, 1) := by decide +kernel
theorem dX5_trace_5 : decode cX5_trace 5 = .ok (.aload_n 0, 1) := by decide +kernel
theorem dX5_trace_6 : decode cX5_trace 6 = .ok (.getfield 238, 3) := by decide +kernel
theorem dX5_trace_9 : decode cX5_trace 9 = .ok (.if_icmp .ge 12, 3) := by decide +kernel
theorem dX5_trace_12 : decode cX5_trace 12 = .ok (.aload_n 0, 1) := by decide +kernel
theorem dX5_trace_13 : decode cX5_trace 13 = .ok (.getfield 46, 3) := by decide +kernel
theorem dX5_trace_16 : decode cX5_trace 16 = .ok (.iload_n 1, 1) := by decide +kernel
theorem dX5_trace_17 : decode cX5_trace 17 = .ok (.iaload, 1) := by decide +kernel
theorem dX5_trace_18 : decode cX5_trace 18 = .ok (.goto 5, 3) := by decide +kernel
theorem dX5_trace_21 : decode cX5_trace 21 = .ok (.ldc 113, 2) := by decide +kernel
theorem dX5_trace_23 : decode cX5_trace 23 = .ok (.ireturn, 1) := by decide +kernel
theorem dX5_count_0 : decode cX5_count 0 = .ok (.iload_n 1, 1) := by decide +kernel
theorem dX5_count_1 : decode cX5_count 1 = .ok (.tableswitch 96 0 7 #[47, 52, 57, 62, 70, 76, 82, 88], 47) := by decide +kernel
theorem dX5_count_48 : decode cX5_count 48 = .ok (.aload_n 0, 1) := by decide +kernel
theorem dX5_count_49 : decode cX5_count 49 = .ok (.invokevirtual 247, 3) := by decide +kernel
theorem dX5_count_52 : decode cX5_count 52 = .ok (.ireturn, 1) := by decide +kernel
theorem dX5_count_53 : decode cX5_count 53 = .ok (.aload_n 0, 1) := by decide +kernel
theorem dX5_count_54 : decode cX5_count 54 = .ok (.getfield 115, 3) := by decide +kernel
theorem dX5_count_57 : decode cX5_count 57 = .ok (.ireturn, 1) := by decide +kernel
theorem dX5_count_58 : decode cX5_count 58 = .ok (.aload_n 0, 1) := by decide +kernel
theorem dX5_count_59 : decode cX5_count 59 = .ok (.getfield 129, 3) := by decide +kernel
theorem dX5_count_62 : decode cX5_count 62 = .ok (.ireturn, 1) := by decide +kernel
theorem dX5_count_63 : decode cX5_count 63 = .ok (.aload_n 0, 1) := by decide +kernel
theorem dX5_count_64 : decode cX5_count 64 = .ok (.invokevirtual 212, 3) := by decide +kernel
theorem dX5_count_67 : decode cX5_count 67 = .ok (.invokestatic 250, 3) := by decide +kernel
theorem dX5_count_70 : decode cX5_count 70 = .ok (.ireturn, 1) := by decide +kernel
theorem dX5_count_71 : decode cX5_count 71 = .ok (.aload_n 0, 1) := by decide +kernel
theorem dX5_count_72 : decode cX5_count 72 = .ok (.iconst 1, 1) := by decide +kernel
theorem dX5_count_73 : decode cX5_count 73 = .ok (.invokevirtual 255, 3) := by decide +kernel
theorem dX5_count_76 : decode cX5_count 76 = .ok (.ireturn, 1) := by decide +kernel
theorem dX5_count_77 : decode cX5_count 77 = .ok (.aload_n 0, 1) := by decide +kernel
theorem dX5_count_78 : decode cX5_count 78 = .ok (.iconst 2, 1) := by decide +kernel
theorem dX5_count_79 : decode cX5_count 79 = .ok (.invokevirtual 255, 3) := by decide +kernel
theorem dX5_count_82 : decode cX5_count 82 = .ok (.ireturn, 1) := by decide +kernel
theorem dX5_count_83 : decode cX5_count 83 = .ok (.aload_n 0, 1) := by decide +kernel
theorem dX5_count_84 : decode cX5_count 84 = .ok (.iconst 3, 1) := by decide +kernel
theorem dX5_count_85 : decode cX5_count 85 = .ok (.invokevirtual 255, 3) := by decide +kernel
theorem dX5_count_88 : decode cX5_count 88 = .ok (.ireturn, 1) := by decide +kernel
theorem dX5_count_89 : decode cX5_count 89 = .ok (.aload_n 0, 1) := by decide +kernel
theorem dX5_count_90 : decode cX5_count 90 = .ok (.getfield 28, 3) := by decide +kernel
theorem dX5_count_93 : decode cX5_count 93 = .ok (.invokevirtual 258, 3) := by decide +kernel
theorem dX5_count_96 : decode cX5_count 96 = .ok (.ireturn, 1) := by decide +kernel
theorem dX5_count_97 : decode cX5_count 97 = .ok (.ldc 57, 2) := by decide +kernel
theorem dX5_count_99 : decode cX5_count 99 = .ok (.ireturn, 1) := by decide +kernel
theorem dX5_status_0 : decode cX5_status 0 = .ok (.aload_n 0, 1) := by decide +kernel
theorem dX5_status_1 : decode cX5_status 1 = .ok (.getfield 261, 3) := by decide +kernel
theorem dX5_status_4 : decode cX5_status 4 = .ok (.ireturn, 1) := by decide +kernel
theorem dX5_found_0 : decode cX5_found 0 = .ok (.aload_n 0, 1) := by decide +kernel
theorem dX5_found_1 : decode cX5_found 1 = .ok (.iload_n 1, 1) := by decide +kernel
theorem dX5_found_2 : decode cX5_found 2 = .ok (.putfield 261, 3) := by decide +kernel
theorem dX5_found_5 : decode cX5_found 5 = .ok (.ldc_w 264, 3) := by decide +kernel
theorem dX5_found_8 : decode cX5_found 8 = .ok (.iload_n 1, 1) := by decide +kernel
theorem dX5_found_9 : decode cX5_found 9 = .ok (.isub, 1) := by decide +kernel
theorem dX5_found_10 : decode cX5_found 10 = .ok (.ireturn, 1) := by decide +kernel
theorem dX5_unfound_0 : decode cX5_unfound 0 = .ok (.aload_n 0, 1) := by decide +kernel
theorem dX5_unfound_1 : decode cX5_unfound 1 = .ok (.iconst 0, 1) := by decide +kernel
theorem dX5_unfound_2 : decode cX5_unfound 2 = .ok (.putfield 261, 3) := by decide +kernel
theorem dX5_unfound_5 : decode cX5_unfound 5 = .ok (.iload_n 1, 1) := by decide +kernel
theorem dX5_unfound_6 : decode cX5_unfound 6 = .ok (.ireturn, 1) := by decide +kernel
theorem dX5_isSheet_0 : decode cX5_isSheet 0 = .ok (.iload_n 0, 1) := by decide +kernel
theorem dX5_isSheet_1 : decode cX5_isSheet 1 = .ok (.ifCond .lt 13, 3) := by decide +kernel
theorem dX5_isSheet_4 : decode cX5_isSheet 4 = .ok (.iload_n 0, 1) := by decide +kernel
theorem dX5_isSheet_5 : decode cX5_isSheet 5 = .ok (.bipush 8, 2) := by decide +kernel
theorem dX5_isSheet_7 : decode cX5_isSheet 7 = .ok (.if_icmp .ge 7, 3) := by decide +kernel
theorem dX5_isSheet_10 : decode cX5_isSheet 10 = .ok (.iconst 1, 1) := by decide +kernel
theorem dX5_isSheet_11 : decode cX5_isSheet 11 = .ok (.goto 4, 3) := by decide +kernel
theorem dX5_isSheet_14 : decode cX5_isSheet 14 = .ok (.iconst 0, 1) := by decide +kernel
theorem dX5_isSheet_15 : decode cX5_isSheet 15 = .ok (.ireturn, 1) := by decide +kernel
theorem dX5_isPlace_0 : decode cX5_isPlace 0 = .ok (.iload_n 0, 1) := by decide +kernel
theorem dX5_isPlace_1 : decode cX5_isPlace 1 = .ok (.ifCond .lt 23, 3) := by decide +kernel
theorem dX5_isPlace_4 : decode cX5_isPlace 4 = .ok (.iload_n 0, 1) := by decide +kernel
theorem dX5_isPlace_5 : decode cX5_isPlace 5 = .ok (.bipush 10, 2) := by decide +kernel
theorem dX5_isPlace_7 : decode cX5_isPlace 7 = .ok (.if_icmp .ge 17, 3) := by decide +kernel
theorem dX5_isPlace_10 : decode cX5_isPlace 10 = .ok (.iload_n 1, 1) := by decide +kernel
theorem dX5_isPlace_11 : decode cX5_isPlace 11 = .ok (.ifCond .lt 13, 3) := by decide +kernel
theorem dX5_isPlace_14 : decode cX5_isPlace 14 = .ok (.iload_n 1, 1) := by decide +kernel
theorem dX5_isPlace_15 : decode cX5_isPlace 15 = .ok (.bipush 10, 2) := by decide +kernel
theorem dX5_isPlace_17 : decode cX5_isPlace 17 = .ok (.if_icmp .ge 7, 3) := by decide +kernel
theorem dX5_isPlace_20 : decode cX5_isPlace 20 = .ok (.iconst 1, 1) := by decide +kernel
theorem dX5_isPlace_21 : decode cX5_isPlace 21 = .ok (.goto 4, 3) := by decide +kernel
theorem dX5_isPlace_24 : decode cX5_isPlace 24 = .ok (.iconst 0, 1) := by decide +kernel
theorem dX5_isPlace_25 : decode cX5_isPlace 25 = .ok (.ireturn, 1) := by decide +kernel
theorem dX5_isDirection_0 : decode cX5_isDirection 0 = .ok (.iload_n 0, 1) := by decide +kernel
theorem dX5_isDirection_1 : decode cX5_isDirection 1 = .ok (.ifCond .lt 12, 3) := by decide +kernel
theorem dX5_isDirection_4 : decode cX5_isDirection 4 = .ok (.iload_n 0, 1) := by decide +kernel
theorem dX5_isDirection_5 : decode cX5_isDirection 5 = .ok (.iconst 4, 1) := by decide +kernel
theorem dX5_isDirection_6 : decode cX5_isDirection 6 = .ok (.if_icmp .ge 7, 3) := by decide +kernel
theorem dX5_isDirection_9 : decode cX5_isDirection 9 = .ok (.iconst 1, 1) := by decide +kernel
theorem dX5_isDirection_10 : decode cX5_isDirection 10 = .ok (.goto 4, 3) := by decide +kernel
theorem dX5_isDirection_13 : decode cX5_isDirection 13 = .ok (.iconst 0, 1) := by decide +kernel
theorem dX5_isDirection_14 : decode cX5_isDirection 14 = .ok (.ireturn, 1) := by decide +kernel
theorem dX5_isPoint_0 : decode cX5_isPoint 0 = .ok (.iload_n 1, 1) := by decide +kernel
theorem dX5_isPoint_1 : decode cX5_isPoint 1 = .ok (.ifCond .lt 15, 3) := by decide +kernel
theorem dX5_isPoint_4 : decode cX5_isPoint 4 = .ok (.iload_n 1, 1) := by decide +kernel
theorem dX5_isPoint_5 : decode cX5_isPoint 5 = .ok (.aload_n 0, 1) := by decide +kernel
theorem dX5_isPoint_6 : decode cX5_isPoint 6 = .ok (.getfield 115, 3) := by decide +kernel
theorem dX5_isPoint_9 : decode cX5_isPoint 9 = .ok (.if_icmp .ge 7, 3) := by decide +kernel
theorem dX5_isPoint_12 : decode cX5_isPoint 12 = .ok (.iconst 1, 1) := by decide +kernel
theorem dX5_isPoint_13 : decode cX5_isPoint 13 = .ok (.goto 4, 3) := by decide +kernel
theorem dX5_isPoint_16 : decode cX5_isPoint 16 = .ok (.iconst 0, 1) := by decide +kernel
theorem dX5_isPoint_17 : decode cX5_isPoint 17 = .ok (.ireturn, 1) := by decide +kernel
theorem dX5_isLine_0 : decode cX5_isLine 0 = .ok (.iload_n 1, 1) := by decide +kernel
theorem dX5_isLine_1 : decode cX5_isLine 1 = .ok (.ifCond .lt 15, 3) := by decide +kernel
theorem dX5_isLine_4 : decode cX5_isLine 4 = .ok (.iload_n 1, 1) := by decide +kernel
theorem dX5_isLine_5 : decode cX5_isLine 5 = .ok (.aload_n 0, 1) := by decide +kernel
theorem dX5_isLine_6 : decode cX5_isLine 6 = .ok (.getfield 129, 3) := by decide +kernel
theorem dX5_isLine_9 : decode cX5_isLine 9 = .ok (.if_icmp .ge 7, 3) := by decide +kernel
theorem dX5_isLine_12 : decode cX5_isLine 12 = .ok (.iconst 1, 1) := by decide +kernel
theorem dX5_isLine_13 : decode cX5_isLine 13 = .ok (.goto 4, 3) := by decide +kernel
theorem dX5_isLine_16 : decode cX5_isLine 16 = .ok (.iconst 0, 1) := by decide +kernel
theorem dX5_isLine_17 : decode cX5_isLine 17 = .ok (.ireturn, 1) := by decide +kernel
theorem dX5_placeAt_0 : decode cX5_placeAt 0 = .ok (.iload_n 1, 1) := by decide +kernel
theorem dX5_placeAt_1 : decode cX5_placeAt 1 = .ok (.bipush 10, 2) := by decide +kernel
theorem dX5_placeAt_3 : decode cX5_placeAt 3 = .ok (.imul, 1) := by decide +kernel
theorem dX5_placeAt_4 : decode cX5_placeAt 4 = .ok (.iload_n 0, 1) := by decide +kernel
theorem dX5_placeAt_5 : decode cX5_placeAt 5 = .ok (.iadd, 1) := by decide +kernel
