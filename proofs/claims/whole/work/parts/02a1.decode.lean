theorem dX2_onward_42 : decode cX2_onward 42 = .ok (.ifCond .eq 8, 3) := by decide +kernel
theorem dX2_onward_45 : decode cX2_onward 45 = .ok (.iload 4, 2) := by decide +kernel
theorem dX2_onward_47 : decode cX2_onward 47 = .ok (.goto 4, 3) := by decide +kernel
theorem dX2_onward_50 : decode cX2_onward 50 = .ok (.iconst (-1), 1) := by decide +kernel
theorem dX2_onward_51 : decode cX2_onward 51 = .ok (.ireturn, 1) := by decide +kernel
theorem dX3_init_0 : decode cX3_init 0 = .ok (.aload_n 0, 1) := by decide +kernel
theorem dX3_init_1 : decode cX3_init 1 = .ok (.invokespecial 3, 3) := by decide +kernel
theorem dX3_init_4 : decode cX3_init 4 = .ok (.aload_n 0, 1) := by decide +kernel
theorem dX3_init_5 : decode cX3_init 5 = .ok (.bipush 60, 2) := by decide +kernel
theorem dX3_init_7 : decode cX3_init 7 = .ok (.newarray .int, 2) := by decide +kernel
theorem dX3_init_9 : decode cX3_init 9 = .ok (.putfield 9, 3) := by decide +kernel
theorem dX3_init_12 : decode cX3_init 12 = .ok (.aload_n 0, 1) := by decide +kernel
theorem dX3_init_13 : decode cX3_init 13 = .ok (.iconst (-1), 1) := by decide +kernel
theorem dX3_init_14 : decode cX3_init 14 = .ok (.putfield 15, 3) := by decide +kernel
theorem dX3_init_17 : decode cX3_init 17 = .ok (.return_, 1) := by decide +kernel
theorem dX3_isMissing_0 : decode cX3_isMissing 0 = .ok (.aload_n 0, 1) := by decide +kernel
theorem dX3_isMissing_1 : decode cX3_isMissing 1 = .ok (.getfield 15, 3) := by decide +kernel
theorem dX3_isMissing_4 : decode cX3_isMissing 4 = .ok (.iconst (-1), 1) := by decide +kernel
theorem dX3_isMissing_5 : decode cX3_isMissing 5 = .ok (.if_icmp .ne 7, 3) := by decide +kernel
theorem dX3_isMissing_8 : decode cX3_isMissing 8 = .ok (.iconst 1, 1) := by decide +kernel
theorem dX3_isMissing_9 : decode cX3_isMissing 9 = .ok (.goto 4, 3) := by decide +kernel
theorem dX3_isMissing_12 : decode cX3_isMissing 12 = .ok (.iconst 0, 1) := by decide +kernel
theorem dX3_isMissing_13 : decode cX3_isMissing 13 = .ok (.ireturn, 1) := by decide +kernel
theorem dX3_begin_0 : decode cX3_begin 0 = .ok (.aload_n 0, 1) := by decide +kernel
theorem dX3_begin_1 : decode cX3_begin 1 = .ok (.iload_n 1, 1) := by decide +kernel
theorem dX3_begin_2 : decode cX3_begin 2 = .ok (.putfield 19, 3) := by decide +kernel
theorem dX3_begin_5 : decode cX3_begin 5 = .ok (.aload_n 0, 1) := by decide +kernel
theorem dX3_begin_6 : decode cX3_begin 6 = .ok (.iload_n 2, 1) := by decide +kernel
theorem dX3_begin_7 : decode cX3_begin 7 = .ok (.putfield 15, 3) := by decide +kernel
theorem dX3_begin_10 : decode cX3_begin 10 = .ok (.iconst 0, 1) := by decide +kernel
theorem dX3_begin_11 : decode cX3_begin 11 = .ok (.istore_n 3, 1) := by decide +kernel
theorem dX3_begin_12 : decode cX3_begin 12 = .ok (.iload_n 3, 1) := by decide +kernel
theorem dX3_begin_13 : decode cX3_begin 13 = .ok (.iload_n 2, 1) := by decide +kernel
theorem dX3_begin_14 : decode cX3_begin 14 = .ok (.if_icmp .ge 16, 3) := by decide +kernel
theorem dX3_begin_17 : decode cX3_begin 17 = .ok (.aload_n 0, 1) := by decide +kernel
theorem dX3_begin_18 : decode cX3_begin 18 = .ok (.getfield 9, 3) := by decide +kernel
theorem dX3_begin_21 : decode cX3_begin 21 = .ok (.iload_n 3, 1) := by decide +kernel
theorem dX3_begin_22 : decode cX3_begin 22 = .ok (.iconst 0, 1) := by decide +kernel
theorem dX3_begin_23 : decode cX3_begin 23 = .ok (.iastore, 1) := by decide +kernel
theorem dX3_begin_24 : decode cX3_begin 24 = .ok (.iinc 3 1, 3) := by decide +kernel
theorem dX3_begin_27 : decode cX3_begin 27 = .ok (.goto (-15), 3) := by decide +kernel
theorem dX3_begin_30 : decode cX3_begin 30 = .ok (.return_, 1) := by decide +kernel
theorem dX3_end_0 : decode cX3_end 0 = .ok (.aload_n 0, 1) := by decide +kernel
theorem dX3_end_1 : decode cX3_end 1 = .ok (.iconst (-1), 1) := by decide +kernel
theorem dX3_end_2 : decode cX3_end 2 = .ok (.putfield 15, 3) := by decide +kernel
theorem dX3_end_5 : decode cX3_end 5 = .ok (.return_, 1) := by decide +kernel
theorem dX3_holds_0 : decode cX3_holds 0 = .ok (.iload_n 1, 1) := by decide +kernel
theorem dX3_holds_1 : decode cX3_holds 1 = .ok (.ifCond .lt 21, 3) := by decide +kernel
theorem dX3_holds_4 : decode cX3_holds 4 = .ok (.iload_n 2, 1) := by decide +kernel
theorem dX3_holds_5 : decode cX3_holds 5 = .ok (.ifCond .lt 17, 3) := by decide +kernel
theorem dX3_holds_8 : decode cX3_holds 8 = .ok (.iload_n 1, 1) := by decide +kernel
theorem dX3_holds_9 : decode cX3_holds 9 = .ok (.aload_n 0, 1) := by decide +kernel
theorem dX3_holds_10 : decode cX3_holds 10 = .ok (.getfield 15, 3) := by decide +kernel
theorem dX3_holds_13 : decode cX3_holds 13 = .ok (.iload_n 2, 1) := by decide +kernel
theorem dX3_holds_14 : decode cX3_holds 14 = .ok (.isub, 1) := by decide +kernel
theorem dX3_holds_15 : decode cX3_holds 15 = .ok (.if_icmp .gt 7, 3) := by decide +kernel
theorem dX3_holds_18 : decode cX3_holds 18 = .ok (.iconst 1, 1) := by decide +kernel
theorem dX3_holds_19 : decode cX3_holds 19 = .ok (.goto 4, 3) := by decide +kernel
theorem dX3_holds_22 : decode cX3_holds 22 = .ok (.iconst 0, 1) := by decide +kernel
theorem dX3_holds_23 : decode cX3_holds 23 = .ok (.ireturn, 1) := by decide +kernel
theorem dX3_put_0 : decode cX3_put 0 = .ok (.aload_n 0, 1) := by decide +kernel
theorem dX3_put_1 : decode cX3_put 1 = .ok (.getfield 9, 3) := by decide +kernel
theorem dX3_put_4 : decode cX3_put 4 = .ok (.iload_n 1, 1) := by decide +kernel
theorem dX3_put_5 : decode cX3_put 5 = .ok (.aload_n 0, 1) := by decide +kernel
theorem dX3_put_6 : decode cX3_put 6 = .ok (.getfield 19, 3) := by decide +kernel
theorem dX3_put_9 : decode cX3_put 9 = .ok (.ifCond .ne 8, 3) := by decide +kernel
theorem dX3_put_12 : decode cX3_put 12 = .ok (.iload_n 2, 1) := by decide +kernel
theorem dX3_put_13 : decode cX3_put 13 = .ok (.i2b, 1) := by decide +kernel
theorem dX3_put_14 : decode cX3_put 14 = .ok (.goto 17, 3) := by decide +kernel
theorem dX3_put_17 : decode cX3_put 17 = .ok (.aload_n 0, 1) := by decide +kernel
theorem dX3_put_18 : decode cX3_put 18 = .ok (.getfield 19, 3) := by decide +kernel
theorem dX3_put_21 : decode cX3_put 21 = .ok (.iconst 1, 1) := by decide +kernel
theorem dX3_put_22 : decode cX3_put 22 = .ok (.if_icmp .ne 8, 3) := by decide +kernel
theorem dX3_put_25 : decode cX3_put 25 = .ok (.iload_n 2, 1) := by decide +kernel
theorem dX3_put_26 : decode cX3_put 26 = .ok (.i2s, 1) := by decide +kernel
theorem dX3_put_27 : decode cX3_put 27 = .ok (.goto 4, 3) := by decide +kernel
theorem dX3_put_30 : decode cX3_put 30 = .ok (.iload_n 2, 1) := by decide +kernel
theorem dX3_put_31 : decode cX3_put 31 = .ok (.iastore, 1) := by decide +kernel
theorem dX3_put_32 : decode cX3_put 32 = .ok (.aload_n 0, 1) := by decide +kernel
theorem dX3_put_33 : decode cX3_put 33 = .ok (.getfield 9, 3) := by decide +kernel
theorem dX3_put_36 : decode cX3_put 36 = .ok (.iload_n 1, 1) := by decide +kernel
theorem dX3_put_37 : decode cX3_put 37 = .ok (.iaload, 1) := by decide +kernel
theorem dX3_put_38 : decode cX3_put 38 = .ok (.ireturn, 1) := by decide +kernel
theorem dX4_init_0 : decode cX4_init 0 = .ok (.aload_n 0, 1) := by decide +kernel
theorem dX4_init_1 : decode cX4_init 1 = .ok (.invokespecial 3, 3) := by decide +kernel
theorem dX4_init_4 : decode cX4_init 4 = .ok (.aload_n 0, 1) := by decide +kernel
theorem dX4_init_5 : decode cX4_init 5 = .ok (.bipush 12, 2) := by decide +kernel
theorem dX4_init_7 : decode cX4_init 7 = .ok (.newarray .int, 2) := by decide +kernel
theorem dX4_init_9 : decode cX4_init 9 = .ok (.putfield 9, 3) := by decide +kernel
theorem dX4_init_12 : decode cX4_init 12 = .ok (.aload_n 0, 1) := by decide +kernel
theorem dX4_init_13 : decode cX4_init 13 = .ok (.bipush 12, 2) := by decide +kernel
theorem dX4_init_15 : decode cX4_init 15 = .ok (.newarray .int, 2) := by decide +kernel
theorem dX4_init_17 : decode cX4_init 17 = .ok (.putfield 15, 3) := by decide +kernel
theorem dX4_init_20 : decode cX4_init 20 = .ok (.aload_n 0, 1) := by decide +kernel
theorem dX4_init_21 : decode cX4_init 21 = .ok (.bipush 12, 2) := by decide +kernel
theorem dX4_init_23 : decode cX4_init 23 = .ok (.newarray .int, 2) := by decide +kernel
theorem dX4_init_25 : decode cX4_init 25 = .ok (.putfield 18, 3) := by decide +kernel
theorem dX4_init_28 : decode cX4_init 28 = .ok (.return_, 1) := by decide +kernel
theorem dX4_tintAll_0 : decode cX4_tintAll 0 = .ok (.aload_n 0, 1) := by decide +kernel
theorem dX4_tintAll_1 : decode cX4_tintAll 1 = .ok (.aload_n 1, 1) := by decide +kernel
theorem dX4_tintAll_2 : decode cX4_tintAll 2 = .ok (.invokevirtual 21, 3) := by decide +kernel
theorem dX4_tintAll_5 : decode cX4_tintAll 5 = .ok (.iconst 0, 1) := by decide +kernel
theorem dX4_tintAll_6 : decode cX4_tintAll 6 = .ok (.istore_n 3, 1) := by decide +kernel
theorem dX4_tintAll_7 : decode cX4_tintAll 7 = .ok (.iload_n 3, 1) := by decide +kernel
theorem dX4_tintAll_8 : decode cX4_tintAll 8 = .ok (.bipush 12, 2) := by decide +kernel
theorem dX4_tintAll_10 : decode cX4_tintAll 10 = .ok (.if_icmp .ge 24, 3) := by decide +kernel
theorem dX4_tintAll_13 : decode cX4_tintAll 13 = .ok (.aload_n 0, 1) := by decide +kernel
theorem dX4_tintAll_14 : decode cX4_tintAll 14 = .ok (.getfield 15, 3) := by decide +kernel
theorem dX4_tintAll_17 : decode cX4_tintAll 17 = .ok (.iload_n 3, 1) := by decide +kernel
theorem dX4_tintAll_18 : decode cX4_tintAll 18 = .ok (.ldc 25, 2) := by decide +kernel
theorem dX4_tintAll_20 : decode cX4_tintAll 20 = .ok (.iastore, 1) := by decide +kernel
theorem dX4_tintAll_21 : decode cX4_tintAll 21 = .ok (.aload_n 0, 1) := by decide +kernel
theorem dX4_tintAll_22 : decode cX4_tintAll 22 = .ok (.getfield 18, 3) := by decide +kernel
theorem dX4_tintAll_25 : decode cX4_tintAll 25 = .ok (.iload_n 3, 1) := by decide +kernel
theorem dX4_tintAll_26 : decode cX4_tintAll 26 = .ok (.iconst 0, 1) := by decide +kernel
theorem dX4_tintAll_27 : decode cX4_tintAll 27 = .ok (.iastore, 1) := by decide +kernel
theorem dX4_tintAll_28 : decode cX4_tintAll 28 = .ok (.iinc 3 1, 3) := by decide +kernel
theorem dX4_tintAll_31 : decode cX4_tintAll 31 = .ok (.goto (-24), 3) := by decide +kernel
theorem dX4_tintAll_34 : decode cX4_tintAll 34 = .ok (.aload_n 0, 1) := by decide +kernel
theorem dX4_tintAll_35 : decode cX4_tintAll 35 = .ok (.aload_n 1, 1) := by decide +kernel
theorem dX4_tintAll_36 : decode cX4_tintAll 36 = .ok (.invokevirtual 26, 3) := by decide +kernel
theorem dX4_tintAll_39 : decode cX4_tintAll 39 = .ok (.putfield 32, 3) := by decide +kernel
theorem dX4_tintAll_42 : decode cX4_tintAll 42 = .ok (.aload_n 0, 1) := by decide +kernel
theorem dX4_tintAll_43 : decode cX4_tintAll 43 = .ok (.iload_n 2, 1) := by decide +kernel
theorem dX4_tintAll_44 : decode cX4_tintAll 44 = .ok (.iconst 0, 1) := by decide +kernel
theorem dX4_tintAll_45 : decode cX4_tintAll 45 = .ok (.iconst 0, 1) := by decide +kernel
theorem dX4_tintAll_46 : decode cX4_tintAll 46 = .ok (.invokestatic 36, 3) := by decide +kernel
theorem dX4_tintAll_49 : decode cX4_tintAll 49 = .ok (.ifCond .ne 25, 3) := by decide +kernel
theorem dX4_tintAll_52 : decode cX4_tintAll 52 = .ok (.aload_n 0, 1) := by decide +kernel
theorem dX4_tintAll_53 : decode cX4_tintAll 53 = .ok (.getfield 32, 3) := by decide +kernel
theorem dX4_tintAll_56 : decode cX4_tintAll 56 = .ok (.bipush 12, 2) := by decide +kernel
theorem dX4_tintAll_58 : decode cX4_tintAll 58 = .ok (.if_icmp .ge 16, 3) := by decide +kernel
theorem dX4_tintAll_61 : decode cX4_tintAll 61 = .ok (.aload_n 0, 1) := by decide +kernel
theorem dX4_tintAll_62 : decode cX4_tintAll 62 = .ok (.dup, 1) := by decide +kernel
theorem dX4_tintAll_63 : decode cX4_tintAll 63 = .ok (.getfield 32, 3) := by decide +kernel
theorem dX4_tintAll_66 : decode cX4_tintAll 66 = .ok (.iconst 1, 1) := by decide +kernel
theorem dX4_tintAll_67 : decode cX4_tintAll 67 = .ok (.iadd, 1) := by decide +kernel
theorem dX4_tintAll_68 : decode cX4_tintAll 68 = .ok (.putfield 32, 3) := by decide +kernel
theorem dX4_tintAll_71 : decode cX4_tintAll 71 = .ok (.goto (-29), 3) := by decide +kernel
theorem dX4_tintAll_74 : decode cX4_tintAll 74 = .ok (.return_, 1) := by decide +kernel
theorem dX4_gatherClashes_0 : decode cX4_gatherClashes 0 = .ok (.iconst 0, 1) := by decide +kernel
theorem dX4_gatherClashes_1 : decode cX4_gatherClashes 1 = .ok (.istore_n 2, 1) := by decide +kernel
theorem dX4_gatherClashes_2 : decode cX4_gatherClashes 2 = .ok (.iload_n 2, 1) := by decide +kernel
theorem dX4_gatherClashes_3 : decode cX4_gatherClashes 3 = .ok (.bipush 12, 2) := by decide +kernel
theorem dX4_gatherClashes_5 : decode cX4_gatherClashes 5 = .ok (.if_icmp .ge 59, 3) := by decide +kernel
theorem dX4_gatherClashes_8 : decode cX4_gatherClashes 8 = .ok (.aload_n 0, 1) := by decide +kernel
theorem dX4_gatherClashes_9 : decode cX4_gatherClashes 9 = .ok (.getfield 9, 3) := by decide +kernel
theorem dX4_gatherClashes_12 : decode cX4_gatherClashes 12 = .ok (.iload_n 2, 1) := by decide +kernel
theorem dX4_gatherClashes_13 : decode cX4_gatherClashes 13 = .ok (.iconst 0, 1) := by decide +kernel
theorem dX4_gatherClashes_14 : decode cX4_gatherClashes 14 = .ok (.iastore, 1) := by decide +kernel
theorem dX4_gatherClashes_15 : decode cX4_gatherClashes 15 = .ok (.iconst 0, 1) := by decide +kernel
theorem dX4_gatherClashes_16 : decode cX4_gatherClashes 16 = .ok (.istore_n 3, 1) := by decide +kernel
theorem dX4_gatherClashes_17 : decode cX4_gatherClashes 17 = .ok (.iload_n 3, 1) := by decide +kernel
theorem dX4_gatherClashes_18 : decode cX4_gatherClashes 18 = .ok (.sipush 200, 3) := by decide +kernel
theorem dX4_gatherClashes_21 : decode cX4_gatherClashes 21 = .ok (.if_icmp .ge 37, 3) := by decide +kernel
theorem dX4_gatherClashes_24 : decode cX4_gatherClashes 24 = .ok (.aload_n 1, 1) := by decide +kernel
theorem dX4_gatherClashes_25 : decode cX4_gatherClashes 25 = .ok (.getfield 40, 3) := by decide +kernel
theorem dX4_gatherClashes_28 : decode cX4_gatherClashes 28 = .ok (.iload_n 3, 1) := by decide +kernel
theorem dX4_gatherClashes_29 : decode cX4_gatherClashes 29 = .ok (.iaload, 1) := by decide +kernel
theorem dX4_gatherClashes_30 : decode cX4_gatherClashes 30 = .ok (.iload_n 2, 1) := by decide +kernel
theorem dX4_gatherClashes_31 : decode cX4_gatherClashes 31 = .ok (.ishr, 1) := by decide +kernel
theorem dX4_gatherClashes_32 : decode cX4_gatherClashes 32 = .ok (.iconst 1, 1) := by decide +kernel
theorem dX4_gatherClashes_33 : decode cX4_gatherClashes 33 = .ok (.iand, 1) := by decide +kernel
theorem dX4_gatherClashes_34 : decode cX4_gatherClashes 34 = .ok (.ifCond .eq 18, 3) := by decide +kernel
theorem dX4_gatherClashes_37 : decode cX4_gatherClashes 37 = .ok (.aload_n 0, 1) := by decide +kernel
theorem dX4_gatherClashes_38 : decode cX4_gatherClashes 38 = .ok (.getfield 9, 3) := by decide +kernel
theorem dX4_gatherClashes_41 : decode cX4_gatherClashes 41 = .ok (.iload_n 2, 1) := by decide +kernel
theorem dX4_gatherClashes_42 : decode cX4_gatherClashes 42 = .ok (.dup2, 1) := by decide +kernel
theorem dX4_gatherClashes_43 : decode cX4_gatherClashes 43 = .ok (.iaload, 1) := by decide +kernel
theorem dX4_gatherClashes_44 : decode cX4_gatherClashes 44 = .ok (.aload_n 1, 1) := by decide +kernel
theorem dX4_gatherClashes_45 : decode cX4_gatherClashes 45 = .ok (.getfield 40, 3) := by decide +kernel
theorem dX4_gatherClashes_48 : decode cX4_gatherClashes 48 = .ok (.iload_n 3, 1) := by decide +kernel
theorem dX4_gatherClashes_49 : decode cX4_gatherClashes 49 = .ok (.iaload, 1) := by decide +kernel
theorem dX4_gatherClashes_50 : decode cX4_gatherClashes 50 = .ok (.ior, 1) := by decide +kernel
theorem dX4_gatherClashes_51 : decode cX4_gatherClashes 51 = .ok (.iastore, 1) := by decide +kernel
theorem dX4_gatherClashes_52 : decode cX4_gatherClashes 52 = .ok (.iinc 3 1, 3) := by decide +kernel
theorem dX4_gatherClashes_55 : decode cX4_gatherClashes 55 = .ok (.goto (-38), 3) := by decide +kernel
theorem dX4_gatherClashes_58 : decode cX4_gatherClashes 58 = .ok (.iinc 2 1, 3) := by decide +kernel
theorem dX4_gatherClashes_61 : decode cX4_gatherClashes 61 = .ok (.goto (-59), 3) := by decide +kernel
theorem dX4_gatherClashes_64 : decode cX4_gatherClashes 64 = .ok (.return_, 1) := by decide +kernel
theorem dX4_tintFrom_0 : decode cX4_tintFrom 0 = .ok (.iload_n 2, 1) := by decide +kernel
theorem dX4_tintFrom_1 : decode cX4_tintFrom 1 = .ok (.bipush 12, 2) := by decide +kernel
theorem dX4_tintFrom_3 : decode cX4_tintFrom 3 = .ok (.if_icmp .lt 5, 3) := by decide +kernel
theorem dX4_tintFrom_6 : decode cX4_tintFrom 6 = .ok (.iconst 1, 1) := by decide +kernel
theorem dX4_tintFrom_7 : decode cX4_tintFrom 7 = .ok (.ireturn, 1) := by decide +kernel
theorem dX4_tintFrom_8 : decode cX4_tintFrom 8 = .ok (.iload_n 1, 1) := by decide +kernel
theorem dX4_tintFrom_9 : decode cX4_tintFrom 9 = .ok (.iload_n 2, 1) := by decide +kernel
theorem dX4_tintFrom_10 : decode cX4_tintFrom 10 = .ok (.ishr, 1) := by decide +kernel
theorem dX4_tintFrom_11 : decode cX4_tintFrom 11 = .ok (.iconst 1, 1) := by decide +kernel
theorem dX4_tintFrom_12 : decode cX4_tintFrom 12 = .ok (.iand, 1) := by decide +kernel
theorem dX4_tintFrom_13 : decode cX4_tintFrom 13 = .ok (.ifCond .ne 13, 3) := by decide +kernel
theorem dX4_tintFrom_16 : decode cX4_tintFrom 16 = .ok (.aload_n 0, 1) := by decide +kernel
theorem dX4_tintFrom_17 : decode cX4_tintFrom 17 = .ok (.iload_n 1, 1) := by decide +kernel
theorem dX4_tintFrom_18 : decode cX4_tintFrom 18 = .ok (.iload_n 2, 1) := by decide +kernel
theorem dX4_tintFrom_19 : decode cX4_tintFrom 19 = .ok (.iconst 1, 1) := by decide +kernel
theorem dX4_tintFrom_20 : decode cX4_tintFrom 20 = .ok (.iadd, 1) := by decide +kernel
theorem dX4_tintFrom_21 : decode cX4_tintFrom 21 = .ok (.iload_n 3, 1) := by decide +kernel
theorem dX4_tintFrom_22 : decode cX4_tintFrom 22 = .ok (.invokestatic 36, 3) := by decide +kernel
theorem dX4_tintFrom_25 : decode cX4_tintFrom 25 = .ok (.ireturn, 1) := by decide +kernel
theorem dX4_tintFrom_26 : decode cX4_tintFrom 26 = .ok (.iconst 0, 1) := by decide +kernel
theorem dX4_tintFrom_27 : decode cX4_tintFrom 27 = .ok (.istore 4, 2) := by decide +kernel
theorem dX4_tintFrom_29 : decode cX4_tintFrom 29 = .ok (.iload 4, 2) := by decide +kernel
theorem dX4_tintFrom_31 : decode cX4_tintFrom 31 = .ok (.iload_n 3, 1) := by decide +kernel
theorem dX4_tintFrom_32 : decode cX4_tintFrom 32 = .ok (.if_icmp .gt 92, 3) := by decide +kernel
theorem dX4_tintFrom_35 : decode cX4_tintFrom 35 = .ok (.iload 4, 2) := by decide +kernel
theorem dX4_tintFrom_37 : decode cX4_tintFrom 37 = .ok (.aload_n 0, 1) := by decide +kernel
theorem dX4_tintFrom_38 : decode cX4_tintFrom 38 = .ok (.getfield 32, 3) := by decide +kernel
theorem dX4_tintFrom_41 : decode cX4_tintFrom 41 = .ok (.if_icmp .ge 83, 3) := by decide +kernel
theorem dX4_tintFrom_44 : decode cX4_tintFrom 44 = .ok (.aload_n 0, 1) := by decide +kernel
theorem dX4_tintFrom_45 : decode cX4_tintFrom 45 = .ok (.getfield 18, 3) := by decide +kernel
theorem dX4_tintFrom_48 : decode cX4_tintFrom 48 = .ok (.iload 4, 2) := by decide +kernel
theorem dX4_tintFrom_50 : decode cX4_tintFrom 50 = .ok (.iaload, 1) := by decide +kernel
theorem dX4_tintFrom_51 : decode cX4_tintFrom 51 = .ok (.aload_n 0, 1) := by decide +kernel
theorem dX4_tintFrom_52 : decode cX4_tintFrom 52 = .ok (.getfield 9, 3) := by decide +kernel
theorem dX4_tintFrom_55 : decode cX4_tintFrom 55 = .ok (.iload_n 2, 1) := by decide +kernel
theorem dX4_tintFrom_56 : decode cX4_tintFrom 56 = .ok (.iaload, 1) := by decide +kernel
theorem dX4_tintFrom_57 : decode cX4_tintFrom 57 = .ok (.iand, 1) := by decide +kernel
theorem dX4_tintFrom_58 : decode cX4_tintFrom 58 = .ok (.ifCond .ne 60, 3) := by decide +kernel
theorem dX4_tintFrom_61 : decode cX4_tintFrom 61 = .ok (.aload_n 0, 1) := by decide +kernel
theorem dX4_tintFrom_62 : decode cX4_tintFrom 62 = .ok (.getfield 18, 3) := by decide +kernel
theorem dX4_tintFrom_65 : decode cX4_tintFrom 65 = .ok (.iload 4, 2) := by decide +kernel
theorem dX4_tintFrom_67 : decode cX4_tintFrom 67 = .ok (.dup2, 1) := by decide +kernel
theorem dX4_tintFrom_68 : decode cX4_tintFrom 68 = .ok (.iaload, 1) := by decide +kernel
theorem dX4_tintFrom_69 : decode cX4_tintFrom 69 = .ok (.iconst 1, 1) := by decide +kernel
theorem dX4_tintFrom_70 : decode cX4_tintFrom 70 = .ok (.iload_n 2, 1) := by decide +kernel
theorem dX4_tintFrom_71 : decode cX4_tintFrom 71 = .ok (.ishl, 1) := by decide +kernel
theorem dX4_tintFrom_72 : decode cX4_tintFrom 72 = .ok (.ior, 1) := by decide +kernel
theorem dX4_tintFrom_73 : decode cX4_tintFrom 73 = .ok (.iastore, 1) := by decide +kernel
theorem dX4_tintFrom_74 : decode cX4_tintFrom 74 = .ok (.aload_n 0, 1) := by decide +kernel
theorem dX4_tintFrom_75 : decode cX4_tintFrom 75 = .ok (.getfield 15, 3) := by decide +kernel
theorem dX4_tintFrom_78 : decode cX4_tintFrom 78 = .ok (.iload_n 2, 1) := by decide +kernel
theorem dX4_tintFrom_79 : decode cX4_tintFrom 79 = .ok (.iload 4, 2) := by decide +kernel
theorem dX4_tintFrom_81 : decode cX4_tintFrom 81 = .ok (.iastore, 1) := by decide +kernel
theorem dX4_tintFrom_82 : decode cX4_tintFrom 82 = .ok (.aload_n 0, 1) := by decide +kernel
theorem dX4_tintFrom_83 : decode cX4_tintFrom 83 = .ok (.iload_n 1, 1) := by decide +kernel
theorem dX4_tintFrom_84 : decode cX4_tintFrom 84 = .ok (.iload_n 2, 1) := by decide +kernel
theorem dX4_tintFrom_85 : decode cX4_tintFrom 85 = .ok (.iconst 1, 1) := by decide +kernel
theorem dX4_tintFrom_86 : decode cX4_tintFrom 86 = .ok (.iadd, 1) := by decide +kernel
theorem dX4_tintFrom_87 : decode cX4_tintFrom 87 = .ok (.iload_n 3, 1) := by decide +kernel
theorem dX4_tintFrom_88 : decode cX4_tintFrom 88 = .ok (.iload 4, 2) := by decide +kernel
theorem dX4_tintFrom_90 : decode cX4_tintFrom 90 = .ok (.iconst 1, 1) := by decide +kernel
theorem dX4_tintFrom_91 : decode cX4_tintFrom 91 = .ok (.iadd, 1) := by decide +kernel
theorem dX4_tintFrom_92 : decode cX4_tintFrom 92 = .ok (.invokestatic 43, 3) := by decide +kernel
theorem dX4_tintFrom_95 : decode cX4_tintFrom 95 = .ok (.invokestatic 36, 3) := by decide +kernel
theorem dX4_tintFrom_98 : decode cX4_tintFrom 98 = .ok (.ifCond .eq 5, 3) := by decide +kernel
theorem dX4_tintFrom_101 : decode cX4_tintFrom 101 = .ok (.iconst 1, 1) := by decide +kernel
theorem dX4_tintFrom_102 : decode cX4_tintFrom 102 = .ok (.ireturn, 1) := by decide +kernel
theorem dX4_tintFrom_103 : decode cX4_tintFrom 103 = .ok (.aload_n 0, 1) := by decide +kernel
theorem dX4_tintFrom_104 : decode cX4_tintFrom 104 = .ok (.getfield 18, 3) := by decide +kernel
theorem dX4_tintFrom_107 : decode cX4_tintFrom 107 = .ok (.iload 4, 2) := by decide +kernel
theorem dX4_tintFrom_109 : decode cX4_tintFrom 109 = .ok (.dup2, 1) := by decide +kernel
theorem dX4_tintFrom_110 : decode cX4_tintFrom 110 = .ok (.iaload, 1) := by decide +kernel
theorem dX4_tintFrom_111 : decode cX4_tintFrom 111 = .ok (.iconst 1, 1) := by decide +kernel
theorem dX4_tintFrom_112 : decode cX4_tintFrom 112 = .ok (.iload_n 2, 1) := by decide +kernel
theorem dX4_tintFrom_113 : decode cX4_tintFrom 113 = .ok (.ishl, 1) := by decide +kernel
theorem dX4_tintFrom_114 : decode cX4_tintFrom 114 = .ok (.iconst (-1), 1) := by decide +kernel
theorem dX4_tintFrom_115 : decode cX4_tintFrom 115 = .ok (.ixor, 1) := by decide +kernel
theorem dX4_tintFrom_116 : decode cX4_tintFrom 116 = .ok (.iand, 1) := by decide +kernel
theorem dX4_tintFrom_117 : decode cX4_tintFrom 117 = .ok (.iastore, 1) := by decide +kernel
theorem dX4_tintFrom_118 : decode cX4_tintFrom 118 = .ok (.iinc 4 1, 3) := by decide +kernel
theorem dX4_tintFrom_121 : decode cX4_tintFrom 121 = .ok (.goto (-92), 3) := by decide +kernel
theorem dX4_tintFrom_124 : decode cX4_tintFrom 124 = .ok (.iconst 0, 1) := by decide +kernel
theorem dX4_tintFrom_125 : decode cX4_tintFrom 125 = .ok (.ireturn, 1) := by decide +kernel
theorem dJ6_bitCount_0f7a4_0 : decode cJ6_bitCount_0f7a4 0 = .ok (.iload_n 0, 1) := by decide +kernel
theorem dJ6_bitCount_0f7a4_1 : decode cJ6_bitCount_0f7a4 1 = .ok (.iload_n 0, 1) := by decide +kernel
theorem dJ6_bitCount_0f7a4_2 : decode cJ6_bitCount_0f7a4 2 = .ok (.iconst 1, 1) := by decide +kernel
theorem dJ6_bitCount_0f7a4_3 : decode cJ6_bitCount_0f7a4 3 = .ok (.iushr, 1) := by decide +kernel
theorem dJ6_bitCount_0f7a4_4 : decode cJ6_bitCount_0f7a4 4 = .ok (.ldc_w 265, 3) := by decide +kernel
theorem dJ6_bitCount_0f7a4_7 : decode cJ6_bitCount_0f7a4 7 = .ok (.iand, 1) := by decide +kernel
theorem dJ6_bitCount_0f7a4_8 : decode cJ6_bitCount_0f7a4 8 = .ok (.isub, 1) := by decide +kernel
theorem dJ6_bitCount_0f7a4_9 : decode cJ6_bitCount_0f7a4 9 = .ok (.istore_n 0, 1) := by decide +kernel
theorem dJ6_bitCount_0f7a4_10 : decode cJ6_bitCount_0f7a4 10 = .ok (.iload_n 0, 1) := by decide +kernel
theorem dJ6_bitCount_0f7a4_11 : decode cJ6_bitCount_0f7a4 11 = .ok (.ldc_w 266, 3) := by decide +kernel
theorem dJ6_bitCount_0f7a4_14 : decode cJ6_bitCount_0f7a4 14 = .ok (.iand, 1) := by decide +kernel
theorem dJ6_bitCount_0f7a4_15 : decode cJ6_bitCount_0f7a4 15 = .ok (.iload_n 0, 1) := by decide +kernel
theorem dJ6_bitCount_0f7a4_16 : decode cJ6_bitCount_0f7a4 16 = .ok (.iconst 2, 1) := by decide +kernel
theorem dJ6_bitCount_0f7a4_17 : decode cJ6_bitCount_0f7a4 17 = .ok (.iushr, 1) := by decide +kernel
theorem dJ6_bitCount_0f7a4_18 : decode cJ6_bitCount_0f7a4 18 = .ok (.ldc_w 266, 3) := by decide +kernel
theorem dJ6_bitCount_0f7a4_21 : decode cJ6_bitCount_0f7a4 21 = .ok (.iand, 1) := by decide +kernel
theorem dJ6_bitCount_0f7a4_22 : decode cJ6_bitCount_0f7a4 22 = .ok (.iadd, 1) := by decide +kernel
theorem dJ6_bitCount_0f7a4_23 : decode cJ6_bitCount_0f7a4 23 = .ok (.istore_n 0, 1) := by decide +kernel
theorem dJ6_bitCount_0f7a4_24 : decode cJ6_bitCount_0f7a4 24 = .ok (.iload_n 0, 1) := by decide +kernel
theorem dJ6_bitCount_0f7a4_25 : decode cJ6_bitCount_0f7a4 25 = .ok (.iload_n 0, 1) := by decide +kernel
theorem dJ6_bitCount_0f7a4_26 : decode cJ6_bitCount_0f7a4 26 = .ok (.iconst 4, 1) := by decide +kernel
theorem dJ6_bitCount_0f7a4_27 : decode cJ6_bitCount_0f7a4 27 = .ok (.iushr, 1) := by decide +kernel
theorem dJ6_bitCount_0f7a4_28 : decode cJ6_bitCount_0f7a4 28 = .ok (.iadd, 1) := by decide +kernel
theorem dJ6_bitCount_0f7a4_29 : decode cJ6_bitCount_0f7a4 29 = .ok (.ldc_w 267, 3) := by decide +kernel
theorem dJ6_bitCount_0f7a4_32 : decode cJ6_bitCount_0f7a4 32 = .ok (.iand, 1) := by decide +kernel
theorem dJ6_bitCount_0f7a4_33 : decode cJ6_bitCount_0f7a4 33 = .ok (.istore_n 0, 1) := by decide +kernel
theorem dJ6_bitCount_0f7a4_34 : decode cJ6_bitCount_0f7a4 34 = .ok (.iload_n 0, 1) := by decide +kernel
theorem dJ6_bitCount_0f7a4_35 : decode cJ6_bitCount_0f7a4 35 = .ok (.iload_n 0, 1) := by decide +kernel
theorem dJ6_bitCount_0f7a4_36 : decode cJ6_bitCount_0f7a4 36 = .ok (.bipush 8, 2) := by decide +kernel
theorem dJ6_bitCount_0f7a4_38 : decode cJ6_bitCount_0f7a4 38 = .ok (.iushr, 1) := by decide +kernel
theorem dJ6_bitCount_0f7a4_39 : decode cJ6_bitCount_0f7a4 39 = .ok (.iadd, 1) := by decide +kernel
theorem dJ6_bitCount_0f7a4_40 : decode cJ6_bitCount_0f7a4 40 = .ok (.istore_n 0, 1) := by decide +kernel
theorem dJ6_bitCount_0f7a4_41 : decode cJ6_bitCount_0f7a4 41 = .ok (.iload_n 0, 1) := by decide +kernel
theorem dJ6_bitCount_0f7a4_42 : decode cJ6_bitCount_0f7a4 42 = .ok (.iload_n 0, 1) := by decide +kernel
theorem dJ6_bitCount_0f7a4_43 : decode cJ6_bitCount_0f7a4 43 = .ok (.bipush 16, 2) := by decide +kernel
theorem dJ6_bitCount_0f7a4_45 : decode cJ6_bitCount_0f7a4 45 = .ok (.iushr, 1) := by decide +kernel
theorem dJ6_bitCount_0f7a4_46 : decode cJ6_bitCount_0f7a4 46 = .ok (.iadd, 1) := by decide +kernel
theorem dJ6_bitCount_0f7a4_47 : decode cJ6_bitCount_0f7a4 47 = .ok (.istore_n 0, 1) := by decide +kernel
theorem dJ6_bitCount_0f7a4_48 : decode cJ6_bitCount_0f7a4 48 = .ok (.iload_n 0, 1) := by decide +kernel
theorem dJ6_bitCount_0f7a4_49 : decode cJ6_bitCount_0f7a4 49 = .ok (.bipush 63, 2) := by decide +kernel
theorem dJ6_bitCount_0f7a4_51 : decode cJ6_bitCount_0f7a4 51 = .ok (.iand, 1) := by decide +kernel
theorem dJ6_bitCount_0f7a4_52 : decode cJ6_bitCount_0f7a4 52 = .ok (.ireturn, 1) := by decide +kernel
