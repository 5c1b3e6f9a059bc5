theorem dX6_init_0 : decode cX6_init 0 = .ok (.aload_n 0, 1) := by decide +kernel
theorem dX6_init_1 : decode cX6_init 1 = .ok (.invokespecial 1, 3) := by decide +kernel
theorem dX6_init_4 : decode cX6_init 4 = .ok (.aload_n 0, 1) := by decide +kernel
theorem dX6_init_5 : decode cX6_init 5 = .ok (.bipush 8, 2) := by decide +kernel
theorem dX6_init_7 : decode cX6_init 7 = .ok (.newarray .int, 2) := by decide +kernel
theorem dX6_init_9 : decode cX6_init 9 = .ok (.dup, 1) := by decide +kernel
theorem dX6_init_10 : decode cX6_init 10 = .ok (.iconst 0, 1) := by decide +kernel
theorem dX6_init_11 : decode cX6_init 11 = .ok (.iconst (-1), 1) := by decide +kernel
theorem dX6_init_12 : decode cX6_init 12 = .ok (.iastore, 1) := by decide +kernel
theorem dX6_init_13 : decode cX6_init 13 = .ok (.dup, 1) := by decide +kernel
theorem dX6_init_14 : decode cX6_init 14 = .ok (.iconst 1, 1) := by decide +kernel
theorem dX6_init_15 : decode cX6_init 15 = .ok (.iconst (-1), 1) := by decide +kernel
theorem dX6_init_16 : decode cX6_init 16 = .ok (.iastore, 1) := by decide +kernel
theorem dX6_init_17 : decode cX6_init 17 = .ok (.dup, 1) := by decide +kernel
theorem dX6_init_18 : decode cX6_init 18 = .ok (.iconst 2, 1) := by decide +kernel
theorem dX6_init_19 : decode cX6_init 19 = .ok (.iconst (-1), 1) := by decide +kernel
theorem dX6_init_20 : decode cX6_init 20 = .ok (.iastore, 1) := by decide +kernel
theorem dX6_init_21 : decode cX6_init 21 = .ok (.dup, 1) := by decide +kernel
theorem dX6_init_22 : decode cX6_init 22 = .ok (.iconst 3, 1) := by decide +kernel
theorem dX6_init_23 : decode cX6_init 23 = .ok (.iconst (-1), 1) := by decide +kernel
theorem dX6_init_24 : decode cX6_init 24 = .ok (.iastore, 1) := by decide +kernel
theorem dX6_init_25 : decode cX6_init 25 = .ok (.dup, 1) := by decide +kernel
theorem dX6_init_26 : decode cX6_init 26 = .ok (.iconst 4, 1) := by decide +kernel
theorem dX6_init_27 : decode cX6_init 27 = .ok (.iconst (-1), 1) := by decide +kernel
theorem dX6_init_28 : decode cX6_init 28 = .ok (.iastore, 1) := by decide +kernel
theorem dX6_init_29 : decode cX6_init 29 = .ok (.dup, 1) := by decide +kernel
theorem dX6_init_30 : decode cX6_init 30 = .ok (.iconst 5, 1) := by decide +kernel
theorem dX6_init_31 : decode cX6_init 31 = .ok (.iconst (-1), 1) := by decide +kernel
theorem dX6_init_32 : decode cX6_init 32 = .ok (.iastore, 1) := by decide +kernel
theorem dX6_init_33 : decode cX6_init 33 = .ok (.dup, 1) := by decide +kernel
theorem dX6_init_34 : decode cX6_init 34 = .ok (.bipush 6, 2) := by decide +kernel
theorem dX6_init_36 : decode cX6_init 36 = .ok (.iconst (-1), 1) := by decide +kernel
theorem dX6_init_37 : decode cX6_init 37 = .ok (.iastore, 1) := by decide +kernel
theorem dX6_init_38 : decode cX6_init 38 = .ok (.dup, 1) := by decide +kernel
theorem dX6_init_39 : decode cX6_init 39 = .ok (.bipush 7, 2) := by decide +kernel
theorem dX6_init_41 : decode cX6_init 41 = .ok (.iconst (-1), 1) := by decide +kernel
theorem dX6_init_42 : decode cX6_init 42 = .ok (.iastore, 1) := by decide +kernel
theorem dX6_init_43 : decode cX6_init 43 = .ok (.putfield 7, 3) := by decide +kernel
theorem dX6_init_46 : decode cX6_init 46 = .ok (.aload_n 0, 1) := by decide +kernel
theorem dX6_init_47 : decode cX6_init 47 = .ok (.bipush 8, 2) := by decide +kernel
theorem dX6_init_49 : decode cX6_init 49 = .ok (.newarray .int, 2) := by decide +kernel
theorem dX6_init_51 : decode cX6_init 51 = .ok (.putfield 13, 3) := by decide +kernel
theorem dX6_init_54 : decode cX6_init 54 = .ok (.aload_n 0, 1) := by decide +kernel
theorem dX6_init_55 : decode cX6_init 55 = .ok (.sipush 480, 3) := by decide +kernel
theorem dX6_init_58 : decode cX6_init 58 = .ok (.newarray .int, 2) := by decide +kernel
theorem dX6_init_60 : decode cX6_init 60 = .ok (.putfield 16, 3) := by decide +kernel
theorem dX6_init_63 : decode cX6_init 63 = .ok (.aload_n 0, 1) := by decide +kernel
theorem dX6_init_64 : decode cX6_init 64 = .ok (.bipush 100, 2) := by decide +kernel
theorem dX6_init_66 : decode cX6_init 66 = .ok (.newarray .boolean, 2) := by decide +kernel
theorem dX6_init_68 : decode cX6_init 68 = .ok (.putfield 19, 3) := by decide +kernel
theorem dX6_init_71 : decode cX6_init 71 = .ok (.aload_n 0, 1) := by decide +kernel
theorem dX6_init_72 : decode cX6_init 72 = .ok (.bipush 12, 2) := by decide +kernel
theorem dX6_init_74 : decode cX6_init 74 = .ok (.newarray .int, 2) := by decide +kernel
theorem dX6_init_76 : decode cX6_init 76 = .ok (.putfield 23, 3) := by decide +kernel
theorem dX6_init_79 : decode cX6_init 79 = .ok (.aload_n 0, 1) := by decide +kernel
theorem dX6_init_80 : decode cX6_init 80 = .ok (.bipush 12, 2) := by decide +kernel
theorem dX6_init_82 : decode cX6_init 82 = .ok (.newarray .int, 2) := by decide +kernel
theorem dX6_init_84 : decode cX6_init 84 = .ok (.putfield 26, 3) := by decide +kernel
theorem dX6_init_87 : decode cX6_init 87 = .ok (.aload_n 0, 1) := by decide +kernel
theorem dX6_init_88 : decode cX6_init 88 = .ok (.bipush 12, 2) := by decide +kernel
theorem dX6_init_90 : decode cX6_init 90 = .ok (.newarray .int, 2) := by decide +kernel
theorem dX6_init_92 : decode cX6_init 92 = .ok (.putfield 29, 3) := by decide +kernel
theorem dX6_init_95 : decode cX6_init 95 = .ok (.aload_n 0, 1) := by decide +kernel
theorem dX6_init_96 : decode cX6_init 96 = .ok (.bipush 12, 2) := by decide +kernel
theorem dX6_init_98 : decode cX6_init 98 = .ok (.newarray .int, 2) := by decide +kernel
theorem dX6_init_100 : decode cX6_init 100 = .ok (.putfield 32, 3) := by decide +kernel
theorem dX6_init_103 : decode cX6_init 103 = .ok (.aload_n 0, 1) := by decide +kernel
theorem dX6_init_104 : decode cX6_init 104 = .ok (.sipush 1200, 3) := by decide +kernel
theorem dX6_init_107 : decode cX6_init 107 = .ok (.newarray .int, 2) := by decide +kernel
theorem dX6_init_109 : decode cX6_init 109 = .ok (.putfield 35, 3) := by decide +kernel
theorem dX6_init_112 : decode cX6_init 112 = .ok (.aload_n 0, 1) := by decide +kernel
theorem dX6_init_113 : decode cX6_init 113 = .ok (.sipush 2160, 3) := by decide +kernel
theorem dX6_init_116 : decode cX6_init 116 = .ok (.newarray .boolean, 2) := by decide +kernel
theorem dX6_init_118 : decode cX6_init 118 = .ok (.putfield 38, 3) := by decide +kernel
theorem dX6_init_121 : decode cX6_init 121 = .ok (.aload_n 0, 1) := by decide +kernel
theorem dX6_init_122 : decode cX6_init 122 = .ok (.iconst 2, 1) := by decide +kernel
theorem dX6_init_123 : decode cX6_init 123 = .ok (.newarray .int, 2) := by decide +kernel
theorem dX6_init_125 : decode cX6_init 125 = .ok (.dup, 1) := by decide +kernel
theorem dX6_init_126 : decode cX6_init 126 = .ok (.iconst 0, 1) := by decide +kernel
theorem dX6_init_127 : decode cX6_init 127 = .ok (.bipush 10, 2) := by decide +kernel
theorem dX6_init_129 : decode cX6_init 129 = .ok (.iastore, 1) := by decide +kernel
theorem dX6_init_130 : decode cX6_init 130 = .ok (.dup, 1) := by decide +kernel
theorem dX6_init_131 : decode cX6_init 131 = .ok (.iconst 1, 1) := by decide +kernel
theorem dX6_init_132 : decode cX6_init 132 = .ok (.iconst 3, 1) := by decide +kernel
theorem dX6_init_133 : decode cX6_init 133 = .ok (.iastore, 1) := by decide +kernel
theorem dX6_init_134 : decode cX6_init 134 = .ok (.putfield 41, 3) := by decide +kernel
theorem dX6_init_137 : decode cX6_init 137 = .ok (.aload_n 0, 1) := by decide +kernel
theorem dX6_init_138 : decode cX6_init 138 = .ok (.bipush 100, 2) := by decide +kernel
theorem dX6_init_140 : decode cX6_init 140 = .ok (.newarray .int, 2) := by decide +kernel
theorem dX6_init_142 : decode cX6_init 142 = .ok (.putfield 44, 3) := by decide +kernel
theorem dX6_init_145 : decode cX6_init 145 = .ok (.aload_n 0, 1) := by decide +kernel
theorem dX6_init_146 : decode cX6_init 146 = .ok (.bipush 100, 2) := by decide +kernel
theorem dX6_init_148 : decode cX6_init 148 = .ok (.newarray .int, 2) := by decide +kernel
theorem dX6_init_150 : decode cX6_init 150 = .ok (.putfield 47, 3) := by decide +kernel
theorem dX6_init_153 : decode cX6_init 153 = .ok (.aload_n 0, 1) := by decide +kernel
theorem dX6_init_154 : decode cX6_init 154 = .ok (.sipush 180, 3) := by decide +kernel
theorem dX6_init_157 : decode cX6_init 157 = .ok (.newarray .int, 2) := by decide +kernel
theorem dX6_init_159 : decode cX6_init 159 = .ok (.putfield 50, 3) := by decide +kernel
theorem dX6_init_162 : decode cX6_init 162 = .ok (.aload_n 0, 1) := by decide +kernel
theorem dX6_init_163 : decode cX6_init 163 = .ok (.bipush 100, 2) := by decide +kernel
theorem dX6_init_165 : decode cX6_init 165 = .ok (.newarray .int, 2) := by decide +kernel
theorem dX6_init_167 : decode cX6_init 167 = .ok (.putfield 53, 3) := by decide +kernel
theorem dX6_init_170 : decode cX6_init 170 = .ok (.aload_n 0, 1) := by decide +kernel
theorem dX6_init_171 : decode cX6_init 171 = .ok (.bipush 12, 2) := by decide +kernel
theorem dX6_init_173 : decode cX6_init 173 = .ok (.newarray .int, 2) := by decide +kernel
theorem dX6_init_175 : decode cX6_init 175 = .ok (.putfield 56, 3) := by decide +kernel
theorem dX6_init_178 : decode cX6_init 178 = .ok (.aload_n 0, 1) := by decide +kernel
theorem dX6_init_179 : decode cX6_init 179 = .ok (.bipush 16, 2) := by decide +kernel
theorem dX6_init_181 : decode cX6_init 181 = .ok (.newarray .int, 2) := by decide +kernel
theorem dX6_init_183 : decode cX6_init 183 = .ok (.putfield 59, 3) := by decide +kernel
theorem dX6_init_186 : decode cX6_init 186 = .ok (.return_, 1) := by decide +kernel
theorem dX6_in_0 : decode cX6_in 0 = .ok (.lload_n 0, 1) := by decide +kernel
theorem dX6_in_1 : decode cX6_in 1 = .ok (.lload_n 2, 1) := by decide +kernel
theorem dX6_in_2 : decode cX6_in 2 = .ok (.lcmp, 1) := by decide +kernel
theorem dX6_in_3 : decode cX6_in 3 = .ok (.ifCond .lt 14, 3) := by decide +kernel
theorem dX6_in_6 : decode cX6_in 6 = .ok (.lload_n 0, 1) := by decide +kernel
theorem dX6_in_7 : decode cX6_in 7 = .ok (.lload 4, 2) := by decide +kernel
theorem dX6_in_9 : decode cX6_in 9 = .ok (.lcmp, 1) := by decide +kernel
theorem dX6_in_10 : decode cX6_in 10 = .ok (.ifCond .gt 7, 3) := by decide +kernel
theorem dX6_in_13 : decode cX6_in 13 = .ok (.iconst 1, 1) := by decide +kernel
theorem dX6_in_14 : decode cX6_in 14 = .ok (.goto 4, 3) := by decide +kernel
theorem dX6_in_17 : decode cX6_in 17 = .ok (.iconst 0, 1) := by decide +kernel
theorem dX6_in_18 : decode cX6_in 18 = .ok (.ireturn, 1) := by decide +kernel
theorem dX6_found_0 : decode cX6_found 0 = .ok (.aload_n 0, 1) := by decide +kernel
theorem dX6_found_1 : decode cX6_found 1 = .ok (.iload_n 1, 1) := by decide +kernel
theorem dX6_found_2 : decode cX6_found 2 = .ok (.putfield 66, 3) := by decide +kernel
theorem dX6_found_5 : decode cX6_found 5 = .ok (.ldc 69, 2) := by decide +kernel
theorem dX6_found_7 : decode cX6_found 7 = .ok (.iload_n 1, 1) := by decide +kernel
theorem dX6_found_8 : decode cX6_found 8 = .ok (.isub, 1) := by decide +kernel
theorem dX6_found_9 : decode cX6_found 9 = .ok (.ireturn, 1) := by decide +kernel
theorem dX6_isSheet_0 : decode cX6_isSheet 0 = .ok (.iload_n 0, 1) := by decide +kernel
theorem dX6_isSheet_1 : decode cX6_isSheet 1 = .ok (.i2l, 1) := by decide +kernel
theorem dX6_isSheet_2 : decode cX6_isSheet 2 = .ok (.lconst 0, 1) := by decide +kernel
theorem dX6_isSheet_3 : decode cX6_isSheet 3 = .ok (.ldc2_w 70, 3) := by decide +kernel
theorem dX6_isSheet_6 : decode cX6_isSheet 6 = .ok (.invokestatic 72, 3) := by decide +kernel
theorem dX6_isSheet_9 : decode cX6_isSheet 9 = .ok (.ireturn, 1) := by decide +kernel
theorem dX6_sheet_0 : decode cX6_sheet 0 = .ok (.aload_n 0, 1) := by decide +kernel
theorem dX6_sheet_1 : decode cX6_sheet 1 = .ok (.iconst 0, 1) := by decide +kernel
theorem dX6_sheet_2 : decode cX6_sheet 2 = .ok (.putfield 62, 3) := by decide +kernel
theorem dX6_sheet_5 : decode cX6_sheet 5 = .ok (.iload_n 1, 1) := by decide +kernel
theorem dX6_sheet_6 : decode cX6_sheet 6 = .ok (.invokestatic 76, 3) := by decide +kernel
theorem dX6_sheet_9 : decode cX6_sheet 9 = .ok (.ifCond .eq 21, 3) := by decide +kernel
theorem dX6_sheet_12 : decode cX6_sheet 12 = .ok (.iload_n 2, 1) := by decide +kernel
theorem dX6_sheet_13 : decode cX6_sheet 13 = .ok (.i2l, 1) := by decide +kernel
theorem dX6_sheet_14 : decode cX6_sheet 14 = .ok (.lconst 0, 1) := by decide +kernel
theorem dX6_sheet_15 : decode cX6_sheet 15 = .ok (.ldc2_w 80, 3) := by decide +kernel
theorem dX6_sheet_18 : decode cX6_sheet 18 = .ok (.invokestatic 72, 3) := by decide +kernel
theorem dX6_sheet_21 : decode cX6_sheet 21 = .ok (.ifCond .eq 9, 3) := by decide +kernel
theorem dX6_sheet_24 : decode cX6_sheet 24 = .ok (.iload_n 3, 1) := by decide +kernel
theorem dX6_sheet_25 : decode cX6_sheet 25 = .ok (.bipush 60, 2) := by decide +kernel
theorem dX6_sheet_27 : decode cX6_sheet 27 = .ok (.if_icmp .le 6, 3) := by decide +kernel
theorem dX6_sheet_30 : decode cX6_sheet 30 = .ok (.ldc 82, 2) := by decide +kernel
theorem dX6_sheet_32 : decode cX6_sheet 32 = .ok (.ireturn, 1) := by decide +kernel
theorem dX6_sheet_33 : decode cX6_sheet 33 = .ok (.aload_n 0, 1) := by decide +kernel
theorem dX6_sheet_34 : decode cX6_sheet 34 = .ok (.iconst 0, 1) := by decide +kernel
theorem dX6_sheet_35 : decode cX6_sheet 35 = .ok (.putfield 66, 3) := by decide +kernel
theorem dX6_sheet_38 : decode cX6_sheet 38 = .ok (.iload_n 3, 1) := by decide +kernel
theorem dX6_sheet_39 : decode cX6_sheet 39 = .ok (.ifCond .ge 9, 3) := by decide +kernel
theorem dX6_sheet_42 : decode cX6_sheet 42 = .ok (.aload_n 0, 1) := by decide +kernel
theorem dX6_sheet_43 : decode cX6_sheet 43 = .ok (.iconst 4, 1) := by decide +kernel
theorem dX6_sheet_44 : decode cX6_sheet 44 = .ok (.invokevirtual 83, 3) := by decide +kernel
theorem dX6_sheet_47 : decode cX6_sheet 47 = .ok (.ireturn, 1) := by decide +kernel
theorem dX6_sheet_48 : decode cX6_sheet 48 = .ok (.aload_n 0, 1) := by decide +kernel
theorem dX6_sheet_49 : decode cX6_sheet 49 = .ok (.getfield 7, 3) := by decide +kernel
theorem dX6_sheet_52 : decode cX6_sheet 52 = .ok (.iload_n 1, 1) := by decide +kernel
theorem dX6_sheet_53 : decode cX6_sheet 53 = .ok (.iload_n 2, 1) := by decide +kernel
theorem dX6_sheet_54 : decode cX6_sheet 54 = .ok (.iastore, 1) := by decide +kernel
theorem dX6_sheet_55 : decode cX6_sheet 55 = .ok (.aload_n 0, 1) := by decide +kernel
theorem dX6_sheet_56 : decode cX6_sheet 56 = .ok (.getfield 13, 3) := by decide +kernel
theorem dX6_sheet_59 : decode cX6_sheet 59 = .ok (.iload_n 1, 1) := by decide +kernel
theorem dX6_sheet_60 : decode cX6_sheet 60 = .ok (.iload_n 3, 1) := by decide +kernel
theorem dX6_sheet_61 : decode cX6_sheet 61 = .ok (.iastore, 1) := by decide +kernel
theorem dX6_sheet_62 : decode cX6_sheet 62 = .ok (.iconst 0, 1) := by decide +kernel
theorem dX6_sheet_63 : decode cX6_sheet 63 = .ok (.istore 4, 2) := by decide +kernel
theorem dX6_sheet_65 : decode cX6_sheet 65 = .ok (.iload 4, 2) := by decide +kernel
theorem dX6_sheet_67 : decode cX6_sheet 67 = .ok (.bipush 60, 2) := by decide +kernel
theorem dX6_sheet_69 : decode cX6_sheet 69 = .ok (.if_icmp .ge 22, 3) := by decide +kernel
theorem dX6_sheet_72 : decode cX6_sheet 72 = .ok (.aload_n 0, 1) := by decide +kernel
theorem dX6_sheet_73 : decode cX6_sheet 73 = .ok (.getfield 16, 3) := by decide +kernel
theorem dX6_sheet_76 : decode cX6_sheet 76 = .ok (.bipush 60, 2) := by decide +kernel
theorem dX6_sheet_78 : decode cX6_sheet 78 = .ok (.iload_n 1, 1) := by decide +kernel
theorem dX6_sheet_79 : decode cX6_sheet 79 = .ok (.imul, 1) := by decide +kernel
theorem dX6_sheet_80 : decode cX6_sheet 80 = .ok (.iload 4, 2) := by decide +kernel
theorem dX6_sheet_82 : decode cX6_sheet 82 = .ok (.iadd, 1) := by decide +kernel
theorem dX6_sheet_83 : decode cX6_sheet 83 = .ok (.iconst 0, 1) := by decide +kernel
theorem dX6_sheet_84 : decode cX6_sheet 84 = .ok (.iastore, 1) := by decide +kernel
theorem dX6_sheet_85 : decode cX6_sheet 85 = .ok (.iinc 4 1, 3) := by decide +kernel
theorem dX6_sheet_88 : decode cX6_sheet 88 = .ok (.goto (-23), 3) := by decide +kernel
theorem dX6_sheet_91 : decode cX6_sheet 91 = .ok (.iload_n 3, 1) := by decide +kernel
theorem dX6_sheet_92 : decode cX6_sheet 92 = .ok (.ireturn, 1) := by decide +kernel
theorem dX6_set_0 : decode cX6_set 0 = .ok (.aload_n 0, 1) := by decide +kernel
theorem dX6_set_1 : decode cX6_set 1 = .ok (.iconst 0, 1) := by decide +kernel
theorem dX6_set_2 : decode cX6_set 2 = .ok (.putfield 62, 3) := by decide +kernel
theorem dX6_set_5 : decode cX6_set 5 = .ok (.iload_n 1, 1) := by decide +kernel
theorem dX6_set_6 : decode cX6_set 6 = .ok (.invokestatic 76, 3) := by decide +kernel
theorem dX6_set_9 : decode cX6_set 9 = .ok (.ifCond .ne 6, 3) := by decide +kernel
theorem dX6_set_12 : decode cX6_set 12 = .ok (.ldc 82, 2) := by decide +kernel
theorem dX6_set_14 : decode cX6_set 14 = .ok (.ireturn, 1) := by decide +kernel
theorem dX6_set_15 : decode cX6_set 15 = .ok (.aload_n 0, 1) := by decide +kernel
theorem dX6_set_16 : decode cX6_set 16 = .ok (.iconst 0, 1) := by decide +kernel
theorem dX6_set_17 : decode cX6_set 17 = .ok (.putfield 66, 3) := by decide +kernel
theorem dX6_set_20 : decode cX6_set 20 = .ok (.aload_n 0, 1) := by decide +kernel
theorem dX6_set_21 : decode cX6_set 21 = .ok (.getfield 7, 3) := by decide +kernel
theorem dX6_set_24 : decode cX6_set 24 = .ok (.iload_n 1, 1) := by decide +kernel
theorem dX6_set_25 : decode cX6_set 25 = .ok (.iaload, 1) := by decide +kernel
theorem dX6_set_26 : decode cX6_set 26 = .ok (.ifCond .ge 9, 3) := by decide +kernel
theorem dX6_set_29 : decode cX6_set 29 = .ok (.aload_n 0, 1) := by decide +kernel
theorem dX6_set_30 : decode cX6_set 30 = .ok (.iconst 1, 1) := by decide +kernel
theorem dX6_set_31 : decode cX6_set 31 = .ok (.invokevirtual 83, 3) := by decide +kernel
theorem dX6_set_34 : decode cX6_set 34 = .ok (.ireturn, 1) := by decide +kernel
theorem dX6_set_35 : decode cX6_set 35 = .ok (.iload_n 2, 1) := by decide +kernel
theorem dX6_set_36 : decode cX6_set 36 = .ok (.i2l, 1) := by decide +kernel
theorem dX6_set_37 : decode cX6_set 37 = .ok (.lconst 0, 1) := by decide +kernel
theorem dX6_set_38 : decode cX6_set 38 = .ok (.aload_n 0, 1) := by decide +kernel
theorem dX6_set_39 : decode cX6_set 39 = .ok (.getfield 13, 3) := by decide +kernel
theorem dX6_set_42 : decode cX6_set 42 = .ok (.iload_n 1, 1) := by decide +kernel
theorem dX6_set_43 : decode cX6_set 43 = .ok (.iaload, 1) := by decide +kernel
theorem dX6_set_44 : decode cX6_set 44 = .ok (.iconst 1, 1) := by decide +kernel
theorem dX6_set_45 : decode cX6_set 45 = .ok (.isub, 1) := by decide +kernel
theorem dX6_set_46 : decode cX6_set 46 = .ok (.i2l, 1) := by decide +kernel
theorem dX6_set_47 : decode cX6_set 47 = .ok (.invokestatic 72, 3) := by decide +kernel
theorem dX6_set_50 : decode cX6_set 50 = .ok (.ifCond .ne 9, 3) := by decide +kernel
theorem dX6_set_53 : decode cX6_set 53 = .ok (.aload_n 0, 1) := by decide +kernel
theorem dX6_set_54 : decode cX6_set 54 = .ok (.iconst 2, 1) := by decide +kernel
theorem dX6_set_55 : decode cX6_set 55 = .ok (.invokevirtual 83, 3) := by decide +kernel
theorem dX6_set_58 : decode cX6_set 58 = .ok (.ireturn, 1) := by decide +kernel
theorem dX6_set_59 : decode cX6_set 59 = .ok (.aload_n 0, 1) := by decide +kernel
theorem dX6_set_60 : decode cX6_set 60 = .ok (.getfield 16, 3) := by decide +kernel
theorem dX6_set_63 : decode cX6_set 63 = .ok (.bipush 60, 2) := by decide +kernel
theorem dX6_set_65 : decode cX6_set 65 = .ok (.iload_n 1, 1) := by decide +kernel
theorem dX6_set_66 : decode cX6_set 66 = .ok (.imul, 1) := by decide +kernel
theorem dX6_set_67 : decode cX6_set 67 = .ok (.iload_n 2, 1) := by decide +kernel
theorem dX6_set_68 : decode cX6_set 68 = .ok (.iadd, 1) := by decide +kernel
theorem dX6_set_69 : decode cX6_set 69 = .ok (.aload_n 0, 1) := by decide +kernel
theorem dX6_set_70 : decode cX6_set 70 = .ok (.getfield 7, 3) := by decide +kernel
theorem dX6_set_73 : decode cX6_set 73 = .ok (.iload_n 1, 1) := by decide +kernel
theorem dX6_set_74 : decode cX6_set 74 = .ok (.iaload, 1) := by decide +kernel
theorem dX6_set_75 : decode cX6_set 75 = .ok (.ifCond .ne 8, 3) := by decide +kernel
theorem dX6_set_78 : decode cX6_set 78 = .ok (.iload_n 3, 1) := by decide +kernel
theorem dX6_set_79 : decode cX6_set 79 = .ok (.i2b, 1) := by decide +kernel
theorem dX6_set_80 : decode cX6_set 80 = .ok (.goto 19, 3) := by decide +kernel
theorem dX6_set_83 : decode cX6_set 83 = .ok (.aload_n 0, 1) := by decide +kernel
theorem dX6_set_84 : decode cX6_set 84 = .ok (.getfield 7, 3) := by decide +kernel
theorem dX6_set_87 : decode cX6_set 87 = .ok (.iload_n 1, 1) := by decide +kernel
theorem dX6_set_88 : decode cX6_set 88 = .ok (.iaload, 1) := by decide +kernel
theorem dX6_set_89 : decode cX6_set 89 = .ok (.iconst 1, 1) := by decide +kernel
theorem dX6_set_90 : decode cX6_set 90 = .ok (.if_icmp .ne 8, 3) := by decide +kernel
theorem dX6_set_93 : decode cX6_set 93 = .ok (.iload_n 3, 1) := by decide +kernel
theorem dX6_set_94 : decode cX6_set 94 = .ok (.i2s, 1) := by decide +kernel
theorem dX6_set_95 : decode cX6_set 95 = .ok (.goto 4, 3) := by decide +kernel
theorem dX6_set_98 : decode cX6_set 98 = .ok (.iload_n 3, 1) := by decide +kernel
theorem dX6_set_99 : decode cX6_set 99 = .ok (.iastore, 1) := by decide +kernel
theorem dX6_set_100 : decode cX6_set 100 = .ok (.aload_n 0, 1) := by decide +kernel
theorem dX6_set_101 : decode cX6_set 101 = .ok (.getfield 16, 3) := by decide +kernel
theorem dX6_set_104 : decode cX6_set 104 = .ok (.bipush 60, 2) := by decide +kernel
theorem dX6_set_106 : decode cX6_set 106 = .ok (.iload_n 1, 1) := by decide +kernel
theorem dX6_set_107 : decode cX6_set 107 = .ok (.imul, 1) := by decide +kernel
theorem dX6_set_108 : decode cX6_set 108 = .ok (.iload_n 2, 1) := by decide +kernel
theorem dX6_set_109 : decode cX6_set 109 = .ok (.iadd, 1) := by decide +kernel
theorem dX6_set_110 : decode cX6_set 110 = .ok (.iaload, 1) := by decide +kernel
theorem dX6_set_111 : decode cX6_set 111 = .ok (.ireturn, 1) := by decide +kernel
theorem dX6_copy_0 : decode cX6_copy 0 = .ok (.aload_n 0, 1) := by decide +kernel
theorem dX6_copy_1 : decode cX6_copy 1 = .ok (.iconst 0, 1) := by decide +kernel
theorem dX6_copy_2 : decode cX6_copy 2 = .ok (.putfield 62, 3) := by decide +kernel
theorem dX6_copy_5 : decode cX6_copy 5 = .ok (.iload_n 1, 1) := by decide +kernel
theorem dX6_copy_6 : decode cX6_copy 6 = .ok (.invokestatic 76, 3) := by decide +kernel
theorem dX6_copy_9 : decode cX6_copy 9 = .ok (.ifCond .eq 10, 3) := by decide +kernel
theorem dX6_copy_12 : decode cX6_copy 12 = .ok (.iload_n 3, 1) := by decide +kernel
theorem dX6_copy_13 : decode cX6_copy 13 = .ok (.invokestatic 76, 3) := by decide +kernel
theorem dX6_copy_16 : decode cX6_copy 16 = .ok (.ifCond .ne 6, 3) := by decide +kernel
theorem dX6_copy_19 : decode cX6_copy 19 = .ok (.ldc 82, 2) := by decide +kernel
theorem dX6_copy_21 : decode cX6_copy 21 = .ok (.ireturn, 1) := by decide +kernel
theorem dX6_copy_22 : decode cX6_copy 22 = .ok (.aload_n 0, 1) := by decide +kernel
theorem dX6_copy_23 : decode cX6_copy 23 = .ok (.iconst 0, 1) := by decide +kernel
theorem dX6_copy_24 : decode cX6_copy 24 = .ok (.putfield 66, 3) := by decide +kernel
theorem dX6_copy_27 : decode cX6_copy 27 = .ok (.aload_n 0, 1) := by decide +kernel
theorem dX6_copy_28 : decode cX6_copy 28 = .ok (.getfield 7, 3) := by decide +kernel
theorem dX6_copy_31 : decode cX6_copy 31 = .ok (.iload_n 1, 1) := by decide +kernel
theorem dX6_copy_32 : decode cX6_copy 32 = .ok (.iaload, 1) := by decide +kernel
theorem dX6_copy_33 : decode cX6_copy 33 = .ok (.ifCond .lt 12, 3) := by decide +kernel
theorem dX6_copy_36 : decode cX6_copy 36 = .ok (.aload_n 0, 1) := by decide +kernel
theorem dX6_copy_37 : decode cX6_copy 37 = .ok (.getfield 7, 3) := by decide +kernel
theorem dX6_copy_40 : decode cX6_copy 40 = .ok (.iload_n 3, 1) := by decide +kernel
theorem dX6_copy_41 : decode cX6_copy 41 = .ok (.iaload, 1) := by decide +kernel
theorem dX6_copy_42 : decode cX6_copy 42 = .ok (.ifCond .ge 9, 3) := by decide +kernel
theorem dX6_copy_45 : decode cX6_copy 45 = .ok (.aload_n 0, 1) := by decide +kernel
theorem dX6_copy_46 : decode cX6_copy 46 = .ok (.iconst 1, 1) := by decide +kernel
theorem dX6_copy_47 : decode cX6_copy 47 = .ok (.invokevirtual 83, 3) := by decide +kernel
theorem dX6_copy_50 : decode cX6_copy 50 = .ok (.ireturn, 1) := by decide +kernel
theorem dX6_copy_51 : decode cX6_copy 51 = .ok (.aload_n 0, 1) := by decide +kernel
theorem dX6_copy_52 : decode cX6_copy 52 = .ok (.getfield 7, 3) := by decide +kernel
theorem dX6_copy_55 : decode cX6_copy 55 = .ok (.iload_n 1, 1) := by decide +kernel
theorem dX6_copy_56 : decode cX6_copy 56 = .ok (.iaload, 1) := by decide +kernel
theorem dX6_copy_57 : decode cX6_copy 57 = .ok (.aload_n 0, 1) := by decide +kernel
theorem dX6_copy_58 : decode cX6_copy 58 = .ok (.getfield 7, 3) := by decide +kernel
theorem dX6_copy_61 : decode cX6_copy 61 = .ok (.iload_n 3, 1) := by decide +kernel
theorem dX6_copy_62 : decode cX6_copy 62 = .ok (.iaload, 1) := by decide +kernel
theorem dX6_copy_63 : decode cX6_copy 63 = .ok (.if_icmp .eq 9, 3) := by decide +kernel
theorem dX6_copy_66 : decode cX6_copy 66 = .ok (.aload_n 0, 1) := by decide +kernel
theorem dX6_copy_67 : decode cX6_copy 67 = .ok (.iconst 5, 1) := by decide +kernel
theorem dX6_copy_68 : decode cX6_copy 68 = .ok (.invokevirtual 83, 3) := by decide +kernel
theorem dX6_copy_71 : decode cX6_copy 71 = .ok (.ireturn, 1) := by decide +kernel
theorem dX6_copy_72 : decode cX6_copy 72 = .ok (.iload_n 2, 1) := by decide +kernel
theorem dX6_copy_73 : decode cX6_copy 73 = .ok (.ifCond .lt 48, 3) := by decide +kernel
theorem dX6_copy_76 : decode cX6_copy 76 = .ok (.iload 4, 2) := by decide +kernel
theorem dX6_copy_78 : decode cX6_copy 78 = .ok (.ifCond .lt 43, 3) := by decide +kernel
theorem dX6_copy_81 : decode cX6_copy 81 = .ok (.iload 5, 2) := by decide +kernel
theorem dX6_copy_83 : decode cX6_copy 83 = .ok (.ifCond .lt 38, 3) := by decide +kernel
theorem dX6_copy_86 : decode cX6_copy 86 = .ok (.iload_n 2, 1) := by decide +kernel
theorem dX6_copy_87 : decode cX6_copy 87 = .ok (.i2l, 1) := by decide +kernel
theorem dX6_copy_88 : decode cX6_copy 88 = .ok (.iload 5, 2) := by decide +kernel
theorem dX6_copy_90 : decode cX6_copy 90 = .ok (.i2l, 1) := by decide +kernel
theorem dX6_copy_91 : decode cX6_copy 91 = .ok (.ladd, 1) := by decide +kernel
theorem dX6_copy_92 : decode cX6_copy 92 = .ok (.aload_n 0, 1) := by decide +kernel
theorem dX6_copy_93 : decode cX6_copy 93 = .ok (.getfield 13, 3) := by decide +kernel
theorem dX6_copy_96 : decode cX6_copy 96 = .ok (.iload_n 1, 1) := by decide +kernel
theorem dX6_copy_97 : decode cX6_copy 97 = .ok (.iaload, 1) := by decide +kernel
theorem dX6_copy_98 : decode cX6_copy 98 = .ok (.i2l, 1) := by decide +kernel
theorem dX6_copy_99 : decode cX6_copy 99 = .ok (.lcmp, 1) := by decide +kernel
theorem dX6_copy_100 : decode cX6_copy 100 = .ok (.ifCond .gt 21, 3) := by decide +kernel
theorem dX6_copy_103 : decode cX6_copy 103 = .ok (.iload 4, 2) := by decide +kernel
theorem dX6_copy_105 : decode cX6_copy 105 = .ok (.i2l, 1) := by decide +kernel
theorem dX6_copy_106 : decode cX6_copy 106 = .ok (.iload 5, 2) := by decide +kernel
theorem dX6_copy_108 : decode cX6_copy 108 = .ok (.i2l, 1) := by decide +kernel
theorem dX6_copy_109 : decode cX6_copy 109 = .ok (.ladd, 1) := by decide +kernel
theorem dX6_copy_110 : decode cX6_copy 110 = .ok (.aload_n 0, 1) := by decide +kernel
theorem dX6_copy_111 : decode cX6_copy 111 = .ok (.getfield 13, 3) := by decide +kernel
theorem dX6_copy_114 : decode cX6_copy 114 = .ok (.iload_n 3, 1) := by decide +kernel
theorem dX6_copy_115 : decode cX6_copy 115 = .ok (.iaload, 1) := by decide +kernel
theorem dX6_copy_116 : decode cX6_copy 116 = .ok (.i2l, 1) := by decide +kernel
theorem dX6_copy_117 : decode cX6_copy 117 = .ok (.lcmp, 1) := by decide +kernel
theorem dX6_copy_118 : decode cX6_copy 118 = .ok (.ifCond .le 9, 3) := by decide +kernel
theorem dX6_copy_121 : decode cX6_copy 121 = .ok (.aload_n 0, 1) := by decide +kernel
theorem dX6_copy_122 : decode cX6_copy 122 = .ok (.iconst 2, 1) := by decide +kernel
theorem dX6_copy_123 : decode cX6_copy 123 = .ok (.invokevirtual 83, 3) := by decide +kernel
theorem dX6_copy_126 : decode cX6_copy 126 = .ok (.ireturn, 1) := by decide +kernel
theorem dX6_copy_127 : decode cX6_copy 127 = .ok (.iload_n 2, 1) := by decide +kernel
theorem dX6_copy_128 : decode cX6_copy 128 = .ok (.iload 4, 2) := by decide +kernel
theorem dX6_copy_130 : decode cX6_copy 130 = .ok (.if_icmp .lt 7, 3) := by decide +kernel
theorem dX6_copy_133 : decode cX6_copy 133 = .ok (.iconst 1, 1) := by decide +kernel
theorem dX6_copy_134 : decode cX6_copy 134 = .ok (.goto 4, 3) := by decide +kernel
theorem dX6_copy_137 : decode cX6_copy 137 = .ok (.iconst 0, 1) := by decide +kernel
theorem dX6_copy_138 : decode cX6_copy 138 = .ok (.istore 6, 2) := by decide +kernel
theorem dX6_copy_140 : decode cX6_copy 140 = .ok (.iconst 0, 1) := by decide +kernel
theorem dX6_copy_141 : decode cX6_copy 141 = .ok (.istore 7, 2) := by decide +kernel
theorem dX6_copy_143 : decode cX6_copy 143 = .ok (.iload 7, 2) := by decide +kernel
theorem dX6_copy_145 : decode cX6_copy 145 = .ok (.iload 5, 2) := by decide +kernel
theorem dX6_copy_147 : decode cX6_copy 147 = .ok (.if_icmp .ge 57, 3) := by decide +kernel
theorem dX6_copy_150 : decode cX6_copy 150 = .ok (.iload 6, 2) := by decide +kernel
theorem dX6_copy_152 : decode cX6_copy 152 = .ok (.ifCond .eq 8, 3) := by decide +kernel
theorem dX6_copy_155 : decode cX6_copy 155 = .ok (.iload 7, 2) := by decide +kernel
theorem dX6_copy_157 : decode cX6_copy 157 = .ok (.goto 10, 3) := by decide +kernel
theorem dX6_copy_160 : decode cX6_copy 160 = .ok (.iload 5, 2) := by decide +kernel
theorem dX6_copy_162 : decode cX6_copy 162 = .ok (.iconst 1, 1) := by decide +kernel
theorem dX6_copy_163 : decode cX6_copy 163 = .ok (.isub, 1) := by decide +kernel
theorem dX6_copy_164 : decode cX6_copy 164 = .ok (.iload 7, 2) := by decide +kernel
theorem dX6_copy_166 : decode cX6_copy 166 = .ok (.isub, 1) := by decide +kernel
theorem dX6_copy_167 : decode cX6_copy 167 = .ok (.istore 8, 2) := by decide +kernel
theorem dX6_copy_169 : decode cX6_copy 169 = .ok (.aload_n 0, 1) := by decide +kernel
theorem dX6_copy_170 : decode cX6_copy 170 = .ok (.getfield 16, 3) := by decide +kernel
theorem dX6_copy_173 : decode cX6_copy 173 = .ok (.bipush 60, 2) := by decide +kernel
theorem dX6_copy_175 : decode cX6_copy 175 = .ok (.iload_n 3, 1) := by decide +kernel
theorem dX6_copy_176 : decode cX6_copy 176 = .ok (.imul, 1) := by decide +kernel
theorem dX6_copy_177 : decode cX6_copy 177 = .ok (.iload 4, 2) := by decide +kernel
theorem dX6_copy_179 : decode cX6_copy 179 = .ok (.iadd, 1) := by decide +kernel
theorem dX6_copy_180 : decode cX6_copy 180 = .ok (.iload 8, 2) := by decide +kernel
theorem dX6_copy_182 : decode cX6_copy 182 = .ok (.iadd, 1) := by decide +kernel
theorem dX6_copy_183 : decode cX6_copy 183 = .ok (.aload_n 0, 1) := by decide +kernel
theorem dX6_copy_184 : decode cX6_copy 184 = .ok (.getfield 16, 3) := by decide +kernel
theorem dX6_copy_187 : decode cX6_copy 187 = .ok (.bipush 60, 2) := by decide +kernel
theorem dX6_copy_189 : decode cX6_copy 189 = .ok (.iload_n 1, 1) := by decide +kernel
theorem dX6_copy_190 : decode cX6_copy 190 = .ok (.imul, 1) := by decide +kernel
theorem dX6_copy_191 : decode cX6_copy 191 = .ok (.iload_n 2, 1) := by decide +kernel
theorem dX6_copy_192 : decode cX6_copy 192 = .ok (.iadd, 1) := by decide +kernel
theorem dX6_copy_193 : decode cX6_copy 193 = .ok (.iload 8, 2) := by decide +kernel
theorem dX6_copy_195 : decode cX6_copy 195 = .ok (.iadd, 1) := by decide +kernel
theorem dX6_copy_196 : decode cX6_copy 196 = .ok (.iaload, 1) := by decide +kernel
theorem dX6_copy_197 : decode cX6_copy 197 = .ok (.iastore, 1) := by decide +kernel
theorem dX6_copy_198 : decode cX6_copy 198 = .ok (.iinc 7 1, 3) := by decide +kernel
theorem dX6_copy_201 : decode cX6_copy 201 = .ok (.goto (-58), 3) := by decide +kernel
theorem dX6_copy_204 : decode cX6_copy 204 = .ok (.iload 5, 2) := by decide +kernel
theorem dX6_copy_206 : decode cX6_copy 206 = .ok (.ireturn, 1) := by decide +kernel
theorem dX6_drop_0 : decode cX6_drop 0 = .ok (.aload_n 0, 1) := by decide +kernel
theorem dX6_drop_1 : decode cX6_drop 1 = .ok (.iconst 0, 1) := by decide +kernel
theorem dX6_drop_2 : decode cX6_drop 2 = .ok (.putfield 62, 3) := by decide +kernel
theorem dX6_drop_5 : decode cX6_drop 5 = .ok (.iload_n 1, 1) := by decide +kernel
theorem dX6_drop_6 : decode cX6_drop 6 = .ok (.invokestatic 76, 3) := by decide +kernel
theorem dX6_drop_9 : decode cX6_drop 9 = .ok (.ifCond .ne 6, 3) := by decide +kernel
theorem dX6_drop_12 : decode cX6_drop 12 = .ok (.ldc 82, 2) := by decide +kernel
theorem dX6_drop_14 : decode cX6_drop 14 = .ok (.ireturn, 1) := by decide +kernel
theorem dX6_drop_15 : decode cX6_drop 15 = .ok (.aload_n 0, 1) := by decide +kernel
theorem dX6_drop_16 : decode cX6_drop 16 = .ok (.iconst 0, 1) := by decide +kernel
theorem dX6_drop_17 : decode cX6_drop 17 = .ok (.putfield 66, 3) := by decide +kernel
theorem dX6_drop_20 : decode cX6_drop 20 = .ok (.aload_n 0, 1) := by decide +kernel
theorem dX6_drop_21 : decode cX6_drop 21 = .ok (.getfield 7, 3) := by decide +kernel
theorem dX6_drop_24 : decode cX6_drop 24 = .ok (.iload_n 1, 1) := by decide +kernel
theorem dX6_drop_25 : decode cX6_drop 25 = .ok (.iaload, 1) := by decide +kernel
theorem dX6_drop_26 : decode cX6_drop 26 = .ok (.ifCond .ge 9, 3) := by decide +kernel
theorem dX6_drop_29 : decode cX6_drop 29 = .ok (.aload_n 0, 1) := by decide +kernel
theorem dX6_drop_30 : decode cX6_drop 30 = .ok (.iconst 1, 1) := by decide +kernel
theorem dX6_drop_31 : decode cX6_drop 31 = .ok (.invokevirtual 83, 3) := by decide +kernel
theorem dX6_drop_34 : decode cX6_drop 34 = .ok (.ireturn, 1) := by decide +kernel
theorem dX6_drop_35 : decode cX6_drop 35 = .ok (.aload_n 0, 1) := by decide +kernel
theorem dX6_drop_36 : decode cX6_drop 36 = .ok (.getfield 7, 3) := by decide +kernel
theorem dX6_drop_39 : decode cX6_drop 39 = .ok (.iload_n 1, 1) := by decide +kernel
theorem dX6_drop_40 : decode cX6_drop 40 = .ok (.iconst (-1), 1) := by decide +kernel
theorem dX6_drop_41 : decode cX6_drop 41 = .ok (.iastore, 1) := by decide +kernel
theorem dX6_drop_42 : decode cX6_drop 42 = .ok (.aload_n 0, 1) := by decide +kernel
theorem dX6_drop_43 : decode cX6_drop 43 = .ok (.getfield 13, 3) := by decide +kernel
theorem dX6_drop_46 : decode cX6_drop 46 = .ok (.iload_n 1, 1) := by decide +kernel
theorem dX6_drop_47 : decode cX6_drop 47 = .ok (.iaload, 1) := by decide +kernel
theorem dX6_drop_48 : decode cX6_drop 48 = .ok (.ireturn, 1) := by decide +kernel
theorem dX6_isOn_0 : decode cX6_isOn 0 = .ok (.iload_n 0, 1) := by decide +kernel
theorem dX6_isOn_1 : decode cX6_isOn 1 = .ok (.i2l, 1) := by decide +kernel
theorem dX6_isOn_2 : decode cX6_isOn 2 = .ok (.lconst 0, 1) := by decide +kernel
theorem dX6_isOn_3 : decode cX6_isOn 3 = .ok (.ldc2_w 87, 3) := by decide +kernel
theorem dX6_isOn_6 : decode cX6_isOn 6 = .ok (.invokestatic 72, 3) := by decide +kernel
theorem dX6_isOn_9 : decode cX6_isOn 9 = .ok (.ifCond .eq 19, 3) := by decide +kernel
theorem dX6_isOn_12 : decode cX6_isOn 12 = .ok (.iload_n 1, 1) := by decide +kernel
theorem dX6_isOn_13 : decode cX6_isOn 13 = .ok (.i2l, 1) := by decide +kernel
theorem dX6_isOn_14 : decode cX6_isOn 14 = .ok (.lconst 0, 1) := by decide +kernel
theorem dX6_isOn_15 : decode cX6_isOn 15 = .ok (.ldc2_w 87, 3) := by decide +kernel
theorem dX6_isOn_18 : decode cX6_isOn 18 = .ok (.invokestatic 72, 3) := by decide +kernel
theorem dX6_isOn_21 : decode cX6_isOn 21 = .ok (.ifCond .eq 7, 3) := by decide +kernel
theorem dX6_isOn_24 : decode cX6_isOn 24 = .ok (.iconst 1, 1) := by decide +kernel
theorem dX6_isOn_25 : decode cX6_isOn 25 = .ok (.goto 4, 3) := by decide +kernel
theorem dX6_isOn_28 : decode cX6_isOn 28 = .ok (.iconst 0, 1) := by decide +kernel
theorem dX6_isOn_29 : decode cX6_isOn 29 = .ok (.ireturn, 1) := by decide +kernel
theorem dX6_go_0 : decode cX6_go 0 = .ok (.iload_n 0, 1) := by decide +kernel
theorem dX6_go_1 : decode cX6_go 1 = .ok (.bipush 10, 2) := by decide +kernel
theorem dX6_go_3 : decode cX6_go 3 = .ok (.irem, 1) := by decide +kernel
theorem dX6_go_4 : decode cX6_go 4 = .ok (.iload_n 1, 1) := by decide +kernel
theorem dX6_go_5 : decode cX6_go 5 = .ok (.iconst 1, 1) := by decide +kernel
theorem dX6_go_6 : decode cX6_go 6 = .ok (.if_icmp .ne 7, 3) := by decide +kernel
theorem dX6_go_9 : decode cX6_go 9 = .ok (.iconst 1, 1) := by decide +kernel
theorem dX6_go_10 : decode cX6_go 10 = .ok (.goto 13, 3) := by decide +kernel
theorem dX6_go_13 : decode cX6_go 13 = .ok (.iload_n 1, 1) := by decide +kernel
theorem dX6_go_14 : decode cX6_go 14 = .ok (.iconst 3, 1) := by decide +kernel
theorem dX6_go_15 : decode cX6_go 15 = .ok (.if_icmp .ne 7, 3) := by decide +kernel
theorem dX6_go_18 : decode cX6_go 18 = .ok (.iconst (-1), 1) := by decide +kernel
theorem dX6_go_19 : decode cX6_go 19 = .ok (.goto 4, 3) := by decide +kernel
theorem dX6_go_22 : decode cX6_go 22 = .ok (.iconst 0, 1) := by decide +kernel
theorem dX6_go_23 : decode cX6_go 23 = .ok (.iadd, 1) := by decide +kernel
theorem dX6_go_24 : decode cX6_go 24 = .ok (.istore_n 2, 1) := by decide +kernel
theorem dX6_go_25 : decode cX6_go 25 = .ok (.iload_n 0, 1) := by decide +kernel
theorem dX6_go_26 : decode cX6_go 26 = .ok (.bipush 10, 2) := by decide +kernel
theorem dX6_go_28 : decode cX6_go 28 = .ok (.idiv, 1) := by decide +kernel
theorem dX6_go_29 : decode cX6_go 29 = .ok (.iload_n 1, 1) := by decide +kernel
theorem dX6_go_30 : decode cX6_go 30 = .ok (.iconst 2, 1) := by decide +kernel
theorem dX6_go_31 : decode cX6_go 31 = .ok (.if_icmp .ne 7, 3) := by decide +kernel
theorem dX6_go_34 : decode cX6_go 34 = .ok (.iconst 1, 1) := by decide +kernel
theorem dX6_go_35 : decode cX6_go 35 = .ok (.goto 12, 3) := by decide +kernel
theorem dX6_go_38 : decode cX6_go 38 = .ok (.iload_n 1, 1) := by decide +kernel
theorem dX6_go_39 : decode cX6_go 39 = .ok (.ifCond .ne 7, 3) := by decide +kernel
theorem dX6_go_42 : decode cX6_go 42 = .ok (.iconst (-1), 1) := by decide +kernel
theorem dX6_go_43 : decode cX6_go 43 = .ok (.goto 4, 3) := by decide +kernel
theorem dX6_go_46 : decode cX6_go 46 = .ok (.iconst 0, 1) := by decide +kernel
theorem dX6_go_47 : decode cX6_go 47 = .ok (.iadd, 1) := by decide +kernel
theorem dX6_go_48 : decode cX6_go 48 = .ok (.istore_n 3, 1) := by decide +kernel
theorem dX6_go_49 : decode cX6_go 49 = .ok (.iload_n 2, 1) := by decide +kernel
theorem dX6_go_50 : decode cX6_go 50 = .ok (.iload_n 3, 1) := by decide +kernel
theorem dX6_go_51 : decode cX6_go 51 = .ok (.invokestatic 89, 3) := by decide +kernel
theorem dX6_go_54 : decode cX6_go 54 = .ok (.ifCond .eq 12, 3) := by decide +kernel
theorem dX6_go_57 : decode cX6_go 57 = .ok (.bipush 10, 2) := by decide +kernel
theorem dX6_go_59 : decode cX6_go 59 = .ok (.iload_n 3, 1) := by decide +kernel
theorem dX6_go_60 : decode cX6_go 60 = .ok (.imul, 1) := by decide +kernel
theorem dX6_go_61 : decode cX6_go 61 = .ok (.iload_n 2, 1) := by decide +kernel
theorem dX6_go_62 : decode cX6_go 62 = .ok (.iadd, 1) := by decide +kernel
theorem dX6_go_63 : decode cX6_go 63 = .ok (.goto 5, 3) := by decide +kernel
theorem dX6_go_66 : decode cX6_go 66 = .ok (.ldc 93, 2) := by decide +kernel
theorem dX6_go_68 : decode cX6_go 68 = .ok (.ireturn, 1) := by decide +kernel
theorem dX6_side_0 : decode cX6_side 0 = .ok (.iload_n 0, 1) := by decide +kernel
theorem dX6_side_1 : decode cX6_side 1 = .ok (.bipush 10, 2) := by decide +kernel
theorem dX6_side_3 : decode cX6_side 3 = .ok (.irem, 1) := by decide +kernel
theorem dX6_side_4 : decode cX6_side 4 = .ok (.istore_n 2, 1) := by decide +kernel
theorem dX6_side_5 : decode cX6_side 5 = .ok (.iload_n 0, 1) := by decide +kernel
theorem dX6_side_6 : decode cX6_side 6 = .ok (.bipush 10, 2) := by decide +kernel
theorem dX6_side_8 : decode cX6_side 8 = .ok (.idiv, 1) := by decide +kernel
theorem dX6_side_9 : decode cX6_side 9 = .ok (.istore_n 3, 1) := by decide +kernel
theorem dX6_side_10 : decode cX6_side 10 = .ok (.iload_n 1, 1) := by decide +kernel
theorem dX6_side_11 : decode cX6_side 11 = .ok (.iconst 1, 1) := by decide +kernel
theorem dX6_side_12 : decode cX6_side 12 = .ok (.if_icmp .ne 12, 3) := by decide +kernel
theorem dX6_side_15 : decode cX6_side 15 = .ok (.bipush 9, 2) := by decide +kernel
theorem dX6_side_17 : decode cX6_side 17 = .ok (.iload_n 3, 1) := by decide +kernel
theorem dX6_side_18 : decode cX6_side 18 = .ok (.imul, 1) := by decide +kernel
theorem dX6_side_19 : decode cX6_side 19 = .ok (.iload_n 2, 1) := by decide +kernel
theorem dX6_side_20 : decode cX6_side 20 = .ok (.iadd, 1) := by decide +kernel
theorem dX6_side_21 : decode cX6_side 21 = .ok (.goto 47, 3) := by decide +kernel
theorem dX6_side_24 : decode cX6_side 24 = .ok (.iload_n 1, 1) := by decide +kernel
theorem dX6_side_25 : decode cX6_side 25 = .ok (.iconst 3, 1) := by decide +kernel
theorem dX6_side_26 : decode cX6_side 26 = .ok (.if_icmp .ne 14, 3) := by decide +kernel
theorem dX6_side_29 : decode cX6_side 29 = .ok (.bipush 9, 2) := by decide +kernel
theorem dX6_side_31 : decode cX6_side 31 = .ok (.iload_n 3, 1) := by decide +kernel
theorem dX6_side_32 : decode cX6_side 32 = .ok (.imul, 1) := by decide +kernel
theorem dX6_side_33 : decode cX6_side 33 = .ok (.iload_n 2, 1) := by decide +kernel
theorem dX6_side_34 : decode cX6_side 34 = .ok (.iadd, 1) := by decide +kernel
theorem dX6_side_35 : decode cX6_side 35 = .ok (.iconst 1, 1) := by decide +kernel
theorem dX6_side_36 : decode cX6_side 36 = .ok (.isub, 1) := by decide +kernel
theorem dX6_side_37 : decode cX6_side 37 = .ok (.goto 31, 3) := by decide +kernel
theorem dX6_side_40 : decode cX6_side 40 = .ok (.iload_n 1, 1) := by decide +kernel
theorem dX6_side_41 : decode cX6_side 41 = .ok (.iconst 2, 1) := by decide +kernel
theorem dX6_side_42 : decode cX6_side 42 = .ok (.if_icmp .ne 15, 3) := by decide +kernel
theorem dX6_side_45 : decode cX6_side 45 = .ok (.bipush 90, 2) := by decide +kernel
theorem dX6_side_47 : decode cX6_side 47 = .ok (.bipush 10, 2) := by decide +kernel
theorem dX6_side_49 : decode cX6_side 49 = .ok (.iload_n 3, 1) := by decide +kernel
theorem dX6_side_50 : decode cX6_side 50 = .ok (.imul, 1) := by decide +kernel
theorem dX6_side_51 : decode cX6_side 51 = .ok (.iadd, 1) := by decide +kernel
theorem dX6_side_52 : decode cX6_side 52 = .ok (.iload_n 2, 1) := by decide +kernel
theorem dX6_side_53 : decode cX6_side 53 = .ok (.iadd, 1) := by decide +kernel
theorem dX6_side_54 : decode cX6_side 54 = .ok (.goto 14, 3) := by decide +kernel
theorem dX6_side_57 : decode cX6_side 57 = .ok (.bipush 90, 2) := by decide +kernel
theorem dX6_side_59 : decode cX6_side 59 = .ok (.bipush 10, 2) := by decide +kernel
theorem dX6_side_61 : decode cX6_side 61 = .ok (.iload_n 3, 1) := by decide +kernel
theorem dX6_side_62 : decode cX6_side 62 = .ok (.iconst 1, 1) := by decide +kernel
theorem dX6_side_63 : decode cX6_side 63 = .ok (.isub, 1) := by decide +kernel
theorem dX6_side_64 : decode cX6_side 64 = .ok (.imul, 1) := by decide +kernel
theorem dX6_side_65 : decode cX6_side 65 = .ok (.iadd, 1) := by decide +kernel
theorem dX6_side_66 : decode cX6_side 66 = .ok (.iload_n 2, 1) := by decide +kernel
theorem dX6_side_67 : decode cX6_side 67 = .ok (.iadd, 1) := by decide +kernel
theorem dX6_side_68 : decode cX6_side 68 = .ok (.ireturn, 1) := by decide +kernel
theorem dX6_pointOn_0 : decode cX6_pointOn 0 = .ok (.ldc 93, 2) := by decide +kernel
theorem dX6_pointOn_2 : decode cX6_pointOn 2 = .ok (.istore_n 2, 1) := by decide +kernel
theorem dX6_pointOn_3 : decode cX6_pointOn 3 = .ok (.iconst 0, 1) := by decide +kernel
theorem dX6_pointOn_4 : decode cX6_pointOn 4 = .ok (.istore_n 3, 1) := by decide +kernel
theorem dX6_pointOn_5 : decode cX6_pointOn 5 = .ok (.iload_n 3, 1) := by decide +kernel
theorem dX6_pointOn_6 : decode cX6_pointOn 6 = .ok (.aload_n 0, 1) := by decide +kernel
theorem dX6_pointOn_7 : decode cX6_pointOn 7 = .ok (.getfield 94, 3) := by decide +kernel
theorem dX6_pointOn_10 : decode cX6_pointOn 10 = .ok (.if_icmp .ge 25, 3) := by decide +kernel
theorem dX6_pointOn_13 : decode cX6_pointOn 13 = .ok (.aload_n 0, 1) := by decide +kernel
theorem dX6_pointOn_14 : decode cX6_pointOn 14 = .ok (.getfield 23, 3) := by decide +kernel
theorem dX6_pointOn_17 : decode cX6_pointOn 17 = .ok (.iload_n 3, 1) := by decide +kernel
theorem dX6_pointOn_18 : decode cX6_pointOn 18 = .ok (.iaload, 1) := by decide +kernel
theorem dX6_pointOn_19 : decode cX6_pointOn 19 = .ok (.iload_n 1, 1) := by decide +kernel
theorem dX6_pointOn_20 : decode cX6_pointOn 20 = .ok (.if_icmp .ne 7, 3) := by decide +kernel
theorem dX6_pointOn_23 : decode cX6_pointOn 23 = .ok (.iload_n 3, 1) := by decide +kernel
theorem dX6_pointOn_24 : decode cX6_pointOn 24 = .ok (.goto 4, 3) := by decide +kernel
theorem dX6_pointOn_27 : decode cX6_pointOn 27 = .ok (.iload_n 2, 1) := by decide +kernel
theorem dX6_pointOn_28 : decode cX6_pointOn 28 = .ok (.istore_n 2, 1) := by decide +kernel
theorem dX6_pointOn_29 : decode cX6_pointOn 29 = .ok (.iinc 3 1, 3) := by decide +kernel
theorem dX6_pointOn_32 : decode cX6_pointOn 32 = .ok (.goto (-27), 3) := by decide +kernel
theorem dX6_pointOn_35 : decode cX6_pointOn 35 = .ok (.iload_n 2, 1) := by decide +kernel
theorem dX6_pointOn_36 : decode cX6_pointOn 36 = .ok (.ireturn, 1) := by decide +kernel
theorem dX6_point_0 : decode cX6_point 0 = .ok (.aload_n 0, 1) := by decide +kernel
theorem dX6_point_1 : decode cX6_point 1 = .ok (.iconst 0, 1) := by decide +kernel
theorem dX6_point_2 : decode cX6_point 2 = .ok (.putfield 62, 3) := by decide +kernel
theorem dX6_point_5 : decode cX6_point 5 = .ok (.iload_n 1, 1) := by decide +kernel
theorem dX6_point_6 : decode cX6_point 6 = .ok (.iload_n 2, 1) := by decide +kernel
theorem dX6_point_7 : decode cX6_point 7 = .ok (.invokestatic 89, 3) := by decide +kernel
theorem dX6_point_10 : decode cX6_point 10 = .ok (.ifCond .ne 6, 3) := by decide +kernel
theorem dX6_point_13 : decode cX6_point 13 = .ok (.ldc 82, 2) := by decide +kernel
theorem dX6_point_15 : decode cX6_point 15 = .ok (.ireturn, 1) := by decide +kernel
theorem dX6_point_16 : decode cX6_point 16 = .ok (.bipush 10, 2) := by decide +kernel
theorem dX6_point_18 : decode cX6_point 18 = .ok (.iload_n 2, 1) := by decide +kernel
theorem dX6_point_19 : decode cX6_point 19 = .ok (.imul, 1) := by decide +kernel
theorem dX6_point_20 : decode cX6_point 20 = .ok (.iload_n 1, 1) := by decide +kernel
theorem dX6_point_21 : decode cX6_point 21 = .ok (.iadd, 1) := by decide +kernel
theorem dX6_point_22 : decode cX6_point 22 = .ok (.istore_n 3, 1) := by decide +kernel
theorem dX6_point_23 : decode cX6_point 23 = .ok (.aload_n 0, 1) := by decide +kernel
theorem dX6_point_24 : decode cX6_point 24 = .ok (.getfield 19, 3) := by decide +kernel
theorem dX6_point_27 : decode cX6_point 27 = .ok (.iload_n 3, 1) := by decide +kernel
theorem dX6_point_28 : decode cX6_point 28 = .ok (.baload, 1) := by decide +kernel
theorem dX6_point_29 : decode cX6_point 29 = .ok (.ifCond .ne 13, 3) := by decide +kernel
theorem dX6_point_32 : decode cX6_point 32 = .ok (.aload_n 0, 1) := by decide +kernel
theorem dX6_point_33 : decode cX6_point 33 = .ok (.iload_n 3, 1) := by decide +kernel
theorem dX6_point_34 : decode cX6_point 34 = .ok (.invokevirtual 97, 3) := by decide +kernel
theorem dX6_point_37 : decode cX6_point 37 = .ok (.ldc 93, 2) := by decide +kernel
theorem dX6_point_39 : decode cX6_point 39 = .ok (.if_icmp .eq 6, 3) := by decide +kernel
theorem dX6_point_42 : decode cX6_point 42 = .ok (.ldc 100, 2) := by decide +kernel
theorem dX6_point_44 : decode cX6_point 44 = .ok (.ireturn, 1) := by decide +kernel
theorem dX6_point_45 : decode cX6_point 45 = .ok (.aload_n 0, 1) := by decide +kernel
theorem dX6_point_46 : decode cX6_point 46 = .ok (.getfield 94, 3) := by decide +kernel
theorem dX6_point_49 : decode cX6_point 49 = .ok (.bipush 12, 2) := by decide +kernel
theorem dX6_point_51 : decode cX6_point 51 = .ok (.if_icmp .ne 6, 3) := by decide +kernel
theorem dX6_point_54 : decode cX6_point 54 = .ok (.ldc 101, 2) := by decide +kernel
theorem dX6_point_56 : decode cX6_point 56 = .ok (.ireturn, 1) := by decide +kernel
theorem dX6_point_57 : decode cX6_point 57 = .ok (.aload_n 0, 1) := by decide +kernel
theorem dX6_point_58 : decode cX6_point 58 = .ok (.getfield 23, 3) := by decide +kernel
theorem dX6_point_61 : decode cX6_point 61 = .ok (.aload_n 0, 1) := by decide +kernel
theorem dX6_point_62 : decode cX6_point 62 = .ok (.getfield 94, 3) := by decide +kernel
theorem dX6_point_65 : decode cX6_point 65 = .ok (.iload_n 3, 1) := by decide +kernel
theorem dX6_point_66 : decode cX6_point 66 = .ok (.iastore, 1) := by decide +kernel
theorem dX6_point_67 : decode cX6_point 67 = .ok (.aload_n 0, 1) := by decide +kernel
theorem dX6_point_68 : decode cX6_point 68 = .ok (.dup, 1) := by decide +kernel
theorem dX6_point_69 : decode cX6_point 69 = .ok (.getfield 94, 3) := by decide +kernel
theorem dX6_point_72 : decode cX6_point 72 = .ok (.iconst 1, 1) := by decide +kernel
theorem dX6_point_73 : decode cX6_point 73 = .ok (.iadd, 1) := by decide +kernel
theorem dX6_point_74 : decode cX6_point 74 = .ok (.putfield 94, 3) := by decide +kernel
theorem dX6_point_77 : decode cX6_point 77 = .ok (.aload_n 0, 1) := by decide +kernel
theorem dX6_point_78 : decode cX6_point 78 = .ok (.getfield 94, 3) := by decide +kernel
theorem dX6_point_81 : decode cX6_point 81 = .ok (.iconst 1, 1) := by decide +kernel
theorem dX6_point_82 : decode cX6_point 82 = .ok (.isub, 1) := by decide +kernel
theorem dX6_point_83 : decode cX6_point 83 = .ok (.ireturn, 1) := by decide +kernel
theorem dX6_widthOf_0 : decode cX6_widthOf 0 = .ok (.iconst 0, 1) := by decide +kernel
theorem dX6_widthOf_1 : decode cX6_widthOf 1 = .ok (.istore_n 2, 1) := by decide +kernel
theorem dX6_widthOf_2 : decode cX6_widthOf 2 = .ok (.iconst 0, 1) := by decide +kernel
theorem dX6_widthOf_3 : decode cX6_widthOf 3 = .ok (.istore_n 3, 1) := by decide +kernel
theorem dX6_widthOf_4 : decode cX6_widthOf 4 = .ok (.iload_n 3, 1) := by decide +kernel
theorem dX6_widthOf_5 : decode cX6_widthOf 5 = .ok (.aload_n 0, 1) := by decide +kernel
theorem dX6_widthOf_6 : decode cX6_widthOf 6 = .ok (.getfield 102, 3) := by decide +kernel
theorem dX6_widthOf_9 : decode cX6_widthOf 9 = .ok (.if_icmp .ge 32, 3) := by decide +kernel
theorem dX6_widthOf_12 : decode cX6_widthOf 12 = .ok (.iload_n 2, 1) := by decide +kernel
theorem dX6_widthOf_13 : decode cX6_widthOf 13 = .ok (.aload_n 0, 1) := by decide +kernel
theorem dX6_widthOf_14 : decode cX6_widthOf 14 = .ok (.getfield 38, 3) := by decide +kernel
theorem dX6_widthOf_17 : decode cX6_widthOf 17 = .ok (.sipush 180, 3) := by decide +kernel
theorem dX6_widthOf_20 : decode cX6_widthOf 20 = .ok (.iload_n 3, 1) := by decide +kernel
theorem dX6_widthOf_21 : decode cX6_widthOf 21 = .ok (.imul, 1) := by decide +kernel
theorem dX6_widthOf_22 : decode cX6_widthOf 22 = .ok (.iload_n 1, 1) := by decide +kernel
theorem dX6_widthOf_23 : decode cX6_widthOf 23 = .ok (.iadd, 1) := by decide +kernel
theorem dX6_widthOf_24 : decode cX6_widthOf 24 = .ok (.baload, 1) := by decide +kernel
theorem dX6_widthOf_25 : decode cX6_widthOf 25 = .ok (.ifCond .eq 7, 3) := by decide +kernel
theorem dX6_widthOf_28 : decode cX6_widthOf 28 = .ok (.iconst 1, 1) := by decide +kernel
theorem dX6_widthOf_29 : decode cX6_widthOf 29 = .ok (.goto 4, 3) := by decide +kernel
theorem dX6_widthOf_32 : decode cX6_widthOf 32 = .ok (.iconst 0, 1) := by decide +kernel
theorem dX6_widthOf_33 : decode cX6_widthOf 33 = .ok (.iadd, 1) := by decide +kernel
theorem dX6_widthOf_34 : decode cX6_widthOf 34 = .ok (.istore_n 2, 1) := by decide +kernel
theorem dX6_widthOf_35 : decode cX6_widthOf 35 = .ok (.iinc 3 1, 3) := by decide +kernel
theorem dX6_widthOf_38 : decode cX6_widthOf 38 = .ok (.goto (-34), 3) := by decide +kernel
theorem dX6_widthOf_41 : decode cX6_widthOf 41 = .ok (.iload_n 2, 1) := by decide +kernel
theorem dX6_widthOf_42 : decode cX6_widthOf 42 = .ok (.ireturn, 1) := by decide +kernel
theorem dX6_isOfWay_0 : decode cX6_isOfWay 0 = .ok (.iconst 0, 1) := by decide +kernel
theorem dX6_isOfWay_1 : decode cX6_isOfWay 1 = .ok (.istore_n 2, 1) := by decide +kernel
theorem dX6_isOfWay_2 : decode cX6_isOfWay 2 = .ok (.iconst 0, 1) := by decide +kernel
theorem dX6_isOfWay_3 : decode cX6_isOfWay 3 = .ok (.istore_n 3, 1) := by decide +kernel
theorem dX6_isOfWay_4 : decode cX6_isOfWay 4 = .ok (.iload_n 3, 1) := by decide +kernel
theorem dX6_isOfWay_5 : decode cX6_isOfWay 5 = .ok (.iconst 4, 1) := by decide +kernel
theorem dX6_isOfWay_6 : decode cX6_isOfWay 6 = .ok (.if_icmp .ge 41, 3) := by decide +kernel
theorem dX6_isOfWay_9 : decode cX6_isOfWay 9 = .ok (.iload_n 2, 1) := by decide +kernel
theorem dX6_isOfWay_10 : decode cX6_isOfWay 10 = .ok (.ifCond .ne 25, 3) := by decide +kernel
theorem dX6_isOfWay_13 : decode cX6_isOfWay 13 = .ok (.iload_n 1, 1) := by decide +kernel
theorem dX6_isOfWay_14 : decode cX6_isOfWay 14 = .ok (.iload_n 3, 1) := by decide +kernel
theorem dX6_isOfWay_15 : decode cX6_isOfWay 15 = .ok (.invokestatic 105, 3) := by decide +kernel
theorem dX6_isOfWay_18 : decode cX6_isOfWay 18 = .ok (.ldc 93, 2) := by decide +kernel
theorem dX6_isOfWay_20 : decode cX6_isOfWay 20 = .ok (.if_icmp .eq 19, 3) := by decide +kernel
theorem dX6_isOfWay_23 : decode cX6_isOfWay 23 = .ok (.aload_n 0, 1) := by decide +kernel
theorem dX6_isOfWay_24 : decode cX6_isOfWay 24 = .ok (.iload_n 1, 1) := by decide +kernel
theorem dX6_isOfWay_25 : decode cX6_isOfWay 25 = .ok (.iload_n 3, 1) := by decide +kernel
theorem dX6_isOfWay_26 : decode cX6_isOfWay 26 = .ok (.invokestatic 109, 3) := by decide +kernel
theorem dX6_isOfWay_29 : decode cX6_isOfWay 29 = .ok (.invokevirtual 112, 3) := by decide +kernel
theorem dX6_isOfWay_32 : decode cX6_isOfWay 32 = .ok (.ifCond .le 7, 3) := by decide +kernel
theorem dX6_isOfWay_35 : decode cX6_isOfWay 35 = .ok (.iconst 1, 1) := by decide +kernel
theorem dX6_isOfWay_36 : decode cX6_isOfWay 36 = .ok (.goto 4, 3) := by decide +kernel
theorem dX6_isOfWay_39 : decode cX6_isOfWay 39 = .ok (.iconst 0, 1) := by decide +kernel
theorem dX6_isOfWay_40 : decode cX6_isOfWay 40 = .ok (.istore_n 2, 1) := by decide +kernel
theorem dX6_isOfWay_41 : decode cX6_isOfWay 41 = .ok (.iinc 3 1, 3) := by decide +kernel
theorem dX6_isOfWay_44 : decode cX6_isOfWay 44 = .ok (.goto (-40), 3) := by decide +kernel
theorem dX6_isOfWay_47 : decode cX6_isOfWay 47 = .ok (.iload_n 2, 1) := by decide +kernel
theorem dX6_isOfWay_48 : decode cX6_isOfWay 48 = .ok (.ireturn, 1) := by decide +kernel
theorem dX6_shut_0 : decode cX6_shut 0 = .ok (.aload_n 0, 1) := by decide +kernel
theorem dX6_shut_1 : decode cX6_shut 1 = .ok (.iconst 0, 1) := by decide +kernel
theorem dX6_shut_2 : decode cX6_shut 2 = .ok (.putfield 62, 3) := by decide +kernel
theorem dX6_shut_5 : decode cX6_shut 5 = .ok (.iload_n 1, 1) := by decide +kernel
theorem dX6_shut_6 : decode cX6_shut 6 = .ok (.iload_n 2, 1) := by decide +kernel
theorem dX6_shut_7 : decode cX6_shut 7 = .ok (.invokestatic 89, 3) := by decide +kernel
theorem dX6_shut_10 : decode cX6_shut 10 = .ok (.ifCond .ne 6, 3) := by decide +kernel
theorem dX6_shut_13 : decode cX6_shut 13 = .ok (.ldc 82, 2) := by decide +kernel
theorem dX6_shut_15 : decode cX6_shut 15 = .ok (.ireturn, 1) := by decide +kernel
theorem dX6_shut_16 : decode cX6_shut 16 = .ok (.bipush 10, 2) := by decide +kernel
theorem dX6_shut_18 : decode cX6_shut 18 = .ok (.iload_n 2, 1) := by decide +kernel
theorem dX6_shut_19 : decode cX6_shut 19 = .ok (.imul, 1) := by decide +kernel
theorem dX6_shut_20 : decode cX6_shut 20 = .ok (.iload_n 1, 1) := by decide +kernel
theorem dX6_shut_21 : decode cX6_shut 21 = .ok (.iadd, 1) := by decide +kernel
theorem dX6_shut_22 : decode cX6_shut 22 = .ok (.istore_n 3, 1) := by decide +kernel
theorem dX6_shut_23 : decode cX6_shut 23 = .ok (.aload_n 0, 1) := by decide +kernel
theorem dX6_shut_24 : decode cX6_shut 24 = .ok (.getfield 19, 3) := by decide +kernel
theorem dX6_shut_27 : decode cX6_shut 27 = .ok (.iload_n 3, 1) := by decide +kernel
theorem dX6_shut_28 : decode cX6_shut 28 = .ok (.baload, 1) := by decide +kernel
theorem dX6_shut_29 : decode cX6_shut 29 = .ok (.ifCond .eq 5, 3) := by decide +kernel
theorem dX6_shut_32 : decode cX6_shut 32 = .ok (.iconst 0, 1) := by decide +kernel
theorem dX6_shut_33 : decode cX6_shut 33 = .ok (.ireturn, 1) := by decide +kernel
theorem dX6_shut_34 : decode cX6_shut 34 = .ok (.aload_n 0, 1) := by decide +kernel
theorem dX6_shut_35 : decode cX6_shut 35 = .ok (.iload_n 3, 1) := by decide +kernel
theorem dX6_shut_36 : decode cX6_shut 36 = .ok (.invokevirtual 97, 3) := by decide +kernel
theorem dX6_shut_39 : decode cX6_shut 39 = .ok (.ldc 93, 2) := by decide +kernel
theorem dX6_shut_41 : decode cX6_shut 41 = .ok (.if_icmp .ne 11, 3) := by decide +kernel
theorem dX6_shut_44 : decode cX6_shut 44 = .ok (.aload_n 0, 1) := by decide +kernel
theorem dX6_shut_45 : decode cX6_shut 45 = .ok (.iload_n 3, 1) := by decide +kernel
theorem dX6_shut_46 : decode cX6_shut 46 = .ok (.invokevirtual 115, 3) := by decide +kernel
theorem dX6_shut_49 : decode cX6_shut 49 = .ok (.ifCond .eq 6, 3) := by decide +kernel
theorem dX6_shut_52 : decode cX6_shut 52 = .ok (.ldc 100, 2) := by decide +kernel
theorem dX6_shut_54 : decode cX6_shut 54 = .ok (.ireturn, 1) := by decide +kernel
theorem dX6_shut_55 : decode cX6_shut 55 = .ok (.aload_n 0, 1) := by decide +kernel
theorem dX6_shut_56 : decode cX6_shut 56 = .ok (.getfield 19, 3) := by decide +kernel
theorem dX6_shut_59 : decode cX6_shut 59 = .ok (.iload_n 3, 1) := by decide +kernel
theorem dX6_shut_60 : decode cX6_shut 60 = .ok (.iconst 1, 1) := by decide +kernel
theorem dX6_shut_61 : decode cX6_shut 61 = .ok (.bastore, 1) := by decide +kernel
theorem dX6_shut_62 : decode cX6_shut 62 = .ok (.iconst 1, 1) := by decide +kernel
theorem dX6_shut_63 : decode cX6_shut 63 = .ok (.ireturn, 1) := by decide +kernel
theorem dX6_open_0 : decode cX6_open 0 = .ok (.aload_n 0, 1) := by decide +kernel
theorem dX6_open_1 : decode cX6_open 1 = .ok (.iconst 0, 1) := by decide +kernel
theorem dX6_open_2 : decode cX6_open 2 = .ok (.putfield 62, 3) := by decide +kernel
theorem dX6_open_5 : decode cX6_open 5 = .ok (.iload_n 1, 1) := by decide +kernel
theorem dX6_open_6 : decode cX6_open 6 = .ok (.iload_n 2, 1) := by decide +kernel
theorem dX6_open_7 : decode cX6_open 7 = .ok (.invokestatic 89, 3) := by decide +kernel
theorem dX6_open_10 : decode cX6_open 10 = .ok (.ifCond .ne 6, 3) := by decide +kernel
theorem dX6_open_13 : decode cX6_open 13 = .ok (.ldc 82, 2) := by decide +kernel
theorem dX6_open_15 : decode cX6_open 15 = .ok (.ireturn, 1) := by decide +kernel
theorem dX6_open_16 : decode cX6_open 16 = .ok (.aload_n 0, 1) := by decide +kernel
theorem dX6_open_17 : decode cX6_open 17 = .ok (.getfield 19, 3) := by decide +kernel
theorem dX6_open_20 : decode cX6_open 20 = .ok (.bipush 10, 2) := by decide +kernel
theorem dX6_open_22 : decode cX6_open 22 = .ok (.iload_n 2, 1) := by decide +kernel
theorem dX6_open_23 : decode cX6_open 23 = .ok (.imul, 1) := by decide +kernel
theorem dX6_open_24 : decode cX6_open 24 = .ok (.iload_n 1, 1) := by decide +kernel
theorem dX6_open_25 : decode cX6_open 25 = .ok (.iadd, 1) := by decide +kernel
theorem dX6_open_26 : decode cX6_open 26 = .ok (.baload, 1) := by decide +kernel
theorem dX6_open_27 : decode cX6_open 27 = .ok (.istore_n 3, 1) := by decide +kernel
theorem dX6_open_28 : decode cX6_open 28 = .ok (.aload_n 0, 1) := by decide +kernel
theorem dX6_open_29 : decode cX6_open 29 = .ok (.getfield 19, 3) := by decide +kernel
theorem dX6_open_32 : decode cX6_open 32 = .ok (.bipush 10, 2) := by decide +kernel
theorem dX6_open_34 : decode cX6_open 34 = .ok (.iload_n 2, 1) := by decide +kernel
theorem dX6_open_35 : decode cX6_open 35 = .ok (.imul, 1) := by decide +kernel
theorem dX6_open_36 : decode cX6_open 36 = .ok (.iload_n 1, 1) := by decide +kernel
theorem dX6_open_37 : decode cX6_open 37 = .ok (.iadd, 1) := by decide +kernel
theorem dX6_open_38 : decode cX6_open 38 = .ok (.iconst 0, 1) := by decide +kernel
theorem dX6_open_39 : decode cX6_open 39 = .ok (.bastore, 1) := by decide +kernel
theorem dX6_open_40 : decode cX6_open 40 = .ok (.iload_n 3, 1) := by decide +kernel
theorem dX6_open_41 : decode cX6_open 41 = .ok (.ifCond .eq 7, 3) := by decide +kernel
theorem dX6_open_44 : decode cX6_open 44 = .ok (.iconst 1, 1) := by decide +kernel
theorem dX6_open_45 : decode cX6_open 45 = .ok (.goto 4, 3) := by decide +kernel
theorem dX6_open_48 : decode cX6_open 48 = .ok (.iconst 0, 1) := by decide +kernel
theorem dX6_open_49 : decode cX6_open 49 = .ok (.ireturn, 1) := by decide +kernel
theorem dX6_isPoint_0 : decode cX6_isPoint 0 = .ok (.iload_n 1, 1) := by decide +kernel
theorem dX6_isPoint_1 : decode cX6_isPoint 1 = .ok (.i2l, 1) := by decide +kernel
theorem dX6_isPoint_2 : decode cX6_isPoint 2 = .ok (.lconst 0, 1) := by decide +kernel
theorem dX6_isPoint_3 : decode cX6_isPoint 3 = .ok (.aload_n 0, 1) := by decide +kernel
theorem dX6_isPoint_4 : decode cX6_isPoint 4 = .ok (.getfield 94, 3) := by decide +kernel
theorem dX6_isPoint_7 : decode cX6_isPoint 7 = .ok (.iconst 1, 1) := by decide +kernel
theorem dX6_isPoint_8 : decode cX6_isPoint 8 = .ok (.isub, 1) := by decide +kernel
theorem dX6_isPoint_9 : decode cX6_isPoint 9 = .ok (.i2l, 1) := by decide +kernel
theorem dX6_isPoint_10 : decode cX6_isPoint 10 = .ok (.invokestatic 72, 3) := by decide +kernel
theorem dX6_isPoint_13 : decode cX6_isPoint 13 = .ok (.ireturn, 1) := by decide +kernel
theorem dX6_isLine_0 : decode cX6_isLine 0 = .ok (.iload_n 1, 1) := by decide +kernel
theorem dX6_isLine_1 : decode cX6_isLine 1 = .ok (.i2l, 1) := by decide +kernel
theorem dX6_isLine_2 : decode cX6_isLine 2 = .ok (.lconst 0, 1) := by decide +kernel
theorem dX6_isLine_3 : decode cX6_isLine 3 = .ok (.aload_n 0, 1) := by decide +kernel
theorem dX6_isLine_4 : decode cX6_isLine 4 = .ok (.getfield 102, 3) := by decide +kernel
theorem dX6_isLine_7 : decode cX6_isLine 7 = .ok (.iconst 1, 1) := by decide +kernel
theorem dX6_isLine_8 : decode cX6_isLine 8 = .ok (.isub, 1) := by decide +kernel
theorem dX6_isLine_9 : decode cX6_isLine 9 = .ok (.i2l, 1) := by decide +kernel
theorem dX6_isLine_10 : decode cX6_isLine 10 = .ok (.invokestatic 72, 3) := by decide +kernel
theorem dX6_isLine_13 : decode cX6_isLine 13 = .ok (.ireturn, 1) := by decide +kernel
theorem dX6_line_0 : decode cX6_line 0 = .ok (.aload_n 0, 1) := by decide +kernel
theorem dX6_line_1 : decode cX6_line 1 = .ok (.iconst 0, 1) := by decide +kernel
theorem dX6_line_2 : decode cX6_line 2 = .ok (.putfield 62, 3) := by decide +kernel
theorem dX6_line_5 : decode cX6_line 5 = .ok (.aload_n 0, 1) := by decide +kernel
theorem dX6_line_6 : decode cX6_line 6 = .ok (.iload_n 1, 1) := by decide +kernel
theorem dX6_line_7 : decode cX6_line 7 = .ok (.invokevirtual 118, 3) := by decide +kernel
theorem dX6_line_10 : decode cX6_line 10 = .ok (.ifCond .eq 16, 3) := by decide +kernel
theorem dX6_line_13 : decode cX6_line 13 = .ok (.aload_n 0, 1) := by decide +kernel
theorem dX6_line_14 : decode cX6_line 14 = .ok (.iload_n 2, 1) := by decide +kernel
theorem dX6_line_15 : decode cX6_line 15 = .ok (.invokevirtual 118, 3) := by decide +kernel
theorem dX6_line_18 : decode cX6_line 18 = .ok (.ifCond .eq 8, 3) := by decide +kernel
theorem dX6_line_21 : decode cX6_line 21 = .ok (.iload_n 1, 1) := by decide +kernel
theorem dX6_line_22 : decode cX6_line 22 = .ok (.iload_n 2, 1) := by decide +kernel
theorem dX6_line_23 : decode cX6_line 23 = .ok (.if_icmp .ne 6, 3) := by decide +kernel
theorem dX6_line_26 : decode cX6_line 26 = .ok (.ldc 82, 2) := by decide +kernel
theorem dX6_line_28 : decode cX6_line 28 = .ok (.ireturn, 1) := by decide +kernel
theorem dX6_line_29 : decode cX6_line 29 = .ok (.aload_n 0, 1) := by decide +kernel
theorem dX6_line_30 : decode cX6_line 30 = .ok (.getfield 102, 3) := by decide +kernel
theorem dX6_line_33 : decode cX6_line 33 = .ok (.bipush 12, 2) := by decide +kernel
theorem dX6_line_35 : decode cX6_line 35 = .ok (.if_icmp .ne 6, 3) := by decide +kernel
theorem dX6_line_38 : decode cX6_line 38 = .ok (.ldc 101, 2) := by decide +kernel
theorem dX6_line_40 : decode cX6_line 40 = .ok (.ireturn, 1) := by decide +kernel
theorem dX6_line_41 : decode cX6_line 41 = .ok (.aload_n 0, 1) := by decide +kernel
theorem dX6_line_42 : decode cX6_line 42 = .ok (.getfield 26, 3) := by decide +kernel
theorem dX6_line_45 : decode cX6_line 45 = .ok (.aload_n 0, 1) := by decide +kernel
theorem dX6_line_46 : decode cX6_line 46 = .ok (.getfield 102, 3) := by decide +kernel
theorem dX6_line_49 : decode cX6_line 49 = .ok (.iload_n 1, 1) := by decide +kernel
theorem dX6_line_50 : decode cX6_line 50 = .ok (.iastore, 1) := by decide +kernel
theorem dX6_line_51 : decode cX6_line 51 = .ok (.aload_n 0, 1) := by decide +kernel
theorem dX6_line_52 : decode cX6_line 52 = .ok (.getfield 29, 3) := by decide +kernel
theorem dX6_line_55 : decode cX6_line 55 = .ok (.aload_n 0, 1) := by decide +kernel
theorem dX6_line_56 : decode cX6_line 56 = .ok (.getfield 102, 3) := by decide +kernel
theorem dX6_line_59 : decode cX6_line 59 = .ok (.iload_n 2, 1) := by decide +kernel
theorem dX6_line_60 : decode cX6_line 60 = .ok (.iastore, 1) := by decide +kernel
theorem dX6_line_61 : decode cX6_line 61 = .ok (.aload_n 0, 1) := by decide +kernel
theorem dX6_line_62 : decode cX6_line 62 = .ok (.dup, 1) := by decide +kernel
theorem dX6_line_63 : decode cX6_line 63 = .ok (.getfield 102, 3) := by decide +kernel
theorem dX6_line_66 : decode cX6_line 66 = .ok (.iconst 1, 1) := by decide +kernel
theorem dX6_line_67 : decode cX6_line 67 = .ok (.iadd, 1) := by decide +kernel
theorem dX6_line_68 : decode cX6_line 68 = .ok (.putfield 102, 3) := by decide +kernel
theorem dX6_line_71 : decode cX6_line 71 = .ok (.aload_n 0, 1) := by decide +kernel
theorem dX6_line_72 : decode cX6_line 72 = .ok (.getfield 102, 3) := by decide +kernel
theorem dX6_line_75 : decode cX6_line 75 = .ok (.iconst 1, 1) := by decide +kernel
theorem dX6_line_76 : decode cX6_line 76 = .ok (.isub, 1) := by decide +kernel
theorem dX6_line_77 : decode cX6_line 77 = .ok (.ireturn, 1) := by decide +kernel
theorem dX6_rule_0 : decode cX6_rule 0 = .ok (.aload_n 0, 1) := by decide +kernel
theorem dX6_rule_1 : decode cX6_rule 1 = .ok (.iconst 0, 1) := by decide +kernel
theorem dX6_rule_2 : decode cX6_rule 2 = .ok (.putfield 62, 3) := by decide +kernel
theorem dX6_rule_5 : decode cX6_rule 5 = .ok (.iload_n 1, 1) := by decide +kernel
theorem dX6_rule_6 : decode cX6_rule 6 = .ok (.i2l, 1) := by decide +kernel
theorem dX6_rule_7 : decode cX6_rule 7 = .ok (.lconst 0, 1) := by decide +kernel
theorem dX6_rule_8 : decode cX6_rule 8 = .ok (.lconst 1, 1) := by decide +kernel
theorem dX6_rule_9 : decode cX6_rule 9 = .ok (.invokestatic 72, 3) := by decide +kernel
theorem dX6_rule_12 : decode cX6_rule 12 = .ok (.ifCond .eq 34, 3) := by decide +kernel
theorem dX6_rule_15 : decode cX6_rule 15 = .ok (.iload_n 1, 1) := by decide +kernel
theorem dX6_rule_16 : decode cX6_rule 16 = .ok (.ifCond .ne 18, 3) := by decide +kernel
theorem dX6_rule_19 : decode cX6_rule 19 = .ok (.iload_n 2, 1) := by decide +kernel
theorem dX6_rule_20 : decode cX6_rule 20 = .ok (.i2l, 1) := by decide +kernel
theorem dX6_rule_21 : decode cX6_rule 21 = .ok (.lconst 1, 1) := by decide +kernel
theorem dX6_rule_22 : decode cX6_rule 22 = .ok (.ldc2_w 121, 3) := by decide +kernel
theorem dX6_rule_25 : decode cX6_rule 25 = .ok (.invokestatic 72, 3) := by decide +kernel
theorem dX6_rule_28 : decode cX6_rule 28 = .ok (.ifCond .ne 21, 3) := by decide +kernel
theorem dX6_rule_31 : decode cX6_rule 31 = .ok (.goto 15, 3) := by decide +kernel
theorem dX6_rule_34 : decode cX6_rule 34 = .ok (.iload_n 2, 1) := by decide +kernel
theorem dX6_rule_35 : decode cX6_rule 35 = .ok (.i2l, 1) := by decide +kernel
theorem dX6_rule_36 : decode cX6_rule 36 = .ok (.lconst 0, 1) := by decide +kernel
theorem dX6_rule_37 : decode cX6_rule 37 = .ok (.ldc2_w 123, 3) := by decide +kernel
theorem dX6_rule_40 : decode cX6_rule 40 = .ok (.invokestatic 72, 3) := by decide +kernel
theorem dX6_rule_43 : decode cX6_rule 43 = .ok (.ifCond .ne 6, 3) := by decide +kernel
theorem dX6_rule_46 : decode cX6_rule 46 = .ok (.ldc 82, 2) := by decide +kernel
theorem dX6_rule_48 : decode cX6_rule 48 = .ok (.ireturn, 1) := by decide +kernel
theorem dX6_rule_49 : decode cX6_rule 49 = .ok (.aload_n 0, 1) := by decide +kernel
theorem dX6_rule_50 : decode cX6_rule 50 = .ok (.getfield 41, 3) := by decide +kernel
theorem dX6_rule_53 : decode cX6_rule 53 = .ok (.iload_n 1, 1) := by decide +kernel
theorem dX6_rule_54 : decode cX6_rule 54 = .ok (.iaload, 1) := by decide +kernel
theorem dX6_rule_55 : decode cX6_rule 55 = .ok (.istore_n 3, 1) := by decide +kernel
theorem dX6_rule_56 : decode cX6_rule 56 = .ok (.aload_n 0, 1) := by decide +kernel
theorem dX6_rule_57 : decode cX6_rule 57 = .ok (.getfield 41, 3) := by decide +kernel
theorem dX6_rule_60 : decode cX6_rule 60 = .ok (.iload_n 1, 1) := by decide +kernel
theorem dX6_rule_61 : decode cX6_rule 61 = .ok (.iload_n 2, 1) := by decide +kernel
theorem dX6_rule_62 : decode cX6_rule 62 = .ok (.iastore, 1) := by decide +kernel
theorem dX6_rule_63 : decode cX6_rule 63 = .ok (.iload_n 3, 1) := by decide +kernel
theorem dX6_rule_64 : decode cX6_rule 64 = .ok (.ireturn, 1) := by decide +kernel
theorem dX6_costOf_0 : decode cX6_costOf 0 = .ok (.aload_n 0, 1) := by decide +kernel
theorem dX6_costOf_1 : decode cX6_costOf 1 = .ok (.getfield 41, 3) := by decide +kernel
theorem dX6_costOf_4 : decode cX6_costOf 4 = .ok (.iconst 0, 1) := by decide +kernel
theorem dX6_costOf_5 : decode cX6_costOf 5 = .ok (.iaload, 1) := by decide +kernel
theorem dX6_costOf_6 : decode cX6_costOf 6 = .ok (.iload_n 1, 1) := by decide +kernel
theorem dX6_costOf_7 : decode cX6_costOf 7 = .ok (.aload_n 0, 1) := by decide +kernel
theorem dX6_costOf_8 : decode cX6_costOf 8 = .ok (.getfield 41, 3) := by decide +kernel
theorem dX6_costOf_11 : decode cX6_costOf 11 = .ok (.iconst 1, 1) := by decide +kernel
theorem dX6_costOf_12 : decode cX6_costOf 12 = .ok (.iaload, 1) := by decide +kernel
theorem dX6_costOf_13 : decode cX6_costOf 13 = .ok (.imul, 1) := by decide +kernel
theorem dX6_costOf_14 : decode cX6_costOf 14 = .ok (.isub, 1) := by decide +kernel
theorem dX6_costOf_15 : decode cX6_costOf 15 = .ok (.istore_n 2, 1) := by decide +kernel
theorem dX6_costOf_16 : decode cX6_costOf 16 = .ok (.iload_n 2, 1) := by decide +kernel
theorem dX6_costOf_17 : decode cX6_costOf 17 = .ok (.iconst 1, 1) := by decide +kernel
theorem dX6_costOf_18 : decode cX6_costOf 18 = .ok (.if_icmp .ge 7, 3) := by decide +kernel
theorem dX6_costOf_21 : decode cX6_costOf 21 = .ok (.iconst 1, 1) := by decide +kernel
theorem dX6_costOf_22 : decode cX6_costOf 22 = .ok (.goto 4, 3) := by decide +kernel
theorem dX6_costOf_25 : decode cX6_costOf 25 = .ok (.iload_n 2, 1) := by decide +kernel
theorem dX6_costOf_26 : decode cX6_costOf 26 = .ok (.ireturn, 1) := by decide +kernel
theorem dX6_wipe_0 : decode cX6_wipe 0 = .ok (.aload_n 0, 1) := by decide +kernel
theorem dX6_wipe_1 : decode cX6_wipe 1 = .ok (.getfield 32, 3) := by decide +kernel
theorem dX6_wipe_4 : decode cX6_wipe 4 = .ok (.iload_n 1, 1) := by decide +kernel
theorem dX6_wipe_5 : decode cX6_wipe 5 = .ok (.iconst 0, 1) := by decide +kernel
theorem dX6_wipe_6 : decode cX6_wipe 6 = .ok (.iastore, 1) := by decide +kernel
theorem dX6_wipe_7 : decode cX6_wipe 7 = .ok (.iconst 0, 1) := by decide +kernel
theorem dX6_wipe_8 : decode cX6_wipe 8 = .ok (.istore_n 2, 1) := by decide +kernel
theorem dX6_wipe_9 : decode cX6_wipe 9 = .ok (.iload_n 2, 1) := by decide +kernel
theorem dX6_wipe_10 : decode cX6_wipe 10 = .ok (.sipush 180, 3) := by decide +kernel
theorem dX6_wipe_13 : decode cX6_wipe 13 = .ok (.if_icmp .ge 22, 3) := by decide +kernel
theorem dX6_wipe_16 : decode cX6_wipe 16 = .ok (.aload_n 0, 1) := by decide +kernel
theorem dX6_wipe_17 : decode cX6_wipe 17 = .ok (.getfield 38, 3) := by decide +kernel
theorem dX6_wipe_20 : decode cX6_wipe 20 = .ok (.sipush 180, 3) := by decide +kernel
theorem dX6_wipe_23 : decode cX6_wipe 23 = .ok (.iload_n 1, 1) := by decide +kernel
theorem dX6_wipe_24 : decode cX6_wipe 24 = .ok (.imul, 1) := by decide +kernel
theorem dX6_wipe_25 : decode cX6_wipe 25 = .ok (.iload_n 2, 1) := by decide +kernel
theorem dX6_wipe_26 : decode cX6_wipe 26 = .ok (.iadd, 1) := by decide +kernel
theorem dX6_wipe_27 : decode cX6_wipe 27 = .ok (.iconst 0, 1) := by decide +kernel
theorem dX6_wipe_28 : decode cX6_wipe 28 = .ok (.bastore, 1) := by decide +kernel
theorem dX6_wipe_29 : decode cX6_wipe 29 = .ok (.iinc 2 1, 3) := by decide +kernel
theorem dX6_wipe_32 : decode cX6_wipe 32 = .ok (.goto (-23), 3) := by decide +kernel
theorem dX6_wipe_35 : decode cX6_wipe 35 = .ok (.return_, 1) := by decide +kernel
theorem dX6_ownCost_0 : decode cX6_ownCost 0 = .ok (.iconst 0, 1) := by decide +kernel
theorem dX6_ownCost_1 : decode cX6_ownCost 1 = .ok (.istore_n 2, 1) := by decide +kernel
theorem dX6_ownCost_2 : decode cX6_ownCost 2 = .ok (.iconst 0, 1) := by decide +kernel
theorem dX6_ownCost_3 : decode cX6_ownCost 3 = .ok (.istore_n 3, 1) := by decide +kernel
theorem dX6_ownCost_4 : decode cX6_ownCost 4 = .ok (.iload_n 3, 1) := by decide +kernel
theorem dX6_ownCost_5 : decode cX6_ownCost 5 = .ok (.sipush 180, 3) := by decide +kernel
theorem dX6_ownCost_8 : decode cX6_ownCost 8 = .ok (.if_icmp .ge 42, 3) := by decide +kernel
theorem dX6_ownCost_11 : decode cX6_ownCost 11 = .ok (.iload_n 2, 1) := by decide +kernel
theorem dX6_ownCost_12 : decode cX6_ownCost 12 = .ok (.aload_n 0, 1) := by decide +kernel
theorem dX6_ownCost_13 : decode cX6_ownCost 13 = .ok (.getfield 38, 3) := by decide +kernel
theorem dX6_ownCost_16 : decode cX6_ownCost 16 = .ok (.sipush 180, 3) := by decide +kernel
theorem dX6_ownCost_19 : decode cX6_ownCost 19 = .ok (.iload_n 1, 1) := by decide +kernel
theorem dX6_ownCost_20 : decode cX6_ownCost 20 = .ok (.imul, 1) := by decide +kernel
theorem dX6_ownCost_21 : decode cX6_ownCost 21 = .ok (.iload_n 3, 1) := by decide +kernel
theorem dX6_ownCost_22 : decode cX6_ownCost 22 = .ok (.iadd, 1) := by decide +kernel
theorem dX6_ownCost_23 : decode cX6_ownCost 23 = .ok (.baload, 1) := by decide +kernel
theorem dX6_ownCost_24 : decode cX6_ownCost 24 = .ok (.ifCond .eq 17, 3) := by decide +kernel
theorem dX6_ownCost_27 : decode cX6_ownCost 27 = .ok (.aload_n 0, 1) := by decide +kernel
theorem dX6_ownCost_28 : decode cX6_ownCost 28 = .ok (.aload_n 0, 1) := by decide +kernel
theorem dX6_ownCost_29 : decode cX6_ownCost 29 = .ok (.iload_n 3, 1) := by decide +kernel
theorem dX6_ownCost_30 : decode cX6_ownCost 30 = .ok (.invokevirtual 112, 3) := by decide +kernel
theorem dX6_ownCost_33 : decode cX6_ownCost 33 = .ok (.iconst 1, 1) := by decide +kernel
theorem dX6_ownCost_34 : decode cX6_ownCost 34 = .ok (.isub, 1) := by decide +kernel
theorem dX6_ownCost_35 : decode cX6_ownCost 35 = .ok (.invokevirtual 125, 3) := by decide +kernel
theorem dX6_ownCost_38 : decode cX6_ownCost 38 = .ok (.goto 4, 3) := by decide +kernel
theorem dX6_ownCost_41 : decode cX6_ownCost 41 = .ok (.iconst 0, 1) := by decide +kernel
theorem dX6_ownCost_42 : decode cX6_ownCost 42 = .ok (.iadd, 1) := by decide +kernel
theorem dX6_ownCost_43 : decode cX6_ownCost 43 = .ok (.istore_n 2, 1) := by decide +kernel
theorem dX6_ownCost_44 : decode cX6_ownCost 44 = .ok (.iinc 3 1, 3) := by decide +kernel
theorem dX6_ownCost_47 : decode cX6_ownCost 47 = .ok (.goto (-43), 3) := by decide +kernel
theorem dX6_ownCost_50 : decode cX6_ownCost 50 = .ok (.iload_n 2, 1) := by decide +kernel
theorem dX6_ownCost_51 : decode cX6_ownCost 51 = .ok (.ireturn, 1) := by decide +kernel
theorem dX6_find_0 : decode cX6_find 0 = .ok (.iconst 0, 1) := by decide +kernel
theorem dX6_find_1 : decode cX6_find 1 = .ok (.istore_n 2, 1) := by decide +kernel
theorem dX6_find_2 : decode cX6_find 2 = .ok (.iload_n 2, 1) := by decide +kernel
theorem dX6_find_3 : decode cX6_find 3 = .ok (.sipush 180, 3) := by decide +kernel
theorem dX6_find_6 : decode cX6_find 6 = .ok (.if_icmp .ge 24, 3) := by decide +kernel
theorem dX6_find_9 : decode cX6_find 9 = .ok (.aload_n 0, 1) := by decide +kernel
theorem dX6_find_10 : decode cX6_find 10 = .ok (.getfield 50, 3) := by decide +kernel
theorem dX6_find_13 : decode cX6_find 13 = .ok (.iload_n 2, 1) := by decide +kernel
theorem dX6_find_14 : decode cX6_find 14 = .ok (.aload_n 0, 1) := by decide +kernel
theorem dX6_find_15 : decode cX6_find 15 = .ok (.aload_n 0, 1) := by decide +kernel
theorem dX6_find_16 : decode cX6_find 16 = .ok (.iload_n 2, 1) := by decide +kernel
theorem dX6_find_17 : decode cX6_find 17 = .ok (.invokevirtual 112, 3) := by decide +kernel
theorem dX6_find_20 : decode cX6_find 20 = .ok (.invokevirtual 125, 3) := by decide +kernel
theorem dX6_find_23 : decode cX6_find 23 = .ok (.iastore, 1) := by decide +kernel
theorem dX6_find_24 : decode cX6_find 24 = .ok (.iinc 2 1, 3) := by decide +kernel
theorem dX6_find_27 : decode cX6_find 27 = .ok (.goto (-25), 3) := by decide +kernel
theorem dX6_find_30 : decode cX6_find 30 = .ok (.iconst 0, 1) := by decide +kernel
theorem dX6_find_31 : decode cX6_find 31 = .ok (.istore_n 2, 1) := by decide +kernel
theorem dX6_find_32 : decode cX6_find 32 = .ok (.iload_n 2, 1) := by decide +kernel
theorem dX6_find_33 : decode cX6_find 33 = .ok (.bipush 100, 2) := by decide +kernel
theorem dX6_find_35 : decode cX6_find 35 = .ok (.if_icmp .ge 17, 3) := by decide +kernel
theorem dX6_find_38 : decode cX6_find 38 = .ok (.aload_n 0, 1) := by decide +kernel
theorem dX6_find_39 : decode cX6_find 39 = .ok (.getfield 44, 3) := by decide +kernel
theorem dX6_find_42 : decode cX6_find 42 = .ok (.iload_n 2, 1) := by decide +kernel
theorem dX6_find_43 : decode cX6_find 43 = .ok (.ldc 93, 2) := by decide +kernel
theorem dX6_find_45 : decode cX6_find 45 = .ok (.iastore, 1) := by decide +kernel
theorem dX6_find_46 : decode cX6_find 46 = .ok (.iinc 2 1, 3) := by decide +kernel
theorem dX6_find_49 : decode cX6_find 49 = .ok (.goto (-17), 3) := by decide +kernel
theorem dX6_find_52 : decode cX6_find 52 = .ok (.aload_n 0, 1) := by decide +kernel
theorem dX6_find_53 : decode cX6_find 53 = .ok (.getfield 44, 3) := by decide +kernel
theorem dX6_find_56 : decode cX6_find 56 = .ok (.aload_n 0, 1) := by decide +kernel
theorem dX6_find_57 : decode cX6_find 57 = .ok (.getfield 23, 3) := by decide +kernel
theorem dX6_find_60 : decode cX6_find 60 = .ok (.aload_n 0, 1) := by decide +kernel
theorem dX6_find_61 : decode cX6_find 61 = .ok (.getfield 29, 3) := by decide +kernel
theorem dX6_find_64 : decode cX6_find 64 = .ok (.iload_n 1, 1) := by decide +kernel
theorem dX6_find_65 : decode cX6_find 65 = .ok (.iaload, 1) := by decide +kernel
theorem dX6_find_66 : decode cX6_find 66 = .ok (.iaload, 1) := by decide +kernel
theorem dX6_find_67 : decode cX6_find 67 = .ok (.iconst 0, 1) := by decide +kernel
theorem dX6_find_68 : decode cX6_find 68 = .ok (.iastore, 1) := by decide +kernel
theorem dX6_find_69 : decode cX6_find 69 = .ok (.aload_n 0, 1) := by decide +kernel
theorem dX6_find_70 : decode cX6_find 70 = .ok (.getfield 47, 3) := by decide +kernel
theorem dX6_find_73 : decode cX6_find 73 = .ok (.aload_n 0, 1) := by decide +kernel
theorem dX6_find_74 : decode cX6_find 74 = .ok (.getfield 23, 3) := by decide +kernel
theorem dX6_find_77 : decode cX6_find 77 = .ok (.aload_n 0, 1) := by decide +kernel
theorem dX6_find_78 : decode cX6_find 78 = .ok (.getfield 29, 3) := by decide +kernel
theorem dX6_find_81 : decode cX6_find 81 = .ok (.iload_n 1, 1) := by decide +kernel
theorem dX6_find_82 : decode cX6_find 82 = .ok (.iaload, 1) := by decide +kernel
theorem dX6_find_83 : decode cX6_find 83 = .ok (.iaload, 1) := by decide +kernel
theorem dX6_find_84 : decode cX6_find 84 = .ok (.iconst 0, 1) := by decide +kernel
theorem dX6_find_85 : decode cX6_find 85 = .ok (.iastore, 1) := by decide +kernel
theorem dX6_find_86 : decode cX6_find 86 = .ok (.iconst 1, 1) := by decide +kernel
theorem dX6_find_87 : decode cX6_find 87 = .ok (.istore_n 2, 1) := by decide +kernel
theorem dX6_find_88 : decode cX6_find 88 = .ok (.iload_n 2, 1) := by decide +kernel
theorem dX6_find_89 : decode cX6_find 89 = .ok (.ifCond .eq 167, 3) := by decide +kernel
