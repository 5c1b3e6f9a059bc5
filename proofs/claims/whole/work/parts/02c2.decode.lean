theorem dX6_sharedBy_3 : decode cX6_sharedBy 3 = .ok (.istore 4, 2) := by decide +kernel
theorem dX6_sharedBy_5 : decode cX6_sharedBy 5 = .ok (.iload 4, 2) := by decide +kernel
theorem dX6_sharedBy_7 : decode cX6_sharedBy 7 = .ok (.sipush 180, 3) := by decide +kernel
theorem dX6_sharedBy_10 : decode cX6_sharedBy 10 = .ok (.if_icmp .ge 49, 3) := by decide +kernel
theorem dX6_sharedBy_13 : decode cX6_sharedBy 13 = .ok (.iload_n 3, 1) := by decide +kernel
theorem dX6_sharedBy_14 : decode cX6_sharedBy 14 = .ok (.aload_n 0, 1) := by decide +kernel
theorem dX6_sharedBy_15 : decode cX6_sharedBy 15 = .ok (.getfield 38, 3) := by decide +kernel
theorem dX6_sharedBy_18 : decode cX6_sharedBy 18 = .ok (.sipush 180, 3) := by decide +kernel
theorem dX6_sharedBy_21 : decode cX6_sharedBy 21 = .ok (.iload_n 1, 1) := by decide +kernel
theorem dX6_sharedBy_22 : decode cX6_sharedBy 22 = .ok (.imul, 1) := by decide +kernel
theorem dX6_sharedBy_23 : decode cX6_sharedBy 23 = .ok (.iload 4, 2) := by decide +kernel
theorem dX6_sharedBy_25 : decode cX6_sharedBy 25 = .ok (.iadd, 1) := by decide +kernel
theorem dX6_sharedBy_26 : decode cX6_sharedBy 26 = .ok (.baload, 1) := by decide +kernel
theorem dX6_sharedBy_27 : decode cX6_sharedBy 27 = .ok (.ifCond .eq 23, 3) := by decide +kernel
theorem dX6_sharedBy_30 : decode cX6_sharedBy 30 = .ok (.aload_n 0, 1) := by decide +kernel
theorem dX6_sharedBy_31 : decode cX6_sharedBy 31 = .ok (.getfield 38, 3) := by decide +kernel
theorem dX6_sharedBy_34 : decode cX6_sharedBy 34 = .ok (.sipush 180, 3) := by decide +kernel
theorem dX6_sharedBy_37 : decode cX6_sharedBy 37 = .ok (.iload_n 2, 1) := by decide +kernel
theorem dX6_sharedBy_38 : decode cX6_sharedBy 38 = .ok (.imul, 1) := by decide +kernel
theorem dX6_sharedBy_39 : decode cX6_sharedBy 39 = .ok (.iload 4, 2) := by decide +kernel
theorem dX6_sharedBy_41 : decode cX6_sharedBy 41 = .ok (.iadd, 1) := by decide +kernel
theorem dX6_sharedBy_42 : decode cX6_sharedBy 42 = .ok (.baload, 1) := by decide +kernel
theorem dX6_sharedBy_43 : decode cX6_sharedBy 43 = .ok (.ifCond .eq 7, 3) := by decide +kernel
theorem dX6_sharedBy_46 : decode cX6_sharedBy 46 = .ok (.iconst 1, 1) := by decide +kernel
theorem dX6_sharedBy_47 : decode cX6_sharedBy 47 = .ok (.goto 4, 3) := by decide +kernel
theorem dX6_sharedBy_50 : decode cX6_sharedBy 50 = .ok (.iconst 0, 1) := by decide +kernel
theorem dX6_sharedBy_51 : decode cX6_sharedBy 51 = .ok (.iadd, 1) := by decide +kernel
theorem dX6_sharedBy_52 : decode cX6_sharedBy 52 = .ok (.istore_n 3, 1) := by decide +kernel
theorem dX6_sharedBy_53 : decode cX6_sharedBy 53 = .ok (.iinc 4 1, 3) := by decide +kernel
theorem dX6_sharedBy_56 : decode cX6_sharedBy 56 = .ok (.goto (-51), 3) := by decide +kernel
theorem dX6_sharedBy_59 : decode cX6_sharedBy 59 = .ok (.iload_n 3, 1) := by decide +kernel
theorem dX6_sharedBy_60 : decode cX6_sharedBy 60 = .ok (.ireturn, 1) := by decide +kernel
theorem dX6_shared_0 : decode cX6_shared 0 = .ok (.aload_n 0, 1) := by decide +kernel
theorem dX6_shared_1 : decode cX6_shared 1 = .ok (.iconst 0, 1) := by decide +kernel
theorem dX6_shared_2 : decode cX6_shared 2 = .ok (.putfield 62, 3) := by decide +kernel
theorem dX6_shared_5 : decode cX6_shared 5 = .ok (.aload_n 0, 1) := by decide +kernel
theorem dX6_shared_6 : decode cX6_shared 6 = .ok (.iload_n 1, 1) := by decide +kernel
theorem dX6_shared_7 : decode cX6_shared 7 = .ok (.invokevirtual 128, 3) := by decide +kernel
theorem dX6_shared_10 : decode cX6_shared 10 = .ok (.ifCond .eq 11, 3) := by decide +kernel
theorem dX6_shared_13 : decode cX6_shared 13 = .ok (.aload_n 0, 1) := by decide +kernel
theorem dX6_shared_14 : decode cX6_shared 14 = .ok (.iload_n 2, 1) := by decide +kernel
theorem dX6_shared_15 : decode cX6_shared 15 = .ok (.invokevirtual 128, 3) := by decide +kernel
theorem dX6_shared_18 : decode cX6_shared 18 = .ok (.ifCond .ne 8, 3) := by decide +kernel
theorem dX6_shared_21 : decode cX6_shared 21 = .ok (.ldc 82, 2) := by decide +kernel
theorem dX6_shared_23 : decode cX6_shared 23 = .ok (.goto 9, 3) := by decide +kernel
theorem dX6_shared_26 : decode cX6_shared 26 = .ok (.aload_n 0, 1) := by decide +kernel
theorem dX6_shared_27 : decode cX6_shared 27 = .ok (.iload_n 1, 1) := by decide +kernel
theorem dX6_shared_28 : decode cX6_shared 28 = .ok (.iload_n 2, 1) := by decide +kernel
theorem dX6_shared_29 : decode cX6_shared 29 = .ok (.invokevirtual 163, 3) := by decide +kernel
theorem dX6_shared_32 : decode cX6_shared 32 = .ok (.ireturn, 1) := by decide +kernel
theorem dX6_fits_0 : decode cX6_fits 0 = .ok (.iconst 1, 1) := by decide +kernel
theorem dX6_fits_1 : decode cX6_fits 1 = .ok (.istore_n 2, 1) := by decide +kernel
theorem dX6_fits_2 : decode cX6_fits 2 = .ok (.iconst 0, 1) := by decide +kernel
theorem dX6_fits_3 : decode cX6_fits 3 = .ok (.istore_n 3, 1) := by decide +kernel
theorem dX6_fits_4 : decode cX6_fits 4 = .ok (.iload_n 3, 1) := by decide +kernel
theorem dX6_fits_5 : decode cX6_fits 5 = .ok (.iload_n 1, 1) := by decide +kernel
theorem dX6_fits_6 : decode cX6_fits 6 = .ok (.if_icmp .ge 52, 3) := by decide +kernel
theorem dX6_fits_9 : decode cX6_fits 9 = .ok (.iload_n 2, 1) := by decide +kernel
theorem dX6_fits_10 : decode cX6_fits 10 = .ok (.ifCond .eq 40, 3) := by decide +kernel
theorem dX6_fits_13 : decode cX6_fits 13 = .ok (.aload_n 0, 1) := by decide +kernel
theorem dX6_fits_14 : decode cX6_fits 14 = .ok (.getfield 32, 3) := by decide +kernel
theorem dX6_fits_17 : decode cX6_fits 17 = .ok (.iload_n 3, 1) := by decide +kernel
theorem dX6_fits_18 : decode cX6_fits 18 = .ok (.iaload, 1) := by decide +kernel
theorem dX6_fits_19 : decode cX6_fits 19 = .ok (.ifCond .eq 27, 3) := by decide +kernel
theorem dX6_fits_22 : decode cX6_fits 22 = .ok (.aload_n 0, 1) := by decide +kernel
theorem dX6_fits_23 : decode cX6_fits 23 = .ok (.getfield 56, 3) := by decide +kernel
theorem dX6_fits_26 : decode cX6_fits 26 = .ok (.iload_n 3, 1) := by decide +kernel
theorem dX6_fits_27 : decode cX6_fits 27 = .ok (.iaload, 1) := by decide +kernel
theorem dX6_fits_28 : decode cX6_fits 28 = .ok (.aload_n 0, 1) := by decide +kernel
theorem dX6_fits_29 : decode cX6_fits 29 = .ok (.getfield 56, 3) := by decide +kernel
theorem dX6_fits_32 : decode cX6_fits 32 = .ok (.iload_n 1, 1) := by decide +kernel
theorem dX6_fits_33 : decode cX6_fits 33 = .ok (.iaload, 1) := by decide +kernel
theorem dX6_fits_34 : decode cX6_fits 34 = .ok (.if_icmp .ne 12, 3) := by decide +kernel
theorem dX6_fits_37 : decode cX6_fits 37 = .ok (.aload_n 0, 1) := by decide +kernel
theorem dX6_fits_38 : decode cX6_fits 38 = .ok (.iload_n 3, 1) := by decide +kernel
theorem dX6_fits_39 : decode cX6_fits 39 = .ok (.iload_n 1, 1) := by decide +kernel
theorem dX6_fits_40 : decode cX6_fits 40 = .ok (.invokevirtual 163, 3) := by decide +kernel
theorem dX6_fits_43 : decode cX6_fits 43 = .ok (.ifCond .ne 7, 3) := by decide +kernel
theorem dX6_fits_46 : decode cX6_fits 46 = .ok (.iconst 1, 1) := by decide +kernel
theorem dX6_fits_47 : decode cX6_fits 47 = .ok (.goto 4, 3) := by decide +kernel
theorem dX6_fits_50 : decode cX6_fits 50 = .ok (.iconst 0, 1) := by decide +kernel
theorem dX6_fits_51 : decode cX6_fits 51 = .ok (.istore_n 2, 1) := by decide +kernel
theorem dX6_fits_52 : decode cX6_fits 52 = .ok (.iinc 3 1, 3) := by decide +kernel
theorem dX6_fits_55 : decode cX6_fits 55 = .ok (.goto (-51), 3) := by decide +kernel
theorem dX6_fits_58 : decode cX6_fits 58 = .ok (.iload_n 2, 1) := by decide +kernel
theorem dX6_fits_59 : decode cX6_fits 59 = .ok (.ireturn, 1) := by decide +kernel
theorem dX6_tints_0 : decode cX6_tints 0 = .ok (.iconst 0, 1) := by decide +kernel
theorem dX6_tints_1 : decode cX6_tints 1 = .ok (.istore_n 2, 1) := by decide +kernel
theorem dX6_tints_2 : decode cX6_tints 2 = .ok (.iconst 0, 1) := by decide +kernel
theorem dX6_tints_3 : decode cX6_tints 3 = .ok (.istore_n 3, 1) := by decide +kernel
theorem dX6_tints_4 : decode cX6_tints 4 = .ok (.iload_n 3, 1) := by decide +kernel
theorem dX6_tints_5 : decode cX6_tints 5 = .ok (.bipush 12, 2) := by decide +kernel
theorem dX6_tints_7 : decode cX6_tints 7 = .ok (.if_icmp .ge 16, 3) := by decide +kernel
theorem dX6_tints_10 : decode cX6_tints 10 = .ok (.aload_n 0, 1) := by decide +kernel
theorem dX6_tints_11 : decode cX6_tints 11 = .ok (.getfield 56, 3) := by decide +kernel
theorem dX6_tints_14 : decode cX6_tints 14 = .ok (.iload_n 3, 1) := by decide +kernel
theorem dX6_tints_15 : decode cX6_tints 15 = .ok (.iconst (-1), 1) := by decide +kernel
theorem dX6_tints_16 : decode cX6_tints 16 = .ok (.iastore, 1) := by decide +kernel
theorem dX6_tints_17 : decode cX6_tints 17 = .ok (.iinc 3 1, 3) := by decide +kernel
theorem dX6_tints_20 : decode cX6_tints 20 = .ok (.goto (-16), 3) := by decide +kernel
theorem dX6_tints_23 : decode cX6_tints 23 = .ok (.iload_n 2, 1) := by decide +kernel
theorem dX6_tints_24 : decode cX6_tints 24 = .ok (.ifCond .lt 196, 3) := by decide +kernel
theorem dX6_tints_27 : decode cX6_tints 27 = .ok (.iload_n 2, 1) := by decide +kernel
theorem dX6_tints_28 : decode cX6_tints 28 = .ok (.aload_n 0, 1) := by decide +kernel
theorem dX6_tints_29 : decode cX6_tints 29 = .ok (.getfield 102, 3) := by decide +kernel
theorem dX6_tints_32 : decode cX6_tints 32 = .ok (.if_icmp .ge 188, 3) := by decide +kernel
theorem dX6_tints_35 : decode cX6_tints 35 = .ok (.aload_n 0, 1) := by decide +kernel
theorem dX6_tints_36 : decode cX6_tints 36 = .ok (.getfield 32, 3) := by decide +kernel
theorem dX6_tints_39 : decode cX6_tints 39 = .ok (.iload_n 2, 1) := by decide +kernel
theorem dX6_tints_40 : decode cX6_tints 40 = .ok (.iaload, 1) := by decide +kernel
theorem dX6_tints_41 : decode cX6_tints 41 = .ok (.ifCond .ne 47, 3) := by decide +kernel
theorem dX6_tints_44 : decode cX6_tints 44 = .ok (.aload_n 0, 1) := by decide +kernel
theorem dX6_tints_45 : decode cX6_tints 45 = .ok (.getfield 56, 3) := by decide +kernel
theorem dX6_tints_48 : decode cX6_tints 48 = .ok (.iload_n 2, 1) := by decide +kernel
theorem dX6_tints_49 : decode cX6_tints 49 = .ok (.aload_n 0, 1) := by decide +kernel
theorem dX6_tints_50 : decode cX6_tints 50 = .ok (.getfield 56, 3) := by decide +kernel
theorem dX6_tints_53 : decode cX6_tints 53 = .ok (.iload_n 2, 1) := by decide +kernel
theorem dX6_tints_54 : decode cX6_tints 54 = .ok (.iaload, 1) := by decide +kernel
theorem dX6_tints_55 : decode cX6_tints 55 = .ok (.iconst (-1), 1) := by decide +kernel
theorem dX6_tints_56 : decode cX6_tints 56 = .ok (.if_icmp .ne 8, 3) := by decide +kernel
theorem dX6_tints_59 : decode cX6_tints 59 = .ok (.bipush (-2), 2) := by decide +kernel
theorem dX6_tints_61 : decode cX6_tints 61 = .ok (.goto 4, 3) := by decide +kernel
theorem dX6_tints_64 : decode cX6_tints 64 = .ok (.iconst (-1), 1) := by decide +kernel
theorem dX6_tints_65 : decode cX6_tints 65 = .ok (.iastore, 1) := by decide +kernel
theorem dX6_tints_66 : decode cX6_tints 66 = .ok (.iload_n 2, 1) := by decide +kernel
theorem dX6_tints_67 : decode cX6_tints 67 = .ok (.aload_n 0, 1) := by decide +kernel
theorem dX6_tints_68 : decode cX6_tints 68 = .ok (.getfield 56, 3) := by decide +kernel
theorem dX6_tints_71 : decode cX6_tints 71 = .ok (.iload_n 2, 1) := by decide +kernel
theorem dX6_tints_72 : decode cX6_tints 72 = .ok (.iaload, 1) := by decide +kernel
theorem dX6_tints_73 : decode cX6_tints 73 = .ok (.bipush (-2), 2) := by decide +kernel
theorem dX6_tints_75 : decode cX6_tints 75 = .ok (.if_icmp .ne 7, 3) := by decide +kernel
theorem dX6_tints_78 : decode cX6_tints 78 = .ok (.iconst 1, 1) := by decide +kernel
theorem dX6_tints_79 : decode cX6_tints 79 = .ok (.goto 4, 3) := by decide +kernel
theorem dX6_tints_82 : decode cX6_tints 82 = .ok (.iconst (-1), 1) := by decide +kernel
theorem dX6_tints_83 : decode cX6_tints 83 = .ok (.iadd, 1) := by decide +kernel
theorem dX6_tints_84 : decode cX6_tints 84 = .ok (.istore_n 2, 1) := by decide +kernel
theorem dX6_tints_85 : decode cX6_tints 85 = .ok (.goto (-62), 3) := by decide +kernel
theorem dX6_tints_88 : decode cX6_tints 88 = .ok (.iconst 0, 1) := by decide +kernel
theorem dX6_tints_89 : decode cX6_tints 89 = .ok (.istore_n 3, 1) := by decide +kernel
theorem dX6_tints_90 : decode cX6_tints 90 = .ok (.iconst 0, 1) := by decide +kernel
theorem dX6_tints_91 : decode cX6_tints 91 = .ok (.istore 4, 2) := by decide +kernel
theorem dX6_tints_93 : decode cX6_tints 93 = .ok (.iload 4, 2) := by decide +kernel
theorem dX6_tints_95 : decode cX6_tints 95 = .ok (.iload_n 2, 1) := by decide +kernel
theorem dX6_tints_96 : decode cX6_tints 96 = .ok (.if_icmp .ge 36, 3) := by decide +kernel
theorem dX6_tints_99 : decode cX6_tints 99 = .ok (.aload_n 0, 1) := by decide +kernel
theorem dX6_tints_100 : decode cX6_tints 100 = .ok (.getfield 56, 3) := by decide +kernel
theorem dX6_tints_103 : decode cX6_tints 103 = .ok (.iload 4, 2) := by decide +kernel
theorem dX6_tints_105 : decode cX6_tints 105 = .ok (.iaload, 1) := by decide +kernel
theorem dX6_tints_106 : decode cX6_tints 106 = .ok (.iconst 1, 1) := by decide +kernel
theorem dX6_tints_107 : decode cX6_tints 107 = .ok (.iadd, 1) := by decide +kernel
theorem dX6_tints_108 : decode cX6_tints 108 = .ok (.iload_n 3, 1) := by decide +kernel
theorem dX6_tints_109 : decode cX6_tints 109 = .ok (.if_icmp .le 15, 3) := by decide +kernel
theorem dX6_tints_112 : decode cX6_tints 112 = .ok (.aload_n 0, 1) := by decide +kernel
theorem dX6_tints_113 : decode cX6_tints 113 = .ok (.getfield 56, 3) := by decide +kernel
theorem dX6_tints_116 : decode cX6_tints 116 = .ok (.iload 4, 2) := by decide +kernel
theorem dX6_tints_118 : decode cX6_tints 118 = .ok (.iaload, 1) := by decide +kernel
theorem dX6_tints_119 : decode cX6_tints 119 = .ok (.iconst 1, 1) := by decide +kernel
theorem dX6_tints_120 : decode cX6_tints 120 = .ok (.iadd, 1) := by decide +kernel
theorem dX6_tints_121 : decode cX6_tints 121 = .ok (.goto 4, 3) := by decide +kernel
theorem dX6_tints_124 : decode cX6_tints 124 = .ok (.iload_n 3, 1) := by decide +kernel
theorem dX6_tints_125 : decode cX6_tints 125 = .ok (.istore_n 3, 1) := by decide +kernel
theorem dX6_tints_126 : decode cX6_tints 126 = .ok (.iinc 4 1, 3) := by decide +kernel
theorem dX6_tints_129 : decode cX6_tints 129 = .ok (.goto (-36), 3) := by decide +kernel
theorem dX6_tints_132 : decode cX6_tints 132 = .ok (.iload_n 3, 1) := by decide +kernel
theorem dX6_tints_133 : decode cX6_tints 133 = .ok (.iconst 1, 1) := by decide +kernel
theorem dX6_tints_134 : decode cX6_tints 134 = .ok (.iadd, 1) := by decide +kernel
theorem dX6_tints_135 : decode cX6_tints 135 = .ok (.iload_n 1, 1) := by decide +kernel
theorem dX6_tints_136 : decode cX6_tints 136 = .ok (.if_icmp .ge 9, 3) := by decide +kernel
theorem dX6_tints_139 : decode cX6_tints 139 = .ok (.iload_n 3, 1) := by decide +kernel
theorem dX6_tints_140 : decode cX6_tints 140 = .ok (.iconst 1, 1) := by decide +kernel
theorem dX6_tints_141 : decode cX6_tints 141 = .ok (.iadd, 1) := by decide +kernel
theorem dX6_tints_142 : decode cX6_tints 142 = .ok (.goto 4, 3) := by decide +kernel
theorem dX6_tints_145 : decode cX6_tints 145 = .ok (.iload_n 1, 1) := by decide +kernel
theorem dX6_tints_146 : decode cX6_tints 146 = .ok (.istore 4, 2) := by decide +kernel
theorem dX6_tints_148 : decode cX6_tints 148 = .ok (.aload_n 0, 1) := by decide +kernel
theorem dX6_tints_149 : decode cX6_tints 149 = .ok (.getfield 56, 3) := by decide +kernel
theorem dX6_tints_152 : decode cX6_tints 152 = .ok (.iload_n 2, 1) := by decide +kernel
theorem dX6_tints_153 : decode cX6_tints 153 = .ok (.dup2, 1) := by decide +kernel
theorem dX6_tints_154 : decode cX6_tints 154 = .ok (.iaload, 1) := by decide +kernel
theorem dX6_tints_155 : decode cX6_tints 155 = .ok (.iconst 1, 1) := by decide +kernel
theorem dX6_tints_156 : decode cX6_tints 156 = .ok (.iadd, 1) := by decide +kernel
theorem dX6_tints_157 : decode cX6_tints 157 = .ok (.iastore, 1) := by decide +kernel
theorem dX6_tints_158 : decode cX6_tints 158 = .ok (.aload_n 0, 1) := by decide +kernel
theorem dX6_tints_159 : decode cX6_tints 159 = .ok (.getfield 56, 3) := by decide +kernel
theorem dX6_tints_162 : decode cX6_tints 162 = .ok (.iload_n 2, 1) := by decide +kernel
theorem dX6_tints_163 : decode cX6_tints 163 = .ok (.iaload, 1) := by decide +kernel
theorem dX6_tints_164 : decode cX6_tints 164 = .ok (.iload 4, 2) := by decide +kernel
theorem dX6_tints_166 : decode cX6_tints 166 = .ok (.if_icmp .ge 24, 3) := by decide +kernel
theorem dX6_tints_169 : decode cX6_tints 169 = .ok (.aload_n 0, 1) := by decide +kernel
theorem dX6_tints_170 : decode cX6_tints 170 = .ok (.iload_n 2, 1) := by decide +kernel
theorem dX6_tints_171 : decode cX6_tints 171 = .ok (.invokevirtual 166, 3) := by decide +kernel
theorem dX6_tints_174 : decode cX6_tints 174 = .ok (.ifCond .ne 16, 3) := by decide +kernel
theorem dX6_tints_177 : decode cX6_tints 177 = .ok (.aload_n 0, 1) := by decide +kernel
theorem dX6_tints_178 : decode cX6_tints 178 = .ok (.getfield 56, 3) := by decide +kernel
theorem dX6_tints_181 : decode cX6_tints 181 = .ok (.iload_n 2, 1) := by decide +kernel
theorem dX6_tints_182 : decode cX6_tints 182 = .ok (.dup2, 1) := by decide +kernel
theorem dX6_tints_183 : decode cX6_tints 183 = .ok (.iaload, 1) := by decide +kernel
theorem dX6_tints_184 : decode cX6_tints 184 = .ok (.iconst 1, 1) := by decide +kernel
theorem dX6_tints_185 : decode cX6_tints 185 = .ok (.iadd, 1) := by decide +kernel
theorem dX6_tints_186 : decode cX6_tints 186 = .ok (.iastore, 1) := by decide +kernel
theorem dX6_tints_187 : decode cX6_tints 187 = .ok (.goto (-29), 3) := by decide +kernel
theorem dX6_tints_190 : decode cX6_tints 190 = .ok (.aload_n 0, 1) := by decide +kernel
theorem dX6_tints_191 : decode cX6_tints 191 = .ok (.getfield 56, 3) := by decide +kernel
theorem dX6_tints_194 : decode cX6_tints 194 = .ok (.iload_n 2, 1) := by decide +kernel
theorem dX6_tints_195 : decode cX6_tints 195 = .ok (.iaload, 1) := by decide +kernel
theorem dX6_tints_196 : decode cX6_tints 196 = .ok (.iload 4, 2) := by decide +kernel
theorem dX6_tints_198 : decode cX6_tints 198 = .ok (.if_icmp .ge 9, 3) := by decide +kernel
theorem dX6_tints_201 : decode cX6_tints 201 = .ok (.iinc 2 1, 3) := by decide +kernel
theorem dX6_tints_204 : decode cX6_tints 204 = .ok (.goto 13, 3) := by decide +kernel
theorem dX6_tints_207 : decode cX6_tints 207 = .ok (.aload_n 0, 1) := by decide +kernel
theorem dX6_tints_208 : decode cX6_tints 208 = .ok (.getfield 56, 3) := by decide +kernel
theorem dX6_tints_211 : decode cX6_tints 211 = .ok (.iload_n 2, 1) := by decide +kernel
theorem dX6_tints_212 : decode cX6_tints 212 = .ok (.iconst (-1), 1) := by decide +kernel
theorem dX6_tints_213 : decode cX6_tints 213 = .ok (.iastore, 1) := by decide +kernel
theorem dX6_tints_214 : decode cX6_tints 214 = .ok (.iinc 2 (-1), 3) := by decide +kernel
theorem dX6_tints_217 : decode cX6_tints 217 = .ok (.goto (-194), 3) := by decide +kernel
theorem dX6_tints_220 : decode cX6_tints 220 = .ok (.iload_n 2, 1) := by decide +kernel
theorem dX6_tints_221 : decode cX6_tints 221 = .ok (.ifCond .lt 7, 3) := by decide +kernel
theorem dX6_tints_224 : decode cX6_tints 224 = .ok (.iconst 1, 1) := by decide +kernel
theorem dX6_tints_225 : decode cX6_tints 225 = .ok (.goto 4, 3) := by decide +kernel
theorem dX6_tints_228 : decode cX6_tints 228 = .ok (.iconst 0, 1) := by decide +kernel
theorem dX6_tints_229 : decode cX6_tints 229 = .ok (.ireturn, 1) := by decide +kernel
theorem dX6_ways_0 : decode cX6_ways 0 = .ok (.iconst 0, 1) := by decide +kernel
theorem dX6_ways_1 : decode cX6_ways 1 = .ok (.istore_n 1, 1) := by decide +kernel
theorem dX6_ways_2 : decode cX6_ways 2 = .ok (.iconst 0, 1) := by decide +kernel
theorem dX6_ways_3 : decode cX6_ways 3 = .ok (.istore_n 2, 1) := by decide +kernel
theorem dX6_ways_4 : decode cX6_ways 4 = .ok (.iload_n 2, 1) := by decide +kernel
theorem dX6_ways_5 : decode cX6_ways 5 = .ok (.aload_n 0, 1) := by decide +kernel
theorem dX6_ways_6 : decode cX6_ways 6 = .ok (.getfield 102, 3) := by decide +kernel
theorem dX6_ways_9 : decode cX6_ways 9 = .ok (.if_icmp .ge 26, 3) := by decide +kernel
theorem dX6_ways_12 : decode cX6_ways 12 = .ok (.iload_n 1, 1) := by decide +kernel
theorem dX6_ways_13 : decode cX6_ways 13 = .ok (.aload_n 0, 1) := by decide +kernel
theorem dX6_ways_14 : decode cX6_ways 14 = .ok (.getfield 32, 3) := by decide +kernel
theorem dX6_ways_17 : decode cX6_ways 17 = .ok (.iload_n 2, 1) := by decide +kernel
theorem dX6_ways_18 : decode cX6_ways 18 = .ok (.iaload, 1) := by decide +kernel
theorem dX6_ways_19 : decode cX6_ways 19 = .ok (.ifCond .le 7, 3) := by decide +kernel
theorem dX6_ways_22 : decode cX6_ways 22 = .ok (.iconst 1, 1) := by decide +kernel
theorem dX6_ways_23 : decode cX6_ways 23 = .ok (.goto 4, 3) := by decide +kernel
theorem dX6_ways_26 : decode cX6_ways 26 = .ok (.iconst 0, 1) := by decide +kernel
theorem dX6_ways_27 : decode cX6_ways 27 = .ok (.iadd, 1) := by decide +kernel
theorem dX6_ways_28 : decode cX6_ways 28 = .ok (.istore_n 1, 1) := by decide +kernel
theorem dX6_ways_29 : decode cX6_ways 29 = .ok (.iinc 2 1, 3) := by decide +kernel
theorem dX6_ways_32 : decode cX6_ways 32 = .ok (.goto (-28), 3) := by decide +kernel
theorem dX6_ways_35 : decode cX6_ways 35 = .ok (.iload_n 1, 1) := by decide +kernel
theorem dX6_ways_36 : decode cX6_ways 36 = .ok (.ireturn, 1) := by decide +kernel
theorem dX6_tint_0 : decode cX6_tint 0 = .ok (.aload_n 0, 1) := by decide +kernel
theorem dX6_tint_1 : decode cX6_tint 1 = .ok (.iconst 0, 1) := by decide +kernel
theorem dX6_tint_2 : decode cX6_tint 2 = .ok (.putfield 62, 3) := by decide +kernel
theorem dX6_tint_5 : decode cX6_tint 5 = .ok (.iload_n 1, 1) := by decide +kernel
theorem dX6_tint_6 : decode cX6_tint 6 = .ok (.ldc 93, 2) := by decide +kernel
theorem dX6_tint_8 : decode cX6_tint 8 = .ok (.if_icmp .eq 14, 3) := by decide +kernel
theorem dX6_tint_11 : decode cX6_tint 11 = .ok (.aload_n 0, 1) := by decide +kernel
theorem dX6_tint_12 : decode cX6_tint 12 = .ok (.iload_n 1, 1) := by decide +kernel
theorem dX6_tint_13 : decode cX6_tint 13 = .ok (.invokevirtual 128, 3) := by decide +kernel
theorem dX6_tint_16 : decode cX6_tint 16 = .ok (.ifCond .ne 6, 3) := by decide +kernel
theorem dX6_tint_19 : decode cX6_tint 19 = .ok (.ldc 82, 2) := by decide +kernel
theorem dX6_tint_21 : decode cX6_tint 21 = .ok (.ireturn, 1) := by decide +kernel
theorem dX6_tint_22 : decode cX6_tint 22 = .ok (.aload_n 0, 1) := by decide +kernel
theorem dX6_tint_23 : decode cX6_tint 23 = .ok (.invokevirtual 169, 3) := by decide +kernel
theorem dX6_tint_26 : decode cX6_tint 26 = .ok (.ifCond .ne 7, 3) := by decide +kernel
theorem dX6_tint_29 : decode cX6_tint 29 = .ok (.iconst 0, 1) := by decide +kernel
theorem dX6_tint_30 : decode cX6_tint 30 = .ok (.goto 4, 3) := by decide +kernel
theorem dX6_tint_33 : decode cX6_tint 33 = .ok (.iconst 1, 1) := by decide +kernel
theorem dX6_tint_34 : decode cX6_tint 34 = .ok (.istore_n 2, 1) := by decide +kernel
theorem dX6_tint_35 : decode cX6_tint 35 = .ok (.iload_n 2, 1) := by decide +kernel
theorem dX6_tint_36 : decode cX6_tint 36 = .ok (.ifCond .le 17, 3) := by decide +kernel
theorem dX6_tint_39 : decode cX6_tint 39 = .ok (.aload_n 0, 1) := by decide +kernel
theorem dX6_tint_40 : decode cX6_tint 40 = .ok (.iload_n 2, 1) := by decide +kernel
theorem dX6_tint_41 : decode cX6_tint 41 = .ok (.invokevirtual 172, 3) := by decide +kernel
theorem dX6_tint_44 : decode cX6_tint 44 = .ok (.ifCond .ne 9, 3) := by decide +kernel
theorem dX6_tint_47 : decode cX6_tint 47 = .ok (.iinc 2 1, 3) := by decide +kernel
theorem dX6_tint_50 : decode cX6_tint 50 = .ok (.goto (-15), 3) := by decide +kernel
theorem dX6_tint_53 : decode cX6_tint 53 = .ok (.iload_n 1, 1) := by decide +kernel
theorem dX6_tint_54 : decode cX6_tint 54 = .ok (.ldc 93, 2) := by decide +kernel
theorem dX6_tint_56 : decode cX6_tint 56 = .ok (.if_icmp .ne 7, 3) := by decide +kernel
theorem dX6_tint_59 : decode cX6_tint 59 = .ok (.iload_n 2, 1) := by decide +kernel
theorem dX6_tint_60 : decode cX6_tint 60 = .ok (.goto 23, 3) := by decide +kernel
theorem dX6_tint_63 : decode cX6_tint 63 = .ok (.aload_n 0, 1) := by decide +kernel
theorem dX6_tint_64 : decode cX6_tint 64 = .ok (.getfield 32, 3) := by decide +kernel
theorem dX6_tint_67 : decode cX6_tint 67 = .ok (.iload_n 1, 1) := by decide +kernel
theorem dX6_tint_68 : decode cX6_tint 68 = .ok (.iaload, 1) := by decide +kernel
theorem dX6_tint_69 : decode cX6_tint 69 = .ok (.ifCond .ne 8, 3) := by decide +kernel
theorem dX6_tint_72 : decode cX6_tint 72 = .ok (.ldc 93, 2) := by decide +kernel
theorem dX6_tint_74 : decode cX6_tint 74 = .ok (.goto 9, 3) := by decide +kernel
theorem dX6_tint_77 : decode cX6_tint 77 = .ok (.aload_n 0, 1) := by decide +kernel
theorem dX6_tint_78 : decode cX6_tint 78 = .ok (.getfield 56, 3) := by decide +kernel
theorem dX6_tint_81 : decode cX6_tint 81 = .ok (.iload_n 1, 1) := by decide +kernel
theorem dX6_tint_82 : decode cX6_tint 82 = .ok (.iaload, 1) := by decide +kernel
theorem dX6_tint_83 : decode cX6_tint 83 = .ok (.ireturn, 1) := by decide +kernel
theorem dX6_isEnd_0 : decode cX6_isEnd 0 = .ok (.iconst 0, 1) := by decide +kernel
theorem dX6_isEnd_1 : decode cX6_isEnd 1 = .ok (.istore_n 2, 1) := by decide +kernel
theorem dX6_isEnd_2 : decode cX6_isEnd 2 = .ok (.iconst 0, 1) := by decide +kernel
theorem dX6_isEnd_3 : decode cX6_isEnd 3 = .ok (.istore_n 3, 1) := by decide +kernel
theorem dX6_isEnd_4 : decode cX6_isEnd 4 = .ok (.iload_n 3, 1) := by decide +kernel
theorem dX6_isEnd_5 : decode cX6_isEnd 5 = .ok (.aload_n 0, 1) := by decide +kernel
theorem dX6_isEnd_6 : decode cX6_isEnd 6 = .ok (.getfield 102, 3) := by decide +kernel
theorem dX6_isEnd_9 : decode cX6_isEnd 9 = .ok (.if_icmp .ge 48, 3) := by decide +kernel
theorem dX6_isEnd_12 : decode cX6_isEnd 12 = .ok (.iload_n 2, 1) := by decide +kernel
theorem dX6_isEnd_13 : decode cX6_isEnd 13 = .ok (.ifCond .ne 32, 3) := by decide +kernel
theorem dX6_isEnd_16 : decode cX6_isEnd 16 = .ok (.aload_n 0, 1) := by decide +kernel
theorem dX6_isEnd_17 : decode cX6_isEnd 17 = .ok (.getfield 32, 3) := by decide +kernel
theorem dX6_isEnd_20 : decode cX6_isEnd 20 = .ok (.iload_n 3, 1) := by decide +kernel
theorem dX6_isEnd_21 : decode cX6_isEnd 21 = .ok (.iaload, 1) := by decide +kernel
theorem dX6_isEnd_22 : decode cX6_isEnd 22 = .ok (.ifCond .le 27, 3) := by decide +kernel
theorem dX6_isEnd_25 : decode cX6_isEnd 25 = .ok (.aload_n 0, 1) := by decide +kernel
theorem dX6_isEnd_26 : decode cX6_isEnd 26 = .ok (.getfield 26, 3) := by decide +kernel
theorem dX6_isEnd_29 : decode cX6_isEnd 29 = .ok (.iload_n 3, 1) := by decide +kernel
theorem dX6_isEnd_30 : decode cX6_isEnd 30 = .ok (.iaload, 1) := by decide +kernel
theorem dX6_isEnd_31 : decode cX6_isEnd 31 = .ok (.iload_n 1, 1) := by decide +kernel
theorem dX6_isEnd_32 : decode cX6_isEnd 32 = .ok (.if_icmp .eq 13, 3) := by decide +kernel
theorem dX6_isEnd_35 : decode cX6_isEnd 35 = .ok (.aload_n 0, 1) := by decide +kernel
theorem dX6_isEnd_36 : decode cX6_isEnd 36 = .ok (.getfield 29, 3) := by decide +kernel
theorem dX6_isEnd_39 : decode cX6_isEnd 39 = .ok (.iload_n 3, 1) := by decide +kernel
theorem dX6_isEnd_40 : decode cX6_isEnd 40 = .ok (.iaload, 1) := by decide +kernel
theorem dX6_isEnd_41 : decode cX6_isEnd 41 = .ok (.iload_n 1, 1) := by decide +kernel
theorem dX6_isEnd_42 : decode cX6_isEnd 42 = .ok (.if_icmp .ne 7, 3) := by decide +kernel
theorem dX6_isEnd_45 : decode cX6_isEnd 45 = .ok (.iconst 1, 1) := by decide +kernel
theorem dX6_isEnd_46 : decode cX6_isEnd 46 = .ok (.goto 4, 3) := by decide +kernel
theorem dX6_isEnd_49 : decode cX6_isEnd 49 = .ok (.iconst 0, 1) := by decide +kernel
theorem dX6_isEnd_50 : decode cX6_isEnd 50 = .ok (.istore_n 2, 1) := by decide +kernel
theorem dX6_isEnd_51 : decode cX6_isEnd 51 = .ok (.iinc 3 1, 3) := by decide +kernel
theorem dX6_isEnd_54 : decode cX6_isEnd 54 = .ok (.goto (-50), 3) := by decide +kernel
theorem dX6_isEnd_57 : decode cX6_isEnd 57 = .ok (.iload_n 2, 1) := by decide +kernel
theorem dX6_isEnd_58 : decode cX6_isEnd 58 = .ok (.ireturn, 1) := by decide +kernel
theorem dX6_isWide_0 : decode cX6_isWide 0 = .ok (.iload_n 1, 1) := by decide +kernel
theorem dX6_isWide_1 : decode cX6_isWide 1 = .ok (.iload_n 2, 1) := by decide +kernel
theorem dX6_isWide_2 : decode cX6_isWide 2 = .ok (.invokestatic 105, 3) := by decide +kernel
theorem dX6_isWide_5 : decode cX6_isWide 5 = .ok (.ldc 93, 2) := by decide +kernel
theorem dX6_isWide_7 : decode cX6_isWide 7 = .ok (.if_icmp .eq 19, 3) := by decide +kernel
theorem dX6_isWide_10 : decode cX6_isWide 10 = .ok (.aload_n 0, 1) := by decide +kernel
theorem dX6_isWide_11 : decode cX6_isWide 11 = .ok (.iload_n 1, 1) := by decide +kernel
theorem dX6_isWide_12 : decode cX6_isWide 12 = .ok (.iload_n 2, 1) := by decide +kernel
theorem dX6_isWide_13 : decode cX6_isWide 13 = .ok (.invokestatic 109, 3) := by decide +kernel
theorem dX6_isWide_16 : decode cX6_isWide 16 = .ok (.invokevirtual 112, 3) := by decide +kernel
theorem dX6_isWide_19 : decode cX6_isWide 19 = .ok (.ifCond .le 7, 3) := by decide +kernel
theorem dX6_isWide_22 : decode cX6_isWide 22 = .ok (.iconst 1, 1) := by decide +kernel
theorem dX6_isWide_23 : decode cX6_isWide 23 = .ok (.goto 4, 3) := by decide +kernel
theorem dX6_isWide_26 : decode cX6_isWide 26 = .ok (.iconst 0, 1) := by decide +kernel
theorem dX6_isWide_27 : decode cX6_isWide 27 = .ok (.ireturn, 1) := by decide +kernel
theorem dX6_reads_0 : decode cX6_reads 0 = .ok (.aload_n 0, 1) := by decide +kernel
theorem dX6_reads_1 : decode cX6_reads 1 = .ok (.iconst 0, 1) := by decide +kernel
theorem dX6_reads_2 : decode cX6_reads 2 = .ok (.putfield 62, 3) := by decide +kernel
theorem dX6_reads_5 : decode cX6_reads 5 = .ok (.aload_n 0, 1) := by decide +kernel
theorem dX6_reads_6 : decode cX6_reads 6 = .ok (.iload_n 1, 1) := by decide +kernel
theorem dX6_reads_7 : decode cX6_reads 7 = .ok (.invokevirtual 118, 3) := by decide +kernel
theorem dX6_reads_10 : decode cX6_reads 10 = .ok (.ifCond .eq 15, 3) := by decide +kernel
theorem dX6_reads_13 : decode cX6_reads 13 = .ok (.iload_n 2, 1) := by decide +kernel
theorem dX6_reads_14 : decode cX6_reads 14 = .ok (.i2l, 1) := by decide +kernel
theorem dX6_reads_15 : decode cX6_reads 15 = .ok (.lconst 0, 1) := by decide +kernel
theorem dX6_reads_16 : decode cX6_reads 16 = .ok (.ldc2_w 143, 3) := by decide +kernel
theorem dX6_reads_19 : decode cX6_reads 19 = .ok (.invokestatic 72, 3) := by decide +kernel
theorem dX6_reads_22 : decode cX6_reads 22 = .ok (.ifCond .ne 6, 3) := by decide +kernel
theorem dX6_reads_25 : decode cX6_reads 25 = .ok (.ldc 82, 2) := by decide +kernel
theorem dX6_reads_27 : decode cX6_reads 27 = .ok (.ireturn, 1) := by decide +kernel
theorem dX6_reads_28 : decode cX6_reads 28 = .ok (.aload_n 0, 1) := by decide +kernel
theorem dX6_reads_29 : decode cX6_reads 29 = .ok (.getfield 23, 3) := by decide +kernel
theorem dX6_reads_32 : decode cX6_reads 32 = .ok (.iload_n 1, 1) := by decide +kernel
theorem dX6_reads_33 : decode cX6_reads 33 = .ok (.iaload, 1) := by decide +kernel
theorem dX6_reads_34 : decode cX6_reads 34 = .ok (.istore_n 3, 1) := by decide +kernel
theorem dX6_reads_35 : decode cX6_reads 35 = .ok (.aload_n 0, 1) := by decide +kernel
theorem dX6_reads_36 : decode cX6_reads 36 = .ok (.iload_n 3, 1) := by decide +kernel
theorem dX6_reads_37 : decode cX6_reads 37 = .ok (.iload_n 2, 1) := by decide +kernel
theorem dX6_reads_38 : decode cX6_reads 38 = .ok (.invokevirtual 175, 3) := by decide +kernel
theorem dX6_reads_41 : decode cX6_reads 41 = .ok (.ifCond .ne 6, 3) := by decide +kernel
theorem dX6_reads_44 : decode cX6_reads 44 = .ok (.ldc 100, 2) := by decide +kernel
theorem dX6_reads_46 : decode cX6_reads 46 = .ok (.ireturn, 1) := by decide +kernel
theorem dX6_reads_47 : decode cX6_reads 47 = .ok (.iload_n 2, 1) := by decide +kernel
theorem dX6_reads_48 : decode cX6_reads 48 = .ok (.istore 4, 2) := by decide +kernel
theorem dX6_reads_50 : decode cX6_reads 50 = .ok (.iconst 1, 1) := by decide +kernel
theorem dX6_reads_51 : decode cX6_reads 51 = .ok (.istore 5, 2) := by decide +kernel
theorem dX6_reads_53 : decode cX6_reads 53 = .ok (.iload 5, 2) := by decide +kernel
theorem dX6_reads_55 : decode cX6_reads 55 = .ok (.bipush 100, 2) := by decide +kernel
theorem dX6_reads_57 : decode cX6_reads 57 = .ok (.if_icmp .gt 111, 3) := by decide +kernel
theorem dX6_reads_60 : decode cX6_reads 60 = .ok (.iload_n 3, 1) := by decide +kernel
theorem dX6_reads_61 : decode cX6_reads 61 = .ok (.iload 4, 2) := by decide +kernel
theorem dX6_reads_63 : decode cX6_reads 63 = .ok (.invokestatic 105, 3) := by decide +kernel
theorem dX6_reads_66 : decode cX6_reads 66 = .ok (.istore_n 3, 1) := by decide +kernel
theorem dX6_reads_67 : decode cX6_reads 67 = .ok (.aload_n 0, 1) := by decide +kernel
theorem dX6_reads_68 : decode cX6_reads 68 = .ok (.iload_n 3, 1) := by decide +kernel
theorem dX6_reads_69 : decode cX6_reads 69 = .ok (.invokevirtual 97, 3) := by decide +kernel
theorem dX6_reads_72 : decode cX6_reads 72 = .ok (.istore 6, 2) := by decide +kernel
theorem dX6_reads_74 : decode cX6_reads 74 = .ok (.iload 6, 2) := by decide +kernel
theorem dX6_reads_76 : decode cX6_reads 76 = .ok (.ldc 93, 2) := by decide +kernel
theorem dX6_reads_78 : decode cX6_reads 78 = .ok (.if_icmp .eq 21, 3) := by decide +kernel
theorem dX6_reads_81 : decode cX6_reads 81 = .ok (.iload 6, 2) := by decide +kernel
theorem dX6_reads_83 : decode cX6_reads 83 = .ok (.iload_n 1, 1) := by decide +kernel
theorem dX6_reads_84 : decode cX6_reads 84 = .ok (.if_icmp .eq 15, 3) := by decide +kernel
theorem dX6_reads_87 : decode cX6_reads 87 = .ok (.aload_n 0, 1) := by decide +kernel
theorem dX6_reads_88 : decode cX6_reads 88 = .ok (.iload 6, 2) := by decide +kernel
theorem dX6_reads_90 : decode cX6_reads 90 = .ok (.invokevirtual 178, 3) := by decide +kernel
theorem dX6_reads_93 : decode cX6_reads 93 = .ok (.ifCond .eq 6, 3) := by decide +kernel
theorem dX6_reads_96 : decode cX6_reads 96 = .ok (.iload 6, 2) := by decide +kernel
theorem dX6_reads_98 : decode cX6_reads 98 = .ok (.ireturn, 1) := by decide +kernel
theorem dX6_reads_99 : decode cX6_reads 99 = .ok (.aload_n 0, 1) := by decide +kernel
theorem dX6_reads_100 : decode cX6_reads 100 = .ok (.iload_n 3, 1) := by decide +kernel
theorem dX6_reads_101 : decode cX6_reads 101 = .ok (.iload 4, 2) := by decide +kernel
theorem dX6_reads_103 : decode cX6_reads 103 = .ok (.invokevirtual 175, 3) := by decide +kernel
theorem dX6_reads_106 : decode cX6_reads 106 = .ok (.ifCond .ne 56, 3) := by decide +kernel
theorem dX6_reads_109 : decode cX6_reads 109 = .ok (.aload_n 0, 1) := by decide +kernel
theorem dX6_reads_110 : decode cX6_reads 110 = .ok (.iload_n 3, 1) := by decide +kernel
theorem dX6_reads_111 : decode cX6_reads 111 = .ok (.iload 4, 2) := by decide +kernel
theorem dX6_reads_113 : decode cX6_reads 113 = .ok (.iconst 1, 1) := by decide +kernel
theorem dX6_reads_114 : decode cX6_reads 114 = .ok (.iadd, 1) := by decide +kernel
theorem dX6_reads_115 : decode cX6_reads 115 = .ok (.iconst 4, 1) := by decide +kernel
theorem dX6_reads_116 : decode cX6_reads 116 = .ok (.irem, 1) := by decide +kernel
theorem dX6_reads_117 : decode cX6_reads 117 = .ok (.invokevirtual 175, 3) := by decide +kernel
theorem dX6_reads_120 : decode cX6_reads 120 = .ok (.ifCond .eq 14, 3) := by decide +kernel
theorem dX6_reads_123 : decode cX6_reads 123 = .ok (.iload 4, 2) := by decide +kernel
theorem dX6_reads_125 : decode cX6_reads 125 = .ok (.iconst 1, 1) := by decide +kernel
theorem dX6_reads_126 : decode cX6_reads 126 = .ok (.iadd, 1) := by decide +kernel
theorem dX6_reads_127 : decode cX6_reads 127 = .ok (.iconst 4, 1) := by decide +kernel
theorem dX6_reads_128 : decode cX6_reads 128 = .ok (.irem, 1) := by decide +kernel
theorem dX6_reads_129 : decode cX6_reads 129 = .ok (.istore 4, 2) := by decide +kernel
theorem dX6_reads_131 : decode cX6_reads 131 = .ok (.goto 31, 3) := by decide +kernel
theorem dX6_reads_134 : decode cX6_reads 134 = .ok (.aload_n 0, 1) := by decide +kernel
theorem dX6_reads_135 : decode cX6_reads 135 = .ok (.iload_n 3, 1) := by decide +kernel
theorem dX6_reads_136 : decode cX6_reads 136 = .ok (.iload 4, 2) := by decide +kernel
theorem dX6_reads_138 : decode cX6_reads 138 = .ok (.iconst 3, 1) := by decide +kernel
theorem dX6_reads_139 : decode cX6_reads 139 = .ok (.iadd, 1) := by decide +kernel
theorem dX6_reads_140 : decode cX6_reads 140 = .ok (.iconst 4, 1) := by decide +kernel
theorem dX6_reads_141 : decode cX6_reads 141 = .ok (.irem, 1) := by decide +kernel
theorem dX6_reads_142 : decode cX6_reads 142 = .ok (.invokevirtual 175, 3) := by decide +kernel
theorem dX6_reads_145 : decode cX6_reads 145 = .ok (.ifCond .eq 14, 3) := by decide +kernel
theorem dX6_reads_148 : decode cX6_reads 148 = .ok (.iload 4, 2) := by decide +kernel
theorem dX6_reads_150 : decode cX6_reads 150 = .ok (.iconst 3, 1) := by decide +kernel
theorem dX6_reads_151 : decode cX6_reads 151 = .ok (.iadd, 1) := by decide +kernel
theorem dX6_reads_152 : decode cX6_reads 152 = .ok (.iconst 4, 1) := by decide +kernel
theorem dX6_reads_153 : decode cX6_reads 153 = .ok (.irem, 1) := by decide +kernel
theorem dX6_reads_154 : decode cX6_reads 154 = .ok (.istore 4, 2) := by decide +kernel
theorem dX6_reads_156 : decode cX6_reads 156 = .ok (.goto 6, 3) := by decide +kernel
theorem dX6_reads_159 : decode cX6_reads 159 = .ok (.iload 6, 2) := by decide +kernel
theorem dX6_reads_161 : decode cX6_reads 161 = .ok (.ireturn, 1) := by decide +kernel
theorem dX6_reads_162 : decode cX6_reads 162 = .ok (.iinc 5 1, 3) := by decide +kernel
theorem dX6_reads_165 : decode cX6_reads 165 = .ok (.goto (-112), 3) := by decide +kernel
theorem dX6_reads_168 : decode cX6_reads 168 = .ok (.aload_n 0, 1) := by decide +kernel
theorem dX6_reads_169 : decode cX6_reads 169 = .ok (.iload_n 3, 1) := by decide +kernel
theorem dX6_reads_170 : decode cX6_reads 170 = .ok (.invokevirtual 97, 3) := by decide +kernel
theorem dX6_reads_173 : decode cX6_reads 173 = .ok (.ireturn, 1) := by decide +kernel
theorem dX6_sharing_0 : decode cX6_sharing 0 = .ok (.iconst 0, 1) := by decide +kernel
theorem dX6_sharing_1 : decode cX6_sharing 1 = .ok (.istore_n 2, 1) := by decide +kernel
theorem dX6_sharing_2 : decode cX6_sharing 2 = .ok (.iconst 0, 1) := by decide +kernel
theorem dX6_sharing_3 : decode cX6_sharing 3 = .ok (.istore_n 3, 1) := by decide +kernel
theorem dX6_sharing_4 : decode cX6_sharing 4 = .ok (.iload_n 3, 1) := by decide +kernel
theorem dX6_sharing_5 : decode cX6_sharing 5 = .ok (.sipush 180, 3) := by decide +kernel
theorem dX6_sharing_8 : decode cX6_sharing 8 = .ok (.if_icmp .ge 41, 3) := by decide +kernel
theorem dX6_sharing_11 : decode cX6_sharing 11 = .ok (.iload_n 2, 1) := by decide +kernel
theorem dX6_sharing_12 : decode cX6_sharing 12 = .ok (.aload_n 0, 1) := by decide +kernel
theorem dX6_sharing_13 : decode cX6_sharing 13 = .ok (.getfield 38, 3) := by decide +kernel
theorem dX6_sharing_16 : decode cX6_sharing 16 = .ok (.sipush 180, 3) := by decide +kernel
theorem dX6_sharing_19 : decode cX6_sharing 19 = .ok (.iload_n 1, 1) := by decide +kernel
theorem dX6_sharing_20 : decode cX6_sharing 20 = .ok (.imul, 1) := by decide +kernel
theorem dX6_sharing_21 : decode cX6_sharing 21 = .ok (.iload_n 3, 1) := by decide +kernel
theorem dX6_sharing_22 : decode cX6_sharing 22 = .ok (.iadd, 1) := by decide +kernel
theorem dX6_sharing_23 : decode cX6_sharing 23 = .ok (.baload, 1) := by decide +kernel
theorem dX6_sharing_24 : decode cX6_sharing 24 = .ok (.ifCond .eq 16, 3) := by decide +kernel
theorem dX6_sharing_27 : decode cX6_sharing 27 = .ok (.aload_n 0, 1) := by decide +kernel
theorem dX6_sharing_28 : decode cX6_sharing 28 = .ok (.iload_n 3, 1) := by decide +kernel
theorem dX6_sharing_29 : decode cX6_sharing 29 = .ok (.invokevirtual 112, 3) := by decide +kernel
theorem dX6_sharing_32 : decode cX6_sharing 32 = .ok (.iconst 1, 1) := by decide +kernel
theorem dX6_sharing_33 : decode cX6_sharing 33 = .ok (.if_icmp .le 7, 3) := by decide +kernel
theorem dX6_sharing_36 : decode cX6_sharing 36 = .ok (.iconst 1, 1) := by decide +kernel
theorem dX6_sharing_37 : decode cX6_sharing 37 = .ok (.goto 4, 3) := by decide +kernel
theorem dX6_sharing_40 : decode cX6_sharing 40 = .ok (.iconst 0, 1) := by decide +kernel
theorem dX6_sharing_41 : decode cX6_sharing 41 = .ok (.iadd, 1) := by decide +kernel
theorem dX6_sharing_42 : decode cX6_sharing 42 = .ok (.istore_n 2, 1) := by decide +kernel
theorem dX6_sharing_43 : decode cX6_sharing 43 = .ok (.iinc 3 1, 3) := by decide +kernel
theorem dX6_sharing_46 : decode cX6_sharing 46 = .ok (.goto (-42), 3) := by decide +kernel
theorem dX6_sharing_49 : decode cX6_sharing 49 = .ok (.iload_n 2, 1) := by decide +kernel
theorem dX6_sharing_50 : decode cX6_sharing 50 = .ok (.ireturn, 1) := by decide +kernel
theorem dX6_kindOf_0 : decode cX6_kindOf 0 = .ok (.aload_n 0, 1) := by decide +kernel
theorem dX6_kindOf_1 : decode cX6_kindOf 1 = .ok (.iload_n 1, 1) := by decide +kernel
theorem dX6_kindOf_2 : decode cX6_kindOf 2 = .ok (.invokevirtual 181, 3) := by decide +kernel
theorem dX6_kindOf_5 : decode cX6_kindOf 5 = .ok (.istore_n 2, 1) := by decide +kernel
theorem dX6_kindOf_6 : decode cX6_kindOf 6 = .ok (.iload_n 2, 1) := by decide +kernel
theorem dX6_kindOf_7 : decode cX6_kindOf 7 = .ok (.ifCond .ne 7, 3) := by decide +kernel
theorem dX6_kindOf_10 : decode cX6_kindOf 10 = .ok (.iconst 1, 1) := by decide +kernel
theorem dX6_kindOf_11 : decode cX6_kindOf 11 = .ok (.goto 18, 3) := by decide +kernel
theorem dX6_kindOf_14 : decode cX6_kindOf 14 = .ok (.iload_n 2, 1) := by decide +kernel
theorem dX6_kindOf_15 : decode cX6_kindOf 15 = .ok (.aload_n 0, 1) := by decide +kernel
theorem dX6_kindOf_16 : decode cX6_kindOf 16 = .ok (.getfield 32, 3) := by decide +kernel
theorem dX6_kindOf_19 : decode cX6_kindOf 19 = .ok (.iload_n 1, 1) := by decide +kernel
theorem dX6_kindOf_20 : decode cX6_kindOf 20 = .ok (.iaload, 1) := by decide +kernel
theorem dX6_kindOf_21 : decode cX6_kindOf 21 = .ok (.if_icmp .ne 7, 3) := by decide +kernel
theorem dX6_kindOf_24 : decode cX6_kindOf 24 = .ok (.iconst 2, 1) := by decide +kernel
theorem dX6_kindOf_25 : decode cX6_kindOf 25 = .ok (.goto 4, 3) := by decide +kernel
theorem dX6_kindOf_28 : decode cX6_kindOf 28 = .ok (.iconst 3, 1) := by decide +kernel
theorem dX6_kindOf_29 : decode cX6_kindOf 29 = .ok (.ireturn, 1) := by decide +kernel
theorem dX6_kind_0 : decode cX6_kind 0 = .ok (.aload_n 0, 1) := by decide +kernel
theorem dX6_kind_1 : decode cX6_kind 1 = .ok (.iconst 0, 1) := by decide +kernel
theorem dX6_kind_2 : decode cX6_kind 2 = .ok (.putfield 62, 3) := by decide +kernel
theorem dX6_kind_5 : decode cX6_kind 5 = .ok (.aload_n 0, 1) := by decide +kernel
theorem dX6_kind_6 : decode cX6_kind 6 = .ok (.iload_n 1, 1) := by decide +kernel
theorem dX6_kind_7 : decode cX6_kind 7 = .ok (.invokevirtual 128, 3) := by decide +kernel
theorem dX6_kind_10 : decode cX6_kind 10 = .ok (.ifCond .ne 8, 3) := by decide +kernel
theorem dX6_kind_13 : decode cX6_kind 13 = .ok (.ldc 82, 2) := by decide +kernel
theorem dX6_kind_15 : decode cX6_kind 15 = .ok (.goto 22, 3) := by decide +kernel
theorem dX6_kind_18 : decode cX6_kind 18 = .ok (.aload_n 0, 1) := by decide +kernel
theorem dX6_kind_19 : decode cX6_kind 19 = .ok (.getfield 32, 3) := by decide +kernel
theorem dX6_kind_22 : decode cX6_kind 22 = .ok (.iload_n 1, 1) := by decide +kernel
theorem dX6_kind_23 : decode cX6_kind 23 = .ok (.iaload, 1) := by decide +kernel
theorem dX6_kind_24 : decode cX6_kind 24 = .ok (.ifCond .ne 8, 3) := by decide +kernel
theorem dX6_kind_27 : decode cX6_kind 27 = .ok (.ldc 93, 2) := by decide +kernel
theorem dX6_kind_29 : decode cX6_kind 29 = .ok (.goto 8, 3) := by decide +kernel
theorem dX6_kind_32 : decode cX6_kind 32 = .ok (.aload_n 0, 1) := by decide +kernel
theorem dX6_kind_33 : decode cX6_kind 33 = .ok (.iload_n 1, 1) := by decide +kernel
theorem dX6_kind_34 : decode cX6_kind 34 = .ok (.invokevirtual 184, 3) := by decide +kernel
theorem dX6_kind_37 : decode cX6_kind 37 = .ok (.ireturn, 1) := by decide +kernel
theorem dX6_as_0 : decode cX6_as 0 = .ok (.aload_n 0, 1) := by decide +kernel
theorem dX6_as_1 : decode cX6_as 1 = .ok (.iconst 0, 1) := by decide +kernel
theorem dX6_as_2 : decode cX6_as 2 = .ok (.putfield 62, 3) := by decide +kernel
theorem dX6_as_5 : decode cX6_as 5 = .ok (.aload_n 0, 1) := by decide +kernel
theorem dX6_as_6 : decode cX6_as 6 = .ok (.iload_n 1, 1) := by decide +kernel
theorem dX6_as_7 : decode cX6_as 7 = .ok (.invokevirtual 128, 3) := by decide +kernel
theorem dX6_as_10 : decode cX6_as 10 = .ok (.ifCond .eq 15, 3) := by decide +kernel
theorem dX6_as_13 : decode cX6_as 13 = .ok (.iload_n 2, 1) := by decide +kernel
theorem dX6_as_14 : decode cX6_as 14 = .ok (.i2l, 1) := by decide +kernel
theorem dX6_as_15 : decode cX6_as 15 = .ok (.lconst 0, 1) := by decide +kernel
theorem dX6_as_16 : decode cX6_as 16 = .ok (.ldc2_w 143, 3) := by decide +kernel
theorem dX6_as_19 : decode cX6_as 19 = .ok (.invokestatic 72, 3) := by decide +kernel
theorem dX6_as_22 : decode cX6_as 22 = .ok (.ifCond .ne 6, 3) := by decide +kernel
theorem dX6_as_25 : decode cX6_as 25 = .ok (.ldc 82, 2) := by decide +kernel
theorem dX6_as_27 : decode cX6_as 27 = .ok (.ireturn, 1) := by decide +kernel
theorem dX6_as_28 : decode cX6_as 28 = .ok (.aload_n 0, 1) := by decide +kernel
theorem dX6_as_29 : decode cX6_as 29 = .ok (.getfield 32, 3) := by decide +kernel
theorem dX6_as_32 : decode cX6_as 32 = .ok (.iload_n 1, 1) := by decide +kernel
theorem dX6_as_33 : decode cX6_as 33 = .ok (.iaload, 1) := by decide +kernel
theorem dX6_as_34 : decode cX6_as 34 = .ok (.ifCond .ne 6, 3) := by decide +kernel
theorem dX6_as_37 : decode cX6_as 37 = .ok (.ldc 100, 2) := by decide +kernel
theorem dX6_as_39 : decode cX6_as 39 = .ok (.ireturn, 1) := by decide +kernel
theorem dX6_as_40 : decode cX6_as 40 = .ok (.aload_n 0, 1) := by decide +kernel
theorem dX6_as_41 : decode cX6_as 41 = .ok (.iconst 0, 1) := by decide +kernel
theorem dX6_as_42 : decode cX6_as 42 = .ok (.putfield 66, 3) := by decide +kernel
theorem dX6_as_45 : decode cX6_as 45 = .ok (.iload_n 2, 1) := by decide +kernel
theorem dX6_as_46 : decode cX6_as 46 = .ok (.ifCond .eq 12, 3) := by decide +kernel
theorem dX6_as_49 : decode cX6_as 49 = .ok (.aload_n 0, 1) := by decide +kernel
theorem dX6_as_50 : decode cX6_as 50 = .ok (.iload_n 1, 1) := by decide +kernel
theorem dX6_as_51 : decode cX6_as 51 = .ok (.invokevirtual 184, 3) := by decide +kernel
theorem dX6_as_54 : decode cX6_as 54 = .ok (.iload_n 2, 1) := by decide +kernel
theorem dX6_as_55 : decode cX6_as 55 = .ok (.if_icmp .ne 12, 3) := by decide +kernel
theorem dX6_as_58 : decode cX6_as 58 = .ok (.aload_n 0, 1) := by decide +kernel
theorem dX6_as_59 : decode cX6_as 59 = .ok (.getfield 32, 3) := by decide +kernel
theorem dX6_as_62 : decode cX6_as 62 = .ok (.iload_n 1, 1) := by decide +kernel
theorem dX6_as_63 : decode cX6_as 63 = .ok (.iaload, 1) := by decide +kernel
theorem dX6_as_64 : decode cX6_as 64 = .ok (.goto 8, 3) := by decide +kernel
theorem dX6_as_67 : decode cX6_as 67 = .ok (.aload_n 0, 1) := by decide +kernel
theorem dX6_as_68 : decode cX6_as 68 = .ok (.iconst 3, 1) := by decide +kernel
theorem dX6_as_69 : decode cX6_as 69 = .ok (.invokevirtual 83, 3) := by decide +kernel
theorem dX6_as_72 : decode cX6_as 72 = .ok (.ireturn, 1) := by decide +kernel
theorem dX6_began_0 : decode cX6_began 0 = .ok (.aload_n 0, 1) := by decide +kernel
theorem dX6_began_1 : decode cX6_began 1 = .ok (.getfield 187, 3) := by decide +kernel
theorem dX6_began_4 : decode cX6_began 4 = .ok (.bipush 16, 2) := by decide +kernel
theorem dX6_began_6 : decode cX6_began 6 = .ok (.if_icmp .ge 23, 3) := by decide +kernel
theorem dX6_began_9 : decode cX6_began 9 = .ok (.aload_n 0, 1) := by decide +kernel
theorem dX6_began_10 : decode cX6_began 10 = .ok (.getfield 59, 3) := by decide +kernel
theorem dX6_began_13 : decode cX6_began 13 = .ok (.aload_n 0, 1) := by decide +kernel
theorem dX6_began_14 : decode cX6_began 14 = .ok (.getfield 187, 3) := by decide +kernel
theorem dX6_began_17 : decode cX6_began 17 = .ok (.iload_n 1, 1) := by decide +kernel
theorem dX6_began_18 : decode cX6_began 18 = .ok (.iastore, 1) := by decide +kernel
theorem dX6_began_19 : decode cX6_began 19 = .ok (.aload_n 0, 1) := by decide +kernel
theorem dX6_began_20 : decode cX6_began 20 = .ok (.dup, 1) := by decide +kernel
theorem dX6_began_21 : decode cX6_began 21 = .ok (.getfield 187, 3) := by decide +kernel
theorem dX6_began_24 : decode cX6_began 24 = .ok (.iconst 1, 1) := by decide +kernel
theorem dX6_began_25 : decode cX6_began 25 = .ok (.iadd, 1) := by decide +kernel
theorem dX6_began_26 : decode cX6_began 26 = .ok (.putfield 187, 3) := by decide +kernel
theorem dX6_began_29 : decode cX6_began 29 = .ok (.return_, 1) := by decide +kernel
theorem dX6_sized_0 : decode cX6_sized 0 = .ok (.aload_n 0, 1) := by decide +kernel
theorem dX6_sized_1 : decode cX6_sized 1 = .ok (.iload_n 1, 1) := by decide +kernel
theorem dX6_sized_2 : decode cX6_sized 2 = .ok (.invokevirtual 184, 3) := by decide +kernel
theorem dX6_sized_5 : decode cX6_sized 5 = .ok (.istore_n 2, 1) := by decide +kernel
theorem dX6_sized_6 : decode cX6_sized 6 = .ok (.iload_n 2, 1) := by decide +kernel
theorem dX6_sized_7 : decode cX6_sized 7 = .ok (.iconst 1, 1) := by decide +kernel
theorem dX6_sized_8 : decode cX6_sized 8 = .ok (.if_icmp .ne 28, 3) := by decide +kernel
theorem dX6_sized_11 : decode cX6_sized 11 = .ok (.aload_n 0, 1) := by decide +kernel
theorem dX6_sized_12 : decode cX6_sized 12 = .ok (.bipush 11, 2) := by decide +kernel
theorem dX6_sized_14 : decode cX6_sized 14 = .ok (.invokevirtual 190, 3) := by decide +kernel
theorem dX6_sized_17 : decode cX6_sized 17 = .ok (.aload_n 0, 1) := by decide +kernel
theorem dX6_sized_18 : decode cX6_sized 18 = .ok (.bipush 10, 2) := by decide +kernel
theorem dX6_sized_20 : decode cX6_sized 20 = .ok (.invokevirtual 190, 3) := by decide +kernel
theorem dX6_sized_23 : decode cX6_sized 23 = .ok (.aload_n 0, 1) := by decide +kernel
theorem dX6_sized_24 : decode cX6_sized 24 = .ok (.getfield 32, 3) := by decide +kernel
theorem dX6_sized_27 : decode cX6_sized 27 = .ok (.iload_n 1, 1) := by decide +kernel
theorem dX6_sized_28 : decode cX6_sized 28 = .ok (.iaload, 1) := by decide +kernel
theorem dX6_sized_29 : decode cX6_sized 29 = .ok (.aload_n 0, 1) := by decide +kernel
theorem dX6_sized_30 : decode cX6_sized 30 = .ok (.iload_n 1, 1) := by decide +kernel
theorem dX6_sized_31 : decode cX6_sized 31 = .ok (.invokevirtual 160, 3) := by decide +kernel
theorem dX6_sized_34 : decode cX6_sized 34 = .ok (.iadd, 1) := by decide +kernel
theorem dX6_sized_35 : decode cX6_sized 35 = .ok (.ireturn, 1) := by decide +kernel
theorem dX6_sized_36 : decode cX6_sized 36 = .ok (.iload_n 2, 1) := by decide +kernel
theorem dX6_sized_37 : decode cX6_sized 37 = .ok (.iconst 2, 1) := by decide +kernel
theorem dX6_sized_38 : decode cX6_sized 38 = .ok (.if_icmp .ne 24, 3) := by decide +kernel
theorem dX6_sized_41 : decode cX6_sized 41 = .ok (.aload_n 0, 1) := by decide +kernel
theorem dX6_sized_42 : decode cX6_sized 42 = .ok (.bipush 12, 2) := by decide +kernel
theorem dX6_sized_44 : decode cX6_sized 44 = .ok (.invokevirtual 190, 3) := by decide +kernel
theorem dX6_sized_47 : decode cX6_sized 47 = .ok (.aload_n 0, 1) := by decide +kernel
theorem dX6_sized_48 : decode cX6_sized 48 = .ok (.bipush 10, 2) := by decide +kernel
theorem dX6_sized_50 : decode cX6_sized 50 = .ok (.invokevirtual 190, 3) := by decide +kernel
theorem dX6_sized_53 : decode cX6_sized 53 = .ok (.iconst 2, 1) := by decide +kernel
theorem dX6_sized_54 : decode cX6_sized 54 = .ok (.aload_n 0, 1) := by decide +kernel
theorem dX6_sized_55 : decode cX6_sized 55 = .ok (.getfield 32, 3) := by decide +kernel
theorem dX6_sized_58 : decode cX6_sized 58 = .ok (.iload_n 1, 1) := by decide +kernel
theorem dX6_sized_59 : decode cX6_sized 59 = .ok (.iaload, 1) := by decide +kernel
theorem dX6_sized_60 : decode cX6_sized 60 = .ok (.imul, 1) := by decide +kernel
theorem dX6_sized_61 : decode cX6_sized 61 = .ok (.ireturn, 1) := by decide +kernel
theorem dX6_sized_62 : decode cX6_sized 62 = .ok (.aload_n 0, 1) := by decide +kernel
theorem dX6_sized_63 : decode cX6_sized 63 = .ok (.bipush 13, 2) := by decide +kernel
theorem dX6_sized_65 : decode cX6_sized 65 = .ok (.invokevirtual 190, 3) := by decide +kernel
theorem dX6_sized_68 : decode cX6_sized 68 = .ok (.aload_n 0, 1) := by decide +kernel
theorem dX6_sized_69 : decode cX6_sized 69 = .ok (.bipush 10, 2) := by decide +kernel
theorem dX6_sized_71 : decode cX6_sized 71 = .ok (.invokevirtual 190, 3) := by decide +kernel
theorem dX6_sized_74 : decode cX6_sized 74 = .ok (.aload_n 0, 1) := by decide +kernel
theorem dX6_sized_75 : decode cX6_sized 75 = .ok (.bipush 22, 2) := by decide +kernel
theorem dX6_sized_77 : decode cX6_sized 77 = .ok (.invokevirtual 190, 3) := by decide +kernel
theorem dX6_sized_80 : decode cX6_sized 80 = .ok (.aload_n 0, 1) := by decide +kernel
theorem dX6_sized_81 : decode cX6_sized 81 = .ok (.bipush 20, 2) := by decide +kernel
theorem dX6_sized_83 : decode cX6_sized 83 = .ok (.invokevirtual 190, 3) := by decide +kernel
theorem dX6_sized_86 : decode cX6_sized 86 = .ok (.aload_n 0, 1) := by decide +kernel
theorem dX6_sized_87 : decode cX6_sized 87 = .ok (.getfield 32, 3) := by decide +kernel
theorem dX6_sized_90 : decode cX6_sized 90 = .ok (.iload_n 1, 1) := by decide +kernel
theorem dX6_sized_91 : decode cX6_sized 91 = .ok (.iaload, 1) := by decide +kernel
theorem dX6_sized_92 : decode cX6_sized 92 = .ok (.aload_n 0, 1) := by decide +kernel
theorem dX6_sized_93 : decode cX6_sized 93 = .ok (.iload_n 1, 1) := by decide +kernel
theorem dX6_sized_94 : decode cX6_sized 94 = .ok (.invokevirtual 145, 3) := by decide +kernel
theorem dX6_sized_97 : decode cX6_sized 97 = .ok (.iadd, 1) := by decide +kernel
theorem dX6_sized_98 : decode cX6_sized 98 = .ok (.aload_n 0, 1) := by decide +kernel
theorem dX6_sized_99 : decode cX6_sized 99 = .ok (.iload_n 1, 1) := by decide +kernel
theorem dX6_sized_100 : decode cX6_sized 100 = .ok (.invokevirtual 181, 3) := by decide +kernel
theorem dX6_sized_103 : decode cX6_sized 103 = .ok (.iadd, 1) := by decide +kernel
theorem dX6_sized_104 : decode cX6_sized 104 = .ok (.ireturn, 1) := by decide +kernel
theorem dX6_marked_0 : decode cX6_marked 0 = .ok (.aload_n 0, 1) := by decide +kernel
theorem dX6_marked_1 : decode cX6_marked 1 = .ok (.iload_n 1, 1) := by decide +kernel
theorem dX6_marked_2 : decode cX6_marked 2 = .ok (.invokevirtual 184, 3) := by decide +kernel
theorem dX6_marked_5 : decode cX6_marked 5 = .ok (.istore_n 2, 1) := by decide +kernel
theorem dX6_marked_6 : decode cX6_marked 6 = .ok (.iload_n 2, 1) := by decide +kernel
theorem dX6_marked_7 : decode cX6_marked 7 = .ok (.iconst 2, 1) := by decide +kernel
theorem dX6_marked_8 : decode cX6_marked 8 = .ok (.if_icmp .ne 9, 3) := by decide +kernel
theorem dX6_marked_11 : decode cX6_marked 11 = .ok (.aload_n 0, 1) := by decide +kernel
theorem dX6_marked_12 : decode cX6_marked 12 = .ok (.bipush 21, 2) := by decide +kernel
theorem dX6_marked_14 : decode cX6_marked 14 = .ok (.invokevirtual 190, 3) := by decide +kernel
theorem dX6_marked_17 : decode cX6_marked 17 = .ok (.iload_n 2, 1) := by decide +kernel
theorem dX6_marked_18 : decode cX6_marked 18 = .ok (.iconst 3, 1) := by decide +kernel
theorem dX6_marked_19 : decode cX6_marked 19 = .ok (.if_icmp .ne 9, 3) := by decide +kernel
theorem dX6_marked_22 : decode cX6_marked 22 = .ok (.aload_n 0, 1) := by decide +kernel
theorem dX6_marked_23 : decode cX6_marked 23 = .ok (.bipush 22, 2) := by decide +kernel
theorem dX6_marked_25 : decode cX6_marked 25 = .ok (.invokevirtual 190, 3) := by decide +kernel
theorem dX6_marked_28 : decode cX6_marked 28 = .ok (.aload_n 0, 1) := by decide +kernel
theorem dX6_marked_29 : decode cX6_marked 29 = .ok (.bipush 20, 2) := by decide +kernel
theorem dX6_marked_31 : decode cX6_marked 31 = .ok (.invokevirtual 190, 3) := by decide +kernel
theorem dX6_marked_34 : decode cX6_marked 34 = .ok (.aload_n 0, 1) := by decide +kernel
theorem dX6_marked_35 : decode cX6_marked 35 = .ok (.iload_n 1, 1) := by decide +kernel
theorem dX6_marked_36 : decode cX6_marked 36 = .ok (.invokevirtual 145, 3) := by decide +kernel
theorem dX6_marked_39 : decode cX6_marked 39 = .ok (.istore_n 3, 1) := by decide +kernel
theorem dX6_marked_40 : decode cX6_marked 40 = .ok (.iload_n 2, 1) := by decide +kernel
theorem dX6_marked_41 : decode cX6_marked 41 = .ok (.iconst 2, 1) := by decide +kernel
theorem dX6_marked_42 : decode cX6_marked 42 = .ok (.if_icmp .ne 13, 3) := by decide +kernel
theorem dX6_marked_45 : decode cX6_marked 45 = .ok (.iload_n 3, 1) := by decide +kernel
theorem dX6_marked_46 : decode cX6_marked 46 = .ok (.aload_n 0, 1) := by decide +kernel
theorem dX6_marked_47 : decode cX6_marked 47 = .ok (.iload_n 1, 1) := by decide +kernel
theorem dX6_marked_48 : decode cX6_marked 48 = .ok (.invokevirtual 193, 3) := by decide +kernel
theorem dX6_marked_51 : decode cX6_marked 51 = .ok (.iadd, 1) := by decide +kernel
theorem dX6_marked_52 : decode cX6_marked 52 = .ok (.goto 19, 3) := by decide +kernel
theorem dX6_marked_55 : decode cX6_marked 55 = .ok (.iload_n 2, 1) := by decide +kernel
theorem dX6_marked_56 : decode cX6_marked 56 = .ok (.iconst 3, 1) := by decide +kernel
theorem dX6_marked_57 : decode cX6_marked 57 = .ok (.if_icmp .ne 13, 3) := by decide +kernel
theorem dX6_marked_60 : decode cX6_marked 60 = .ok (.iload_n 3, 1) := by decide +kernel
theorem dX6_marked_61 : decode cX6_marked 61 = .ok (.aload_n 0, 1) := by decide +kernel
theorem dX6_marked_62 : decode cX6_marked 62 = .ok (.iload_n 1, 1) := by decide +kernel
theorem dX6_marked_63 : decode cX6_marked 63 = .ok (.invokevirtual 181, 3) := by decide +kernel
theorem dX6_marked_66 : decode cX6_marked 66 = .ok (.iadd, 1) := by decide +kernel
theorem dX6_marked_67 : decode cX6_marked 67 = .ok (.goto 4, 3) := by decide +kernel
theorem dX6_marked_70 : decode cX6_marked 70 = .ok (.iload_n 3, 1) := by decide +kernel
theorem dX6_marked_71 : decode cX6_marked 71 = .ok (.ireturn, 1) := by decide +kernel
theorem dX6_ask_0 : decode cX6_ask 0 = .ok (.aload_n 0, 1) := by decide +kernel
theorem dX6_ask_1 : decode cX6_ask 1 = .ok (.iconst 0, 1) := by decide +kernel
theorem dX6_ask_2 : decode cX6_ask 2 = .ok (.putfield 62, 3) := by decide +kernel
theorem dX6_ask_5 : decode cX6_ask 5 = .ok (.aload_n 0, 1) := by decide +kernel
theorem dX6_ask_6 : decode cX6_ask 6 = .ok (.iload_n 1, 1) := by decide +kernel
theorem dX6_ask_7 : decode cX6_ask 7 = .ok (.invokevirtual 128, 3) := by decide +kernel
theorem dX6_ask_10 : decode cX6_ask 10 = .ok (.ifCond .eq 13, 3) := by decide +kernel
theorem dX6_ask_13 : decode cX6_ask 13 = .ok (.iload_n 2, 1) := by decide +kernel
theorem dX6_ask_14 : decode cX6_ask 14 = .ok (.i2l, 1) := by decide +kernel
theorem dX6_ask_15 : decode cX6_ask 15 = .ok (.lconst 0, 1) := by decide +kernel
theorem dX6_ask_16 : decode cX6_ask 16 = .ok (.lconst 1, 1) := by decide +kernel
theorem dX6_ask_17 : decode cX6_ask 17 = .ok (.invokestatic 72, 3) := by decide +kernel
theorem dX6_ask_20 : decode cX6_ask 20 = .ok (.ifCond .ne 6, 3) := by decide +kernel
theorem dX6_ask_23 : decode cX6_ask 23 = .ok (.ldc 82, 2) := by decide +kernel
theorem dX6_ask_25 : decode cX6_ask 25 = .ok (.ireturn, 1) := by decide +kernel
theorem dX6_ask_26 : decode cX6_ask 26 = .ok (.aload_n 0, 1) := by decide +kernel
theorem dX6_ask_27 : decode cX6_ask 27 = .ok (.getfield 32, 3) := by decide +kernel
theorem dX6_ask_30 : decode cX6_ask 30 = .ok (.iload_n 1, 1) := by decide +kernel
theorem dX6_ask_31 : decode cX6_ask 31 = .ok (.iaload, 1) := by decide +kernel
theorem dX6_ask_32 : decode cX6_ask 32 = .ok (.ifCond .ne 6, 3) := by decide +kernel
theorem dX6_ask_35 : decode cX6_ask 35 = .ok (.ldc 100, 2) := by decide +kernel
theorem dX6_ask_37 : decode cX6_ask 37 = .ok (.ireturn, 1) := by decide +kernel
theorem dX6_ask_38 : decode cX6_ask 38 = .ok (.aload_n 0, 1) := by decide +kernel
theorem dX6_ask_39 : decode cX6_ask 39 = .ok (.iconst 0, 1) := by decide +kernel
theorem dX6_ask_40 : decode cX6_ask 40 = .ok (.putfield 187, 3) := by decide +kernel
theorem dX6_ask_43 : decode cX6_ask 43 = .ok (.iload_n 2, 1) := by decide +kernel
theorem dX6_ask_44 : decode cX6_ask 44 = .ok (.ifCond .ne 11, 3) := by decide +kernel
theorem dX6_ask_47 : decode cX6_ask 47 = .ok (.aload_n 0, 1) := by decide +kernel
theorem dX6_ask_48 : decode cX6_ask 48 = .ok (.iload_n 1, 1) := by decide +kernel
theorem dX6_ask_49 : decode cX6_ask 49 = .ok (.invokevirtual 193, 3) := by decide +kernel
theorem dX6_ask_52 : decode cX6_ask 52 = .ok (.goto 8, 3) := by decide +kernel
theorem dX6_ask_55 : decode cX6_ask 55 = .ok (.aload_n 0, 1) := by decide +kernel
theorem dX6_ask_56 : decode cX6_ask 56 = .ok (.iload_n 1, 1) := by decide +kernel
theorem dX6_ask_57 : decode cX6_ask 57 = .ok (.invokevirtual 196, 3) := by decide +kernel
theorem dX6_ask_60 : decode cX6_ask 60 = .ok (.ireturn, 1) := by decide +kernel
theorem dX6_trace_0 : decode cX6_trace 0 = .ok (.aload_n 0, 1) := by decide +kernel
theorem dX6_trace_1 : decode cX6_trace 1 = .ok (.iconst 0, 1) := by decide +kernel
theorem dX6_trace_2 : decode cX6_trace 2 = .ok (.putfield 62, 3) := by decide +kernel
theorem dX6_trace_5 : decode cX6_trace 5 = .ok (.iload_n 1, 1) := by decide +kernel
theorem dX6_trace_6 : decode cX6_trace 6 = .ok (.i2l, 1) := by decide +kernel
theorem dX6_trace_7 : decode cX6_trace 7 = .ok (.lconst 0, 1) := by decide +kernel
theorem dX6_trace_8 : decode cX6_trace 8 = .ok (.aload_n 0, 1) := by decide +kernel
theorem dX6_trace_9 : decode cX6_trace 9 = .ok (.getfield 187, 3) := by decide +kernel
theorem dX6_trace_12 : decode cX6_trace 12 = .ok (.iconst 1, 1) := by decide +kernel
theorem dX6_trace_13 : decode cX6_trace 13 = .ok (.isub, 1) := by decide +kernel
theorem dX6_trace_14 : decode cX6_trace 14 = .ok (.i2l, 1) := by decide +kernel
theorem dX6_trace_15 : decode cX6_trace 15 = .ok (.invokestatic 72, 3) := by decide +kernel
theorem dX6_trace_18 : decode cX6_trace 18 = .ok (.ifCond .eq 12, 3) := by decide +kernel
theorem dX6_trace_21 : decode cX6_trace 21 = .ok (.aload_n 0, 1) := by decide +kernel
theorem dX6_trace_22 : decode cX6_trace 22 = .ok (.getfield 59, 3) := by decide +kernel
theorem dX6_trace_25 : decode cX6_trace 25 = .ok (.iload_n 1, 1) := by decide +kernel
theorem dX6_trace_26 : decode cX6_trace 26 = .ok (.iaload, 1) := by decide +kernel
theorem dX6_trace_27 : decode cX6_trace 27 = .ok (.goto 5, 3) := by decide +kernel
theorem dX6_trace_30 : decode cX6_trace 30 = .ok (.ldc 93, 2) := by decide +kernel
theorem dX6_trace_32 : decode cX6_trace 32 = .ok (.ireturn, 1) := by decide +kernel
theorem dX6_count_0 : decode cX6_count 0 = .ok (.aload_n 0, 1) := by decide +kernel
theorem dX6_count_1 : decode cX6_count 1 = .ok (.iconst 0, 1) := by decide +kernel
theorem dX6_count_2 : decode cX6_count 2 = .ok (.putfield 62, 3) := by decide +kernel
theorem dX6_count_5 : decode cX6_count 5 = .ok (.iconst 0, 1) := by decide +kernel
theorem dX6_count_6 : decode cX6_count 6 = .ok (.istore_n 2, 1) := by decide +kernel
theorem dX6_count_7 : decode cX6_count 7 = .ok (.iload_n 1, 1) := by decide +kernel
theorem dX6_count_8 : decode cX6_count 8 = .ok (.tableswitch 175 0 7 #[48, 81, 86, 91, 96, 96, 96, 142], 48) := by decide +kernel
theorem dX6_count_56 : decode cX6_count 56 = .ok (.iconst 0, 1) := by decide +kernel
theorem dX6_count_57 : decode cX6_count 57 = .ok (.istore_n 3, 1) := by decide +kernel
theorem dX6_count_58 : decode cX6_count 58 = .ok (.iload_n 3, 1) := by decide +kernel
theorem dX6_count_59 : decode cX6_count 59 = .ok (.bipush 8, 2) := by decide +kernel
theorem dX6_count_61 : decode cX6_count 61 = .ok (.if_icmp .ge 26, 3) := by decide +kernel
theorem dX6_count_64 : decode cX6_count 64 = .ok (.iload_n 2, 1) := by decide +kernel
theorem dX6_count_65 : decode cX6_count 65 = .ok (.aload_n 0, 1) := by decide +kernel
theorem dX6_count_66 : decode cX6_count 66 = .ok (.getfield 7, 3) := by decide +kernel
theorem dX6_count_69 : decode cX6_count 69 = .ok (.iload_n 3, 1) := by decide +kernel
theorem dX6_count_70 : decode cX6_count 70 = .ok (.iaload, 1) := by decide +kernel
theorem dX6_count_71 : decode cX6_count 71 = .ok (.ifCond .lt 7, 3) := by decide +kernel
theorem dX6_count_74 : decode cX6_count 74 = .ok (.iconst 1, 1) := by decide +kernel
theorem dX6_count_75 : decode cX6_count 75 = .ok (.goto 4, 3) := by decide +kernel
theorem dX6_count_78 : decode cX6_count 78 = .ok (.iconst 0, 1) := by decide +kernel
theorem dX6_count_79 : decode cX6_count 79 = .ok (.iadd, 1) := by decide +kernel
theorem dX6_count_80 : decode cX6_count 80 = .ok (.istore_n 2, 1) := by decide +kernel
theorem dX6_count_81 : decode cX6_count 81 = .ok (.iinc 3 1, 3) := by decide +kernel
theorem dX6_count_84 : decode cX6_count 84 = .ok (.goto (-26), 3) := by decide +kernel
theorem dX6_count_87 : decode cX6_count 87 = .ok (.iload_n 2, 1) := by decide +kernel
theorem dX6_count_88 : decode cX6_count 88 = .ok (.ireturn, 1) := by decide +kernel
theorem dX6_count_89 : decode cX6_count 89 = .ok (.aload_n 0, 1) := by decide +kernel
theorem dX6_count_90 : decode cX6_count 90 = .ok (.getfield 94, 3) := by decide +kernel
theorem dX6_count_93 : decode cX6_count 93 = .ok (.ireturn, 1) := by decide +kernel
theorem dX6_count_94 : decode cX6_count 94 = .ok (.aload_n 0, 1) := by decide +kernel
theorem dX6_count_95 : decode cX6_count 95 = .ok (.getfield 102, 3) := by decide +kernel
theorem dX6_count_98 : decode cX6_count 98 = .ok (.ireturn, 1) := by decide +kernel
theorem dX6_count_99 : decode cX6_count 99 = .ok (.aload_n 0, 1) := by decide +kernel
theorem dX6_count_100 : decode cX6_count 100 = .ok (.invokevirtual 169, 3) := by decide +kernel
theorem dX6_count_103 : decode cX6_count 103 = .ok (.ireturn, 1) := by decide +kernel
theorem dX6_count_104 : decode cX6_count 104 = .ok (.iconst 0, 1) := by decide +kernel
theorem dX6_count_105 : decode cX6_count 105 = .ok (.istore_n 3, 1) := by decide +kernel
theorem dX6_count_106 : decode cX6_count 106 = .ok (.iload_n 3, 1) := by decide +kernel
theorem dX6_count_107 : decode cX6_count 107 = .ok (.aload_n 0, 1) := by decide +kernel
theorem dX6_count_108 : decode cX6_count 108 = .ok (.getfield 102, 3) := by decide +kernel
theorem dX6_count_111 : decode cX6_count 111 = .ok (.if_icmp .ge 37, 3) := by decide +kernel
theorem dX6_count_114 : decode cX6_count 114 = .ok (.iload_n 2, 1) := by decide +kernel
theorem dX6_count_115 : decode cX6_count 115 = .ok (.aload_n 0, 1) := by decide +kernel
theorem dX6_count_116 : decode cX6_count 116 = .ok (.getfield 32, 3) := by decide +kernel
theorem dX6_count_119 : decode cX6_count 119 = .ok (.iload_n 3, 1) := by decide +kernel
theorem dX6_count_120 : decode cX6_count 120 = .ok (.iaload, 1) := by decide +kernel
theorem dX6_count_121 : decode cX6_count 121 = .ok (.ifCond .le 18, 3) := by decide +kernel
theorem dX6_count_124 : decode cX6_count 124 = .ok (.aload_n 0, 1) := by decide +kernel
theorem dX6_count_125 : decode cX6_count 125 = .ok (.iload_n 3, 1) := by decide +kernel
theorem dX6_count_126 : decode cX6_count 126 = .ok (.invokevirtual 184, 3) := by decide +kernel
theorem dX6_count_129 : decode cX6_count 129 = .ok (.iload_n 1, 1) := by decide +kernel
theorem dX6_count_130 : decode cX6_count 130 = .ok (.iconst 3, 1) := by decide +kernel
theorem dX6_count_131 : decode cX6_count 131 = .ok (.isub, 1) := by decide +kernel
theorem dX6_count_132 : decode cX6_count 132 = .ok (.if_icmp .ne 7, 3) := by decide +kernel
theorem dX6_count_135 : decode cX6_count 135 = .ok (.iconst 1, 1) := by decide +kernel
theorem dX6_count_136 : decode cX6_count 136 = .ok (.goto 4, 3) := by decide +kernel
theorem dX6_count_139 : decode cX6_count 139 = .ok (.iconst 0, 1) := by decide +kernel
theorem dX6_count_140 : decode cX6_count 140 = .ok (.iadd, 1) := by decide +kernel
theorem dX6_count_141 : decode cX6_count 141 = .ok (.istore_n 2, 1) := by decide +kernel
theorem dX6_count_142 : decode cX6_count 142 = .ok (.iinc 3 1, 3) := by decide +kernel
theorem dX6_count_145 : decode cX6_count 145 = .ok (.goto (-39), 3) := by decide +kernel
theorem dX6_count_148 : decode cX6_count 148 = .ok (.iload_n 2, 1) := by decide +kernel
theorem dX6_count_149 : decode cX6_count 149 = .ok (.ireturn, 1) := by decide +kernel
theorem dX6_count_150 : decode cX6_count 150 = .ok (.iconst 0, 1) := by decide +kernel
theorem dX6_count_151 : decode cX6_count 151 = .ok (.istore_n 3, 1) := by decide +kernel
theorem dX6_count_152 : decode cX6_count 152 = .ok (.iload_n 3, 1) := by decide +kernel
theorem dX6_count_153 : decode cX6_count 153 = .ok (.bipush 100, 2) := by decide +kernel
theorem dX6_count_155 : decode cX6_count 155 = .ok (.if_icmp .ge 26, 3) := by decide +kernel
theorem dX6_count_158 : decode cX6_count 158 = .ok (.iload_n 2, 1) := by decide +kernel
theorem dX6_count_159 : decode cX6_count 159 = .ok (.aload_n 0, 1) := by decide +kernel
theorem dX6_count_160 : decode cX6_count 160 = .ok (.getfield 19, 3) := by decide +kernel
theorem dX6_count_163 : decode cX6_count 163 = .ok (.iload_n 3, 1) := by decide +kernel
theorem dX6_count_164 : decode cX6_count 164 = .ok (.baload, 1) := by decide +kernel
theorem dX6_count_165 : decode cX6_count 165 = .ok (.ifCond .eq 7, 3) := by decide +kernel
theorem dX6_count_168 : decode cX6_count 168 = .ok (.iconst 1, 1) := by decide +kernel
theorem dX6_count_169 : decode cX6_count 169 = .ok (.goto 4, 3) := by decide +kernel
theorem dX6_count_172 : decode cX6_count 172 = .ok (.iconst 0, 1) := by decide +kernel
theorem dX6_count_173 : decode cX6_count 173 = .ok (.iadd, 1) := by decide +kernel
theorem dX6_count_174 : decode cX6_count 174 = .ok (.istore_n 2, 1) := by decide +kernel
theorem dX6_count_175 : decode cX6_count 175 = .ok (.iinc 3 1, 3) := by decide +kernel
theorem dX6_count_178 : decode cX6_count 178 = .ok (.goto (-26), 3) := by decide +kernel
theorem dX6_count_181 : decode cX6_count 181 = .ok (.iload_n 2, 1) := by decide +kernel
theorem dX6_count_182 : decode cX6_count 182 = .ok (.ireturn, 1) := by decide +kernel
theorem dX6_count_183 : decode cX6_count 183 = .ok (.ldc 82, 2) := by decide +kernel
theorem dX6_count_185 : decode cX6_count 185 = .ok (.ireturn, 1) := by decide +kernel
theorem dX6_status_0 : decode cX6_status 0 = .ok (.aload_n 0, 1) := by decide +kernel
theorem dX6_status_1 : decode cX6_status 1 = .ok (.iconst 0, 1) := by decide +kernel
theorem dX6_status_2 : decode cX6_status 2 = .ok (.putfield 62, 3) := by decide +kernel
theorem dX6_status_5 : decode cX6_status 5 = .ok (.aload_n 0, 1) := by decide +kernel
theorem dX6_status_6 : decode cX6_status 6 = .ok (.getfield 66, 3) := by decide +kernel
theorem dX6_status_9 : decode cX6_status 9 = .ok (.ireturn, 1) := by decide +kernel
