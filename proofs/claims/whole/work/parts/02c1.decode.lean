theorem dX6_find_92 : decode cX6_find 92 = .ok (.iconst 0, 1) := by decide +kernel
theorem dX6_find_93 : decode cX6_find 93 = .ok (.istore_n 2, 1) := by decide +kernel
theorem dX6_find_94 : decode cX6_find 94 = .ok (.iconst 0, 1) := by decide +kernel
theorem dX6_find_95 : decode cX6_find 95 = .ok (.istore_n 3, 1) := by decide +kernel
theorem dX6_find_96 : decode cX6_find 96 = .ok (.iload_n 3, 1) := by decide +kernel
theorem dX6_find_97 : decode cX6_find 97 = .ok (.bipush 100, 2) := by decide +kernel
theorem dX6_find_99 : decode cX6_find 99 = .ok (.if_icmp .ge 154, 3) := by decide +kernel
theorem dX6_find_102 : decode cX6_find 102 = .ok (.iconst 0, 1) := by decide +kernel
theorem dX6_find_103 : decode cX6_find 103 = .ok (.istore 4, 2) := by decide +kernel
theorem dX6_find_105 : decode cX6_find 105 = .ok (.iload 4, 2) := by decide +kernel
theorem dX6_find_107 : decode cX6_find 107 = .ok (.iconst 4, 1) := by decide +kernel
theorem dX6_find_108 : decode cX6_find 108 = .ok (.if_icmp .ge 139, 3) := by decide +kernel
theorem dX6_find_111 : decode cX6_find 111 = .ok (.aload_n 0, 1) := by decide +kernel
theorem dX6_find_112 : decode cX6_find 112 = .ok (.getfield 19, 3) := by decide +kernel
theorem dX6_find_115 : decode cX6_find 115 = .ok (.iload_n 3, 1) := by decide +kernel
theorem dX6_find_116 : decode cX6_find 116 = .ok (.baload, 1) := by decide +kernel
theorem dX6_find_117 : decode cX6_find 117 = .ok (.ifCond .ne 130, 3) := by decide +kernel
theorem dX6_find_120 : decode cX6_find 120 = .ok (.iload_n 3, 1) := by decide +kernel
theorem dX6_find_121 : decode cX6_find 121 = .ok (.iload 4, 2) := by decide +kernel
theorem dX6_find_123 : decode cX6_find 123 = .ok (.invokestatic 105, 3) := by decide +kernel
theorem dX6_find_126 : decode cX6_find 126 = .ok (.istore 5, 2) := by decide +kernel
theorem dX6_find_128 : decode cX6_find 128 = .ok (.iload 5, 2) := by decide +kernel
theorem dX6_find_130 : decode cX6_find 130 = .ok (.ldc 93, 2) := by decide +kernel
theorem dX6_find_132 : decode cX6_find 132 = .ok (.if_icmp .eq 109, 3) := by decide +kernel
theorem dX6_find_135 : decode cX6_find 135 = .ok (.aload_n 0, 1) := by decide +kernel
theorem dX6_find_136 : decode cX6_find 136 = .ok (.getfield 44, 3) := by decide +kernel
theorem dX6_find_139 : decode cX6_find 139 = .ok (.iload 5, 2) := by decide +kernel
theorem dX6_find_141 : decode cX6_find 141 = .ok (.iaload, 1) := by decide +kernel
theorem dX6_find_142 : decode cX6_find 142 = .ok (.ldc 93, 2) := by decide +kernel
theorem dX6_find_144 : decode cX6_find 144 = .ok (.if_icmp .eq 97, 3) := by decide +kernel
theorem dX6_find_147 : decode cX6_find 147 = .ok (.aload_n 0, 1) := by decide +kernel
theorem dX6_find_148 : decode cX6_find 148 = .ok (.getfield 44, 3) := by decide +kernel
theorem dX6_find_151 : decode cX6_find 151 = .ok (.iload 5, 2) := by decide +kernel
theorem dX6_find_153 : decode cX6_find 153 = .ok (.iaload, 1) := by decide +kernel
theorem dX6_find_154 : decode cX6_find 154 = .ok (.aload_n 0, 1) := by decide +kernel
theorem dX6_find_155 : decode cX6_find 155 = .ok (.getfield 50, 3) := by decide +kernel
theorem dX6_find_158 : decode cX6_find 158 = .ok (.iload_n 3, 1) := by decide +kernel
theorem dX6_find_159 : decode cX6_find 159 = .ok (.iload 4, 2) := by decide +kernel
theorem dX6_find_161 : decode cX6_find 161 = .ok (.invokestatic 109, 3) := by decide +kernel
theorem dX6_find_164 : decode cX6_find 164 = .ok (.iaload, 1) := by decide +kernel
theorem dX6_find_165 : decode cX6_find 165 = .ok (.iadd, 1) := by decide +kernel
theorem dX6_find_166 : decode cX6_find 166 = .ok (.istore 6, 2) := by decide +kernel
theorem dX6_find_168 : decode cX6_find 168 = .ok (.aload_n 0, 1) := by decide +kernel
theorem dX6_find_169 : decode cX6_find 169 = .ok (.getfield 47, 3) := by decide +kernel
theorem dX6_find_172 : decode cX6_find 172 = .ok (.iload 5, 2) := by decide +kernel
theorem dX6_find_174 : decode cX6_find 174 = .ok (.iaload, 1) := by decide +kernel
theorem dX6_find_175 : decode cX6_find 175 = .ok (.iconst 1, 1) := by decide +kernel
theorem dX6_find_176 : decode cX6_find 176 = .ok (.iadd, 1) := by decide +kernel
theorem dX6_find_177 : decode cX6_find 177 = .ok (.istore 7, 2) := by decide +kernel
theorem dX6_find_179 : decode cX6_find 179 = .ok (.aload_n 0, 1) := by decide +kernel
theorem dX6_find_180 : decode cX6_find 180 = .ok (.getfield 44, 3) := by decide +kernel
theorem dX6_find_183 : decode cX6_find 183 = .ok (.iload_n 3, 1) := by decide +kernel
theorem dX6_find_184 : decode cX6_find 184 = .ok (.iaload, 1) := by decide +kernel
theorem dX6_find_185 : decode cX6_find 185 = .ok (.ldc 93, 2) := by decide +kernel
theorem dX6_find_187 : decode cX6_find 187 = .ok (.if_icmp .eq 36, 3) := by decide +kernel
theorem dX6_find_190 : decode cX6_find 190 = .ok (.iload 6, 2) := by decide +kernel
theorem dX6_find_192 : decode cX6_find 192 = .ok (.aload_n 0, 1) := by decide +kernel
theorem dX6_find_193 : decode cX6_find 193 = .ok (.getfield 44, 3) := by decide +kernel
theorem dX6_find_196 : decode cX6_find 196 = .ok (.iload_n 3, 1) := by decide +kernel
theorem dX6_find_197 : decode cX6_find 197 = .ok (.iaload, 1) := by decide +kernel
theorem dX6_find_198 : decode cX6_find 198 = .ok (.if_icmp .lt 25, 3) := by decide +kernel
theorem dX6_find_201 : decode cX6_find 201 = .ok (.iload 6, 2) := by decide +kernel
theorem dX6_find_203 : decode cX6_find 203 = .ok (.aload_n 0, 1) := by decide +kernel
theorem dX6_find_204 : decode cX6_find 204 = .ok (.getfield 44, 3) := by decide +kernel
theorem dX6_find_207 : decode cX6_find 207 = .ok (.iload_n 3, 1) := by decide +kernel
theorem dX6_find_208 : decode cX6_find 208 = .ok (.iaload, 1) := by decide +kernel
theorem dX6_find_209 : decode cX6_find 209 = .ok (.if_icmp .ne 32, 3) := by decide +kernel
theorem dX6_find_212 : decode cX6_find 212 = .ok (.iload 7, 2) := by decide +kernel
theorem dX6_find_214 : decode cX6_find 214 = .ok (.aload_n 0, 1) := by decide +kernel
theorem dX6_find_215 : decode cX6_find 215 = .ok (.getfield 47, 3) := by decide +kernel
theorem dX6_find_218 : decode cX6_find 218 = .ok (.iload_n 3, 1) := by decide +kernel
theorem dX6_find_219 : decode cX6_find 219 = .ok (.iaload, 1) := by decide +kernel
theorem dX6_find_220 : decode cX6_find 220 = .ok (.if_icmp .ge 21, 3) := by decide +kernel
theorem dX6_find_223 : decode cX6_find 223 = .ok (.aload_n 0, 1) := by decide +kernel
theorem dX6_find_224 : decode cX6_find 224 = .ok (.getfield 44, 3) := by decide +kernel
theorem dX6_find_227 : decode cX6_find 227 = .ok (.iload_n 3, 1) := by decide +kernel
theorem dX6_find_228 : decode cX6_find 228 = .ok (.iload 6, 2) := by decide +kernel
theorem dX6_find_230 : decode cX6_find 230 = .ok (.iastore, 1) := by decide +kernel
theorem dX6_find_231 : decode cX6_find 231 = .ok (.aload_n 0, 1) := by decide +kernel
theorem dX6_find_232 : decode cX6_find 232 = .ok (.getfield 47, 3) := by decide +kernel
theorem dX6_find_235 : decode cX6_find 235 = .ok (.iload_n 3, 1) := by decide +kernel
theorem dX6_find_236 : decode cX6_find 236 = .ok (.iload 7, 2) := by decide +kernel
theorem dX6_find_238 : decode cX6_find 238 = .ok (.iastore, 1) := by decide +kernel
theorem dX6_find_239 : decode cX6_find 239 = .ok (.iconst 1, 1) := by decide +kernel
theorem dX6_find_240 : decode cX6_find 240 = .ok (.istore_n 2, 1) := by decide +kernel
theorem dX6_find_241 : decode cX6_find 241 = .ok (.iinc 4 1, 3) := by decide +kernel
theorem dX6_find_244 : decode cX6_find 244 = .ok (.goto (-139), 3) := by decide +kernel
theorem dX6_find_247 : decode cX6_find 247 = .ok (.iinc 3 1, 3) := by decide +kernel
theorem dX6_find_250 : decode cX6_find 250 = .ok (.goto (-154), 3) := by decide +kernel
theorem dX6_find_253 : decode cX6_find 253 = .ok (.goto (-165), 3) := by decide +kernel
theorem dX6_find_256 : decode cX6_find 256 = .ok (.aload_n 0, 1) := by decide +kernel
theorem dX6_find_257 : decode cX6_find 257 = .ok (.getfield 44, 3) := by decide +kernel
theorem dX6_find_260 : decode cX6_find 260 = .ok (.aload_n 0, 1) := by decide +kernel
theorem dX6_find_261 : decode cX6_find 261 = .ok (.getfield 23, 3) := by decide +kernel
theorem dX6_find_264 : decode cX6_find 264 = .ok (.aload_n 0, 1) := by decide +kernel
theorem dX6_find_265 : decode cX6_find 265 = .ok (.getfield 26, 3) := by decide +kernel
theorem dX6_find_268 : decode cX6_find 268 = .ok (.iload_n 1, 1) := by decide +kernel
theorem dX6_find_269 : decode cX6_find 269 = .ok (.iaload, 1) := by decide +kernel
theorem dX6_find_270 : decode cX6_find 270 = .ok (.iaload, 1) := by decide +kernel
theorem dX6_find_271 : decode cX6_find 271 = .ok (.iaload, 1) := by decide +kernel
theorem dX6_find_272 : decode cX6_find 272 = .ok (.ldc 93, 2) := by decide +kernel
theorem dX6_find_274 : decode cX6_find 274 = .ok (.if_icmp .eq 7, 3) := by decide +kernel
theorem dX6_find_277 : decode cX6_find 277 = .ok (.iconst 1, 1) := by decide +kernel
theorem dX6_find_278 : decode cX6_find 278 = .ok (.goto 4, 3) := by decide +kernel
theorem dX6_find_281 : decode cX6_find 281 = .ok (.iconst 0, 1) := by decide +kernel
theorem dX6_find_282 : decode cX6_find 282 = .ok (.ireturn, 1) := by decide +kernel
theorem dX6_follow_0 : decode cX6_follow 0 = .ok (.aload_n 0, 1) := by decide +kernel
theorem dX6_follow_1 : decode cX6_follow 1 = .ok (.getfield 23, 3) := by decide +kernel
theorem dX6_follow_4 : decode cX6_follow 4 = .ok (.aload_n 0, 1) := by decide +kernel
theorem dX6_follow_5 : decode cX6_follow 5 = .ok (.getfield 26, 3) := by decide +kernel
theorem dX6_follow_8 : decode cX6_follow 8 = .ok (.iload_n 1, 1) := by decide +kernel
theorem dX6_follow_9 : decode cX6_follow 9 = .ok (.iaload, 1) := by decide +kernel
theorem dX6_follow_10 : decode cX6_follow 10 = .ok (.iaload, 1) := by decide +kernel
theorem dX6_follow_11 : decode cX6_follow 11 = .ok (.istore_n 2, 1) := by decide +kernel
theorem dX6_follow_12 : decode cX6_follow 12 = .ok (.iconst 0, 1) := by decide +kernel
theorem dX6_follow_13 : decode cX6_follow 13 = .ok (.istore_n 3, 1) := by decide +kernel
theorem dX6_follow_14 : decode cX6_follow 14 = .ok (.iload_n 2, 1) := by decide +kernel
theorem dX6_follow_15 : decode cX6_follow 15 = .ok (.aload_n 0, 1) := by decide +kernel
theorem dX6_follow_16 : decode cX6_follow 16 = .ok (.getfield 23, 3) := by decide +kernel
theorem dX6_follow_19 : decode cX6_follow 19 = .ok (.aload_n 0, 1) := by decide +kernel
theorem dX6_follow_20 : decode cX6_follow 20 = .ok (.getfield 29, 3) := by decide +kernel
theorem dX6_follow_23 : decode cX6_follow 23 = .ok (.iload_n 1, 1) := by decide +kernel
theorem dX6_follow_24 : decode cX6_follow 24 = .ok (.iaload, 1) := by decide +kernel
theorem dX6_follow_25 : decode cX6_follow 25 = .ok (.iaload, 1) := by decide +kernel
theorem dX6_follow_26 : decode cX6_follow 26 = .ok (.if_icmp .eq 147, 3) := by decide +kernel
theorem dX6_follow_29 : decode cX6_follow 29 = .ok (.ldc 93, 2) := by decide +kernel
theorem dX6_follow_31 : decode cX6_follow 31 = .ok (.istore 4, 2) := by decide +kernel
theorem dX6_follow_33 : decode cX6_follow 33 = .ok (.iconst 3, 1) := by decide +kernel
theorem dX6_follow_34 : decode cX6_follow 34 = .ok (.istore 5, 2) := by decide +kernel
theorem dX6_follow_36 : decode cX6_follow 36 = .ok (.iload 5, 2) := by decide +kernel
theorem dX6_follow_38 : decode cX6_follow 38 = .ok (.ifCond .lt 91, 3) := by decide +kernel
theorem dX6_follow_41 : decode cX6_follow 41 = .ok (.iload_n 2, 1) := by decide +kernel
theorem dX6_follow_42 : decode cX6_follow 42 = .ok (.iload 5, 2) := by decide +kernel
theorem dX6_follow_44 : decode cX6_follow 44 = .ok (.invokestatic 105, 3) := by decide +kernel
theorem dX6_follow_47 : decode cX6_follow 47 = .ok (.istore 6, 2) := by decide +kernel
theorem dX6_follow_49 : decode cX6_follow 49 = .ok (.iload 6, 2) := by decide +kernel
theorem dX6_follow_51 : decode cX6_follow 51 = .ok (.ldc 93, 2) := by decide +kernel
theorem dX6_follow_53 : decode cX6_follow 53 = .ok (.if_icmp .eq 66, 3) := by decide +kernel
theorem dX6_follow_56 : decode cX6_follow 56 = .ok (.aload_n 0, 1) := by decide +kernel
theorem dX6_follow_57 : decode cX6_follow 57 = .ok (.getfield 44, 3) := by decide +kernel
theorem dX6_follow_60 : decode cX6_follow 60 = .ok (.iload 6, 2) := by decide +kernel
theorem dX6_follow_62 : decode cX6_follow 62 = .ok (.iaload, 1) := by decide +kernel
theorem dX6_follow_63 : decode cX6_follow 63 = .ok (.ldc 93, 2) := by decide +kernel
theorem dX6_follow_65 : decode cX6_follow 65 = .ok (.if_icmp .eq 54, 3) := by decide +kernel
theorem dX6_follow_68 : decode cX6_follow 68 = .ok (.aload_n 0, 1) := by decide +kernel
theorem dX6_follow_69 : decode cX6_follow 69 = .ok (.getfield 44, 3) := by decide +kernel
theorem dX6_follow_72 : decode cX6_follow 72 = .ok (.iload 6, 2) := by decide +kernel
theorem dX6_follow_74 : decode cX6_follow 74 = .ok (.iaload, 1) := by decide +kernel
theorem dX6_follow_75 : decode cX6_follow 75 = .ok (.aload_n 0, 1) := by decide +kernel
theorem dX6_follow_76 : decode cX6_follow 76 = .ok (.getfield 50, 3) := by decide +kernel
theorem dX6_follow_79 : decode cX6_follow 79 = .ok (.iload_n 2, 1) := by decide +kernel
theorem dX6_follow_80 : decode cX6_follow 80 = .ok (.iload 5, 2) := by decide +kernel
theorem dX6_follow_82 : decode cX6_follow 82 = .ok (.invokestatic 109, 3) := by decide +kernel
theorem dX6_follow_85 : decode cX6_follow 85 = .ok (.iaload, 1) := by decide +kernel
theorem dX6_follow_86 : decode cX6_follow 86 = .ok (.iadd, 1) := by decide +kernel
theorem dX6_follow_87 : decode cX6_follow 87 = .ok (.aload_n 0, 1) := by decide +kernel
theorem dX6_follow_88 : decode cX6_follow 88 = .ok (.getfield 44, 3) := by decide +kernel
theorem dX6_follow_91 : decode cX6_follow 91 = .ok (.iload_n 2, 1) := by decide +kernel
theorem dX6_follow_92 : decode cX6_follow 92 = .ok (.iaload, 1) := by decide +kernel
theorem dX6_follow_93 : decode cX6_follow 93 = .ok (.if_icmp .ne 26, 3) := by decide +kernel
theorem dX6_follow_96 : decode cX6_follow 96 = .ok (.aload_n 0, 1) := by decide +kernel
theorem dX6_follow_97 : decode cX6_follow 97 = .ok (.getfield 47, 3) := by decide +kernel
theorem dX6_follow_100 : decode cX6_follow 100 = .ok (.iload 6, 2) := by decide +kernel
theorem dX6_follow_102 : decode cX6_follow 102 = .ok (.iaload, 1) := by decide +kernel
theorem dX6_follow_103 : decode cX6_follow 103 = .ok (.iconst 1, 1) := by decide +kernel
theorem dX6_follow_104 : decode cX6_follow 104 = .ok (.iadd, 1) := by decide +kernel
theorem dX6_follow_105 : decode cX6_follow 105 = .ok (.aload_n 0, 1) := by decide +kernel
theorem dX6_follow_106 : decode cX6_follow 106 = .ok (.getfield 47, 3) := by decide +kernel
theorem dX6_follow_109 : decode cX6_follow 109 = .ok (.iload_n 2, 1) := by decide +kernel
theorem dX6_follow_110 : decode cX6_follow 110 = .ok (.iaload, 1) := by decide +kernel
theorem dX6_follow_111 : decode cX6_follow 111 = .ok (.if_icmp .ne 8, 3) := by decide +kernel
theorem dX6_follow_114 : decode cX6_follow 114 = .ok (.iload 5, 2) := by decide +kernel
theorem dX6_follow_116 : decode cX6_follow 116 = .ok (.goto 5, 3) := by decide +kernel
theorem dX6_follow_119 : decode cX6_follow 119 = .ok (.iload 4, 2) := by decide +kernel
theorem dX6_follow_121 : decode cX6_follow 121 = .ok (.istore 4, 2) := by decide +kernel
theorem dX6_follow_123 : decode cX6_follow 123 = .ok (.iinc 5 (-1), 3) := by decide +kernel
theorem dX6_follow_126 : decode cX6_follow 126 = .ok (.goto (-90), 3) := by decide +kernel
theorem dX6_follow_129 : decode cX6_follow 129 = .ok (.aload_n 0, 1) := by decide +kernel
theorem dX6_follow_130 : decode cX6_follow 130 = .ok (.getfield 35, 3) := by decide +kernel
theorem dX6_follow_133 : decode cX6_follow 133 = .ok (.bipush 100, 2) := by decide +kernel
theorem dX6_follow_135 : decode cX6_follow 135 = .ok (.iload_n 1, 1) := by decide +kernel
theorem dX6_follow_136 : decode cX6_follow 136 = .ok (.imul, 1) := by decide +kernel
theorem dX6_follow_137 : decode cX6_follow 137 = .ok (.iload_n 3, 1) := by decide +kernel
theorem dX6_follow_138 : decode cX6_follow 138 = .ok (.iadd, 1) := by decide +kernel
theorem dX6_follow_139 : decode cX6_follow 139 = .ok (.iload 4, 2) := by decide +kernel
theorem dX6_follow_141 : decode cX6_follow 141 = .ok (.iastore, 1) := by decide +kernel
theorem dX6_follow_142 : decode cX6_follow 142 = .ok (.aload_n 0, 1) := by decide +kernel
theorem dX6_follow_143 : decode cX6_follow 143 = .ok (.getfield 38, 3) := by decide +kernel
theorem dX6_follow_146 : decode cX6_follow 146 = .ok (.sipush 180, 3) := by decide +kernel
theorem dX6_follow_149 : decode cX6_follow 149 = .ok (.iload_n 1, 1) := by decide +kernel
theorem dX6_follow_150 : decode cX6_follow 150 = .ok (.imul, 1) := by decide +kernel
theorem dX6_follow_151 : decode cX6_follow 151 = .ok (.iload_n 2, 1) := by decide +kernel
theorem dX6_follow_152 : decode cX6_follow 152 = .ok (.iload 4, 2) := by decide +kernel
theorem dX6_follow_154 : decode cX6_follow 154 = .ok (.invokestatic 109, 3) := by decide +kernel
theorem dX6_follow_157 : decode cX6_follow 157 = .ok (.iadd, 1) := by decide +kernel
theorem dX6_follow_158 : decode cX6_follow 158 = .ok (.iconst 1, 1) := by decide +kernel
theorem dX6_follow_159 : decode cX6_follow 159 = .ok (.bastore, 1) := by decide +kernel
theorem dX6_follow_160 : decode cX6_follow 160 = .ok (.iinc 3 1, 3) := by decide +kernel
theorem dX6_follow_163 : decode cX6_follow 163 = .ok (.iload_n 2, 1) := by decide +kernel
theorem dX6_follow_164 : decode cX6_follow 164 = .ok (.iload 4, 2) := by decide +kernel
theorem dX6_follow_166 : decode cX6_follow 166 = .ok (.invokestatic 105, 3) := by decide +kernel
theorem dX6_follow_169 : decode cX6_follow 169 = .ok (.istore_n 2, 1) := by decide +kernel
theorem dX6_follow_170 : decode cX6_follow 170 = .ok (.goto (-156), 3) := by decide +kernel
theorem dX6_follow_173 : decode cX6_follow 173 = .ok (.aload_n 0, 1) := by decide +kernel
theorem dX6_follow_174 : decode cX6_follow 174 = .ok (.getfield 32, 3) := by decide +kernel
theorem dX6_follow_177 : decode cX6_follow 177 = .ok (.iload_n 1, 1) := by decide +kernel
theorem dX6_follow_178 : decode cX6_follow 178 = .ok (.iload_n 3, 1) := by decide +kernel
theorem dX6_follow_179 : decode cX6_follow 179 = .ok (.iastore, 1) := by decide +kernel
theorem dX6_follow_180 : decode cX6_follow 180 = .ok (.return_, 1) := by decide +kernel
theorem dX6_lead_0 : decode cX6_lead 0 = .ok (.aload_n 0, 1) := by decide +kernel
theorem dX6_lead_1 : decode cX6_lead 1 = .ok (.iconst 0, 1) := by decide +kernel
theorem dX6_lead_2 : decode cX6_lead 2 = .ok (.putfield 62, 3) := by decide +kernel
theorem dX6_lead_5 : decode cX6_lead 5 = .ok (.aload_n 0, 1) := by decide +kernel
theorem dX6_lead_6 : decode cX6_lead 6 = .ok (.iload_n 1, 1) := by decide +kernel
theorem dX6_lead_7 : decode cX6_lead 7 = .ok (.invokevirtual 128, 3) := by decide +kernel
theorem dX6_lead_10 : decode cX6_lead 10 = .ok (.ifCond .ne 6, 3) := by decide +kernel
theorem dX6_lead_13 : decode cX6_lead 13 = .ok (.ldc 82, 2) := by decide +kernel
theorem dX6_lead_15 : decode cX6_lead 15 = .ok (.ireturn, 1) := by decide +kernel
theorem dX6_lead_16 : decode cX6_lead 16 = .ok (.aload_n 0, 1) := by decide +kernel
theorem dX6_lead_17 : decode cX6_lead 17 = .ok (.iload_n 1, 1) := by decide +kernel
theorem dX6_lead_18 : decode cX6_lead 18 = .ok (.invokevirtual 131, 3) := by decide +kernel
theorem dX6_lead_21 : decode cX6_lead 21 = .ok (.aload_n 0, 1) := by decide +kernel
theorem dX6_lead_22 : decode cX6_lead 22 = .ok (.iload_n 1, 1) := by decide +kernel
theorem dX6_lead_23 : decode cX6_lead 23 = .ok (.invokevirtual 135, 3) := by decide +kernel
theorem dX6_lead_26 : decode cX6_lead 26 = .ok (.ifCond .ne 6, 3) := by decide +kernel
theorem dX6_lead_29 : decode cX6_lead 29 = .ok (.ldc 93, 2) := by decide +kernel
theorem dX6_lead_31 : decode cX6_lead 31 = .ok (.ireturn, 1) := by decide +kernel
theorem dX6_lead_32 : decode cX6_lead 32 = .ok (.aload_n 0, 1) := by decide +kernel
theorem dX6_lead_33 : decode cX6_lead 33 = .ok (.iload_n 1, 1) := by decide +kernel
theorem dX6_lead_34 : decode cX6_lead 34 = .ok (.invokevirtual 138, 3) := by decide +kernel
theorem dX6_lead_37 : decode cX6_lead 37 = .ok (.aload_n 0, 1) := by decide +kernel
theorem dX6_lead_38 : decode cX6_lead 38 = .ok (.getfield 44, 3) := by decide +kernel
theorem dX6_lead_41 : decode cX6_lead 41 = .ok (.aload_n 0, 1) := by decide +kernel
theorem dX6_lead_42 : decode cX6_lead 42 = .ok (.getfield 23, 3) := by decide +kernel
theorem dX6_lead_45 : decode cX6_lead 45 = .ok (.aload_n 0, 1) := by decide +kernel
theorem dX6_lead_46 : decode cX6_lead 46 = .ok (.getfield 26, 3) := by decide +kernel
theorem dX6_lead_49 : decode cX6_lead 49 = .ok (.iload_n 1, 1) := by decide +kernel
theorem dX6_lead_50 : decode cX6_lead 50 = .ok (.iaload, 1) := by decide +kernel
theorem dX6_lead_51 : decode cX6_lead 51 = .ok (.iaload, 1) := by decide +kernel
theorem dX6_lead_52 : decode cX6_lead 52 = .ok (.iaload, 1) := by decide +kernel
theorem dX6_lead_53 : decode cX6_lead 53 = .ok (.ireturn, 1) := by decide +kernel
theorem dX6_lay_0 : decode cX6_lay 0 = .ok (.aload_n 0, 1) := by decide +kernel
theorem dX6_lay_1 : decode cX6_lay 1 = .ok (.iconst 0, 1) := by decide +kernel
theorem dX6_lay_2 : decode cX6_lay 2 = .ok (.putfield 62, 3) := by decide +kernel
theorem dX6_lay_5 : decode cX6_lay 5 = .ok (.aload_n 0, 1) := by decide +kernel
theorem dX6_lay_6 : decode cX6_lay 6 = .ok (.iload_n 1, 1) := by decide +kernel
theorem dX6_lay_7 : decode cX6_lay 7 = .ok (.invokevirtual 128, 3) := by decide +kernel
theorem dX6_lay_10 : decode cX6_lay 10 = .ok (.ifCond .eq 23, 3) := by decide +kernel
theorem dX6_lay_13 : decode cX6_lay 13 = .ok (.iload_n 2, 1) := by decide +kernel
theorem dX6_lay_14 : decode cX6_lay 14 = .ok (.invokestatic 76, 3) := by decide +kernel
theorem dX6_lay_17 : decode cX6_lay 17 = .ok (.ifCond .eq 16, 3) := by decide +kernel
theorem dX6_lay_20 : decode cX6_lay 20 = .ok (.iload 4, 2) := by decide +kernel
theorem dX6_lay_22 : decode cX6_lay 22 = .ok (.i2l, 1) := by decide +kernel
theorem dX6_lay_23 : decode cX6_lay 23 = .ok (.lconst 1, 1) := by decide +kernel
theorem dX6_lay_24 : decode cX6_lay 24 = .ok (.ldc2_w 141, 3) := by decide +kernel
theorem dX6_lay_27 : decode cX6_lay 27 = .ok (.invokestatic 72, 3) := by decide +kernel
theorem dX6_lay_30 : decode cX6_lay 30 = .ok (.ifCond .ne 6, 3) := by decide +kernel
theorem dX6_lay_33 : decode cX6_lay 33 = .ok (.ldc 82, 2) := by decide +kernel
theorem dX6_lay_35 : decode cX6_lay 35 = .ok (.ireturn, 1) := by decide +kernel
theorem dX6_lay_36 : decode cX6_lay 36 = .ok (.aload_n 0, 1) := by decide +kernel
theorem dX6_lay_37 : decode cX6_lay 37 = .ok (.getfield 7, 3) := by decide +kernel
theorem dX6_lay_40 : decode cX6_lay 40 = .ok (.iload_n 2, 1) := by decide +kernel
theorem dX6_lay_41 : decode cX6_lay 41 = .ok (.iaload, 1) := by decide +kernel
theorem dX6_lay_42 : decode cX6_lay 42 = .ok (.ifCond .ge 9, 3) := by decide +kernel
theorem dX6_lay_45 : decode cX6_lay 45 = .ok (.aload_n 0, 1) := by decide +kernel
theorem dX6_lay_46 : decode cX6_lay 46 = .ok (.iconst 1, 1) := by decide +kernel
theorem dX6_lay_47 : decode cX6_lay 47 = .ok (.invokevirtual 83, 3) := by decide +kernel
theorem dX6_lay_50 : decode cX6_lay 50 = .ok (.ireturn, 1) := by decide +kernel
theorem dX6_lay_51 : decode cX6_lay 51 = .ok (.iload_n 3, 1) := by decide +kernel
theorem dX6_lay_52 : decode cX6_lay 52 = .ok (.ifCond .lt 20, 3) := by decide +kernel
theorem dX6_lay_55 : decode cX6_lay 55 = .ok (.iload_n 3, 1) := by decide +kernel
theorem dX6_lay_56 : decode cX6_lay 56 = .ok (.i2l, 1) := by decide +kernel
theorem dX6_lay_57 : decode cX6_lay 57 = .ok (.iload 4, 2) := by decide +kernel
theorem dX6_lay_59 : decode cX6_lay 59 = .ok (.i2l, 1) := by decide +kernel
theorem dX6_lay_60 : decode cX6_lay 60 = .ok (.ladd, 1) := by decide +kernel
theorem dX6_lay_61 : decode cX6_lay 61 = .ok (.aload_n 0, 1) := by decide +kernel
theorem dX6_lay_62 : decode cX6_lay 62 = .ok (.getfield 13, 3) := by decide +kernel
theorem dX6_lay_65 : decode cX6_lay 65 = .ok (.iload_n 2, 1) := by decide +kernel
theorem dX6_lay_66 : decode cX6_lay 66 = .ok (.iaload, 1) := by decide +kernel
theorem dX6_lay_67 : decode cX6_lay 67 = .ok (.i2l, 1) := by decide +kernel
theorem dX6_lay_68 : decode cX6_lay 68 = .ok (.lcmp, 1) := by decide +kernel
theorem dX6_lay_69 : decode cX6_lay 69 = .ok (.ifCond .le 9, 3) := by decide +kernel
theorem dX6_lay_72 : decode cX6_lay 72 = .ok (.aload_n 0, 1) := by decide +kernel
theorem dX6_lay_73 : decode cX6_lay 73 = .ok (.iconst 2, 1) := by decide +kernel
theorem dX6_lay_74 : decode cX6_lay 74 = .ok (.invokevirtual 83, 3) := by decide +kernel
theorem dX6_lay_77 : decode cX6_lay 77 = .ok (.ireturn, 1) := by decide +kernel
theorem dX6_lay_78 : decode cX6_lay 78 = .ok (.iconst 0, 1) := by decide +kernel
theorem dX6_lay_79 : decode cX6_lay 79 = .ok (.istore 5, 2) := by decide +kernel
theorem dX6_lay_81 : decode cX6_lay 81 = .ok (.iload 5, 2) := by decide +kernel
theorem dX6_lay_83 : decode cX6_lay 83 = .ok (.bipush 100, 2) := by decide +kernel
theorem dX6_lay_85 : decode cX6_lay 85 = .ok (.if_icmp .ge 17, 3) := by decide +kernel
theorem dX6_lay_88 : decode cX6_lay 88 = .ok (.aload_n 0, 1) := by decide +kernel
theorem dX6_lay_89 : decode cX6_lay 89 = .ok (.getfield 47, 3) := by decide +kernel
theorem dX6_lay_92 : decode cX6_lay 92 = .ok (.iload 5, 2) := by decide +kernel
theorem dX6_lay_94 : decode cX6_lay 94 = .ok (.iconst 0, 1) := by decide +kernel
theorem dX6_lay_95 : decode cX6_lay 95 = .ok (.iastore, 1) := by decide +kernel
theorem dX6_lay_96 : decode cX6_lay 96 = .ok (.iinc 5 1, 3) := by decide +kernel
theorem dX6_lay_99 : decode cX6_lay 99 = .ok (.goto (-18), 3) := by decide +kernel
theorem dX6_lay_102 : decode cX6_lay 102 = .ok (.aload_n 0, 1) := by decide +kernel
theorem dX6_lay_103 : decode cX6_lay 103 = .ok (.getfield 23, 3) := by decide +kernel
theorem dX6_lay_106 : decode cX6_lay 106 = .ok (.aload_n 0, 1) := by decide +kernel
theorem dX6_lay_107 : decode cX6_lay 107 = .ok (.getfield 26, 3) := by decide +kernel
theorem dX6_lay_110 : decode cX6_lay 110 = .ok (.iload_n 1, 1) := by decide +kernel
theorem dX6_lay_111 : decode cX6_lay 111 = .ok (.iaload, 1) := by decide +kernel
theorem dX6_lay_112 : decode cX6_lay 112 = .ok (.iaload, 1) := by decide +kernel
theorem dX6_lay_113 : decode cX6_lay 113 = .ok (.istore 5, 2) := by decide +kernel
theorem dX6_lay_115 : decode cX6_lay 115 = .ok (.iconst 1, 1) := by decide +kernel
theorem dX6_lay_116 : decode cX6_lay 116 = .ok (.istore 6, 2) := by decide +kernel
theorem dX6_lay_118 : decode cX6_lay 118 = .ok (.iconst 0, 1) := by decide +kernel
theorem dX6_lay_119 : decode cX6_lay 119 = .ok (.istore 7, 2) := by decide +kernel
theorem dX6_lay_121 : decode cX6_lay 121 = .ok (.iload 7, 2) := by decide +kernel
theorem dX6_lay_123 : decode cX6_lay 123 = .ok (.iload 4, 2) := by decide +kernel
theorem dX6_lay_125 : decode cX6_lay 125 = .ok (.if_icmp .ge 135, 3) := by decide +kernel
theorem dX6_lay_128 : decode cX6_lay 128 = .ok (.iload 6, 2) := by decide +kernel
theorem dX6_lay_130 : decode cX6_lay 130 = .ok (.ifCond .eq 130, 3) := by decide +kernel
theorem dX6_lay_133 : decode cX6_lay 133 = .ok (.aload_n 0, 1) := by decide +kernel
theorem dX6_lay_134 : decode cX6_lay 134 = .ok (.getfield 47, 3) := by decide +kernel
theorem dX6_lay_137 : decode cX6_lay 137 = .ok (.iload 5, 2) := by decide +kernel
theorem dX6_lay_139 : decode cX6_lay 139 = .ok (.iconst 1, 1) := by decide +kernel
theorem dX6_lay_140 : decode cX6_lay 140 = .ok (.iastore, 1) := by decide +kernel
theorem dX6_lay_141 : decode cX6_lay 141 = .ok (.aload_n 0, 1) := by decide +kernel
theorem dX6_lay_142 : decode cX6_lay 142 = .ok (.getfield 16, 3) := by decide +kernel
theorem dX6_lay_145 : decode cX6_lay 145 = .ok (.bipush 60, 2) := by decide +kernel
theorem dX6_lay_147 : decode cX6_lay 147 = .ok (.iload_n 2, 1) := by decide +kernel
theorem dX6_lay_148 : decode cX6_lay 148 = .ok (.imul, 1) := by decide +kernel
theorem dX6_lay_149 : decode cX6_lay 149 = .ok (.iload_n 3, 1) := by decide +kernel
theorem dX6_lay_150 : decode cX6_lay 150 = .ok (.iadd, 1) := by decide +kernel
theorem dX6_lay_151 : decode cX6_lay 151 = .ok (.iload 7, 2) := by decide +kernel
theorem dX6_lay_153 : decode cX6_lay 153 = .ok (.iadd, 1) := by decide +kernel
theorem dX6_lay_154 : decode cX6_lay 154 = .ok (.iaload, 1) := by decide +kernel
theorem dX6_lay_155 : decode cX6_lay 155 = .ok (.istore 8, 2) := by decide +kernel
theorem dX6_lay_157 : decode cX6_lay 157 = .ok (.iload 8, 2) := by decide +kernel
theorem dX6_lay_159 : decode cX6_lay 159 = .ok (.i2l, 1) := by decide +kernel
theorem dX6_lay_160 : decode cX6_lay 160 = .ok (.lconst 0, 1) := by decide +kernel
theorem dX6_lay_161 : decode cX6_lay 161 = .ok (.ldc2_w 143, 3) := by decide +kernel
theorem dX6_lay_164 : decode cX6_lay 164 = .ok (.invokestatic 72, 3) := by decide +kernel
theorem dX6_lay_167 : decode cX6_lay 167 = .ok (.ifCond .eq 13, 3) := by decide +kernel
theorem dX6_lay_170 : decode cX6_lay 170 = .ok (.iload 5, 2) := by decide +kernel
theorem dX6_lay_172 : decode cX6_lay 172 = .ok (.iload 8, 2) := by decide +kernel
theorem dX6_lay_174 : decode cX6_lay 174 = .ok (.invokestatic 105, 3) := by decide +kernel
theorem dX6_lay_177 : decode cX6_lay 177 = .ok (.goto 5, 3) := by decide +kernel
theorem dX6_lay_180 : decode cX6_lay 180 = .ok (.ldc 93, 2) := by decide +kernel
theorem dX6_lay_182 : decode cX6_lay 182 = .ok (.istore 9, 2) := by decide +kernel
theorem dX6_lay_184 : decode cX6_lay 184 = .ok (.iload 9, 2) := by decide +kernel
theorem dX6_lay_186 : decode cX6_lay 186 = .ok (.ldc 93, 2) := by decide +kernel
theorem dX6_lay_188 : decode cX6_lay 188 = .ok (.if_icmp .eq 49, 3) := by decide +kernel
theorem dX6_lay_191 : decode cX6_lay 191 = .ok (.aload_n 0, 1) := by decide +kernel
theorem dX6_lay_192 : decode cX6_lay 192 = .ok (.getfield 19, 3) := by decide +kernel
theorem dX6_lay_195 : decode cX6_lay 195 = .ok (.iload 9, 2) := by decide +kernel
theorem dX6_lay_197 : decode cX6_lay 197 = .ok (.ldc 93, 2) := by decide +kernel
theorem dX6_lay_199 : decode cX6_lay 199 = .ok (.if_icmp .ne 7, 3) := by decide +kernel
theorem dX6_lay_202 : decode cX6_lay 202 = .ok (.iconst 0, 1) := by decide +kernel
theorem dX6_lay_203 : decode cX6_lay 203 = .ok (.goto 5, 3) := by decide +kernel
theorem dX6_lay_206 : decode cX6_lay 206 = .ok (.iload 9, 2) := by decide +kernel
theorem dX6_lay_208 : decode cX6_lay 208 = .ok (.baload, 1) := by decide +kernel
theorem dX6_lay_209 : decode cX6_lay 209 = .ok (.ifCond .ne 28, 3) := by decide +kernel
theorem dX6_lay_212 : decode cX6_lay 212 = .ok (.aload_n 0, 1) := by decide +kernel
theorem dX6_lay_213 : decode cX6_lay 213 = .ok (.getfield 47, 3) := by decide +kernel
theorem dX6_lay_216 : decode cX6_lay 216 = .ok (.iload 9, 2) := by decide +kernel
theorem dX6_lay_218 : decode cX6_lay 218 = .ok (.ldc 93, 2) := by decide +kernel
theorem dX6_lay_220 : decode cX6_lay 220 = .ok (.if_icmp .ne 7, 3) := by decide +kernel
theorem dX6_lay_223 : decode cX6_lay 223 = .ok (.iconst 0, 1) := by decide +kernel
theorem dX6_lay_224 : decode cX6_lay 224 = .ok (.goto 5, 3) := by decide +kernel
theorem dX6_lay_227 : decode cX6_lay 227 = .ok (.iload 9, 2) := by decide +kernel
theorem dX6_lay_229 : decode cX6_lay 229 = .ok (.iaload, 1) := by decide +kernel
theorem dX6_lay_230 : decode cX6_lay 230 = .ok (.ifCond .ne 7, 3) := by decide +kernel
theorem dX6_lay_233 : decode cX6_lay 233 = .ok (.iconst 1, 1) := by decide +kernel
theorem dX6_lay_234 : decode cX6_lay 234 = .ok (.goto 4, 3) := by decide +kernel
theorem dX6_lay_237 : decode cX6_lay 237 = .ok (.iconst 0, 1) := by decide +kernel
theorem dX6_lay_238 : decode cX6_lay 238 = .ok (.istore 6, 2) := by decide +kernel
theorem dX6_lay_240 : decode cX6_lay 240 = .ok (.iload 6, 2) := by decide +kernel
theorem dX6_lay_242 : decode cX6_lay 242 = .ok (.ifCond .eq 8, 3) := by decide +kernel
theorem dX6_lay_245 : decode cX6_lay 245 = .ok (.iload 9, 2) := by decide +kernel
theorem dX6_lay_247 : decode cX6_lay 247 = .ok (.goto 5, 3) := by decide +kernel
theorem dX6_lay_250 : decode cX6_lay 250 = .ok (.iload 5, 2) := by decide +kernel
theorem dX6_lay_252 : decode cX6_lay 252 = .ok (.istore 5, 2) := by decide +kernel
theorem dX6_lay_254 : decode cX6_lay 254 = .ok (.iinc 7 1, 3) := by decide +kernel
theorem dX6_lay_257 : decode cX6_lay 257 = .ok (.goto (-136), 3) := by decide +kernel
theorem dX6_lay_260 : decode cX6_lay 260 = .ok (.iload 6, 2) := by decide +kernel
theorem dX6_lay_262 : decode cX6_lay 262 = .ok (.ifCond .eq 19, 3) := by decide +kernel
theorem dX6_lay_265 : decode cX6_lay 265 = .ok (.iload 5, 2) := by decide +kernel
theorem dX6_lay_267 : decode cX6_lay 267 = .ok (.aload_n 0, 1) := by decide +kernel
theorem dX6_lay_268 : decode cX6_lay 268 = .ok (.getfield 23, 3) := by decide +kernel
theorem dX6_lay_271 : decode cX6_lay 271 = .ok (.aload_n 0, 1) := by decide +kernel
theorem dX6_lay_272 : decode cX6_lay 272 = .ok (.getfield 29, 3) := by decide +kernel
theorem dX6_lay_275 : decode cX6_lay 275 = .ok (.iload_n 1, 1) := by decide +kernel
theorem dX6_lay_276 : decode cX6_lay 276 = .ok (.iaload, 1) := by decide +kernel
theorem dX6_lay_277 : decode cX6_lay 277 = .ok (.iaload, 1) := by decide +kernel
theorem dX6_lay_278 : decode cX6_lay 278 = .ok (.if_icmp .eq 6, 3) := by decide +kernel
theorem dX6_lay_281 : decode cX6_lay 281 = .ok (.ldc 82, 2) := by decide +kernel
theorem dX6_lay_283 : decode cX6_lay 283 = .ok (.ireturn, 1) := by decide +kernel
theorem dX6_lay_284 : decode cX6_lay 284 = .ok (.aload_n 0, 1) := by decide +kernel
theorem dX6_lay_285 : decode cX6_lay 285 = .ok (.iconst 0, 1) := by decide +kernel
theorem dX6_lay_286 : decode cX6_lay 286 = .ok (.putfield 66, 3) := by decide +kernel
theorem dX6_lay_289 : decode cX6_lay 289 = .ok (.aload_n 0, 1) := by decide +kernel
theorem dX6_lay_290 : decode cX6_lay 290 = .ok (.iload_n 1, 1) := by decide +kernel
theorem dX6_lay_291 : decode cX6_lay 291 = .ok (.invokevirtual 131, 3) := by decide +kernel
theorem dX6_lay_294 : decode cX6_lay 294 = .ok (.aload_n 0, 1) := by decide +kernel
theorem dX6_lay_295 : decode cX6_lay 295 = .ok (.getfield 23, 3) := by decide +kernel
theorem dX6_lay_298 : decode cX6_lay 298 = .ok (.aload_n 0, 1) := by decide +kernel
theorem dX6_lay_299 : decode cX6_lay 299 = .ok (.getfield 26, 3) := by decide +kernel
theorem dX6_lay_302 : decode cX6_lay 302 = .ok (.iload_n 1, 1) := by decide +kernel
theorem dX6_lay_303 : decode cX6_lay 303 = .ok (.iaload, 1) := by decide +kernel
theorem dX6_lay_304 : decode cX6_lay 304 = .ok (.iaload, 1) := by decide +kernel
theorem dX6_lay_305 : decode cX6_lay 305 = .ok (.istore 5, 2) := by decide +kernel
theorem dX6_lay_307 : decode cX6_lay 307 = .ok (.iconst 0, 1) := by decide +kernel
theorem dX6_lay_308 : decode cX6_lay 308 = .ok (.istore 7, 2) := by decide +kernel
theorem dX6_lay_310 : decode cX6_lay 310 = .ok (.iload 7, 2) := by decide +kernel
theorem dX6_lay_312 : decode cX6_lay 312 = .ok (.iload 4, 2) := by decide +kernel
theorem dX6_lay_314 : decode cX6_lay 314 = .ok (.if_icmp .ge 67, 3) := by decide +kernel
theorem dX6_lay_317 : decode cX6_lay 317 = .ok (.aload_n 0, 1) := by decide +kernel
theorem dX6_lay_318 : decode cX6_lay 318 = .ok (.getfield 16, 3) := by decide +kernel
theorem dX6_lay_321 : decode cX6_lay 321 = .ok (.bipush 60, 2) := by decide +kernel
theorem dX6_lay_323 : decode cX6_lay 323 = .ok (.iload_n 2, 1) := by decide +kernel
theorem dX6_lay_324 : decode cX6_lay 324 = .ok (.imul, 1) := by decide +kernel
theorem dX6_lay_325 : decode cX6_lay 325 = .ok (.iload_n 3, 1) := by decide +kernel
theorem dX6_lay_326 : decode cX6_lay 326 = .ok (.iadd, 1) := by decide +kernel
theorem dX6_lay_327 : decode cX6_lay 327 = .ok (.iload 7, 2) := by decide +kernel
theorem dX6_lay_329 : decode cX6_lay 329 = .ok (.iadd, 1) := by decide +kernel
theorem dX6_lay_330 : decode cX6_lay 330 = .ok (.iaload, 1) := by decide +kernel
theorem dX6_lay_331 : decode cX6_lay 331 = .ok (.istore 8, 2) := by decide +kernel
theorem dX6_lay_333 : decode cX6_lay 333 = .ok (.aload_n 0, 1) := by decide +kernel
theorem dX6_lay_334 : decode cX6_lay 334 = .ok (.getfield 35, 3) := by decide +kernel
theorem dX6_lay_337 : decode cX6_lay 337 = .ok (.bipush 100, 2) := by decide +kernel
theorem dX6_lay_339 : decode cX6_lay 339 = .ok (.iload_n 1, 1) := by decide +kernel
theorem dX6_lay_340 : decode cX6_lay 340 = .ok (.imul, 1) := by decide +kernel
theorem dX6_lay_341 : decode cX6_lay 341 = .ok (.iload 7, 2) := by decide +kernel
theorem dX6_lay_343 : decode cX6_lay 343 = .ok (.iadd, 1) := by decide +kernel
theorem dX6_lay_344 : decode cX6_lay 344 = .ok (.iload 8, 2) := by decide +kernel
theorem dX6_lay_346 : decode cX6_lay 346 = .ok (.iastore, 1) := by decide +kernel
theorem dX6_lay_347 : decode cX6_lay 347 = .ok (.aload_n 0, 1) := by decide +kernel
theorem dX6_lay_348 : decode cX6_lay 348 = .ok (.getfield 38, 3) := by decide +kernel
theorem dX6_lay_351 : decode cX6_lay 351 = .ok (.sipush 180, 3) := by decide +kernel
theorem dX6_lay_354 : decode cX6_lay 354 = .ok (.iload_n 1, 1) := by decide +kernel
theorem dX6_lay_355 : decode cX6_lay 355 = .ok (.imul, 1) := by decide +kernel
theorem dX6_lay_356 : decode cX6_lay 356 = .ok (.iload 5, 2) := by decide +kernel
theorem dX6_lay_358 : decode cX6_lay 358 = .ok (.iload 8, 2) := by decide +kernel
theorem dX6_lay_360 : decode cX6_lay 360 = .ok (.invokestatic 109, 3) := by decide +kernel
theorem dX6_lay_363 : decode cX6_lay 363 = .ok (.iadd, 1) := by decide +kernel
theorem dX6_lay_364 : decode cX6_lay 364 = .ok (.iconst 1, 1) := by decide +kernel
theorem dX6_lay_365 : decode cX6_lay 365 = .ok (.bastore, 1) := by decide +kernel
theorem dX6_lay_366 : decode cX6_lay 366 = .ok (.iload 5, 2) := by decide +kernel
theorem dX6_lay_368 : decode cX6_lay 368 = .ok (.iload 8, 2) := by decide +kernel
theorem dX6_lay_370 : decode cX6_lay 370 = .ok (.invokestatic 105, 3) := by decide +kernel
theorem dX6_lay_373 : decode cX6_lay 373 = .ok (.istore 5, 2) := by decide +kernel
theorem dX6_lay_375 : decode cX6_lay 375 = .ok (.iinc 7 1, 3) := by decide +kernel
theorem dX6_lay_378 : decode cX6_lay 378 = .ok (.goto (-68), 3) := by decide +kernel
theorem dX6_lay_381 : decode cX6_lay 381 = .ok (.aload_n 0, 1) := by decide +kernel
theorem dX6_lay_382 : decode cX6_lay 382 = .ok (.getfield 32, 3) := by decide +kernel
theorem dX6_lay_385 : decode cX6_lay 385 = .ok (.iload_n 1, 1) := by decide +kernel
theorem dX6_lay_386 : decode cX6_lay 386 = .ok (.iload 4, 2) := by decide +kernel
theorem dX6_lay_388 : decode cX6_lay 388 = .ok (.iastore, 1) := by decide +kernel
theorem dX6_lay_389 : decode cX6_lay 389 = .ok (.iconst 1, 1) := by decide +kernel
theorem dX6_lay_390 : decode cX6_lay 390 = .ok (.ireturn, 1) := by decide +kernel
theorem dX6_take_0 : decode cX6_take 0 = .ok (.aload_n 0, 1) := by decide +kernel
theorem dX6_take_1 : decode cX6_take 1 = .ok (.iconst 0, 1) := by decide +kernel
theorem dX6_take_2 : decode cX6_take 2 = .ok (.putfield 62, 3) := by decide +kernel
theorem dX6_take_5 : decode cX6_take 5 = .ok (.aload_n 0, 1) := by decide +kernel
theorem dX6_take_6 : decode cX6_take 6 = .ok (.iload_n 1, 1) := by decide +kernel
theorem dX6_take_7 : decode cX6_take 7 = .ok (.invokevirtual 128, 3) := by decide +kernel
theorem dX6_take_10 : decode cX6_take 10 = .ok (.ifCond .ne 6, 3) := by decide +kernel
theorem dX6_take_13 : decode cX6_take 13 = .ok (.ldc 82, 2) := by decide +kernel
theorem dX6_take_15 : decode cX6_take 15 = .ok (.ireturn, 1) := by decide +kernel
theorem dX6_take_16 : decode cX6_take 16 = .ok (.aload_n 0, 1) := by decide +kernel
theorem dX6_take_17 : decode cX6_take 17 = .ok (.getfield 32, 3) := by decide +kernel
theorem dX6_take_20 : decode cX6_take 20 = .ok (.iload_n 1, 1) := by decide +kernel
theorem dX6_take_21 : decode cX6_take 21 = .ok (.iaload, 1) := by decide +kernel
theorem dX6_take_22 : decode cX6_take 22 = .ok (.ifCond .le 7, 3) := by decide +kernel
theorem dX6_take_25 : decode cX6_take 25 = .ok (.iconst 1, 1) := by decide +kernel
theorem dX6_take_26 : decode cX6_take 26 = .ok (.goto 4, 3) := by decide +kernel
theorem dX6_take_29 : decode cX6_take 29 = .ok (.iconst 0, 1) := by decide +kernel
theorem dX6_take_30 : decode cX6_take 30 = .ok (.istore_n 2, 1) := by decide +kernel
theorem dX6_take_31 : decode cX6_take 31 = .ok (.aload_n 0, 1) := by decide +kernel
theorem dX6_take_32 : decode cX6_take 32 = .ok (.iload_n 1, 1) := by decide +kernel
theorem dX6_take_33 : decode cX6_take 33 = .ok (.invokevirtual 131, 3) := by decide +kernel
theorem dX6_take_36 : decode cX6_take 36 = .ok (.iload_n 2, 1) := by decide +kernel
theorem dX6_take_37 : decode cX6_take 37 = .ok (.ireturn, 1) := by decide +kernel
theorem dX6_passed_0 : decode cX6_passed 0 = .ok (.iconst 0, 1) := by decide +kernel
theorem dX6_passed_1 : decode cX6_passed 1 = .ok (.istore_n 1, 1) := by decide +kernel
theorem dX6_passed_2 : decode cX6_passed 2 = .ok (.iconst 0, 1) := by decide +kernel
theorem dX6_passed_3 : decode cX6_passed 3 = .ok (.istore_n 2, 1) := by decide +kernel
theorem dX6_passed_4 : decode cX6_passed 4 = .ok (.iload_n 2, 1) := by decide +kernel
theorem dX6_passed_5 : decode cX6_passed 5 = .ok (.aload_n 0, 1) := by decide +kernel
theorem dX6_passed_6 : decode cX6_passed 6 = .ok (.getfield 102, 3) := by decide +kernel
theorem dX6_passed_9 : decode cX6_passed 9 = .ok (.if_icmp .ge 202, 3) := by decide +kernel
theorem dX6_passed_12 : decode cX6_passed 12 = .ok (.aload_n 0, 1) := by decide +kernel
theorem dX6_passed_13 : decode cX6_passed 13 = .ok (.getfield 32, 3) := by decide +kernel
theorem dX6_passed_16 : decode cX6_passed 16 = .ok (.iload_n 2, 1) := by decide +kernel
theorem dX6_passed_17 : decode cX6_passed 17 = .ok (.iaload, 1) := by decide +kernel
theorem dX6_passed_18 : decode cX6_passed 18 = .ok (.istore_n 3, 1) := by decide +kernel
theorem dX6_passed_19 : decode cX6_passed 19 = .ok (.aload_n 0, 1) := by decide +kernel
theorem dX6_passed_20 : decode cX6_passed 20 = .ok (.iload_n 2, 1) := by decide +kernel
theorem dX6_passed_21 : decode cX6_passed 21 = .ok (.invokevirtual 145, 3) := by decide +kernel
theorem dX6_passed_24 : decode cX6_passed 24 = .ok (.istore 4, 2) := by decide +kernel
theorem dX6_passed_26 : decode cX6_passed 26 = .ok (.iconst 0, 1) := by decide +kernel
theorem dX6_passed_27 : decode cX6_passed 27 = .ok (.istore 5, 2) := by decide +kernel
theorem dX6_passed_29 : decode cX6_passed 29 = .ok (.iload 5, 2) := by decide +kernel
theorem dX6_passed_31 : decode cX6_passed 31 = .ok (.iload_n 3, 1) := by decide +kernel
theorem dX6_passed_32 : decode cX6_passed 32 = .ok (.if_icmp .ge 28, 3) := by decide +kernel
theorem dX6_passed_35 : decode cX6_passed 35 = .ok (.aload_n 0, 1) := by decide +kernel
theorem dX6_passed_36 : decode cX6_passed 36 = .ok (.getfield 53, 3) := by decide +kernel
theorem dX6_passed_39 : decode cX6_passed 39 = .ok (.iload 5, 2) := by decide +kernel
theorem dX6_passed_41 : decode cX6_passed 41 = .ok (.aload_n 0, 1) := by decide +kernel
theorem dX6_passed_42 : decode cX6_passed 42 = .ok (.getfield 35, 3) := by decide +kernel
theorem dX6_passed_45 : decode cX6_passed 45 = .ok (.bipush 100, 2) := by decide +kernel
theorem dX6_passed_47 : decode cX6_passed 47 = .ok (.iload_n 2, 1) := by decide +kernel
theorem dX6_passed_48 : decode cX6_passed 48 = .ok (.imul, 1) := by decide +kernel
theorem dX6_passed_49 : decode cX6_passed 49 = .ok (.iload 5, 2) := by decide +kernel
theorem dX6_passed_51 : decode cX6_passed 51 = .ok (.iadd, 1) := by decide +kernel
theorem dX6_passed_52 : decode cX6_passed 52 = .ok (.iaload, 1) := by decide +kernel
theorem dX6_passed_53 : decode cX6_passed 53 = .ok (.iastore, 1) := by decide +kernel
theorem dX6_passed_54 : decode cX6_passed 54 = .ok (.iinc 5 1, 3) := by decide +kernel
theorem dX6_passed_57 : decode cX6_passed 57 = .ok (.goto (-28), 3) := by decide +kernel
theorem dX6_passed_60 : decode cX6_passed 60 = .ok (.aload_n 0, 1) := by decide +kernel
theorem dX6_passed_61 : decode cX6_passed 61 = .ok (.iload_n 2, 1) := by decide +kernel
theorem dX6_passed_62 : decode cX6_passed 62 = .ok (.invokevirtual 131, 3) := by decide +kernel
theorem dX6_passed_65 : decode cX6_passed 65 = .ok (.aload_n 0, 1) := by decide +kernel
theorem dX6_passed_66 : decode cX6_passed 66 = .ok (.iload_n 2, 1) := by decide +kernel
theorem dX6_passed_67 : decode cX6_passed 67 = .ok (.invokevirtual 135, 3) := by decide +kernel
theorem dX6_passed_70 : decode cX6_passed 70 = .ok (.istore 5, 2) := by decide +kernel
theorem dX6_passed_72 : decode cX6_passed 72 = .ok (.iload 5, 2) := by decide +kernel
theorem dX6_passed_74 : decode cX6_passed 74 = .ok (.ifCond .eq 39, 3) := by decide +kernel
theorem dX6_passed_77 : decode cX6_passed 77 = .ok (.iload_n 3, 1) := by decide +kernel
theorem dX6_passed_78 : decode cX6_passed 78 = .ok (.ifCond .eq 24, 3) := by decide +kernel
theorem dX6_passed_81 : decode cX6_passed 81 = .ok (.aload_n 0, 1) := by decide +kernel
theorem dX6_passed_82 : decode cX6_passed 82 = .ok (.getfield 44, 3) := by decide +kernel
theorem dX6_passed_85 : decode cX6_passed 85 = .ok (.aload_n 0, 1) := by decide +kernel
theorem dX6_passed_86 : decode cX6_passed 86 = .ok (.getfield 23, 3) := by decide +kernel
theorem dX6_passed_89 : decode cX6_passed 89 = .ok (.aload_n 0, 1) := by decide +kernel
theorem dX6_passed_90 : decode cX6_passed 90 = .ok (.getfield 26, 3) := by decide +kernel
theorem dX6_passed_93 : decode cX6_passed 93 = .ok (.iload_n 2, 1) := by decide +kernel
theorem dX6_passed_94 : decode cX6_passed 94 = .ok (.iaload, 1) := by decide +kernel
theorem dX6_passed_95 : decode cX6_passed 95 = .ok (.iaload, 1) := by decide +kernel
theorem dX6_passed_96 : decode cX6_passed 96 = .ok (.iaload, 1) := by decide +kernel
theorem dX6_passed_97 : decode cX6_passed 97 = .ok (.iload 4, 2) := by decide +kernel
theorem dX6_passed_99 : decode cX6_passed 99 = .ok (.if_icmp .ge 14, 3) := by decide +kernel
theorem dX6_passed_102 : decode cX6_passed 102 = .ok (.aload_n 0, 1) := by decide +kernel
theorem dX6_passed_103 : decode cX6_passed 103 = .ok (.iload_n 2, 1) := by decide +kernel
theorem dX6_passed_104 : decode cX6_passed 104 = .ok (.invokevirtual 138, 3) := by decide +kernel
theorem dX6_passed_107 : decode cX6_passed 107 = .ok (.iinc 1 1, 3) := by decide +kernel
theorem dX6_passed_110 : decode cX6_passed 110 = .ok (.goto 95, 3) := by decide +kernel
theorem dX6_passed_113 : decode cX6_passed 113 = .ok (.aload_n 0, 1) := by decide +kernel
theorem dX6_passed_114 : decode cX6_passed 114 = .ok (.getfield 23, 3) := by decide +kernel
theorem dX6_passed_117 : decode cX6_passed 117 = .ok (.aload_n 0, 1) := by decide +kernel
theorem dX6_passed_118 : decode cX6_passed 118 = .ok (.getfield 26, 3) := by decide +kernel
theorem dX6_passed_121 : decode cX6_passed 121 = .ok (.iload_n 2, 1) := by decide +kernel
theorem dX6_passed_122 : decode cX6_passed 122 = .ok (.iaload, 1) := by decide +kernel
theorem dX6_passed_123 : decode cX6_passed 123 = .ok (.iaload, 1) := by decide +kernel
theorem dX6_passed_124 : decode cX6_passed 124 = .ok (.istore 6, 2) := by decide +kernel
theorem dX6_passed_126 : decode cX6_passed 126 = .ok (.iconst 0, 1) := by decide +kernel
theorem dX6_passed_127 : decode cX6_passed 127 = .ok (.istore 7, 2) := by decide +kernel
theorem dX6_passed_129 : decode cX6_passed 129 = .ok (.iload 7, 2) := by decide +kernel
theorem dX6_passed_131 : decode cX6_passed 131 = .ok (.iload_n 3, 1) := by decide +kernel
theorem dX6_passed_132 : decode cX6_passed 132 = .ok (.if_icmp .ge 66, 3) := by decide +kernel
theorem dX6_passed_135 : decode cX6_passed 135 = .ok (.aload_n 0, 1) := by decide +kernel
theorem dX6_passed_136 : decode cX6_passed 136 = .ok (.getfield 35, 3) := by decide +kernel
theorem dX6_passed_139 : decode cX6_passed 139 = .ok (.bipush 100, 2) := by decide +kernel
theorem dX6_passed_141 : decode cX6_passed 141 = .ok (.iload_n 2, 1) := by decide +kernel
theorem dX6_passed_142 : decode cX6_passed 142 = .ok (.imul, 1) := by decide +kernel
theorem dX6_passed_143 : decode cX6_passed 143 = .ok (.iload 7, 2) := by decide +kernel
theorem dX6_passed_145 : decode cX6_passed 145 = .ok (.iadd, 1) := by decide +kernel
theorem dX6_passed_146 : decode cX6_passed 146 = .ok (.aload_n 0, 1) := by decide +kernel
theorem dX6_passed_147 : decode cX6_passed 147 = .ok (.getfield 53, 3) := by decide +kernel
theorem dX6_passed_150 : decode cX6_passed 150 = .ok (.iload 7, 2) := by decide +kernel
theorem dX6_passed_152 : decode cX6_passed 152 = .ok (.iaload, 1) := by decide +kernel
theorem dX6_passed_153 : decode cX6_passed 153 = .ok (.iastore, 1) := by decide +kernel
theorem dX6_passed_154 : decode cX6_passed 154 = .ok (.aload_n 0, 1) := by decide +kernel
theorem dX6_passed_155 : decode cX6_passed 155 = .ok (.getfield 38, 3) := by decide +kernel
theorem dX6_passed_158 : decode cX6_passed 158 = .ok (.sipush 180, 3) := by decide +kernel
theorem dX6_passed_161 : decode cX6_passed 161 = .ok (.iload_n 2, 1) := by decide +kernel
theorem dX6_passed_162 : decode cX6_passed 162 = .ok (.imul, 1) := by decide +kernel
theorem dX6_passed_163 : decode cX6_passed 163 = .ok (.iload 6, 2) := by decide +kernel
theorem dX6_passed_165 : decode cX6_passed 165 = .ok (.aload_n 0, 1) := by decide +kernel
theorem dX6_passed_166 : decode cX6_passed 166 = .ok (.getfield 53, 3) := by decide +kernel
theorem dX6_passed_169 : decode cX6_passed 169 = .ok (.iload 7, 2) := by decide +kernel
theorem dX6_passed_171 : decode cX6_passed 171 = .ok (.iaload, 1) := by decide +kernel
theorem dX6_passed_172 : decode cX6_passed 172 = .ok (.invokestatic 109, 3) := by decide +kernel
theorem dX6_passed_175 : decode cX6_passed 175 = .ok (.iadd, 1) := by decide +kernel
theorem dX6_passed_176 : decode cX6_passed 176 = .ok (.iconst 1, 1) := by decide +kernel
theorem dX6_passed_177 : decode cX6_passed 177 = .ok (.bastore, 1) := by decide +kernel
theorem dX6_passed_178 : decode cX6_passed 178 = .ok (.iload 6, 2) := by decide +kernel
theorem dX6_passed_180 : decode cX6_passed 180 = .ok (.aload_n 0, 1) := by decide +kernel
theorem dX6_passed_181 : decode cX6_passed 181 = .ok (.getfield 53, 3) := by decide +kernel
theorem dX6_passed_184 : decode cX6_passed 184 = .ok (.iload 7, 2) := by decide +kernel
theorem dX6_passed_186 : decode cX6_passed 186 = .ok (.iaload, 1) := by decide +kernel
theorem dX6_passed_187 : decode cX6_passed 187 = .ok (.invokestatic 105, 3) := by decide +kernel
theorem dX6_passed_190 : decode cX6_passed 190 = .ok (.istore 6, 2) := by decide +kernel
theorem dX6_passed_192 : decode cX6_passed 192 = .ok (.iinc 7 1, 3) := by decide +kernel
theorem dX6_passed_195 : decode cX6_passed 195 = .ok (.goto (-66), 3) := by decide +kernel
theorem dX6_passed_198 : decode cX6_passed 198 = .ok (.aload_n 0, 1) := by decide +kernel
theorem dX6_passed_199 : decode cX6_passed 199 = .ok (.getfield 32, 3) := by decide +kernel
theorem dX6_passed_202 : decode cX6_passed 202 = .ok (.iload_n 2, 1) := by decide +kernel
theorem dX6_passed_203 : decode cX6_passed 203 = .ok (.iload_n 3, 1) := by decide +kernel
theorem dX6_passed_204 : decode cX6_passed 204 = .ok (.iastore, 1) := by decide +kernel
theorem dX6_passed_205 : decode cX6_passed 205 = .ok (.iinc 2 1, 3) := by decide +kernel
theorem dX6_passed_208 : decode cX6_passed 208 = .ok (.goto (-204), 3) := by decide +kernel
theorem dX6_passed_211 : decode cX6_passed 211 = .ok (.iload_n 1, 1) := by decide +kernel
theorem dX6_passed_212 : decode cX6_passed 212 = .ok (.ireturn, 1) := by decide +kernel
theorem dX6_pass_0 : decode cX6_pass 0 = .ok (.aload_n 0, 1) := by decide +kernel
theorem dX6_pass_1 : decode cX6_pass 1 = .ok (.iconst 0, 1) := by decide +kernel
theorem dX6_pass_2 : decode cX6_pass 2 = .ok (.putfield 62, 3) := by decide +kernel
theorem dX6_pass_5 : decode cX6_pass 5 = .ok (.aload_n 0, 1) := by decide +kernel
theorem dX6_pass_6 : decode cX6_pass 6 = .ok (.invokevirtual 148, 3) := by decide +kernel
theorem dX6_pass_9 : decode cX6_pass 9 = .ok (.ireturn, 1) := by decide +kernel
theorem dX6_rest_0 : decode cX6_rest 0 = .ok (.aload_n 0, 1) := by decide +kernel
theorem dX6_rest_1 : decode cX6_rest 1 = .ok (.iconst 0, 1) := by decide +kernel
theorem dX6_rest_2 : decode cX6_rest 2 = .ok (.putfield 62, 3) := by decide +kernel
theorem dX6_rest_5 : decode cX6_rest 5 = .ok (.iconst 0, 1) := by decide +kernel
theorem dX6_rest_6 : decode cX6_rest 6 = .ok (.istore_n 1, 1) := by decide +kernel
theorem dX6_rest_7 : decode cX6_rest 7 = .ok (.aload_n 0, 1) := by decide +kernel
theorem dX6_rest_8 : decode cX6_rest 8 = .ok (.invokevirtual 148, 3) := by decide +kernel
theorem dX6_rest_11 : decode cX6_rest 11 = .ok (.ifCond .le 9, 3) := by decide +kernel
theorem dX6_rest_14 : decode cX6_rest 14 = .ok (.iinc 1 1, 3) := by decide +kernel
theorem dX6_rest_17 : decode cX6_rest 17 = .ok (.goto (-10), 3) := by decide +kernel
theorem dX6_rest_20 : decode cX6_rest 20 = .ok (.iload_n 1, 1) := by decide +kernel
theorem dX6_rest_21 : decode cX6_rest 21 = .ok (.ireturn, 1) := by decide +kernel
theorem dX6_way_0 : decode cX6_way 0 = .ok (.aload_n 0, 1) := by decide +kernel
theorem dX6_way_1 : decode cX6_way 1 = .ok (.iconst 0, 1) := by decide +kernel
theorem dX6_way_2 : decode cX6_way 2 = .ok (.putfield 62, 3) := by decide +kernel
theorem dX6_way_5 : decode cX6_way 5 = .ok (.aload_n 0, 1) := by decide +kernel
theorem dX6_way_6 : decode cX6_way 6 = .ok (.iload_n 1, 1) := by decide +kernel
theorem dX6_way_7 : decode cX6_way 7 = .ok (.invokevirtual 128, 3) := by decide +kernel
theorem dX6_way_10 : decode cX6_way 10 = .ok (.ifCond .eq 8, 3) := by decide +kernel
theorem dX6_way_13 : decode cX6_way 13 = .ok (.iload_n 2, 1) := by decide +kernel
theorem dX6_way_14 : decode cX6_way 14 = .ok (.iconst (-1), 1) := by decide +kernel
theorem dX6_way_15 : decode cX6_way 15 = .ok (.if_icmp .ge 6, 3) := by decide +kernel
theorem dX6_way_18 : decode cX6_way 18 = .ok (.ldc 82, 2) := by decide +kernel
theorem dX6_way_20 : decode cX6_way 20 = .ok (.ireturn, 1) := by decide +kernel
theorem dX6_way_21 : decode cX6_way 21 = .ok (.iload_n 2, 1) := by decide +kernel
theorem dX6_way_22 : decode cX6_way 22 = .ok (.iconst (-1), 1) := by decide +kernel
theorem dX6_way_23 : decode cX6_way 23 = .ok (.if_icmp .ne 12, 3) := by decide +kernel
theorem dX6_way_26 : decode cX6_way 26 = .ok (.aload_n 0, 1) := by decide +kernel
theorem dX6_way_27 : decode cX6_way 27 = .ok (.getfield 32, 3) := by decide +kernel
theorem dX6_way_30 : decode cX6_way 30 = .ok (.iload_n 1, 1) := by decide +kernel
theorem dX6_way_31 : decode cX6_way 31 = .ok (.iaload, 1) := by decide +kernel
theorem dX6_way_32 : decode cX6_way 32 = .ok (.goto 29, 3) := by decide +kernel
theorem dX6_way_35 : decode cX6_way 35 = .ok (.iload_n 2, 1) := by decide +kernel
theorem dX6_way_36 : decode cX6_way 36 = .ok (.aload_n 0, 1) := by decide +kernel
theorem dX6_way_37 : decode cX6_way 37 = .ok (.getfield 32, 3) := by decide +kernel
theorem dX6_way_40 : decode cX6_way 40 = .ok (.iload_n 1, 1) := by decide +kernel
theorem dX6_way_41 : decode cX6_way 41 = .ok (.iaload, 1) := by decide +kernel
theorem dX6_way_42 : decode cX6_way 42 = .ok (.if_icmp .ge 17, 3) := by decide +kernel
theorem dX6_way_45 : decode cX6_way 45 = .ok (.aload_n 0, 1) := by decide +kernel
theorem dX6_way_46 : decode cX6_way 46 = .ok (.getfield 35, 3) := by decide +kernel
theorem dX6_way_49 : decode cX6_way 49 = .ok (.bipush 100, 2) := by decide +kernel
theorem dX6_way_51 : decode cX6_way 51 = .ok (.iload_n 1, 1) := by decide +kernel
theorem dX6_way_52 : decode cX6_way 52 = .ok (.imul, 1) := by decide +kernel
theorem dX6_way_53 : decode cX6_way 53 = .ok (.iload_n 2, 1) := by decide +kernel
theorem dX6_way_54 : decode cX6_way 54 = .ok (.iadd, 1) := by decide +kernel
theorem dX6_way_55 : decode cX6_way 55 = .ok (.iaload, 1) := by decide +kernel
theorem dX6_way_56 : decode cX6_way 56 = .ok (.goto 5, 3) := by decide +kernel
theorem dX6_way_59 : decode cX6_way 59 = .ok (.ldc 93, 2) := by decide +kernel
theorem dX6_way_61 : decode cX6_way 61 = .ok (.ireturn, 1) := by decide +kernel
theorem dX6_width_0 : decode cX6_width 0 = .ok (.aload_n 0, 1) := by decide +kernel
theorem dX6_width_1 : decode cX6_width 1 = .ok (.iconst 0, 1) := by decide +kernel
theorem dX6_width_2 : decode cX6_width 2 = .ok (.putfield 62, 3) := by decide +kernel
theorem dX6_width_5 : decode cX6_width 5 = .ok (.iload_n 1, 1) := by decide +kernel
theorem dX6_width_6 : decode cX6_width 6 = .ok (.iload_n 2, 1) := by decide +kernel
theorem dX6_width_7 : decode cX6_width 7 = .ok (.invokestatic 89, 3) := by decide +kernel
theorem dX6_width_10 : decode cX6_width 10 = .ok (.ifCond .eq 15, 3) := by decide +kernel
theorem dX6_width_13 : decode cX6_width 13 = .ok (.iload_n 3, 1) := by decide +kernel
theorem dX6_width_14 : decode cX6_width 14 = .ok (.i2l, 1) := by decide +kernel
theorem dX6_width_15 : decode cX6_width 15 = .ok (.lconst 0, 1) := by decide +kernel
theorem dX6_width_16 : decode cX6_width 16 = .ok (.ldc2_w 143, 3) := by decide +kernel
theorem dX6_width_19 : decode cX6_width 19 = .ok (.invokestatic 72, 3) := by decide +kernel
theorem dX6_width_22 : decode cX6_width 22 = .ok (.ifCond .ne 6, 3) := by decide +kernel
theorem dX6_width_25 : decode cX6_width 25 = .ok (.ldc 82, 2) := by decide +kernel
theorem dX6_width_27 : decode cX6_width 27 = .ok (.ireturn, 1) := by decide +kernel
theorem dX6_width_28 : decode cX6_width 28 = .ok (.bipush 10, 2) := by decide +kernel
theorem dX6_width_30 : decode cX6_width 30 = .ok (.iload_n 2, 1) := by decide +kernel
theorem dX6_width_31 : decode cX6_width 31 = .ok (.imul, 1) := by decide +kernel
theorem dX6_width_32 : decode cX6_width 32 = .ok (.iload_n 1, 1) := by decide +kernel
theorem dX6_width_33 : decode cX6_width 33 = .ok (.iadd, 1) := by decide +kernel
theorem dX6_width_34 : decode cX6_width 34 = .ok (.iload_n 3, 1) := by decide +kernel
theorem dX6_width_35 : decode cX6_width 35 = .ok (.invokestatic 105, 3) := by decide +kernel
theorem dX6_width_38 : decode cX6_width 38 = .ok (.ldc 93, 2) := by decide +kernel
theorem dX6_width_40 : decode cX6_width 40 = .ok (.if_icmp .ne 7, 3) := by decide +kernel
theorem dX6_width_43 : decode cX6_width 43 = .ok (.iconst 0, 1) := by decide +kernel
theorem dX6_width_44 : decode cX6_width 44 = .ok (.goto 17, 3) := by decide +kernel
theorem dX6_width_47 : decode cX6_width 47 = .ok (.aload_n 0, 1) := by decide +kernel
theorem dX6_width_48 : decode cX6_width 48 = .ok (.bipush 10, 2) := by decide +kernel
theorem dX6_width_50 : decode cX6_width 50 = .ok (.iload_n 2, 1) := by decide +kernel
theorem dX6_width_51 : decode cX6_width 51 = .ok (.imul, 1) := by decide +kernel
theorem dX6_width_52 : decode cX6_width 52 = .ok (.iload_n 1, 1) := by decide +kernel
theorem dX6_width_53 : decode cX6_width 53 = .ok (.iadd, 1) := by decide +kernel
theorem dX6_width_54 : decode cX6_width 54 = .ok (.iload_n 3, 1) := by decide +kernel
theorem dX6_width_55 : decode cX6_width 55 = .ok (.invokestatic 109, 3) := by decide +kernel
theorem dX6_width_58 : decode cX6_width 58 = .ok (.invokevirtual 112, 3) := by decide +kernel
theorem dX6_width_61 : decode cX6_width 61 = .ok (.ireturn, 1) := by decide +kernel
theorem dX6_at_0 : decode cX6_at 0 = .ok (.iconst 0, 1) := by decide +kernel
theorem dX6_at_1 : decode cX6_at 1 = .ok (.istore_n 3, 1) := by decide +kernel
theorem dX6_at_2 : decode cX6_at 2 = .ok (.iconst 0, 1) := by decide +kernel
theorem dX6_at_3 : decode cX6_at 3 = .ok (.istore 4, 2) := by decide +kernel
theorem dX6_at_5 : decode cX6_at 5 = .ok (.iload 4, 2) := by decide +kernel
theorem dX6_at_7 : decode cX6_at 7 = .ok (.iconst 4, 1) := by decide +kernel
theorem dX6_at_8 : decode cX6_at 8 = .ok (.if_icmp .ge 51, 3) := by decide +kernel
theorem dX6_at_11 : decode cX6_at 11 = .ok (.iload_n 3, 1) := by decide +kernel
theorem dX6_at_12 : decode cX6_at 12 = .ok (.iload_n 2, 1) := by decide +kernel
theorem dX6_at_13 : decode cX6_at 13 = .ok (.iload 4, 2) := by decide +kernel
theorem dX6_at_15 : decode cX6_at 15 = .ok (.invokestatic 105, 3) := by decide +kernel
theorem dX6_at_18 : decode cX6_at 18 = .ok (.ldc 93, 2) := by decide +kernel
theorem dX6_at_20 : decode cX6_at 20 = .ok (.if_icmp .eq 30, 3) := by decide +kernel
theorem dX6_at_23 : decode cX6_at 23 = .ok (.aload_n 0, 1) := by decide +kernel
theorem dX6_at_24 : decode cX6_at 24 = .ok (.getfield 38, 3) := by decide +kernel
theorem dX6_at_27 : decode cX6_at 27 = .ok (.sipush 180, 3) := by decide +kernel
theorem dX6_at_30 : decode cX6_at 30 = .ok (.iload_n 1, 1) := by decide +kernel
theorem dX6_at_31 : decode cX6_at 31 = .ok (.imul, 1) := by decide +kernel
theorem dX6_at_32 : decode cX6_at 32 = .ok (.iload_n 2, 1) := by decide +kernel
theorem dX6_at_33 : decode cX6_at 33 = .ok (.iload 4, 2) := by decide +kernel
theorem dX6_at_35 : decode cX6_at 35 = .ok (.invokestatic 109, 3) := by decide +kernel
theorem dX6_at_38 : decode cX6_at 38 = .ok (.iadd, 1) := by decide +kernel
theorem dX6_at_39 : decode cX6_at 39 = .ok (.baload, 1) := by decide +kernel
theorem dX6_at_40 : decode cX6_at 40 = .ok (.ifCond .eq 10, 3) := by decide +kernel
theorem dX6_at_43 : decode cX6_at 43 = .ok (.iconst 1, 1) := by decide +kernel
theorem dX6_at_44 : decode cX6_at 44 = .ok (.iload 4, 2) := by decide +kernel
theorem dX6_at_46 : decode cX6_at 46 = .ok (.ishl, 1) := by decide +kernel
theorem dX6_at_47 : decode cX6_at 47 = .ok (.goto 4, 3) := by decide +kernel
theorem dX6_at_50 : decode cX6_at 50 = .ok (.iconst 0, 1) := by decide +kernel
theorem dX6_at_51 : decode cX6_at 51 = .ok (.ior, 1) := by decide +kernel
theorem dX6_at_52 : decode cX6_at 52 = .ok (.istore_n 3, 1) := by decide +kernel
theorem dX6_at_53 : decode cX6_at 53 = .ok (.iinc 4 1, 3) := by decide +kernel
theorem dX6_at_56 : decode cX6_at 56 = .ok (.goto (-51), 3) := by decide +kernel
theorem dX6_at_59 : decode cX6_at 59 = .ok (.iload_n 3, 1) := by decide +kernel
theorem dX6_at_60 : decode cX6_at 60 = .ok (.ireturn, 1) := by decide +kernel
theorem dX6_all_0 : decode cX6_all 0 = .ok (.aload_n 0, 1) := by decide +kernel
theorem dX6_all_1 : decode cX6_all 1 = .ok (.iconst 0, 1) := by decide +kernel
theorem dX6_all_2 : decode cX6_all 2 = .ok (.putfield 62, 3) := by decide +kernel
theorem dX6_all_5 : decode cX6_all 5 = .ok (.iload_n 1, 1) := by decide +kernel
theorem dX6_all_6 : decode cX6_all 6 = .ok (.i2l, 1) := by decide +kernel
theorem dX6_all_7 : decode cX6_all 7 = .ok (.lconst 0, 1) := by decide +kernel
theorem dX6_all_8 : decode cX6_all 8 = .ok (.ldc2_w 152, 3) := by decide +kernel
theorem dX6_all_11 : decode cX6_all 11 = .ok (.invokestatic 72, 3) := by decide +kernel
theorem dX6_all_14 : decode cX6_all 14 = .ok (.ifCond .ne 6, 3) := by decide +kernel
theorem dX6_all_17 : decode cX6_all 17 = .ok (.ldc 82, 2) := by decide +kernel
theorem dX6_all_19 : decode cX6_all 19 = .ok (.ireturn, 1) := by decide +kernel
theorem dX6_all_20 : decode cX6_all 20 = .ok (.iconst 0, 1) := by decide +kernel
theorem dX6_all_21 : decode cX6_all 21 = .ok (.istore_n 2, 1) := by decide +kernel
theorem dX6_all_22 : decode cX6_all 22 = .ok (.iconst 0, 1) := by decide +kernel
theorem dX6_all_23 : decode cX6_all 23 = .ok (.istore_n 3, 1) := by decide +kernel
theorem dX6_all_24 : decode cX6_all 24 = .ok (.iload_n 3, 1) := by decide +kernel
theorem dX6_all_25 : decode cX6_all 25 = .ok (.sipush 180, 3) := by decide +kernel
theorem dX6_all_28 : decode cX6_all 28 = .ok (.if_icmp .ge 91, 3) := by decide +kernel
theorem dX6_all_31 : decode cX6_all 31 = .ok (.aload_n 0, 1) := by decide +kernel
theorem dX6_all_32 : decode cX6_all 32 = .ok (.iload_n 3, 1) := by decide +kernel
theorem dX6_all_33 : decode cX6_all 33 = .ok (.invokevirtual 112, 3) := by decide +kernel
theorem dX6_all_36 : decode cX6_all 36 = .ok (.istore 4, 2) := by decide +kernel
theorem dX6_all_38 : decode cX6_all 38 = .ok (.iconst 0, 1) := by decide +kernel
theorem dX6_all_39 : decode cX6_all 39 = .ok (.istore 5, 2) := by decide +kernel
theorem dX6_all_41 : decode cX6_all 41 = .ok (.iload 5, 2) := by decide +kernel
theorem dX6_all_43 : decode cX6_all 43 = .ok (.iload 4, 2) := by decide +kernel
theorem dX6_all_45 : decode cX6_all 45 = .ok (.if_icmp .ge 22, 3) := by decide +kernel
theorem dX6_all_48 : decode cX6_all 48 = .ok (.iload_n 1, 1) := by decide +kernel
theorem dX6_all_49 : decode cX6_all 49 = .ok (.ifCond .ne 18, 3) := by decide +kernel
theorem dX6_all_52 : decode cX6_all 52 = .ok (.iload_n 2, 1) := by decide +kernel
theorem dX6_all_53 : decode cX6_all 53 = .ok (.aload_n 0, 1) := by decide +kernel
theorem dX6_all_54 : decode cX6_all 54 = .ok (.iload 5, 2) := by decide +kernel
theorem dX6_all_56 : decode cX6_all 56 = .ok (.invokevirtual 125, 3) := by decide +kernel
theorem dX6_all_59 : decode cX6_all 59 = .ok (.iadd, 1) := by decide +kernel
theorem dX6_all_60 : decode cX6_all 60 = .ok (.istore_n 2, 1) := by decide +kernel
theorem dX6_all_61 : decode cX6_all 61 = .ok (.iinc 5 1, 3) := by decide +kernel
theorem dX6_all_64 : decode cX6_all 64 = .ok (.goto (-23), 3) := by decide +kernel
theorem dX6_all_67 : decode cX6_all 67 = .ok (.iload_n 2, 1) := by decide +kernel
theorem dX6_all_68 : decode cX6_all 68 = .ok (.iload_n 1, 1) := by decide +kernel
theorem dX6_all_69 : decode cX6_all 69 = .ok (.iconst 1, 1) := by decide +kernel
theorem dX6_all_70 : decode cX6_all 70 = .ok (.if_icmp .ne 12, 3) := by decide +kernel
theorem dX6_all_73 : decode cX6_all 73 = .ok (.iload 4, 2) := by decide +kernel
theorem dX6_all_75 : decode cX6_all 75 = .ok (.ifCond .le 7, 3) := by decide +kernel
theorem dX6_all_78 : decode cX6_all 78 = .ok (.iconst 1, 1) := by decide +kernel
theorem dX6_all_79 : decode cX6_all 79 = .ok (.goto 14, 3) := by decide +kernel
theorem dX6_all_82 : decode cX6_all 82 = .ok (.iload_n 1, 1) := by decide +kernel
theorem dX6_all_83 : decode cX6_all 83 = .ok (.iconst 5, 1) := by decide +kernel
theorem dX6_all_84 : decode cX6_all 84 = .ok (.if_icmp .ne 8, 3) := by decide +kernel
theorem dX6_all_87 : decode cX6_all 87 = .ok (.iload 4, 2) := by decide +kernel
theorem dX6_all_89 : decode cX6_all 89 = .ok (.goto 4, 3) := by decide +kernel
theorem dX6_all_92 : decode cX6_all 92 = .ok (.iconst 0, 1) := by decide +kernel
theorem dX6_all_93 : decode cX6_all 93 = .ok (.iadd, 1) := by decide +kernel
theorem dX6_all_94 : decode cX6_all 94 = .ok (.istore_n 2, 1) := by decide +kernel
theorem dX6_all_95 : decode cX6_all 95 = .ok (.iload_n 1, 1) := by decide +kernel
theorem dX6_all_96 : decode cX6_all 96 = .ok (.iconst 2, 1) := by decide +kernel
theorem dX6_all_97 : decode cX6_all 97 = .ok (.if_icmp .ne 14, 3) := by decide +kernel
theorem dX6_all_100 : decode cX6_all 100 = .ok (.iload 4, 2) := by decide +kernel
theorem dX6_all_102 : decode cX6_all 102 = .ok (.iload_n 2, 1) := by decide +kernel
theorem dX6_all_103 : decode cX6_all 103 = .ok (.if_icmp .le 8, 3) := by decide +kernel
theorem dX6_all_106 : decode cX6_all 106 = .ok (.iload 4, 2) := by decide +kernel
theorem dX6_all_108 : decode cX6_all 108 = .ok (.goto 4, 3) := by decide +kernel
theorem dX6_all_111 : decode cX6_all 111 = .ok (.iload_n 2, 1) := by decide +kernel
theorem dX6_all_112 : decode cX6_all 112 = .ok (.istore_n 2, 1) := by decide +kernel
theorem dX6_all_113 : decode cX6_all 113 = .ok (.iinc 3 1, 3) := by decide +kernel
theorem dX6_all_116 : decode cX6_all 116 = .ok (.goto (-92), 3) := by decide +kernel
theorem dX6_all_119 : decode cX6_all 119 = .ok (.iconst 0, 1) := by decide +kernel
theorem dX6_all_120 : decode cX6_all 120 = .ok (.istore_n 3, 1) := by decide +kernel
theorem dX6_all_121 : decode cX6_all 121 = .ok (.iload_n 3, 1) := by decide +kernel
theorem dX6_all_122 : decode cX6_all 122 = .ok (.bipush 100, 2) := by decide +kernel
theorem dX6_all_124 : decode cX6_all 124 = .ok (.if_icmp .ge 163, 3) := by decide +kernel
theorem dX6_all_127 : decode cX6_all 127 = .ok (.iload_n 1, 1) := by decide +kernel
theorem dX6_all_128 : decode cX6_all 128 = .ok (.iconst 3, 1) := by decide +kernel
theorem dX6_all_129 : decode cX6_all 129 = .ok (.if_icmp .eq 8, 3) := by decide +kernel
theorem dX6_all_132 : decode cX6_all 132 = .ok (.iload_n 1, 1) := by decide +kernel
theorem dX6_all_133 : decode cX6_all 133 = .ok (.iconst 4, 1) := by decide +kernel
theorem dX6_all_134 : decode cX6_all 134 = .ok (.if_icmp .ne 153, 3) := by decide +kernel
theorem dX6_all_137 : decode cX6_all 137 = .ok (.iconst 0, 1) := by decide +kernel
theorem dX6_all_138 : decode cX6_all 138 = .ok (.istore 4, 2) := by decide +kernel
theorem dX6_all_140 : decode cX6_all 140 = .ok (.iconst 0, 1) := by decide +kernel
theorem dX6_all_141 : decode cX6_all 141 = .ok (.istore 5, 2) := by decide +kernel
theorem dX6_all_143 : decode cX6_all 143 = .ok (.iload 5, 2) := by decide +kernel
theorem dX6_all_145 : decode cX6_all 145 = .ok (.aload_n 0, 1) := by decide +kernel
theorem dX6_all_146 : decode cX6_all 146 = .ok (.getfield 102, 3) := by decide +kernel
theorem dX6_all_149 : decode cX6_all 149 = .ok (.if_icmp .ge 114, 3) := by decide +kernel
theorem dX6_all_152 : decode cX6_all 152 = .ok (.iload 5, 2) := by decide +kernel
theorem dX6_all_154 : decode cX6_all 154 = .ok (.iconst 1, 1) := by decide +kernel
theorem dX6_all_155 : decode cX6_all 155 = .ok (.iadd, 1) := by decide +kernel
theorem dX6_all_156 : decode cX6_all 156 = .ok (.istore 6, 2) := by decide +kernel
theorem dX6_all_158 : decode cX6_all 158 = .ok (.iload 6, 2) := by decide +kernel
theorem dX6_all_160 : decode cX6_all 160 = .ok (.aload_n 0, 1) := by decide +kernel
theorem dX6_all_161 : decode cX6_all 161 = .ok (.getfield 102, 3) := by decide +kernel
theorem dX6_all_164 : decode cX6_all 164 = .ok (.if_icmp .ge 93, 3) := by decide +kernel
theorem dX6_all_167 : decode cX6_all 167 = .ok (.aload_n 0, 1) := by decide +kernel
theorem dX6_all_168 : decode cX6_all 168 = .ok (.iload 5, 2) := by decide +kernel
theorem dX6_all_170 : decode cX6_all 170 = .ok (.iload_n 3, 1) := by decide +kernel
theorem dX6_all_171 : decode cX6_all 171 = .ok (.invokevirtual 154, 3) := by decide +kernel
theorem dX6_all_174 : decode cX6_all 174 = .ok (.istore 7, 2) := by decide +kernel
theorem dX6_all_176 : decode cX6_all 176 = .ok (.aload_n 0, 1) := by decide +kernel
theorem dX6_all_177 : decode cX6_all 177 = .ok (.iload 6, 2) := by decide +kernel
theorem dX6_all_179 : decode cX6_all 179 = .ok (.iload_n 3, 1) := by decide +kernel
theorem dX6_all_180 : decode cX6_all 180 = .ok (.invokevirtual 154, 3) := by decide +kernel
theorem dX6_all_183 : decode cX6_all 183 = .ok (.istore 8, 2) := by decide +kernel
theorem dX6_all_185 : decode cX6_all 185 = .ok (.iload 4, 2) := by decide +kernel
theorem dX6_all_187 : decode cX6_all 187 = .ok (.ifCond .ne 18, 3) := by decide +kernel
theorem dX6_all_190 : decode cX6_all 190 = .ok (.iload 7, 2) := by decide +kernel
theorem dX6_all_192 : decode cX6_all 192 = .ok (.iload 8, 2) := by decide +kernel
theorem dX6_all_194 : decode cX6_all 194 = .ok (.iand, 1) := by decide +kernel
theorem dX6_all_195 : decode cX6_all 195 = .ok (.ifCond .eq 14, 3) := by decide +kernel
theorem dX6_all_198 : decode cX6_all 198 = .ok (.iload 7, 2) := by decide +kernel
theorem dX6_all_200 : decode cX6_all 200 = .ok (.iload 8, 2) := by decide +kernel
theorem dX6_all_202 : decode cX6_all 202 = .ok (.if_icmp .eq 7, 3) := by decide +kernel
theorem dX6_all_205 : decode cX6_all 205 = .ok (.iconst 1, 1) := by decide +kernel
theorem dX6_all_206 : decode cX6_all 206 = .ok (.goto 4, 3) := by decide +kernel
theorem dX6_all_209 : decode cX6_all 209 = .ok (.iconst 0, 1) := by decide +kernel
theorem dX6_all_210 : decode cX6_all 210 = .ok (.istore 4, 2) := by decide +kernel
theorem dX6_all_212 : decode cX6_all 212 = .ok (.iload_n 2, 1) := by decide +kernel
theorem dX6_all_213 : decode cX6_all 213 = .ok (.iload_n 1, 1) := by decide +kernel
theorem dX6_all_214 : decode cX6_all 214 = .ok (.iconst 4, 1) := by decide +kernel
theorem dX6_all_215 : decode cX6_all 215 = .ok (.if_icmp .ne 33, 3) := by decide +kernel
theorem dX6_all_218 : decode cX6_all 218 = .ok (.iload 7, 2) := by decide +kernel
theorem dX6_all_220 : decode cX6_all 220 = .ok (.iconst 5, 1) := by decide +kernel
theorem dX6_all_221 : decode cX6_all 221 = .ok (.if_icmp .ne 10, 3) := by decide +kernel
theorem dX6_all_224 : decode cX6_all 224 = .ok (.iload 8, 2) := by decide +kernel
theorem dX6_all_226 : decode cX6_all 226 = .ok (.bipush 10, 2) := by decide +kernel
theorem dX6_all_228 : decode cX6_all 228 = .ok (.if_icmp .eq 16, 3) := by decide +kernel
theorem dX6_all_231 : decode cX6_all 231 = .ok (.iload 7, 2) := by decide +kernel
theorem dX6_all_233 : decode cX6_all 233 = .ok (.bipush 10, 2) := by decide +kernel
theorem dX6_all_235 : decode cX6_all 235 = .ok (.if_icmp .ne 13, 3) := by decide +kernel
theorem dX6_all_238 : decode cX6_all 238 = .ok (.iload 8, 2) := by decide +kernel
theorem dX6_all_240 : decode cX6_all 240 = .ok (.iconst 5, 1) := by decide +kernel
theorem dX6_all_241 : decode cX6_all 241 = .ok (.if_icmp .ne 7, 3) := by decide +kernel
theorem dX6_all_244 : decode cX6_all 244 = .ok (.iconst 1, 1) := by decide +kernel
theorem dX6_all_245 : decode cX6_all 245 = .ok (.goto 4, 3) := by decide +kernel
theorem dX6_all_248 : decode cX6_all 248 = .ok (.iconst 0, 1) := by decide +kernel
theorem dX6_all_249 : decode cX6_all 249 = .ok (.iadd, 1) := by decide +kernel
theorem dX6_all_250 : decode cX6_all 250 = .ok (.istore_n 2, 1) := by decide +kernel
theorem dX6_all_251 : decode cX6_all 251 = .ok (.iinc 6 1, 3) := by decide +kernel
theorem dX6_all_254 : decode cX6_all 254 = .ok (.goto (-96), 3) := by decide +kernel
theorem dX6_all_257 : decode cX6_all 257 = .ok (.iinc 5 1, 3) := by decide +kernel
theorem dX6_all_260 : decode cX6_all 260 = .ok (.goto (-117), 3) := by decide +kernel
theorem dX6_all_263 : decode cX6_all 263 = .ok (.iload_n 2, 1) := by decide +kernel
theorem dX6_all_264 : decode cX6_all 264 = .ok (.iload_n 1, 1) := by decide +kernel
theorem dX6_all_265 : decode cX6_all 265 = .ok (.iconst 3, 1) := by decide +kernel
theorem dX6_all_266 : decode cX6_all 266 = .ok (.if_icmp .ne 12, 3) := by decide +kernel
theorem dX6_all_269 : decode cX6_all 269 = .ok (.iload 4, 2) := by decide +kernel
theorem dX6_all_271 : decode cX6_all 271 = .ok (.ifCond .eq 7, 3) := by decide +kernel
theorem dX6_all_274 : decode cX6_all 274 = .ok (.iconst 1, 1) := by decide +kernel
theorem dX6_all_275 : decode cX6_all 275 = .ok (.goto 4, 3) := by decide +kernel
theorem dX6_all_278 : decode cX6_all 278 = .ok (.iconst 0, 1) := by decide +kernel
theorem dX6_all_279 : decode cX6_all 279 = .ok (.iadd, 1) := by decide +kernel
theorem dX6_all_280 : decode cX6_all 280 = .ok (.istore_n 2, 1) := by decide +kernel
theorem dX6_all_281 : decode cX6_all 281 = .ok (.iinc 3 1, 3) := by decide +kernel
theorem dX6_all_284 : decode cX6_all 284 = .ok (.goto (-163), 3) := by decide +kernel
theorem dX6_all_287 : decode cX6_all 287 = .ok (.iload_n 2, 1) := by decide +kernel
theorem dX6_all_288 : decode cX6_all 288 = .ok (.ireturn, 1) := by decide +kernel
theorem dX6_size_0 : decode cX6_size 0 = .ok (.iload_n 0, 1) := by decide +kernel
theorem dX6_size_1 : decode cX6_size 1 = .ok (.ifCond .ge 8, 3) := by decide +kernel
theorem dX6_size_4 : decode cX6_size 4 = .ok (.iload_n 0, 1) := by decide +kernel
theorem dX6_size_5 : decode cX6_size 5 = .ok (.ineg, 1) := by decide +kernel
theorem dX6_size_6 : decode cX6_size 6 = .ok (.goto 4, 3) := by decide +kernel
theorem dX6_size_9 : decode cX6_size 9 = .ok (.iload_n 0, 1) := by decide +kernel
theorem dX6_size_10 : decode cX6_size 10 = .ok (.ireturn, 1) := by decide +kernel
theorem dX6_detourOf_0 : decode cX6_detourOf 0 = .ok (.aload_n 0, 1) := by decide +kernel
theorem dX6_detourOf_1 : decode cX6_detourOf 1 = .ok (.getfield 23, 3) := by decide +kernel
theorem dX6_detourOf_4 : decode cX6_detourOf 4 = .ok (.aload_n 0, 1) := by decide +kernel
theorem dX6_detourOf_5 : decode cX6_detourOf 5 = .ok (.getfield 26, 3) := by decide +kernel
theorem dX6_detourOf_8 : decode cX6_detourOf 8 = .ok (.iload_n 1, 1) := by decide +kernel
theorem dX6_detourOf_9 : decode cX6_detourOf 9 = .ok (.iaload, 1) := by decide +kernel
theorem dX6_detourOf_10 : decode cX6_detourOf 10 = .ok (.iaload, 1) := by decide +kernel
theorem dX6_detourOf_11 : decode cX6_detourOf 11 = .ok (.istore_n 2, 1) := by decide +kernel
theorem dX6_detourOf_12 : decode cX6_detourOf 12 = .ok (.aload_n 0, 1) := by decide +kernel
theorem dX6_detourOf_13 : decode cX6_detourOf 13 = .ok (.getfield 23, 3) := by decide +kernel
theorem dX6_detourOf_16 : decode cX6_detourOf 16 = .ok (.aload_n 0, 1) := by decide +kernel
theorem dX6_detourOf_17 : decode cX6_detourOf 17 = .ok (.getfield 29, 3) := by decide +kernel
theorem dX6_detourOf_20 : decode cX6_detourOf 20 = .ok (.iload_n 1, 1) := by decide +kernel
theorem dX6_detourOf_21 : decode cX6_detourOf 21 = .ok (.iaload, 1) := by decide +kernel
theorem dX6_detourOf_22 : decode cX6_detourOf 22 = .ok (.iaload, 1) := by decide +kernel
theorem dX6_detourOf_23 : decode cX6_detourOf 23 = .ok (.istore_n 3, 1) := by decide +kernel
theorem dX6_detourOf_24 : decode cX6_detourOf 24 = .ok (.aload_n 0, 1) := by decide +kernel
theorem dX6_detourOf_25 : decode cX6_detourOf 25 = .ok (.getfield 32, 3) := by decide +kernel
theorem dX6_detourOf_28 : decode cX6_detourOf 28 = .ok (.iload_n 1, 1) := by decide +kernel
theorem dX6_detourOf_29 : decode cX6_detourOf 29 = .ok (.iaload, 1) := by decide +kernel
theorem dX6_detourOf_30 : decode cX6_detourOf 30 = .ok (.bipush 100, 2) := by decide +kernel
theorem dX6_detourOf_32 : decode cX6_detourOf 32 = .ok (.imul, 1) := by decide +kernel
theorem dX6_detourOf_33 : decode cX6_detourOf 33 = .ok (.iload_n 2, 1) := by decide +kernel
theorem dX6_detourOf_34 : decode cX6_detourOf 34 = .ok (.bipush 10, 2) := by decide +kernel
theorem dX6_detourOf_36 : decode cX6_detourOf 36 = .ok (.irem, 1) := by decide +kernel
theorem dX6_detourOf_37 : decode cX6_detourOf 37 = .ok (.iload_n 3, 1) := by decide +kernel
theorem dX6_detourOf_38 : decode cX6_detourOf 38 = .ok (.bipush 10, 2) := by decide +kernel
theorem dX6_detourOf_40 : decode cX6_detourOf 40 = .ok (.irem, 1) := by decide +kernel
theorem dX6_detourOf_41 : decode cX6_detourOf 41 = .ok (.isub, 1) := by decide +kernel
theorem dX6_detourOf_42 : decode cX6_detourOf 42 = .ok (.invokestatic 157, 3) := by decide +kernel
theorem dX6_detourOf_45 : decode cX6_detourOf 45 = .ok (.iload_n 2, 1) := by decide +kernel
theorem dX6_detourOf_46 : decode cX6_detourOf 46 = .ok (.bipush 10, 2) := by decide +kernel
theorem dX6_detourOf_48 : decode cX6_detourOf 48 = .ok (.idiv, 1) := by decide +kernel
theorem dX6_detourOf_49 : decode cX6_detourOf 49 = .ok (.iload_n 3, 1) := by decide +kernel
theorem dX6_detourOf_50 : decode cX6_detourOf 50 = .ok (.bipush 10, 2) := by decide +kernel
theorem dX6_detourOf_52 : decode cX6_detourOf 52 = .ok (.idiv, 1) := by decide +kernel
theorem dX6_detourOf_53 : decode cX6_detourOf 53 = .ok (.isub, 1) := by decide +kernel
theorem dX6_detourOf_54 : decode cX6_detourOf 54 = .ok (.invokestatic 157, 3) := by decide +kernel
theorem dX6_detourOf_57 : decode cX6_detourOf 57 = .ok (.iadd, 1) := by decide +kernel
theorem dX6_detourOf_58 : decode cX6_detourOf 58 = .ok (.idiv, 1) := by decide +kernel
theorem dX6_detourOf_59 : decode cX6_detourOf 59 = .ok (.ireturn, 1) := by decide +kernel
theorem dX6_detour_0 : decode cX6_detour 0 = .ok (.aload_n 0, 1) := by decide +kernel
theorem dX6_detour_1 : decode cX6_detour 1 = .ok (.iconst 0, 1) := by decide +kernel
theorem dX6_detour_2 : decode cX6_detour 2 = .ok (.putfield 62, 3) := by decide +kernel
theorem dX6_detour_5 : decode cX6_detour 5 = .ok (.aload_n 0, 1) := by decide +kernel
theorem dX6_detour_6 : decode cX6_detour 6 = .ok (.iload_n 1, 1) := by decide +kernel
theorem dX6_detour_7 : decode cX6_detour 7 = .ok (.invokevirtual 128, 3) := by decide +kernel
theorem dX6_detour_10 : decode cX6_detour 10 = .ok (.ifCond .ne 8, 3) := by decide +kernel
theorem dX6_detour_13 : decode cX6_detour 13 = .ok (.ldc 82, 2) := by decide +kernel
theorem dX6_detour_15 : decode cX6_detour 15 = .ok (.goto 22, 3) := by decide +kernel
theorem dX6_detour_18 : decode cX6_detour 18 = .ok (.aload_n 0, 1) := by decide +kernel
theorem dX6_detour_19 : decode cX6_detour 19 = .ok (.getfield 32, 3) := by decide +kernel
theorem dX6_detour_22 : decode cX6_detour 22 = .ok (.iload_n 1, 1) := by decide +kernel
theorem dX6_detour_23 : decode cX6_detour 23 = .ok (.iaload, 1) := by decide +kernel
theorem dX6_detour_24 : decode cX6_detour 24 = .ok (.ifCond .ne 8, 3) := by decide +kernel
theorem dX6_detour_27 : decode cX6_detour 27 = .ok (.ldc 100, 2) := by decide +kernel
theorem dX6_detour_29 : decode cX6_detour 29 = .ok (.goto 8, 3) := by decide +kernel
theorem dX6_detour_32 : decode cX6_detour 32 = .ok (.aload_n 0, 1) := by decide +kernel
theorem dX6_detour_33 : decode cX6_detour 33 = .ok (.iload_n 1, 1) := by decide +kernel
theorem dX6_detour_34 : decode cX6_detour 34 = .ok (.invokevirtual 160, 3) := by decide +kernel
theorem dX6_detour_37 : decode cX6_detour 37 = .ok (.ireturn, 1) := by decide +kernel
theorem dX6_sharedBy_0 : decode cX6_sharedBy 0 = .ok (.iconst 0, 1) := by decide +kernel
theorem dX6_sharedBy_1 : decode cX6_sharedBy 1 = .ok (.istore_n 3, 1) := by decide +kernel
theorem dX6_sharedBy_2 : decode cX6_sharedBy 2 = .ok (.iconst 0, 1) := by decide +kernel
