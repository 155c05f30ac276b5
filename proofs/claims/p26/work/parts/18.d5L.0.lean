theorem dL_cell_0 : decode cL_cell 0 = .ok (.iload_n 1, 1) := by decide +kernel
theorem dL_cell_1 : decode cL_cell 1 = .ok (.aload_n 0, 1) := by decide +kernel
theorem dL_cell_2 : decode cL_cell 2 = .ok (.arraylength, 1) := by decide +kernel
theorem dL_cell_3 : decode cL_cell 3 = .ok (.if_icmp .ge 9, 3) := by decide +kernel
theorem dL_cell_6 : decode cL_cell 6 = .ok (.aload_n 0, 1) := by decide +kernel
theorem dL_cell_7 : decode cL_cell 7 = .ok (.iload_n 1, 1) := by decide +kernel
theorem dL_cell_8 : decode cL_cell 8 = .ok (.iaload, 1) := by decide +kernel
theorem dL_cell_9 : decode cL_cell 9 = .ok (.goto 9, 3) := by decide +kernel
theorem dL_cell_12 : decode cL_cell 12 = .ok (.ldc 7, 2) := by decide +kernel
theorem dL_cell_14 : decode cL_cell 14 = .ok (.iload_n 1, 1) := by decide +kernel
theorem dL_cell_15 : decode cL_cell 15 = .ok (.iconst 1, 1) := by decide +kernel
theorem dL_cell_16 : decode cL_cell 16 = .ok (.iadd, 1) := by decide +kernel
theorem dL_cell_17 : decode cL_cell 17 = .ok (.imul, 1) := by decide +kernel
theorem dL_cell_18 : decode cL_cell 18 = .ok (.ireturn, 1) := by decide +kernel
theorem dL_at_0 : decode cL_at 0 = .ok (.iload_n 0, 1) := by decide +kernel
theorem dL_at_1 : decode cL_at 1 = .ok (.iconst 1, 1) := by decide +kernel
theorem dL_at_2 : decode cL_at 2 = .ok (.iushr, 1) := by decide +kernel
theorem dL_at_3 : decode cL_at 3 = .ok (.iload_n 1, 1) := by decide +kernel
theorem dL_at_4 : decode cL_at 4 = .ok (.irem, 1) := by decide +kernel
theorem dL_at_5 : decode cL_at 5 = .ok (.ireturn, 1) := by decide +kernel
theorem dL_funds_0 : decode cL_funds 0 = .ok (.aload_n 0, 1) := by decide +kernel
theorem dL_funds_1 : decode cL_funds 1 = .ok (.invokevirtual 8, 3) := by decide +kernel
theorem dL_funds_4 : decode cL_funds 4 = .ok (.i2l, 1) := by decide +kernel
theorem dL_funds_5 : decode cL_funds 5 = .ok (.lstore_n 1, 1) := by decide +kernel
theorem dL_funds_6 : decode cL_funds 6 = .ok (.iconst 0, 1) := by decide +kernel
theorem dL_funds_7 : decode cL_funds 7 = .ok (.istore_n 3, 1) := by decide +kernel
theorem dL_funds_8 : decode cL_funds 8 = .ok (.iload_n 3, 1) := by decide +kernel
theorem dL_funds_9 : decode cL_funds 9 = .ok (.aload_n 0, 1) := by decide +kernel
theorem dL_funds_10 : decode cL_funds 10 = .ok (.invokevirtual 14, 3) := by decide +kernel
theorem dL_funds_13 : decode cL_funds 13 = .ok (.if_icmp .ge 32, 3) := by decide +kernel
theorem dL_funds_16 : decode cL_funds 16 = .ok (.lload_n 1, 1) := by decide +kernel
theorem dL_funds_17 : decode cL_funds 17 = .ok (.aload_n 0, 1) := by decide +kernel
theorem dL_funds_18 : decode cL_funds 18 = .ok (.iload_n 3, 1) := by decide +kernel
theorem dL_funds_19 : decode cL_funds 19 = .ok (.invokevirtual 17, 3) := by decide +kernel
theorem dL_funds_22 : decode cL_funds 22 = .ok (.i2l, 1) := by decide +kernel
theorem dL_funds_23 : decode cL_funds 23 = .ok (.aload_n 0, 1) := by decide +kernel
theorem dL_funds_24 : decode cL_funds 24 = .ok (.iload_n 3, 1) := by decide +kernel
theorem dL_funds_25 : decode cL_funds 25 = .ok (.invokevirtual 21, 3) := by decide +kernel
theorem dL_funds_28 : decode cL_funds 28 = .ok (.i2l, 1) := by decide +kernel
theorem dL_funds_29 : decode cL_funds 29 = .ok (.ladd, 1) := by decide +kernel
theorem dL_funds_30 : decode cL_funds 30 = .ok (.aload_n 0, 1) := by decide +kernel
theorem dL_funds_31 : decode cL_funds 31 = .ok (.iload_n 3, 1) := by decide +kernel
theorem dL_funds_32 : decode cL_funds 32 = .ok (.invokevirtual 24, 3) := by decide +kernel
theorem dL_funds_35 : decode cL_funds 35 = .ok (.i2l, 1) := by decide +kernel
theorem dL_funds_36 : decode cL_funds 36 = .ok (.lsub, 1) := by decide +kernel
theorem dL_funds_37 : decode cL_funds 37 = .ok (.ladd, 1) := by decide +kernel
theorem dL_funds_38 : decode cL_funds 38 = .ok (.lstore_n 1, 1) := by decide +kernel
theorem dL_funds_39 : decode cL_funds 39 = .ok (.iinc 3 1, 3) := by decide +kernel
theorem dL_funds_42 : decode cL_funds 42 = .ok (.goto (-34), 3) := by decide +kernel
theorem dL_funds_45 : decode cL_funds 45 = .ok (.lload_n 1, 1) := by decide +kernel
theorem dL_funds_46 : decode cL_funds 46 = .ok (.lreturn, 1) := by decide +kernel
theorem dL_ends_0 : decode cL_ends 0 = .ok (.aload_n 0, 1) := by decide +kernel
theorem dL_ends_1 : decode cL_ends 1 = .ok (.invokevirtual 27, 3) := by decide +kernel
theorem dL_ends_4 : decode cL_ends 4 = .ok (.istore_n 3, 1) := by decide +kernel
theorem dL_ends_5 : decode cL_ends 5 = .ok (.aload_n 0, 1) := by decide +kernel
theorem dL_ends_6 : decode cL_ends 6 = .ok (.invokevirtual 30, 3) := by decide +kernel
theorem dL_ends_9 : decode cL_ends 9 = .ok (.istore 4, 2) := by decide +kernel
theorem dL_ends_11 : decode cL_ends 11 = .ok (.aload_n 0, 1) := by decide +kernel
theorem dL_ends_12 : decode cL_ends 12 = .ok (.invokevirtual 8, 3) := by decide +kernel
theorem dL_ends_15 : decode cL_ends 15 = .ok (.istore 5, 2) := by decide +kernel
theorem dL_ends_17 : decode cL_ends 17 = .ok (.iconst 0, 1) := by decide +kernel
theorem dL_ends_18 : decode cL_ends 18 = .ok (.istore 6, 2) := by decide +kernel
theorem dL_ends_20 : decode cL_ends 20 = .ok (.iload 6, 2) := by decide +kernel
theorem dL_ends_22 : decode cL_ends 22 = .ok (.aload_n 0, 1) := by decide +kernel
theorem dL_ends_23 : decode cL_ends 23 = .ok (.invokevirtual 14, 3) := by decide +kernel
theorem dL_ends_26 : decode cL_ends 26 = .ok (.if_icmp .ge 71, 3) := by decide +kernel
theorem dL_ends_29 : decode cL_ends 29 = .ok (.aload_n 2, 1) := by decide +kernel
theorem dL_ends_30 : decode cL_ends 30 = .ok (.iload 6, 2) := by decide +kernel
theorem dL_ends_32 : decode cL_ends 32 = .ok (.aload_n 0, 1) := by decide +kernel
theorem dL_ends_33 : decode cL_ends 33 = .ok (.iload 6, 2) := by decide +kernel
theorem dL_ends_35 : decode cL_ends 35 = .ok (.invokevirtual 17, 3) := by decide +kernel
theorem dL_ends_38 : decode cL_ends 38 = .ok (.iastore, 1) := by decide +kernel
theorem dL_ends_39 : decode cL_ends 39 = .ok (.aload_n 2, 1) := by decide +kernel
theorem dL_ends_40 : decode cL_ends 40 = .ok (.bipush 10, 2) := by decide +kernel
theorem dL_ends_42 : decode cL_ends 42 = .ok (.iload 6, 2) := by decide +kernel
theorem dL_ends_44 : decode cL_ends 44 = .ok (.iadd, 1) := by decide +kernel
theorem dL_ends_45 : decode cL_ends 45 = .ok (.aload_n 0, 1) := by decide +kernel
theorem dL_ends_46 : decode cL_ends 46 = .ok (.iload 6, 2) := by decide +kernel
theorem dL_ends_48 : decode cL_ends 48 = .ok (.invokevirtual 21, 3) := by decide +kernel
theorem dL_ends_51 : decode cL_ends 51 = .ok (.iastore, 1) := by decide +kernel
theorem dL_ends_52 : decode cL_ends 52 = .ok (.aload_n 2, 1) := by decide +kernel
theorem dL_ends_53 : decode cL_ends 53 = .ok (.bipush 20, 2) := by decide +kernel
theorem dL_ends_55 : decode cL_ends 55 = .ok (.iload 6, 2) := by decide +kernel
theorem dL_ends_57 : decode cL_ends 57 = .ok (.iadd, 1) := by decide +kernel
theorem dL_ends_58 : decode cL_ends 58 = .ok (.aload_n 0, 1) := by decide +kernel
theorem dL_ends_59 : decode cL_ends 59 = .ok (.iload 6, 2) := by decide +kernel
theorem dL_ends_61 : decode cL_ends 61 = .ok (.invokevirtual 24, 3) := by decide +kernel
theorem dL_ends_64 : decode cL_ends 64 = .ok (.iastore, 1) := by decide +kernel
theorem dL_ends_65 : decode cL_ends 65 = .ok (.aload_n 2, 1) := by decide +kernel
theorem dL_ends_66 : decode cL_ends 66 = .ok (.bipush 30, 2) := by decide +kernel
theorem dL_ends_68 : decode cL_ends 68 = .ok (.iload 6, 2) := by decide +kernel
theorem dL_ends_70 : decode cL_ends 70 = .ok (.iadd, 1) := by decide +kernel
theorem dL_ends_71 : decode cL_ends 71 = .ok (.aload_n 0, 1) := by decide +kernel
theorem dL_ends_72 : decode cL_ends 72 = .ok (.iload 6, 2) := by decide +kernel
theorem dL_ends_74 : decode cL_ends 74 = .ok (.invokevirtual 33, 3) := by decide +kernel
theorem dL_ends_77 : decode cL_ends 77 = .ok (.iastore, 1) := by decide +kernel
theorem dL_ends_78 : decode cL_ends 78 = .ok (.aload_n 2, 1) := by decide +kernel
theorem dL_ends_79 : decode cL_ends 79 = .ok (.bipush 40, 2) := by decide +kernel
theorem dL_ends_81 : decode cL_ends 81 = .ok (.iload 6, 2) := by decide +kernel
theorem dL_ends_83 : decode cL_ends 83 = .ok (.iadd, 1) := by decide +kernel
theorem dL_ends_84 : decode cL_ends 84 = .ok (.aload_n 0, 1) := by decide +kernel
theorem dL_ends_85 : decode cL_ends 85 = .ok (.iload 6, 2) := by decide +kernel
theorem dL_ends_87 : decode cL_ends 87 = .ok (.invokevirtual 36, 3) := by decide +kernel
theorem dL_ends_90 : decode cL_ends 90 = .ok (.iastore, 1) := by decide +kernel
theorem dL_ends_91 : decode cL_ends 91 = .ok (.iinc 6 1, 3) := by decide +kernel
theorem dL_ends_94 : decode cL_ends 94 = .ok (.goto (-74), 3) := by decide +kernel
theorem dL_ends_97 : decode cL_ends 97 = .ok (.aload_n 0, 1) := by decide +kernel
theorem dL_ends_98 : decode cL_ends 98 = .ok (.iload_n 3, 1) := by decide +kernel
theorem dL_ends_99 : decode cL_ends 99 = .ok (.invokevirtual 39, 3) := by decide +kernel
theorem dL_ends_102 : decode cL_ends 102 = .ok (.aload_n 0, 1) := by decide +kernel
theorem dL_ends_103 : decode cL_ends 103 = .ok (.iload_n 3, 1) := by decide +kernel
theorem dL_ends_104 : decode cL_ends 104 = .ok (.invokevirtual 17, 3) := by decide +kernel
theorem dL_ends_107 : decode cL_ends 107 = .ok (.iadd, 1) := by decide +kernel
theorem dL_ends_108 : decode cL_ends 108 = .ok (.istore 6, 2) := by decide +kernel
theorem dL_ends_110 : decode cL_ends 110 = .ok (.aload_n 0, 1) := by decide +kernel
theorem dL_ends_111 : decode cL_ends 111 = .ok (.invokevirtual 42, 3) := by decide +kernel
theorem dL_ends_114 : decode cL_ends 114 = .ok (.istore 7, 2) := by decide +kernel
theorem dL_ends_116 : decode cL_ends 116 = .ok (.aload_n 0, 1) := by decide +kernel
theorem dL_ends_117 : decode cL_ends 117 = .ok (.invokevirtual 30, 3) := by decide +kernel
theorem dL_ends_120 : decode cL_ends 120 = .ok (.iload 4, 2) := by decide +kernel
theorem dL_ends_122 : decode cL_ends 122 = .ok (.iload 7, 2) := by decide +kernel
theorem dL_ends_124 : decode cL_ends 124 = .ok (.iadd, 1) := by decide +kernel
theorem dL_ends_125 : decode cL_ends 125 = .ok (.if_icmp .ne 39, 3) := by decide +kernel
theorem dL_ends_128 : decode cL_ends 128 = .ok (.aload_n 0, 1) := by decide +kernel
theorem dL_ends_129 : decode cL_ends 129 = .ok (.invokevirtual 27, 3) := by decide +kernel
theorem dL_ends_132 : decode cL_ends 132 = .ok (.iconst (-1), 1) := by decide +kernel
theorem dL_ends_133 : decode cL_ends 133 = .ok (.if_icmp .ne 31, 3) := by decide +kernel
theorem dL_ends_136 : decode cL_ends 136 = .ok (.aload_n 0, 1) := by decide +kernel
theorem dL_ends_137 : decode cL_ends 137 = .ok (.invokevirtual 45, 3) := by decide +kernel
theorem dL_ends_140 : decode cL_ends 140 = .ok (.ifCond .lt 24, 3) := by decide +kernel
theorem dL_ends_143 : decode cL_ends 143 = .ok (.aload_n 0, 1) := by decide +kernel
theorem dL_ends_144 : decode cL_ends 144 = .ok (.invokevirtual 45, 3) := by decide +kernel
theorem dL_ends_147 : decode cL_ends 147 = .ok (.sipush 1000, 3) := by decide +kernel
theorem dL_ends_150 : decode cL_ends 150 = .ok (.iload_n 1, 1) := by decide +kernel
theorem dL_ends_151 : decode cL_ends 151 = .ok (.imul, 1) := by decide +kernel
theorem dL_ends_152 : decode cL_ends 152 = .ok (.if_icmp .gt 12, 3) := by decide +kernel
theorem dL_ends_155 : decode cL_ends 155 = .ok (.iload 7, 2) := by decide +kernel
theorem dL_ends_157 : decode cL_ends 157 = .ok (.aload_n 0, 1) := by decide +kernel
theorem dL_ends_158 : decode cL_ends 158 = .ok (.invokevirtual 45, 3) := by decide +kernel
theorem dL_ends_161 : decode cL_ends 161 = .ok (.if_icmp .le 5, 3) := by decide +kernel
theorem dL_ends_164 : decode cL_ends 164 = .ok (.iconst 0, 1) := by decide +kernel
theorem dL_ends_165 : decode cL_ends 165 = .ok (.ireturn, 1) := by decide +kernel
theorem dL_ends_166 : decode cL_ends 166 = .ok (.iload 5, 2) := by decide +kernel
theorem dL_ends_168 : decode cL_ends 168 = .ok (.aload_n 0, 1) := by decide +kernel
theorem dL_ends_169 : decode cL_ends 169 = .ok (.invokevirtual 8, 3) := by decide +kernel
theorem dL_ends_172 : decode cL_ends 172 = .ok (.isub, 1) := by decide +kernel
theorem dL_ends_173 : decode cL_ends 173 = .ok (.istore 8, 2) := by decide +kernel
theorem dL_ends_175 : decode cL_ends 175 = .ok (.iconst 0, 1) := by decide +kernel
theorem dL_ends_176 : decode cL_ends 176 = .ok (.istore 9, 2) := by decide +kernel
theorem dL_ends_178 : decode cL_ends 178 = .ok (.iconst 0, 1) := by decide +kernel
theorem dL_ends_179 : decode cL_ends 179 = .ok (.istore 10, 2) := by decide +kernel
theorem dL_ends_181 : decode cL_ends 181 = .ok (.iconst 0, 1) := by decide +kernel
theorem dL_ends_182 : decode cL_ends 182 = .ok (.istore 11, 2) := by decide +kernel
theorem dL_ends_184 : decode cL_ends 184 = .ok (.iload 11, 2) := by decide +kernel
theorem dL_ends_186 : decode cL_ends 186 = .ok (.aload_n 0, 1) := by decide +kernel
theorem dL_ends_187 : decode cL_ends 187 = .ok (.invokevirtual 14, 3) := by decide +kernel
theorem dL_ends_190 : decode cL_ends 190 = .ok (.if_icmp .ge 266, 3) := by decide +kernel
theorem dL_ends_193 : decode cL_ends 193 = .ok (.iload 9, 2) := by decide +kernel
theorem dL_ends_195 : decode cL_ends 195 = .ok (.aload_n 0, 1) := by decide +kernel
theorem dL_ends_196 : decode cL_ends 196 = .ok (.iload 11, 2) := by decide +kernel
theorem dL_ends_198 : decode cL_ends 198 = .ok (.invokevirtual 36, 3) := by decide +kernel
theorem dL_ends_201 : decode cL_ends 201 = .ok (.aload_n 2, 1) := by decide +kernel
theorem dL_ends_202 : decode cL_ends 202 = .ok (.bipush 40, 2) := by decide +kernel
theorem dL_ends_204 : decode cL_ends 204 = .ok (.iload 11, 2) := by decide +kernel
theorem dL_ends_206 : decode cL_ends 206 = .ok (.iadd, 1) := by decide +kernel
theorem dL_ends_207 : decode cL_ends 207 = .ok (.iaload, 1) := by decide +kernel
theorem dL_ends_208 : decode cL_ends 208 = .ok (.isub, 1) := by decide +kernel
theorem dL_ends_209 : decode cL_ends 209 = .ok (.iadd, 1) := by decide +kernel
theorem dL_ends_210 : decode cL_ends 210 = .ok (.istore 9, 2) := by decide +kernel
theorem dL_ends_212 : decode cL_ends 212 = .ok (.iload 8, 2) := by decide +kernel
theorem dL_ends_214 : decode cL_ends 214 = .ok (.aload_n 0, 1) := by decide +kernel
theorem dL_ends_215 : decode cL_ends 215 = .ok (.iload 11, 2) := by decide +kernel
theorem dL_ends_217 : decode cL_ends 217 = .ok (.invokevirtual 24, 3) := by decide +kernel
theorem dL_ends_220 : decode cL_ends 220 = .ok (.aload_n 2, 1) := by decide +kernel
theorem dL_ends_221 : decode cL_ends 221 = .ok (.bipush 20, 2) := by decide +kernel
theorem dL_ends_223 : decode cL_ends 223 = .ok (.iload 11, 2) := by decide +kernel
theorem dL_ends_225 : decode cL_ends 225 = .ok (.iadd, 1) := by decide +kernel
theorem dL_ends_226 : decode cL_ends 226 = .ok (.iaload, 1) := by decide +kernel
theorem dL_ends_227 : decode cL_ends 227 = .ok (.isub, 1) := by decide +kernel
theorem dL_ends_228 : decode cL_ends 228 = .ok (.iadd, 1) := by decide +kernel
theorem dL_ends_229 : decode cL_ends 229 = .ok (.istore 8, 2) := by decide +kernel
theorem dL_ends_231 : decode cL_ends 231 = .ok (.aload_n 2, 1) := by decide +kernel
theorem dL_ends_232 : decode cL_ends 232 = .ok (.bipush 30, 2) := by decide +kernel
theorem dL_ends_234 : decode cL_ends 234 = .ok (.iload 11, 2) := by decide +kernel
theorem dL_ends_236 : decode cL_ends 236 = .ok (.iadd, 1) := by decide +kernel
theorem dL_ends_237 : decode cL_ends 237 = .ok (.iaload, 1) := by decide +kernel
theorem dL_ends_238 : decode cL_ends 238 = .ok (.iconst 1, 1) := by decide +kernel
theorem dL_ends_239 : decode cL_ends 239 = .ok (.if_icmp .ne 71, 3) := by decide +kernel
theorem dL_ends_242 : decode cL_ends 242 = .ok (.aload_n 0, 1) := by decide +kernel
theorem dL_ends_243 : decode cL_ends 243 = .ok (.iload 11, 2) := by decide +kernel
theorem dL_ends_245 : decode cL_ends 245 = .ok (.invokevirtual 33, 3) := by decide +kernel
theorem dL_ends_248 : decode cL_ends 248 = .ok (.iconst 3, 1) := by decide +kernel
theorem dL_ends_249 : decode cL_ends 249 = .ok (.if_icmp .ne 56, 3) := by decide +kernel
theorem dL_ends_252 : decode cL_ends 252 = .ok (.aload_n 0, 1) := by decide +kernel
theorem dL_ends_253 : decode cL_ends 253 = .ok (.iload 11, 2) := by decide +kernel
theorem dL_ends_255 : decode cL_ends 255 = .ok (.invokevirtual 17, 3) := by decide +kernel
theorem dL_ends_258 : decode cL_ends 258 = .ok (.aload_n 0, 1) := by decide +kernel
theorem dL_ends_259 : decode cL_ends 259 = .ok (.iload 11, 2) := by decide +kernel
theorem dL_ends_261 : decode cL_ends 261 = .ok (.invokevirtual 39, 3) := by decide +kernel
theorem dL_ends_264 : decode cL_ends 264 = .ok (.iadd, 1) := by decide +kernel
theorem dL_ends_265 : decode cL_ends 265 = .ok (.aload_n 0, 1) := by decide +kernel
theorem dL_ends_266 : decode cL_ends 266 = .ok (.iload 11, 2) := by decide +kernel
theorem dL_ends_268 : decode cL_ends 268 = .ok (.invokevirtual 21, 3) := by decide +kernel
theorem dL_ends_271 : decode cL_ends 271 = .ok (.iadd, 1) := by decide +kernel
theorem dL_ends_272 : decode cL_ends 272 = .ok (.aload_n 0, 1) := by decide +kernel
theorem dL_ends_273 : decode cL_ends 273 = .ok (.iload 11, 2) := by decide +kernel
theorem dL_ends_275 : decode cL_ends 275 = .ok (.invokevirtual 48, 3) := by decide +kernel
theorem dL_ends_278 : decode cL_ends 278 = .ok (.iadd, 1) := by decide +kernel
theorem dL_ends_279 : decode cL_ends 279 = .ok (.ifCond .ne 26, 3) := by decide +kernel
theorem dL_ends_282 : decode cL_ends 282 = .ok (.aload_n 0, 1) := by decide +kernel
theorem dL_ends_283 : decode cL_ends 283 = .ok (.iload 11, 2) := by decide +kernel
theorem dL_ends_285 : decode cL_ends 285 = .ok (.invokevirtual 24, 3) := by decide +kernel
theorem dL_ends_288 : decode cL_ends 288 = .ok (.aload_n 2, 1) := by decide +kernel
theorem dL_ends_289 : decode cL_ends 289 = .ok (.bipush 20, 2) := by decide +kernel
theorem dL_ends_291 : decode cL_ends 291 = .ok (.iload 11, 2) := by decide +kernel
theorem dL_ends_293 : decode cL_ends 293 = .ok (.iadd, 1) := by decide +kernel
theorem dL_ends_294 : decode cL_ends 294 = .ok (.iaload, 1) := by decide +kernel
theorem dL_ends_295 : decode cL_ends 295 = .ok (.isub, 1) := by decide +kernel
theorem dL_ends_296 : decode cL_ends 296 = .ok (.aload_n 2, 1) := by decide +kernel
theorem dL_ends_297 : decode cL_ends 297 = .ok (.iload 11, 2) := by decide +kernel
theorem dL_ends_299 : decode cL_ends 299 = .ok (.iaload, 1) := by decide +kernel
theorem dL_ends_300 : decode cL_ends 300 = .ok (.iconst 2, 1) := by decide +kernel
theorem dL_ends_301 : decode cL_ends 301 = .ok (.idiv, 1) := by decide +kernel
theorem dL_ends_302 : decode cL_ends 302 = .ok (.if_icmp .le 5, 3) := by decide +kernel
theorem dL_ends_305 : decode cL_ends 305 = .ok (.iconst 0, 1) := by decide +kernel
theorem dL_ends_306 : decode cL_ends 306 = .ok (.ireturn, 1) := by decide +kernel
theorem dL_ends_307 : decode cL_ends 307 = .ok (.iconst 1, 1) := by decide +kernel
theorem dL_ends_308 : decode cL_ends 308 = .ok (.istore 10, 2) := by decide +kernel
theorem dL_ends_310 : decode cL_ends 310 = .ok (.aload_n 2, 1) := by decide +kernel
theorem dL_ends_311 : decode cL_ends 311 = .ok (.bipush 30, 2) := by decide +kernel
theorem dL_ends_313 : decode cL_ends 313 = .ok (.iload 11, 2) := by decide +kernel
theorem dL_ends_315 : decode cL_ends 315 = .ok (.iadd, 1) := by decide +kernel
theorem dL_ends_316 : decode cL_ends 316 = .ok (.iaload, 1) := by decide +kernel
theorem dL_ends_317 : decode cL_ends 317 = .ok (.ifCond .eq 6, 3) := by decide +kernel
theorem dL_ends_320 : decode cL_ends 320 = .ok (.goto 130, 3) := by decide +kernel
theorem dL_ends_323 : decode cL_ends 323 = .ok (.aload_n 2, 1) := by decide +kernel
theorem dL_ends_324 : decode cL_ends 324 = .ok (.iload 11, 2) := by decide +kernel
theorem dL_ends_326 : decode cL_ends 326 = .ok (.iaload, 1) := by decide +kernel
theorem dL_ends_327 : decode cL_ends 327 = .ok (.aload_n 0, 1) := by decide +kernel
theorem dL_ends_328 : decode cL_ends 328 = .ok (.iload 11, 2) := by decide +kernel
theorem dL_ends_330 : decode cL_ends 330 = .ok (.invokevirtual 17, 3) := by decide +kernel
theorem dL_ends_333 : decode cL_ends 333 = .ok (.isub, 1) := by decide +kernel
theorem dL_ends_334 : decode cL_ends 334 = .ok (.istore 12, 2) := by decide +kernel
theorem dL_ends_336 : decode cL_ends 336 = .ok (.aload_n 2, 1) := by decide +kernel
theorem dL_ends_337 : decode cL_ends 337 = .ok (.bipush 10, 2) := by decide +kernel
theorem dL_ends_339 : decode cL_ends 339 = .ok (.iload 11, 2) := by decide +kernel
theorem dL_ends_341 : decode cL_ends 341 = .ok (.iadd, 1) := by decide +kernel
theorem dL_ends_342 : decode cL_ends 342 = .ok (.iaload, 1) := by decide +kernel
theorem dL_ends_343 : decode cL_ends 343 = .ok (.aload_n 0, 1) := by decide +kernel
theorem dL_ends_344 : decode cL_ends 344 = .ok (.iload 11, 2) := by decide +kernel
theorem dL_ends_346 : decode cL_ends 346 = .ok (.invokevirtual 21, 3) := by decide +kernel
theorem dL_ends_349 : decode cL_ends 349 = .ok (.isub, 1) := by decide +kernel
theorem dL_ends_350 : decode cL_ends 350 = .ok (.istore 13, 2) := by decide +kernel
theorem dL_ends_352 : decode cL_ends 352 = .ok (.aload_n 0, 1) := by decide +kernel
theorem dL_ends_353 : decode cL_ends 353 = .ok (.iload 11, 2) := by decide +kernel
theorem dL_ends_355 : decode cL_ends 355 = .ok (.invokevirtual 33, 3) := by decide +kernel
theorem dL_ends_358 : decode cL_ends 358 = .ok (.ifCond .ne 34, 3) := by decide +kernel
theorem dL_ends_361 : decode cL_ends 361 = .ok (.iload 12, 2) := by decide +kernel
theorem dL_ends_363 : decode cL_ends 363 = .ok (.ifCond .lt 29, 3) := by decide +kernel
theorem dL_ends_366 : decode cL_ends 366 = .ok (.iload 13, 2) := by decide +kernel
theorem dL_ends_368 : decode cL_ends 368 = .ok (.ifCond .lt 24, 3) := by decide +kernel
theorem dL_ends_371 : decode cL_ends 371 = .ok (.aload_n 0, 1) := by decide +kernel
theorem dL_ends_372 : decode cL_ends 372 = .ok (.iload 11, 2) := by decide +kernel
theorem dL_ends_374 : decode cL_ends 374 = .ok (.invokevirtual 24, 3) := by decide +kernel
theorem dL_ends_377 : decode cL_ends 377 = .ok (.aload_n 2, 1) := by decide +kernel
theorem dL_ends_378 : decode cL_ends 378 = .ok (.bipush 20, 2) := by decide +kernel
theorem dL_ends_380 : decode cL_ends 380 = .ok (.iload 11, 2) := by decide +kernel
theorem dL_ends_382 : decode cL_ends 382 = .ok (.iadd, 1) := by decide +kernel
theorem dL_ends_383 : decode cL_ends 383 = .ok (.iaload, 1) := by decide +kernel
theorem dL_ends_384 : decode cL_ends 384 = .ok (.isub, 1) := by decide +kernel
theorem dL_ends_385 : decode cL_ends 385 = .ok (.aload_n 2, 1) := by decide +kernel
theorem dL_ends_386 : decode cL_ends 386 = .ok (.iload 11, 2) := by decide +kernel
theorem dL_ends_388 : decode cL_ends 388 = .ok (.iaload, 1) := by decide +kernel
theorem dL_ends_389 : decode cL_ends 389 = .ok (.if_icmp .le 5, 3) := by decide +kernel
theorem dL_ends_392 : decode cL_ends 392 = .ok (.iconst 0, 1) := by decide +kernel
theorem dL_ends_393 : decode cL_ends 393 = .ok (.ireturn, 1) := by decide +kernel
theorem dL_ends_394 : decode cL_ends 394 = .ok (.iload 13, 2) := by decide +kernel
theorem dL_ends_396 : decode cL_ends 396 = .ok (.ifCond .le 12, 3) := by decide +kernel
theorem dL_ends_399 : decode cL_ends 399 = .ok (.aload_n 0, 1) := by decide +kernel
theorem dL_ends_400 : decode cL_ends 400 = .ok (.iload 11, 2) := by decide +kernel
theorem dL_ends_402 : decode cL_ends 402 = .ok (.invokevirtual 17, 3) := by decide +kernel
theorem dL_ends_405 : decode cL_ends 405 = .ok (.ifCond .gt 33, 3) := by decide +kernel
theorem dL_ends_408 : decode cL_ends 408 = .ok (.iload 7, 2) := by decide +kernel
theorem dL_ends_410 : decode cL_ends 410 = .ok (.ifCond .le 30, 3) := by decide +kernel
theorem dL_ends_413 : decode cL_ends 413 = .ok (.aload_n 0, 1) := by decide +kernel
theorem dL_ends_414 : decode cL_ends 414 = .ok (.iload 11, 2) := by decide +kernel
theorem dL_ends_416 : decode cL_ends 416 = .ok (.invokevirtual 17, 3) := by decide +kernel
theorem dL_ends_419 : decode cL_ends 419 = .ok (.ifCond .gt 19, 3) := by decide +kernel
theorem dL_ends_422 : decode cL_ends 422 = .ok (.aload_n 0, 1) := by decide +kernel
theorem dL_ends_423 : decode cL_ends 423 = .ok (.iload 11, 2) := by decide +kernel
theorem dL_ends_425 : decode cL_ends 425 = .ok (.invokevirtual 21, 3) := by decide +kernel
theorem dL_ends_428 : decode cL_ends 428 = .ok (.ifCond .gt 10, 3) := by decide +kernel
theorem dL_ends_431 : decode cL_ends 431 = .ok (.aload_n 0, 1) := by decide +kernel
theorem dL_ends_432 : decode cL_ends 432 = .ok (.invokevirtual 8, 3) := by decide +kernel
theorem dL_ends_435 : decode cL_ends 435 = .ok (.ifCond .le 5, 3) := by decide +kernel
theorem dL_ends_438 : decode cL_ends 438 = .ok (.iconst 0, 1) := by decide +kernel
theorem dL_ends_439 : decode cL_ends 439 = .ok (.ireturn, 1) := by decide +kernel
theorem dL_ends_440 : decode cL_ends 440 = .ok (.iload 8, 2) := by decide +kernel
theorem dL_ends_442 : decode cL_ends 442 = .ok (.iload 12, 2) := by decide +kernel
theorem dL_ends_444 : decode cL_ends 444 = .ok (.iload 13, 2) := by decide +kernel
theorem dL_ends_446 : decode cL_ends 446 = .ok (.iadd, 1) := by decide +kernel
theorem dL_ends_447 : decode cL_ends 447 = .ok (.iadd, 1) := by decide +kernel
theorem dL_ends_448 : decode cL_ends 448 = .ok (.istore 8, 2) := by decide +kernel
theorem dL_ends_450 : decode cL_ends 450 = .ok (.iinc 11 1, 3) := by decide +kernel
theorem dL_ends_453 : decode cL_ends 453 = .ok (.goto (-269), 3) := by decide +kernel
theorem dL_ends_456 : decode cL_ends 456 = .ok (.iload 9, 2) := by decide +kernel
theorem dL_ends_458 : decode cL_ends 458 = .ok (.iload_n 1, 1) := by decide +kernel
theorem dL_ends_459 : decode cL_ends 459 = .ok (.if_icmp .gt 38, 3) := by decide +kernel
theorem dL_ends_462 : decode cL_ends 462 = .ok (.aload_n 0, 1) := by decide +kernel
theorem dL_ends_463 : decode cL_ends 463 = .ok (.iload_n 3, 1) := by decide +kernel
theorem dL_ends_464 : decode cL_ends 464 = .ok (.invokevirtual 33, 3) := by decide +kernel
theorem dL_ends_467 : decode cL_ends 467 = .ok (.iconst 2, 1) := by decide +kernel
theorem dL_ends_468 : decode cL_ends 468 = .ok (.if_icmp .ne 29, 3) := by decide +kernel
theorem dL_ends_471 : decode cL_ends 471 = .ok (.aload_n 0, 1) := by decide +kernel
theorem dL_ends_472 : decode cL_ends 472 = .ok (.iload_n 3, 1) := by decide +kernel
theorem dL_ends_473 : decode cL_ends 473 = .ok (.invokevirtual 39, 3) := by decide +kernel
theorem dL_ends_476 : decode cL_ends 476 = .ok (.aload_n 0, 1) := by decide +kernel
theorem dL_ends_477 : decode cL_ends 477 = .ok (.iload_n 3, 1) := by decide +kernel
theorem dL_ends_478 : decode cL_ends 478 = .ok (.invokevirtual 17, 3) := by decide +kernel
theorem dL_ends_481 : decode cL_ends 481 = .ok (.iadd, 1) := by decide +kernel
theorem dL_ends_482 : decode cL_ends 482 = .ok (.aload_n 0, 1) := by decide +kernel
theorem dL_ends_483 : decode cL_ends 483 = .ok (.iload_n 3, 1) := by decide +kernel
theorem dL_ends_484 : decode cL_ends 484 = .ok (.invokevirtual 21, 3) := by decide +kernel
theorem dL_ends_487 : decode cL_ends 487 = .ok (.iadd, 1) := by decide +kernel
theorem dL_ends_488 : decode cL_ends 488 = .ok (.aload_n 0, 1) := by decide +kernel
theorem dL_ends_489 : decode cL_ends 489 = .ok (.iload_n 3, 1) := by decide +kernel
theorem dL_ends_490 : decode cL_ends 490 = .ok (.invokevirtual 48, 3) := by decide +kernel
theorem dL_ends_493 : decode cL_ends 493 = .ok (.iadd, 1) := by decide +kernel
theorem dL_ends_494 : decode cL_ends 494 = .ok (.ifCond .eq 5, 3) := by decide +kernel
theorem dL_ends_497 : decode cL_ends 497 = .ok (.iconst 0, 1) := by decide +kernel
theorem dL_ends_498 : decode cL_ends 498 = .ok (.ireturn, 1) := by decide +kernel
theorem dL_ends_499 : decode cL_ends 499 = .ok (.aload_n 0, 1) := by decide +kernel
theorem dL_ends_500 : decode cL_ends 500 = .ok (.invokevirtual 45, 3) := by decide +kernel
theorem dL_ends_503 : decode cL_ends 503 = .ok (.iload 6, 2) := by decide +kernel
theorem dL_ends_505 : decode cL_ends 505 = .ok (.isub, 1) := by decide +kernel
theorem dL_ends_506 : decode cL_ends 506 = .ok (.istore 11, 2) := by decide +kernel
theorem dL_ends_508 : decode cL_ends 508 = .ok (.iload 11, 2) := by decide +kernel
theorem dL_ends_510 : decode cL_ends 510 = .ok (.ifCond .le 8, 3) := by decide +kernel
theorem dL_ends_513 : decode cL_ends 513 = .ok (.iload 11, 2) := by decide +kernel
theorem dL_ends_515 : decode cL_ends 515 = .ok (.goto 4, 3) := by decide +kernel
theorem dL_ends_518 : decode cL_ends 518 = .ok (.iconst 0, 1) := by decide +kernel
theorem dL_ends_519 : decode cL_ends 519 = .ok (.istore 11, 2) := by decide +kernel
theorem dL_ends_521 : decode cL_ends 521 = .ok (.iload 10, 2) := by decide +kernel
theorem dL_ends_523 : decode cL_ends 523 = .ok (.ifCond .eq 21, 3) := by decide +kernel
theorem dL_ends_526 : decode cL_ends 526 = .ok (.iload 8, 2) := by decide +kernel
theorem dL_ends_528 : decode cL_ends 528 = .ok (.iload 11, 2) := by decide +kernel
theorem dL_ends_530 : decode cL_ends 530 = .ok (.iload 7, 2) := by decide +kernel
theorem dL_ends_532 : decode cL_ends 532 = .ok (.isub, 1) := by decide +kernel
theorem dL_ends_533 : decode cL_ends 533 = .ok (.if_icmp .gt 7, 3) := by decide +kernel
theorem dL_ends_536 : decode cL_ends 536 = .ok (.iconst 1, 1) := by decide +kernel
theorem dL_ends_537 : decode cL_ends 537 = .ok (.goto 22, 3) := by decide +kernel
theorem dL_ends_540 : decode cL_ends 540 = .ok (.iconst 0, 1) := by decide +kernel
theorem dL_ends_541 : decode cL_ends 541 = .ok (.goto 18, 3) := by decide +kernel
theorem dL_ends_544 : decode cL_ends 544 = .ok (.iload 8, 2) := by decide +kernel
theorem dL_ends_546 : decode cL_ends 546 = .ok (.iload 11, 2) := by decide +kernel
theorem dL_ends_548 : decode cL_ends 548 = .ok (.iload 7, 2) := by decide +kernel
theorem dL_ends_550 : decode cL_ends 550 = .ok (.isub, 1) := by decide +kernel
theorem dL_ends_551 : decode cL_ends 551 = .ok (.if_icmp .ne 7, 3) := by decide +kernel
theorem dL_ends_554 : decode cL_ends 554 = .ok (.iconst 1, 1) := by decide +kernel
theorem dL_ends_555 : decode cL_ends 555 = .ok (.goto 4, 3) := by decide +kernel
theorem dL_ends_558 : decode cL_ends 558 = .ok (.iconst 0, 1) := by decide +kernel
theorem dL_ends_559 : decode cL_ends 559 = .ok (.ireturn, 1) := by decide +kernel
theorem dL_fails_0 : decode cL_fails 0 = .ok (.iconst 0, 1) := by decide +kernel
theorem dL_fails_1 : decode cL_fails 1 = .ok (.istore_n 3, 1) := by decide +kernel
theorem dL_fails_2 : decode cL_fails 2 = .ok (.iconst 0, 1) := by decide +kernel
theorem dL_fails_3 : decode cL_fails 3 = .ok (.istore 4, 2) := by decide +kernel
theorem dL_fails_5 : decode cL_fails 5 = .ok (.iload 4, 2) := by decide +kernel
theorem dL_fails_7 : decode cL_fails 7 = .ok (.aload_n 0, 1) := by decide +kernel
theorem dL_fails_8 : decode cL_fails 8 = .ok (.invokevirtual 14, 3) := by decide +kernel
theorem dL_fails_11 : decode cL_fails 11 = .ok (.if_icmp .ge 18, 3) := by decide +kernel
theorem dL_fails_14 : decode cL_fails 14 = .ok (.iload_n 3, 1) := by decide +kernel
theorem dL_fails_15 : decode cL_fails 15 = .ok (.aload_n 0, 1) := by decide +kernel
theorem dL_fails_16 : decode cL_fails 16 = .ok (.iload 4, 2) := by decide +kernel
theorem dL_fails_18 : decode cL_fails 18 = .ok (.invokevirtual 48, 3) := by decide +kernel
theorem dL_fails_21 : decode cL_fails 21 = .ok (.iadd, 1) := by decide +kernel
theorem dL_fails_22 : decode cL_fails 22 = .ok (.istore_n 3, 1) := by decide +kernel
theorem dL_fails_23 : decode cL_fails 23 = .ok (.iinc 4 1, 3) := by decide +kernel
theorem dL_fails_26 : decode cL_fails 26 = .ok (.goto (-21), 3) := by decide +kernel
theorem dL_fails_29 : decode cL_fails 29 = .ok (.aload_n 0, 1) := by decide +kernel
theorem dL_fails_30 : decode cL_fails 30 = .ok (.iload_n 1, 1) := by decide +kernel
theorem dL_fails_31 : decode cL_fails 31 = .ok (.iload_n 2, 1) := by decide +kernel
theorem dL_fails_32 : decode cL_fails 32 = .ok (.invokevirtual 51, 3) := by decide +kernel
theorem dL_fails_35 : decode cL_fails 35 = .ok (.istore 4, 2) := by decide +kernel
theorem dL_fails_37 : decode cL_fails 37 = .ok (.iconst 0, 1) := by decide +kernel
theorem dL_fails_38 : decode cL_fails 38 = .ok (.istore 5, 2) := by decide +kernel
theorem dL_fails_40 : decode cL_fails 40 = .ok (.iconst 0, 1) := by decide +kernel
theorem dL_fails_41 : decode cL_fails 41 = .ok (.istore 6, 2) := by decide +kernel
theorem dL_fails_43 : decode cL_fails 43 = .ok (.iload 6, 2) := by decide +kernel
theorem dL_fails_45 : decode cL_fails 45 = .ok (.aload_n 0, 1) := by decide +kernel
theorem dL_fails_46 : decode cL_fails 46 = .ok (.invokevirtual 14, 3) := by decide +kernel
theorem dL_fails_49 : decode cL_fails 49 = .ok (.if_icmp .ge 20, 3) := by decide +kernel
theorem dL_fails_52 : decode cL_fails 52 = .ok (.iload 5, 2) := by decide +kernel
theorem dL_fails_54 : decode cL_fails 54 = .ok (.aload_n 0, 1) := by decide +kernel
theorem dL_fails_55 : decode cL_fails 55 = .ok (.iload 6, 2) := by decide +kernel
theorem dL_fails_57 : decode cL_fails 57 = .ok (.invokevirtual 48, 3) := by decide +kernel
theorem dL_fails_60 : decode cL_fails 60 = .ok (.iadd, 1) := by decide +kernel
theorem dL_fails_61 : decode cL_fails 61 = .ok (.istore 5, 2) := by decide +kernel
theorem dL_fails_63 : decode cL_fails 63 = .ok (.iinc 6 1, 3) := by decide +kernel
theorem dL_fails_66 : decode cL_fails 66 = .ok (.goto (-23), 3) := by decide +kernel
theorem dL_fails_69 : decode cL_fails 69 = .ok (.iload 4, 2) := by decide +kernel
theorem dL_fails_71 : decode cL_fails 71 = .ok (.iload_n 2, 1) := by decide +kernel
theorem dL_fails_72 : decode cL_fails 72 = .ok (.if_icmp .lt 39, 3) := by decide +kernel
theorem dL_fails_75 : decode cL_fails 75 = .ok (.iload_n 3, 1) := by decide +kernel
theorem dL_fails_76 : decode cL_fails 76 = .ok (.iload 5, 2) := by decide +kernel
theorem dL_fails_78 : decode cL_fails 78 = .ok (.isub, 1) := by decide +kernel
theorem dL_fails_79 : decode cL_fails 79 = .ok (.iload 4, 2) := by decide +kernel
theorem dL_fails_81 : decode cL_fails 81 = .ok (.iload_n 2, 1) := by decide +kernel
theorem dL_fails_82 : decode cL_fails 82 = .ok (.isub, 1) := by decide +kernel
theorem dL_fails_83 : decode cL_fails 83 = .ok (.if_icmp .ne 28, 3) := by decide +kernel
theorem dL_fails_86 : decode cL_fails 86 = .ok (.aload_n 0, 1) := by decide +kernel
theorem dL_fails_87 : decode cL_fails 87 = .ok (.iload_n 1, 1) := by decide +kernel
theorem dL_fails_88 : decode cL_fails 88 = .ok (.invokevirtual 48, 3) := by decide +kernel
theorem dL_fails_91 : decode cL_fails 91 = .ok (.ifCond .ne 20, 3) := by decide +kernel
theorem dL_fails_94 : decode cL_fails 94 = .ok (.aload_n 0, 1) := by decide +kernel
theorem dL_fails_95 : decode cL_fails 95 = .ok (.invokevirtual 27, 3) := by decide +kernel
theorem dL_fails_98 : decode cL_fails 98 = .ok (.iload_n 1, 1) := by decide +kernel
theorem dL_fails_99 : decode cL_fails 99 = .ok (.if_icmp .ne 12, 3) := by decide +kernel
theorem dL_fails_102 : decode cL_fails 102 = .ok (.aload_n 0, 1) := by decide +kernel
theorem dL_fails_103 : decode cL_fails 103 = .ok (.iload_n 1, 1) := by decide +kernel
theorem dL_fails_104 : decode cL_fails 104 = .ok (.invokevirtual 33, 3) := by decide +kernel
theorem dL_fails_107 : decode cL_fails 107 = .ok (.iconst 2, 1) := by decide +kernel
theorem dL_fails_108 : decode cL_fails 108 = .ok (.if_icmp .eq 5, 3) := by decide +kernel
theorem dL_fails_111 : decode cL_fails 111 = .ok (.iconst (-1), 1) := by decide +kernel
theorem dL_fails_112 : decode cL_fails 112 = .ok (.ireturn, 1) := by decide +kernel
theorem dL_fails_113 : decode cL_fails 113 = .ok (.iload 4, 2) := by decide +kernel
theorem dL_fails_115 : decode cL_fails 115 = .ok (.ireturn, 1) := by decide +kernel
theorem dL_clients_0 : decode cL_clients 0 = .ok (.iconst 0, 1) := by decide +kernel
theorem dL_clients_1 : decode cL_clients 1 = .ok (.istore 4, 2) := by decide +kernel
theorem dL_clients_3 : decode cL_clients 3 = .ok (.iload 4, 2) := by decide +kernel
theorem dL_clients_5 : decode cL_clients 5 = .ok (.aload_n 0, 1) := by decide +kernel
theorem dL_clients_6 : decode cL_clients 6 = .ok (.invokevirtual 14, 3) := by decide +kernel
theorem dL_clients_9 : decode cL_clients 9 = .ok (.if_icmp .ge 84, 3) := by decide +kernel
theorem dL_clients_12 : decode cL_clients 12 = .ok (.iconst 1, 1) := by decide +kernel
theorem dL_clients_13 : decode cL_clients 13 = .ok (.iload_n 1, 1) := by decide +kernel
theorem dL_clients_14 : decode cL_clients 14 = .ok (.bipush 7, 2) := by decide +kernel
theorem dL_clients_16 : decode cL_clients 16 = .ok (.iload 4, 2) := by decide +kernel
theorem dL_clients_18 : decode cL_clients 18 = .ok (.imul, 1) := by decide +kernel
theorem dL_clients_19 : decode cL_clients 19 = .ok (.iadd, 1) := by decide +kernel
theorem dL_clients_20 : decode cL_clients 20 = .ok (.iconst 2, 1) := by decide +kernel
theorem dL_clients_21 : decode cL_clients 21 = .ok (.ishr, 1) := by decide +kernel
theorem dL_clients_22 : decode cL_clients 22 = .ok (.bipush 9, 2) := by decide +kernel
theorem dL_clients_24 : decode cL_clients 24 = .ok (.invokestatic 55, 3) := by decide +kernel
theorem dL_clients_27 : decode cL_clients 27 = .ok (.iadd, 1) := by decide +kernel
theorem dL_clients_28 : decode cL_clients 28 = .ok (.istore 5, 2) := by decide +kernel
theorem dL_clients_30 : decode cL_clients 30 = .ok (.aload_n 3, 1) := by decide +kernel
theorem dL_clients_31 : decode cL_clients 31 = .ok (.iload 4, 2) := by decide +kernel
theorem dL_clients_33 : decode cL_clients 33 = .ok (.iaload, 1) := by decide +kernel
theorem dL_clients_34 : decode cL_clients 34 = .ok (.aload_n 0, 1) := by decide +kernel
theorem dL_clients_35 : decode cL_clients 35 = .ok (.iload 4, 2) := by decide +kernel
theorem dL_clients_37 : decode cL_clients 37 = .ok (.invokevirtual 48, 3) := by decide +kernel
theorem dL_clients_40 : decode cL_clients 40 = .ok (.isub, 1) := by decide +kernel
theorem dL_clients_41 : decode cL_clients 41 = .ok (.iload 5, 2) := by decide +kernel
theorem dL_clients_43 : decode cL_clients 43 = .ok (.isub, 1) := by decide +kernel
theorem dL_clients_44 : decode cL_clients 44 = .ok (.istore 6, 2) := by decide +kernel
theorem dL_clients_46 : decode cL_clients 46 = .ok (.aload_n 0, 1) := by decide +kernel
theorem dL_clients_47 : decode cL_clients 47 = .ok (.iload 4, 2) := by decide +kernel
theorem dL_clients_49 : decode cL_clients 49 = .ok (.invokevirtual 33, 3) := by decide +kernel
theorem dL_clients_52 : decode cL_clients 52 = .ok (.iconst 2, 1) := by decide +kernel
theorem dL_clients_53 : decode cL_clients 53 = .ok (.if_icmp .ge 34, 3) := by decide +kernel
theorem dL_clients_56 : decode cL_clients 56 = .ok (.iload 6, 2) := by decide +kernel
theorem dL_clients_58 : decode cL_clients 58 = .ok (.ifCond .lt 29, 3) := by decide +kernel
theorem dL_clients_61 : decode cL_clients 61 = .ok (.iload_n 2, 1) := by decide +kernel
theorem dL_clients_62 : decode cL_clients 62 = .ok (.iload 4, 2) := by decide +kernel
theorem dL_clients_64 : decode cL_clients 64 = .ok (.ishr, 1) := by decide +kernel
theorem dL_clients_65 : decode cL_clients 65 = .ok (.iconst 2, 1) := by decide +kernel
theorem dL_clients_66 : decode cL_clients 66 = .ok (.invokestatic 55, 3) := by decide +kernel
theorem dL_clients_69 : decode cL_clients 69 = .ok (.ifCond .ne 18, 3) := by decide +kernel
theorem dL_clients_72 : decode cL_clients 72 = .ok (.aload_n 0, 1) := by decide +kernel
theorem dL_clients_73 : decode cL_clients 73 = .ok (.iload 4, 2) := by decide +kernel
theorem dL_clients_75 : decode cL_clients 75 = .ok (.iload 5, 2) := by decide +kernel
theorem dL_clients_77 : decode cL_clients 77 = .ok (.invokevirtual 60, 3) := by decide +kernel
theorem dL_clients_80 : decode cL_clients 80 = .ok (.iload 6, 2) := by decide +kernel
theorem dL_clients_82 : decode cL_clients 82 = .ok (.if_icmp .eq 5, 3) := by decide +kernel
theorem dL_clients_85 : decode cL_clients 85 = .ok (.iconst 0, 1) := by decide +kernel
theorem dL_clients_86 : decode cL_clients 86 = .ok (.ireturn, 1) := by decide +kernel
theorem dL_clients_87 : decode cL_clients 87 = .ok (.iinc 4 1, 3) := by decide +kernel
theorem dL_clients_90 : decode cL_clients 90 = .ok (.goto (-87), 3) := by decide +kernel
theorem dL_clients_93 : decode cL_clients 93 = .ok (.iconst 1, 1) := by decide +kernel
theorem dL_clients_94 : decode cL_clients 94 = .ok (.ireturn, 1) := by decide +kernel
theorem dL_sizes_0 : decode cL_sizes 0 = .ok (.aload_n 0, 1) := by decide +kernel
theorem dL_sizes_1 : decode cL_sizes 1 = .ok (.invokestatic 63, 3) := by decide +kernel
theorem dL_sizes_4 : decode cL_sizes 4 = .ok (.lstore_n 1, 1) := by decide +kernel
theorem dL_sizes_5 : decode cL_sizes 5 = .ok (.aload_n 0, 1) := by decide +kernel
theorem dL_sizes_6 : decode cL_sizes 6 = .ok (.invokevirtual 67, 3) := by decide +kernel
theorem dL_sizes_9 : decode cL_sizes 9 = .ok (.istore_n 3, 1) := by decide +kernel
theorem dL_sizes_10 : decode cL_sizes 10 = .ok (.iload_n 3, 1) := by decide +kernel
theorem dL_sizes_11 : decode cL_sizes 11 = .ok (.ifCond .lt 26, 3) := by decide +kernel
theorem dL_sizes_14 : decode cL_sizes 14 = .ok (.aload_n 0, 1) := by decide +kernel
theorem dL_sizes_15 : decode cL_sizes 15 = .ok (.invokestatic 63, 3) := by decide +kernel
theorem dL_sizes_18 : decode cL_sizes 18 = .ok (.lload_n 1, 1) := by decide +kernel
theorem dL_sizes_19 : decode cL_sizes 19 = .ok (.iload_n 3, 1) := by decide +kernel
theorem dL_sizes_20 : decode cL_sizes 20 = .ok (.i2l, 1) := by decide +kernel
theorem dL_sizes_21 : decode cL_sizes 21 = .ok (.ladd, 1) := by decide +kernel
theorem dL_sizes_22 : decode cL_sizes 22 = .ok (.lcmp, 1) := by decide +kernel
theorem dL_sizes_23 : decode cL_sizes 23 = .ok (.ifCond .ne 14, 3) := by decide +kernel
theorem dL_sizes_26 : decode cL_sizes 26 = .ok (.aload_n 0, 1) := by decide +kernel
theorem dL_sizes_27 : decode cL_sizes 27 = .ok (.invokevirtual 67, 3) := by decide +kernel
theorem dL_sizes_30 : decode cL_sizes 30 = .ok (.ifCond .ne 7, 3) := by decide +kernel
theorem dL_sizes_33 : decode cL_sizes 33 = .ok (.iconst 1, 1) := by decide +kernel
theorem dL_sizes_34 : decode cL_sizes 34 = .ok (.goto 4, 3) := by decide +kernel
theorem dL_sizes_37 : decode cL_sizes 37 = .ok (.iconst 0, 1) := by decide +kernel
theorem dL_sizes_38 : decode cL_sizes 38 = .ok (.ireturn, 1) := by decide +kernel
theorem dL_bids_0 : decode cL_bids 0 = .ok (.iconst 0, 1) := by decide +kernel
theorem dL_bids_1 : decode cL_bids 1 = .ok (.istore 4, 2) := by decide +kernel
theorem dL_bids_3 : decode cL_bids 3 = .ok (.iload 4, 2) := by decide +kernel
theorem dL_bids_5 : decode cL_bids 5 = .ok (.aload_n 0, 1) := by decide +kernel
theorem dL_bids_6 : decode cL_bids 6 = .ok (.invokevirtual 14, 3) := by decide +kernel
theorem dL_bids_9 : decode cL_bids 9 = .ok (.if_icmp .ge 96, 3) := by decide +kernel
theorem dL_bids_12 : decode cL_bids 12 = .ok (.aload_n 0, 1) := by decide +kernel
theorem dL_bids_13 : decode cL_bids 13 = .ok (.iload 4, 2) := by decide +kernel
theorem dL_bids_15 : decode cL_bids 15 = .ok (.invokevirtual 33, 3) := by decide +kernel
theorem dL_bids_18 : decode cL_bids 18 = .ok (.iconst 1, 1) := by decide +kernel
theorem dL_bids_19 : decode cL_bids 19 = .ok (.if_icmp .le 6, 3) := by decide +kernel
theorem dL_bids_22 : decode cL_bids 22 = .ok (.goto 77, 3) := by decide +kernel
theorem dL_bids_25 : decode cL_bids 25 = .ok (.iconst 0, 1) := by decide +kernel
theorem dL_bids_26 : decode cL_bids 26 = .ok (.istore 5, 2) := by decide +kernel
theorem dL_bids_28 : decode cL_bids 28 = .ok (.iload 5, 2) := by decide +kernel
theorem dL_bids_30 : decode cL_bids 30 = .ok (.iload_n 1, 1) := by decide +kernel
theorem dL_bids_31 : decode cL_bids 31 = .ok (.if_icmp .ge 68, 3) := by decide +kernel
theorem dL_bids_34 : decode cL_bids 34 = .ok (.iload 5, 2) := by decide +kernel
theorem dL_bids_36 : decode cL_bids 36 = .ok (.bipush 12, 2) := by decide +kernel
theorem dL_bids_38 : decode cL_bids 38 = .ok (.if_icmp .ge 61, 3) := by decide +kernel
theorem dL_bids_41 : decode cL_bids 41 = .ok (.iload_n 2, 1) := by decide +kernel
theorem dL_bids_42 : decode cL_bids 42 = .ok (.iload 4, 2) := by decide +kernel
theorem dL_bids_44 : decode cL_bids 44 = .ok (.iload 5, 2) := by decide +kernel
theorem dL_bids_46 : decode cL_bids 46 = .ok (.iconst 5, 1) := by decide +kernel
theorem dL_bids_47 : decode cL_bids 47 = .ok (.irem, 1) := by decide +kernel
theorem dL_bids_48 : decode cL_bids 48 = .ok (.iadd, 1) := by decide +kernel
theorem dL_bids_49 : decode cL_bids 49 = .ok (.ishr, 1) := by decide +kernel
theorem dL_bids_50 : decode cL_bids 50 = .ok (.iconst 3, 1) := by decide +kernel
theorem dL_bids_51 : decode cL_bids 51 = .ok (.invokestatic 55, 3) := by decide +kernel
theorem dL_bids_54 : decode cL_bids 54 = .ok (.ifCond .le 39, 3) := by decide +kernel
theorem dL_bids_57 : decode cL_bids 57 = .ok (.aload_n 0, 1) := by decide +kernel
theorem dL_bids_58 : decode cL_bids 58 = .ok (.iload 4, 2) := by decide +kernel
theorem dL_bids_60 : decode cL_bids 60 = .ok (.iload 5, 2) := by decide +kernel
theorem dL_bids_62 : decode cL_bids 62 = .ok (.iload_n 3, 1) := by decide +kernel
theorem dL_bids_63 : decode cL_bids 63 = .ok (.bipush 37, 2) := by decide +kernel
theorem dL_bids_65 : decode cL_bids 65 = .ok (.iload 4, 2) := by decide +kernel
theorem dL_bids_67 : decode cL_bids 67 = .ok (.imul, 1) := by decide +kernel
theorem dL_bids_68 : decode cL_bids 68 = .ok (.iadd, 1) := by decide +kernel
theorem dL_bids_69 : decode cL_bids 69 = .ok (.bipush 91, 2) := by decide +kernel
theorem dL_bids_71 : decode cL_bids 71 = .ok (.iload 5, 2) := by decide +kernel
theorem dL_bids_73 : decode cL_bids 73 = .ok (.imul, 1) := by decide +kernel
theorem dL_bids_74 : decode cL_bids 74 = .ok (.iadd, 1) := by decide +kernel
theorem dL_bids_75 : decode cL_bids 75 = .ok (.iload 5, 2) := by decide +kernel
theorem dL_bids_77 : decode cL_bids 77 = .ok (.iconst 4, 1) := by decide +kernel
theorem dL_bids_78 : decode cL_bids 78 = .ok (.irem, 1) := by decide +kernel
theorem dL_bids_79 : decode cL_bids 79 = .ok (.ishr, 1) := by decide +kernel
theorem dL_bids_80 : decode cL_bids 80 = .ok (.sipush 700, 3) := by decide +kernel
theorem dL_bids_83 : decode cL_bids 83 = .ok (.invokestatic 55, 3) := by decide +kernel
theorem dL_bids_86 : decode cL_bids 86 = .ok (.sipush 600, 3) := by decide +kernel
theorem dL_bids_89 : decode cL_bids 89 = .ok (.isub, 1) := by decide +kernel
theorem dL_bids_90 : decode cL_bids 90 = .ok (.invokevirtual 70, 3) := by decide +kernel
theorem dL_bids_93 : decode cL_bids 93 = .ok (.iinc 5 1, 3) := by decide +kernel
theorem dL_bids_96 : decode cL_bids 96 = .ok (.goto (-68), 3) := by decide +kernel
theorem dL_bids_99 : decode cL_bids 99 = .ok (.iinc 4 1, 3) := by decide +kernel
theorem dL_bids_102 : decode cL_bids 102 = .ok (.goto (-99), 3) := by decide +kernel
theorem dL_bids_105 : decode cL_bids 105 = .ok (.return_, 1) := by decide +kernel
theorem dL_law_0 : decode cL_law 0 = .ok (.new 9, 3) := by decide +kernel
theorem dL_law_3 : decode cL_law 3 = .ok (.dup, 1) := by decide +kernel
theorem dL_law_4 : decode cL_law 4 = .ok (.invokespecial 74, 3) := by decide +kernel
theorem dL_law_7 : decode cL_law 7 = .ok (.astore_n 1, 1) := by decide +kernel
theorem dL_law_8 : decode cL_law 8 = .ok (.bipush 50, 2) := by decide +kernel
theorem dL_law_10 : decode cL_law 10 = .ok (.newarray .int, 2) := by decide +kernel
theorem dL_law_12 : decode cL_law 12 = .ok (.astore_n 2, 1) := by decide +kernel
theorem dL_law_13 : decode cL_law 13 = .ok (.bipush 10, 2) := by decide +kernel
theorem dL_law_15 : decode cL_law 15 = .ok (.newarray .int, 2) := by decide +kernel
theorem dL_law_17 : decode cL_law 17 = .ok (.astore_n 3, 1) := by decide +kernel
theorem dL_law_18 : decode cL_law 18 = .ok (.iconst 0, 1) := by decide +kernel
theorem dL_law_19 : decode cL_law 19 = .ok (.istore 4, 2) := by decide +kernel
theorem dL_law_21 : decode cL_law 21 = .ok (.iload 4, 2) := by decide +kernel
theorem dL_law_23 : decode cL_law 23 = .ok (.bipush 14, 2) := by decide +kernel
theorem dL_law_25 : decode cL_law 25 = .ok (.if_icmp .ge 308, 3) := by decide +kernel
theorem dL_law_28 : decode cL_law 28 = .ok (.aload_n 0, 1) := by decide +kernel
theorem dL_law_29 : decode cL_law 29 = .ok (.iconst 2, 1) := by decide +kernel
theorem dL_law_30 : decode cL_law 30 = .ok (.iload 4, 2) := by decide +kernel
theorem dL_law_32 : decode cL_law 32 = .ok (.imul, 1) := by decide +kernel
theorem dL_law_33 : decode cL_law 33 = .ok (.invokestatic 75, 3) := by decide +kernel
theorem dL_law_36 : decode cL_law 36 = .ok (.ldc 79, 2) := by decide +kernel
theorem dL_law_38 : decode cL_law 38 = .ok (.iand, 1) := by decide +kernel
theorem dL_law_39 : decode cL_law 39 = .ok (.istore 5, 2) := by decide +kernel
theorem dL_law_41 : decode cL_law 41 = .ok (.aload_n 0, 1) := by decide +kernel
theorem dL_law_42 : decode cL_law 42 = .ok (.iconst 2, 1) := by decide +kernel
theorem dL_law_43 : decode cL_law 43 = .ok (.iload 4, 2) := by decide +kernel
theorem dL_law_45 : decode cL_law 45 = .ok (.imul, 1) := by decide +kernel
theorem dL_law_46 : decode cL_law 46 = .ok (.iconst 1, 1) := by decide +kernel
theorem dL_law_47 : decode cL_law 47 = .ok (.iadd, 1) := by decide +kernel
theorem dL_law_48 : decode cL_law 48 = .ok (.invokestatic 75, 3) := by decide +kernel
theorem dL_law_51 : decode cL_law 51 = .ok (.ldc 79, 2) := by decide +kernel
theorem dL_law_53 : decode cL_law 53 = .ok (.iand, 1) := by decide +kernel
theorem dL_law_54 : decode cL_law 54 = .ok (.istore 6, 2) := by decide +kernel
theorem dL_law_56 : decode cL_law 56 = .ok (.aload_n 1, 1) := by decide +kernel
theorem dL_law_57 : decode cL_law 57 = .ok (.invokevirtual 14, 3) := by decide +kernel
theorem dL_law_60 : decode cL_law 60 = .ok (.bipush 10, 2) := by decide +kernel
theorem dL_law_62 : decode cL_law 62 = .ok (.if_icmp .ge 71, 3) := by decide +kernel
theorem dL_law_65 : decode cL_law 65 = .ok (.iload 4, 2) := by decide +kernel
theorem dL_law_67 : decode cL_law 67 = .ok (.iconst 3, 1) := by decide +kernel
theorem dL_law_68 : decode cL_law 68 = .ok (.if_icmp .lt 12, 3) := by decide +kernel
theorem dL_law_71 : decode cL_law 71 = .ok (.iload 5, 2) := by decide +kernel
theorem dL_law_73 : decode cL_law 73 = .ok (.iconst 2, 1) := by decide +kernel
theorem dL_law_74 : decode cL_law 74 = .ok (.invokestatic 55, 3) := by decide +kernel
theorem dL_law_77 : decode cL_law 77 = .ok (.ifCond .ne 56, 3) := by decide +kernel
theorem dL_law_80 : decode cL_law 80 = .ok (.aload_n 1, 1) := by decide +kernel
theorem dL_law_81 : decode cL_law 81 = .ok (.invokevirtual 14, 3) := by decide +kernel
theorem dL_law_84 : decode cL_law 84 = .ok (.istore 7, 2) := by decide +kernel
theorem dL_law_86 : decode cL_law 86 = .ok (.aload_n 3, 1) := by decide +kernel
theorem dL_law_87 : decode cL_law 87 = .ok (.iload 7, 2) := by decide +kernel
theorem dL_law_89 : decode cL_law 89 = .ok (.iload 5, 2) := by decide +kernel
theorem dL_law_91 : decode cL_law 91 = .ok (.iconst 3, 1) := by decide +kernel
theorem dL_law_92 : decode cL_law 92 = .ok (.ishr, 1) := by decide +kernel
theorem dL_law_93 : decode cL_law 93 = .ok (.bipush 40, 2) := by decide +kernel
theorem dL_law_95 : decode cL_law 95 = .ok (.invokestatic 55, 3) := by decide +kernel
theorem dL_law_98 : decode cL_law 98 = .ok (.iastore, 1) := by decide +kernel
theorem dL_law_99 : decode cL_law 99 = .ok (.aload_n 1, 1) := by decide +kernel
theorem dL_law_100 : decode cL_law 100 = .ok (.iload 6, 2) := by decide +kernel
theorem dL_law_102 : decode cL_law 102 = .ok (.sipush 900, 3) := by decide +kernel
theorem dL_law_105 : decode cL_law 105 = .ok (.invokestatic 55, 3) := by decide +kernel
theorem dL_law_108 : decode cL_law 108 = .ok (.iload 6, 2) := by decide +kernel
theorem dL_law_110 : decode cL_law 110 = .ok (.bipush 9, 2) := by decide +kernel
theorem dL_law_112 : decode cL_law 112 = .ok (.ishr, 1) := by decide +kernel
theorem dL_law_113 : decode cL_law 113 = .ok (.sipush 800, 3) := by decide +kernel
theorem dL_law_116 : decode cL_law 116 = .ok (.invokestatic 55, 3) := by decide +kernel
theorem dL_law_119 : decode cL_law 119 = .ok (.aload_n 3, 1) := by decide +kernel
theorem dL_law_120 : decode cL_law 120 = .ok (.iload 7, 2) := by decide +kernel
theorem dL_law_122 : decode cL_law 122 = .ok (.iaload, 1) := by decide +kernel
theorem dL_law_123 : decode cL_law 123 = .ok (.invokevirtual 80, 3) := by decide +kernel
theorem dL_law_126 : decode cL_law 126 = .ok (.iload 7, 2) := by decide +kernel
theorem dL_law_128 : decode cL_law 128 = .ok (.if_icmp .eq 5, 3) := by decide +kernel
theorem dL_law_131 : decode cL_law 131 = .ok (.iconst 0, 1) := by decide +kernel
theorem dL_law_132 : decode cL_law 132 = .ok (.ireturn, 1) := by decide +kernel
theorem dL_law_133 : decode cL_law 133 = .ok (.aload_n 1, 1) := by decide +kernel
theorem dL_law_134 : decode cL_law 134 = .ok (.iload 5, 2) := by decide +kernel
theorem dL_law_136 : decode cL_law 136 = .ok (.iload 6, 2) := by decide +kernel
theorem dL_law_138 : decode cL_law 138 = .ok (.aload_n 3, 1) := by decide +kernel
theorem dL_law_139 : decode cL_law 139 = .ok (.invokestatic 84, 3) := by decide +kernel
theorem dL_law_142 : decode cL_law 142 = .ok (.ifCond .ne 5, 3) := by decide +kernel
theorem dL_law_145 : decode cL_law 145 = .ok (.iconst 0, 1) := by decide +kernel
theorem dL_law_146 : decode cL_law 146 = .ok (.ireturn, 1) := by decide +kernel
theorem dL_law_147 : decode cL_law 147 = .ok (.iload 5, 2) := by decide +kernel
theorem dL_law_149 : decode cL_law 149 = .ok (.iconst 5, 1) := by decide +kernel
theorem dL_law_150 : decode cL_law 150 = .ok (.ishr, 1) := by decide +kernel
theorem dL_law_151 : decode cL_law 151 = .ok (.aload_n 1, 1) := by decide +kernel
theorem dL_law_152 : decode cL_law 152 = .ok (.invokevirtual 14, 3) := by decide +kernel
theorem dL_law_155 : decode cL_law 155 = .ok (.invokestatic 55, 3) := by decide +kernel
theorem dL_law_158 : decode cL_law 158 = .ok (.istore 7, 2) := by decide +kernel
theorem dL_law_160 : decode cL_law 160 = .ok (.aload_n 1, 1) := by decide +kernel
theorem dL_law_161 : decode cL_law 161 = .ok (.iload 7, 2) := by decide +kernel
theorem dL_law_163 : decode cL_law 163 = .ok (.invokevirtual 33, 3) := by decide +kernel
theorem dL_law_166 : decode cL_law 166 = .ok (.iconst 2, 1) := by decide +kernel
theorem dL_law_167 : decode cL_law 167 = .ok (.if_icmp .ge 64, 3) := by decide +kernel
theorem dL_law_170 : decode cL_law 170 = .ok (.aload_n 1, 1) := by decide +kernel
theorem dL_law_171 : decode cL_law 171 = .ok (.iload 7, 2) := by decide +kernel
theorem dL_law_173 : decode cL_law 173 = .ok (.iload 6, 2) := by decide +kernel
theorem dL_law_175 : decode cL_law 175 = .ok (.iconst 3, 1) := by decide +kernel
theorem dL_law_176 : decode cL_law 176 = .ok (.ishr, 1) := by decide +kernel
theorem dL_law_177 : decode cL_law 177 = .ok (.sipush 500, 3) := by decide +kernel
theorem dL_law_180 : decode cL_law 180 = .ok (.invokestatic 55, 3) := by decide +kernel
theorem dL_law_183 : decode cL_law 183 = .ok (.invokevirtual 88, 3) := by decide +kernel
theorem dL_law_186 : decode cL_law 186 = .ok (.pop, 1) := by decide +kernel
theorem dL_law_187 : decode cL_law 187 = .ok (.aload_n 1, 1) := by decide +kernel
theorem dL_law_188 : decode cL_law 188 = .ok (.iload 7, 2) := by decide +kernel
theorem dL_law_190 : decode cL_law 190 = .ok (.iload 6, 2) := by decide +kernel
theorem dL_law_192 : decode cL_law 192 = .ok (.iconst 5, 1) := by decide +kernel
theorem dL_law_193 : decode cL_law 193 = .ok (.ishr, 1) := by decide +kernel
theorem dL_law_194 : decode cL_law 194 = .ok (.sipush 1500, 3) := by decide +kernel
theorem dL_law_197 : decode cL_law 197 = .ok (.invokestatic 55, 3) := by decide +kernel
theorem dL_law_200 : decode cL_law 200 = .ok (.invokevirtual 91, 3) := by decide +kernel
theorem dL_law_203 : decode cL_law 203 = .ok (.pop, 1) := by decide +kernel
theorem dL_law_204 : decode cL_law 204 = .ok (.iload 5, 2) := by decide +kernel
theorem dL_law_206 : decode cL_law 206 = .ok (.bipush 9, 2) := by decide +kernel
theorem dL_law_208 : decode cL_law 208 = .ok (.ishr, 1) := by decide +kernel
theorem dL_law_209 : decode cL_law 209 = .ok (.iconst 5, 1) := by decide +kernel
theorem dL_law_210 : decode cL_law 210 = .ok (.invokestatic 55, 3) := by decide +kernel
theorem dL_law_213 : decode cL_law 213 = .ok (.ifCond .ne 18, 3) := by decide +kernel
theorem dL_law_216 : decode cL_law 216 = .ok (.aload_n 1, 1) := by decide +kernel
theorem dL_law_217 : decode cL_law 217 = .ok (.iload 7, 2) := by decide +kernel
theorem dL_law_219 : decode cL_law 219 = .ok (.invokevirtual 33, 3) := by decide +kernel
theorem dL_law_222 : decode cL_law 222 = .ok (.ifCond .ne 9, 3) := by decide +kernel
theorem dL_law_225 : decode cL_law 225 = .ok (.aload_n 1, 1) := by decide +kernel
theorem dL_law_226 : decode cL_law 226 = .ok (.iload 7, 2) := by decide +kernel
theorem dL_law_228 : decode cL_law 228 = .ok (.invokevirtual 94, 3) := by decide +kernel
theorem dL_law_231 : decode cL_law 231 = .ok (.aload_n 1, 1) := by decide +kernel
theorem dL_law_232 : decode cL_law 232 = .ok (.iload 5, 2) := by decide +kernel
theorem dL_law_234 : decode cL_law 234 = .ok (.bipush 6, 2) := by decide +kernel
theorem dL_law_236 : decode cL_law 236 = .ok (.ishr, 1) := by decide +kernel
theorem dL_law_237 : decode cL_law 237 = .ok (.sipush 700, 3) := by decide +kernel
theorem dL_law_240 : decode cL_law 240 = .ok (.invokestatic 55, 3) := by decide +kernel
theorem dL_law_243 : decode cL_law 243 = .ok (.invokevirtual 98, 3) := by decide +kernel
theorem dL_law_246 : decode cL_law 246 = .ok (.pop, 1) := by decide +kernel
theorem dL_law_247 : decode cL_law 247 = .ok (.aload_n 1, 1) := by decide +kernel
theorem dL_law_248 : decode cL_law 248 = .ok (.invokestatic 101, 3) := by decide +kernel
theorem dL_law_251 : decode cL_law 251 = .ok (.ifCond .ne 5, 3) := by decide +kernel
theorem dL_law_254 : decode cL_law 254 = .ok (.iconst 0, 1) := by decide +kernel
theorem dL_law_255 : decode cL_law 255 = .ok (.ireturn, 1) := by decide +kernel
theorem dL_law_256 : decode cL_law 256 = .ok (.aload_n 1, 1) := by decide +kernel
theorem dL_law_257 : decode cL_law 257 = .ok (.iload 7, 2) := by decide +kernel
theorem dL_law_259 : decode cL_law 259 = .ok (.invokevirtual 33, 3) := by decide +kernel
theorem dL_law_262 : decode cL_law 262 = .ok (.iconst 1, 1) := by decide +kernel
theorem dL_law_263 : decode cL_law 263 = .ok (.if_icmp .gt 64, 3) := by decide +kernel
theorem dL_law_266 : decode cL_law 266 = .ok (.iload 6, 2) := by decide +kernel
