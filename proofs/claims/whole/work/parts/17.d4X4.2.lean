theorem dX4_close_218 : decode cX4_close 218 = .ok (.isub, 1) := by decide +kernel
theorem dX4_close_219 : decode cX4_close 219 = .ok (.istore_n 2, 1) := by decide +kernel
theorem dX4_close_220 : decode cX4_close 220 = .ok (.aload_n 0, 1) := by decide +kernel
theorem dX4_close_221 : decode cX4_close 221 = .ok (.iload_n 2, 1) := by decide +kernel
theorem dX4_close_222 : decode cX4_close 222 = .ok (.iconst 1, 1) := by decide +kernel
theorem dX4_close_223 : decode cX4_close 223 = .ok (.invokevirtual 126, 3) := by decide +kernel
theorem dX4_close_226 : decode cX4_close 226 = .ok (.istore_n 2, 1) := by decide +kernel
theorem dX4_close_227 : decode cX4_close 227 = .ok (.aload_n 0, 1) := by decide +kernel
theorem dX4_close_228 : decode cX4_close 228 = .ok (.iload_n 2, 1) := by decide +kernel
theorem dX4_close_229 : decode cX4_close 229 = .ok (.iconst 0, 1) := by decide +kernel
theorem dX4_close_230 : decode cX4_close 230 = .ok (.invokevirtual 126, 3) := by decide +kernel
theorem dX4_close_233 : decode cX4_close 233 = .ok (.istore_n 2, 1) := by decide +kernel
theorem dX4_close_234 : decode cX4_close 234 = .ok (.aload_n 0, 1) := by decide +kernel
theorem dX4_close_235 : decode cX4_close 235 = .ok (.iload_n 2, 1) := by decide +kernel
theorem dX4_close_236 : decode cX4_close 236 = .ok (.invokevirtual 130, 3) := by decide +kernel
theorem dX4_close_239 : decode cX4_close 239 = .ok (.istore_n 2, 1) := by decide +kernel
theorem dX4_close_240 : decode cX4_close 240 = .ok (.aload_n 0, 1) := by decide +kernel
theorem dX4_close_241 : decode cX4_close 241 = .ok (.iload_n 2, 1) := by decide +kernel
theorem dX4_close_242 : decode cX4_close 242 = .ok (.invokevirtual 133, 3) := by decide +kernel
theorem dX4_close_245 : decode cX4_close 245 = .ok (.istore_n 2, 1) := by decide +kernel
theorem dX4_close_246 : decode cX4_close 246 = .ok (.aload_n 0, 1) := by decide +kernel
theorem dX4_close_247 : decode cX4_close 247 = .ok (.dup, 1) := by decide +kernel
theorem dX4_close_248 : decode cX4_close 248 = .ok (.getfield 136, 3) := by decide +kernel
theorem dX4_close_251 : decode cX4_close 251 = .ok (.iload_n 2, 1) := by decide +kernel
theorem dX4_close_252 : decode cX4_close 252 = .ok (.iadd, 1) := by decide +kernel
theorem dX4_close_253 : decode cX4_close 253 = .ok (.putfield 136, 3) := by decide +kernel
theorem dX4_close_256 : decode cX4_close 256 = .ok (.aload_n 0, 1) := by decide +kernel
theorem dX4_close_257 : decode cX4_close 257 = .ok (.aload_n 0, 1) := by decide +kernel
theorem dX4_close_258 : decode cX4_close 258 = .ok (.getfield 46, 3) := by decide +kernel
theorem dX4_close_261 : decode cX4_close 261 = .ok (.iconst 2, 1) := by decide +kernel
theorem dX4_close_262 : decode cX4_close 262 = .ok (.invokevirtual 139, 3) := by decide +kernel
theorem dX4_close_265 : decode cX4_close 265 = .ok (.iconst 0, 1) := by decide +kernel
theorem dX4_close_266 : decode cX4_close 266 = .ok (.istore 4, 2) := by decide +kernel
theorem dX4_close_268 : decode cX4_close 268 = .ok (.iload 4, 2) := by decide +kernel
theorem dX4_close_270 : decode cX4_close 270 = .ok (.aload_n 0, 1) := by decide +kernel
theorem dX4_close_271 : decode cX4_close 271 = .ok (.getfield 68, 3) := by decide +kernel
theorem dX4_close_274 : decode cX4_close 274 = .ok (.if_icmp .ge 27, 3) := by decide +kernel
theorem dX4_close_277 : decode cX4_close 277 = .ok (.aload_n 0, 1) := by decide +kernel
theorem dX4_close_278 : decode cX4_close 278 = .ok (.getfield 25, 3) := by decide +kernel
theorem dX4_close_281 : decode cX4_close 281 = .ok (.iload 4, 2) := by decide +kernel
theorem dX4_close_283 : decode cX4_close 283 = .ok (.iaload, 1) := by decide +kernel
theorem dX4_close_284 : decode cX4_close 284 = .ok (.iconst 1, 1) := by decide +kernel
theorem dX4_close_285 : decode cX4_close 285 = .ok (.if_icmp .ne 10, 3) := by decide +kernel
theorem dX4_close_288 : decode cX4_close 288 = .ok (.aload_n 0, 1) := by decide +kernel
theorem dX4_close_289 : decode cX4_close 289 = .ok (.iload 4, 2) := by decide +kernel
theorem dX4_close_291 : decode cX4_close 291 = .ok (.iconst 3, 1) := by decide +kernel
theorem dX4_close_292 : decode cX4_close 292 = .ok (.invokevirtual 139, 3) := by decide +kernel
theorem dX4_close_295 : decode cX4_close 295 = .ok (.iinc 4 1, 3) := by decide +kernel
theorem dX4_close_298 : decode cX4_close 298 = .ok (.goto (-30), 3) := by decide +kernel
theorem dX4_close_301 : decode cX4_close 301 = .ok (.aload_n 0, 1) := by decide +kernel
theorem dX4_close_302 : decode cX4_close 302 = .ok (.iconst (-1), 1) := by decide +kernel
theorem dX4_close_303 : decode cX4_close 303 = .ok (.putfield 46, 3) := by decide +kernel
theorem dX4_close_306 : decode cX4_close 306 = .ok (.iload_n 2, 1) := by decide +kernel
theorem dX4_close_307 : decode cX4_close 307 = .ok (.ireturn, 1) := by decide +kernel
theorem dX4_members_0 : decode cX4_members 0 = .ok (.aload_n 0, 1) := by decide +kernel
theorem dX4_members_1 : decode cX4_members 1 = .ok (.iconst 0, 1) := by decide +kernel
theorem dX4_members_2 : decode cX4_members 2 = .ok (.putfield 65, 3) := by decide +kernel
theorem dX4_members_5 : decode cX4_members 5 = .ok (.aload_n 0, 1) := by decide +kernel
theorem dX4_members_6 : decode cX4_members 6 = .ok (.getfield 68, 3) := by decide +kernel
theorem dX4_members_9 : decode cX4_members 9 = .ok (.ireturn, 1) := by decide +kernel
theorem dX4_state_0 : decode cX4_state 0 = .ok (.aload_n 0, 1) := by decide +kernel
theorem dX4_state_1 : decode cX4_state 1 = .ok (.iconst 0, 1) := by decide +kernel
theorem dX4_state_2 : decode cX4_state 2 = .ok (.putfield 65, 3) := by decide +kernel
theorem dX4_state_5 : decode cX4_state 5 = .ok (.aload_n 0, 1) := by decide +kernel
theorem dX4_state_6 : decode cX4_state 6 = .ok (.iload_n 1, 1) := by decide +kernel
theorem dX4_state_7 : decode cX4_state 7 = .ok (.invokevirtual 86, 3) := by decide +kernel
theorem dX4_state_10 : decode cX4_state 10 = .ok (.ifCond .eq 12, 3) := by decide +kernel
theorem dX4_state_13 : decode cX4_state 13 = .ok (.aload_n 0, 1) := by decide +kernel
theorem dX4_state_14 : decode cX4_state 14 = .ok (.getfield 25, 3) := by decide +kernel
theorem dX4_state_17 : decode cX4_state 17 = .ok (.iload_n 1, 1) := by decide +kernel
theorem dX4_state_18 : decode cX4_state 18 = .ok (.iaload, 1) := by decide +kernel
theorem dX4_state_19 : decode cX4_state 19 = .ok (.goto 8, 3) := by decide +kernel
theorem dX4_state_22 : decode cX4_state 22 = .ok (.aload_n 0, 1) := by decide +kernel
theorem dX4_state_23 : decode cX4_state 23 = .ok (.iconst 1, 1) := by decide +kernel
theorem dX4_state_24 : decode cX4_state 24 = .ok (.invokevirtual 76, 3) := by decide +kernel
theorem dX4_state_27 : decode cX4_state 27 = .ok (.ireturn, 1) := by decide +kernel
theorem dX4_margin_0 : decode cX4_margin 0 = .ok (.aload_n 0, 1) := by decide +kernel
theorem dX4_margin_1 : decode cX4_margin 1 = .ok (.iconst 0, 1) := by decide +kernel
theorem dX4_margin_2 : decode cX4_margin 2 = .ok (.putfield 65, 3) := by decide +kernel
theorem dX4_margin_5 : decode cX4_margin 5 = .ok (.aload_n 0, 1) := by decide +kernel
theorem dX4_margin_6 : decode cX4_margin 6 = .ok (.iload_n 1, 1) := by decide +kernel
theorem dX4_margin_7 : decode cX4_margin 7 = .ok (.invokevirtual 86, 3) := by decide +kernel
theorem dX4_margin_10 : decode cX4_margin 10 = .ok (.ifCond .eq 12, 3) := by decide +kernel
theorem dX4_margin_13 : decode cX4_margin 13 = .ok (.aload_n 0, 1) := by decide +kernel
theorem dX4_margin_14 : decode cX4_margin 14 = .ok (.getfield 7, 3) := by decide +kernel
theorem dX4_margin_17 : decode cX4_margin 17 = .ok (.iload_n 1, 1) := by decide +kernel
theorem dX4_margin_18 : decode cX4_margin 18 = .ok (.iaload, 1) := by decide +kernel
theorem dX4_margin_19 : decode cX4_margin 19 = .ok (.goto 8, 3) := by decide +kernel
theorem dX4_margin_22 : decode cX4_margin 22 = .ok (.aload_n 0, 1) := by decide +kernel
theorem dX4_margin_23 : decode cX4_margin 23 = .ok (.iconst 1, 1) := by decide +kernel
theorem dX4_margin_24 : decode cX4_margin 24 = .ok (.invokevirtual 76, 3) := by decide +kernel
theorem dX4_margin_27 : decode cX4_margin 27 = .ok (.ireturn, 1) := by decide +kernel
theorem dX4_share_0 : decode cX4_share 0 = .ok (.aload_n 0, 1) := by decide +kernel
theorem dX4_share_1 : decode cX4_share 1 = .ok (.iconst 0, 1) := by decide +kernel
theorem dX4_share_2 : decode cX4_share 2 = .ok (.putfield 65, 3) := by decide +kernel
theorem dX4_share_5 : decode cX4_share 5 = .ok (.aload_n 0, 1) := by decide +kernel
theorem dX4_share_6 : decode cX4_share 6 = .ok (.iload_n 1, 1) := by decide +kernel
theorem dX4_share_7 : decode cX4_share 7 = .ok (.invokevirtual 86, 3) := by decide +kernel
theorem dX4_share_10 : decode cX4_share 10 = .ok (.ifCond .eq 12, 3) := by decide +kernel
theorem dX4_share_13 : decode cX4_share 13 = .ok (.aload_n 0, 1) := by decide +kernel
theorem dX4_share_14 : decode cX4_share 14 = .ok (.getfield 13, 3) := by decide +kernel
theorem dX4_share_17 : decode cX4_share 17 = .ok (.iload_n 1, 1) := by decide +kernel
theorem dX4_share_18 : decode cX4_share 18 = .ok (.iaload, 1) := by decide +kernel
theorem dX4_share_19 : decode cX4_share 19 = .ok (.goto 8, 3) := by decide +kernel
theorem dX4_share_22 : decode cX4_share 22 = .ok (.aload_n 0, 1) := by decide +kernel
theorem dX4_share_23 : decode cX4_share 23 = .ok (.iconst 1, 1) := by decide +kernel
theorem dX4_share_24 : decode cX4_share 24 = .ok (.invokevirtual 76, 3) := by decide +kernel
theorem dX4_share_27 : decode cX4_share 27 = .ok (.ireturn, 1) := by decide +kernel
theorem dX4_gain_0 : decode cX4_gain 0 = .ok (.aload_n 0, 1) := by decide +kernel
theorem dX4_gain_1 : decode cX4_gain 1 = .ok (.iconst 0, 1) := by decide +kernel
theorem dX4_gain_2 : decode cX4_gain 2 = .ok (.putfield 65, 3) := by decide +kernel
theorem dX4_gain_5 : decode cX4_gain 5 = .ok (.aload_n 0, 1) := by decide +kernel
theorem dX4_gain_6 : decode cX4_gain 6 = .ok (.iload_n 1, 1) := by decide +kernel
theorem dX4_gain_7 : decode cX4_gain 7 = .ok (.invokevirtual 86, 3) := by decide +kernel
theorem dX4_gain_10 : decode cX4_gain 10 = .ok (.ifCond .eq 12, 3) := by decide +kernel
theorem dX4_gain_13 : decode cX4_gain 13 = .ok (.aload_n 0, 1) := by decide +kernel
theorem dX4_gain_14 : decode cX4_gain 14 = .ok (.getfield 19, 3) := by decide +kernel
theorem dX4_gain_17 : decode cX4_gain 17 = .ok (.iload_n 1, 1) := by decide +kernel
theorem dX4_gain_18 : decode cX4_gain 18 = .ok (.iaload, 1) := by decide +kernel
theorem dX4_gain_19 : decode cX4_gain 19 = .ok (.goto 8, 3) := by decide +kernel
theorem dX4_gain_22 : decode cX4_gain 22 = .ok (.aload_n 0, 1) := by decide +kernel
theorem dX4_gain_23 : decode cX4_gain 23 = .ok (.iconst 1, 1) := by decide +kernel
theorem dX4_gain_24 : decode cX4_gain 24 = .ok (.invokevirtual 76, 3) := by decide +kernel
theorem dX4_gain_27 : decode cX4_gain 27 = .ok (.ireturn, 1) := by decide +kernel
theorem dX4_isJunior_0 : decode cX4_isJunior 0 = .ok (.aload_n 0, 1) := by decide +kernel
theorem dX4_isJunior_1 : decode cX4_isJunior 1 = .ok (.iconst 0, 1) := by decide +kernel
theorem dX4_isJunior_2 : decode cX4_isJunior 2 = .ok (.putfield 65, 3) := by decide +kernel
theorem dX4_isJunior_5 : decode cX4_isJunior 5 = .ok (.aload_n 0, 1) := by decide +kernel
theorem dX4_isJunior_6 : decode cX4_isJunior 6 = .ok (.iload_n 1, 1) := by decide +kernel
theorem dX4_isJunior_7 : decode cX4_isJunior 7 = .ok (.invokevirtual 86, 3) := by decide +kernel
theorem dX4_isJunior_10 : decode cX4_isJunior 10 = .ok (.ifCond .ne 11, 3) := by decide +kernel
theorem dX4_isJunior_13 : decode cX4_isJunior 13 = .ok (.aload_n 0, 1) := by decide +kernel
theorem dX4_isJunior_14 : decode cX4_isJunior 14 = .ok (.iconst 1, 1) := by decide +kernel
theorem dX4_isJunior_15 : decode cX4_isJunior 15 = .ok (.invokevirtual 76, 3) := by decide +kernel
theorem dX4_isJunior_18 : decode cX4_isJunior 18 = .ok (.pop, 1) := by decide +kernel
theorem dX4_isJunior_19 : decode cX4_isJunior 19 = .ok (.iconst 0, 1) := by decide +kernel
theorem dX4_isJunior_20 : decode cX4_isJunior 20 = .ok (.ireturn, 1) := by decide +kernel
theorem dX4_isJunior_21 : decode cX4_isJunior 21 = .ok (.aload_n 0, 1) := by decide +kernel
theorem dX4_isJunior_22 : decode cX4_isJunior 22 = .ok (.getfield 28, 3) := by decide +kernel
theorem dX4_isJunior_25 : decode cX4_isJunior 25 = .ok (.iload_n 1, 1) := by decide +kernel
theorem dX4_isJunior_26 : decode cX4_isJunior 26 = .ok (.iaload, 1) := by decide +kernel
theorem dX4_isJunior_27 : decode cX4_isJunior 27 = .ok (.iconst 1, 1) := by decide +kernel
theorem dX4_isJunior_28 : decode cX4_isJunior 28 = .ok (.if_icmp .ne 7, 3) := by decide +kernel
theorem dX4_isJunior_31 : decode cX4_isJunior 31 = .ok (.iconst 1, 1) := by decide +kernel
theorem dX4_isJunior_32 : decode cX4_isJunior 32 = .ok (.goto 4, 3) := by decide +kernel
theorem dX4_isJunior_35 : decode cX4_isJunior 35 = .ok (.iconst 0, 1) := by decide +kernel
theorem dX4_isJunior_36 : decode cX4_isJunior 36 = .ok (.ireturn, 1) := by decide +kernel
theorem dX4_assessed_0 : decode cX4_assessed 0 = .ok (.aload_n 0, 1) := by decide +kernel
theorem dX4_assessed_1 : decode cX4_assessed 1 = .ok (.iconst 0, 1) := by decide +kernel
theorem dX4_assessed_2 : decode cX4_assessed 2 = .ok (.putfield 65, 3) := by decide +kernel
theorem dX4_assessed_5 : decode cX4_assessed 5 = .ok (.aload_n 0, 1) := by decide +kernel
theorem dX4_assessed_6 : decode cX4_assessed 6 = .ok (.iload_n 1, 1) := by decide +kernel
theorem dX4_assessed_7 : decode cX4_assessed 7 = .ok (.invokevirtual 86, 3) := by decide +kernel
theorem dX4_assessed_10 : decode cX4_assessed 10 = .ok (.ifCond .eq 12, 3) := by decide +kernel
theorem dX4_assessed_13 : decode cX4_assessed 13 = .ok (.aload_n 0, 1) := by decide +kernel
theorem dX4_assessed_14 : decode cX4_assessed 14 = .ok (.getfield 31, 3) := by decide +kernel
theorem dX4_assessed_17 : decode cX4_assessed 17 = .ok (.iload_n 1, 1) := by decide +kernel
theorem dX4_assessed_18 : decode cX4_assessed 18 = .ok (.iaload, 1) := by decide +kernel
theorem dX4_assessed_19 : decode cX4_assessed 19 = .ok (.goto 8, 3) := by decide +kernel
theorem dX4_assessed_22 : decode cX4_assessed 22 = .ok (.aload_n 0, 1) := by decide +kernel
theorem dX4_assessed_23 : decode cX4_assessed 23 = .ok (.iconst 1, 1) := by decide +kernel
theorem dX4_assessed_24 : decode cX4_assessed 24 = .ok (.invokevirtual 76, 3) := by decide +kernel
theorem dX4_assessed_27 : decode cX4_assessed 27 = .ok (.ireturn, 1) := by decide +kernel
theorem dX4_clientLots_0 : decode cX4_clientLots 0 = .ok (.aload_n 0, 1) := by decide +kernel
theorem dX4_clientLots_1 : decode cX4_clientLots 1 = .ok (.iconst 0, 1) := by decide +kernel
theorem dX4_clientLots_2 : decode cX4_clientLots 2 = .ok (.putfield 65, 3) := by decide +kernel
theorem dX4_clientLots_5 : decode cX4_clientLots 5 = .ok (.aload_n 0, 1) := by decide +kernel
theorem dX4_clientLots_6 : decode cX4_clientLots 6 = .ok (.iload_n 1, 1) := by decide +kernel
theorem dX4_clientLots_7 : decode cX4_clientLots 7 = .ok (.invokevirtual 86, 3) := by decide +kernel
theorem dX4_clientLots_10 : decode cX4_clientLots 10 = .ok (.ifCond .eq 11, 3) := by decide +kernel
theorem dX4_clientLots_13 : decode cX4_clientLots 13 = .ok (.aload_n 0, 1) := by decide +kernel
theorem dX4_clientLots_14 : decode cX4_clientLots 14 = .ok (.iload_n 1, 1) := by decide +kernel
theorem dX4_clientLots_15 : decode cX4_clientLots 15 = .ok (.invokevirtual 83, 3) := by decide +kernel
theorem dX4_clientLots_18 : decode cX4_clientLots 18 = .ok (.goto 8, 3) := by decide +kernel
theorem dX4_clientLots_21 : decode cX4_clientLots 21 = .ok (.aload_n 0, 1) := by decide +kernel
theorem dX4_clientLots_22 : decode cX4_clientLots 22 = .ok (.iconst 1, 1) := by decide +kernel
theorem dX4_clientLots_23 : decode cX4_clientLots 23 = .ok (.invokevirtual 76, 3) := by decide +kernel
theorem dX4_clientLots_26 : decode cX4_clientLots 26 = .ok (.ireturn, 1) := by decide +kernel
theorem dX4_won_0 : decode cX4_won 0 = .ok (.aload_n 0, 1) := by decide +kernel
theorem dX4_won_1 : decode cX4_won 1 = .ok (.iconst 0, 1) := by decide +kernel
theorem dX4_won_2 : decode cX4_won 2 = .ok (.putfield 65, 3) := by decide +kernel
theorem dX4_won_5 : decode cX4_won 5 = .ok (.aload_n 0, 1) := by decide +kernel
theorem dX4_won_6 : decode cX4_won 6 = .ok (.iload_n 1, 1) := by decide +kernel
theorem dX4_won_7 : decode cX4_won 7 = .ok (.invokevirtual 86, 3) := by decide +kernel
theorem dX4_won_10 : decode cX4_won 10 = .ok (.ifCond .eq 12, 3) := by decide +kernel
theorem dX4_won_13 : decode cX4_won 13 = .ok (.aload_n 0, 1) := by decide +kernel
theorem dX4_won_14 : decode cX4_won 14 = .ok (.getfield 34, 3) := by decide +kernel
theorem dX4_won_17 : decode cX4_won 17 = .ok (.iload_n 1, 1) := by decide +kernel
theorem dX4_won_18 : decode cX4_won 18 = .ok (.iaload, 1) := by decide +kernel
theorem dX4_won_19 : decode cX4_won 19 = .ok (.goto 8, 3) := by decide +kernel
theorem dX4_won_22 : decode cX4_won 22 = .ok (.aload_n 0, 1) := by decide +kernel
theorem dX4_won_23 : decode cX4_won 23 = .ok (.iconst 1, 1) := by decide +kernel
theorem dX4_won_24 : decode cX4_won 24 = .ok (.invokevirtual 76, 3) := by decide +kernel
theorem dX4_won_27 : decode cX4_won 27 = .ok (.ireturn, 1) := by decide +kernel
theorem dX4_capital_0 : decode cX4_capital 0 = .ok (.aload_n 0, 1) := by decide +kernel
theorem dX4_capital_1 : decode cX4_capital 1 = .ok (.iconst 0, 1) := by decide +kernel
theorem dX4_capital_2 : decode cX4_capital 2 = .ok (.putfield 65, 3) := by decide +kernel
theorem dX4_capital_5 : decode cX4_capital 5 = .ok (.aload_n 0, 1) := by decide +kernel
theorem dX4_capital_6 : decode cX4_capital 6 = .ok (.getfield 99, 3) := by decide +kernel
theorem dX4_capital_9 : decode cX4_capital 9 = .ok (.ireturn, 1) := by decide +kernel
theorem dX4_loss_0 : decode cX4_loss 0 = .ok (.aload_n 0, 1) := by decide +kernel
theorem dX4_loss_1 : decode cX4_loss 1 = .ok (.iconst 0, 1) := by decide +kernel
theorem dX4_loss_2 : decode cX4_loss 2 = .ok (.putfield 65, 3) := by decide +kernel
theorem dX4_loss_5 : decode cX4_loss 5 = .ok (.aload_n 0, 1) := by decide +kernel
theorem dX4_loss_6 : decode cX4_loss 6 = .ok (.getfield 123, 3) := by decide +kernel
theorem dX4_loss_9 : decode cX4_loss 9 = .ok (.ireturn, 1) := by decide +kernel
theorem dX4_uncovered_0 : decode cX4_uncovered 0 = .ok (.aload_n 0, 1) := by decide +kernel
theorem dX4_uncovered_1 : decode cX4_uncovered 1 = .ok (.iconst 0, 1) := by decide +kernel
theorem dX4_uncovered_2 : decode cX4_uncovered 2 = .ok (.putfield 65, 3) := by decide +kernel
theorem dX4_uncovered_5 : decode cX4_uncovered 5 = .ok (.aload_n 0, 1) := by decide +kernel
theorem dX4_uncovered_6 : decode cX4_uncovered 6 = .ok (.getfield 136, 3) := by decide +kernel
theorem dX4_uncovered_9 : decode cX4_uncovered 9 = .ok (.ireturn, 1) := by decide +kernel
theorem dX4_failing_0 : decode cX4_failing 0 = .ok (.aload_n 0, 1) := by decide +kernel
theorem dX4_failing_1 : decode cX4_failing 1 = .ok (.iconst 0, 1) := by decide +kernel
theorem dX4_failing_2 : decode cX4_failing 2 = .ok (.putfield 65, 3) := by decide +kernel
theorem dX4_failing_5 : decode cX4_failing 5 = .ok (.aload_n 0, 1) := by decide +kernel
theorem dX4_failing_6 : decode cX4_failing 6 = .ok (.getfield 46, 3) := by decide +kernel
theorem dX4_failing_9 : decode cX4_failing 9 = .ok (.ireturn, 1) := by decide +kernel
