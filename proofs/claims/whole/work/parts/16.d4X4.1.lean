theorem dX4_newOwner_35 : decode cX4_newOwner 35 = .ok (.iconst (-1), 1) := by decide +kernel
theorem dX4_newOwner_36 : decode cX4_newOwner 36 = .ok (.ireturn, 1) := by decide +kernel
theorem dX4_firstOf_0 : decode cX4_firstOf 0 = .ok (.iconst (-1), 1) := by decide +kernel
theorem dX4_firstOf_1 : decode cX4_firstOf 1 = .ok (.istore_n 2, 1) := by decide +kernel
theorem dX4_firstOf_2 : decode cX4_firstOf 2 = .ok (.iconst 0, 1) := by decide +kernel
theorem dX4_firstOf_3 : decode cX4_firstOf 3 = .ok (.istore_n 3, 1) := by decide +kernel
theorem dX4_firstOf_4 : decode cX4_firstOf 4 = .ok (.iload_n 3, 1) := by decide +kernel
theorem dX4_firstOf_5 : decode cX4_firstOf 5 = .ok (.aload_n 0, 1) := by decide +kernel
theorem dX4_firstOf_6 : decode cX4_firstOf 6 = .ok (.getfield 80, 3) := by decide +kernel
theorem dX4_firstOf_9 : decode cX4_firstOf 9 = .ok (.if_icmp .ge 41, 3) := by decide +kernel
theorem dX4_firstOf_12 : decode cX4_firstOf 12 = .ok (.aload_n 0, 1) := by decide +kernel
theorem dX4_firstOf_13 : decode cX4_firstOf 13 = .ok (.getfield 37, 3) := by decide +kernel
theorem dX4_firstOf_16 : decode cX4_firstOf 16 = .ok (.iload_n 3, 1) := by decide +kernel
theorem dX4_firstOf_17 : decode cX4_firstOf 17 = .ok (.iaload, 1) := by decide +kernel
theorem dX4_firstOf_18 : decode cX4_firstOf 18 = .ok (.iload_n 1, 1) := by decide +kernel
theorem dX4_firstOf_19 : decode cX4_firstOf 19 = .ok (.if_icmp .ne 25, 3) := by decide +kernel
theorem dX4_firstOf_22 : decode cX4_firstOf 22 = .ok (.iload_n 2, 1) := by decide +kernel
theorem dX4_firstOf_23 : decode cX4_firstOf 23 = .ok (.iconst (-1), 1) := by decide +kernel
theorem dX4_firstOf_24 : decode cX4_firstOf 24 = .ok (.if_icmp .eq 18, 3) := by decide +kernel
theorem dX4_firstOf_27 : decode cX4_firstOf 27 = .ok (.aload_n 0, 1) := by decide +kernel
theorem dX4_firstOf_28 : decode cX4_firstOf 28 = .ok (.getfield 43, 3) := by decide +kernel
theorem dX4_firstOf_31 : decode cX4_firstOf 31 = .ok (.iload_n 3, 1) := by decide +kernel
theorem dX4_firstOf_32 : decode cX4_firstOf 32 = .ok (.iaload, 1) := by decide +kernel
theorem dX4_firstOf_33 : decode cX4_firstOf 33 = .ok (.aload_n 0, 1) := by decide +kernel
theorem dX4_firstOf_34 : decode cX4_firstOf 34 = .ok (.getfield 43, 3) := by decide +kernel
theorem dX4_firstOf_37 : decode cX4_firstOf 37 = .ok (.iload_n 2, 1) := by decide +kernel
theorem dX4_firstOf_38 : decode cX4_firstOf 38 = .ok (.iaload, 1) := by decide +kernel
theorem dX4_firstOf_39 : decode cX4_firstOf 39 = .ok (.if_icmp .ge 5, 3) := by decide +kernel
theorem dX4_firstOf_42 : decode cX4_firstOf 42 = .ok (.iload_n 3, 1) := by decide +kernel
theorem dX4_firstOf_43 : decode cX4_firstOf 43 = .ok (.istore_n 2, 1) := by decide +kernel
theorem dX4_firstOf_44 : decode cX4_firstOf 44 = .ok (.iinc 3 1, 3) := by decide +kernel
theorem dX4_firstOf_47 : decode cX4_firstOf 47 = .ok (.goto (-43), 3) := by decide +kernel
theorem dX4_firstOf_50 : decode cX4_firstOf 50 = .ok (.iload_n 2, 1) := by decide +kernel
theorem dX4_firstOf_51 : decode cX4_firstOf 51 = .ok (.ireturn, 1) := by decide +kernel
theorem dX4_fail_0 : decode cX4_fail 0 = .ok (.aload_n 0, 1) := by decide +kernel
theorem dX4_fail_1 : decode cX4_fail 1 = .ok (.iconst 0, 1) := by decide +kernel
theorem dX4_fail_2 : decode cX4_fail 2 = .ok (.putfield 65, 3) := by decide +kernel
theorem dX4_fail_5 : decode cX4_fail 5 = .ok (.aload_n 0, 1) := by decide +kernel
theorem dX4_fail_6 : decode cX4_fail 6 = .ok (.iload_n 1, 1) := by decide +kernel
theorem dX4_fail_7 : decode cX4_fail 7 = .ok (.invokevirtual 86, 3) := by decide +kernel
theorem dX4_fail_10 : decode cX4_fail 10 = .ok (.ifCond .ne 9, 3) := by decide +kernel
theorem dX4_fail_13 : decode cX4_fail 13 = .ok (.aload_n 0, 1) := by decide +kernel
theorem dX4_fail_14 : decode cX4_fail 14 = .ok (.iconst 1, 1) := by decide +kernel
theorem dX4_fail_15 : decode cX4_fail 15 = .ok (.invokevirtual 76, 3) := by decide +kernel
theorem dX4_fail_18 : decode cX4_fail 18 = .ok (.ireturn, 1) := by decide +kernel
theorem dX4_fail_19 : decode cX4_fail 19 = .ok (.iload_n 2, 1) := by decide +kernel
theorem dX4_fail_20 : decode cX4_fail 20 = .ok (.iconst 1, 1) := by decide +kernel
theorem dX4_fail_21 : decode cX4_fail 21 = .ok (.bipush 20, 2) := by decide +kernel
theorem dX4_fail_23 : decode cX4_fail 23 = .ok (.invokestatic 71, 3) := by decide +kernel
theorem dX4_fail_26 : decode cX4_fail 26 = .ok (.ifCond .ne 9, 3) := by decide +kernel
theorem dX4_fail_29 : decode cX4_fail 29 = .ok (.aload_n 0, 1) := by decide +kernel
theorem dX4_fail_30 : decode cX4_fail 30 = .ok (.iconst 2, 1) := by decide +kernel
theorem dX4_fail_31 : decode cX4_fail 31 = .ok (.invokevirtual 76, 3) := by decide +kernel
theorem dX4_fail_34 : decode cX4_fail 34 = .ok (.ireturn, 1) := by decide +kernel
theorem dX4_fail_35 : decode cX4_fail 35 = .ok (.aload_n 0, 1) := by decide +kernel
theorem dX4_fail_36 : decode cX4_fail 36 = .ok (.iload_n 1, 1) := by decide +kernel
theorem dX4_fail_37 : decode cX4_fail 37 = .ok (.invokevirtual 90, 3) := by decide +kernel
theorem dX4_fail_40 : decode cX4_fail 40 = .ok (.ifCond .eq 11, 3) := by decide +kernel
theorem dX4_fail_43 : decode cX4_fail 43 = .ok (.aload_n 0, 1) := by decide +kernel
theorem dX4_fail_44 : decode cX4_fail 44 = .ok (.getfield 46, 3) := by decide +kernel
theorem dX4_fail_47 : decode cX4_fail 47 = .ok (.iconst (-1), 1) := by decide +kernel
theorem dX4_fail_48 : decode cX4_fail 48 = .ok (.if_icmp .eq 9, 3) := by decide +kernel
theorem dX4_fail_51 : decode cX4_fail 51 = .ok (.aload_n 0, 1) := by decide +kernel
theorem dX4_fail_52 : decode cX4_fail 52 = .ok (.iconst 3, 1) := by decide +kernel
theorem dX4_fail_53 : decode cX4_fail 53 = .ok (.invokevirtual 76, 3) := by decide +kernel
theorem dX4_fail_56 : decode cX4_fail 56 = .ok (.ireturn, 1) := by decide +kernel
theorem dX4_fail_57 : decode cX4_fail 57 = .ok (.aload_n 0, 1) := by decide +kernel
theorem dX4_fail_58 : decode cX4_fail 58 = .ok (.getfield 25, 3) := by decide +kernel
theorem dX4_fail_61 : decode cX4_fail 61 = .ok (.iload_n 1, 1) := by decide +kernel
theorem dX4_fail_62 : decode cX4_fail 62 = .ok (.iconst 2, 1) := by decide +kernel
theorem dX4_fail_63 : decode cX4_fail 63 = .ok (.iastore, 1) := by decide +kernel
theorem dX4_fail_64 : decode cX4_fail 64 = .ok (.aload_n 0, 1) := by decide +kernel
theorem dX4_fail_65 : decode cX4_fail 65 = .ok (.iload_n 1, 1) := by decide +kernel
theorem dX4_fail_66 : decode cX4_fail 66 = .ok (.putfield 46, 3) := by decide +kernel
theorem dX4_fail_69 : decode cX4_fail 69 = .ok (.aload_n 0, 1) := by decide +kernel
theorem dX4_fail_70 : decode cX4_fail 70 = .ok (.iload_n 2, 1) := by decide +kernel
theorem dX4_fail_71 : decode cX4_fail 71 = .ok (.putfield 107, 3) := by decide +kernel
theorem dX4_fail_74 : decode cX4_fail 74 = .ok (.aload_n 0, 1) := by decide +kernel
theorem dX4_fail_75 : decode cX4_fail 75 = .ok (.iload_n 1, 1) := by decide +kernel
theorem dX4_fail_76 : decode cX4_fail 76 = .ok (.invokevirtual 110, 3) := by decide +kernel
theorem dX4_fail_79 : decode cX4_fail 79 = .ok (.istore_n 3, 1) := by decide +kernel
theorem dX4_fail_80 : decode cX4_fail 80 = .ok (.iload_n 3, 1) := by decide +kernel
theorem dX4_fail_81 : decode cX4_fail 81 = .ok (.iconst (-1), 1) := by decide +kernel
theorem dX4_fail_82 : decode cX4_fail 82 = .ok (.if_icmp .eq 77, 3) := by decide +kernel
theorem dX4_fail_85 : decode cX4_fail 85 = .ok (.aload_n 0, 1) := by decide +kernel
theorem dX4_fail_86 : decode cX4_fail 86 = .ok (.getfield 37, 3) := by decide +kernel
theorem dX4_fail_89 : decode cX4_fail 89 = .ok (.iload_n 3, 1) := by decide +kernel
theorem dX4_fail_90 : decode cX4_fail 90 = .ok (.aload_n 0, 1) := by decide +kernel
theorem dX4_fail_91 : decode cX4_fail 91 = .ok (.aload_n 0, 1) := by decide +kernel
theorem dX4_fail_92 : decode cX4_fail 92 = .ok (.getfield 40, 3) := by decide +kernel
theorem dX4_fail_95 : decode cX4_fail 95 = .ok (.iload_n 3, 1) := by decide +kernel
theorem dX4_fail_96 : decode cX4_fail 96 = .ok (.iaload, 1) := by decide +kernel
theorem dX4_fail_97 : decode cX4_fail 97 = .ok (.invokevirtual 113, 3) := by decide +kernel
theorem dX4_fail_100 : decode cX4_fail 100 = .ok (.iastore, 1) := by decide +kernel
theorem dX4_fail_101 : decode cX4_fail 101 = .ok (.aload_n 0, 1) := by decide +kernel
theorem dX4_fail_102 : decode cX4_fail 102 = .ok (.getfield 43, 3) := by decide +kernel
theorem dX4_fail_105 : decode cX4_fail 105 = .ok (.iload_n 3, 1) := by decide +kernel
theorem dX4_fail_106 : decode cX4_fail 106 = .ok (.aload_n 0, 1) := by decide +kernel
theorem dX4_fail_107 : decode cX4_fail 107 = .ok (.getfield 96, 3) := by decide +kernel
theorem dX4_fail_110 : decode cX4_fail 110 = .ok (.iastore, 1) := by decide +kernel
theorem dX4_fail_111 : decode cX4_fail 111 = .ok (.aload_n 0, 1) := by decide +kernel
theorem dX4_fail_112 : decode cX4_fail 112 = .ok (.dup, 1) := by decide +kernel
theorem dX4_fail_113 : decode cX4_fail 113 = .ok (.getfield 96, 3) := by decide +kernel
theorem dX4_fail_116 : decode cX4_fail 116 = .ok (.iconst 1, 1) := by decide +kernel
theorem dX4_fail_117 : decode cX4_fail 117 = .ok (.iadd, 1) := by decide +kernel
theorem dX4_fail_118 : decode cX4_fail 118 = .ok (.putfield 96, 3) := by decide +kernel
theorem dX4_fail_121 : decode cX4_fail 121 = .ok (.aload_n 0, 1) := by decide +kernel
theorem dX4_fail_122 : decode cX4_fail 122 = .ok (.dup, 1) := by decide +kernel
theorem dX4_fail_123 : decode cX4_fail 123 = .ok (.getfield 107, 3) := by decide +kernel
theorem dX4_fail_126 : decode cX4_fail 126 = .ok (.aload_n 0, 1) := by decide +kernel
theorem dX4_fail_127 : decode cX4_fail 127 = .ok (.getfield 37, 3) := by decide +kernel
theorem dX4_fail_130 : decode cX4_fail 130 = .ok (.iload_n 3, 1) := by decide +kernel
theorem dX4_fail_131 : decode cX4_fail 131 = .ok (.iaload, 1) := by decide +kernel
theorem dX4_fail_132 : decode cX4_fail 132 = .ok (.iconst (-1), 1) := by decide +kernel
theorem dX4_fail_133 : decode cX4_fail 133 = .ok (.if_icmp .ne 12, 3) := by decide +kernel
theorem dX4_fail_136 : decode cX4_fail 136 = .ok (.aload_n 0, 1) := by decide +kernel
theorem dX4_fail_137 : decode cX4_fail 137 = .ok (.getfield 40, 3) := by decide +kernel
theorem dX4_fail_140 : decode cX4_fail 140 = .ok (.iload_n 3, 1) := by decide +kernel
theorem dX4_fail_141 : decode cX4_fail 141 = .ok (.iaload, 1) := by decide +kernel
theorem dX4_fail_142 : decode cX4_fail 142 = .ok (.goto 4, 3) := by decide +kernel
theorem dX4_fail_145 : decode cX4_fail 145 = .ok (.iconst 0, 1) := by decide +kernel
theorem dX4_fail_146 : decode cX4_fail 146 = .ok (.iadd, 1) := by decide +kernel
theorem dX4_fail_147 : decode cX4_fail 147 = .ok (.putfield 107, 3) := by decide +kernel
theorem dX4_fail_150 : decode cX4_fail 150 = .ok (.aload_n 0, 1) := by decide +kernel
theorem dX4_fail_151 : decode cX4_fail 151 = .ok (.iload_n 1, 1) := by decide +kernel
theorem dX4_fail_152 : decode cX4_fail 152 = .ok (.invokevirtual 110, 3) := by decide +kernel
theorem dX4_fail_155 : decode cX4_fail 155 = .ok (.istore_n 3, 1) := by decide +kernel
theorem dX4_fail_156 : decode cX4_fail 156 = .ok (.goto (-76), 3) := by decide +kernel
theorem dX4_fail_159 : decode cX4_fail 159 = .ok (.iconst 0, 1) := by decide +kernel
theorem dX4_fail_160 : decode cX4_fail 160 = .ok (.istore 4, 2) := by decide +kernel
theorem dX4_fail_162 : decode cX4_fail 162 = .ok (.iload 4, 2) := by decide +kernel
theorem dX4_fail_164 : decode cX4_fail 164 = .ok (.bipush 10, 2) := by decide +kernel
theorem dX4_fail_166 : decode cX4_fail 166 = .ok (.if_icmp .ge 36, 3) := by decide +kernel
theorem dX4_fail_169 : decode cX4_fail 169 = .ok (.aload_n 0, 1) := by decide +kernel
theorem dX4_fail_170 : decode cX4_fail 170 = .ok (.getfield 53, 3) := by decide +kernel
theorem dX4_fail_173 : decode cX4_fail 173 = .ok (.iload 4, 2) := by decide +kernel
theorem dX4_fail_175 : decode cX4_fail 175 = .ok (.iload 4, 2) := by decide +kernel
theorem dX4_fail_177 : decode cX4_fail 177 = .ok (.aload_n 0, 1) := by decide +kernel
theorem dX4_fail_178 : decode cX4_fail 178 = .ok (.getfield 68, 3) := by decide +kernel
theorem dX4_fail_181 : decode cX4_fail 181 = .ok (.if_icmp .ge 13, 3) := by decide +kernel
theorem dX4_fail_184 : decode cX4_fail 184 = .ok (.aload_n 0, 1) := by decide +kernel
theorem dX4_fail_185 : decode cX4_fail 185 = .ok (.getfield 13, 3) := by decide +kernel
theorem dX4_fail_188 : decode cX4_fail 188 = .ok (.iload 4, 2) := by decide +kernel
theorem dX4_fail_190 : decode cX4_fail 190 = .ok (.iaload, 1) := by decide +kernel
theorem dX4_fail_191 : decode cX4_fail 191 = .ok (.goto 4, 3) := by decide +kernel
theorem dX4_fail_194 : decode cX4_fail 194 = .ok (.iconst 0, 1) := by decide +kernel
theorem dX4_fail_195 : decode cX4_fail 195 = .ok (.iastore, 1) := by decide +kernel
theorem dX4_fail_196 : decode cX4_fail 196 = .ok (.iinc 4 1, 3) := by decide +kernel
theorem dX4_fail_199 : decode cX4_fail 199 = .ok (.goto (-37), 3) := by decide +kernel
theorem dX4_fail_202 : decode cX4_fail 202 = .ok (.iconst 0, 1) := by decide +kernel
theorem dX4_fail_203 : decode cX4_fail 203 = .ok (.istore 4, 2) := by decide +kernel
theorem dX4_fail_205 : decode cX4_fail 205 = .ok (.iload 4, 2) := by decide +kernel
theorem dX4_fail_207 : decode cX4_fail 207 = .ok (.bipush 10, 2) := by decide +kernel
theorem dX4_fail_209 : decode cX4_fail 209 = .ok (.aload_n 0, 1) := by decide +kernel
theorem dX4_fail_210 : decode cX4_fail 210 = .ok (.getfield 107, 3) := by decide +kernel
theorem dX4_fail_213 : decode cX4_fail 213 = .ok (.imul, 1) := by decide +kernel
theorem dX4_fail_214 : decode cX4_fail 214 = .ok (.if_icmp .ge 19, 3) := by decide +kernel
theorem dX4_fail_217 : decode cX4_fail 217 = .ok (.aload_n 0, 1) := by decide +kernel
theorem dX4_fail_218 : decode cX4_fail 218 = .ok (.getfield 50, 3) := by decide +kernel
theorem dX4_fail_221 : decode cX4_fail 221 = .ok (.iload 4, 2) := by decide +kernel
theorem dX4_fail_223 : decode cX4_fail 223 = .ok (.sipush 5000, 3) := by decide +kernel
theorem dX4_fail_226 : decode cX4_fail 226 = .ok (.iastore, 1) := by decide +kernel
theorem dX4_fail_227 : decode cX4_fail 227 = .ok (.iinc 4 1, 3) := by decide +kernel
theorem dX4_fail_230 : decode cX4_fail 230 = .ok (.goto (-25), 3) := by decide +kernel
theorem dX4_fail_233 : decode cX4_fail 233 = .ok (.aload_n 0, 1) := by decide +kernel
theorem dX4_fail_234 : decode cX4_fail 234 = .ok (.getfield 107, 3) := by decide +kernel
theorem dX4_fail_237 : decode cX4_fail 237 = .ok (.ireturn, 1) := by decide +kernel
theorem dX4_bid_0 : decode cX4_bid 0 = .ok (.aload_n 0, 1) := by decide +kernel
theorem dX4_bid_1 : decode cX4_bid 1 = .ok (.iconst 0, 1) := by decide +kernel
theorem dX4_bid_2 : decode cX4_bid 2 = .ok (.putfield 65, 3) := by decide +kernel
theorem dX4_bid_5 : decode cX4_bid 5 = .ok (.aload_n 0, 1) := by decide +kernel
theorem dX4_bid_6 : decode cX4_bid 6 = .ok (.iload_n 1, 1) := by decide +kernel
theorem dX4_bid_7 : decode cX4_bid 7 = .ok (.invokevirtual 86, 3) := by decide +kernel
theorem dX4_bid_10 : decode cX4_bid 10 = .ok (.ifCond .eq 25, 3) := by decide +kernel
theorem dX4_bid_13 : decode cX4_bid 13 = .ok (.aload_n 0, 1) := by decide +kernel
theorem dX4_bid_14 : decode cX4_bid 14 = .ok (.getfield 46, 3) := by decide +kernel
theorem dX4_bid_17 : decode cX4_bid 17 = .ok (.iconst (-1), 1) := by decide +kernel
theorem dX4_bid_18 : decode cX4_bid 18 = .ok (.if_icmp .eq 17, 3) := by decide +kernel
theorem dX4_bid_21 : decode cX4_bid 21 = .ok (.iload_n 2, 1) := by decide +kernel
theorem dX4_bid_22 : decode cX4_bid 22 = .ok (.iconst 0, 1) := by decide +kernel
theorem dX4_bid_23 : decode cX4_bid 23 = .ok (.aload_n 0, 1) := by decide +kernel
theorem dX4_bid_24 : decode cX4_bid 24 = .ok (.getfield 107, 3) := by decide +kernel
theorem dX4_bid_27 : decode cX4_bid 27 = .ok (.iconst 1, 1) := by decide +kernel
theorem dX4_bid_28 : decode cX4_bid 28 = .ok (.isub, 1) := by decide +kernel
theorem dX4_bid_29 : decode cX4_bid 29 = .ok (.invokestatic 71, 3) := by decide +kernel
theorem dX4_bid_32 : decode cX4_bid 32 = .ok (.ifCond .ne 10, 3) := by decide +kernel
theorem dX4_bid_35 : decode cX4_bid 35 = .ok (.aload_n 0, 1) := by decide +kernel
theorem dX4_bid_36 : decode cX4_bid 36 = .ok (.iconst 1, 1) := by decide +kernel
theorem dX4_bid_37 : decode cX4_bid 37 = .ok (.invokevirtual 76, 3) := by decide +kernel
theorem dX4_bid_40 : decode cX4_bid 40 = .ok (.pop, 1) := by decide +kernel
theorem dX4_bid_41 : decode cX4_bid 41 = .ok (.return_, 1) := by decide +kernel
theorem dX4_bid_42 : decode cX4_bid 42 = .ok (.iload_n 3, 1) := by decide +kernel
theorem dX4_bid_43 : decode cX4_bid 43 = .ok (.sipush (-1000), 3) := by decide +kernel
theorem dX4_bid_46 : decode cX4_bid 46 = .ok (.sipush 1000, 3) := by decide +kernel
theorem dX4_bid_49 : decode cX4_bid 49 = .ok (.invokestatic 71, 3) := by decide +kernel
theorem dX4_bid_52 : decode cX4_bid 52 = .ok (.ifCond .ne 10, 3) := by decide +kernel
theorem dX4_bid_55 : decode cX4_bid 55 = .ok (.aload_n 0, 1) := by decide +kernel
theorem dX4_bid_56 : decode cX4_bid 56 = .ok (.iconst 2, 1) := by decide +kernel
theorem dX4_bid_57 : decode cX4_bid 57 = .ok (.invokevirtual 76, 3) := by decide +kernel
theorem dX4_bid_60 : decode cX4_bid 60 = .ok (.pop, 1) := by decide +kernel
theorem dX4_bid_61 : decode cX4_bid 61 = .ok (.return_, 1) := by decide +kernel
theorem dX4_bid_62 : decode cX4_bid 62 = .ok (.aload_n 0, 1) := by decide +kernel
theorem dX4_bid_63 : decode cX4_bid 63 = .ok (.iload_n 1, 1) := by decide +kernel
theorem dX4_bid_64 : decode cX4_bid 64 = .ok (.invokevirtual 90, 3) := by decide +kernel
theorem dX4_bid_67 : decode cX4_bid 67 = .ok (.ifCond .eq 20, 3) := by decide +kernel
theorem dX4_bid_70 : decode cX4_bid 70 = .ok (.aload_n 0, 1) := by decide +kernel
theorem dX4_bid_71 : decode cX4_bid 71 = .ok (.getfield 50, 3) := by decide +kernel
theorem dX4_bid_74 : decode cX4_bid 74 = .ok (.bipush 10, 2) := by decide +kernel
theorem dX4_bid_76 : decode cX4_bid 76 = .ok (.iload_n 2, 1) := by decide +kernel
theorem dX4_bid_77 : decode cX4_bid 77 = .ok (.imul, 1) := by decide +kernel
theorem dX4_bid_78 : decode cX4_bid 78 = .ok (.iload_n 1, 1) := by decide +kernel
theorem dX4_bid_79 : decode cX4_bid 79 = .ok (.iadd, 1) := by decide +kernel
theorem dX4_bid_80 : decode cX4_bid 80 = .ok (.iaload, 1) := by decide +kernel
theorem dX4_bid_81 : decode cX4_bid 81 = .ok (.sipush 5000, 3) := by decide +kernel
theorem dX4_bid_84 : decode cX4_bid 84 = .ok (.if_icmp .eq 10, 3) := by decide +kernel
theorem dX4_bid_87 : decode cX4_bid 87 = .ok (.aload_n 0, 1) := by decide +kernel
theorem dX4_bid_88 : decode cX4_bid 88 = .ok (.iconst 3, 1) := by decide +kernel
theorem dX4_bid_89 : decode cX4_bid 89 = .ok (.invokevirtual 76, 3) := by decide +kernel
theorem dX4_bid_92 : decode cX4_bid 92 = .ok (.pop, 1) := by decide +kernel
theorem dX4_bid_93 : decode cX4_bid 93 = .ok (.return_, 1) := by decide +kernel
theorem dX4_bid_94 : decode cX4_bid 94 = .ok (.aload_n 0, 1) := by decide +kernel
theorem dX4_bid_95 : decode cX4_bid 95 = .ok (.getfield 50, 3) := by decide +kernel
theorem dX4_bid_98 : decode cX4_bid 98 = .ok (.bipush 10, 2) := by decide +kernel
theorem dX4_bid_100 : decode cX4_bid 100 = .ok (.iload_n 2, 1) := by decide +kernel
theorem dX4_bid_101 : decode cX4_bid 101 = .ok (.imul, 1) := by decide +kernel
theorem dX4_bid_102 : decode cX4_bid 102 = .ok (.iload_n 1, 1) := by decide +kernel
theorem dX4_bid_103 : decode cX4_bid 103 = .ok (.iadd, 1) := by decide +kernel
theorem dX4_bid_104 : decode cX4_bid 104 = .ok (.iload_n 3, 1) := by decide +kernel
theorem dX4_bid_105 : decode cX4_bid 105 = .ok (.iastore, 1) := by decide +kernel
theorem dX4_bid_106 : decode cX4_bid 106 = .ok (.return_, 1) := by decide +kernel
theorem dX4_winner_0 : decode cX4_winner 0 = .ok (.iconst (-1), 1) := by decide +kernel
theorem dX4_winner_1 : decode cX4_winner 1 = .ok (.istore_n 2, 1) := by decide +kernel
theorem dX4_winner_2 : decode cX4_winner 2 = .ok (.iconst 0, 1) := by decide +kernel
theorem dX4_winner_3 : decode cX4_winner 3 = .ok (.istore_n 3, 1) := by decide +kernel
theorem dX4_winner_4 : decode cX4_winner 4 = .ok (.iload_n 3, 1) := by decide +kernel
theorem dX4_winner_5 : decode cX4_winner 5 = .ok (.aload_n 0, 1) := by decide +kernel
theorem dX4_winner_6 : decode cX4_winner 6 = .ok (.getfield 68, 3) := by decide +kernel
theorem dX4_winner_9 : decode cX4_winner 9 = .ok (.if_icmp .ge 53, 3) := by decide +kernel
theorem dX4_winner_12 : decode cX4_winner 12 = .ok (.aload_n 0, 1) := by decide +kernel
theorem dX4_winner_13 : decode cX4_winner 13 = .ok (.getfield 50, 3) := by decide +kernel
theorem dX4_winner_16 : decode cX4_winner 16 = .ok (.bipush 10, 2) := by decide +kernel
theorem dX4_winner_18 : decode cX4_winner 18 = .ok (.iload_n 1, 1) := by decide +kernel
theorem dX4_winner_19 : decode cX4_winner 19 = .ok (.imul, 1) := by decide +kernel
theorem dX4_winner_20 : decode cX4_winner 20 = .ok (.iload_n 3, 1) := by decide +kernel
theorem dX4_winner_21 : decode cX4_winner 21 = .ok (.iadd, 1) := by decide +kernel
theorem dX4_winner_22 : decode cX4_winner 22 = .ok (.iaload, 1) := by decide +kernel
theorem dX4_winner_23 : decode cX4_winner 23 = .ok (.istore 4, 2) := by decide +kernel
theorem dX4_winner_25 : decode cX4_winner 25 = .ok (.iload 4, 2) := by decide +kernel
theorem dX4_winner_27 : decode cX4_winner 27 = .ok (.sipush 5000, 3) := by decide +kernel
theorem dX4_winner_30 : decode cX4_winner 30 = .ok (.if_icmp .eq 26, 3) := by decide +kernel
theorem dX4_winner_33 : decode cX4_winner 33 = .ok (.iload_n 2, 1) := by decide +kernel
theorem dX4_winner_34 : decode cX4_winner 34 = .ok (.iconst (-1), 1) := by decide +kernel
theorem dX4_winner_35 : decode cX4_winner 35 = .ok (.if_icmp .eq 19, 3) := by decide +kernel
theorem dX4_winner_38 : decode cX4_winner 38 = .ok (.iload 4, 2) := by decide +kernel
theorem dX4_winner_40 : decode cX4_winner 40 = .ok (.aload_n 0, 1) := by decide +kernel
theorem dX4_winner_41 : decode cX4_winner 41 = .ok (.getfield 50, 3) := by decide +kernel
theorem dX4_winner_44 : decode cX4_winner 44 = .ok (.bipush 10, 2) := by decide +kernel
theorem dX4_winner_46 : decode cX4_winner 46 = .ok (.iload_n 1, 1) := by decide +kernel
theorem dX4_winner_47 : decode cX4_winner 47 = .ok (.imul, 1) := by decide +kernel
theorem dX4_winner_48 : decode cX4_winner 48 = .ok (.iload_n 2, 1) := by decide +kernel
theorem dX4_winner_49 : decode cX4_winner 49 = .ok (.iadd, 1) := by decide +kernel
theorem dX4_winner_50 : decode cX4_winner 50 = .ok (.iaload, 1) := by decide +kernel
theorem dX4_winner_51 : decode cX4_winner 51 = .ok (.if_icmp .le 5, 3) := by decide +kernel
theorem dX4_winner_54 : decode cX4_winner 54 = .ok (.iload_n 3, 1) := by decide +kernel
theorem dX4_winner_55 : decode cX4_winner 55 = .ok (.istore_n 2, 1) := by decide +kernel
theorem dX4_winner_56 : decode cX4_winner 56 = .ok (.iinc 3 1, 3) := by decide +kernel
theorem dX4_winner_59 : decode cX4_winner 59 = .ok (.goto (-55), 3) := by decide +kernel
theorem dX4_winner_62 : decode cX4_winner 62 = .ok (.iload_n 2, 1) := by decide +kernel
theorem dX4_winner_63 : decode cX4_winner 63 = .ok (.ireturn, 1) := by decide +kernel
theorem dX4_rank_0 : decode cX4_rank 0 = .ok (.iconst 0, 1) := by decide +kernel
theorem dX4_rank_1 : decode cX4_rank 1 = .ok (.istore_n 2, 1) := by decide +kernel
theorem dX4_rank_2 : decode cX4_rank 2 = .ok (.iconst 0, 1) := by decide +kernel
theorem dX4_rank_3 : decode cX4_rank 3 = .ok (.istore_n 3, 1) := by decide +kernel
theorem dX4_rank_4 : decode cX4_rank 4 = .ok (.iconst 0, 1) := by decide +kernel
theorem dX4_rank_5 : decode cX4_rank 5 = .ok (.istore 4, 2) := by decide +kernel
theorem dX4_rank_7 : decode cX4_rank 7 = .ok (.iload 4, 2) := by decide +kernel
theorem dX4_rank_9 : decode cX4_rank 9 = .ok (.aload_n 0, 1) := by decide +kernel
theorem dX4_rank_10 : decode cX4_rank 10 = .ok (.getfield 107, 3) := by decide +kernel
theorem dX4_rank_13 : decode cX4_rank 13 = .ok (.if_icmp .ge 67, 3) := by decide +kernel
theorem dX4_rank_16 : decode cX4_rank 16 = .ok (.aload_n 0, 1) := by decide +kernel
theorem dX4_rank_17 : decode cX4_rank 17 = .ok (.getfield 50, 3) := by decide +kernel
theorem dX4_rank_20 : decode cX4_rank 20 = .ok (.bipush 10, 2) := by decide +kernel
theorem dX4_rank_22 : decode cX4_rank 22 = .ok (.iload 4, 2) := by decide +kernel
theorem dX4_rank_24 : decode cX4_rank 24 = .ok (.imul, 1) := by decide +kernel
theorem dX4_rank_25 : decode cX4_rank 25 = .ok (.iload_n 1, 1) := by decide +kernel
theorem dX4_rank_26 : decode cX4_rank 26 = .ok (.iadd, 1) := by decide +kernel
theorem dX4_rank_27 : decode cX4_rank 27 = .ok (.iaload, 1) := by decide +kernel
theorem dX4_rank_28 : decode cX4_rank 28 = .ok (.istore 5, 2) := by decide +kernel
theorem dX4_rank_30 : decode cX4_rank 30 = .ok (.iload 5, 2) := by decide +kernel
theorem dX4_rank_32 : decode cX4_rank 32 = .ok (.sipush 5000, 3) := by decide +kernel
theorem dX4_rank_35 : decode cX4_rank 35 = .ok (.if_icmp .eq 39, 3) := by decide +kernel
theorem dX4_rank_38 : decode cX4_rank 38 = .ok (.iinc 2 1, 3) := by decide +kernel
theorem dX4_rank_41 : decode cX4_rank 41 = .ok (.iload_n 3, 1) := by decide +kernel
theorem dX4_rank_42 : decode cX4_rank 42 = .ok (.aload_n 0, 1) := by decide +kernel
theorem dX4_rank_43 : decode cX4_rank 43 = .ok (.getfield 50, 3) := by decide +kernel
theorem dX4_rank_46 : decode cX4_rank 46 = .ok (.bipush 10, 2) := by decide +kernel
theorem dX4_rank_48 : decode cX4_rank 48 = .ok (.iload 4, 2) := by decide +kernel
theorem dX4_rank_50 : decode cX4_rank 50 = .ok (.imul, 1) := by decide +kernel
theorem dX4_rank_51 : decode cX4_rank 51 = .ok (.aload_n 0, 1) := by decide +kernel
theorem dX4_rank_52 : decode cX4_rank 52 = .ok (.iload 4, 2) := by decide +kernel
theorem dX4_rank_54 : decode cX4_rank 54 = .ok (.invokevirtual 116, 3) := by decide +kernel
theorem dX4_rank_57 : decode cX4_rank 57 = .ok (.iadd, 1) := by decide +kernel
theorem dX4_rank_58 : decode cX4_rank 58 = .ok (.iaload, 1) := by decide +kernel
theorem dX4_rank_59 : decode cX4_rank 59 = .ok (.iload 5, 2) := by decide +kernel
theorem dX4_rank_61 : decode cX4_rank 61 = .ok (.isub, 1) := by decide +kernel
theorem dX4_rank_62 : decode cX4_rank 62 = .ok (.bipush 100, 2) := by decide +kernel
theorem dX4_rank_64 : decode cX4_rank 64 = .ok (.if_icmp .le 7, 3) := by decide +kernel
theorem dX4_rank_67 : decode cX4_rank 67 = .ok (.iconst 1, 1) := by decide +kernel
theorem dX4_rank_68 : decode cX4_rank 68 = .ok (.goto 4, 3) := by decide +kernel
theorem dX4_rank_71 : decode cX4_rank 71 = .ok (.iconst 0, 1) := by decide +kernel
theorem dX4_rank_72 : decode cX4_rank 72 = .ok (.iadd, 1) := by decide +kernel
theorem dX4_rank_73 : decode cX4_rank 73 = .ok (.istore_n 3, 1) := by decide +kernel
theorem dX4_rank_74 : decode cX4_rank 74 = .ok (.iinc 4 1, 3) := by decide +kernel
theorem dX4_rank_77 : decode cX4_rank 77 = .ok (.goto (-70), 3) := by decide +kernel
theorem dX4_rank_80 : decode cX4_rank 80 = .ok (.aload_n 0, 1) := by decide +kernel
theorem dX4_rank_81 : decode cX4_rank 81 = .ok (.getfield 28, 3) := by decide +kernel
theorem dX4_rank_84 : decode cX4_rank 84 = .ok (.iload_n 1, 1) := by decide +kernel
theorem dX4_rank_85 : decode cX4_rank 85 = .ok (.iconst 2, 1) := by decide +kernel
theorem dX4_rank_86 : decode cX4_rank 86 = .ok (.iload_n 2, 1) := by decide +kernel
theorem dX4_rank_87 : decode cX4_rank 87 = .ok (.imul, 1) := by decide +kernel
theorem dX4_rank_88 : decode cX4_rank 88 = .ok (.aload_n 0, 1) := by decide +kernel
theorem dX4_rank_89 : decode cX4_rank 89 = .ok (.getfield 107, 3) := by decide +kernel
theorem dX4_rank_92 : decode cX4_rank 92 = .ok (.if_icmp .lt 10, 3) := by decide +kernel
theorem dX4_rank_95 : decode cX4_rank 95 = .ok (.iconst 2, 1) := by decide +kernel
theorem dX4_rank_96 : decode cX4_rank 96 = .ok (.iload_n 3, 1) := by decide +kernel
theorem dX4_rank_97 : decode cX4_rank 97 = .ok (.imul, 1) := by decide +kernel
theorem dX4_rank_98 : decode cX4_rank 98 = .ok (.iload_n 2, 1) := by decide +kernel
theorem dX4_rank_99 : decode cX4_rank 99 = .ok (.if_icmp .le 7, 3) := by decide +kernel
theorem dX4_rank_102 : decode cX4_rank 102 = .ok (.iconst 1, 1) := by decide +kernel
theorem dX4_rank_103 : decode cX4_rank 103 = .ok (.goto 4, 3) := by decide +kernel
theorem dX4_rank_106 : decode cX4_rank 106 = .ok (.iconst 0, 1) := by decide +kernel
theorem dX4_rank_107 : decode cX4_rank 107 = .ok (.iastore, 1) := by decide +kernel
theorem dX4_rank_108 : decode cX4_rank 108 = .ok (.return_, 1) := by decide +kernel
theorem dX4_eatShares_0 : decode cX4_eatShares 0 = .ok (.iconst 0, 1) := by decide +kernel
theorem dX4_eatShares_1 : decode cX4_eatShares 1 = .ok (.istore_n 3, 1) := by decide +kernel
theorem dX4_eatShares_2 : decode cX4_eatShares 2 = .ok (.iload_n 3, 1) := by decide +kernel
theorem dX4_eatShares_3 : decode cX4_eatShares 3 = .ok (.aload_n 0, 1) := by decide +kernel
theorem dX4_eatShares_4 : decode cX4_eatShares 4 = .ok (.getfield 68, 3) := by decide +kernel
theorem dX4_eatShares_7 : decode cX4_eatShares 7 = .ok (.if_icmp .ge 55, 3) := by decide +kernel
theorem dX4_eatShares_10 : decode cX4_eatShares 10 = .ok (.aload_n 0, 1) := by decide +kernel
theorem dX4_eatShares_11 : decode cX4_eatShares 11 = .ok (.getfield 56, 3) := by decide +kernel
theorem dX4_eatShares_14 : decode cX4_eatShares 14 = .ok (.iload_n 3, 1) := by decide +kernel
theorem dX4_eatShares_15 : decode cX4_eatShares 15 = .ok (.aload_n 0, 1) := by decide +kernel
theorem dX4_eatShares_16 : decode cX4_eatShares 16 = .ok (.iload_n 3, 1) := by decide +kernel
theorem dX4_eatShares_17 : decode cX4_eatShares 17 = .ok (.invokevirtual 90, 3) := by decide +kernel
theorem dX4_eatShares_20 : decode cX4_eatShares 20 = .ok (.ifCond .eq 22, 3) := by decide +kernel
theorem dX4_eatShares_23 : decode cX4_eatShares 23 = .ok (.aload_n 0, 1) := by decide +kernel
theorem dX4_eatShares_24 : decode cX4_eatShares 24 = .ok (.getfield 28, 3) := by decide +kernel
theorem dX4_eatShares_27 : decode cX4_eatShares 27 = .ok (.iload_n 3, 1) := by decide +kernel
theorem dX4_eatShares_28 : decode cX4_eatShares 28 = .ok (.iaload, 1) := by decide +kernel
theorem dX4_eatShares_29 : decode cX4_eatShares 29 = .ok (.iload_n 2, 1) := by decide +kernel
theorem dX4_eatShares_30 : decode cX4_eatShares 30 = .ok (.if_icmp .ne 12, 3) := by decide +kernel
theorem dX4_eatShares_33 : decode cX4_eatShares 33 = .ok (.aload_n 0, 1) := by decide +kernel
theorem dX4_eatShares_34 : decode cX4_eatShares 34 = .ok (.getfield 13, 3) := by decide +kernel
theorem dX4_eatShares_37 : decode cX4_eatShares 37 = .ok (.iload_n 3, 1) := by decide +kernel
theorem dX4_eatShares_38 : decode cX4_eatShares 38 = .ok (.iaload, 1) := by decide +kernel
theorem dX4_eatShares_39 : decode cX4_eatShares 39 = .ok (.goto 4, 3) := by decide +kernel
theorem dX4_eatShares_42 : decode cX4_eatShares 42 = .ok (.iconst 0, 1) := by decide +kernel
theorem dX4_eatShares_43 : decode cX4_eatShares 43 = .ok (.iastore, 1) := by decide +kernel
theorem dX4_eatShares_44 : decode cX4_eatShares 44 = .ok (.aload_n 0, 1) := by decide +kernel
theorem dX4_eatShares_45 : decode cX4_eatShares 45 = .ok (.getfield 59, 3) := by decide +kernel
theorem dX4_eatShares_48 : decode cX4_eatShares 48 = .ok (.iload_n 3, 1) := by decide +kernel
theorem dX4_eatShares_49 : decode cX4_eatShares 49 = .ok (.aload_n 0, 1) := by decide +kernel
theorem dX4_eatShares_50 : decode cX4_eatShares 50 = .ok (.getfield 56, 3) := by decide +kernel
theorem dX4_eatShares_53 : decode cX4_eatShares 53 = .ok (.iload_n 3, 1) := by decide +kernel
theorem dX4_eatShares_54 : decode cX4_eatShares 54 = .ok (.iaload, 1) := by decide +kernel
theorem dX4_eatShares_55 : decode cX4_eatShares 55 = .ok (.iastore, 1) := by decide +kernel
theorem dX4_eatShares_56 : decode cX4_eatShares 56 = .ok (.iinc 3 1, 3) := by decide +kernel
theorem dX4_eatShares_59 : decode cX4_eatShares 59 = .ok (.goto (-57), 3) := by decide +kernel
theorem dX4_eatShares_62 : decode cX4_eatShares 62 = .ok (.aload_n 0, 1) := by decide +kernel
theorem dX4_eatShares_63 : decode cX4_eatShares 63 = .ok (.iload_n 1, 1) := by decide +kernel
theorem dX4_eatShares_64 : decode cX4_eatShares 64 = .ok (.i2l, 1) := by decide +kernel
theorem dX4_eatShares_65 : decode cX4_eatShares 65 = .ok (.invokevirtual 103, 3) := by decide +kernel
theorem dX4_eatShares_68 : decode cX4_eatShares 68 = .ok (.istore_n 3, 1) := by decide +kernel
theorem dX4_eatShares_69 : decode cX4_eatShares 69 = .ok (.iconst 0, 1) := by decide +kernel
theorem dX4_eatShares_70 : decode cX4_eatShares 70 = .ok (.istore 4, 2) := by decide +kernel
theorem dX4_eatShares_72 : decode cX4_eatShares 72 = .ok (.iload 4, 2) := by decide +kernel
theorem dX4_eatShares_74 : decode cX4_eatShares 74 = .ok (.aload_n 0, 1) := by decide +kernel
theorem dX4_eatShares_75 : decode cX4_eatShares 75 = .ok (.getfield 68, 3) := by decide +kernel
theorem dX4_eatShares_78 : decode cX4_eatShares 78 = .ok (.if_icmp .ge 26, 3) := by decide +kernel
theorem dX4_eatShares_81 : decode cX4_eatShares 81 = .ok (.aload_n 0, 1) := by decide +kernel
theorem dX4_eatShares_82 : decode cX4_eatShares 82 = .ok (.getfield 13, 3) := by decide +kernel
theorem dX4_eatShares_85 : decode cX4_eatShares 85 = .ok (.iload 4, 2) := by decide +kernel
theorem dX4_eatShares_87 : decode cX4_eatShares 87 = .ok (.dup2, 1) := by decide +kernel
theorem dX4_eatShares_88 : decode cX4_eatShares 88 = .ok (.iaload, 1) := by decide +kernel
theorem dX4_eatShares_89 : decode cX4_eatShares 89 = .ok (.aload_n 0, 1) := by decide +kernel
theorem dX4_eatShares_90 : decode cX4_eatShares 90 = .ok (.getfield 62, 3) := by decide +kernel
theorem dX4_eatShares_93 : decode cX4_eatShares 93 = .ok (.iload 4, 2) := by decide +kernel
theorem dX4_eatShares_95 : decode cX4_eatShares 95 = .ok (.iaload, 1) := by decide +kernel
theorem dX4_eatShares_96 : decode cX4_eatShares 96 = .ok (.isub, 1) := by decide +kernel
theorem dX4_eatShares_97 : decode cX4_eatShares 97 = .ok (.iastore, 1) := by decide +kernel
theorem dX4_eatShares_98 : decode cX4_eatShares 98 = .ok (.iinc 4 1, 3) := by decide +kernel
theorem dX4_eatShares_101 : decode cX4_eatShares 101 = .ok (.goto (-29), 3) := by decide +kernel
theorem dX4_eatShares_104 : decode cX4_eatShares 104 = .ok (.iload_n 1, 1) := by decide +kernel
theorem dX4_eatShares_105 : decode cX4_eatShares 105 = .ok (.iload_n 3, 1) := by decide +kernel
theorem dX4_eatShares_106 : decode cX4_eatShares 106 = .ok (.isub, 1) := by decide +kernel
theorem dX4_eatShares_107 : decode cX4_eatShares 107 = .ok (.ireturn, 1) := by decide +kernel
theorem dX4_assess_0 : decode cX4_assess 0 = .ok (.iconst 0, 1) := by decide +kernel
theorem dX4_assess_1 : decode cX4_assess 1 = .ok (.istore_n 2, 1) := by decide +kernel
theorem dX4_assess_2 : decode cX4_assess 2 = .ok (.iload_n 2, 1) := by decide +kernel
theorem dX4_assess_3 : decode cX4_assess 3 = .ok (.aload_n 0, 1) := by decide +kernel
theorem dX4_assess_4 : decode cX4_assess 4 = .ok (.getfield 68, 3) := by decide +kernel
theorem dX4_assess_7 : decode cX4_assess 7 = .ok (.if_icmp .ge 66, 3) := by decide +kernel
theorem dX4_assess_10 : decode cX4_assess 10 = .ok (.aload_n 0, 1) := by decide +kernel
theorem dX4_assess_11 : decode cX4_assess 11 = .ok (.getfield 56, 3) := by decide +kernel
theorem dX4_assess_14 : decode cX4_assess 14 = .ok (.iload_n 2, 1) := by decide +kernel
theorem dX4_assess_15 : decode cX4_assess 15 = .ok (.aload_n 0, 1) := by decide +kernel
theorem dX4_assess_16 : decode cX4_assess 16 = .ok (.iload_n 2, 1) := by decide +kernel
theorem dX4_assess_17 : decode cX4_assess 17 = .ok (.invokevirtual 90, 3) := by decide +kernel
theorem dX4_assess_20 : decode cX4_assess 20 = .ok (.ifCond .eq 12, 3) := by decide +kernel
theorem dX4_assess_23 : decode cX4_assess 23 = .ok (.aload_n 0, 1) := by decide +kernel
theorem dX4_assess_24 : decode cX4_assess 24 = .ok (.getfield 53, 3) := by decide +kernel
theorem dX4_assess_27 : decode cX4_assess 27 = .ok (.iload_n 2, 1) := by decide +kernel
theorem dX4_assess_28 : decode cX4_assess 28 = .ok (.iaload, 1) := by decide +kernel
theorem dX4_assess_29 : decode cX4_assess 29 = .ok (.goto 4, 3) := by decide +kernel
theorem dX4_assess_32 : decode cX4_assess 32 = .ok (.iconst 0, 1) := by decide +kernel
theorem dX4_assess_33 : decode cX4_assess 33 = .ok (.iastore, 1) := by decide +kernel
theorem dX4_assess_34 : decode cX4_assess 34 = .ok (.aload_n 0, 1) := by decide +kernel
theorem dX4_assess_35 : decode cX4_assess 35 = .ok (.getfield 59, 3) := by decide +kernel
theorem dX4_assess_38 : decode cX4_assess 38 = .ok (.iload_n 2, 1) := by decide +kernel
theorem dX4_assess_39 : decode cX4_assess 39 = .ok (.aload_n 0, 1) := by decide +kernel
theorem dX4_assess_40 : decode cX4_assess 40 = .ok (.getfield 25, 3) := by decide +kernel
theorem dX4_assess_43 : decode cX4_assess 43 = .ok (.iload_n 2, 1) := by decide +kernel
theorem dX4_assess_44 : decode cX4_assess 44 = .ok (.iaload, 1) := by decide +kernel
theorem dX4_assess_45 : decode cX4_assess 45 = .ok (.iconst 1, 1) := by decide +kernel
theorem dX4_assess_46 : decode cX4_assess 46 = .ok (.if_icmp .ne 14, 3) := by decide +kernel
theorem dX4_assess_49 : decode cX4_assess 49 = .ok (.aload_n 0, 1) := by decide +kernel
theorem dX4_assess_50 : decode cX4_assess 50 = .ok (.getfield 56, 3) := by decide +kernel
theorem dX4_assess_53 : decode cX4_assess 53 = .ok (.iload_n 2, 1) := by decide +kernel
theorem dX4_assess_54 : decode cX4_assess 54 = .ok (.iaload, 1) := by decide +kernel
theorem dX4_assess_55 : decode cX4_assess 55 = .ok (.iconst 2, 1) := by decide +kernel
theorem dX4_assess_56 : decode cX4_assess 56 = .ok (.idiv, 1) := by decide +kernel
theorem dX4_assess_57 : decode cX4_assess 57 = .ok (.goto 9, 3) := by decide +kernel
theorem dX4_assess_60 : decode cX4_assess 60 = .ok (.aload_n 0, 1) := by decide +kernel
theorem dX4_assess_61 : decode cX4_assess 61 = .ok (.getfield 56, 3) := by decide +kernel
theorem dX4_assess_64 : decode cX4_assess 64 = .ok (.iload_n 2, 1) := by decide +kernel
theorem dX4_assess_65 : decode cX4_assess 65 = .ok (.iaload, 1) := by decide +kernel
theorem dX4_assess_66 : decode cX4_assess 66 = .ok (.iastore, 1) := by decide +kernel
theorem dX4_assess_67 : decode cX4_assess 67 = .ok (.iinc 2 1, 3) := by decide +kernel
theorem dX4_assess_70 : decode cX4_assess 70 = .ok (.goto (-68), 3) := by decide +kernel
theorem dX4_assess_73 : decode cX4_assess 73 = .ok (.aload_n 0, 1) := by decide +kernel
theorem dX4_assess_74 : decode cX4_assess 74 = .ok (.iload_n 1, 1) := by decide +kernel
theorem dX4_assess_75 : decode cX4_assess 75 = .ok (.i2l, 1) := by decide +kernel
theorem dX4_assess_76 : decode cX4_assess 76 = .ok (.invokevirtual 103, 3) := by decide +kernel
theorem dX4_assess_79 : decode cX4_assess 79 = .ok (.istore_n 2, 1) := by decide +kernel
theorem dX4_assess_80 : decode cX4_assess 80 = .ok (.iconst 0, 1) := by decide +kernel
theorem dX4_assess_81 : decode cX4_assess 81 = .ok (.istore_n 3, 1) := by decide +kernel
theorem dX4_assess_82 : decode cX4_assess 82 = .ok (.iload_n 3, 1) := by decide +kernel
theorem dX4_assess_83 : decode cX4_assess 83 = .ok (.aload_n 0, 1) := by decide +kernel
theorem dX4_assess_84 : decode cX4_assess 84 = .ok (.getfield 68, 3) := by decide +kernel
theorem dX4_assess_87 : decode cX4_assess 87 = .ok (.if_icmp .ge 24, 3) := by decide +kernel
theorem dX4_assess_90 : decode cX4_assess 90 = .ok (.aload_n 0, 1) := by decide +kernel
theorem dX4_assess_91 : decode cX4_assess 91 = .ok (.getfield 31, 3) := by decide +kernel
theorem dX4_assess_94 : decode cX4_assess 94 = .ok (.iload_n 3, 1) := by decide +kernel
theorem dX4_assess_95 : decode cX4_assess 95 = .ok (.dup2, 1) := by decide +kernel
theorem dX4_assess_96 : decode cX4_assess 96 = .ok (.iaload, 1) := by decide +kernel
theorem dX4_assess_97 : decode cX4_assess 97 = .ok (.aload_n 0, 1) := by decide +kernel
theorem dX4_assess_98 : decode cX4_assess 98 = .ok (.getfield 62, 3) := by decide +kernel
theorem dX4_assess_101 : decode cX4_assess 101 = .ok (.iload_n 3, 1) := by decide +kernel
theorem dX4_assess_102 : decode cX4_assess 102 = .ok (.iaload, 1) := by decide +kernel
theorem dX4_assess_103 : decode cX4_assess 103 = .ok (.iadd, 1) := by decide +kernel
theorem dX4_assess_104 : decode cX4_assess 104 = .ok (.iastore, 1) := by decide +kernel
theorem dX4_assess_105 : decode cX4_assess 105 = .ok (.iinc 3 1, 3) := by decide +kernel
theorem dX4_assess_108 : decode cX4_assess 108 = .ok (.goto (-26), 3) := by decide +kernel
theorem dX4_assess_111 : decode cX4_assess 111 = .ok (.iload_n 1, 1) := by decide +kernel
theorem dX4_assess_112 : decode cX4_assess 112 = .ok (.iload_n 2, 1) := by decide +kernel
theorem dX4_assess_113 : decode cX4_assess 113 = .ok (.isub, 1) := by decide +kernel
theorem dX4_assess_114 : decode cX4_assess 114 = .ok (.ireturn, 1) := by decide +kernel
theorem dX4_cutGains_0 : decode cX4_cutGains 0 = .ok (.iconst 0, 1) := by decide +kernel
theorem dX4_cutGains_1 : decode cX4_cutGains 1 = .ok (.istore_n 2, 1) := by decide +kernel
theorem dX4_cutGains_2 : decode cX4_cutGains 2 = .ok (.iload_n 2, 1) := by decide +kernel
theorem dX4_cutGains_3 : decode cX4_cutGains 3 = .ok (.aload_n 0, 1) := by decide +kernel
theorem dX4_cutGains_4 : decode cX4_cutGains 4 = .ok (.getfield 68, 3) := by decide +kernel
theorem dX4_cutGains_7 : decode cX4_cutGains 7 = .ok (.if_icmp .ge 45, 3) := by decide +kernel
theorem dX4_cutGains_10 : decode cX4_cutGains 10 = .ok (.aload_n 0, 1) := by decide +kernel
theorem dX4_cutGains_11 : decode cX4_cutGains 11 = .ok (.getfield 56, 3) := by decide +kernel
theorem dX4_cutGains_14 : decode cX4_cutGains 14 = .ok (.iload_n 2, 1) := by decide +kernel
theorem dX4_cutGains_15 : decode cX4_cutGains 15 = .ok (.aload_n 0, 1) := by decide +kernel
theorem dX4_cutGains_16 : decode cX4_cutGains 16 = .ok (.iload_n 2, 1) := by decide +kernel
theorem dX4_cutGains_17 : decode cX4_cutGains 17 = .ok (.invokevirtual 90, 3) := by decide +kernel
theorem dX4_cutGains_20 : decode cX4_cutGains 20 = .ok (.ifCond .eq 12, 3) := by decide +kernel
theorem dX4_cutGains_23 : decode cX4_cutGains 23 = .ok (.aload_n 0, 1) := by decide +kernel
theorem dX4_cutGains_24 : decode cX4_cutGains 24 = .ok (.getfield 19, 3) := by decide +kernel
theorem dX4_cutGains_27 : decode cX4_cutGains 27 = .ok (.iload_n 2, 1) := by decide +kernel
theorem dX4_cutGains_28 : decode cX4_cutGains 28 = .ok (.iaload, 1) := by decide +kernel
theorem dX4_cutGains_29 : decode cX4_cutGains 29 = .ok (.goto 4, 3) := by decide +kernel
theorem dX4_cutGains_32 : decode cX4_cutGains 32 = .ok (.iconst 0, 1) := by decide +kernel
theorem dX4_cutGains_33 : decode cX4_cutGains 33 = .ok (.iastore, 1) := by decide +kernel
theorem dX4_cutGains_34 : decode cX4_cutGains 34 = .ok (.aload_n 0, 1) := by decide +kernel
theorem dX4_cutGains_35 : decode cX4_cutGains 35 = .ok (.getfield 59, 3) := by decide +kernel
theorem dX4_cutGains_38 : decode cX4_cutGains 38 = .ok (.iload_n 2, 1) := by decide +kernel
theorem dX4_cutGains_39 : decode cX4_cutGains 39 = .ok (.aload_n 0, 1) := by decide +kernel
theorem dX4_cutGains_40 : decode cX4_cutGains 40 = .ok (.getfield 56, 3) := by decide +kernel
theorem dX4_cutGains_43 : decode cX4_cutGains 43 = .ok (.iload_n 2, 1) := by decide +kernel
theorem dX4_cutGains_44 : decode cX4_cutGains 44 = .ok (.iaload, 1) := by decide +kernel
theorem dX4_cutGains_45 : decode cX4_cutGains 45 = .ok (.iastore, 1) := by decide +kernel
theorem dX4_cutGains_46 : decode cX4_cutGains 46 = .ok (.iinc 2 1, 3) := by decide +kernel
theorem dX4_cutGains_49 : decode cX4_cutGains 49 = .ok (.goto (-47), 3) := by decide +kernel
theorem dX4_cutGains_52 : decode cX4_cutGains 52 = .ok (.aload_n 0, 1) := by decide +kernel
theorem dX4_cutGains_53 : decode cX4_cutGains 53 = .ok (.iload_n 1, 1) := by decide +kernel
theorem dX4_cutGains_54 : decode cX4_cutGains 54 = .ok (.i2l, 1) := by decide +kernel
theorem dX4_cutGains_55 : decode cX4_cutGains 55 = .ok (.invokevirtual 103, 3) := by decide +kernel
theorem dX4_cutGains_58 : decode cX4_cutGains 58 = .ok (.istore_n 2, 1) := by decide +kernel
theorem dX4_cutGains_59 : decode cX4_cutGains 59 = .ok (.iconst 0, 1) := by decide +kernel
theorem dX4_cutGains_60 : decode cX4_cutGains 60 = .ok (.istore_n 3, 1) := by decide +kernel
theorem dX4_cutGains_61 : decode cX4_cutGains 61 = .ok (.iload_n 3, 1) := by decide +kernel
theorem dX4_cutGains_62 : decode cX4_cutGains 62 = .ok (.aload_n 0, 1) := by decide +kernel
theorem dX4_cutGains_63 : decode cX4_cutGains 63 = .ok (.getfield 68, 3) := by decide +kernel
theorem dX4_cutGains_66 : decode cX4_cutGains 66 = .ok (.if_icmp .ge 24, 3) := by decide +kernel
theorem dX4_cutGains_69 : decode cX4_cutGains 69 = .ok (.aload_n 0, 1) := by decide +kernel
theorem dX4_cutGains_70 : decode cX4_cutGains 70 = .ok (.getfield 19, 3) := by decide +kernel
theorem dX4_cutGains_73 : decode cX4_cutGains 73 = .ok (.iload_n 3, 1) := by decide +kernel
theorem dX4_cutGains_74 : decode cX4_cutGains 74 = .ok (.dup2, 1) := by decide +kernel
theorem dX4_cutGains_75 : decode cX4_cutGains 75 = .ok (.iaload, 1) := by decide +kernel
theorem dX4_cutGains_76 : decode cX4_cutGains 76 = .ok (.aload_n 0, 1) := by decide +kernel
theorem dX4_cutGains_77 : decode cX4_cutGains 77 = .ok (.getfield 62, 3) := by decide +kernel
theorem dX4_cutGains_80 : decode cX4_cutGains 80 = .ok (.iload_n 3, 1) := by decide +kernel
theorem dX4_cutGains_81 : decode cX4_cutGains 81 = .ok (.iaload, 1) := by decide +kernel
theorem dX4_cutGains_82 : decode cX4_cutGains 82 = .ok (.isub, 1) := by decide +kernel
theorem dX4_cutGains_83 : decode cX4_cutGains 83 = .ok (.iastore, 1) := by decide +kernel
theorem dX4_cutGains_84 : decode cX4_cutGains 84 = .ok (.iinc 3 1, 3) := by decide +kernel
theorem dX4_cutGains_87 : decode cX4_cutGains 87 = .ok (.goto (-26), 3) := by decide +kernel
theorem dX4_cutGains_90 : decode cX4_cutGains 90 = .ok (.iload_n 1, 1) := by decide +kernel
theorem dX4_cutGains_91 : decode cX4_cutGains 91 = .ok (.iload_n 2, 1) := by decide +kernel
theorem dX4_cutGains_92 : decode cX4_cutGains 92 = .ok (.isub, 1) := by decide +kernel
theorem dX4_cutGains_93 : decode cX4_cutGains 93 = .ok (.ireturn, 1) := by decide +kernel
theorem dX4_empty_0 : decode cX4_empty 0 = .ok (.aload_n 0, 1) := by decide +kernel
theorem dX4_empty_1 : decode cX4_empty 1 = .ok (.getfield 25, 3) := by decide +kernel
theorem dX4_empty_4 : decode cX4_empty 4 = .ok (.iload_n 1, 1) := by decide +kernel
theorem dX4_empty_5 : decode cX4_empty 5 = .ok (.iload_n 2, 1) := by decide +kernel
theorem dX4_empty_6 : decode cX4_empty 6 = .ok (.iastore, 1) := by decide +kernel
theorem dX4_empty_7 : decode cX4_empty 7 = .ok (.aload_n 0, 1) := by decide +kernel
theorem dX4_empty_8 : decode cX4_empty 8 = .ok (.getfield 7, 3) := by decide +kernel
theorem dX4_empty_11 : decode cX4_empty 11 = .ok (.iload_n 1, 1) := by decide +kernel
theorem dX4_empty_12 : decode cX4_empty 12 = .ok (.iconst 0, 1) := by decide +kernel
theorem dX4_empty_13 : decode cX4_empty 13 = .ok (.iastore, 1) := by decide +kernel
theorem dX4_empty_14 : decode cX4_empty 14 = .ok (.aload_n 0, 1) := by decide +kernel
theorem dX4_empty_15 : decode cX4_empty 15 = .ok (.getfield 13, 3) := by decide +kernel
theorem dX4_empty_18 : decode cX4_empty 18 = .ok (.iload_n 1, 1) := by decide +kernel
theorem dX4_empty_19 : decode cX4_empty 19 = .ok (.iconst 0, 1) := by decide +kernel
theorem dX4_empty_20 : decode cX4_empty 20 = .ok (.iastore, 1) := by decide +kernel
theorem dX4_empty_21 : decode cX4_empty 21 = .ok (.aload_n 0, 1) := by decide +kernel
theorem dX4_empty_22 : decode cX4_empty 22 = .ok (.getfield 19, 3) := by decide +kernel
theorem dX4_empty_25 : decode cX4_empty 25 = .ok (.iload_n 1, 1) := by decide +kernel
theorem dX4_empty_26 : decode cX4_empty 26 = .ok (.iconst 0, 1) := by decide +kernel
theorem dX4_empty_27 : decode cX4_empty 27 = .ok (.iastore, 1) := by decide +kernel
theorem dX4_empty_28 : decode cX4_empty 28 = .ok (.iconst 0, 1) := by decide +kernel
theorem dX4_empty_29 : decode cX4_empty 29 = .ok (.istore_n 3, 1) := by decide +kernel
theorem dX4_empty_30 : decode cX4_empty 30 = .ok (.iload_n 3, 1) := by decide +kernel
theorem dX4_empty_31 : decode cX4_empty 31 = .ok (.aload_n 0, 1) := by decide +kernel
theorem dX4_empty_32 : decode cX4_empty 32 = .ok (.getfield 80, 3) := by decide +kernel
theorem dX4_empty_35 : decode cX4_empty 35 = .ok (.if_icmp .ge 35, 3) := by decide +kernel
theorem dX4_empty_38 : decode cX4_empty 38 = .ok (.aload_n 0, 1) := by decide +kernel
theorem dX4_empty_39 : decode cX4_empty 39 = .ok (.getfield 37, 3) := by decide +kernel
theorem dX4_empty_42 : decode cX4_empty 42 = .ok (.iload_n 3, 1) := by decide +kernel
theorem dX4_empty_43 : decode cX4_empty 43 = .ok (.aload_n 0, 1) := by decide +kernel
theorem dX4_empty_44 : decode cX4_empty 44 = .ok (.getfield 37, 3) := by decide +kernel
theorem dX4_empty_47 : decode cX4_empty 47 = .ok (.iload_n 3, 1) := by decide +kernel
theorem dX4_empty_48 : decode cX4_empty 48 = .ok (.iaload, 1) := by decide +kernel
theorem dX4_empty_49 : decode cX4_empty 49 = .ok (.iload_n 1, 1) := by decide +kernel
theorem dX4_empty_50 : decode cX4_empty 50 = .ok (.if_icmp .ne 7, 3) := by decide +kernel
theorem dX4_empty_53 : decode cX4_empty 53 = .ok (.iconst (-1), 1) := by decide +kernel
theorem dX4_empty_54 : decode cX4_empty 54 = .ok (.goto 9, 3) := by decide +kernel
theorem dX4_empty_57 : decode cX4_empty 57 = .ok (.aload_n 0, 1) := by decide +kernel
theorem dX4_empty_58 : decode cX4_empty 58 = .ok (.getfield 37, 3) := by decide +kernel
theorem dX4_empty_61 : decode cX4_empty 61 = .ok (.iload_n 3, 1) := by decide +kernel
theorem dX4_empty_62 : decode cX4_empty 62 = .ok (.iaload, 1) := by decide +kernel
theorem dX4_empty_63 : decode cX4_empty 63 = .ok (.iastore, 1) := by decide +kernel
theorem dX4_empty_64 : decode cX4_empty 64 = .ok (.iinc 3 1, 3) := by decide +kernel
theorem dX4_empty_67 : decode cX4_empty 67 = .ok (.goto (-37), 3) := by decide +kernel
theorem dX4_empty_70 : decode cX4_empty 70 = .ok (.return_, 1) := by decide +kernel
theorem dX4_close_0 : decode cX4_close 0 = .ok (.aload_n 0, 1) := by decide +kernel
theorem dX4_close_1 : decode cX4_close 1 = .ok (.iconst 0, 1) := by decide +kernel
theorem dX4_close_2 : decode cX4_close 2 = .ok (.putfield 65, 3) := by decide +kernel
theorem dX4_close_5 : decode cX4_close 5 = .ok (.aload_n 0, 1) := by decide +kernel
theorem dX4_close_6 : decode cX4_close 6 = .ok (.getfield 46, 3) := by decide +kernel
theorem dX4_close_9 : decode cX4_close 9 = .ok (.iconst (-1), 1) := by decide +kernel
theorem dX4_close_10 : decode cX4_close 10 = .ok (.if_icmp .ne 9, 3) := by decide +kernel
theorem dX4_close_13 : decode cX4_close 13 = .ok (.aload_n 0, 1) := by decide +kernel
theorem dX4_close_14 : decode cX4_close 14 = .ok (.iconst 1, 1) := by decide +kernel
theorem dX4_close_15 : decode cX4_close 15 = .ok (.invokevirtual 76, 3) := by decide +kernel
theorem dX4_close_18 : decode cX4_close 18 = .ok (.ireturn, 1) := by decide +kernel
theorem dX4_close_19 : decode cX4_close 19 = .ok (.iconst 0, 1) := by decide +kernel
theorem dX4_close_20 : decode cX4_close 20 = .ok (.istore_n 1, 1) := by decide +kernel
theorem dX4_close_21 : decode cX4_close 21 = .ok (.iconst 0, 1) := by decide +kernel
theorem dX4_close_22 : decode cX4_close 22 = .ok (.istore_n 2, 1) := by decide +kernel
theorem dX4_close_23 : decode cX4_close 23 = .ok (.iload_n 2, 1) := by decide +kernel
theorem dX4_close_24 : decode cX4_close 24 = .ok (.aload_n 0, 1) := by decide +kernel
theorem dX4_close_25 : decode cX4_close 25 = .ok (.getfield 107, 3) := by decide +kernel
theorem dX4_close_28 : decode cX4_close 28 = .ok (.if_icmp .ge 56, 3) := by decide +kernel
theorem dX4_close_31 : decode cX4_close 31 = .ok (.aload_n 0, 1) := by decide +kernel
theorem dX4_close_32 : decode cX4_close 32 = .ok (.iload_n 2, 1) := by decide +kernel
theorem dX4_close_33 : decode cX4_close 33 = .ok (.invokevirtual 116, 3) := by decide +kernel
theorem dX4_close_36 : decode cX4_close 36 = .ok (.istore_n 3, 1) := by decide +kernel
theorem dX4_close_37 : decode cX4_close 37 = .ok (.iload_n 1, 1) := by decide +kernel
theorem dX4_close_38 : decode cX4_close 38 = .ok (.iload_n 3, 1) := by decide +kernel
theorem dX4_close_39 : decode cX4_close 39 = .ok (.iconst (-1), 1) := by decide +kernel
theorem dX4_close_40 : decode cX4_close 40 = .ok (.if_icmp .ne 9, 3) := by decide +kernel
theorem dX4_close_43 : decode cX4_close 43 = .ok (.sipush 1000, 3) := by decide +kernel
theorem dX4_close_46 : decode cX4_close 46 = .ok (.goto 15, 3) := by decide +kernel
theorem dX4_close_49 : decode cX4_close 49 = .ok (.aload_n 0, 1) := by decide +kernel
theorem dX4_close_50 : decode cX4_close 50 = .ok (.getfield 50, 3) := by decide +kernel
theorem dX4_close_53 : decode cX4_close 53 = .ok (.bipush 10, 2) := by decide +kernel
theorem dX4_close_55 : decode cX4_close 55 = .ok (.iload_n 2, 1) := by decide +kernel
theorem dX4_close_56 : decode cX4_close 56 = .ok (.imul, 1) := by decide +kernel
theorem dX4_close_57 : decode cX4_close 57 = .ok (.iload_n 3, 1) := by decide +kernel
theorem dX4_close_58 : decode cX4_close 58 = .ok (.iadd, 1) := by decide +kernel
theorem dX4_close_59 : decode cX4_close 59 = .ok (.iaload, 1) := by decide +kernel
theorem dX4_close_60 : decode cX4_close 60 = .ok (.ineg, 1) := by decide +kernel
theorem dX4_close_61 : decode cX4_close 61 = .ok (.iadd, 1) := by decide +kernel
theorem dX4_close_62 : decode cX4_close 62 = .ok (.istore_n 1, 1) := by decide +kernel
theorem dX4_close_63 : decode cX4_close 63 = .ok (.iload_n 3, 1) := by decide +kernel
theorem dX4_close_64 : decode cX4_close 64 = .ok (.iconst (-1), 1) := by decide +kernel
theorem dX4_close_65 : decode cX4_close 65 = .ok (.if_icmp .eq 13, 3) := by decide +kernel
theorem dX4_close_68 : decode cX4_close 68 = .ok (.aload_n 0, 1) := by decide +kernel
theorem dX4_close_69 : decode cX4_close 69 = .ok (.getfield 34, 3) := by decide +kernel
theorem dX4_close_72 : decode cX4_close 72 = .ok (.iload_n 3, 1) := by decide +kernel
theorem dX4_close_73 : decode cX4_close 73 = .ok (.dup2, 1) := by decide +kernel
theorem dX4_close_74 : decode cX4_close 74 = .ok (.iaload, 1) := by decide +kernel
theorem dX4_close_75 : decode cX4_close 75 = .ok (.iconst 1, 1) := by decide +kernel
theorem dX4_close_76 : decode cX4_close 76 = .ok (.iadd, 1) := by decide +kernel
theorem dX4_close_77 : decode cX4_close 77 = .ok (.iastore, 1) := by decide +kernel
theorem dX4_close_78 : decode cX4_close 78 = .ok (.iinc 2 1, 3) := by decide +kernel
theorem dX4_close_81 : decode cX4_close 81 = .ok (.goto (-58), 3) := by decide +kernel
theorem dX4_close_84 : decode cX4_close 84 = .ok (.iconst 0, 1) := by decide +kernel
theorem dX4_close_85 : decode cX4_close 85 = .ok (.istore_n 2, 1) := by decide +kernel
theorem dX4_close_86 : decode cX4_close 86 = .ok (.iload_n 2, 1) := by decide +kernel
theorem dX4_close_87 : decode cX4_close 87 = .ok (.aload_n 0, 1) := by decide +kernel
theorem dX4_close_88 : decode cX4_close 88 = .ok (.getfield 68, 3) := by decide +kernel
theorem dX4_close_91 : decode cX4_close 91 = .ok (.if_icmp .ge 22, 3) := by decide +kernel
theorem dX4_close_94 : decode cX4_close 94 = .ok (.aload_n 0, 1) := by decide +kernel
theorem dX4_close_95 : decode cX4_close 95 = .ok (.iload_n 2, 1) := by decide +kernel
theorem dX4_close_96 : decode cX4_close 96 = .ok (.invokevirtual 90, 3) := by decide +kernel
theorem dX4_close_99 : decode cX4_close 99 = .ok (.ifCond .eq 8, 3) := by decide +kernel
theorem dX4_close_102 : decode cX4_close 102 = .ok (.aload_n 0, 1) := by decide +kernel
theorem dX4_close_103 : decode cX4_close 103 = .ok (.iload_n 2, 1) := by decide +kernel
theorem dX4_close_104 : decode cX4_close 104 = .ok (.invokevirtual 119, 3) := by decide +kernel
theorem dX4_close_107 : decode cX4_close 107 = .ok (.iinc 2 1, 3) := by decide +kernel
theorem dX4_close_110 : decode cX4_close 110 = .ok (.goto (-24), 3) := by decide +kernel
theorem dX4_close_113 : decode cX4_close 113 = .ok (.aload_n 0, 1) := by decide +kernel
theorem dX4_close_114 : decode cX4_close 114 = .ok (.iload_n 1, 1) := by decide +kernel
theorem dX4_close_115 : decode cX4_close 115 = .ok (.ifCond .ge 7, 3) := by decide +kernel
theorem dX4_close_118 : decode cX4_close 118 = .ok (.iconst 0, 1) := by decide +kernel
theorem dX4_close_119 : decode cX4_close 119 = .ok (.goto 4, 3) := by decide +kernel
theorem dX4_close_122 : decode cX4_close 122 = .ok (.iload_n 1, 1) := by decide +kernel
theorem dX4_close_123 : decode cX4_close 123 = .ok (.putfield 123, 3) := by decide +kernel
theorem dX4_close_126 : decode cX4_close 126 = .ok (.aload_n 0, 1) := by decide +kernel
theorem dX4_close_127 : decode cX4_close 127 = .ok (.getfield 123, 3) := by decide +kernel
theorem dX4_close_130 : decode cX4_close 130 = .ok (.istore_n 2, 1) := by decide +kernel
theorem dX4_close_131 : decode cX4_close 131 = .ok (.iload_n 2, 1) := by decide +kernel
theorem dX4_close_132 : decode cX4_close 132 = .ok (.iload_n 2, 1) := by decide +kernel
theorem dX4_close_133 : decode cX4_close 133 = .ok (.aload_n 0, 1) := by decide +kernel
theorem dX4_close_134 : decode cX4_close 134 = .ok (.getfield 7, 3) := by decide +kernel
theorem dX4_close_137 : decode cX4_close 137 = .ok (.aload_n 0, 1) := by decide +kernel
theorem dX4_close_138 : decode cX4_close 138 = .ok (.getfield 46, 3) := by decide +kernel
theorem dX4_close_141 : decode cX4_close 141 = .ok (.iaload, 1) := by decide +kernel
theorem dX4_close_142 : decode cX4_close 142 = .ok (.if_icmp .ge 7, 3) := by decide +kernel
theorem dX4_close_145 : decode cX4_close 145 = .ok (.iload_n 2, 1) := by decide +kernel
theorem dX4_close_146 : decode cX4_close 146 = .ok (.goto 12, 3) := by decide +kernel
theorem dX4_close_149 : decode cX4_close 149 = .ok (.aload_n 0, 1) := by decide +kernel
theorem dX4_close_150 : decode cX4_close 150 = .ok (.getfield 7, 3) := by decide +kernel
theorem dX4_close_153 : decode cX4_close 153 = .ok (.aload_n 0, 1) := by decide +kernel
theorem dX4_close_154 : decode cX4_close 154 = .ok (.getfield 46, 3) := by decide +kernel
theorem dX4_close_157 : decode cX4_close 157 = .ok (.iaload, 1) := by decide +kernel
theorem dX4_close_158 : decode cX4_close 158 = .ok (.isub, 1) := by decide +kernel
theorem dX4_close_159 : decode cX4_close 159 = .ok (.istore_n 2, 1) := by decide +kernel
theorem dX4_close_160 : decode cX4_close 160 = .ok (.iload_n 2, 1) := by decide +kernel
theorem dX4_close_161 : decode cX4_close 161 = .ok (.iload_n 2, 1) := by decide +kernel
theorem dX4_close_162 : decode cX4_close 162 = .ok (.aload_n 0, 1) := by decide +kernel
theorem dX4_close_163 : decode cX4_close 163 = .ok (.getfield 13, 3) := by decide +kernel
theorem dX4_close_166 : decode cX4_close 166 = .ok (.aload_n 0, 1) := by decide +kernel
theorem dX4_close_167 : decode cX4_close 167 = .ok (.getfield 46, 3) := by decide +kernel
theorem dX4_close_170 : decode cX4_close 170 = .ok (.iaload, 1) := by decide +kernel
theorem dX4_close_171 : decode cX4_close 171 = .ok (.if_icmp .ge 7, 3) := by decide +kernel
theorem dX4_close_174 : decode cX4_close 174 = .ok (.iload_n 2, 1) := by decide +kernel
theorem dX4_close_175 : decode cX4_close 175 = .ok (.goto 12, 3) := by decide +kernel
theorem dX4_close_178 : decode cX4_close 178 = .ok (.aload_n 0, 1) := by decide +kernel
theorem dX4_close_179 : decode cX4_close 179 = .ok (.getfield 13, 3) := by decide +kernel
theorem dX4_close_182 : decode cX4_close 182 = .ok (.aload_n 0, 1) := by decide +kernel
theorem dX4_close_183 : decode cX4_close 183 = .ok (.getfield 46, 3) := by decide +kernel
theorem dX4_close_186 : decode cX4_close 186 = .ok (.iaload, 1) := by decide +kernel
theorem dX4_close_187 : decode cX4_close 187 = .ok (.isub, 1) := by decide +kernel
theorem dX4_close_188 : decode cX4_close 188 = .ok (.istore_n 2, 1) := by decide +kernel
theorem dX4_close_189 : decode cX4_close 189 = .ok (.iload_n 2, 1) := by decide +kernel
theorem dX4_close_190 : decode cX4_close 190 = .ok (.aload_n 0, 1) := by decide +kernel
theorem dX4_close_191 : decode cX4_close 191 = .ok (.getfield 99, 3) := by decide +kernel
theorem dX4_close_194 : decode cX4_close 194 = .ok (.if_icmp .ge 7, 3) := by decide +kernel
theorem dX4_close_197 : decode cX4_close 197 = .ok (.iload_n 2, 1) := by decide +kernel
theorem dX4_close_198 : decode cX4_close 198 = .ok (.goto 7, 3) := by decide +kernel
theorem dX4_close_201 : decode cX4_close 201 = .ok (.aload_n 0, 1) := by decide +kernel
theorem dX4_close_202 : decode cX4_close 202 = .ok (.getfield 99, 3) := by decide +kernel
theorem dX4_close_205 : decode cX4_close 205 = .ok (.istore_n 3, 1) := by decide +kernel
theorem dX4_close_206 : decode cX4_close 206 = .ok (.aload_n 0, 1) := by decide +kernel
theorem dX4_close_207 : decode cX4_close 207 = .ok (.dup, 1) := by decide +kernel
theorem dX4_close_208 : decode cX4_close 208 = .ok (.getfield 99, 3) := by decide +kernel
theorem dX4_close_211 : decode cX4_close 211 = .ok (.iload_n 3, 1) := by decide +kernel
theorem dX4_close_212 : decode cX4_close 212 = .ok (.isub, 1) := by decide +kernel
theorem dX4_close_213 : decode cX4_close 213 = .ok (.putfield 99, 3) := by decide +kernel
theorem dX4_close_216 : decode cX4_close 216 = .ok (.iload_n 2, 1) := by decide +kernel
theorem dX4_close_217 : decode cX4_close 217 = .ok (.iload_n 3, 1) := by decide +kernel
