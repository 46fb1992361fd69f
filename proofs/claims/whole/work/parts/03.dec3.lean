theorem dX12_thrown_0 : decode cX12_thrown 0 = .ok (.aload_n 0, 1) := by decide +kernel
theorem dX12_thrown_1 : decode cX12_thrown 1 = .ok (.getfield 1, 3) := by decide +kernel
theorem dX12_thrown_4 : decode cX12_thrown 4 = .ok (.ireturn, 1) := by decide +kernel
theorem dX12_feed_0 : decode cX12_feed 0 = .ok (.aload_n 0, 1) := by decide +kernel
theorem dX12_feed_1 : decode cX12_feed 1 = .ok (.iconst 0, 1) := by decide +kernel
theorem dX12_feed_2 : decode cX12_feed 2 = .ok (.putfield 1, 3) := by decide +kernel
theorem dX12_feed_5 : decode cX12_feed 5 = .ok (.aload_n 0, 1) := by decide +kernel
theorem dX12_feed_6 : decode cX12_feed 6 = .ok (.lload_n 1, 1) := by decide +kernel
theorem dX12_feed_7 : decode cX12_feed 7 = .ok (.invokevirtual 7, 3) := by decide +kernel
theorem dX12_feed_10 : decode cX12_feed 10 = .ok (.aload_n 0, 1) := by decide +kernel
theorem dX12_feed_11 : decode cX12_feed 11 = .ok (.lload_n 3, 1) := by decide +kernel
theorem dX12_feed_12 : decode cX12_feed 12 = .ok (.invokevirtual 7, 3) := by decide +kernel
theorem dX12_feed_15 : decode cX12_feed 15 = .ok (.aload_n 0, 1) := by decide +kernel
theorem dX12_feed_16 : decode cX12_feed 16 = .ok (.lload 5, 2) := by decide +kernel
theorem dX12_feed_18 : decode cX12_feed 18 = .ok (.invokevirtual 7, 3) := by decide +kernel
theorem dX12_feed_21 : decode cX12_feed 21 = .ok (.aload_n 0, 1) := by decide +kernel
theorem dX12_feed_22 : decode cX12_feed 22 = .ok (.getfield 11, 3) := by decide +kernel
theorem dX12_feed_25 : decode cX12_feed 25 = .ok (.ireturn, 1) := by decide +kernel
theorem dX12_lay_0 : decode cX12_lay 0 = .ok (.bipush 56, 2) := by decide +kernel
theorem dX12_lay_2 : decode cX12_lay 2 = .ok (.istore_n 3, 1) := by decide +kernel
theorem dX12_lay_3 : decode cX12_lay 3 = .ok (.iload_n 3, 1) := by decide +kernel
theorem dX12_lay_4 : decode cX12_lay 4 = .ok (.ifCond .lt 71, 3) := by decide +kernel
theorem dX12_lay_7 : decode cX12_lay 7 = .ok (.lload_n 1, 1) := by decide +kernel
theorem dX12_lay_8 : decode cX12_lay 8 = .ok (.iload_n 3, 1) := by decide +kernel
theorem dX12_lay_9 : decode cX12_lay 9 = .ok (.lshr, 1) := by decide +kernel
theorem dX12_lay_10 : decode cX12_lay 10 = .ok (.l2i, 1) := by decide +kernel
theorem dX12_lay_11 : decode cX12_lay 11 = .ok (.sipush 255, 3) := by decide +kernel
theorem dX12_lay_14 : decode cX12_lay 14 = .ok (.iand, 1) := by decide +kernel
theorem dX12_lay_15 : decode cX12_lay 15 = .ok (.istore 4, 2) := by decide +kernel
theorem dX12_lay_17 : decode cX12_lay 17 = .ok (.iload 4, 2) := by decide +kernel
theorem dX12_lay_19 : decode cX12_lay 19 = .ok (.bipush 10, 2) := by decide +kernel
theorem dX12_lay_21 : decode cX12_lay 21 = .ok (.if_icmp .eq 17, 3) := by decide +kernel
theorem dX12_lay_24 : decode cX12_lay 24 = .ok (.iload 4, 2) := by decide +kernel
theorem dX12_lay_26 : decode cX12_lay 26 = .ok (.bipush 32, 2) := by decide +kernel
theorem dX12_lay_28 : decode cX12_lay 28 = .ok (.if_icmp .lt 41, 3) := by decide +kernel
theorem dX12_lay_31 : decode cX12_lay 31 = .ok (.iload 4, 2) := by decide +kernel
theorem dX12_lay_33 : decode cX12_lay 33 = .ok (.bipush 126, 2) := by decide +kernel
theorem dX12_lay_35 : decode cX12_lay 35 = .ok (.if_icmp .gt 34, 3) := by decide +kernel
theorem dX12_lay_38 : decode cX12_lay 38 = .ok (.aload_n 0, 1) := by decide +kernel
theorem dX12_lay_39 : decode cX12_lay 39 = .ok (.getfield 11, 3) := by decide +kernel
theorem dX12_lay_42 : decode cX12_lay 42 = .ok (.sipush 1000, 3) := by decide +kernel
theorem dX12_lay_45 : decode cX12_lay 45 = .ok (.if_icmp .ge 24, 3) := by decide +kernel
theorem dX12_lay_48 : decode cX12_lay 48 = .ok (.aload_n 0, 1) := by decide +kernel
theorem dX12_lay_49 : decode cX12_lay 49 = .ok (.getfield 14, 3) := by decide +kernel
theorem dX12_lay_52 : decode cX12_lay 52 = .ok (.aload_n 0, 1) := by decide +kernel
theorem dX12_lay_53 : decode cX12_lay 53 = .ok (.getfield 11, 3) := by decide +kernel
theorem dX12_lay_56 : decode cX12_lay 56 = .ok (.iload 4, 2) := by decide +kernel
theorem dX12_lay_58 : decode cX12_lay 58 = .ok (.iastore, 1) := by decide +kernel
theorem dX12_lay_59 : decode cX12_lay 59 = .ok (.aload_n 0, 1) := by decide +kernel
theorem dX12_lay_60 : decode cX12_lay 60 = .ok (.dup, 1) := by decide +kernel
theorem dX12_lay_61 : decode cX12_lay 61 = .ok (.getfield 11, 3) := by decide +kernel
theorem dX12_lay_64 : decode cX12_lay 64 = .ok (.iconst 1, 1) := by decide +kernel
theorem dX12_lay_65 : decode cX12_lay 65 = .ok (.iadd, 1) := by decide +kernel
theorem dX12_lay_66 : decode cX12_lay 66 = .ok (.putfield 11, 3) := by decide +kernel
theorem dX12_lay_69 : decode cX12_lay 69 = .ok (.iinc 3 (-8), 3) := by decide +kernel
theorem dX12_lay_72 : decode cX12_lay 72 = .ok (.goto (-69), 3) := by decide +kernel
theorem dX12_lay_75 : decode cX12_lay 75 = .ok (.return_, 1) := by decide +kernel
theorem dX12_init_0 : decode cX12_init 0 = .ok (.aload_n 0, 1) := by decide +kernel
theorem dX12_init_1 : decode cX12_init 1 = .ok (.invokespecial 18, 3) := by decide +kernel
theorem dX12_init_4 : decode cX12_init 4 = .ok (.aload_n 0, 1) := by decide +kernel
theorem dX12_init_5 : decode cX12_init 5 = .ok (.sipush 1000, 3) := by decide +kernel
theorem dX12_init_8 : decode cX12_init 8 = .ok (.newarray .int, 2) := by decide +kernel
theorem dX12_init_10 : decode cX12_init 10 = .ok (.putfield 14, 3) := by decide +kernel
theorem dX12_init_13 : decode cX12_init 13 = .ok (.aload_n 0, 1) := by decide +kernel
theorem dX12_init_14 : decode cX12_init 14 = .ok (.sipush 1002, 3) := by decide +kernel
theorem dX12_init_17 : decode cX12_init 17 = .ok (.newarray .int, 2) := by decide +kernel
theorem dX12_init_19 : decode cX12_init 19 = .ok (.putfield 24, 3) := by decide +kernel
theorem dX12_init_22 : decode cX12_init 22 = .ok (.aload_n 0, 1) := by decide +kernel
theorem dX12_init_23 : decode cX12_init 23 = .ok (.sipush 1002, 3) := by decide +kernel
theorem dX12_init_26 : decode cX12_init 26 = .ok (.newarray .int, 2) := by decide +kernel
theorem dX12_init_28 : decode cX12_init 28 = .ok (.putfield 27, 3) := by decide +kernel
theorem dX12_init_31 : decode cX12_init 31 = .ok (.aload_n 0, 1) := by decide +kernel
theorem dX12_init_32 : decode cX12_init 32 = .ok (.sipush 1002, 3) := by decide +kernel
theorem dX12_init_35 : decode cX12_init 35 = .ok (.newarray .long, 2) := by decide +kernel
theorem dX12_init_37 : decode cX12_init 37 = .ok (.putfield 30, 3) := by decide +kernel
theorem dX12_init_40 : decode cX12_init 40 = .ok (.aload_n 0, 1) := by decide +kernel
theorem dX12_init_41 : decode cX12_init 41 = .ok (.bipush 19, 2) := by decide +kernel
theorem dX12_init_43 : decode cX12_init 43 = .ok (.newarray .long, 2) := by decide +kernel
theorem dX12_init_45 : decode cX12_init 45 = .ok (.dup, 1) := by decide +kernel
theorem dX12_init_46 : decode cX12_init 46 = .ok (.iconst 0, 1) := by decide +kernel
theorem dX12_init_47 : decode cX12_init 47 = .ok (.ldc2_w 34, 3) := by decide +kernel
theorem dX12_init_50 : decode cX12_init 50 = .ok (.lastore, 1) := by decide +kernel
theorem dX12_init_51 : decode cX12_init 51 = .ok (.dup, 1) := by decide +kernel
theorem dX12_init_52 : decode cX12_init 52 = .ok (.iconst 1, 1) := by decide +kernel
theorem dX12_init_53 : decode cX12_init 53 = .ok (.ldc2_w 36, 3) := by decide +kernel
theorem dX12_init_56 : decode cX12_init 56 = .ok (.lastore, 1) := by decide +kernel
theorem dX12_init_57 : decode cX12_init 57 = .ok (.dup, 1) := by decide +kernel
theorem dX12_init_58 : decode cX12_init 58 = .ok (.iconst 2, 1) := by decide +kernel
theorem dX12_init_59 : decode cX12_init 59 = .ok (.ldc2_w 38, 3) := by decide +kernel
theorem dX12_init_62 : decode cX12_init 62 = .ok (.lastore, 1) := by decide +kernel
theorem dX12_init_63 : decode cX12_init 63 = .ok (.dup, 1) := by decide +kernel
theorem dX12_init_64 : decode cX12_init 64 = .ok (.iconst 3, 1) := by decide +kernel
theorem dX12_init_65 : decode cX12_init 65 = .ok (.ldc2_w 40, 3) := by decide +kernel
theorem dX12_init_68 : decode cX12_init 68 = .ok (.lastore, 1) := by decide +kernel
theorem dX12_init_69 : decode cX12_init 69 = .ok (.dup, 1) := by decide +kernel
theorem dX12_init_70 : decode cX12_init 70 = .ok (.iconst 4, 1) := by decide +kernel
theorem dX12_init_71 : decode cX12_init 71 = .ok (.ldc2_w 42, 3) := by decide +kernel
theorem dX12_init_74 : decode cX12_init 74 = .ok (.lastore, 1) := by decide +kernel
theorem dX12_init_75 : decode cX12_init 75 = .ok (.dup, 1) := by decide +kernel
theorem dX12_init_76 : decode cX12_init 76 = .ok (.iconst 5, 1) := by decide +kernel
theorem dX12_init_77 : decode cX12_init 77 = .ok (.ldc2_w 44, 3) := by decide +kernel
theorem dX12_init_80 : decode cX12_init 80 = .ok (.lastore, 1) := by decide +kernel
theorem dX12_init_81 : decode cX12_init 81 = .ok (.dup, 1) := by decide +kernel
theorem dX12_init_82 : decode cX12_init 82 = .ok (.bipush 6, 2) := by decide +kernel
theorem dX12_init_84 : decode cX12_init 84 = .ok (.ldc2_w 46, 3) := by decide +kernel
theorem dX12_init_87 : decode cX12_init 87 = .ok (.lastore, 1) := by decide +kernel
theorem dX12_init_88 : decode cX12_init 88 = .ok (.dup, 1) := by decide +kernel
theorem dX12_init_89 : decode cX12_init 89 = .ok (.bipush 7, 2) := by decide +kernel
theorem dX12_init_91 : decode cX12_init 91 = .ok (.ldc2_w 48, 3) := by decide +kernel
theorem dX12_init_94 : decode cX12_init 94 = .ok (.lastore, 1) := by decide +kernel
theorem dX12_init_95 : decode cX12_init 95 = .ok (.dup, 1) := by decide +kernel
theorem dX12_init_96 : decode cX12_init 96 = .ok (.bipush 8, 2) := by decide +kernel
theorem dX12_init_98 : decode cX12_init 98 = .ok (.ldc2_w 50, 3) := by decide +kernel
theorem dX12_init_101 : decode cX12_init 101 = .ok (.lastore, 1) := by decide +kernel
theorem dX12_init_102 : decode cX12_init 102 = .ok (.dup, 1) := by decide +kernel
theorem dX12_init_103 : decode cX12_init 103 = .ok (.bipush 9, 2) := by decide +kernel
theorem dX12_init_105 : decode cX12_init 105 = .ok (.ldc2_w 52, 3) := by decide +kernel
theorem dX12_init_108 : decode cX12_init 108 = .ok (.lastore, 1) := by decide +kernel
theorem dX12_init_109 : decode cX12_init 109 = .ok (.dup, 1) := by decide +kernel
theorem dX12_init_110 : decode cX12_init 110 = .ok (.bipush 10, 2) := by decide +kernel
theorem dX12_init_112 : decode cX12_init 112 = .ok (.ldc2_w 54, 3) := by decide +kernel
theorem dX12_init_115 : decode cX12_init 115 = .ok (.lastore, 1) := by decide +kernel
theorem dX12_init_116 : decode cX12_init 116 = .ok (.dup, 1) := by decide +kernel
theorem dX12_init_117 : decode cX12_init 117 = .ok (.bipush 11, 2) := by decide +kernel
theorem dX12_init_119 : decode cX12_init 119 = .ok (.ldc2_w 56, 3) := by decide +kernel
theorem dX12_init_122 : decode cX12_init 122 = .ok (.lastore, 1) := by decide +kernel
theorem dX12_init_123 : decode cX12_init 123 = .ok (.dup, 1) := by decide +kernel
theorem dX12_init_124 : decode cX12_init 124 = .ok (.bipush 12, 2) := by decide +kernel
theorem dX12_init_126 : decode cX12_init 126 = .ok (.ldc2_w 58, 3) := by decide +kernel
theorem dX12_init_129 : decode cX12_init 129 = .ok (.lastore, 1) := by decide +kernel
theorem dX12_init_130 : decode cX12_init 130 = .ok (.dup, 1) := by decide +kernel
theorem dX12_init_131 : decode cX12_init 131 = .ok (.bipush 13, 2) := by decide +kernel
theorem dX12_init_133 : decode cX12_init 133 = .ok (.ldc2_w 60, 3) := by decide +kernel
theorem dX12_init_136 : decode cX12_init 136 = .ok (.lastore, 1) := by decide +kernel
theorem dX12_init_137 : decode cX12_init 137 = .ok (.dup, 1) := by decide +kernel
theorem dX12_init_138 : decode cX12_init 138 = .ok (.bipush 14, 2) := by decide +kernel
theorem dX12_init_140 : decode cX12_init 140 = .ok (.ldc2_w 62, 3) := by decide +kernel
theorem dX12_init_143 : decode cX12_init 143 = .ok (.lastore, 1) := by decide +kernel
theorem dX12_init_144 : decode cX12_init 144 = .ok (.dup, 1) := by decide +kernel
theorem dX12_init_145 : decode cX12_init 145 = .ok (.bipush 15, 2) := by decide +kernel
theorem dX12_init_147 : decode cX12_init 147 = .ok (.ldc2_w 64, 3) := by decide +kernel
theorem dX12_init_150 : decode cX12_init 150 = .ok (.lastore, 1) := by decide +kernel
theorem dX12_init_151 : decode cX12_init 151 = .ok (.dup, 1) := by decide +kernel
theorem dX12_init_152 : decode cX12_init 152 = .ok (.bipush 16, 2) := by decide +kernel
theorem dX12_init_154 : decode cX12_init 154 = .ok (.ldc2_w 66, 3) := by decide +kernel
theorem dX12_init_157 : decode cX12_init 157 = .ok (.lastore, 1) := by decide +kernel
theorem dX12_init_158 : decode cX12_init 158 = .ok (.dup, 1) := by decide +kernel
theorem dX12_init_159 : decode cX12_init 159 = .ok (.bipush 17, 2) := by decide +kernel
theorem dX12_init_161 : decode cX12_init 161 = .ok (.ldc2_w 68, 3) := by decide +kernel
theorem dX12_init_164 : decode cX12_init 164 = .ok (.lastore, 1) := by decide +kernel
theorem dX12_init_165 : decode cX12_init 165 = .ok (.dup, 1) := by decide +kernel
theorem dX12_init_166 : decode cX12_init 166 = .ok (.bipush 18, 2) := by decide +kernel
theorem dX12_init_168 : decode cX12_init 168 = .ok (.ldc2_w 70, 3) := by decide +kernel
theorem dX12_init_171 : decode cX12_init 171 = .ok (.lastore, 1) := by decide +kernel
theorem dX12_init_172 : decode cX12_init 172 = .ok (.putfield 72, 3) := by decide +kernel
theorem dX12_init_175 : decode cX12_init 175 = .ok (.aload_n 0, 1) := by decide +kernel
theorem dX12_init_176 : decode cX12_init 176 = .ok (.sipush 168, 3) := by decide +kernel
theorem dX12_init_179 : decode cX12_init 179 = .ok (.newarray .int, 2) := by decide +kernel
theorem dX12_init_181 : decode cX12_init 181 = .ok (.putfield 75, 3) := by decide +kernel
theorem dX12_init_184 : decode cX12_init 184 = .ok (.aload_n 0, 1) := by decide +kernel
theorem dX12_init_185 : decode cX12_init 185 = .ok (.sipush 2200, 3) := by decide +kernel
theorem dX12_init_188 : decode cX12_init 188 = .ok (.newarray .int, 2) := by decide +kernel
theorem dX12_init_190 : decode cX12_init 190 = .ok (.putfield 78, 3) := by decide +kernel
theorem dX12_init_193 : decode cX12_init 193 = .ok (.aload_n 0, 1) := by decide +kernel
theorem dX12_init_194 : decode cX12_init 194 = .ok (.sipush 2200, 3) := by decide +kernel
theorem dX12_init_197 : decode cX12_init 197 = .ok (.newarray .int, 2) := by decide +kernel
theorem dX12_init_199 : decode cX12_init 199 = .ok (.putfield 81, 3) := by decide +kernel
theorem dX12_init_202 : decode cX12_init 202 = .ok (.aload_n 0, 1) := by decide +kernel
theorem dX12_init_203 : decode cX12_init 203 = .ok (.bipush 12, 2) := by decide +kernel
theorem dX12_init_205 : decode cX12_init 205 = .ok (.newarray .long, 2) := by decide +kernel
theorem dX12_init_207 : decode cX12_init 207 = .ok (.putfield 84, 3) := by decide +kernel
theorem dX12_init_210 : decode cX12_init 210 = .ok (.aload_n 0, 1) := by decide +kernel
theorem dX12_init_211 : decode cX12_init 211 = .ok (.bipush 12, 2) := by decide +kernel
theorem dX12_init_213 : decode cX12_init 213 = .ok (.newarray .int, 2) := by decide +kernel
theorem dX12_init_215 : decode cX12_init 215 = .ok (.putfield 87, 3) := by decide +kernel
theorem dX12_init_218 : decode cX12_init 218 = .ok (.aload_n 0, 1) := by decide +kernel
theorem dX12_init_219 : decode cX12_init 219 = .ok (.bipush 8, 2) := by decide +kernel
theorem dX12_init_221 : decode cX12_init 221 = .ok (.newarray .int, 2) := by decide +kernel
theorem dX12_init_223 : decode cX12_init 223 = .ok (.dup, 1) := by decide +kernel
theorem dX12_init_224 : decode cX12_init 224 = .ok (.iconst 0, 1) := by decide +kernel
theorem dX12_init_225 : decode cX12_init 225 = .ok (.iconst 5, 1) := by decide +kernel
theorem dX12_init_226 : decode cX12_init 226 = .ok (.iastore, 1) := by decide +kernel
theorem dX12_init_227 : decode cX12_init 227 = .ok (.dup, 1) := by decide +kernel
theorem dX12_init_228 : decode cX12_init 228 = .ok (.iconst 1, 1) := by decide +kernel
theorem dX12_init_229 : decode cX12_init 229 = .ok (.bipush 6, 2) := by decide +kernel
theorem dX12_init_231 : decode cX12_init 231 = .ok (.iastore, 1) := by decide +kernel
theorem dX12_init_232 : decode cX12_init 232 = .ok (.dup, 1) := by decide +kernel
theorem dX12_init_233 : decode cX12_init 233 = .ok (.iconst 2, 1) := by decide +kernel
theorem dX12_init_234 : decode cX12_init 234 = .ok (.iconst 1, 1) := by decide +kernel
theorem dX12_init_235 : decode cX12_init 235 = .ok (.iastore, 1) := by decide +kernel
theorem dX12_init_236 : decode cX12_init 236 = .ok (.dup, 1) := by decide +kernel
theorem dX12_init_237 : decode cX12_init 237 = .ok (.iconst 3, 1) := by decide +kernel
theorem dX12_init_238 : decode cX12_init 238 = .ok (.iconst 2, 1) := by decide +kernel
theorem dX12_init_239 : decode cX12_init 239 = .ok (.iastore, 1) := by decide +kernel
theorem dX12_init_240 : decode cX12_init 240 = .ok (.dup, 1) := by decide +kernel
theorem dX12_init_241 : decode cX12_init 241 = .ok (.iconst 4, 1) := by decide +kernel
theorem dX12_init_242 : decode cX12_init 242 = .ok (.bipush 9, 2) := by decide +kernel
theorem dX12_init_244 : decode cX12_init 244 = .ok (.iastore, 1) := by decide +kernel
theorem dX12_init_245 : decode cX12_init 245 = .ok (.dup, 1) := by decide +kernel
theorem dX12_init_246 : decode cX12_init 246 = .ok (.iconst 5, 1) := by decide +kernel
theorem dX12_init_247 : decode cX12_init 247 = .ok (.bipush 16, 2) := by decide +kernel
theorem dX12_init_249 : decode cX12_init 249 = .ok (.iastore, 1) := by decide +kernel
theorem dX12_init_250 : decode cX12_init 250 = .ok (.dup, 1) := by decide +kernel
theorem dX12_init_251 : decode cX12_init 251 = .ok (.bipush 6, 2) := by decide +kernel
theorem dX12_init_253 : decode cX12_init 253 = .ok (.bipush 17, 2) := by decide +kernel
theorem dX12_init_255 : decode cX12_init 255 = .ok (.iastore, 1) := by decide +kernel
theorem dX12_init_256 : decode cX12_init 256 = .ok (.dup, 1) := by decide +kernel
theorem dX12_init_257 : decode cX12_init 257 = .ok (.bipush 7, 2) := by decide +kernel
theorem dX12_init_259 : decode cX12_init 259 = .ok (.bipush 18, 2) := by decide +kernel
theorem dX12_init_261 : decode cX12_init 261 = .ok (.iastore, 1) := by decide +kernel
theorem dX12_init_262 : decode cX12_init 262 = .ok (.putfield 90, 3) := by decide +kernel
theorem dX12_init_265 : decode cX12_init 265 = .ok (.aload_n 0, 1) := by decide +kernel
theorem dX12_init_266 : decode cX12_init 266 = .ok (.bipush 8, 2) := by decide +kernel
theorem dX12_init_268 : decode cX12_init 268 = .ok (.newarray .int, 2) := by decide +kernel
theorem dX12_init_270 : decode cX12_init 270 = .ok (.putfield 93, 3) := by decide +kernel
theorem dX12_init_273 : decode cX12_init 273 = .ok (.aload_n 0, 1) := by decide +kernel
theorem dX12_init_274 : decode cX12_init 274 = .ok (.sipush 1100, 3) := by decide +kernel
theorem dX12_init_277 : decode cX12_init 277 = .ok (.newarray .int, 2) := by decide +kernel
theorem dX12_init_279 : decode cX12_init 279 = .ok (.putfield 96, 3) := by decide +kernel
theorem dX12_init_282 : decode cX12_init 282 = .ok (.aload_n 0, 1) := by decide +kernel
theorem dX12_init_283 : decode cX12_init 283 = .ok (.sipush 12840, 3) := by decide +kernel
theorem dX12_init_286 : decode cX12_init 286 = .ok (.newarray .int, 2) := by decide +kernel
theorem dX12_init_288 : decode cX12_init 288 = .ok (.putfield 99, 3) := by decide +kernel
theorem dX12_init_291 : decode cX12_init 291 = .ok (.aload_n 0, 1) := by decide +kernel
theorem dX12_init_292 : decode cX12_init 292 = .ok (.iconst 4, 1) := by decide +kernel
theorem dX12_init_293 : decode cX12_init 293 = .ok (.newarray .boolean, 2) := by decide +kernel
theorem dX12_init_295 : decode cX12_init 295 = .ok (.putfield 102, 3) := by decide +kernel
theorem dX12_init_298 : decode cX12_init 298 = .ok (.aload_n 0, 1) := by decide +kernel
theorem dX12_init_299 : decode cX12_init 299 = .ok (.iconst (-1), 1) := by decide +kernel
theorem dX12_init_300 : decode cX12_init 300 = .ok (.putfield 106, 3) := by decide +kernel
theorem dX12_init_303 : decode cX12_init 303 = .ok (.aload_n 0, 1) := by decide +kernel
theorem dX12_init_304 : decode cX12_init 304 = .ok (.iconst (-1), 1) := by decide +kernel
theorem dX12_init_305 : decode cX12_init 305 = .ok (.putfield 109, 3) := by decide +kernel
theorem dX12_init_308 : decode cX12_init 308 = .ok (.aload_n 0, 1) := by decide +kernel
theorem dX12_init_309 : decode cX12_init 309 = .ok (.bipush 10, 2) := by decide +kernel
theorem dX12_init_311 : decode cX12_init 311 = .ok (.newarray .int, 2) := by decide +kernel
theorem dX12_init_313 : decode cX12_init 313 = .ok (.putfield 112, 3) := by decide +kernel
theorem dX12_init_316 : decode cX12_init 316 = .ok (.aload_n 0, 1) := by decide +kernel
theorem dX12_init_317 : decode cX12_init 317 = .ok (.bipush 10, 2) := by decide +kernel
theorem dX12_init_319 : decode cX12_init 319 = .ok (.newarray .int, 2) := by decide +kernel
theorem dX12_init_321 : decode cX12_init 321 = .ok (.putfield 115, 3) := by decide +kernel
theorem dX12_init_324 : decode cX12_init 324 = .ok (.aload_n 0, 1) := by decide +kernel
theorem dX12_init_325 : decode cX12_init 325 = .ok (.bipush 10, 2) := by decide +kernel
theorem dX12_init_327 : decode cX12_init 327 = .ok (.newarray .int, 2) := by decide +kernel
theorem dX12_init_329 : decode cX12_init 329 = .ok (.putfield 118, 3) := by decide +kernel
theorem dX12_init_332 : decode cX12_init 332 = .ok (.aload_n 0, 1) := by decide +kernel
theorem dX12_init_333 : decode cX12_init 333 = .ok (.bipush 50, 2) := by decide +kernel
theorem dX12_init_335 : decode cX12_init 335 = .ok (.newarray .int, 2) := by decide +kernel
theorem dX12_init_337 : decode cX12_init 337 = .ok (.putfield 121, 3) := by decide +kernel
theorem dX12_init_340 : decode cX12_init 340 = .ok (.aload_n 0, 1) := by decide +kernel
theorem dX12_init_341 : decode cX12_init 341 = .ok (.bipush 10, 2) := by decide +kernel
theorem dX12_init_343 : decode cX12_init 343 = .ok (.newarray .int, 2) := by decide +kernel
theorem dX12_init_345 : decode cX12_init 345 = .ok (.putfield 124, 3) := by decide +kernel
theorem dX12_init_348 : decode cX12_init 348 = .ok (.aload_n 0, 1) := by decide +kernel
theorem dX12_init_349 : decode cX12_init 349 = .ok (.bipush 10, 2) := by decide +kernel
theorem dX12_init_351 : decode cX12_init 351 = .ok (.newarray .int, 2) := by decide +kernel
theorem dX12_init_353 : decode cX12_init 353 = .ok (.putfield 127, 3) := by decide +kernel
theorem dX12_init_356 : decode cX12_init 356 = .ok (.iconst 0, 1) := by decide +kernel
theorem dX12_init_357 : decode cX12_init 357 = .ok (.istore_n 1, 1) := by decide +kernel
theorem dX12_init_358 : decode cX12_init 358 = .ok (.iload_n 1, 1) := by decide +kernel
theorem dX12_init_359 : decode cX12_init 359 = .ok (.iconst 3, 1) := by decide +kernel
theorem dX12_init_360 : decode cX12_init 360 = .ok (.if_icmp .ge 18, 3) := by decide +kernel
theorem dX12_init_363 : decode cX12_init 363 = .ok (.aload_n 0, 1) := by decide +kernel
theorem dX12_init_364 : decode cX12_init 364 = .ok (.getfield 75, 3) := by decide +kernel
theorem dX12_init_367 : decode cX12_init 367 = .ok (.iconst 4, 1) := by decide +kernel
theorem dX12_init_368 : decode cX12_init 368 = .ok (.iload_n 1, 1) := by decide +kernel
theorem dX12_init_369 : decode cX12_init 369 = .ok (.iadd, 1) := by decide +kernel
theorem dX12_init_370 : decode cX12_init 370 = .ok (.iconst (-1), 1) := by decide +kernel
theorem dX12_init_371 : decode cX12_init 371 = .ok (.iastore, 1) := by decide +kernel
theorem dX12_init_372 : decode cX12_init 372 = .ok (.iinc 1 1, 3) := by decide +kernel
theorem dX12_init_375 : decode cX12_init 375 = .ok (.goto (-17), 3) := by decide +kernel
theorem dX12_init_378 : decode cX12_init 378 = .ok (.return_, 1) := by decide +kernel
theorem dX12_isLetter_0 : decode cX12_isLetter 0 = .ok (.iload_n 0, 1) := by decide +kernel
theorem dX12_isLetter_1 : decode cX12_isLetter 1 = .ok (.bipush 97, 2) := by decide +kernel
theorem dX12_isLetter_3 : decode cX12_isLetter 3 = .ok (.if_icmp .lt 13, 3) := by decide +kernel
theorem dX12_isLetter_6 : decode cX12_isLetter 6 = .ok (.iload_n 0, 1) := by decide +kernel
theorem dX12_isLetter_7 : decode cX12_isLetter 7 = .ok (.bipush 122, 2) := by decide +kernel
theorem dX12_isLetter_9 : decode cX12_isLetter 9 = .ok (.if_icmp .gt 7, 3) := by decide +kernel
theorem dX12_isLetter_12 : decode cX12_isLetter 12 = .ok (.iconst 1, 1) := by decide +kernel
theorem dX12_isLetter_13 : decode cX12_isLetter 13 = .ok (.goto 4, 3) := by decide +kernel
theorem dX12_isLetter_16 : decode cX12_isLetter 16 = .ok (.iconst 0, 1) := by decide +kernel
theorem dX12_isLetter_17 : decode cX12_isLetter 17 = .ok (.ireturn, 1) := by decide +kernel
theorem dX12_isDigit_0 : decode cX12_isDigit 0 = .ok (.iload_n 0, 1) := by decide +kernel
theorem dX12_isDigit_1 : decode cX12_isDigit 1 = .ok (.bipush 48, 2) := by decide +kernel
theorem dX12_isDigit_3 : decode cX12_isDigit 3 = .ok (.if_icmp .lt 13, 3) := by decide +kernel
theorem dX12_isDigit_6 : decode cX12_isDigit 6 = .ok (.iload_n 0, 1) := by decide +kernel
theorem dX12_isDigit_7 : decode cX12_isDigit 7 = .ok (.bipush 57, 2) := by decide +kernel
theorem dX12_isDigit_9 : decode cX12_isDigit 9 = .ok (.if_icmp .gt 7, 3) := by decide +kernel
theorem dX12_isDigit_12 : decode cX12_isDigit 12 = .ok (.iconst 1, 1) := by decide +kernel
theorem dX12_isDigit_13 : decode cX12_isDigit 13 = .ok (.goto 4, 3) := by decide +kernel
theorem dX12_isDigit_16 : decode cX12_isDigit 16 = .ok (.iconst 0, 1) := by decide +kernel
theorem dX12_isDigit_17 : decode cX12_isDigit 17 = .ok (.ireturn, 1) := by decide +kernel
theorem dX12_rank_0 : decode cX12_rank 0 = .ok (.iload_n 0, 1) := by decide +kernel
theorem dX12_rank_1 : decode cX12_rank 1 = .ok (.invokestatic 130, 3) := by decide +kernel
theorem dX12_rank_4 : decode cX12_rank 4 = .ok (.ifCond .eq 10, 3) := by decide +kernel
theorem dX12_rank_7 : decode cX12_rank 7 = .ok (.iload_n 0, 1) := by decide +kernel
theorem dX12_rank_8 : decode cX12_rank 8 = .ok (.bipush 96, 2) := by decide +kernel
theorem dX12_rank_10 : decode cX12_rank 10 = .ok (.isub, 1) := by decide +kernel
theorem dX12_rank_11 : decode cX12_rank 11 = .ok (.goto 7, 3) := by decide +kernel
theorem dX12_rank_14 : decode cX12_rank 14 = .ok (.iload_n 0, 1) := by decide +kernel
theorem dX12_rank_15 : decode cX12_rank 15 = .ok (.bipush 21, 2) := by decide +kernel
theorem dX12_rank_17 : decode cX12_rank 17 = .ok (.isub, 1) := by decide +kernel
theorem dX12_rank_18 : decode cX12_rank 18 = .ok (.ireturn, 1) := by decide +kernel
theorem dX12_isSignOf_0 : decode cX12_isSignOf 0 = .ok (.iload_n 0, 1) := by decide +kernel
theorem dX12_isSignOf_1 : decode cX12_isSignOf 1 = .ok (.bipush 40, 2) := by decide +kernel
theorem dX12_isSignOf_3 : decode cX12_isSignOf 3 = .ok (.if_icmp .eq 45, 3) := by decide +kernel
theorem dX12_isSignOf_6 : decode cX12_isSignOf 6 = .ok (.iload_n 0, 1) := by decide +kernel
theorem dX12_isSignOf_7 : decode cX12_isSignOf 7 = .ok (.bipush 41, 2) := by decide +kernel
theorem dX12_isSignOf_9 : decode cX12_isSignOf 9 = .ok (.if_icmp .eq 39, 3) := by decide +kernel
theorem dX12_isSignOf_12 : decode cX12_isSignOf 12 = .ok (.iload_n 0, 1) := by decide +kernel
theorem dX12_isSignOf_13 : decode cX12_isSignOf 13 = .ok (.bipush 59, 2) := by decide +kernel
theorem dX12_isSignOf_15 : decode cX12_isSignOf 15 = .ok (.if_icmp .eq 33, 3) := by decide +kernel
theorem dX12_isSignOf_18 : decode cX12_isSignOf 18 = .ok (.iload_n 0, 1) := by decide +kernel
theorem dX12_isSignOf_19 : decode cX12_isSignOf 19 = .ok (.bipush 61, 2) := by decide +kernel
theorem dX12_isSignOf_21 : decode cX12_isSignOf 21 = .ok (.if_icmp .eq 27, 3) := by decide +kernel
theorem dX12_isSignOf_24 : decode cX12_isSignOf 24 = .ok (.iload_n 0, 1) := by decide +kernel
theorem dX12_isSignOf_25 : decode cX12_isSignOf 25 = .ok (.bipush 60, 2) := by decide +kernel
theorem dX12_isSignOf_27 : decode cX12_isSignOf 27 = .ok (.if_icmp .eq 21, 3) := by decide +kernel
theorem dX12_isSignOf_30 : decode cX12_isSignOf 30 = .ok (.iload_n 0, 1) := by decide +kernel
theorem dX12_isSignOf_31 : decode cX12_isSignOf 31 = .ok (.bipush 43, 2) := by decide +kernel
theorem dX12_isSignOf_33 : decode cX12_isSignOf 33 = .ok (.if_icmp .eq 15, 3) := by decide +kernel
theorem dX12_isSignOf_36 : decode cX12_isSignOf 36 = .ok (.iload_n 0, 1) := by decide +kernel
theorem dX12_isSignOf_37 : decode cX12_isSignOf 37 = .ok (.bipush 45, 2) := by decide +kernel
theorem dX12_isSignOf_39 : decode cX12_isSignOf 39 = .ok (.if_icmp .eq 9, 3) := by decide +kernel
theorem dX12_isSignOf_42 : decode cX12_isSignOf 42 = .ok (.iload_n 0, 1) := by decide +kernel
theorem dX12_isSignOf_43 : decode cX12_isSignOf 43 = .ok (.bipush 42, 2) := by decide +kernel
theorem dX12_isSignOf_45 : decode cX12_isSignOf 45 = .ok (.if_icmp .ne 7, 3) := by decide +kernel
theorem dX12_isSignOf_48 : decode cX12_isSignOf 48 = .ok (.iconst 1, 1) := by decide +kernel
theorem dX12_isSignOf_49 : decode cX12_isSignOf 49 = .ok (.goto 4, 3) := by decide +kernel
theorem dX12_isSignOf_52 : decode cX12_isSignOf 52 = .ok (.iconst 0, 1) := by decide +kernel
theorem dX12_isSignOf_53 : decode cX12_isSignOf 53 = .ok (.ireturn, 1) := by decide +kernel
theorem dX12_cutAll_0 : decode cX12_cutAll 0 = .ok (.aload_n 0, 1) := by decide +kernel
theorem dX12_cutAll_1 : decode cX12_cutAll 1 = .ok (.aload_n 0, 1) := by decide +kernel
theorem dX12_cutAll_2 : decode cX12_cutAll 2 = .ok (.getfield 11, 3) := by decide +kernel
theorem dX12_cutAll_5 : decode cX12_cutAll 5 = .ok (.putfield 134, 3) := by decide +kernel
theorem dX12_cutAll_8 : decode cX12_cutAll 8 = .ok (.aload_n 0, 1) := by decide +kernel
theorem dX12_cutAll_9 : decode cX12_cutAll 9 = .ok (.iconst 0, 1) := by decide +kernel
theorem dX12_cutAll_10 : decode cX12_cutAll 10 = .ok (.putfield 11, 3) := by decide +kernel
theorem dX12_cutAll_13 : decode cX12_cutAll 13 = .ok (.iconst 0, 1) := by decide +kernel
theorem dX12_cutAll_14 : decode cX12_cutAll 14 = .ok (.istore_n 1, 1) := by decide +kernel
theorem dX12_cutAll_15 : decode cX12_cutAll 15 = .ok (.iconst 0, 1) := by decide +kernel
theorem dX12_cutAll_16 : decode cX12_cutAll 16 = .ok (.istore_n 2, 1) := by decide +kernel
theorem dX12_cutAll_17 : decode cX12_cutAll 17 = .ok (.iload_n 2, 1) := by decide +kernel
theorem dX12_cutAll_18 : decode cX12_cutAll 18 = .ok (.aload_n 0, 1) := by decide +kernel
theorem dX12_cutAll_19 : decode cX12_cutAll 19 = .ok (.getfield 134, 3) := by decide +kernel
theorem dX12_cutAll_22 : decode cX12_cutAll 22 = .ok (.if_icmp .ge 257, 3) := by decide +kernel
theorem dX12_cutAll_25 : decode cX12_cutAll 25 = .ok (.aload_n 0, 1) := by decide +kernel
theorem dX12_cutAll_26 : decode cX12_cutAll 26 = .ok (.getfield 14, 3) := by decide +kernel
theorem dX12_cutAll_29 : decode cX12_cutAll 29 = .ok (.iload_n 2, 1) := by decide +kernel
theorem dX12_cutAll_30 : decode cX12_cutAll 30 = .ok (.iaload, 1) := by decide +kernel
theorem dX12_cutAll_31 : decode cX12_cutAll 31 = .ok (.istore_n 3, 1) := by decide +kernel
theorem dX12_cutAll_32 : decode cX12_cutAll 32 = .ok (.iload_n 3, 1) := by decide +kernel
theorem dX12_cutAll_33 : decode cX12_cutAll 33 = .ok (.bipush 10, 2) := by decide +kernel
theorem dX12_cutAll_35 : decode cX12_cutAll 35 = .ok (.if_icmp .eq 9, 3) := by decide +kernel
theorem dX12_cutAll_38 : decode cX12_cutAll 38 = .ok (.iload_n 3, 1) := by decide +kernel
theorem dX12_cutAll_39 : decode cX12_cutAll 39 = .ok (.bipush 32, 2) := by decide +kernel
theorem dX12_cutAll_41 : decode cX12_cutAll 41 = .ok (.if_icmp .ne 9, 3) := by decide +kernel
theorem dX12_cutAll_44 : decode cX12_cutAll 44 = .ok (.iinc 2 1, 3) := by decide +kernel
theorem dX12_cutAll_47 : decode cX12_cutAll 47 = .ok (.goto (-30), 3) := by decide +kernel
theorem dX12_cutAll_50 : decode cX12_cutAll 50 = .ok (.iload_n 2, 1) := by decide +kernel
theorem dX12_cutAll_51 : decode cX12_cutAll 51 = .ok (.istore 4, 2) := by decide +kernel
theorem dX12_cutAll_53 : decode cX12_cutAll 53 = .ok (.lconst 0, 1) := by decide +kernel
theorem dX12_cutAll_54 : decode cX12_cutAll 54 = .ok (.lstore 5, 2) := by decide +kernel
theorem dX12_cutAll_56 : decode cX12_cutAll 56 = .ok (.aload_n 0, 1) := by decide +kernel
theorem dX12_cutAll_57 : decode cX12_cutAll 57 = .ok (.getfield 27, 3) := by decide +kernel
theorem dX12_cutAll_60 : decode cX12_cutAll 60 = .ok (.iload_n 1, 1) := by decide +kernel
theorem dX12_cutAll_61 : decode cX12_cutAll 61 = .ok (.iload_n 2, 1) := by decide +kernel
theorem dX12_cutAll_62 : decode cX12_cutAll 62 = .ok (.iastore, 1) := by decide +kernel
theorem dX12_cutAll_63 : decode cX12_cutAll 63 = .ok (.iload_n 3, 1) := by decide +kernel
theorem dX12_cutAll_64 : decode cX12_cutAll 64 = .ok (.invokestatic 130, 3) := by decide +kernel
theorem dX12_cutAll_67 : decode cX12_cutAll 67 = .ok (.ifCond .eq 85, 3) := by decide +kernel
theorem dX12_cutAll_70 : decode cX12_cutAll 70 = .ok (.iload_n 2, 1) := by decide +kernel
theorem dX12_cutAll_71 : decode cX12_cutAll 71 = .ok (.aload_n 0, 1) := by decide +kernel
theorem dX12_cutAll_72 : decode cX12_cutAll 72 = .ok (.getfield 134, 3) := by decide +kernel
theorem dX12_cutAll_75 : decode cX12_cutAll 75 = .ok (.if_icmp .ge 54, 3) := by decide +kernel
theorem dX12_cutAll_78 : decode cX12_cutAll 78 = .ok (.aload_n 0, 1) := by decide +kernel
theorem dX12_cutAll_79 : decode cX12_cutAll 79 = .ok (.getfield 14, 3) := by decide +kernel
theorem dX12_cutAll_82 : decode cX12_cutAll 82 = .ok (.iload_n 2, 1) := by decide +kernel
theorem dX12_cutAll_83 : decode cX12_cutAll 83 = .ok (.iaload, 1) := by decide +kernel
theorem dX12_cutAll_84 : decode cX12_cutAll 84 = .ok (.invokestatic 130, 3) := by decide +kernel
theorem dX12_cutAll_87 : decode cX12_cutAll 87 = .ok (.ifCond .eq 42, 3) := by decide +kernel
theorem dX12_cutAll_90 : decode cX12_cutAll 90 = .ok (.iload_n 2, 1) := by decide +kernel
theorem dX12_cutAll_91 : decode cX12_cutAll 91 = .ok (.iload 4, 2) := by decide +kernel
theorem dX12_cutAll_93 : decode cX12_cutAll 93 = .ok (.isub, 1) := by decide +kernel
theorem dX12_cutAll_94 : decode cX12_cutAll 94 = .ok (.bipush 8, 2) := by decide +kernel
theorem dX12_cutAll_96 : decode cX12_cutAll 96 = .ok (.if_icmp .ge 23, 3) := by decide +kernel
theorem dX12_cutAll_99 : decode cX12_cutAll 99 = .ok (.ldc2_w 137, 3) := by decide +kernel
theorem dX12_cutAll_102 : decode cX12_cutAll 102 = .ok (.lload 5, 2) := by decide +kernel
theorem dX12_cutAll_104 : decode cX12_cutAll 104 = .ok (.lmul, 1) := by decide +kernel
theorem dX12_cutAll_105 : decode cX12_cutAll 105 = .ok (.aload_n 0, 1) := by decide +kernel
theorem dX12_cutAll_106 : decode cX12_cutAll 106 = .ok (.getfield 14, 3) := by decide +kernel
theorem dX12_cutAll_109 : decode cX12_cutAll 109 = .ok (.iload_n 2, 1) := by decide +kernel
theorem dX12_cutAll_110 : decode cX12_cutAll 110 = .ok (.iaload, 1) := by decide +kernel
theorem dX12_cutAll_111 : decode cX12_cutAll 111 = .ok (.invokestatic 139, 3) := by decide +kernel
theorem dX12_cutAll_114 : decode cX12_cutAll 114 = .ok (.i2l, 1) := by decide +kernel
theorem dX12_cutAll_115 : decode cX12_cutAll 115 = .ok (.ladd, 1) := by decide +kernel
theorem dX12_cutAll_116 : decode cX12_cutAll 116 = .ok (.goto 5, 3) := by decide +kernel
theorem dX12_cutAll_119 : decode cX12_cutAll 119 = .ok (.lload 5, 2) := by decide +kernel
theorem dX12_cutAll_121 : decode cX12_cutAll 121 = .ok (.lstore 5, 2) := by decide +kernel
theorem dX12_cutAll_123 : decode cX12_cutAll 123 = .ok (.iinc 2 1, 3) := by decide +kernel
theorem dX12_cutAll_126 : decode cX12_cutAll 126 = .ok (.goto (-56), 3) := by decide +kernel
theorem dX12_cutAll_129 : decode cX12_cutAll 129 = .ok (.aload_n 0, 1) := by decide +kernel
theorem dX12_cutAll_130 : decode cX12_cutAll 130 = .ok (.getfield 24, 3) := by decide +kernel
theorem dX12_cutAll_133 : decode cX12_cutAll 133 = .ok (.iload_n 1, 1) := by decide +kernel
theorem dX12_cutAll_134 : decode cX12_cutAll 134 = .ok (.iload_n 2, 1) := by decide +kernel
theorem dX12_cutAll_135 : decode cX12_cutAll 135 = .ok (.iload 4, 2) := by decide +kernel
theorem dX12_cutAll_137 : decode cX12_cutAll 137 = .ok (.isub, 1) := by decide +kernel
theorem dX12_cutAll_138 : decode cX12_cutAll 138 = .ok (.bipush 8, 2) := by decide +kernel
theorem dX12_cutAll_140 : decode cX12_cutAll 140 = .ok (.if_icmp .le 7, 3) := by decide +kernel
theorem dX12_cutAll_143 : decode cX12_cutAll 143 = .ok (.iconst 4, 1) := by decide +kernel
theorem dX12_cutAll_144 : decode cX12_cutAll 144 = .ok (.goto 4, 3) := by decide +kernel
theorem dX12_cutAll_147 : decode cX12_cutAll 147 = .ok (.iconst 1, 1) := by decide +kernel
theorem dX12_cutAll_148 : decode cX12_cutAll 148 = .ok (.iastore, 1) := by decide +kernel
theorem dX12_cutAll_149 : decode cX12_cutAll 149 = .ok (.goto 116, 3) := by decide +kernel
theorem dX12_cutAll_152 : decode cX12_cutAll 152 = .ok (.iload_n 3, 1) := by decide +kernel
theorem dX12_cutAll_153 : decode cX12_cutAll 153 = .ok (.invokestatic 143, 3) := by decide +kernel
theorem dX12_cutAll_156 : decode cX12_cutAll 156 = .ok (.ifCond .eq 84, 3) := by decide +kernel
theorem dX12_cutAll_159 : decode cX12_cutAll 159 = .ok (.iload_n 2, 1) := by decide +kernel
theorem dX12_cutAll_160 : decode cX12_cutAll 160 = .ok (.aload_n 0, 1) := by decide +kernel
theorem dX12_cutAll_161 : decode cX12_cutAll 161 = .ok (.getfield 134, 3) := by decide +kernel
theorem dX12_cutAll_164 : decode cX12_cutAll 164 = .ok (.if_icmp .ge 54, 3) := by decide +kernel
theorem dX12_cutAll_167 : decode cX12_cutAll 167 = .ok (.aload_n 0, 1) := by decide +kernel
theorem dX12_cutAll_168 : decode cX12_cutAll 168 = .ok (.getfield 14, 3) := by decide +kernel
theorem dX12_cutAll_171 : decode cX12_cutAll 171 = .ok (.iload_n 2, 1) := by decide +kernel
theorem dX12_cutAll_172 : decode cX12_cutAll 172 = .ok (.iaload, 1) := by decide +kernel
theorem dX12_cutAll_173 : decode cX12_cutAll 173 = .ok (.invokestatic 143, 3) := by decide +kernel
theorem dX12_cutAll_176 : decode cX12_cutAll 176 = .ok (.ifCond .eq 42, 3) := by decide +kernel
theorem dX12_cutAll_179 : decode cX12_cutAll 179 = .ok (.iload_n 2, 1) := by decide +kernel
theorem dX12_cutAll_180 : decode cX12_cutAll 180 = .ok (.iload 4, 2) := by decide +kernel
theorem dX12_cutAll_182 : decode cX12_cutAll 182 = .ok (.isub, 1) := by decide +kernel
theorem dX12_cutAll_183 : decode cX12_cutAll 183 = .ok (.iconst 4, 1) := by decide +kernel
theorem dX12_cutAll_184 : decode cX12_cutAll 184 = .ok (.if_icmp .ge 24, 3) := by decide +kernel
theorem dX12_cutAll_187 : decode cX12_cutAll 187 = .ok (.ldc2_w 146, 3) := by decide +kernel
theorem dX12_cutAll_190 : decode cX12_cutAll 190 = .ok (.lload 5, 2) := by decide +kernel
theorem dX12_cutAll_192 : decode cX12_cutAll 192 = .ok (.lmul, 1) := by decide +kernel
theorem dX12_cutAll_193 : decode cX12_cutAll 193 = .ok (.aload_n 0, 1) := by decide +kernel
theorem dX12_cutAll_194 : decode cX12_cutAll 194 = .ok (.getfield 14, 3) := by decide +kernel
theorem dX12_cutAll_197 : decode cX12_cutAll 197 = .ok (.iload_n 2, 1) := by decide +kernel
theorem dX12_cutAll_198 : decode cX12_cutAll 198 = .ok (.iaload, 1) := by decide +kernel
theorem dX12_cutAll_199 : decode cX12_cutAll 199 = .ok (.i2l, 1) := by decide +kernel
theorem dX12_cutAll_200 : decode cX12_cutAll 200 = .ok (.ladd, 1) := by decide +kernel
theorem dX12_cutAll_201 : decode cX12_cutAll 201 = .ok (.ldc2_w 148, 3) := by decide +kernel
theorem dX12_cutAll_204 : decode cX12_cutAll 204 = .ok (.lsub, 1) := by decide +kernel
theorem dX12_cutAll_205 : decode cX12_cutAll 205 = .ok (.goto 5, 3) := by decide +kernel
theorem dX12_cutAll_208 : decode cX12_cutAll 208 = .ok (.lload 5, 2) := by decide +kernel
theorem dX12_cutAll_210 : decode cX12_cutAll 210 = .ok (.lstore 5, 2) := by decide +kernel
theorem dX12_cutAll_212 : decode cX12_cutAll 212 = .ok (.iinc 2 1, 3) := by decide +kernel
theorem dX12_cutAll_215 : decode cX12_cutAll 215 = .ok (.goto (-56), 3) := by decide +kernel
theorem dX12_cutAll_218 : decode cX12_cutAll 218 = .ok (.aload_n 0, 1) := by decide +kernel
theorem dX12_cutAll_219 : decode cX12_cutAll 219 = .ok (.getfield 24, 3) := by decide +kernel
theorem dX12_cutAll_222 : decode cX12_cutAll 222 = .ok (.iload_n 1, 1) := by decide +kernel
theorem dX12_cutAll_223 : decode cX12_cutAll 223 = .ok (.iload_n 2, 1) := by decide +kernel
theorem dX12_cutAll_224 : decode cX12_cutAll 224 = .ok (.iload 4, 2) := by decide +kernel
theorem dX12_cutAll_226 : decode cX12_cutAll 226 = .ok (.isub, 1) := by decide +kernel
theorem dX12_cutAll_227 : decode cX12_cutAll 227 = .ok (.iconst 4, 1) := by decide +kernel
theorem dX12_cutAll_228 : decode cX12_cutAll 228 = .ok (.if_icmp .le 7, 3) := by decide +kernel
theorem dX12_cutAll_231 : decode cX12_cutAll 231 = .ok (.iconst 4, 1) := by decide +kernel
theorem dX12_cutAll_232 : decode cX12_cutAll 232 = .ok (.goto 4, 3) := by decide +kernel
theorem dX12_cutAll_235 : decode cX12_cutAll 235 = .ok (.iconst 2, 1) := by decide +kernel
theorem dX12_cutAll_236 : decode cX12_cutAll 236 = .ok (.iastore, 1) := by decide +kernel
theorem dX12_cutAll_237 : decode cX12_cutAll 237 = .ok (.goto 28, 3) := by decide +kernel
theorem dX12_cutAll_240 : decode cX12_cutAll 240 = .ok (.iload_n 3, 1) := by decide +kernel
theorem dX12_cutAll_241 : decode cX12_cutAll 241 = .ok (.i2l, 1) := by decide +kernel
theorem dX12_cutAll_242 : decode cX12_cutAll 242 = .ok (.lstore 5, 2) := by decide +kernel
theorem dX12_cutAll_244 : decode cX12_cutAll 244 = .ok (.aload_n 0, 1) := by decide +kernel
theorem dX12_cutAll_245 : decode cX12_cutAll 245 = .ok (.getfield 24, 3) := by decide +kernel
theorem dX12_cutAll_248 : decode cX12_cutAll 248 = .ok (.iload_n 1, 1) := by decide +kernel
theorem dX12_cutAll_249 : decode cX12_cutAll 249 = .ok (.iload_n 3, 1) := by decide +kernel
theorem dX12_cutAll_250 : decode cX12_cutAll 250 = .ok (.invokestatic 150, 3) := by decide +kernel
theorem dX12_cutAll_253 : decode cX12_cutAll 253 = .ok (.ifCond .eq 7, 3) := by decide +kernel
theorem dX12_cutAll_256 : decode cX12_cutAll 256 = .ok (.iconst 3, 1) := by decide +kernel
theorem dX12_cutAll_257 : decode cX12_cutAll 257 = .ok (.goto 4, 3) := by decide +kernel
theorem dX12_cutAll_260 : decode cX12_cutAll 260 = .ok (.iconst 4, 1) := by decide +kernel
theorem dX12_cutAll_261 : decode cX12_cutAll 261 = .ok (.iastore, 1) := by decide +kernel
theorem dX12_cutAll_262 : decode cX12_cutAll 262 = .ok (.iinc 2 1, 3) := by decide +kernel
theorem dX12_cutAll_265 : decode cX12_cutAll 265 = .ok (.aload_n 0, 1) := by decide +kernel
theorem dX12_cutAll_266 : decode cX12_cutAll 266 = .ok (.getfield 30, 3) := by decide +kernel
theorem dX12_cutAll_269 : decode cX12_cutAll 269 = .ok (.iload_n 1, 1) := by decide +kernel
theorem dX12_cutAll_270 : decode cX12_cutAll 270 = .ok (.lload 5, 2) := by decide +kernel
theorem dX12_cutAll_272 : decode cX12_cutAll 272 = .ok (.lastore, 1) := by decide +kernel
theorem dX12_cutAll_273 : decode cX12_cutAll 273 = .ok (.iinc 1 1, 3) := by decide +kernel
theorem dX12_cutAll_276 : decode cX12_cutAll 276 = .ok (.goto (-259), 3) := by decide +kernel
theorem dX12_cutAll_279 : decode cX12_cutAll 279 = .ok (.aload_n 0, 1) := by decide +kernel
theorem dX12_cutAll_280 : decode cX12_cutAll 280 = .ok (.getfield 24, 3) := by decide +kernel
theorem dX12_cutAll_283 : decode cX12_cutAll 283 = .ok (.iload_n 1, 1) := by decide +kernel
theorem dX12_cutAll_284 : decode cX12_cutAll 284 = .ok (.iconst 0, 1) := by decide +kernel
theorem dX12_cutAll_285 : decode cX12_cutAll 285 = .ok (.iastore, 1) := by decide +kernel
theorem dX12_cutAll_286 : decode cX12_cutAll 286 = .ok (.aload_n 0, 1) := by decide +kernel
theorem dX12_cutAll_287 : decode cX12_cutAll 287 = .ok (.getfield 27, 3) := by decide +kernel
theorem dX12_cutAll_290 : decode cX12_cutAll 290 = .ok (.iload_n 1, 1) := by decide +kernel
theorem dX12_cutAll_291 : decode cX12_cutAll 291 = .ok (.aload_n 0, 1) := by decide +kernel
theorem dX12_cutAll_292 : decode cX12_cutAll 292 = .ok (.getfield 134, 3) := by decide +kernel
theorem dX12_cutAll_295 : decode cX12_cutAll 295 = .ok (.iastore, 1) := by decide +kernel
theorem dX12_cutAll_296 : decode cX12_cutAll 296 = .ok (.aload_n 0, 1) := by decide +kernel
theorem dX12_cutAll_297 : decode cX12_cutAll 297 = .ok (.iconst 0, 1) := by decide +kernel
theorem dX12_cutAll_298 : decode cX12_cutAll 298 = .ok (.putfield 153, 3) := by decide +kernel
theorem dX12_cutAll_301 : decode cX12_cutAll 301 = .ok (.aload_n 0, 1) := by decide +kernel
theorem dX12_cutAll_302 : decode cX12_cutAll 302 = .ok (.iconst 0, 1) := by decide +kernel
theorem dX12_cutAll_303 : decode cX12_cutAll 303 = .ok (.putfield 156, 3) := by decide +kernel
theorem dX12_cutAll_306 : decode cX12_cutAll 306 = .ok (.return_, 1) := by decide +kernel
theorem dX12_wrong_0 : decode cX12_wrong 0 = .ok (.aload_n 0, 1) := by decide +kernel
theorem dX12_wrong_1 : decode cX12_wrong 1 = .ok (.getfield 156, 3) := by decide +kernel
theorem dX12_wrong_4 : decode cX12_wrong 4 = .ok (.ifCond .ne 21, 3) := by decide +kernel
theorem dX12_wrong_7 : decode cX12_wrong 7 = .ok (.aload_n 0, 1) := by decide +kernel
theorem dX12_wrong_8 : decode cX12_wrong 8 = .ok (.iload_n 1, 1) := by decide +kernel
theorem dX12_wrong_9 : decode cX12_wrong 9 = .ok (.bipush 16, 2) := by decide +kernel
theorem dX12_wrong_11 : decode cX12_wrong 11 = .ok (.aload_n 0, 1) := by decide +kernel
theorem dX12_wrong_12 : decode cX12_wrong 12 = .ok (.getfield 27, 3) := by decide +kernel
theorem dX12_wrong_15 : decode cX12_wrong 15 = .ok (.aload_n 0, 1) := by decide +kernel
theorem dX12_wrong_16 : decode cX12_wrong 16 = .ok (.getfield 153, 3) := by decide +kernel
theorem dX12_wrong_19 : decode cX12_wrong 19 = .ok (.iaload, 1) := by decide +kernel
theorem dX12_wrong_20 : decode cX12_wrong 20 = .ok (.imul, 1) := by decide +kernel
theorem dX12_wrong_21 : decode cX12_wrong 21 = .ok (.iadd, 1) := by decide +kernel
theorem dX12_wrong_22 : decode cX12_wrong 22 = .ok (.putfield 156, 3) := by decide +kernel
theorem dX12_wrong_25 : decode cX12_wrong 25 = .ok (.return_, 1) := by decide +kernel
theorem dX12_isSign_0 : decode cX12_isSign 0 = .ok (.aload_n 0, 1) := by decide +kernel
theorem dX12_isSign_1 : decode cX12_isSign 1 = .ok (.getfield 156, 3) := by decide +kernel
theorem dX12_isSign_4 : decode cX12_isSign 4 = .ok (.ifCond .ne 35, 3) := by decide +kernel
theorem dX12_isSign_7 : decode cX12_isSign 7 = .ok (.aload_n 0, 1) := by decide +kernel
theorem dX12_isSign_8 : decode cX12_isSign 8 = .ok (.getfield 24, 3) := by decide +kernel
theorem dX12_isSign_11 : decode cX12_isSign 11 = .ok (.aload_n 0, 1) := by decide +kernel
theorem dX12_isSign_12 : decode cX12_isSign 12 = .ok (.getfield 153, 3) := by decide +kernel
theorem dX12_isSign_15 : decode cX12_isSign 15 = .ok (.iaload, 1) := by decide +kernel
theorem dX12_isSign_16 : decode cX12_isSign 16 = .ok (.iconst 3, 1) := by decide +kernel
theorem dX12_isSign_17 : decode cX12_isSign 17 = .ok (.if_icmp .ne 22, 3) := by decide +kernel
theorem dX12_isSign_20 : decode cX12_isSign 20 = .ok (.aload_n 0, 1) := by decide +kernel
theorem dX12_isSign_21 : decode cX12_isSign 21 = .ok (.getfield 30, 3) := by decide +kernel
theorem dX12_isSign_24 : decode cX12_isSign 24 = .ok (.aload_n 0, 1) := by decide +kernel
theorem dX12_isSign_25 : decode cX12_isSign 25 = .ok (.getfield 153, 3) := by decide +kernel
theorem dX12_isSign_28 : decode cX12_isSign 28 = .ok (.laload, 1) := by decide +kernel
theorem dX12_isSign_29 : decode cX12_isSign 29 = .ok (.iload_n 1, 1) := by decide +kernel
theorem dX12_isSign_30 : decode cX12_isSign 30 = .ok (.i2l, 1) := by decide +kernel
theorem dX12_isSign_31 : decode cX12_isSign 31 = .ok (.lcmp, 1) := by decide +kernel
theorem dX12_isSign_32 : decode cX12_isSign 32 = .ok (.ifCond .ne 7, 3) := by decide +kernel
theorem dX12_isSign_35 : decode cX12_isSign 35 = .ok (.iconst 1, 1) := by decide +kernel
theorem dX12_isSign_36 : decode cX12_isSign 36 = .ok (.goto 4, 3) := by decide +kernel
theorem dX12_isSign_39 : decode cX12_isSign 39 = .ok (.iconst 0, 1) := by decide +kernel
theorem dX12_isSign_40 : decode cX12_isSign 40 = .ok (.ireturn, 1) := by decide +kernel
theorem dX12_isWord_0 : decode cX12_isWord 0 = .ok (.aload_n 0, 1) := by decide +kernel
theorem dX12_isWord_1 : decode cX12_isWord 1 = .ok (.getfield 156, 3) := by decide +kernel
theorem dX12_isWord_4 : decode cX12_isWord 4 = .ok (.ifCond .ne 39, 3) := by decide +kernel
theorem dX12_isWord_7 : decode cX12_isWord 7 = .ok (.aload_n 0, 1) := by decide +kernel
theorem dX12_isWord_8 : decode cX12_isWord 8 = .ok (.getfield 24, 3) := by decide +kernel
theorem dX12_isWord_11 : decode cX12_isWord 11 = .ok (.aload_n 0, 1) := by decide +kernel
theorem dX12_isWord_12 : decode cX12_isWord 12 = .ok (.getfield 153, 3) := by decide +kernel
theorem dX12_isWord_15 : decode cX12_isWord 15 = .ok (.iaload, 1) := by decide +kernel
theorem dX12_isWord_16 : decode cX12_isWord 16 = .ok (.iconst 1, 1) := by decide +kernel
theorem dX12_isWord_17 : decode cX12_isWord 17 = .ok (.if_icmp .ne 26, 3) := by decide +kernel
theorem dX12_isWord_20 : decode cX12_isWord 20 = .ok (.aload_n 0, 1) := by decide +kernel
theorem dX12_isWord_21 : decode cX12_isWord 21 = .ok (.getfield 30, 3) := by decide +kernel
theorem dX12_isWord_24 : decode cX12_isWord 24 = .ok (.aload_n 0, 1) := by decide +kernel
theorem dX12_isWord_25 : decode cX12_isWord 25 = .ok (.getfield 153, 3) := by decide +kernel
theorem dX12_isWord_28 : decode cX12_isWord 28 = .ok (.laload, 1) := by decide +kernel
theorem dX12_isWord_29 : decode cX12_isWord 29 = .ok (.aload_n 0, 1) := by decide +kernel
theorem dX12_isWord_30 : decode cX12_isWord 30 = .ok (.getfield 72, 3) := by decide +kernel
theorem dX12_isWord_33 : decode cX12_isWord 33 = .ok (.iload_n 1, 1) := by decide +kernel
theorem dX12_isWord_34 : decode cX12_isWord 34 = .ok (.laload, 1) := by decide +kernel
theorem dX12_isWord_35 : decode cX12_isWord 35 = .ok (.lcmp, 1) := by decide +kernel
theorem dX12_isWord_36 : decode cX12_isWord 36 = .ok (.ifCond .ne 7, 3) := by decide +kernel
theorem dX12_isWord_39 : decode cX12_isWord 39 = .ok (.iconst 1, 1) := by decide +kernel
theorem dX12_isWord_40 : decode cX12_isWord 40 = .ok (.goto 4, 3) := by decide +kernel
theorem dX12_isWord_43 : decode cX12_isWord 43 = .ok (.iconst 0, 1) := by decide +kernel
theorem dX12_isWord_44 : decode cX12_isWord 44 = .ok (.ireturn, 1) := by decide +kernel
theorem dX12_takeSign_0 : decode cX12_takeSign 0 = .ok (.aload_n 0, 1) := by decide +kernel
theorem dX12_takeSign_1 : decode cX12_takeSign 1 = .ok (.iload_n 1, 1) := by decide +kernel
theorem dX12_takeSign_2 : decode cX12_takeSign 2 = .ok (.invokevirtual 159, 3) := by decide +kernel
theorem dX12_takeSign_5 : decode cX12_takeSign 5 = .ok (.ifCond .eq 16, 3) := by decide +kernel
theorem dX12_takeSign_8 : decode cX12_takeSign 8 = .ok (.aload_n 0, 1) := by decide +kernel
theorem dX12_takeSign_9 : decode cX12_takeSign 9 = .ok (.dup, 1) := by decide +kernel
theorem dX12_takeSign_10 : decode cX12_takeSign 10 = .ok (.getfield 153, 3) := by decide +kernel
theorem dX12_takeSign_13 : decode cX12_takeSign 13 = .ok (.iconst 1, 1) := by decide +kernel
theorem dX12_takeSign_14 : decode cX12_takeSign 14 = .ok (.iadd, 1) := by decide +kernel
theorem dX12_takeSign_15 : decode cX12_takeSign 15 = .ok (.putfield 153, 3) := by decide +kernel
theorem dX12_takeSign_18 : decode cX12_takeSign 18 = .ok (.goto 8, 3) := by decide +kernel
theorem dX12_takeSign_21 : decode cX12_takeSign 21 = .ok (.aload_n 0, 1) := by decide +kernel
theorem dX12_takeSign_22 : decode cX12_takeSign 22 = .ok (.iconst 1, 1) := by decide +kernel
theorem dX12_takeSign_23 : decode cX12_takeSign 23 = .ok (.invokevirtual 162, 3) := by decide +kernel
theorem dX12_takeSign_26 : decode cX12_takeSign 26 = .ok (.return_, 1) := by decide +kernel
theorem dX12_hasSign_0 : decode cX12_hasSign 0 = .ok (.aload_n 0, 1) := by decide +kernel
theorem dX12_hasSign_1 : decode cX12_hasSign 1 = .ok (.iload_n 1, 1) := by decide +kernel
theorem dX12_hasSign_2 : decode cX12_hasSign 2 = .ok (.invokevirtual 159, 3) := by decide +kernel
theorem dX12_hasSign_5 : decode cX12_hasSign 5 = .ok (.istore_n 2, 1) := by decide +kernel
theorem dX12_hasSign_6 : decode cX12_hasSign 6 = .ok (.aload_n 0, 1) := by decide +kernel
theorem dX12_hasSign_7 : decode cX12_hasSign 7 = .ok (.dup, 1) := by decide +kernel
theorem dX12_hasSign_8 : decode cX12_hasSign 8 = .ok (.getfield 153, 3) := by decide +kernel
theorem dX12_hasSign_11 : decode cX12_hasSign 11 = .ok (.iload_n 2, 1) := by decide +kernel
theorem dX12_hasSign_12 : decode cX12_hasSign 12 = .ok (.ifCond .eq 7, 3) := by decide +kernel
theorem dX12_hasSign_15 : decode cX12_hasSign 15 = .ok (.iconst 1, 1) := by decide +kernel
theorem dX12_hasSign_16 : decode cX12_hasSign 16 = .ok (.goto 4, 3) := by decide +kernel
theorem dX12_hasSign_19 : decode cX12_hasSign 19 = .ok (.iconst 0, 1) := by decide +kernel
theorem dX12_hasSign_20 : decode cX12_hasSign 20 = .ok (.iadd, 1) := by decide +kernel
theorem dX12_hasSign_21 : decode cX12_hasSign 21 = .ok (.putfield 153, 3) := by decide +kernel
theorem dX12_hasSign_24 : decode cX12_hasSign 24 = .ok (.iload_n 2, 1) := by decide +kernel
theorem dX12_hasSign_25 : decode cX12_hasSign 25 = .ok (.ireturn, 1) := by decide +kernel
theorem dX12_hasWord_0 : decode cX12_hasWord 0 = .ok (.aload_n 0, 1) := by decide +kernel
theorem dX12_hasWord_1 : decode cX12_hasWord 1 = .ok (.iload_n 1, 1) := by decide +kernel
theorem dX12_hasWord_2 : decode cX12_hasWord 2 = .ok (.invokevirtual 166, 3) := by decide +kernel
theorem dX12_hasWord_5 : decode cX12_hasWord 5 = .ok (.istore_n 2, 1) := by decide +kernel
theorem dX12_hasWord_6 : decode cX12_hasWord 6 = .ok (.aload_n 0, 1) := by decide +kernel
theorem dX12_hasWord_7 : decode cX12_hasWord 7 = .ok (.dup, 1) := by decide +kernel
theorem dX12_hasWord_8 : decode cX12_hasWord 8 = .ok (.getfield 153, 3) := by decide +kernel
theorem dX12_hasWord_11 : decode cX12_hasWord 11 = .ok (.iload_n 2, 1) := by decide +kernel
theorem dX12_hasWord_12 : decode cX12_hasWord 12 = .ok (.ifCond .eq 7, 3) := by decide +kernel
theorem dX12_hasWord_15 : decode cX12_hasWord 15 = .ok (.iconst 1, 1) := by decide +kernel
theorem dX12_hasWord_16 : decode cX12_hasWord 16 = .ok (.goto 4, 3) := by decide +kernel
theorem dX12_hasWord_19 : decode cX12_hasWord 19 = .ok (.iconst 0, 1) := by decide +kernel
theorem dX12_hasWord_20 : decode cX12_hasWord 20 = .ok (.iadd, 1) := by decide +kernel
theorem dX12_hasWord_21 : decode cX12_hasWord 21 = .ok (.putfield 153, 3) := by decide +kernel
theorem dX12_hasWord_24 : decode cX12_hasWord 24 = .ok (.iload_n 2, 1) := by decide +kernel
theorem dX12_hasWord_25 : decode cX12_hasWord 25 = .ok (.ireturn, 1) := by decide +kernel
theorem dX12_takeWord_0 : decode cX12_takeWord 0 = .ok (.aload_n 0, 1) := by decide +kernel
theorem dX12_takeWord_1 : decode cX12_takeWord 1 = .ok (.iload_n 1, 1) := by decide +kernel
theorem dX12_takeWord_2 : decode cX12_takeWord 2 = .ok (.invokevirtual 169, 3) := by decide +kernel
theorem dX12_takeWord_5 : decode cX12_takeWord 5 = .ok (.ifCond .ne 8, 3) := by decide +kernel
theorem dX12_takeWord_8 : decode cX12_takeWord 8 = .ok (.aload_n 0, 1) := by decide +kernel
theorem dX12_takeWord_9 : decode cX12_takeWord 9 = .ok (.iconst 1, 1) := by decide +kernel
theorem dX12_takeWord_10 : decode cX12_takeWord 10 = .ok (.invokevirtual 162, 3) := by decide +kernel
theorem dX12_takeWord_13 : decode cX12_takeWord 13 = .ok (.return_, 1) := by decide +kernel
theorem dX12_within_0 : decode cX12_within 0 = .ok (.iload_n 0, 1) := by decide +kernel
theorem dX12_within_1 : decode cX12_within 1 = .ok (.iload_n 1, 1) := by decide +kernel
theorem dX12_within_2 : decode cX12_within 2 = .ok (.if_icmp .lt 12, 3) := by decide +kernel
theorem dX12_within_5 : decode cX12_within 5 = .ok (.iload_n 0, 1) := by decide +kernel
theorem dX12_within_6 : decode cX12_within 6 = .ok (.iload_n 2, 1) := by decide +kernel
theorem dX12_within_7 : decode cX12_within 7 = .ok (.if_icmp .gt 7, 3) := by decide +kernel
theorem dX12_within_10 : decode cX12_within 10 = .ok (.iconst 1, 1) := by decide +kernel
theorem dX12_within_11 : decode cX12_within 11 = .ok (.goto 4, 3) := by decide +kernel
theorem dX12_within_14 : decode cX12_within 14 = .ok (.iconst 0, 1) := by decide +kernel
theorem dX12_within_15 : decode cX12_within 15 = .ok (.ireturn, 1) := by decide +kernel
theorem dX12_takeNumber_0 : decode cX12_takeNumber 0 = .ok (.aload_n 0, 1) := by decide +kernel
theorem dX12_takeNumber_1 : decode cX12_takeNumber 1 = .ok (.getfield 156, 3) := by decide +kernel
theorem dX12_takeNumber_4 : decode cX12_takeNumber 4 = .ok (.ifCond .ne 24, 3) := by decide +kernel
theorem dX12_takeNumber_7 : decode cX12_takeNumber 7 = .ok (.aload_n 0, 1) := by decide +kernel
theorem dX12_takeNumber_8 : decode cX12_takeNumber 8 = .ok (.getfield 24, 3) := by decide +kernel
theorem dX12_takeNumber_11 : decode cX12_takeNumber 11 = .ok (.aload_n 0, 1) := by decide +kernel
theorem dX12_takeNumber_12 : decode cX12_takeNumber 12 = .ok (.getfield 153, 3) := by decide +kernel
theorem dX12_takeNumber_15 : decode cX12_takeNumber 15 = .ok (.iaload, 1) := by decide +kernel
theorem dX12_takeNumber_16 : decode cX12_takeNumber 16 = .ok (.iconst 2, 1) := by decide +kernel
theorem dX12_takeNumber_17 : decode cX12_takeNumber 17 = .ok (.if_icmp .eq 11, 3) := by decide +kernel
theorem dX12_takeNumber_20 : decode cX12_takeNumber 20 = .ok (.aload_n 0, 1) := by decide +kernel
theorem dX12_takeNumber_21 : decode cX12_takeNumber 21 = .ok (.iconst 1, 1) := by decide +kernel
theorem dX12_takeNumber_22 : decode cX12_takeNumber 22 = .ok (.invokevirtual 162, 3) := by decide +kernel
theorem dX12_takeNumber_25 : decode cX12_takeNumber 25 = .ok (.goto 45, 3) := by decide +kernel
theorem dX12_takeNumber_28 : decode cX12_takeNumber 28 = .ok (.aload_n 0, 1) := by decide +kernel
theorem dX12_takeNumber_29 : decode cX12_takeNumber 29 = .ok (.getfield 156, 3) := by decide +kernel
theorem dX12_takeNumber_32 : decode cX12_takeNumber 32 = .ok (.ifCond .ne 38, 3) := by decide +kernel
theorem dX12_takeNumber_35 : decode cX12_takeNumber 35 = .ok (.aload_n 0, 1) := by decide +kernel
theorem dX12_takeNumber_36 : decode cX12_takeNumber 36 = .ok (.getfield 30, 3) := by decide +kernel
theorem dX12_takeNumber_39 : decode cX12_takeNumber 39 = .ok (.aload_n 0, 1) := by decide +kernel
theorem dX12_takeNumber_40 : decode cX12_takeNumber 40 = .ok (.getfield 153, 3) := by decide +kernel
theorem dX12_takeNumber_43 : decode cX12_takeNumber 43 = .ok (.laload, 1) := by decide +kernel
theorem dX12_takeNumber_44 : decode cX12_takeNumber 44 = .ok (.iload_n 1, 1) := by decide +kernel
theorem dX12_takeNumber_45 : decode cX12_takeNumber 45 = .ok (.i2l, 1) := by decide +kernel
theorem dX12_takeNumber_46 : decode cX12_takeNumber 46 = .ok (.lcmp, 1) := by decide +kernel
theorem dX12_takeNumber_47 : decode cX12_takeNumber 47 = .ok (.ifCond .lt 18, 3) := by decide +kernel
theorem dX12_takeNumber_50 : decode cX12_takeNumber 50 = .ok (.aload_n 0, 1) := by decide +kernel
theorem dX12_takeNumber_51 : decode cX12_takeNumber 51 = .ok (.getfield 30, 3) := by decide +kernel
theorem dX12_takeNumber_54 : decode cX12_takeNumber 54 = .ok (.aload_n 0, 1) := by decide +kernel
theorem dX12_takeNumber_55 : decode cX12_takeNumber 55 = .ok (.getfield 153, 3) := by decide +kernel
theorem dX12_takeNumber_58 : decode cX12_takeNumber 58 = .ok (.laload, 1) := by decide +kernel
theorem dX12_takeNumber_59 : decode cX12_takeNumber 59 = .ok (.iload_n 2, 1) := by decide +kernel
theorem dX12_takeNumber_60 : decode cX12_takeNumber 60 = .ok (.i2l, 1) := by decide +kernel
theorem dX12_takeNumber_61 : decode cX12_takeNumber 61 = .ok (.lcmp, 1) := by decide +kernel
theorem dX12_takeNumber_62 : decode cX12_takeNumber 62 = .ok (.ifCond .le 8, 3) := by decide +kernel
theorem dX12_takeNumber_65 : decode cX12_takeNumber 65 = .ok (.aload_n 0, 1) := by decide +kernel
theorem dX12_takeNumber_66 : decode cX12_takeNumber 66 = .ok (.iconst 4, 1) := by decide +kernel
theorem dX12_takeNumber_67 : decode cX12_takeNumber 67 = .ok (.invokevirtual 162, 3) := by decide +kernel
theorem dX12_takeNumber_70 : decode cX12_takeNumber 70 = .ok (.aload_n 0, 1) := by decide +kernel
theorem dX12_takeNumber_71 : decode cX12_takeNumber 71 = .ok (.getfield 156, 3) := by decide +kernel
theorem dX12_takeNumber_74 : decode cX12_takeNumber 74 = .ok (.ifCond .le 5, 3) := by decide +kernel
theorem dX12_takeNumber_77 : decode cX12_takeNumber 77 = .ok (.iconst 0, 1) := by decide +kernel
theorem dX12_takeNumber_78 : decode cX12_takeNumber 78 = .ok (.ireturn, 1) := by decide +kernel
theorem dX12_takeNumber_79 : decode cX12_takeNumber 79 = .ok (.aload_n 0, 1) := by decide +kernel
theorem dX12_takeNumber_80 : decode cX12_takeNumber 80 = .ok (.dup, 1) := by decide +kernel
theorem dX12_takeNumber_81 : decode cX12_takeNumber 81 = .ok (.getfield 153, 3) := by decide +kernel
theorem dX12_takeNumber_84 : decode cX12_takeNumber 84 = .ok (.iconst 1, 1) := by decide +kernel
theorem dX12_takeNumber_85 : decode cX12_takeNumber 85 = .ok (.iadd, 1) := by decide +kernel
theorem dX12_takeNumber_86 : decode cX12_takeNumber 86 = .ok (.putfield 153, 3) := by decide +kernel
theorem dX12_takeNumber_89 : decode cX12_takeNumber 89 = .ok (.aload_n 0, 1) := by decide +kernel
theorem dX12_takeNumber_90 : decode cX12_takeNumber 90 = .ok (.getfield 30, 3) := by decide +kernel
theorem dX12_takeNumber_93 : decode cX12_takeNumber 93 = .ok (.aload_n 0, 1) := by decide +kernel
theorem dX12_takeNumber_94 : decode cX12_takeNumber 94 = .ok (.getfield 153, 3) := by decide +kernel
theorem dX12_takeNumber_97 : decode cX12_takeNumber 97 = .ok (.iconst 1, 1) := by decide +kernel
theorem dX12_takeNumber_98 : decode cX12_takeNumber 98 = .ok (.isub, 1) := by decide +kernel
theorem dX12_takeNumber_99 : decode cX12_takeNumber 99 = .ok (.laload, 1) := by decide +kernel
theorem dX12_takeNumber_100 : decode cX12_takeNumber 100 = .ok (.l2i, 1) := by decide +kernel
theorem dX12_takeNumber_101 : decode cX12_takeNumber 101 = .ok (.ireturn, 1) := by decide +kernel
theorem dX12_takeAfter_0 : decode cX12_takeAfter 0 = .ok (.aload_n 0, 1) := by decide +kernel
theorem dX12_takeAfter_1 : decode cX12_takeAfter 1 = .ok (.iload_n 1, 1) := by decide +kernel
theorem dX12_takeAfter_2 : decode cX12_takeAfter 2 = .ok (.invokevirtual 172, 3) := by decide +kernel
theorem dX12_takeAfter_5 : decode cX12_takeAfter 5 = .ok (.aload_n 0, 1) := by decide +kernel
theorem dX12_takeAfter_6 : decode cX12_takeAfter 6 = .ok (.iload_n 2, 1) := by decide +kernel
theorem dX12_takeAfter_7 : decode cX12_takeAfter 7 = .ok (.iload_n 3, 1) := by decide +kernel
theorem dX12_takeAfter_8 : decode cX12_takeAfter 8 = .ok (.invokevirtual 175, 3) := by decide +kernel
theorem dX12_takeAfter_11 : decode cX12_takeAfter 11 = .ok (.ireturn, 1) := by decide +kernel
theorem dX12_isName_0 : decode cX12_isName 0 = .ok (.aload_n 0, 1) := by decide +kernel
theorem dX12_isName_1 : decode cX12_isName 1 = .ok (.getfield 156, 3) := by decide +kernel
theorem dX12_isName_4 : decode cX12_isName 4 = .ok (.ifCond .ne 20, 3) := by decide +kernel
theorem dX12_isName_7 : decode cX12_isName 7 = .ok (.aload_n 0, 1) := by decide +kernel
theorem dX12_isName_8 : decode cX12_isName 8 = .ok (.getfield 24, 3) := by decide +kernel
theorem dX12_isName_11 : decode cX12_isName 11 = .ok (.aload_n 0, 1) := by decide +kernel
theorem dX12_isName_12 : decode cX12_isName 12 = .ok (.getfield 153, 3) := by decide +kernel
theorem dX12_isName_15 : decode cX12_isName 15 = .ok (.iaload, 1) := by decide +kernel
theorem dX12_isName_16 : decode cX12_isName 16 = .ok (.iconst 1, 1) := by decide +kernel
theorem dX12_isName_17 : decode cX12_isName 17 = .ok (.if_icmp .ne 7, 3) := by decide +kernel
theorem dX12_isName_20 : decode cX12_isName 20 = .ok (.iconst 1, 1) := by decide +kernel
theorem dX12_isName_21 : decode cX12_isName 21 = .ok (.goto 4, 3) := by decide +kernel
theorem dX12_isName_24 : decode cX12_isName 24 = .ok (.iconst 0, 1) := by decide +kernel
theorem dX12_isName_25 : decode cX12_isName 25 = .ok (.istore_n 1, 1) := by decide +kernel
theorem dX12_isName_26 : decode cX12_isName 26 = .ok (.iconst 0, 1) := by decide +kernel
theorem dX12_isName_27 : decode cX12_isName 27 = .ok (.istore_n 2, 1) := by decide +kernel
theorem dX12_isName_28 : decode cX12_isName 28 = .ok (.iload_n 2, 1) := by decide +kernel
theorem dX12_isName_29 : decode cX12_isName 29 = .ok (.bipush 16, 2) := by decide +kernel
theorem dX12_isName_31 : decode cX12_isName 31 = .ok (.if_icmp .ge 38, 3) := by decide +kernel
theorem dX12_isName_34 : decode cX12_isName 34 = .ok (.iload_n 1, 1) := by decide +kernel
theorem dX12_isName_35 : decode cX12_isName 35 = .ok (.ifCond .eq 26, 3) := by decide +kernel
theorem dX12_isName_38 : decode cX12_isName 38 = .ok (.aload_n 0, 1) := by decide +kernel
theorem dX12_isName_39 : decode cX12_isName 39 = .ok (.getfield 30, 3) := by decide +kernel
theorem dX12_isName_42 : decode cX12_isName 42 = .ok (.aload_n 0, 1) := by decide +kernel
theorem dX12_isName_43 : decode cX12_isName 43 = .ok (.getfield 153, 3) := by decide +kernel
theorem dX12_isName_46 : decode cX12_isName 46 = .ok (.laload, 1) := by decide +kernel
theorem dX12_isName_47 : decode cX12_isName 47 = .ok (.aload_n 0, 1) := by decide +kernel
theorem dX12_isName_48 : decode cX12_isName 48 = .ok (.getfield 72, 3) := by decide +kernel
theorem dX12_isName_51 : decode cX12_isName 51 = .ok (.iload_n 2, 1) := by decide +kernel
theorem dX12_isName_52 : decode cX12_isName 52 = .ok (.laload, 1) := by decide +kernel
theorem dX12_isName_53 : decode cX12_isName 53 = .ok (.lcmp, 1) := by decide +kernel
theorem dX12_isName_54 : decode cX12_isName 54 = .ok (.ifCond .eq 7, 3) := by decide +kernel
theorem dX12_isName_57 : decode cX12_isName 57 = .ok (.iconst 1, 1) := by decide +kernel
theorem dX12_isName_58 : decode cX12_isName 58 = .ok (.goto 4, 3) := by decide +kernel
theorem dX12_isName_61 : decode cX12_isName 61 = .ok (.iconst 0, 1) := by decide +kernel
theorem dX12_isName_62 : decode cX12_isName 62 = .ok (.istore_n 1, 1) := by decide +kernel
theorem dX12_isName_63 : decode cX12_isName 63 = .ok (.iinc 2 1, 3) := by decide +kernel
theorem dX12_isName_66 : decode cX12_isName 66 = .ok (.goto (-38), 3) := by decide +kernel
theorem dX12_isName_69 : decode cX12_isName 69 = .ok (.iload_n 1, 1) := by decide +kernel
theorem dX12_isName_70 : decode cX12_isName 70 = .ok (.ireturn, 1) := by decide +kernel
theorem dX12_find_0 : decode cX12_find 0 = .ok (.iconst 0, 1) := by decide +kernel
theorem dX12_find_1 : decode cX12_find 1 = .ok (.istore_n 1, 1) := by decide +kernel
theorem dX12_find_2 : decode cX12_find 2 = .ok (.iload_n 1, 1) := by decide +kernel
theorem dX12_find_3 : decode cX12_find 3 = .ok (.aload_n 0, 1) := by decide +kernel
theorem dX12_find_4 : decode cX12_find 4 = .ok (.getfield 179, 3) := by decide +kernel
theorem dX12_find_7 : decode cX12_find 7 = .ok (.if_icmp .ge 35, 3) := by decide +kernel
theorem dX12_find_10 : decode cX12_find 10 = .ok (.aload_n 0, 1) := by decide +kernel
theorem dX12_find_11 : decode cX12_find 11 = .ok (.getfield 84, 3) := by decide +kernel
theorem dX12_find_14 : decode cX12_find 14 = .ok (.iload_n 1, 1) := by decide +kernel
theorem dX12_find_15 : decode cX12_find 15 = .ok (.laload, 1) := by decide +kernel
theorem dX12_find_16 : decode cX12_find 16 = .ok (.aload_n 0, 1) := by decide +kernel
theorem dX12_find_17 : decode cX12_find 17 = .ok (.getfield 30, 3) := by decide +kernel
theorem dX12_find_20 : decode cX12_find 20 = .ok (.aload_n 0, 1) := by decide +kernel
theorem dX12_find_21 : decode cX12_find 21 = .ok (.getfield 153, 3) := by decide +kernel
theorem dX12_find_24 : decode cX12_find 24 = .ok (.laload, 1) := by decide +kernel
theorem dX12_find_25 : decode cX12_find 25 = .ok (.lcmp, 1) := by decide +kernel
theorem dX12_find_26 : decode cX12_find 26 = .ok (.ifCond .ne 10, 3) := by decide +kernel
theorem dX12_find_29 : decode cX12_find 29 = .ok (.aload_n 0, 1) := by decide +kernel
theorem dX12_find_30 : decode cX12_find 30 = .ok (.getfield 87, 3) := by decide +kernel
theorem dX12_find_33 : decode cX12_find 33 = .ok (.iload_n 1, 1) := by decide +kernel
theorem dX12_find_34 : decode cX12_find 34 = .ok (.iaload, 1) := by decide +kernel
theorem dX12_find_35 : decode cX12_find 35 = .ok (.ireturn, 1) := by decide +kernel
theorem dX12_find_36 : decode cX12_find 36 = .ok (.iinc 1 1, 3) := by decide +kernel
theorem dX12_find_39 : decode cX12_find 39 = .ok (.goto (-37), 3) := by decide +kernel
theorem dX12_find_42 : decode cX12_find 42 = .ok (.iconst (-1), 1) := by decide +kernel
theorem dX12_find_43 : decode cX12_find 43 = .ok (.ireturn, 1) := by decide +kernel
theorem dX12_net_0 : decode cX12_net 0 = .ok (.aload_n 0, 1) := by decide +kernel
theorem dX12_net_1 : decode cX12_net 1 = .ok (.iconst 0, 1) := by decide +kernel
theorem dX12_net_2 : decode cX12_net 2 = .ok (.putfield 1, 3) := by decide +kernel
theorem dX12_net_5 : decode cX12_net 5 = .ok (.aload_n 0, 1) := by decide +kernel
theorem dX12_net_6 : decode cX12_net 6 = .ok (.invokevirtual 182, 3) := by decide +kernel
theorem dX12_net_9 : decode cX12_net 9 = .ok (.aload_n 0, 1) := by decide +kernel
theorem dX12_net_10 : decode cX12_net 10 = .ok (.iconst 0, 1) := by decide +kernel
theorem dX12_net_11 : decode cX12_net 11 = .ok (.putfield 185, 3) := by decide +kernel
theorem dX12_net_14 : decode cX12_net 14 = .ok (.aload_n 0, 1) := by decide +kernel
theorem dX12_net_15 : decode cX12_net 15 = .ok (.iconst 0, 1) := by decide +kernel
theorem dX12_net_16 : decode cX12_net 16 = .ok (.putfield 179, 3) := by decide +kernel
theorem dX12_net_19 : decode cX12_net 19 = .ok (.iconst 0, 1) := by decide +kernel
theorem dX12_net_20 : decode cX12_net 20 = .ok (.istore_n 1, 1) := by decide +kernel
theorem dX12_net_21 : decode cX12_net 21 = .ok (.iload_n 1, 1) := by decide +kernel
theorem dX12_net_22 : decode cX12_net 22 = .ok (.bipush 84, 2) := by decide +kernel
theorem dX12_net_24 : decode cX12_net 24 = .ok (.if_icmp .ge 34, 3) := by decide +kernel
theorem dX12_net_27 : decode cX12_net 27 = .ok (.aload_n 0, 1) := by decide +kernel
theorem dX12_net_28 : decode cX12_net 28 = .ok (.getfield 75, 3) := by decide +kernel
theorem dX12_net_31 : decode cX12_net 31 = .ok (.bipush 84, 2) := by decide +kernel
theorem dX12_net_33 : decode cX12_net 33 = .ok (.iload_n 1, 1) := by decide +kernel
theorem dX12_net_34 : decode cX12_net 34 = .ok (.iadd, 1) := by decide +kernel
theorem dX12_net_35 : decode cX12_net 35 = .ok (.iload_n 1, 1) := by decide +kernel
theorem dX12_net_36 : decode cX12_net 36 = .ok (.iconst 4, 1) := by decide +kernel
theorem dX12_net_37 : decode cX12_net 37 = .ok (.if_icmp .lt 13, 3) := by decide +kernel
theorem dX12_net_40 : decode cX12_net 40 = .ok (.iload_n 1, 1) := by decide +kernel
theorem dX12_net_41 : decode cX12_net 41 = .ok (.bipush 7, 2) := by decide +kernel
theorem dX12_net_43 : decode cX12_net 43 = .ok (.if_icmp .ge 7, 3) := by decide +kernel
theorem dX12_net_46 : decode cX12_net 46 = .ok (.iconst (-1), 1) := by decide +kernel
theorem dX12_net_47 : decode cX12_net 47 = .ok (.goto 4, 3) := by decide +kernel
theorem dX12_net_50 : decode cX12_net 50 = .ok (.iconst 0, 1) := by decide +kernel
theorem dX12_net_51 : decode cX12_net 51 = .ok (.iastore, 1) := by decide +kernel
theorem dX12_net_52 : decode cX12_net 52 = .ok (.iinc 1 1, 3) := by decide +kernel
theorem dX12_net_55 : decode cX12_net 55 = .ok (.goto (-34), 3) := by decide +kernel
theorem dX12_net_58 : decode cX12_net 58 = .ok (.aload_n 0, 1) := by decide +kernel
theorem dX12_net_59 : decode cX12_net 59 = .ok (.getfield 156, 3) := by decide +kernel
theorem dX12_net_62 : decode cX12_net 62 = .ok (.ifCond .ne 28, 3) := by decide +kernel
theorem dX12_net_65 : decode cX12_net 65 = .ok (.aload_n 0, 1) := by decide +kernel
theorem dX12_net_66 : decode cX12_net 66 = .ok (.getfield 24, 3) := by decide +kernel
theorem dX12_net_69 : decode cX12_net 69 = .ok (.aload_n 0, 1) := by decide +kernel
theorem dX12_net_70 : decode cX12_net 70 = .ok (.getfield 153, 3) := by decide +kernel
theorem dX12_net_73 : decode cX12_net 73 = .ok (.iaload, 1) := by decide +kernel
theorem dX12_net_74 : decode cX12_net 74 = .ok (.ifCond .eq 16, 3) := by decide +kernel
theorem dX12_net_77 : decode cX12_net 77 = .ok (.aload_n 0, 1) := by decide +kernel
theorem dX12_net_78 : decode cX12_net 78 = .ok (.invokevirtual 188, 3) := by decide +kernel
theorem dX12_net_81 : decode cX12_net 81 = .ok (.aload_n 0, 1) := by decide +kernel
theorem dX12_net_82 : decode cX12_net 82 = .ok (.bipush 59, 2) := by decide +kernel
theorem dX12_net_84 : decode cX12_net 84 = .ok (.invokevirtual 191, 3) := by decide +kernel
theorem dX12_net_87 : decode cX12_net 87 = .ok (.goto (-29), 3) := by decide +kernel
theorem dX12_net_90 : decode cX12_net 90 = .ok (.aload_n 0, 1) := by decide +kernel
theorem dX12_net_91 : decode cX12_net 91 = .ok (.getfield 156, 3) := by decide +kernel
theorem dX12_net_94 : decode cX12_net 94 = .ok (.ifCond .le 8, 3) := by decide +kernel
theorem dX12_net_97 : decode cX12_net 97 = .ok (.aload_n 0, 1) := by decide +kernel
theorem dX12_net_98 : decode cX12_net 98 = .ok (.getfield 156, 3) := by decide +kernel
theorem dX12_net_101 : decode cX12_net 101 = .ok (.ireturn, 1) := by decide +kernel
theorem dX12_net_102 : decode cX12_net 102 = .ok (.iconst 0, 1) := by decide +kernel
theorem dX12_net_103 : decode cX12_net 103 = .ok (.istore_n 1, 1) := by decide +kernel
theorem dX12_net_104 : decode cX12_net 104 = .ok (.iload_n 1, 1) := by decide +kernel
theorem dX12_net_105 : decode cX12_net 105 = .ok (.bipush 84, 2) := by decide +kernel
theorem dX12_net_107 : decode cX12_net 107 = .ok (.if_icmp .ge 24, 3) := by decide +kernel
theorem dX12_net_110 : decode cX12_net 110 = .ok (.aload_n 0, 1) := by decide +kernel
theorem dX12_net_111 : decode cX12_net 111 = .ok (.getfield 75, 3) := by decide +kernel
theorem dX12_net_114 : decode cX12_net 114 = .ok (.iload_n 1, 1) := by decide +kernel
theorem dX12_net_115 : decode cX12_net 115 = .ok (.aload_n 0, 1) := by decide +kernel
theorem dX12_net_116 : decode cX12_net 116 = .ok (.getfield 75, 3) := by decide +kernel
theorem dX12_net_119 : decode cX12_net 119 = .ok (.bipush 84, 2) := by decide +kernel
theorem dX12_net_121 : decode cX12_net 121 = .ok (.iload_n 1, 1) := by decide +kernel
theorem dX12_net_122 : decode cX12_net 122 = .ok (.iadd, 1) := by decide +kernel
theorem dX12_net_123 : decode cX12_net 123 = .ok (.iaload, 1) := by decide +kernel
theorem dX12_net_124 : decode cX12_net 124 = .ok (.iastore, 1) := by decide +kernel
theorem dX12_net_125 : decode cX12_net 125 = .ok (.iinc 1 1, 3) := by decide +kernel
theorem dX12_net_128 : decode cX12_net 128 = .ok (.goto (-24), 3) := by decide +kernel
theorem dX12_net_131 : decode cX12_net 131 = .ok (.iconst 0, 1) := by decide +kernel
theorem dX12_net_132 : decode cX12_net 132 = .ok (.istore_n 1, 1) := by decide +kernel
theorem dX12_net_133 : decode cX12_net 133 = .ok (.iload_n 1, 1) := by decide +kernel
theorem dX12_net_134 : decode cX12_net 134 = .ok (.aload_n 0, 1) := by decide +kernel
theorem dX12_net_135 : decode cX12_net 135 = .ok (.getfield 185, 3) := by decide +kernel
theorem dX12_net_138 : decode cX12_net 138 = .ok (.if_icmp .ge 41, 3) := by decide +kernel
theorem dX12_net_141 : decode cX12_net 141 = .ok (.aload_n 0, 1) := by decide +kernel
theorem dX12_net_142 : decode cX12_net 142 = .ok (.getfield 78, 3) := by decide +kernel
theorem dX12_net_145 : decode cX12_net 145 = .ok (.iload_n 1, 1) := by decide +kernel
theorem dX12_net_146 : decode cX12_net 146 = .ok (.aload_n 0, 1) := by decide +kernel
theorem dX12_net_147 : decode cX12_net 147 = .ok (.getfield 78, 3) := by decide +kernel
theorem dX12_net_150 : decode cX12_net 150 = .ok (.sipush 1100, 3) := by decide +kernel
theorem dX12_net_153 : decode cX12_net 153 = .ok (.iload_n 1, 1) := by decide +kernel
theorem dX12_net_154 : decode cX12_net 154 = .ok (.iadd, 1) := by decide +kernel
theorem dX12_net_155 : decode cX12_net 155 = .ok (.iaload, 1) := by decide +kernel
theorem dX12_net_156 : decode cX12_net 156 = .ok (.iastore, 1) := by decide +kernel
theorem dX12_net_157 : decode cX12_net 157 = .ok (.aload_n 0, 1) := by decide +kernel
theorem dX12_net_158 : decode cX12_net 158 = .ok (.getfield 81, 3) := by decide +kernel
theorem dX12_net_161 : decode cX12_net 161 = .ok (.iload_n 1, 1) := by decide +kernel
theorem dX12_net_162 : decode cX12_net 162 = .ok (.aload_n 0, 1) := by decide +kernel
theorem dX12_net_163 : decode cX12_net 163 = .ok (.getfield 81, 3) := by decide +kernel
theorem dX12_net_166 : decode cX12_net 166 = .ok (.sipush 1100, 3) := by decide +kernel
theorem dX12_net_169 : decode cX12_net 169 = .ok (.iload_n 1, 1) := by decide +kernel
theorem dX12_net_170 : decode cX12_net 170 = .ok (.iadd, 1) := by decide +kernel
theorem dX12_net_171 : decode cX12_net 171 = .ok (.iaload, 1) := by decide +kernel
theorem dX12_net_172 : decode cX12_net 172 = .ok (.iastore, 1) := by decide +kernel
theorem dX12_net_173 : decode cX12_net 173 = .ok (.iinc 1 1, 3) := by decide +kernel
theorem dX12_net_176 : decode cX12_net 176 = .ok (.goto (-43), 3) := by decide +kernel
theorem dX12_net_179 : decode cX12_net 179 = .ok (.iconst 0, 1) := by decide +kernel
theorem dX12_net_180 : decode cX12_net 180 = .ok (.istore_n 1, 1) := by decide +kernel
theorem dX12_net_181 : decode cX12_net 181 = .ok (.iload_n 1, 1) := by decide +kernel
theorem dX12_net_182 : decode cX12_net 182 = .ok (.sipush 2140, 3) := by decide +kernel
theorem dX12_net_185 : decode cX12_net 185 = .ok (.if_icmp .ge 16, 3) := by decide +kernel
theorem dX12_net_188 : decode cX12_net 188 = .ok (.aload_n 0, 1) := by decide +kernel
theorem dX12_net_189 : decode cX12_net 189 = .ok (.getfield 99, 3) := by decide +kernel
theorem dX12_net_192 : decode cX12_net 192 = .ok (.iload_n 1, 1) := by decide +kernel
theorem dX12_net_193 : decode cX12_net 193 = .ok (.iconst 0, 1) := by decide +kernel
theorem dX12_net_194 : decode cX12_net 194 = .ok (.iastore, 1) := by decide +kernel
theorem dX12_net_195 : decode cX12_net 195 = .ok (.iinc 1 1, 3) := by decide +kernel
theorem dX12_net_198 : decode cX12_net 198 = .ok (.goto (-17), 3) := by decide +kernel
theorem dX12_net_201 : decode cX12_net 201 = .ok (.iconst 0, 1) := by decide +kernel
theorem dX12_net_202 : decode cX12_net 202 = .ok (.istore_n 1, 1) := by decide +kernel
theorem dX12_net_203 : decode cX12_net 203 = .ok (.iload_n 1, 1) := by decide +kernel
theorem dX12_net_204 : decode cX12_net 204 = .ok (.aload_n 0, 1) := by decide +kernel
theorem dX12_net_205 : decode cX12_net 205 = .ok (.invokevirtual 194, 3) := by decide +kernel
theorem dX12_net_208 : decode cX12_net 208 = .ok (.if_icmp .ge 30, 3) := by decide +kernel
theorem dX12_net_211 : decode cX12_net 211 = .ok (.aload_n 0, 1) := by decide +kernel
theorem dX12_net_212 : decode cX12_net 212 = .ok (.getfield 99, 3) := by decide +kernel
theorem dX12_net_215 : decode cX12_net 215 = .ok (.iconst 1, 1) := by decide +kernel
theorem dX12_net_216 : decode cX12_net 216 = .ok (.iload_n 1, 1) := by decide +kernel
theorem dX12_net_217 : decode cX12_net 217 = .ok (.iadd, 1) := by decide +kernel
theorem dX12_net_218 : decode cX12_net 218 = .ok (.aload_n 0, 1) := by decide +kernel
theorem dX12_net_219 : decode cX12_net 219 = .ok (.getfield 75, 3) := by decide +kernel
theorem dX12_net_222 : decode cX12_net 222 = .ok (.bipush 17, 2) := by decide +kernel
theorem dX12_net_224 : decode cX12_net 224 = .ok (.iconst 4, 1) := by decide +kernel
theorem dX12_net_225 : decode cX12_net 225 = .ok (.iload_n 1, 1) := by decide +kernel
theorem dX12_net_226 : decode cX12_net 226 = .ok (.imul, 1) := by decide +kernel
theorem dX12_net_227 : decode cX12_net 227 = .ok (.iadd, 1) := by decide +kernel
theorem dX12_net_228 : decode cX12_net 228 = .ok (.iconst 3, 1) := by decide +kernel
theorem dX12_net_229 : decode cX12_net 229 = .ok (.iadd, 1) := by decide +kernel
theorem dX12_net_230 : decode cX12_net 230 = .ok (.iaload, 1) := by decide +kernel
theorem dX12_net_231 : decode cX12_net 231 = .ok (.iastore, 1) := by decide +kernel
theorem dX12_net_232 : decode cX12_net 232 = .ok (.iinc 1 1, 3) := by decide +kernel
theorem dX12_net_235 : decode cX12_net 235 = .ok (.goto (-32), 3) := by decide +kernel
theorem dX12_net_238 : decode cX12_net 238 = .ok (.iconst 0, 1) := by decide +kernel
theorem dX12_net_239 : decode cX12_net 239 = .ok (.istore_n 1, 1) := by decide +kernel
theorem dX12_net_240 : decode cX12_net 240 = .ok (.iload_n 1, 1) := by decide +kernel
theorem dX12_net_241 : decode cX12_net 241 = .ok (.bipush 6, 2) := by decide +kernel
theorem dX12_net_243 : decode cX12_net 243 = .ok (.if_icmp .ge 19, 3) := by decide +kernel
theorem dX12_net_246 : decode cX12_net 246 = .ok (.aload_n 0, 1) := by decide +kernel
theorem dX12_net_247 : decode cX12_net 247 = .ok (.getfield 99, 3) := by decide +kernel
theorem dX12_net_250 : decode cX12_net 250 = .ok (.bipush 111, 2) := by decide +kernel
theorem dX12_net_252 : decode cX12_net 252 = .ok (.iload_n 1, 1) := by decide +kernel
theorem dX12_net_253 : decode cX12_net 253 = .ok (.iadd, 1) := by decide +kernel
theorem dX12_net_254 : decode cX12_net 254 = .ok (.iconst (-1), 1) := by decide +kernel
theorem dX12_net_255 : decode cX12_net 255 = .ok (.iastore, 1) := by decide +kernel
theorem dX12_net_256 : decode cX12_net 256 = .ok (.iinc 1 1, 3) := by decide +kernel
theorem dX12_net_259 : decode cX12_net 259 = .ok (.goto (-19), 3) := by decide +kernel
theorem dX12_net_262 : decode cX12_net 262 = .ok (.iconst 0, 1) := by decide +kernel
theorem dX12_net_263 : decode cX12_net 263 = .ok (.istore_n 1, 1) := by decide +kernel
theorem dX12_net_264 : decode cX12_net 264 = .ok (.iload_n 1, 1) := by decide +kernel
theorem dX12_net_265 : decode cX12_net 265 = .ok (.iconst 4, 1) := by decide +kernel
theorem dX12_net_266 : decode cX12_net 266 = .ok (.if_icmp .ge 16, 3) := by decide +kernel
theorem dX12_net_269 : decode cX12_net 269 = .ok (.aload_n 0, 1) := by decide +kernel
theorem dX12_net_270 : decode cX12_net 270 = .ok (.getfield 102, 3) := by decide +kernel
theorem dX12_net_273 : decode cX12_net 273 = .ok (.iload_n 1, 1) := by decide +kernel
theorem dX12_net_274 : decode cX12_net 274 = .ok (.iconst 0, 1) := by decide +kernel
theorem dX12_net_275 : decode cX12_net 275 = .ok (.bastore, 1) := by decide +kernel
theorem dX12_net_276 : decode cX12_net 276 = .ok (.iinc 1 1, 3) := by decide +kernel
theorem dX12_net_279 : decode cX12_net 279 = .ok (.goto (-15), 3) := by decide +kernel
theorem dX12_net_282 : decode cX12_net 282 = .ok (.iconst 0, 1) := by decide +kernel
theorem dX12_net_283 : decode cX12_net 283 = .ok (.ireturn, 1) := by decide +kernel
theorem dX12_readLine_0 : decode cX12_readLine 0 = .ok (.aload_n 0, 1) := by decide +kernel
theorem dX12_readLine_1 : decode cX12_readLine 1 = .ok (.iconst 0, 1) := by decide +kernel
theorem dX12_readLine_2 : decode cX12_readLine 2 = .ok (.invokevirtual 166, 3) := by decide +kernel
theorem dX12_readLine_5 : decode cX12_readLine 5 = .ok (.ifCond .eq 10, 3) := by decide +kernel
theorem dX12_readLine_8 : decode cX12_readLine 8 = .ok (.aload_n 0, 1) := by decide +kernel
theorem dX12_readLine_9 : decode cX12_readLine 9 = .ok (.invokevirtual 198, 3) := by decide +kernel
theorem dX12_readLine_12 : decode cX12_readLine 12 = .ok (.goto 53, 3) := by decide +kernel
theorem dX12_readLine_15 : decode cX12_readLine 15 = .ok (.aload_n 0, 1) := by decide +kernel
theorem dX12_readLine_16 : decode cX12_readLine 16 = .ok (.iconst 3, 1) := by decide +kernel
theorem dX12_readLine_17 : decode cX12_readLine 17 = .ok (.invokevirtual 166, 3) := by decide +kernel
theorem dX12_readLine_20 : decode cX12_readLine 20 = .ok (.ifCond .eq 10, 3) := by decide +kernel
theorem dX12_readLine_23 : decode cX12_readLine 23 = .ok (.aload_n 0, 1) := by decide +kernel
theorem dX12_readLine_24 : decode cX12_readLine 24 = .ok (.invokevirtual 201, 3) := by decide +kernel
theorem dX12_readLine_27 : decode cX12_readLine 27 = .ok (.goto 38, 3) := by decide +kernel
theorem dX12_readLine_30 : decode cX12_readLine 30 = .ok (.aload_n 0, 1) := by decide +kernel
theorem dX12_readLine_31 : decode cX12_readLine 31 = .ok (.iconst 4, 1) := by decide +kernel
theorem dX12_readLine_32 : decode cX12_readLine 32 = .ok (.invokevirtual 166, 3) := by decide +kernel
theorem dX12_readLine_35 : decode cX12_readLine 35 = .ok (.ifCond .eq 10, 3) := by decide +kernel
theorem dX12_readLine_38 : decode cX12_readLine 38 = .ok (.aload_n 0, 1) := by decide +kernel
theorem dX12_readLine_39 : decode cX12_readLine 39 = .ok (.invokevirtual 204, 3) := by decide +kernel
theorem dX12_readLine_42 : decode cX12_readLine 42 = .ok (.goto 23, 3) := by decide +kernel
theorem dX12_readLine_45 : decode cX12_readLine 45 = .ok (.aload_n 0, 1) := by decide +kernel
theorem dX12_readLine_46 : decode cX12_readLine 46 = .ok (.bipush 7, 2) := by decide +kernel
theorem dX12_readLine_48 : decode cX12_readLine 48 = .ok (.invokevirtual 166, 3) := by decide +kernel
theorem dX12_readLine_51 : decode cX12_readLine 51 = .ok (.ifCond .eq 10, 3) := by decide +kernel
theorem dX12_readLine_54 : decode cX12_readLine 54 = .ok (.aload_n 0, 1) := by decide +kernel
theorem dX12_readLine_55 : decode cX12_readLine 55 = .ok (.invokevirtual 207, 3) := by decide +kernel
theorem dX12_readLine_58 : decode cX12_readLine 58 = .ok (.goto 7, 3) := by decide +kernel
theorem dX12_readLine_61 : decode cX12_readLine 61 = .ok (.aload_n 0, 1) := by decide +kernel
theorem dX12_readLine_62 : decode cX12_readLine 62 = .ok (.invokevirtual 210, 3) := by decide +kernel
theorem dX12_readLine_65 : decode cX12_readLine 65 = .ok (.return_, 1) := by decide +kernel
theorem dX12_readName_0 : decode cX12_readName 0 = .ok (.aload_n 0, 1) := by decide +kernel
theorem dX12_readName_1 : decode cX12_readName 1 = .ok (.dup, 1) := by decide +kernel
theorem dX12_readName_2 : decode cX12_readName 2 = .ok (.getfield 153, 3) := by decide +kernel
theorem dX12_readName_5 : decode cX12_readName 5 = .ok (.iconst 1, 1) := by decide +kernel
theorem dX12_readName_6 : decode cX12_readName 6 = .ok (.iadd, 1) := by decide +kernel
theorem dX12_readName_7 : decode cX12_readName 7 = .ok (.putfield 153, 3) := by decide +kernel
theorem dX12_readName_10 : decode cX12_readName 10 = .ok (.aload_n 0, 1) := by decide +kernel
theorem dX12_readName_11 : decode cX12_readName 11 = .ok (.invokevirtual 213, 3) := by decide +kernel
theorem dX12_readName_14 : decode cX12_readName 14 = .ok (.ifCond .ne 11, 3) := by decide +kernel
theorem dX12_readName_17 : decode cX12_readName 17 = .ok (.aload_n 0, 1) := by decide +kernel
theorem dX12_readName_18 : decode cX12_readName 18 = .ok (.iconst 1, 1) := by decide +kernel
theorem dX12_readName_19 : decode cX12_readName 19 = .ok (.invokevirtual 162, 3) := by decide +kernel
theorem dX12_readName_22 : decode cX12_readName 22 = .ok (.goto 15, 3) := by decide +kernel
theorem dX12_readName_25 : decode cX12_readName 25 = .ok (.aload_n 0, 1) := by decide +kernel
theorem dX12_readName_26 : decode cX12_readName 26 = .ok (.invokevirtual 217, 3) := by decide +kernel
theorem dX12_readName_29 : decode cX12_readName 29 = .ok (.ifCond .lt 8, 3) := by decide +kernel
theorem dX12_readName_32 : decode cX12_readName 32 = .ok (.aload_n 0, 1) := by decide +kernel
theorem dX12_readName_33 : decode cX12_readName 33 = .ok (.iconst 3, 1) := by decide +kernel
theorem dX12_readName_34 : decode cX12_readName 34 = .ok (.invokevirtual 162, 3) := by decide +kernel
theorem dX12_readName_37 : decode cX12_readName 37 = .ok (.aload_n 0, 1) := by decide +kernel
theorem dX12_readName_38 : decode cX12_readName 38 = .ok (.getfield 156, 3) := by decide +kernel
theorem dX12_readName_41 : decode cX12_readName 41 = .ok (.ifCond .ne 51, 3) := by decide +kernel
theorem dX12_readName_44 : decode cX12_readName 44 = .ok (.aload_n 0, 1) := by decide +kernel
theorem dX12_readName_45 : decode cX12_readName 45 = .ok (.getfield 84, 3) := by decide +kernel
theorem dX12_readName_48 : decode cX12_readName 48 = .ok (.aload_n 0, 1) := by decide +kernel
theorem dX12_readName_49 : decode cX12_readName 49 = .ok (.getfield 179, 3) := by decide +kernel
theorem dX12_readName_52 : decode cX12_readName 52 = .ok (.aload_n 0, 1) := by decide +kernel
theorem dX12_readName_53 : decode cX12_readName 53 = .ok (.getfield 30, 3) := by decide +kernel
theorem dX12_readName_56 : decode cX12_readName 56 = .ok (.aload_n 0, 1) := by decide +kernel
theorem dX12_readName_57 : decode cX12_readName 57 = .ok (.getfield 153, 3) := by decide +kernel
theorem dX12_readName_60 : decode cX12_readName 60 = .ok (.laload, 1) := by decide +kernel
theorem dX12_readName_61 : decode cX12_readName 61 = .ok (.lastore, 1) := by decide +kernel
theorem dX12_readName_62 : decode cX12_readName 62 = .ok (.aload_n 0, 1) := by decide +kernel
theorem dX12_readName_63 : decode cX12_readName 63 = .ok (.getfield 87, 3) := by decide +kernel
theorem dX12_readName_66 : decode cX12_readName 66 = .ok (.aload_n 0, 1) := by decide +kernel
theorem dX12_readName_67 : decode cX12_readName 67 = .ok (.getfield 179, 3) := by decide +kernel
theorem dX12_readName_70 : decode cX12_readName 70 = .ok (.iload_n 1, 1) := by decide +kernel
theorem dX12_readName_71 : decode cX12_readName 71 = .ok (.iastore, 1) := by decide +kernel
theorem dX12_readName_72 : decode cX12_readName 72 = .ok (.aload_n 0, 1) := by decide +kernel
theorem dX12_readName_73 : decode cX12_readName 73 = .ok (.dup, 1) := by decide +kernel
theorem dX12_readName_74 : decode cX12_readName 74 = .ok (.getfield 179, 3) := by decide +kernel
theorem dX12_readName_77 : decode cX12_readName 77 = .ok (.iconst 1, 1) := by decide +kernel
theorem dX12_readName_78 : decode cX12_readName 78 = .ok (.iadd, 1) := by decide +kernel
theorem dX12_readName_79 : decode cX12_readName 79 = .ok (.putfield 179, 3) := by decide +kernel
theorem dX12_readName_82 : decode cX12_readName 82 = .ok (.aload_n 0, 1) := by decide +kernel
theorem dX12_readName_83 : decode cX12_readName 83 = .ok (.dup, 1) := by decide +kernel
theorem dX12_readName_84 : decode cX12_readName 84 = .ok (.getfield 153, 3) := by decide +kernel
theorem dX12_readName_87 : decode cX12_readName 87 = .ok (.iconst 1, 1) := by decide +kernel
theorem dX12_readName_88 : decode cX12_readName 88 = .ok (.iadd, 1) := by decide +kernel
theorem dX12_readName_89 : decode cX12_readName 89 = .ok (.putfield 153, 3) := by decide +kernel
theorem dX12_readName_92 : decode cX12_readName 92 = .ok (.return_, 1) := by decide +kernel
theorem dX12_readStuff_0 : decode cX12_readStuff 0 = .ok (.aload_n 0, 1) := by decide +kernel
theorem dX12_readStuff_1 : decode cX12_readStuff 1 = .ok (.getfield 75, 3) := by decide +kernel
theorem dX12_readStuff_4 : decode cX12_readStuff 4 = .ok (.bipush 84, 2) := by decide +kernel
theorem dX12_readStuff_6 : decode cX12_readStuff 6 = .ok (.iaload, 1) := by decide +kernel
theorem dX12_readStuff_7 : decode cX12_readStuff 7 = .ok (.istore_n 1, 1) := by decide +kernel
theorem dX12_readStuff_8 : decode cX12_readStuff 8 = .ok (.iload_n 1, 1) := by decide +kernel
theorem dX12_readStuff_9 : decode cX12_readStuff 9 = .ok (.iconst 5, 1) := by decide +kernel
theorem dX12_readStuff_10 : decode cX12_readStuff 10 = .ok (.if_icmp .ne 9, 3) := by decide +kernel
theorem dX12_readStuff_13 : decode cX12_readStuff 13 = .ok (.aload_n 0, 1) := by decide +kernel
theorem dX12_readStuff_14 : decode cX12_readStuff 14 = .ok (.iconst 5, 1) := by decide +kernel
theorem dX12_readStuff_15 : decode cX12_readStuff 15 = .ok (.invokevirtual 162, 3) := by decide +kernel
theorem dX12_readStuff_18 : decode cX12_readStuff 18 = .ok (.return_, 1) := by decide +kernel
theorem dX12_readStuff_19 : decode cX12_readStuff 19 = .ok (.aload_n 0, 1) := by decide +kernel
theorem dX12_readStuff_20 : decode cX12_readStuff 20 = .ok (.bipush 7, 2) := by decide +kernel
theorem dX12_readStuff_22 : decode cX12_readStuff 22 = .ok (.iload_n 1, 1) := by decide +kernel
theorem dX12_readStuff_23 : decode cX12_readStuff 23 = .ok (.iadd, 1) := by decide +kernel
theorem dX12_readStuff_24 : decode cX12_readStuff 24 = .ok (.invokevirtual 220, 3) := by decide +kernel
theorem dX12_readStuff_27 : decode cX12_readStuff 27 = .ok (.aload_n 0, 1) := by decide +kernel
theorem dX12_readStuff_28 : decode cX12_readStuff 28 = .ok (.getfield 75, 3) := by decide +kernel
theorem dX12_readStuff_31 : decode cX12_readStuff 31 = .ok (.bipush 91, 2) := by decide +kernel
theorem dX12_readStuff_33 : decode cX12_readStuff 33 = .ok (.iconst 2, 1) := by decide +kernel
theorem dX12_readStuff_34 : decode cX12_readStuff 34 = .ok (.iload_n 1, 1) := by decide +kernel
theorem dX12_readStuff_35 : decode cX12_readStuff 35 = .ok (.imul, 1) := by decide +kernel
theorem dX12_readStuff_36 : decode cX12_readStuff 36 = .ok (.iadd, 1) := by decide +kernel
theorem dX12_readStuff_37 : decode cX12_readStuff 37 = .ok (.aload_n 0, 1) := by decide +kernel
theorem dX12_readStuff_38 : decode cX12_readStuff 38 = .ok (.iconst 1, 1) := by decide +kernel
theorem dX12_readStuff_39 : decode cX12_readStuff 39 = .ok (.iconst 0, 1) := by decide +kernel
theorem dX12_readStuff_40 : decode cX12_readStuff 40 = .ok (.bipush 9, 2) := by decide +kernel
theorem dX12_readStuff_42 : decode cX12_readStuff 42 = .ok (.invokevirtual 223, 3) := by decide +kernel
theorem dX12_readStuff_45 : decode cX12_readStuff 45 = .ok (.iastore, 1) := by decide +kernel
theorem dX12_readStuff_46 : decode cX12_readStuff 46 = .ok (.aload_n 0, 1) := by decide +kernel
theorem dX12_readStuff_47 : decode cX12_readStuff 47 = .ok (.getfield 75, 3) := by decide +kernel
theorem dX12_readStuff_50 : decode cX12_readStuff 50 = .ok (.bipush 91, 2) := by decide +kernel
theorem dX12_readStuff_52 : decode cX12_readStuff 52 = .ok (.iconst 2, 1) := by decide +kernel
theorem dX12_readStuff_53 : decode cX12_readStuff 53 = .ok (.iload_n 1, 1) := by decide +kernel
theorem dX12_readStuff_54 : decode cX12_readStuff 54 = .ok (.imul, 1) := by decide +kernel
theorem dX12_readStuff_55 : decode cX12_readStuff 55 = .ok (.iadd, 1) := by decide +kernel
theorem dX12_readStuff_56 : decode cX12_readStuff 56 = .ok (.iconst 1, 1) := by decide +kernel
theorem dX12_readStuff_57 : decode cX12_readStuff 57 = .ok (.iadd, 1) := by decide +kernel
theorem dX12_readStuff_58 : decode cX12_readStuff 58 = .ok (.aload_n 0, 1) := by decide +kernel
theorem dX12_readStuff_59 : decode cX12_readStuff 59 = .ok (.iconst 2, 1) := by decide +kernel
theorem dX12_readStuff_60 : decode cX12_readStuff 60 = .ok (.iconst 0, 1) := by decide +kernel
theorem dX12_readStuff_61 : decode cX12_readStuff 61 = .ok (.bipush 9, 2) := by decide +kernel
theorem dX12_readStuff_63 : decode cX12_readStuff 63 = .ok (.invokevirtual 223, 3) := by decide +kernel
theorem dX12_readStuff_66 : decode cX12_readStuff 66 = .ok (.iastore, 1) := by decide +kernel
theorem dX12_readStuff_67 : decode cX12_readStuff 67 = .ok (.aload_n 0, 1) := by decide +kernel
theorem dX12_readStuff_68 : decode cX12_readStuff 68 = .ok (.getfield 75, 3) := by decide +kernel
theorem dX12_readStuff_71 : decode cX12_readStuff 71 = .ok (.bipush 84, 2) := by decide +kernel
theorem dX12_readStuff_73 : decode cX12_readStuff 73 = .ok (.dup2, 1) := by decide +kernel
theorem dX12_readStuff_74 : decode cX12_readStuff 74 = .ok (.iaload, 1) := by decide +kernel
theorem dX12_readStuff_75 : decode cX12_readStuff 75 = .ok (.iconst 1, 1) := by decide +kernel
theorem dX12_readStuff_76 : decode cX12_readStuff 76 = .ok (.iadd, 1) := by decide +kernel
theorem dX12_readStuff_77 : decode cX12_readStuff 77 = .ok (.iastore, 1) := by decide +kernel
theorem dX12_readStuff_78 : decode cX12_readStuff 78 = .ok (.return_, 1) := by decide +kernel
theorem dX12_readPlace_0 : decode cX12_readPlace 0 = .ok (.aload_n 0, 1) := by decide +kernel
theorem dX12_readPlace_1 : decode cX12_readPlace 1 = .ok (.getfield 75, 3) := by decide +kernel
theorem dX12_readPlace_4 : decode cX12_readPlace 4 = .ok (.bipush 85, 2) := by decide +kernel
theorem dX12_readPlace_6 : decode cX12_readPlace 6 = .ok (.iaload, 1) := by decide +kernel
theorem dX12_readPlace_7 : decode cX12_readPlace 7 = .ok (.istore_n 1, 1) := by decide +kernel
theorem dX12_readPlace_8 : decode cX12_readPlace 8 = .ok (.iload_n 1, 1) := by decide +kernel
theorem dX12_readPlace_9 : decode cX12_readPlace 9 = .ok (.bipush 7, 2) := by decide +kernel
theorem dX12_readPlace_11 : decode cX12_readPlace 11 = .ok (.if_icmp .ne 9, 3) := by decide +kernel
theorem dX12_readPlace_14 : decode cX12_readPlace 14 = .ok (.aload_n 0, 1) := by decide +kernel
theorem dX12_readPlace_15 : decode cX12_readPlace 15 = .ok (.iconst 5, 1) := by decide +kernel
theorem dX12_readPlace_16 : decode cX12_readPlace 16 = .ok (.invokevirtual 162, 3) := by decide +kernel
theorem dX12_readPlace_19 : decode cX12_readPlace 19 = .ok (.return_, 1) := by decide +kernel
theorem dX12_readPlace_20 : decode cX12_readPlace 20 = .ok (.aload_n 0, 1) := by decide +kernel
theorem dX12_readPlace_21 : decode cX12_readPlace 21 = .ok (.iload_n 1, 1) := by decide +kernel
theorem dX12_readPlace_22 : decode cX12_readPlace 22 = .ok (.invokevirtual 220, 3) := by decide +kernel
theorem dX12_readPlace_25 : decode cX12_readPlace 25 = .ok (.aload_n 0, 1) := by decide +kernel
theorem dX12_readPlace_26 : decode cX12_readPlace 26 = .ok (.getfield 75, 3) := by decide +kernel
theorem dX12_readPlace_29 : decode cX12_readPlace 29 = .ok (.bipush 85, 2) := by decide +kernel
theorem dX12_readPlace_31 : decode cX12_readPlace 31 = .ok (.dup2, 1) := by decide +kernel
theorem dX12_readPlace_32 : decode cX12_readPlace 32 = .ok (.iaload, 1) := by decide +kernel
theorem dX12_readPlace_33 : decode cX12_readPlace 33 = .ok (.iconst 1, 1) := by decide +kernel
theorem dX12_readPlace_34 : decode cX12_readPlace 34 = .ok (.iadd, 1) := by decide +kernel
theorem dX12_readPlace_35 : decode cX12_readPlace 35 = .ok (.iastore, 1) := by decide +kernel
theorem dX12_readPlace_36 : decode cX12_readPlace 36 = .ok (.return_, 1) := by decide +kernel
theorem dX12_takeTold_0 : decode cX12_takeTold 0 = .ok (.iconst (-1), 1) := by decide +kernel
theorem dX12_takeTold_1 : decode cX12_takeTold 1 = .ok (.istore_n 3, 1) := by decide +kernel
theorem dX12_takeTold_2 : decode cX12_takeTold 2 = .ok (.aload_n 0, 1) := by decide +kernel
theorem dX12_takeTold_3 : decode cX12_takeTold 3 = .ok (.invokevirtual 213, 3) := by decide +kernel
theorem dX12_takeTold_6 : decode cX12_takeTold 6 = .ok (.ifCond .ne 8, 3) := by decide +kernel
theorem dX12_takeTold_9 : decode cX12_takeTold 9 = .ok (.aload_n 0, 1) := by decide +kernel
theorem dX12_takeTold_10 : decode cX12_takeTold 10 = .ok (.iconst 1, 1) := by decide +kernel
theorem dX12_takeTold_11 : decode cX12_takeTold 11 = .ok (.invokevirtual 162, 3) := by decide +kernel
theorem dX12_takeTold_14 : decode cX12_takeTold 14 = .ok (.aload_n 0, 1) := by decide +kernel
theorem dX12_takeTold_15 : decode cX12_takeTold 15 = .ok (.getfield 156, 3) := by decide +kernel
theorem dX12_takeTold_18 : decode cX12_takeTold 18 = .ok (.ifCond .ne 45, 3) := by decide +kernel
theorem dX12_takeTold_21 : decode cX12_takeTold 21 = .ok (.aload_n 0, 1) := by decide +kernel
theorem dX12_takeTold_22 : decode cX12_takeTold 22 = .ok (.invokevirtual 217, 3) := by decide +kernel
theorem dX12_takeTold_25 : decode cX12_takeTold 25 = .ok (.istore_n 3, 1) := by decide +kernel
theorem dX12_takeTold_26 : decode cX12_takeTold 26 = .ok (.iload_n 3, 1) := by decide +kernel
theorem dX12_takeTold_27 : decode cX12_takeTold 27 = .ok (.ifCond .lt 18, 3) := by decide +kernel
theorem dX12_takeTold_30 : decode cX12_takeTold 30 = .ok (.iload_n 3, 1) := by decide +kernel
theorem dX12_takeTold_31 : decode cX12_takeTold 31 = .ok (.bipush 7, 2) := by decide +kernel
theorem dX12_takeTold_33 : decode cX12_takeTold 33 = .ok (.if_icmp .lt 7, 3) := by decide +kernel
theorem dX12_takeTold_36 : decode cX12_takeTold 36 = .ok (.iconst 1, 1) := by decide +kernel
theorem dX12_takeTold_37 : decode cX12_takeTold 37 = .ok (.goto 4, 3) := by decide +kernel
theorem dX12_takeTold_40 : decode cX12_takeTold 40 = .ok (.iconst 0, 1) := by decide +kernel
theorem dX12_takeTold_41 : decode cX12_takeTold 41 = .ok (.iload_n 1, 1) := by decide +kernel
theorem dX12_takeTold_42 : decode cX12_takeTold 42 = .ok (.if_icmp .eq 11, 3) := by decide +kernel
theorem dX12_takeTold_45 : decode cX12_takeTold 45 = .ok (.aload_n 0, 1) := by decide +kernel
theorem dX12_takeTold_46 : decode cX12_takeTold 46 = .ok (.iconst 2, 1) := by decide +kernel
theorem dX12_takeTold_47 : decode cX12_takeTold 47 = .ok (.invokevirtual 162, 3) := by decide +kernel
theorem dX12_takeTold_50 : decode cX12_takeTold 50 = .ok (.goto 13, 3) := by decide +kernel
theorem dX12_takeTold_53 : decode cX12_takeTold 53 = .ok (.iload_n 3, 1) := by decide +kernel
theorem dX12_takeTold_54 : decode cX12_takeTold 54 = .ok (.iload_n 2, 1) := by decide +kernel
theorem dX12_takeTold_55 : decode cX12_takeTold 55 = .ok (.if_icmp .ne 8, 3) := by decide +kernel
theorem dX12_takeTold_58 : decode cX12_takeTold 58 = .ok (.aload_n 0, 1) := by decide +kernel
theorem dX12_takeTold_59 : decode cX12_takeTold 59 = .ok (.iconst 3, 1) := by decide +kernel
theorem dX12_takeTold_60 : decode cX12_takeTold 60 = .ok (.invokevirtual 162, 3) := by decide +kernel
theorem dX12_takeTold_63 : decode cX12_takeTold 63 = .ok (.aload_n 0, 1) := by decide +kernel
theorem dX12_takeTold_64 : decode cX12_takeTold 64 = .ok (.dup, 1) := by decide +kernel
theorem dX12_takeTold_65 : decode cX12_takeTold 65 = .ok (.getfield 153, 3) := by decide +kernel
theorem dX12_takeTold_68 : decode cX12_takeTold 68 = .ok (.aload_n 0, 1) := by decide +kernel
theorem dX12_takeTold_69 : decode cX12_takeTold 69 = .ok (.getfield 156, 3) := by decide +kernel
theorem dX12_takeTold_72 : decode cX12_takeTold 72 = .ok (.ifCond .le 7, 3) := by decide +kernel
theorem dX12_takeTold_75 : decode cX12_takeTold 75 = .ok (.iconst 0, 1) := by decide +kernel
theorem dX12_takeTold_76 : decode cX12_takeTold 76 = .ok (.goto 4, 3) := by decide +kernel
theorem dX12_takeTold_79 : decode cX12_takeTold 79 = .ok (.iconst 1, 1) := by decide +kernel
theorem dX12_takeTold_80 : decode cX12_takeTold 80 = .ok (.iadd, 1) := by decide +kernel
theorem dX12_takeTold_81 : decode cX12_takeTold 81 = .ok (.putfield 153, 3) := by decide +kernel
theorem dX12_takeTold_84 : decode cX12_takeTold 84 = .ok (.iload_n 1, 1) := by decide +kernel
theorem dX12_takeTold_85 : decode cX12_takeTold 85 = .ok (.ifCond .eq 10, 3) := by decide +kernel
theorem dX12_takeTold_88 : decode cX12_takeTold 88 = .ok (.iload_n 3, 1) := by decide +kernel
theorem dX12_takeTold_89 : decode cX12_takeTold 89 = .ok (.bipush 7, 2) := by decide +kernel
theorem dX12_takeTold_91 : decode cX12_takeTold 91 = .ok (.isub, 1) := by decide +kernel
theorem dX12_takeTold_92 : decode cX12_takeTold 92 = .ok (.goto 4, 3) := by decide +kernel
theorem dX12_takeTold_95 : decode cX12_takeTold 95 = .ok (.iload_n 3, 1) := by decide +kernel
theorem dX12_takeTold_96 : decode cX12_takeTold 96 = .ok (.ireturn, 1) := by decide +kernel
theorem dX12_readRoad_0 : decode cX12_readRoad 0 = .ok (.aload_n 0, 1) := by decide +kernel
theorem dX12_readRoad_1 : decode cX12_readRoad 1 = .ok (.getfield 75, 3) := by decide +kernel
theorem dX12_readRoad_4 : decode cX12_readRoad 4 = .ok (.bipush 86, 2) := by decide +kernel
theorem dX12_readRoad_6 : decode cX12_readRoad 6 = .ok (.iaload, 1) := by decide +kernel
theorem dX12_readRoad_7 : decode cX12_readRoad 7 = .ok (.istore_n 1, 1) := by decide +kernel
theorem dX12_readRoad_8 : decode cX12_readRoad 8 = .ok (.iload_n 1, 1) := by decide +kernel
theorem dX12_readRoad_9 : decode cX12_readRoad 9 = .ok (.bipush 10, 2) := by decide +kernel
theorem dX12_readRoad_11 : decode cX12_readRoad 11 = .ok (.if_icmp .ne 9, 3) := by decide +kernel
theorem dX12_readRoad_14 : decode cX12_readRoad 14 = .ok (.aload_n 0, 1) := by decide +kernel
theorem dX12_readRoad_15 : decode cX12_readRoad 15 = .ok (.iconst 5, 1) := by decide +kernel
theorem dX12_readRoad_16 : decode cX12_readRoad 16 = .ok (.invokevirtual 162, 3) := by decide +kernel
theorem dX12_readRoad_19 : decode cX12_readRoad 19 = .ok (.return_, 1) := by decide +kernel
theorem dX12_readRoad_20 : decode cX12_readRoad 20 = .ok (.aload_n 0, 1) := by decide +kernel
theorem dX12_readRoad_21 : decode cX12_readRoad 21 = .ok (.dup, 1) := by decide +kernel
theorem dX12_readRoad_22 : decode cX12_readRoad 22 = .ok (.getfield 153, 3) := by decide +kernel
theorem dX12_readRoad_25 : decode cX12_readRoad 25 = .ok (.iconst 1, 1) := by decide +kernel
theorem dX12_readRoad_26 : decode cX12_readRoad 26 = .ok (.iadd, 1) := by decide +kernel
theorem dX12_readRoad_27 : decode cX12_readRoad 27 = .ok (.putfield 153, 3) := by decide +kernel
theorem dX12_readRoad_30 : decode cX12_readRoad 30 = .ok (.bipush 101, 2) := by decide +kernel
theorem dX12_readRoad_32 : decode cX12_readRoad 32 = .ok (.iconst 4, 1) := by decide +kernel
theorem dX12_readRoad_33 : decode cX12_readRoad 33 = .ok (.iload_n 1, 1) := by decide +kernel
theorem dX12_readRoad_34 : decode cX12_readRoad 34 = .ok (.imul, 1) := by decide +kernel
theorem dX12_readRoad_35 : decode cX12_readRoad 35 = .ok (.iadd, 1) := by decide +kernel
theorem dX12_readRoad_36 : decode cX12_readRoad 36 = .ok (.istore_n 2, 1) := by decide +kernel
theorem dX12_readRoad_37 : decode cX12_readRoad 37 = .ok (.aload_n 0, 1) := by decide +kernel
theorem dX12_readRoad_38 : decode cX12_readRoad 38 = .ok (.getfield 75, 3) := by decide +kernel
theorem dX12_readRoad_41 : decode cX12_readRoad 41 = .ok (.iload_n 2, 1) := by decide +kernel
theorem dX12_readRoad_42 : decode cX12_readRoad 42 = .ok (.aload_n 0, 1) := by decide +kernel
theorem dX12_readRoad_43 : decode cX12_readRoad 43 = .ok (.iconst 0, 1) := by decide +kernel
theorem dX12_readRoad_44 : decode cX12_readRoad 44 = .ok (.iconst (-1), 1) := by decide +kernel
theorem dX12_readRoad_45 : decode cX12_readRoad 45 = .ok (.invokevirtual 227, 3) := by decide +kernel
theorem dX12_readRoad_48 : decode cX12_readRoad 48 = .ok (.iastore, 1) := by decide +kernel
theorem dX12_readRoad_49 : decode cX12_readRoad 49 = .ok (.aload_n 0, 1) := by decide +kernel
theorem dX12_readRoad_50 : decode cX12_readRoad 50 = .ok (.getfield 75, 3) := by decide +kernel
theorem dX12_readRoad_53 : decode cX12_readRoad 53 = .ok (.iload_n 2, 1) := by decide +kernel
theorem dX12_readRoad_54 : decode cX12_readRoad 54 = .ok (.iconst 1, 1) := by decide +kernel
theorem dX12_readRoad_55 : decode cX12_readRoad 55 = .ok (.iadd, 1) := by decide +kernel
theorem dX12_readRoad_56 : decode cX12_readRoad 56 = .ok (.aload_n 0, 1) := by decide +kernel
theorem dX12_readRoad_57 : decode cX12_readRoad 57 = .ok (.iconst 0, 1) := by decide +kernel
theorem dX12_readRoad_58 : decode cX12_readRoad 58 = .ok (.aload_n 0, 1) := by decide +kernel
theorem dX12_readRoad_59 : decode cX12_readRoad 59 = .ok (.getfield 75, 3) := by decide +kernel
theorem dX12_readRoad_62 : decode cX12_readRoad 62 = .ok (.iload_n 2, 1) := by decide +kernel
theorem dX12_readRoad_63 : decode cX12_readRoad 63 = .ok (.iaload, 1) := by decide +kernel
theorem dX12_readRoad_64 : decode cX12_readRoad 64 = .ok (.invokevirtual 227, 3) := by decide +kernel
theorem dX12_readRoad_67 : decode cX12_readRoad 67 = .ok (.iastore, 1) := by decide +kernel
theorem dX12_readRoad_68 : decode cX12_readRoad 68 = .ok (.aload_n 0, 1) := by decide +kernel
theorem dX12_readRoad_69 : decode cX12_readRoad 69 = .ok (.getfield 75, 3) := by decide +kernel
theorem dX12_readRoad_72 : decode cX12_readRoad 72 = .ok (.iload_n 2, 1) := by decide +kernel
theorem dX12_readRoad_73 : decode cX12_readRoad 73 = .ok (.iconst 2, 1) := by decide +kernel
theorem dX12_readRoad_74 : decode cX12_readRoad 74 = .ok (.iadd, 1) := by decide +kernel
theorem dX12_readRoad_75 : decode cX12_readRoad 75 = .ok (.aload_n 0, 1) := by decide +kernel
theorem dX12_readRoad_76 : decode cX12_readRoad 76 = .ok (.iconst 5, 1) := by decide +kernel
theorem dX12_readRoad_77 : decode cX12_readRoad 77 = .ok (.iconst 1, 1) := by decide +kernel
theorem dX12_readRoad_78 : decode cX12_readRoad 78 = .ok (.bipush 99, 2) := by decide +kernel
theorem dX12_readRoad_80 : decode cX12_readRoad 80 = .ok (.invokevirtual 223, 3) := by decide +kernel
theorem dX12_readRoad_83 : decode cX12_readRoad 83 = .ok (.iastore, 1) := by decide +kernel
theorem dX12_readRoad_84 : decode cX12_readRoad 84 = .ok (.aload_n 0, 1) := by decide +kernel
theorem dX12_readRoad_85 : decode cX12_readRoad 85 = .ok (.getfield 75, 3) := by decide +kernel
theorem dX12_readRoad_88 : decode cX12_readRoad 88 = .ok (.iload_n 2, 1) := by decide +kernel
theorem dX12_readRoad_89 : decode cX12_readRoad 89 = .ok (.iconst 3, 1) := by decide +kernel
theorem dX12_readRoad_90 : decode cX12_readRoad 90 = .ok (.iadd, 1) := by decide +kernel
theorem dX12_readRoad_91 : decode cX12_readRoad 91 = .ok (.aload_n 0, 1) := by decide +kernel
theorem dX12_readRoad_92 : decode cX12_readRoad 92 = .ok (.bipush 6, 2) := by decide +kernel
theorem dX12_readRoad_94 : decode cX12_readRoad 94 = .ok (.iconst 0, 1) := by decide +kernel
theorem dX12_readRoad_95 : decode cX12_readRoad 95 = .ok (.sipush 999, 3) := by decide +kernel
theorem dX12_readRoad_98 : decode cX12_readRoad 98 = .ok (.invokevirtual 223, 3) := by decide +kernel
theorem dX12_readRoad_101 : decode cX12_readRoad 101 = .ok (.iastore, 1) := by decide +kernel
theorem dX12_readRoad_102 : decode cX12_readRoad 102 = .ok (.aload_n 0, 1) := by decide +kernel
theorem dX12_readRoad_103 : decode cX12_readRoad 103 = .ok (.getfield 75, 3) := by decide +kernel
theorem dX12_readRoad_106 : decode cX12_readRoad 106 = .ok (.bipush 86, 2) := by decide +kernel
theorem dX12_readRoad_108 : decode cX12_readRoad 108 = .ok (.dup2, 1) := by decide +kernel
theorem dX12_readRoad_109 : decode cX12_readRoad 109 = .ok (.iaload, 1) := by decide +kernel
theorem dX12_readRoad_110 : decode cX12_readRoad 110 = .ok (.iconst 1, 1) := by decide +kernel
theorem dX12_readRoad_111 : decode cX12_readRoad 111 = .ok (.iadd, 1) := by decide +kernel
theorem dX12_readRoad_112 : decode cX12_readRoad 112 = .ok (.iastore, 1) := by decide +kernel
theorem dX12_readRoad_113 : decode cX12_readRoad 113 = .ok (.return_, 1) := by decide +kernel
theorem dX12_readTrade_0 : decode cX12_readTrade 0 = .ok (.aload_n 0, 1) := by decide +kernel
theorem dX12_readTrade_1 : decode cX12_readTrade 1 = .ok (.getfield 75, 3) := by decide +kernel
theorem dX12_readTrade_4 : decode cX12_readTrade 4 = .ok (.bipush 87, 2) := by decide +kernel
theorem dX12_readTrade_6 : decode cX12_readTrade 6 = .ok (.iaload, 1) := by decide +kernel
theorem dX12_readTrade_7 : decode cX12_readTrade 7 = .ok (.istore_n 1, 1) := by decide +kernel
theorem dX12_readTrade_8 : decode cX12_readTrade 8 = .ok (.iload_n 1, 1) := by decide +kernel
theorem dX12_readTrade_9 : decode cX12_readTrade 9 = .ok (.bipush 6, 2) := by decide +kernel
theorem dX12_readTrade_11 : decode cX12_readTrade 11 = .ok (.if_icmp .ne 9, 3) := by decide +kernel
theorem dX12_readTrade_14 : decode cX12_readTrade 14 = .ok (.aload_n 0, 1) := by decide +kernel
theorem dX12_readTrade_15 : decode cX12_readTrade 15 = .ok (.iconst 5, 1) := by decide +kernel
theorem dX12_readTrade_16 : decode cX12_readTrade 16 = .ok (.invokevirtual 162, 3) := by decide +kernel
theorem dX12_readTrade_19 : decode cX12_readTrade 19 = .ok (.return_, 1) := by decide +kernel
theorem dX12_readTrade_20 : decode cX12_readTrade 20 = .ok (.aload_n 0, 1) := by decide +kernel
theorem dX12_readTrade_21 : decode cX12_readTrade 21 = .ok (.dup, 1) := by decide +kernel
theorem dX12_readTrade_22 : decode cX12_readTrade 22 = .ok (.getfield 153, 3) := by decide +kernel
theorem dX12_readTrade_25 : decode cX12_readTrade 25 = .ok (.iconst 1, 1) := by decide +kernel
theorem dX12_readTrade_26 : decode cX12_readTrade 26 = .ok (.iadd, 1) := by decide +kernel
theorem dX12_readTrade_27 : decode cX12_readTrade 27 = .ok (.putfield 153, 3) := by decide +kernel
theorem dX12_readTrade_30 : decode cX12_readTrade 30 = .ok (.sipush 141, 3) := by decide +kernel
theorem dX12_readTrade_33 : decode cX12_readTrade 33 = .ok (.iconst 4, 1) := by decide +kernel
theorem dX12_readTrade_34 : decode cX12_readTrade 34 = .ok (.iload_n 1, 1) := by decide +kernel
theorem dX12_readTrade_35 : decode cX12_readTrade 35 = .ok (.imul, 1) := by decide +kernel
theorem dX12_readTrade_36 : decode cX12_readTrade 36 = .ok (.iadd, 1) := by decide +kernel
theorem dX12_readTrade_37 : decode cX12_readTrade 37 = .ok (.istore_n 2, 1) := by decide +kernel
theorem dX12_readTrade_38 : decode cX12_readTrade 38 = .ok (.aload_n 0, 1) := by decide +kernel
theorem dX12_readTrade_39 : decode cX12_readTrade 39 = .ok (.getfield 75, 3) := by decide +kernel
theorem dX12_readTrade_42 : decode cX12_readTrade 42 = .ok (.iload_n 2, 1) := by decide +kernel
theorem dX12_readTrade_43 : decode cX12_readTrade 43 = .ok (.aload_n 0, 1) := by decide +kernel
theorem dX12_readTrade_44 : decode cX12_readTrade 44 = .ok (.iconst 0, 1) := by decide +kernel
theorem dX12_readTrade_45 : decode cX12_readTrade 45 = .ok (.iconst (-1), 1) := by decide +kernel
theorem dX12_readTrade_46 : decode cX12_readTrade 46 = .ok (.invokevirtual 227, 3) := by decide +kernel
theorem dX12_readTrade_49 : decode cX12_readTrade 49 = .ok (.iastore, 1) := by decide +kernel
theorem dX12_readTrade_50 : decode cX12_readTrade 50 = .ok (.aload_n 0, 1) := by decide +kernel
theorem dX12_readTrade_51 : decode cX12_readTrade 51 = .ok (.getfield 75, 3) := by decide +kernel
theorem dX12_readTrade_54 : decode cX12_readTrade 54 = .ok (.iload_n 2, 1) := by decide +kernel
theorem dX12_readTrade_55 : decode cX12_readTrade 55 = .ok (.iconst 1, 1) := by decide +kernel
theorem dX12_readTrade_56 : decode cX12_readTrade 56 = .ok (.iadd, 1) := by decide +kernel
theorem dX12_readTrade_57 : decode cX12_readTrade 57 = .ok (.aload_n 0, 1) := by decide +kernel
theorem dX12_readTrade_58 : decode cX12_readTrade 58 = .ok (.iconst 0, 1) := by decide +kernel
theorem dX12_readTrade_59 : decode cX12_readTrade 59 = .ok (.aload_n 0, 1) := by decide +kernel
theorem dX12_readTrade_60 : decode cX12_readTrade 60 = .ok (.getfield 75, 3) := by decide +kernel
theorem dX12_readTrade_63 : decode cX12_readTrade 63 = .ok (.iload_n 2, 1) := by decide +kernel
theorem dX12_readTrade_64 : decode cX12_readTrade 64 = .ok (.iaload, 1) := by decide +kernel
theorem dX12_readTrade_65 : decode cX12_readTrade 65 = .ok (.invokevirtual 227, 3) := by decide +kernel
theorem dX12_readTrade_68 : decode cX12_readTrade 68 = .ok (.iastore, 1) := by decide +kernel
theorem dX12_readTrade_69 : decode cX12_readTrade 69 = .ok (.aload_n 0, 1) := by decide +kernel
theorem dX12_readTrade_70 : decode cX12_readTrade 70 = .ok (.bipush 8, 2) := by decide +kernel
theorem dX12_readTrade_72 : decode cX12_readTrade 72 = .ok (.invokevirtual 172, 3) := by decide +kernel
theorem dX12_readTrade_75 : decode cX12_readTrade 75 = .ok (.aload_n 0, 1) := by decide +kernel
theorem dX12_readTrade_76 : decode cX12_readTrade 76 = .ok (.getfield 75, 3) := by decide +kernel
theorem dX12_readTrade_79 : decode cX12_readTrade 79 = .ok (.iload_n 2, 1) := by decide +kernel
theorem dX12_readTrade_80 : decode cX12_readTrade 80 = .ok (.iconst 2, 1) := by decide +kernel
theorem dX12_readTrade_81 : decode cX12_readTrade 81 = .ok (.iadd, 1) := by decide +kernel
theorem dX12_readTrade_82 : decode cX12_readTrade 82 = .ok (.aload_n 0, 1) := by decide +kernel
theorem dX12_readTrade_83 : decode cX12_readTrade 83 = .ok (.iconst 1, 1) := by decide +kernel
theorem dX12_readTrade_84 : decode cX12_readTrade 84 = .ok (.iconst (-1), 1) := by decide +kernel
theorem dX12_readTrade_85 : decode cX12_readTrade 85 = .ok (.invokevirtual 227, 3) := by decide +kernel
theorem dX12_readTrade_88 : decode cX12_readTrade 88 = .ok (.iastore, 1) := by decide +kernel
theorem dX12_readTrade_89 : decode cX12_readTrade 89 = .ok (.aload_n 0, 1) := by decide +kernel
theorem dX12_readTrade_90 : decode cX12_readTrade 90 = .ok (.getfield 75, 3) := by decide +kernel
theorem dX12_readTrade_93 : decode cX12_readTrade 93 = .ok (.iload_n 2, 1) := by decide +kernel
theorem dX12_readTrade_94 : decode cX12_readTrade 94 = .ok (.iconst 3, 1) := by decide +kernel
theorem dX12_readTrade_95 : decode cX12_readTrade 95 = .ok (.iadd, 1) := by decide +kernel
theorem dX12_readTrade_96 : decode cX12_readTrade 96 = .ok (.aload_n 0, 1) := by decide +kernel
theorem dX12_readTrade_97 : decode cX12_readTrade 97 = .ok (.bipush 9, 2) := by decide +kernel
theorem dX12_readTrade_99 : decode cX12_readTrade 99 = .ok (.iconst 1, 1) := by decide +kernel
theorem dX12_readTrade_100 : decode cX12_readTrade 100 = .ok (.sipush 999, 3) := by decide +kernel
theorem dX12_readTrade_103 : decode cX12_readTrade 103 = .ok (.invokevirtual 223, 3) := by decide +kernel
theorem dX12_readTrade_106 : decode cX12_readTrade 106 = .ok (.iastore, 1) := by decide +kernel
theorem dX12_readTrade_107 : decode cX12_readTrade 107 = .ok (.aload_n 0, 1) := by decide +kernel
theorem dX12_readTrade_108 : decode cX12_readTrade 108 = .ok (.getfield 75, 3) := by decide +kernel
theorem dX12_readTrade_111 : decode cX12_readTrade 111 = .ok (.bipush 87, 2) := by decide +kernel
theorem dX12_readTrade_113 : decode cX12_readTrade 113 = .ok (.dup2, 1) := by decide +kernel
theorem dX12_readTrade_114 : decode cX12_readTrade 114 = .ok (.iaload, 1) := by decide +kernel
theorem dX12_readTrade_115 : decode cX12_readTrade 115 = .ok (.iconst 1, 1) := by decide +kernel
theorem dX12_readTrade_116 : decode cX12_readTrade 116 = .ok (.iadd, 1) := by decide +kernel
theorem dX12_readTrade_117 : decode cX12_readTrade 117 = .ok (.iastore, 1) := by decide +kernel
theorem dX12_readTrade_118 : decode cX12_readTrade 118 = .ok (.return_, 1) := by decide +kernel
theorem dX12_readLaw_0 : decode cX12_readLaw 0 = .ok (.aload_n 0, 1) := by decide +kernel
theorem dX12_readLaw_1 : decode cX12_readLaw 1 = .ok (.iconst (-1), 1) := by decide +kernel
theorem dX12_readLaw_2 : decode cX12_readLaw 2 = .ok (.putfield 231, 3) := by decide +kernel
theorem dX12_readLaw_5 : decode cX12_readLaw 5 = .ok (.iconst 0, 1) := by decide +kernel
theorem dX12_readLaw_6 : decode cX12_readLaw 6 = .ok (.istore_n 1, 1) := by decide +kernel
theorem dX12_readLaw_7 : decode cX12_readLaw 7 = .ok (.iload_n 1, 1) := by decide +kernel
theorem dX12_readLaw_8 : decode cX12_readLaw 8 = .ok (.iconst 3, 1) := by decide +kernel
theorem dX12_readLaw_9 : decode cX12_readLaw 9 = .ok (.if_icmp .ge 32, 3) := by decide +kernel
theorem dX12_readLaw_12 : decode cX12_readLaw 12 = .ok (.aload_n 0, 1) := by decide +kernel
theorem dX12_readLaw_13 : decode cX12_readLaw 13 = .ok (.aload_n 0, 1) := by decide +kernel
theorem dX12_readLaw_14 : decode cX12_readLaw 14 = .ok (.bipush 10, 2) := by decide +kernel
theorem dX12_readLaw_16 : decode cX12_readLaw 16 = .ok (.iload_n 1, 1) := by decide +kernel
theorem dX12_readLaw_17 : decode cX12_readLaw 17 = .ok (.iadd, 1) := by decide +kernel
theorem dX12_readLaw_18 : decode cX12_readLaw 18 = .ok (.invokevirtual 166, 3) := by decide +kernel
theorem dX12_readLaw_21 : decode cX12_readLaw 21 = .ok (.ifCond .eq 7, 3) := by decide +kernel
theorem dX12_readLaw_24 : decode cX12_readLaw 24 = .ok (.iload_n 1, 1) := by decide +kernel
theorem dX12_readLaw_25 : decode cX12_readLaw 25 = .ok (.goto 7, 3) := by decide +kernel
theorem dX12_readLaw_28 : decode cX12_readLaw 28 = .ok (.aload_n 0, 1) := by decide +kernel
theorem dX12_readLaw_29 : decode cX12_readLaw 29 = .ok (.getfield 231, 3) := by decide +kernel
theorem dX12_readLaw_32 : decode cX12_readLaw 32 = .ok (.putfield 231, 3) := by decide +kernel
theorem dX12_readLaw_35 : decode cX12_readLaw 35 = .ok (.iinc 1 1, 3) := by decide +kernel
theorem dX12_readLaw_38 : decode cX12_readLaw 38 = .ok (.goto (-31), 3) := by decide +kernel
theorem dX12_readLaw_41 : decode cX12_readLaw 41 = .ok (.aload_n 0, 1) := by decide +kernel
theorem dX12_readLaw_42 : decode cX12_readLaw 42 = .ok (.getfield 231, 3) := by decide +kernel
theorem dX12_readLaw_45 : decode cX12_readLaw 45 = .ok (.ifCond .ge 9, 3) := by decide +kernel
theorem dX12_readLaw_48 : decode cX12_readLaw 48 = .ok (.aload_n 0, 1) := by decide +kernel
theorem dX12_readLaw_49 : decode cX12_readLaw 49 = .ok (.iconst 1, 1) := by decide +kernel
theorem dX12_readLaw_50 : decode cX12_readLaw 50 = .ok (.invokevirtual 162, 3) := by decide +kernel
theorem dX12_readLaw_53 : decode cX12_readLaw 53 = .ok (.return_, 1) := by decide +kernel
theorem dX12_readLaw_54 : decode cX12_readLaw 54 = .ok (.bipush 88, 2) := by decide +kernel
theorem dX12_readLaw_56 : decode cX12_readLaw 56 = .ok (.aload_n 0, 1) := by decide +kernel
theorem dX12_readLaw_57 : decode cX12_readLaw 57 = .ok (.getfield 231, 3) := by decide +kernel
theorem dX12_readLaw_60 : decode cX12_readLaw 60 = .ok (.iadd, 1) := by decide +kernel
theorem dX12_readLaw_61 : decode cX12_readLaw 61 = .ok (.istore_n 1, 1) := by decide +kernel
theorem dX12_readLaw_62 : decode cX12_readLaw 62 = .ok (.aload_n 0, 1) := by decide +kernel
theorem dX12_readLaw_63 : decode cX12_readLaw 63 = .ok (.getfield 75, 3) := by decide +kernel
theorem dX12_readLaw_66 : decode cX12_readLaw 66 = .ok (.iload_n 1, 1) := by decide +kernel
theorem dX12_readLaw_67 : decode cX12_readLaw 67 = .ok (.iaload, 1) := by decide +kernel
theorem dX12_readLaw_68 : decode cX12_readLaw 68 = .ok (.ifCond .lt 9, 3) := by decide +kernel
theorem dX12_readLaw_71 : decode cX12_readLaw 71 = .ok (.aload_n 0, 1) := by decide +kernel
theorem dX12_readLaw_72 : decode cX12_readLaw 72 = .ok (.iconst 3, 1) := by decide +kernel
theorem dX12_readLaw_73 : decode cX12_readLaw 73 = .ok (.invokevirtual 162, 3) := by decide +kernel
theorem dX12_readLaw_76 : decode cX12_readLaw 76 = .ok (.return_, 1) := by decide +kernel
theorem dX12_readLaw_77 : decode cX12_readLaw 77 = .ok (.aload_n 0, 1) := by decide +kernel
theorem dX12_readLaw_78 : decode cX12_readLaw 78 = .ok (.dup, 1) := by decide +kernel
theorem dX12_readLaw_79 : decode cX12_readLaw 79 = .ok (.getfield 153, 3) := by decide +kernel
theorem dX12_readLaw_82 : decode cX12_readLaw 82 = .ok (.iconst 1, 1) := by decide +kernel
theorem dX12_readLaw_83 : decode cX12_readLaw 83 = .ok (.iadd, 1) := by decide +kernel
theorem dX12_readLaw_84 : decode cX12_readLaw 84 = .ok (.putfield 153, 3) := by decide +kernel
theorem dX12_readLaw_87 : decode cX12_readLaw 87 = .ok (.aload_n 0, 1) := by decide +kernel
theorem dX12_readLaw_88 : decode cX12_readLaw 88 = .ok (.getfield 75, 3) := by decide +kernel
theorem dX12_readLaw_91 : decode cX12_readLaw 91 = .ok (.iload_n 1, 1) := by decide +kernel
theorem dX12_readLaw_92 : decode cX12_readLaw 92 = .ok (.aload_n 0, 1) := by decide +kernel
theorem dX12_readLaw_93 : decode cX12_readLaw 93 = .ok (.getfield 185, 3) := by decide +kernel
theorem dX12_readLaw_96 : decode cX12_readLaw 96 = .ok (.iastore, 1) := by decide +kernel
theorem dX12_readLaw_97 : decode cX12_readLaw 97 = .ok (.aload_n 0, 1) := by decide +kernel
theorem dX12_readLaw_98 : decode cX12_readLaw 98 = .ok (.iconst 0, 1) := by decide +kernel
theorem dX12_readLaw_99 : decode cX12_readLaw 99 = .ok (.invokevirtual 234, 3) := by decide +kernel
theorem dX12_readLaw_102 : decode cX12_readLaw 102 = .ok (.aload_n 0, 1) := by decide +kernel
theorem dX12_readLaw_103 : decode cX12_readLaw 103 = .ok (.iconst 0, 1) := by decide +kernel
theorem dX12_readLaw_104 : decode cX12_readLaw 104 = .ok (.iconst 0, 1) := by decide +kernel
theorem dX12_readLaw_105 : decode cX12_readLaw 105 = .ok (.invokevirtual 237, 3) := by decide +kernel
theorem dX12_readLaw_108 : decode cX12_readLaw 108 = .ok (.return_, 1) := by decide +kernel
theorem dX12_emit_0 : decode cX12_emit 0 = .ok (.aload_n 0, 1) := by decide +kernel
theorem dX12_emit_1 : decode cX12_emit 1 = .ok (.getfield 78, 3) := by decide +kernel
theorem dX12_emit_4 : decode cX12_emit 4 = .ok (.sipush 1100, 3) := by decide +kernel
theorem dX12_emit_7 : decode cX12_emit 7 = .ok (.aload_n 0, 1) := by decide +kernel
theorem dX12_emit_8 : decode cX12_emit 8 = .ok (.getfield 185, 3) := by decide +kernel
theorem dX12_emit_11 : decode cX12_emit 11 = .ok (.iadd, 1) := by decide +kernel
theorem dX12_emit_12 : decode cX12_emit 12 = .ok (.iload_n 1, 1) := by decide +kernel
theorem dX12_emit_13 : decode cX12_emit 13 = .ok (.iastore, 1) := by decide +kernel
theorem dX12_emit_14 : decode cX12_emit 14 = .ok (.aload_n 0, 1) := by decide +kernel
theorem dX12_emit_15 : decode cX12_emit 15 = .ok (.getfield 81, 3) := by decide +kernel
theorem dX12_emit_18 : decode cX12_emit 18 = .ok (.sipush 1100, 3) := by decide +kernel
theorem dX12_emit_21 : decode cX12_emit 21 = .ok (.aload_n 0, 1) := by decide +kernel
theorem dX12_emit_22 : decode cX12_emit 22 = .ok (.getfield 185, 3) := by decide +kernel
theorem dX12_emit_25 : decode cX12_emit 25 = .ok (.iadd, 1) := by decide +kernel
theorem dX12_emit_26 : decode cX12_emit 26 = .ok (.iload_n 2, 1) := by decide +kernel
theorem dX12_emit_27 : decode cX12_emit 27 = .ok (.iastore, 1) := by decide +kernel
theorem dX12_emit_28 : decode cX12_emit 28 = .ok (.aload_n 0, 1) := by decide +kernel
theorem dX12_emit_29 : decode cX12_emit 29 = .ok (.dup, 1) := by decide +kernel
theorem dX12_emit_30 : decode cX12_emit 30 = .ok (.getfield 185, 3) := by decide +kernel
theorem dX12_emit_33 : decode cX12_emit 33 = .ok (.iconst 1, 1) := by decide +kernel
theorem dX12_emit_34 : decode cX12_emit 34 = .ok (.iadd, 1) := by decide +kernel
theorem dX12_emit_35 : decode cX12_emit 35 = .ok (.putfield 185, 3) := by decide +kernel
theorem dX12_emit_38 : decode cX12_emit 38 = .ok (.return_, 1) := by decide +kernel
theorem dX12_all_0 : decode cX12_all 0 = .ok (.aload_n 0, 1) := by decide +kernel
theorem dX12_all_1 : decode cX12_all 1 = .ok (.iload_n 1, 1) := by decide +kernel
theorem dX12_all_2 : decode cX12_all 2 = .ok (.invokevirtual 241, 3) := by decide +kernel
theorem dX12_all_5 : decode cX12_all 5 = .ok (.aload_n 0, 1) := by decide +kernel
theorem dX12_all_6 : decode cX12_all 6 = .ok (.bipush 14, 2) := by decide +kernel
theorem dX12_all_8 : decode cX12_all 8 = .ok (.invokevirtual 166, 3) := by decide +kernel
theorem dX12_all_11 : decode cX12_all 11 = .ok (.ifCond .ne 12, 3) := by decide +kernel
theorem dX12_all_14 : decode cX12_all 14 = .ok (.aload_n 0, 1) := by decide +kernel
theorem dX12_all_15 : decode cX12_all 15 = .ok (.bipush 15, 2) := by decide +kernel
theorem dX12_all_17 : decode cX12_all 17 = .ok (.invokevirtual 166, 3) := by decide +kernel
theorem dX12_all_20 : decode cX12_all 20 = .ok (.ifCond .eq 44, 3) := by decide +kernel
theorem dX12_all_23 : decode cX12_all 23 = .ok (.aload_n 0, 1) := by decide +kernel
theorem dX12_all_24 : decode cX12_all 24 = .ok (.bipush 14, 2) := by decide +kernel
theorem dX12_all_26 : decode cX12_all 26 = .ok (.invokevirtual 166, 3) := by decide +kernel
theorem dX12_all_29 : decode cX12_all 29 = .ok (.istore_n 2, 1) := by decide +kernel
theorem dX12_all_30 : decode cX12_all 30 = .ok (.aload_n 0, 1) := by decide +kernel
theorem dX12_all_31 : decode cX12_all 31 = .ok (.dup, 1) := by decide +kernel
theorem dX12_all_32 : decode cX12_all 32 = .ok (.getfield 153, 3) := by decide +kernel
theorem dX12_all_35 : decode cX12_all 35 = .ok (.iconst 1, 1) := by decide +kernel
theorem dX12_all_36 : decode cX12_all 36 = .ok (.iadd, 1) := by decide +kernel
theorem dX12_all_37 : decode cX12_all 37 = .ok (.putfield 153, 3) := by decide +kernel
theorem dX12_all_40 : decode cX12_all 40 = .ok (.aload_n 0, 1) := by decide +kernel
theorem dX12_all_41 : decode cX12_all 41 = .ok (.iload_n 1, 1) := by decide +kernel
theorem dX12_all_42 : decode cX12_all 42 = .ok (.invokevirtual 241, 3) := by decide +kernel
theorem dX12_all_45 : decode cX12_all 45 = .ok (.aload_n 0, 1) := by decide +kernel
theorem dX12_all_46 : decode cX12_all 46 = .ok (.iload_n 2, 1) := by decide +kernel
theorem dX12_all_47 : decode cX12_all 47 = .ok (.ifCond .eq 8, 3) := by decide +kernel
theorem dX12_all_50 : decode cX12_all 50 = .ok (.bipush 9, 2) := by decide +kernel
theorem dX12_all_52 : decode cX12_all 52 = .ok (.goto 5, 3) := by decide +kernel
theorem dX12_all_55 : decode cX12_all 55 = .ok (.bipush 10, 2) := by decide +kernel
theorem dX12_all_57 : decode cX12_all 57 = .ok (.iconst 0, 1) := by decide +kernel
theorem dX12_all_58 : decode cX12_all 58 = .ok (.invokevirtual 237, 3) := by decide +kernel
theorem dX12_all_61 : decode cX12_all 61 = .ok (.goto (-56), 3) := by decide +kernel
theorem dX12_all_64 : decode cX12_all 64 = .ok (.return_, 1) := by decide +kernel
theorem dX12_test_0 : decode cX12_test 0 = .ok (.aload_n 0, 1) := by decide +kernel
theorem dX12_test_1 : decode cX12_test 1 = .ok (.iload_n 1, 1) := by decide +kernel
theorem dX12_test_2 : decode cX12_test 2 = .ok (.invokevirtual 244, 3) := by decide +kernel
theorem dX12_test_5 : decode cX12_test 5 = .ok (.aload_n 0, 1) := by decide +kernel
theorem dX12_test_6 : decode cX12_test 6 = .ok (.bipush 60, 2) := by decide +kernel
theorem dX12_test_8 : decode cX12_test 8 = .ok (.invokevirtual 159, 3) := by decide +kernel
theorem dX12_test_11 : decode cX12_test 11 = .ok (.istore_n 2, 1) := by decide +kernel
theorem dX12_test_12 : decode cX12_test 12 = .ok (.aload_n 0, 1) := by decide +kernel
theorem dX12_test_13 : decode cX12_test 13 = .ok (.bipush 60, 2) := by decide +kernel
theorem dX12_test_15 : decode cX12_test 15 = .ok (.invokevirtual 247, 3) := by decide +kernel
theorem dX12_test_18 : decode cX12_test 18 = .ok (.ifCond .ne 12, 3) := by decide +kernel
theorem dX12_test_21 : decode cX12_test 21 = .ok (.aload_n 0, 1) := by decide +kernel
theorem dX12_test_22 : decode cX12_test 22 = .ok (.bipush 61, 2) := by decide +kernel
theorem dX12_test_24 : decode cX12_test 24 = .ok (.invokevirtual 247, 3) := by decide +kernel
theorem dX12_test_27 : decode cX12_test 27 = .ok (.ifCond .eq 24, 3) := by decide +kernel
theorem dX12_test_30 : decode cX12_test 30 = .ok (.aload_n 0, 1) := by decide +kernel
theorem dX12_test_31 : decode cX12_test 31 = .ok (.iload_n 1, 1) := by decide +kernel
theorem dX12_test_32 : decode cX12_test 32 = .ok (.invokevirtual 244, 3) := by decide +kernel
theorem dX12_test_35 : decode cX12_test 35 = .ok (.aload_n 0, 1) := by decide +kernel
theorem dX12_test_36 : decode cX12_test 36 = .ok (.iload_n 2, 1) := by decide +kernel
theorem dX12_test_37 : decode cX12_test 37 = .ok (.ifCond .eq 8, 3) := by decide +kernel
theorem dX12_test_40 : decode cX12_test 40 = .ok (.bipush 7, 2) := by decide +kernel
theorem dX12_test_42 : decode cX12_test 42 = .ok (.goto 5, 3) := by decide +kernel
theorem dX12_test_45 : decode cX12_test 45 = .ok (.bipush 8, 2) := by decide +kernel
theorem dX12_test_47 : decode cX12_test 47 = .ok (.iconst 0, 1) := by decide +kernel
theorem dX12_test_48 : decode cX12_test 48 = .ok (.invokevirtual 237, 3) := by decide +kernel
theorem dX12_test_51 : decode cX12_test 51 = .ok (.return_, 1) := by decide +kernel
theorem dX12_sums_0 : decode cX12_sums 0 = .ok (.aload_n 0, 1) := by decide +kernel
theorem dX12_sums_1 : decode cX12_sums 1 = .ok (.iload_n 1, 1) := by decide +kernel
theorem dX12_sums_2 : decode cX12_sums 2 = .ok (.invokevirtual 250, 3) := by decide +kernel
theorem dX12_sums_5 : decode cX12_sums 5 = .ok (.aload_n 0, 1) := by decide +kernel
theorem dX12_sums_6 : decode cX12_sums 6 = .ok (.bipush 43, 2) := by decide +kernel
theorem dX12_sums_8 : decode cX12_sums 8 = .ok (.invokevirtual 159, 3) := by decide +kernel
theorem dX12_sums_11 : decode cX12_sums 11 = .ok (.ifCond .ne 12, 3) := by decide +kernel
theorem dX12_sums_14 : decode cX12_sums 14 = .ok (.aload_n 0, 1) := by decide +kernel
theorem dX12_sums_15 : decode cX12_sums 15 = .ok (.bipush 45, 2) := by decide +kernel
theorem dX12_sums_17 : decode cX12_sums 17 = .ok (.invokevirtual 159, 3) := by decide +kernel
theorem dX12_sums_20 : decode cX12_sums 20 = .ok (.ifCond .eq 42, 3) := by decide +kernel
theorem dX12_sums_23 : decode cX12_sums 23 = .ok (.aload_n 0, 1) := by decide +kernel
theorem dX12_sums_24 : decode cX12_sums 24 = .ok (.bipush 43, 2) := by decide +kernel
theorem dX12_sums_26 : decode cX12_sums 26 = .ok (.invokevirtual 159, 3) := by decide +kernel
theorem dX12_sums_29 : decode cX12_sums 29 = .ok (.istore_n 2, 1) := by decide +kernel
theorem dX12_sums_30 : decode cX12_sums 30 = .ok (.aload_n 0, 1) := by decide +kernel
theorem dX12_sums_31 : decode cX12_sums 31 = .ok (.dup, 1) := by decide +kernel
theorem dX12_sums_32 : decode cX12_sums 32 = .ok (.getfield 153, 3) := by decide +kernel
theorem dX12_sums_35 : decode cX12_sums 35 = .ok (.iconst 1, 1) := by decide +kernel
theorem dX12_sums_36 : decode cX12_sums 36 = .ok (.iadd, 1) := by decide +kernel
theorem dX12_sums_37 : decode cX12_sums 37 = .ok (.putfield 153, 3) := by decide +kernel
theorem dX12_sums_40 : decode cX12_sums 40 = .ok (.aload_n 0, 1) := by decide +kernel
theorem dX12_sums_41 : decode cX12_sums 41 = .ok (.iload_n 1, 1) := by decide +kernel
theorem dX12_sums_42 : decode cX12_sums 42 = .ok (.invokevirtual 250, 3) := by decide +kernel
theorem dX12_sums_45 : decode cX12_sums 45 = .ok (.aload_n 0, 1) := by decide +kernel
theorem dX12_sums_46 : decode cX12_sums 46 = .ok (.iload_n 2, 1) := by decide +kernel
theorem dX12_sums_47 : decode cX12_sums 47 = .ok (.ifCond .eq 7, 3) := by decide +kernel
theorem dX12_sums_50 : decode cX12_sums 50 = .ok (.iconst 4, 1) := by decide +kernel
theorem dX12_sums_51 : decode cX12_sums 51 = .ok (.goto 4, 3) := by decide +kernel
theorem dX12_sums_54 : decode cX12_sums 54 = .ok (.iconst 5, 1) := by decide +kernel
theorem dX12_sums_55 : decode cX12_sums 55 = .ok (.iconst 0, 1) := by decide +kernel
theorem dX12_sums_56 : decode cX12_sums 56 = .ok (.invokevirtual 237, 3) := by decide +kernel
theorem dX12_sums_59 : decode cX12_sums 59 = .ok (.goto (-54), 3) := by decide +kernel
theorem dX12_sums_62 : decode cX12_sums 62 = .ok (.return_, 1) := by decide +kernel
theorem dX12_products_0 : decode cX12_products 0 = .ok (.aload_n 0, 1) := by decide +kernel
theorem dX12_products_1 : decode cX12_products 1 = .ok (.iload_n 1, 1) := by decide +kernel
theorem dX12_products_2 : decode cX12_products 2 = .ok (.invokevirtual 253, 3) := by decide +kernel
theorem dX12_products_5 : decode cX12_products 5 = .ok (.aload_n 0, 1) := by decide +kernel
theorem dX12_products_6 : decode cX12_products 6 = .ok (.bipush 42, 2) := by decide +kernel
theorem dX12_products_8 : decode cX12_products 8 = .ok (.invokevirtual 247, 3) := by decide +kernel
theorem dX12_products_11 : decode cX12_products 11 = .ok (.ifCond .eq 18, 3) := by decide +kernel
theorem dX12_products_14 : decode cX12_products 14 = .ok (.aload_n 0, 1) := by decide +kernel
theorem dX12_products_15 : decode cX12_products 15 = .ok (.iload_n 1, 1) := by decide +kernel
theorem dX12_products_16 : decode cX12_products 16 = .ok (.invokevirtual 253, 3) := by decide +kernel
theorem dX12_products_19 : decode cX12_products 19 = .ok (.aload_n 0, 1) := by decide +kernel
theorem dX12_products_20 : decode cX12_products 20 = .ok (.bipush 6, 2) := by decide +kernel
theorem dX12_products_22 : decode cX12_products 22 = .ok (.iconst 0, 1) := by decide +kernel
theorem dX12_products_23 : decode cX12_products 23 = .ok (.invokevirtual 237, 3) := by decide +kernel
theorem dX12_products_26 : decode cX12_products 26 = .ok (.goto (-21), 3) := by decide +kernel
theorem dX12_products_29 : decode cX12_products 29 = .ok (.return_, 1) := by decide +kernel
theorem dX12_factHere_0 : decode cX12_factHere 0 = .ok (.iconst (-1), 1) := by decide +kernel
theorem dX12_factHere_1 : decode cX12_factHere 1 = .ok (.istore_n 1, 1) := by decide +kernel
theorem dX12_factHere_2 : decode cX12_factHere 2 = .ok (.iconst 0, 1) := by decide +kernel
theorem dX12_factHere_3 : decode cX12_factHere 3 = .ok (.istore_n 2, 1) := by decide +kernel
theorem dX12_factHere_4 : decode cX12_factHere 4 = .ok (.iload_n 2, 1) := by decide +kernel
theorem dX12_factHere_5 : decode cX12_factHere 5 = .ok (.bipush 8, 2) := by decide +kernel
theorem dX12_factHere_7 : decode cX12_factHere 7 = .ok (.if_icmp .ge 80, 3) := by decide +kernel
theorem dX12_factHere_10 : decode cX12_factHere 10 = .ok (.iload_n 2, 1) := by decide +kernel
theorem dX12_factHere_11 : decode cX12_factHere 11 = .ok (.iconst 4, 1) := by decide +kernel
theorem dX12_factHere_12 : decode cX12_factHere 12 = .ok (.if_icmp .lt 40, 3) := by decide +kernel
theorem dX12_factHere_15 : decode cX12_factHere 15 = .ok (.iload_n 2, 1) := by decide +kernel
theorem dX12_factHere_16 : decode cX12_factHere 16 = .ok (.iconst 4, 1) := by decide +kernel
theorem dX12_factHere_17 : decode cX12_factHere 17 = .ok (.if_icmp .ne 10, 3) := by decide +kernel
theorem dX12_factHere_20 : decode cX12_factHere 20 = .ok (.aload_n 0, 1) := by decide +kernel
theorem dX12_factHere_21 : decode cX12_factHere 21 = .ok (.getfield 231, 3) := by decide +kernel
theorem dX12_factHere_24 : decode cX12_factHere 24 = .ok (.ifCond .eq 28, 3) := by decide +kernel
theorem dX12_factHere_27 : decode cX12_factHere 27 = .ok (.iload_n 2, 1) := by decide +kernel
theorem dX12_factHere_28 : decode cX12_factHere 28 = .ok (.iconst 5, 1) := by decide +kernel
theorem dX12_factHere_29 : decode cX12_factHere 29 = .ok (.if_icmp .ne 10, 3) := by decide +kernel
theorem dX12_factHere_32 : decode cX12_factHere 32 = .ok (.aload_n 0, 1) := by decide +kernel
theorem dX12_factHere_33 : decode cX12_factHere 33 = .ok (.getfield 231, 3) := by decide +kernel
theorem dX12_factHere_36 : decode cX12_factHere 36 = .ok (.ifCond .gt 16, 3) := by decide +kernel
theorem dX12_factHere_39 : decode cX12_factHere 39 = .ok (.iload_n 2, 1) := by decide +kernel
theorem dX12_factHere_40 : decode cX12_factHere 40 = .ok (.iconst 5, 1) := by decide +kernel
theorem dX12_factHere_41 : decode cX12_factHere 41 = .ok (.if_icmp .le 15, 3) := by decide +kernel
theorem dX12_factHere_44 : decode cX12_factHere 44 = .ok (.aload_n 0, 1) := by decide +kernel
theorem dX12_factHere_45 : decode cX12_factHere 45 = .ok (.getfield 231, 3) := by decide +kernel
theorem dX12_factHere_48 : decode cX12_factHere 48 = .ok (.iconst 2, 1) := by decide +kernel
theorem dX12_factHere_49 : decode cX12_factHere 49 = .ok (.if_icmp .ne 7, 3) := by decide +kernel
theorem dX12_factHere_52 : decode cX12_factHere 52 = .ok (.iconst 1, 1) := by decide +kernel
theorem dX12_factHere_53 : decode cX12_factHere 53 = .ok (.goto 4, 3) := by decide +kernel
theorem dX12_factHere_56 : decode cX12_factHere 56 = .ok (.iconst 0, 1) := by decide +kernel
theorem dX12_factHere_57 : decode cX12_factHere 57 = .ok (.istore_n 3, 1) := by decide +kernel
theorem dX12_factHere_58 : decode cX12_factHere 58 = .ok (.iload_n 3, 1) := by decide +kernel
theorem dX12_factHere_59 : decode cX12_factHere 59 = .ok (.ifCond .eq 20, 3) := by decide +kernel
theorem dX12_factHere_62 : decode cX12_factHere 62 = .ok (.aload_n 0, 1) := by decide +kernel
theorem dX12_factHere_63 : decode cX12_factHere 63 = .ok (.aload_n 0, 1) := by decide +kernel
theorem dX12_factHere_64 : decode cX12_factHere 64 = .ok (.getfield 90, 3) := by decide +kernel
theorem dX12_factHere_67 : decode cX12_factHere 67 = .ok (.iload_n 2, 1) := by decide +kernel
theorem dX12_factHere_68 : decode cX12_factHere 68 = .ok (.iaload, 1) := by decide +kernel
theorem dX12_factHere_69 : decode cX12_factHere 69 = .ok (.invokevirtual 166, 3) := by decide +kernel
theorem dX12_factHere_72 : decode cX12_factHere 72 = .ok (.ifCond .eq 7, 3) := by decide +kernel
theorem dX12_factHere_75 : decode cX12_factHere 75 = .ok (.iload_n 2, 1) := by decide +kernel
theorem dX12_factHere_76 : decode cX12_factHere 76 = .ok (.goto 4, 3) := by decide +kernel
theorem dX12_factHere_79 : decode cX12_factHere 79 = .ok (.iload_n 1, 1) := by decide +kernel
theorem dX12_factHere_80 : decode cX12_factHere 80 = .ok (.istore_n 1, 1) := by decide +kernel
theorem dX12_factHere_81 : decode cX12_factHere 81 = .ok (.iinc 2 1, 3) := by decide +kernel
theorem dX12_factHere_84 : decode cX12_factHere 84 = .ok (.goto (-80), 3) := by decide +kernel
theorem dX12_factHere_87 : decode cX12_factHere 87 = .ok (.iload_n 1, 1) := by decide +kernel
theorem dX12_factHere_88 : decode cX12_factHere 88 = .ok (.ireturn, 1) := by decide +kernel
theorem dX12_takePart_0 : decode cX12_takePart 0 = .ok (.aload_n 0, 1) := by decide +kernel
theorem dX12_takePart_1 : decode cX12_takePart 1 = .ok (.getfield 156, 3) := by decide +kernel
theorem dX12_takePart_4 : decode cX12_takePart 4 = .ok (.ifCond .le 4, 3) := by decide +kernel
theorem dX12_takePart_7 : decode cX12_takePart 7 = .ok (.return_, 1) := by decide +kernel
theorem dX12_takePart_8 : decode cX12_takePart 8 = .ok (.aload_n 0, 1) := by decide +kernel
theorem dX12_takePart_9 : decode cX12_takePart 9 = .ok (.getfield 24, 3) := by decide +kernel
theorem dX12_takePart_12 : decode cX12_takePart 12 = .ok (.aload_n 0, 1) := by decide +kernel
theorem dX12_takePart_13 : decode cX12_takePart 13 = .ok (.getfield 153, 3) := by decide +kernel
theorem dX12_takePart_16 : decode cX12_takePart 16 = .ok (.iaload, 1) := by decide +kernel
theorem dX12_takePart_17 : decode cX12_takePart 17 = .ok (.iconst 2, 1) := by decide +kernel
theorem dX12_takePart_18 : decode cX12_takePart 18 = .ok (.if_icmp .ne 7, 3) := by decide +kernel
theorem dX12_takePart_21 : decode cX12_takePart 21 = .ok (.iconst 1, 1) := by decide +kernel
theorem dX12_takePart_22 : decode cX12_takePart 22 = .ok (.goto 4, 3) := by decide +kernel
theorem dX12_takePart_25 : decode cX12_takePart 25 = .ok (.iconst 0, 1) := by decide +kernel
theorem dX12_takePart_26 : decode cX12_takePart 26 = .ok (.istore_n 2, 1) := by decide +kernel
theorem dX12_takePart_27 : decode cX12_takePart 27 = .ok (.aload_n 0, 1) := by decide +kernel
theorem dX12_takePart_28 : decode cX12_takePart 28 = .ok (.invokevirtual 256, 3) := by decide +kernel
theorem dX12_takePart_31 : decode cX12_takePart 31 = .ok (.istore_n 3, 1) := by decide +kernel
theorem dX12_takePart_32 : decode cX12_takePart 32 = .ok (.iload_n 3, 1) := by decide +kernel
theorem dX12_takePart_33 : decode cX12_takePart 33 = .ok (.ifCond .ge 33, 3) := by decide +kernel
theorem dX12_takePart_36 : decode cX12_takePart 36 = .ok (.iload_n 2, 1) := by decide +kernel
theorem dX12_takePart_37 : decode cX12_takePart 37 = .ok (.ifCond .ne 29, 3) := by decide +kernel
theorem dX12_takePart_40 : decode cX12_takePart 40 = .ok (.aload_n 0, 1) := by decide +kernel
theorem dX12_takePart_41 : decode cX12_takePart 41 = .ok (.bipush 40, 2) := by decide +kernel
theorem dX12_takePart_43 : decode cX12_takePart 43 = .ok (.invokevirtual 159, 3) := by decide +kernel
theorem dX12_takePart_46 : decode cX12_takePart 46 = .ok (.ifCond .ne 20, 3) := by decide +kernel
theorem dX12_takePart_49 : decode cX12_takePart 49 = .ok (.aload_n 0, 1) := by decide +kernel
theorem dX12_takePart_50 : decode cX12_takePart 50 = .ok (.bipush 13, 2) := by decide +kernel
theorem dX12_takePart_52 : decode cX12_takePart 52 = .ok (.invokevirtual 166, 3) := by decide +kernel
theorem dX12_takePart_55 : decode cX12_takePart 55 = .ok (.ifCond .ne 11, 3) := by decide +kernel
theorem dX12_takePart_58 : decode cX12_takePart 58 = .ok (.aload_n 0, 1) := by decide +kernel
theorem dX12_takePart_59 : decode cX12_takePart 59 = .ok (.iconst 1, 1) := by decide +kernel
theorem dX12_takePart_60 : decode cX12_takePart 60 = .ok (.invokevirtual 162, 3) := by decide +kernel
theorem dX12_takePart_63 : decode cX12_takePart 63 = .ok (.goto 13, 3) := by decide +kernel
theorem dX12_takePart_66 : decode cX12_takePart 66 = .ok (.iload_n 1, 1) := by decide +kernel
theorem dX12_takePart_67 : decode cX12_takePart 67 = .ok (.iconst 5, 1) := by decide +kernel
theorem dX12_takePart_68 : decode cX12_takePart 68 = .ok (.if_icmp .ne 8, 3) := by decide +kernel
theorem dX12_takePart_71 : decode cX12_takePart 71 = .ok (.aload_n 0, 1) := by decide +kernel
theorem dX12_takePart_72 : decode cX12_takePart 72 = .ok (.iconst 5, 1) := by decide +kernel
theorem dX12_takePart_73 : decode cX12_takePart 73 = .ok (.invokevirtual 162, 3) := by decide +kernel
theorem dX12_takePart_76 : decode cX12_takePart 76 = .ok (.aload_n 0, 1) := by decide +kernel
theorem dX12_takePart_77 : decode cX12_takePart 77 = .ok (.getfield 156, 3) := by decide +kernel
theorem dX12_takePart_80 : decode cX12_takePart 80 = .ok (.ifCond .le 4, 3) := by decide +kernel
theorem dX12_takePart_83 : decode cX12_takePart 83 = .ok (.return_, 1) := by decide +kernel
theorem dX12_takePart_84 : decode cX12_takePart 84 = .ok (.aload_n 0, 1) := by decide +kernel
theorem dX12_takePart_85 : decode cX12_takePart 85 = .ok (.bipush 13, 2) := by decide +kernel
theorem dX12_takePart_87 : decode cX12_takePart 87 = .ok (.invokevirtual 169, 3) := by decide +kernel
theorem dX12_takePart_90 : decode cX12_takePart 90 = .ok (.ifCond .eq 19, 3) := by decide +kernel
theorem dX12_takePart_93 : decode cX12_takePart 93 = .ok (.aload_n 0, 1) := by decide +kernel
theorem dX12_takePart_94 : decode cX12_takePart 94 = .ok (.iload_n 1, 1) := by decide +kernel
theorem dX12_takePart_95 : decode cX12_takePart 95 = .ok (.iconst 1, 1) := by decide +kernel
theorem dX12_takePart_96 : decode cX12_takePart 96 = .ok (.iadd, 1) := by decide +kernel
theorem dX12_takePart_97 : decode cX12_takePart 97 = .ok (.invokevirtual 253, 3) := by decide +kernel
theorem dX12_takePart_100 : decode cX12_takePart 100 = .ok (.aload_n 0, 1) := by decide +kernel
theorem dX12_takePart_101 : decode cX12_takePart 101 = .ok (.iconst 3, 1) := by decide +kernel
theorem dX12_takePart_102 : decode cX12_takePart 102 = .ok (.iconst 0, 1) := by decide +kernel
theorem dX12_takePart_103 : decode cX12_takePart 103 = .ok (.invokevirtual 237, 3) := by decide +kernel
theorem dX12_takePart_106 : decode cX12_takePart 106 = .ok (.goto 69, 3) := by decide +kernel
theorem dX12_takePart_109 : decode cX12_takePart 109 = .ok (.aload_n 0, 1) := by decide +kernel
theorem dX12_takePart_110 : decode cX12_takePart 110 = .ok (.bipush 40, 2) := by decide +kernel
theorem dX12_takePart_112 : decode cX12_takePart 112 = .ok (.invokevirtual 247, 3) := by decide +kernel
theorem dX12_takePart_115 : decode cX12_takePart 115 = .ok (.ifCond .eq 19, 3) := by decide +kernel
theorem dX12_takePart_118 : decode cX12_takePart 118 = .ok (.aload_n 0, 1) := by decide +kernel
theorem dX12_takePart_119 : decode cX12_takePart 119 = .ok (.iload_n 1, 1) := by decide +kernel
theorem dX12_takePart_120 : decode cX12_takePart 120 = .ok (.iconst 1, 1) := by decide +kernel
theorem dX12_takePart_121 : decode cX12_takePart 121 = .ok (.iadd, 1) := by decide +kernel
theorem dX12_takePart_122 : decode cX12_takePart 122 = .ok (.invokevirtual 234, 3) := by decide +kernel
theorem dX12_takePart_125 : decode cX12_takePart 125 = .ok (.aload_n 0, 1) := by decide +kernel
theorem dX12_takePart_126 : decode cX12_takePart 126 = .ok (.bipush 41, 2) := by decide +kernel
theorem dX12_takePart_128 : decode cX12_takePart 128 = .ok (.invokevirtual 191, 3) := by decide +kernel
theorem dX12_takePart_131 : decode cX12_takePart 131 = .ok (.goto 44, 3) := by decide +kernel
theorem dX12_takePart_134 : decode cX12_takePart 134 = .ok (.aload_n 0, 1) := by decide +kernel
theorem dX12_takePart_135 : decode cX12_takePart 135 = .ok (.iload_n 2, 1) := by decide +kernel
theorem dX12_takePart_136 : decode cX12_takePart 136 = .ok (.ifCond .eq 7, 3) := by decide +kernel
theorem dX12_takePart_139 : decode cX12_takePart 139 = .ok (.iconst 1, 1) := by decide +kernel
theorem dX12_takePart_140 : decode cX12_takePart 140 = .ok (.goto 4, 3) := by decide +kernel
theorem dX12_takePart_143 : decode cX12_takePart 143 = .ok (.iconst 2, 1) := by decide +kernel
theorem dX12_takePart_144 : decode cX12_takePart 144 = .ok (.iload_n 2, 1) := by decide +kernel
theorem dX12_takePart_145 : decode cX12_takePart 145 = .ok (.ifCond .eq 16, 3) := by decide +kernel
theorem dX12_takePart_148 : decode cX12_takePart 148 = .ok (.aload_n 0, 1) := by decide +kernel
theorem dX12_takePart_149 : decode cX12_takePart 149 = .ok (.getfield 30, 3) := by decide +kernel
theorem dX12_takePart_152 : decode cX12_takePart 152 = .ok (.aload_n 0, 1) := by decide +kernel
theorem dX12_takePart_153 : decode cX12_takePart 153 = .ok (.getfield 153, 3) := by decide +kernel
theorem dX12_takePart_156 : decode cX12_takePart 156 = .ok (.laload, 1) := by decide +kernel
theorem dX12_takePart_157 : decode cX12_takePart 157 = .ok (.l2i, 1) := by decide +kernel
theorem dX12_takePart_158 : decode cX12_takePart 158 = .ok (.goto 4, 3) := by decide +kernel
theorem dX12_takePart_161 : decode cX12_takePart 161 = .ok (.iload_n 3, 1) := by decide +kernel
theorem dX12_takePart_162 : decode cX12_takePart 162 = .ok (.invokevirtual 237, 3) := by decide +kernel
theorem dX12_takePart_165 : decode cX12_takePart 165 = .ok (.aload_n 0, 1) := by decide +kernel
theorem dX12_takePart_166 : decode cX12_takePart 166 = .ok (.dup, 1) := by decide +kernel
theorem dX12_takePart_167 : decode cX12_takePart 167 = .ok (.getfield 153, 3) := by decide +kernel
theorem dX12_takePart_170 : decode cX12_takePart 170 = .ok (.iconst 1, 1) := by decide +kernel
theorem dX12_takePart_171 : decode cX12_takePart 171 = .ok (.iadd, 1) := by decide +kernel
theorem dX12_takePart_172 : decode cX12_takePart 172 = .ok (.putfield 153, 3) := by decide +kernel
theorem dX12_takePart_175 : decode cX12_takePart 175 = .ok (.return_, 1) := by decide +kernel
theorem dX12_worthAt_0 : decode cX12_worthAt 0 = .ok (.iconst 0, 1) := by decide +kernel
theorem dX12_worthAt_1 : decode cX12_worthAt 1 = .ok (.istore_n 2, 1) := by decide +kernel
theorem dX12_worthAt_2 : decode cX12_worthAt 2 = .ok (.iload_n 1, 1) := by decide +kernel
theorem dX12_worthAt_3 : decode cX12_worthAt 3 = .ok (.istore_n 3, 1) := by decide +kernel
theorem dX12_worthAt_4 : decode cX12_worthAt 4 = .ok (.aload_n 0, 1) := by decide +kernel
theorem dX12_worthAt_5 : decode cX12_worthAt 5 = .ok (.getfield 78, 3) := by decide +kernel
theorem dX12_worthAt_8 : decode cX12_worthAt 8 = .ok (.iload_n 3, 1) := by decide +kernel
theorem dX12_worthAt_9 : decode cX12_worthAt 9 = .ok (.iaload, 1) := by decide +kernel
theorem dX12_worthAt_10 : decode cX12_worthAt 10 = .ok (.ifCond .eq 130, 3) := by decide +kernel
theorem dX12_worthAt_13 : decode cX12_worthAt 13 = .ok (.aload_n 0, 1) := by decide +kernel
theorem dX12_worthAt_14 : decode cX12_worthAt 14 = .ok (.getfield 78, 3) := by decide +kernel
theorem dX12_worthAt_17 : decode cX12_worthAt 17 = .ok (.iload_n 3, 1) := by decide +kernel
theorem dX12_worthAt_18 : decode cX12_worthAt 18 = .ok (.iaload, 1) := by decide +kernel
theorem dX12_worthAt_19 : decode cX12_worthAt 19 = .ok (.istore 4, 2) := by decide +kernel
theorem dX12_worthAt_21 : decode cX12_worthAt 21 = .ok (.iload 4, 2) := by decide +kernel
theorem dX12_worthAt_23 : decode cX12_worthAt 23 = .ok (.iconst 1, 1) := by decide +kernel
theorem dX12_worthAt_24 : decode cX12_worthAt 24 = .ok (.if_icmp .eq 9, 3) := by decide +kernel
theorem dX12_worthAt_27 : decode cX12_worthAt 27 = .ok (.iload 4, 2) := by decide +kernel
theorem dX12_worthAt_29 : decode cX12_worthAt 29 = .ok (.iconst 2, 1) := by decide +kernel
theorem dX12_worthAt_30 : decode cX12_worthAt 30 = .ok (.if_icmp .ne 41, 3) := by decide +kernel
theorem dX12_worthAt_33 : decode cX12_worthAt 33 = .ok (.aload_n 0, 1) := by decide +kernel
theorem dX12_worthAt_34 : decode cX12_worthAt 34 = .ok (.getfield 96, 3) := by decide +kernel
theorem dX12_worthAt_37 : decode cX12_worthAt 37 = .ok (.iload_n 2, 1) := by decide +kernel
theorem dX12_worthAt_38 : decode cX12_worthAt 38 = .ok (.iload 4, 2) := by decide +kernel
theorem dX12_worthAt_40 : decode cX12_worthAt 40 = .ok (.iconst 1, 1) := by decide +kernel
theorem dX12_worthAt_41 : decode cX12_worthAt 41 = .ok (.if_icmp .ne 12, 3) := by decide +kernel
theorem dX12_worthAt_44 : decode cX12_worthAt 44 = .ok (.aload_n 0, 1) := by decide +kernel
theorem dX12_worthAt_45 : decode cX12_worthAt 45 = .ok (.getfield 81, 3) := by decide +kernel
theorem dX12_worthAt_48 : decode cX12_worthAt 48 = .ok (.iload_n 3, 1) := by decide +kernel
theorem dX12_worthAt_49 : decode cX12_worthAt 49 = .ok (.iaload, 1) := by decide +kernel
theorem dX12_worthAt_50 : decode cX12_worthAt 50 = .ok (.goto 14, 3) := by decide +kernel
theorem dX12_worthAt_53 : decode cX12_worthAt 53 = .ok (.aload_n 0, 1) := by decide +kernel
theorem dX12_worthAt_54 : decode cX12_worthAt 54 = .ok (.getfield 93, 3) := by decide +kernel
theorem dX12_worthAt_57 : decode cX12_worthAt 57 = .ok (.aload_n 0, 1) := by decide +kernel
theorem dX12_worthAt_58 : decode cX12_worthAt 58 = .ok (.getfield 81, 3) := by decide +kernel
theorem dX12_worthAt_61 : decode cX12_worthAt 61 = .ok (.iload_n 3, 1) := by decide +kernel
theorem dX12_worthAt_62 : decode cX12_worthAt 62 = .ok (.iaload, 1) := by decide +kernel
theorem dX12_worthAt_63 : decode cX12_worthAt 63 = .ok (.iaload, 1) := by decide +kernel
theorem dX12_worthAt_64 : decode cX12_worthAt 64 = .ok (.iastore, 1) := by decide +kernel
theorem dX12_worthAt_65 : decode cX12_worthAt 65 = .ok (.iinc 2 1, 3) := by decide +kernel
theorem dX12_worthAt_68 : decode cX12_worthAt 68 = .ok (.goto 66, 3) := by decide +kernel
theorem dX12_worthAt_71 : decode cX12_worthAt 71 = .ok (.iload 4, 2) := by decide +kernel
theorem dX12_worthAt_73 : decode cX12_worthAt 73 = .ok (.iconst 3, 1) := by decide +kernel
theorem dX12_worthAt_74 : decode cX12_worthAt 74 = .ok (.if_icmp .ne 30, 3) := by decide +kernel
theorem dX12_worthAt_77 : decode cX12_worthAt 77 = .ok (.aload_n 0, 1) := by decide +kernel
theorem dX12_worthAt_78 : decode cX12_worthAt 78 = .ok (.getfield 96, 3) := by decide +kernel
theorem dX12_worthAt_81 : decode cX12_worthAt 81 = .ok (.iload_n 2, 1) := by decide +kernel
theorem dX12_worthAt_82 : decode cX12_worthAt 82 = .ok (.iconst 1, 1) := by decide +kernel
theorem dX12_worthAt_83 : decode cX12_worthAt 83 = .ok (.isub, 1) := by decide +kernel
theorem dX12_worthAt_84 : decode cX12_worthAt 84 = .ok (.aload_n 0, 1) := by decide +kernel
theorem dX12_worthAt_85 : decode cX12_worthAt 85 = .ok (.getfield 96, 3) := by decide +kernel
theorem dX12_worthAt_88 : decode cX12_worthAt 88 = .ok (.iload_n 2, 1) := by decide +kernel
theorem dX12_worthAt_89 : decode cX12_worthAt 89 = .ok (.iconst 1, 1) := by decide +kernel
theorem dX12_worthAt_90 : decode cX12_worthAt 90 = .ok (.isub, 1) := by decide +kernel
theorem dX12_worthAt_91 : decode cX12_worthAt 91 = .ok (.iaload, 1) := by decide +kernel
theorem dX12_worthAt_92 : decode cX12_worthAt 92 = .ok (.ifCond .ne 7, 3) := by decide +kernel
theorem dX12_worthAt_95 : decode cX12_worthAt 95 = .ok (.iconst 1, 1) := by decide +kernel
theorem dX12_worthAt_96 : decode cX12_worthAt 96 = .ok (.goto 4, 3) := by decide +kernel
theorem dX12_worthAt_99 : decode cX12_worthAt 99 = .ok (.iconst 0, 1) := by decide +kernel
theorem dX12_worthAt_100 : decode cX12_worthAt 100 = .ok (.iastore, 1) := by decide +kernel
theorem dX12_worthAt_101 : decode cX12_worthAt 101 = .ok (.goto 33, 3) := by decide +kernel
theorem dX12_worthAt_104 : decode cX12_worthAt 104 = .ok (.iinc 2 (-1), 3) := by decide +kernel
theorem dX12_worthAt_107 : decode cX12_worthAt 107 = .ok (.aload_n 0, 1) := by decide +kernel
theorem dX12_worthAt_108 : decode cX12_worthAt 108 = .ok (.getfield 96, 3) := by decide +kernel
theorem dX12_worthAt_111 : decode cX12_worthAt 111 = .ok (.iload_n 2, 1) := by decide +kernel
theorem dX12_worthAt_112 : decode cX12_worthAt 112 = .ok (.iconst 1, 1) := by decide +kernel
theorem dX12_worthAt_113 : decode cX12_worthAt 113 = .ok (.isub, 1) := by decide +kernel
theorem dX12_worthAt_114 : decode cX12_worthAt 114 = .ok (.iload 4, 2) := by decide +kernel
theorem dX12_worthAt_116 : decode cX12_worthAt 116 = .ok (.aload_n 0, 1) := by decide +kernel
theorem dX12_worthAt_117 : decode cX12_worthAt 117 = .ok (.getfield 96, 3) := by decide +kernel
theorem dX12_worthAt_120 : decode cX12_worthAt 120 = .ok (.iload_n 2, 1) := by decide +kernel
theorem dX12_worthAt_121 : decode cX12_worthAt 121 = .ok (.iconst 1, 1) := by decide +kernel
theorem dX12_worthAt_122 : decode cX12_worthAt 122 = .ok (.isub, 1) := by decide +kernel
theorem dX12_worthAt_123 : decode cX12_worthAt 123 = .ok (.iaload, 1) := by decide +kernel
theorem dX12_worthAt_124 : decode cX12_worthAt 124 = .ok (.aload_n 0, 1) := by decide +kernel
theorem dX12_worthAt_125 : decode cX12_worthAt 125 = .ok (.getfield 96, 3) := by decide +kernel
theorem dX12_worthAt_128 : decode cX12_worthAt 128 = .ok (.iload_n 2, 1) := by decide +kernel
theorem dX12_worthAt_129 : decode cX12_worthAt 129 = .ok (.iaload, 1) := by decide +kernel
theorem dX12_worthAt_130 : decode cX12_worthAt 130 = .ok (.invokestatic 259, 3) := by decide +kernel
theorem dX12_worthAt_133 : decode cX12_worthAt 133 = .ok (.iastore, 1) := by decide +kernel
theorem dX12_worthAt_134 : decode cX12_worthAt 134 = .ok (.iinc 3 1, 3) := by decide +kernel
theorem dX12_worthAt_137 : decode cX12_worthAt 137 = .ok (.goto (-133), 3) := by decide +kernel
theorem dX12_worthAt_140 : decode cX12_worthAt 140 = .ok (.aload_n 0, 1) := by decide +kernel
theorem dX12_worthAt_141 : decode cX12_worthAt 141 = .ok (.getfield 96, 3) := by decide +kernel
theorem dX12_worthAt_144 : decode cX12_worthAt 144 = .ok (.iconst 0, 1) := by decide +kernel
theorem dX12_worthAt_145 : decode cX12_worthAt 145 = .ok (.iaload, 1) := by decide +kernel
theorem dX12_worthAt_146 : decode cX12_worthAt 146 = .ok (.ireturn, 1) := by decide +kernel
theorem dX12_both_0 : decode cX12_both 0 = .ok (.iload_n 0, 1) := by decide +kernel
theorem dX12_both_1 : decode cX12_both 1 = .ok (.tableswitch 87 4 9 #[39, 43, 47, 51, 62, 73], 39) := by decide +kernel
theorem dX12_both_40 : decode cX12_both 40 = .ok (.iload_n 1, 1) := by decide +kernel
theorem dX12_both_41 : decode cX12_both 41 = .ok (.iload_n 2, 1) := by decide +kernel
theorem dX12_both_42 : decode cX12_both 42 = .ok (.iadd, 1) := by decide +kernel
theorem dX12_both_43 : decode cX12_both 43 = .ok (.ireturn, 1) := by decide +kernel
theorem dX12_both_44 : decode cX12_both 44 = .ok (.iload_n 1, 1) := by decide +kernel
theorem dX12_both_45 : decode cX12_both 45 = .ok (.iload_n 2, 1) := by decide +kernel
theorem dX12_both_46 : decode cX12_both 46 = .ok (.isub, 1) := by decide +kernel
theorem dX12_both_47 : decode cX12_both 47 = .ok (.ireturn, 1) := by decide +kernel
theorem dX12_both_48 : decode cX12_both 48 = .ok (.iload_n 1, 1) := by decide +kernel
theorem dX12_both_49 : decode cX12_both 49 = .ok (.iload_n 2, 1) := by decide +kernel
theorem dX12_both_50 : decode cX12_both 50 = .ok (.imul, 1) := by decide +kernel
theorem dX12_both_51 : decode cX12_both 51 = .ok (.ireturn, 1) := by decide +kernel
theorem dX12_both_52 : decode cX12_both 52 = .ok (.iload_n 1, 1) := by decide +kernel
theorem dX12_both_53 : decode cX12_both 53 = .ok (.iload_n 2, 1) := by decide +kernel
theorem dX12_both_54 : decode cX12_both 54 = .ok (.if_icmp .ge 7, 3) := by decide +kernel
theorem dX12_both_57 : decode cX12_both 57 = .ok (.iconst 1, 1) := by decide +kernel
theorem dX12_both_58 : decode cX12_both 58 = .ok (.goto 4, 3) := by decide +kernel
theorem dX12_both_61 : decode cX12_both 61 = .ok (.iconst 0, 1) := by decide +kernel
theorem dX12_both_62 : decode cX12_both 62 = .ok (.ireturn, 1) := by decide +kernel
theorem dX12_both_63 : decode cX12_both 63 = .ok (.iload_n 1, 1) := by decide +kernel
theorem dX12_both_64 : decode cX12_both 64 = .ok (.iload_n 2, 1) := by decide +kernel
theorem dX12_both_65 : decode cX12_both 65 = .ok (.if_icmp .ne 7, 3) := by decide +kernel
theorem dX12_both_68 : decode cX12_both 68 = .ok (.iconst 1, 1) := by decide +kernel
theorem dX12_both_69 : decode cX12_both 69 = .ok (.goto 4, 3) := by decide +kernel
theorem dX12_both_72 : decode cX12_both 72 = .ok (.iconst 0, 1) := by decide +kernel
theorem dX12_both_73 : decode cX12_both 73 = .ok (.ireturn, 1) := by decide +kernel
theorem dX12_both_74 : decode cX12_both 74 = .ok (.iload_n 1, 1) := by decide +kernel
theorem dX12_both_75 : decode cX12_both 75 = .ok (.ifCond .eq 11, 3) := by decide +kernel
theorem dX12_both_78 : decode cX12_both 78 = .ok (.iload_n 2, 1) := by decide +kernel
theorem dX12_both_79 : decode cX12_both 79 = .ok (.ifCond .eq 7, 3) := by decide +kernel
theorem dX12_both_82 : decode cX12_both 82 = .ok (.iconst 1, 1) := by decide +kernel
theorem dX12_both_83 : decode cX12_both 83 = .ok (.goto 4, 3) := by decide +kernel
theorem dX12_both_86 : decode cX12_both 86 = .ok (.iconst 0, 1) := by decide +kernel
theorem dX12_both_87 : decode cX12_both 87 = .ok (.ireturn, 1) := by decide +kernel
theorem dX12_both_88 : decode cX12_both 88 = .ok (.iload_n 1, 1) := by decide +kernel
theorem dX12_both_89 : decode cX12_both 89 = .ok (.ifCond .ne 7, 3) := by decide +kernel
theorem dX12_both_92 : decode cX12_both 92 = .ok (.iload_n 2, 1) := by decide +kernel
theorem dX12_both_93 : decode cX12_both 93 = .ok (.ifCond .eq 7, 3) := by decide +kernel
theorem dX12_both_96 : decode cX12_both 96 = .ok (.iconst 1, 1) := by decide +kernel
theorem dX12_both_97 : decode cX12_both 97 = .ok (.goto 4, 3) := by decide +kernel
theorem dX12_both_100 : decode cX12_both 100 = .ok (.iconst 0, 1) := by decide +kernel
theorem dX12_both_101 : decode cX12_both 101 = .ok (.ireturn, 1) := by decide +kernel
theorem dX12_copies_0 : decode cX12_copies 0 = .ok (.iconst 0, 1) := by decide +kernel
theorem dX12_copies_1 : decode cX12_copies 1 = .ok (.istore 4, 2) := by decide +kernel
theorem dX12_copies_3 : decode cX12_copies 3 = .ok (.iload 4, 2) := by decide +kernel
theorem dX12_copies_5 : decode cX12_copies 5 = .ok (.iload_n 3, 1) := by decide +kernel
theorem dX12_copies_6 : decode cX12_copies 6 = .ok (.if_icmp .ge 35, 3) := by decide +kernel
theorem dX12_copies_9 : decode cX12_copies 9 = .ok (.aload_n 0, 1) := by decide +kernel
theorem dX12_copies_10 : decode cX12_copies 10 = .ok (.getfield 99, 3) := by decide +kernel
theorem dX12_copies_13 : decode cX12_copies 13 = .ok (.sipush 2140, 3) := by decide +kernel
theorem dX12_copies_16 : decode cX12_copies 16 = .ok (.iload_n 2, 1) := by decide +kernel
theorem dX12_copies_17 : decode cX12_copies 17 = .ok (.imul, 1) := by decide +kernel
theorem dX12_copies_18 : decode cX12_copies 18 = .ok (.iload 4, 2) := by decide +kernel
theorem dX12_copies_20 : decode cX12_copies 20 = .ok (.iadd, 1) := by decide +kernel
theorem dX12_copies_21 : decode cX12_copies 21 = .ok (.aload_n 0, 1) := by decide +kernel
theorem dX12_copies_22 : decode cX12_copies 22 = .ok (.getfield 99, 3) := by decide +kernel
theorem dX12_copies_25 : decode cX12_copies 25 = .ok (.sipush 2140, 3) := by decide +kernel
theorem dX12_copies_28 : decode cX12_copies 28 = .ok (.iload_n 1, 1) := by decide +kernel
theorem dX12_copies_29 : decode cX12_copies 29 = .ok (.imul, 1) := by decide +kernel
theorem dX12_copies_30 : decode cX12_copies 30 = .ok (.iload 4, 2) := by decide +kernel
theorem dX12_copies_32 : decode cX12_copies 32 = .ok (.iadd, 1) := by decide +kernel
theorem dX12_copies_33 : decode cX12_copies 33 = .ok (.iaload, 1) := by decide +kernel
theorem dX12_copies_34 : decode cX12_copies 34 = .ok (.iastore, 1) := by decide +kernel
theorem dX12_copies_35 : decode cX12_copies 35 = .ok (.iinc 4 1, 3) := by decide +kernel
theorem dX12_copies_38 : decode cX12_copies 38 = .ok (.goto (-35), 3) := by decide +kernel
theorem dX12_copies_41 : decode cX12_copies 41 = .ok (.return_, 1) := by decide +kernel
theorem dX12_aside_0 : decode cX12_aside 0 = .ok (.aload_n 0, 1) := by decide +kernel
theorem dX12_aside_1 : decode cX12_aside 1 = .ok (.iconst 0, 1) := by decide +kernel
theorem dX12_aside_2 : decode cX12_aside 2 = .ok (.iconst 5, 1) := by decide +kernel
theorem dX12_aside_3 : decode cX12_aside 3 = .ok (.sipush 133, 3) := by decide +kernel
theorem dX12_aside_6 : decode cX12_aside 6 = .ok (.invokevirtual 262, 3) := by decide +kernel
theorem dX12_aside_9 : decode cX12_aside 9 = .ok (.aload_n 0, 1) := by decide +kernel
theorem dX12_aside_10 : decode cX12_aside 10 = .ok (.iconst 1, 1) := by decide +kernel
theorem dX12_aside_11 : decode cX12_aside 11 = .ok (.putfield 266, 3) := by decide +kernel
theorem dX12_aside_14 : decode cX12_aside 14 = .ok (.return_, 1) := by decide +kernel
theorem dX12_back_0 : decode cX12_back 0 = .ok (.aload_n 0, 1) := by decide +kernel
theorem dX12_back_1 : decode cX12_back 1 = .ok (.iconst 5, 1) := by decide +kernel
theorem dX12_back_2 : decode cX12_back 2 = .ok (.iconst 0, 1) := by decide +kernel
theorem dX12_back_3 : decode cX12_back 3 = .ok (.sipush 133, 3) := by decide +kernel
theorem dX12_back_6 : decode cX12_back 6 = .ok (.invokevirtual 262, 3) := by decide +kernel
theorem dX12_back_9 : decode cX12_back 9 = .ok (.aload_n 0, 1) := by decide +kernel
theorem dX12_back_10 : decode cX12_back 10 = .ok (.iconst 0, 1) := by decide +kernel
theorem dX12_back_11 : decode cX12_back 11 = .ok (.putfield 266, 3) := by decide +kernel
theorem dX12_back_14 : decode cX12_back 14 = .ok (.aload_n 0, 1) := by decide +kernel
theorem dX12_back_15 : decode cX12_back 15 = .ok (.iconst 0, 1) := by decide +kernel
theorem dX12_back_16 : decode cX12_back 16 = .ok (.putfield 270, 3) := by decide +kernel
theorem dX12_back_19 : decode cX12_back 19 = .ok (.aload_n 0, 1) := by decide +kernel
theorem dX12_back_20 : decode cX12_back 20 = .ok (.iconst (-1), 1) := by decide +kernel
theorem dX12_back_21 : decode cX12_back 21 = .ok (.putfield 106, 3) := by decide +kernel
theorem dX12_back_24 : decode cX12_back 24 = .ok (.aload_n 0, 1) := by decide +kernel
theorem dX12_back_25 : decode cX12_back 25 = .ok (.iconst (-1), 1) := by decide +kernel
theorem dX12_back_26 : decode cX12_back 26 = .ok (.putfield 109, 3) := by decide +kernel
theorem dX12_back_29 : decode cX12_back 29 = .ok (.return_, 1) := by decide +kernel
theorem dX12_stuffs_0 : decode cX12_stuffs 0 = .ok (.aload_n 0, 1) := by decide +kernel
theorem dX12_stuffs_1 : decode cX12_stuffs 1 = .ok (.getfield 75, 3) := by decide +kernel
theorem dX12_stuffs_4 : decode cX12_stuffs 4 = .ok (.iconst 0, 1) := by decide +kernel
theorem dX12_stuffs_5 : decode cX12_stuffs 5 = .ok (.iaload, 1) := by decide +kernel
theorem dX12_stuffs_6 : decode cX12_stuffs 6 = .ok (.ireturn, 1) := by decide +kernel
theorem dX12_roads_0 : decode cX12_roads 0 = .ok (.aload_n 0, 1) := by decide +kernel
theorem dX12_roads_1 : decode cX12_roads 1 = .ok (.getfield 75, 3) := by decide +kernel
theorem dX12_roads_4 : decode cX12_roads 4 = .ok (.iconst 2, 1) := by decide +kernel
theorem dX12_roads_5 : decode cX12_roads 5 = .ok (.iaload, 1) := by decide +kernel
theorem dX12_roads_6 : decode cX12_roads 6 = .ok (.ireturn, 1) := by decide +kernel
theorem dX12_trades_0 : decode cX12_trades 0 = .ok (.aload_n 0, 1) := by decide +kernel
theorem dX12_trades_1 : decode cX12_trades 1 = .ok (.getfield 75, 3) := by decide +kernel
theorem dX12_trades_4 : decode cX12_trades 4 = .ok (.iconst 3, 1) := by decide +kernel
theorem dX12_trades_5 : decode cX12_trades 5 = .ok (.iaload, 1) := by decide +kernel
theorem dX12_trades_6 : decode cX12_trades 6 = .ok (.aload_n 0, 1) := by decide +kernel
theorem dX12_trades_7 : decode cX12_trades 7 = .ok (.getfield 270, 3) := by decide +kernel
theorem dX12_trades_10 : decode cX12_trades 10 = .ok (.ifCond .eq 7, 3) := by decide +kernel
theorem dX12_trades_13 : decode cX12_trades 13 = .ok (.iconst 1, 1) := by decide +kernel
theorem dX12_trades_14 : decode cX12_trades 14 = .ok (.goto 4, 3) := by decide +kernel
theorem dX12_trades_17 : decode cX12_trades 17 = .ok (.iconst 0, 1) := by decide +kernel
theorem dX12_trades_18 : decode cX12_trades 18 = .ok (.iadd, 1) := by decide +kernel
theorem dX12_trades_19 : decode cX12_trades 19 = .ok (.ireturn, 1) := by decide +kernel
theorem dX12_isRoad_0 : decode cX12_isRoad 0 = .ok (.iload_n 1, 1) := by decide +kernel
theorem dX12_isRoad_1 : decode cX12_isRoad 1 = .ok (.ifCond .lt 15, 3) := by decide +kernel
theorem dX12_isRoad_4 : decode cX12_isRoad 4 = .ok (.iload_n 1, 1) := by decide +kernel
theorem dX12_isRoad_5 : decode cX12_isRoad 5 = .ok (.aload_n 0, 1) := by decide +kernel
theorem dX12_isRoad_6 : decode cX12_isRoad 6 = .ok (.invokevirtual 194, 3) := by decide +kernel
theorem dX12_isRoad_9 : decode cX12_isRoad 9 = .ok (.if_icmp .ge 7, 3) := by decide +kernel
theorem dX12_isRoad_12 : decode cX12_isRoad 12 = .ok (.iconst 1, 1) := by decide +kernel
theorem dX12_isRoad_13 : decode cX12_isRoad 13 = .ok (.goto 4, 3) := by decide +kernel
theorem dX12_isRoad_16 : decode cX12_isRoad 16 = .ok (.iconst 0, 1) := by decide +kernel
theorem dX12_isRoad_17 : decode cX12_isRoad 17 = .ok (.ireturn, 1) := by decide +kernel
theorem dX12_isStuff_0 : decode cX12_isStuff 0 = .ok (.iload_n 1, 1) := by decide +kernel
theorem dX12_isStuff_1 : decode cX12_isStuff 1 = .ok (.ifCond .lt 15, 3) := by decide +kernel
theorem dX12_isStuff_4 : decode cX12_isStuff 4 = .ok (.iload_n 1, 1) := by decide +kernel
theorem dX12_isStuff_5 : decode cX12_isStuff 5 = .ok (.aload_n 0, 1) := by decide +kernel
theorem dX12_isStuff_6 : decode cX12_isStuff 6 = .ok (.invokevirtual 273, 3) := by decide +kernel
theorem dX12_isStuff_9 : decode cX12_isStuff 9 = .ok (.if_icmp .ge 7, 3) := by decide +kernel
theorem dX12_isStuff_12 : decode cX12_isStuff 12 = .ok (.iconst 1, 1) := by decide +kernel
theorem dX12_isStuff_13 : decode cX12_isStuff 13 = .ok (.goto 4, 3) := by decide +kernel
theorem dX12_isStuff_16 : decode cX12_isStuff 16 = .ok (.iconst 0, 1) := by decide +kernel
theorem dX12_isStuff_17 : decode cX12_isStuff 17 = .ok (.ireturn, 1) := by decide +kernel
theorem dX12_isTrade_0 : decode cX12_isTrade 0 = .ok (.iload_n 1, 1) := by decide +kernel
theorem dX12_isTrade_1 : decode cX12_isTrade 1 = .ok (.ifCond .lt 15, 3) := by decide +kernel
theorem dX12_isTrade_4 : decode cX12_isTrade 4 = .ok (.iload_n 1, 1) := by decide +kernel
theorem dX12_isTrade_5 : decode cX12_isTrade 5 = .ok (.aload_n 0, 1) := by decide +kernel
theorem dX12_isTrade_6 : decode cX12_isTrade 6 = .ok (.invokevirtual 276, 3) := by decide +kernel
theorem dX12_isTrade_9 : decode cX12_isTrade 9 = .ok (.if_icmp .ge 7, 3) := by decide +kernel
theorem dX12_isTrade_12 : decode cX12_isTrade 12 = .ok (.iconst 1, 1) := by decide +kernel
theorem dX12_isTrade_13 : decode cX12_isTrade 13 = .ok (.goto 4, 3) := by decide +kernel
theorem dX12_isTrade_16 : decode cX12_isTrade 16 = .ok (.iconst 0, 1) := by decide +kernel
theorem dX12_isTrade_17 : decode cX12_isTrade 17 = .ok (.ireturn, 1) := by decide +kernel
theorem dX12_areYears_0 : decode cX12_areYears 0 = .ok (.iload_n 0, 1) := by decide +kernel
theorem dX12_areYears_1 : decode cX12_areYears 1 = .ok (.iconst 1, 1) := by decide +kernel
theorem dX12_areYears_2 : decode cX12_areYears 2 = .ok (.if_icmp .lt 13, 3) := by decide +kernel
theorem dX12_areYears_5 : decode cX12_areYears 5 = .ok (.iload_n 0, 1) := by decide +kernel
theorem dX12_areYears_6 : decode cX12_areYears 6 = .ok (.bipush 50, 2) := by decide +kernel
theorem dX12_areYears_8 : decode cX12_areYears 8 = .ok (.if_icmp .gt 7, 3) := by decide +kernel
theorem dX12_areYears_11 : decode cX12_areYears 11 = .ok (.iconst 1, 1) := by decide +kernel
theorem dX12_areYears_12 : decode cX12_areYears 12 = .ok (.goto 4, 3) := by decide +kernel
theorem dX12_areYears_15 : decode cX12_areYears 15 = .ok (.iconst 0, 1) := by decide +kernel
theorem dX12_areYears_16 : decode cX12_areYears 16 = .ok (.ireturn, 1) := by decide +kernel
theorem dX12_roadOf_0 : decode cX12_roadOf 0 = .ok (.aload_n 0, 1) := by decide +kernel
theorem dX12_roadOf_1 : decode cX12_roadOf 1 = .ok (.getfield 75, 3) := by decide +kernel
theorem dX12_roadOf_4 : decode cX12_roadOf 4 = .ok (.bipush 17, 2) := by decide +kernel
theorem dX12_roadOf_6 : decode cX12_roadOf 6 = .ok (.iconst 4, 1) := by decide +kernel
theorem dX12_roadOf_7 : decode cX12_roadOf 7 = .ok (.iload_n 1, 1) := by decide +kernel
theorem dX12_roadOf_8 : decode cX12_roadOf 8 = .ok (.imul, 1) := by decide +kernel
theorem dX12_roadOf_9 : decode cX12_roadOf 9 = .ok (.iadd, 1) := by decide +kernel
theorem dX12_roadOf_10 : decode cX12_roadOf 10 = .ok (.iload_n 2, 1) := by decide +kernel
theorem dX12_roadOf_11 : decode cX12_roadOf 11 = .ok (.iadd, 1) := by decide +kernel
theorem dX12_roadOf_12 : decode cX12_roadOf 12 = .ok (.iaload, 1) := by decide +kernel
theorem dX12_roadOf_13 : decode cX12_roadOf 13 = .ok (.ireturn, 1) := by decide +kernel
theorem dX12_tradeOf_0 : decode cX12_tradeOf 0 = .ok (.iload_n 2, 1) := by decide +kernel
theorem dX12_tradeOf_1 : decode cX12_tradeOf 1 = .ok (.iconst 2, 1) := by decide +kernel
theorem dX12_tradeOf_2 : decode cX12_tradeOf 2 = .ok (.if_icmp .ne 17, 3) := by decide +kernel
theorem dX12_tradeOf_5 : decode cX12_tradeOf 5 = .ok (.aload_n 0, 1) := by decide +kernel
theorem dX12_tradeOf_6 : decode cX12_tradeOf 6 = .ok (.getfield 106, 3) := by decide +kernel
theorem dX12_tradeOf_9 : decode cX12_tradeOf 9 = .ok (.ifCond .lt 10, 3) := by decide +kernel
theorem dX12_tradeOf_12 : decode cX12_tradeOf 12 = .ok (.aload_n 0, 1) := by decide +kernel
theorem dX12_tradeOf_13 : decode cX12_tradeOf 13 = .ok (.getfield 106, 3) := by decide +kernel
theorem dX12_tradeOf_16 : decode cX12_tradeOf 16 = .ok (.goto 16, 3) := by decide +kernel
theorem dX12_tradeOf_19 : decode cX12_tradeOf 19 = .ok (.aload_n 0, 1) := by decide +kernel
theorem dX12_tradeOf_20 : decode cX12_tradeOf 20 = .ok (.getfield 75, 3) := by decide +kernel
theorem dX12_tradeOf_23 : decode cX12_tradeOf 23 = .ok (.bipush 57, 2) := by decide +kernel
theorem dX12_tradeOf_25 : decode cX12_tradeOf 25 = .ok (.iconst 4, 1) := by decide +kernel
theorem dX12_tradeOf_26 : decode cX12_tradeOf 26 = .ok (.iload_n 1, 1) := by decide +kernel
theorem dX12_tradeOf_27 : decode cX12_tradeOf 27 = .ok (.imul, 1) := by decide +kernel
theorem dX12_tradeOf_28 : decode cX12_tradeOf 28 = .ok (.iadd, 1) := by decide +kernel
theorem dX12_tradeOf_29 : decode cX12_tradeOf 29 = .ok (.iload_n 2, 1) := by decide +kernel
theorem dX12_tradeOf_30 : decode cX12_tradeOf 30 = .ok (.iadd, 1) := by decide +kernel
theorem dX12_tradeOf_31 : decode cX12_tradeOf 31 = .ok (.iaload, 1) := by decide +kernel
theorem dX12_tradeOf_32 : decode cX12_tradeOf 32 = .ok (.ireturn, 1) := by decide +kernel
theorem dX12_isWorn_0 : decode cX12_isWorn 0 = .ok (.aload_n 0, 1) := by decide +kernel
theorem dX12_isWorn_1 : decode cX12_isWorn 1 = .ok (.getfield 99, 3) := by decide +kernel
theorem dX12_isWorn_4 : decode cX12_isWorn 4 = .ok (.iconst 1, 1) := by decide +kernel
theorem dX12_isWorn_5 : decode cX12_isWorn 5 = .ok (.iload_n 1, 1) := by decide +kernel
theorem dX12_isWorn_6 : decode cX12_isWorn 6 = .ok (.iadd, 1) := by decide +kernel
theorem dX12_isWorn_7 : decode cX12_isWorn 7 = .ok (.iaload, 1) := by decide +kernel
theorem dX12_isWorn_8 : decode cX12_isWorn 8 = .ok (.sipush 1000, 3) := by decide +kernel
theorem dX12_isWorn_11 : decode cX12_isWorn 11 = .ok (.if_icmp .lt 7, 3) := by decide +kernel
theorem dX12_isWorn_14 : decode cX12_isWorn 14 = .ok (.iconst 1, 1) := by decide +kernel
theorem dX12_isWorn_15 : decode cX12_isWorn 15 = .ok (.goto 4, 3) := by decide +kernel
theorem dX12_isWorn_18 : decode cX12_isWorn 18 = .ok (.iconst 0, 1) := by decide +kernel
theorem dX12_isWorn_19 : decode cX12_isWorn 19 = .ok (.ireturn, 1) := by decide +kernel
theorem dX12_mean_0 : decode cX12_mean 0 = .ok (.iconst 0, 1) := by decide +kernel
theorem dX12_mean_1 : decode cX12_mean 1 = .ok (.istore_n 3, 1) := by decide +kernel
theorem dX12_mean_2 : decode cX12_mean 2 = .ok (.iconst 0, 1) := by decide +kernel
theorem dX12_mean_3 : decode cX12_mean 3 = .ok (.istore 4, 2) := by decide +kernel
theorem dX12_mean_5 : decode cX12_mean 5 = .ok (.iconst 0, 1) := by decide +kernel
theorem dX12_mean_6 : decode cX12_mean 6 = .ok (.istore 5, 2) := by decide +kernel
theorem dX12_mean_8 : decode cX12_mean 8 = .ok (.iload 5, 2) := by decide +kernel
theorem dX12_mean_10 : decode cX12_mean 10 = .ok (.aload_n 0, 1) := by decide +kernel
theorem dX12_mean_11 : decode cX12_mean 11 = .ok (.invokevirtual 273, 3) := by decide +kernel
theorem dX12_mean_14 : decode cX12_mean 14 = .ok (.if_icmp .ge 52, 3) := by decide +kernel
theorem dX12_mean_17 : decode cX12_mean 17 = .ok (.aload_n 0, 1) := by decide +kernel
theorem dX12_mean_18 : decode cX12_mean 18 = .ok (.getfield 99, 3) := by decide +kernel
theorem dX12_mean_21 : decode cX12_mean 21 = .ok (.bipush 11, 2) := by decide +kernel
theorem dX12_mean_23 : decode cX12_mean 23 = .ok (.iconst 5, 1) := by decide +kernel
theorem dX12_mean_24 : decode cX12_mean 24 = .ok (.iload_n 1, 1) := by decide +kernel
theorem dX12_mean_25 : decode cX12_mean 25 = .ok (.imul, 1) := by decide +kernel
theorem dX12_mean_26 : decode cX12_mean 26 = .ok (.iadd, 1) := by decide +kernel
theorem dX12_mean_27 : decode cX12_mean 27 = .ok (.iload 5, 2) := by decide +kernel
theorem dX12_mean_29 : decode cX12_mean 29 = .ok (.iadd, 1) := by decide +kernel
theorem dX12_mean_30 : decode cX12_mean 30 = .ok (.iaload, 1) := by decide +kernel
theorem dX12_mean_31 : decode cX12_mean 31 = .ok (.istore 6, 2) := by decide +kernel
theorem dX12_mean_33 : decode cX12_mean 33 = .ok (.iload_n 3, 1) := by decide +kernel
theorem dX12_mean_34 : decode cX12_mean 34 = .ok (.iload 6, 2) := by decide +kernel
theorem dX12_mean_36 : decode cX12_mean 36 = .ok (.iadd, 1) := by decide +kernel
theorem dX12_mean_37 : decode cX12_mean 37 = .ok (.istore_n 3, 1) := by decide +kernel
theorem dX12_mean_38 : decode cX12_mean 38 = .ok (.iload 4, 2) := by decide +kernel
theorem dX12_mean_40 : decode cX12_mean 40 = .ok (.iload 6, 2) := by decide +kernel
theorem dX12_mean_42 : decode cX12_mean 42 = .ok (.aload_n 0, 1) := by decide +kernel
theorem dX12_mean_43 : decode cX12_mean 43 = .ok (.getfield 75, 3) := by decide +kernel
theorem dX12_mean_46 : decode cX12_mean 46 = .ok (.bipush 7, 2) := by decide +kernel
theorem dX12_mean_48 : decode cX12_mean 48 = .ok (.iconst 2, 1) := by decide +kernel
theorem dX12_mean_49 : decode cX12_mean 49 = .ok (.iload 5, 2) := by decide +kernel
theorem dX12_mean_51 : decode cX12_mean 51 = .ok (.imul, 1) := by decide +kernel
theorem dX12_mean_52 : decode cX12_mean 52 = .ok (.iadd, 1) := by decide +kernel
theorem dX12_mean_53 : decode cX12_mean 53 = .ok (.iload_n 2, 1) := by decide +kernel
theorem dX12_mean_54 : decode cX12_mean 54 = .ok (.iadd, 1) := by decide +kernel
theorem dX12_mean_55 : decode cX12_mean 55 = .ok (.iaload, 1) := by decide +kernel
theorem dX12_mean_56 : decode cX12_mean 56 = .ok (.imul, 1) := by decide +kernel
theorem dX12_mean_57 : decode cX12_mean 57 = .ok (.iadd, 1) := by decide +kernel
theorem dX12_mean_58 : decode cX12_mean 58 = .ok (.istore 4, 2) := by decide +kernel
theorem dX12_mean_60 : decode cX12_mean 60 = .ok (.iinc 5 1, 3) := by decide +kernel
theorem dX12_mean_63 : decode cX12_mean 63 = .ok (.goto (-55), 3) := by decide +kernel
theorem dX12_mean_66 : decode cX12_mean 66 = .ok (.iload_n 3, 1) := by decide +kernel
theorem dX12_mean_67 : decode cX12_mean 67 = .ok (.ifCond .ne 7, 3) := by decide +kernel
theorem dX12_mean_70 : decode cX12_mean 70 = .ok (.iconst 0, 1) := by decide +kernel
theorem dX12_mean_71 : decode cX12_mean 71 = .ok (.goto 7, 3) := by decide +kernel
theorem dX12_mean_74 : decode cX12_mean 74 = .ok (.iload 4, 2) := by decide +kernel
theorem dX12_mean_76 : decode cX12_mean 76 = .ok (.iload_n 3, 1) := by decide +kernel
theorem dX12_mean_77 : decode cX12_mean 77 = .ok (.idiv, 1) := by decide +kernel
theorem dX12_mean_78 : decode cX12_mean 78 = .ok (.ireturn, 1) := by decide +kernel
theorem dX12_laysFacts_0 : decode cX12_laysFacts 0 = .ok (.aload_n 0, 1) := by decide +kernel
theorem dX12_laysFacts_1 : decode cX12_laysFacts 1 = .ok (.getfield 93, 3) := by decide +kernel
theorem dX12_laysFacts_4 : decode cX12_laysFacts 4 = .ok (.iconst 0, 1) := by decide +kernel
theorem dX12_laysFacts_5 : decode cX12_laysFacts 5 = .ok (.aload_n 0, 1) := by decide +kernel
theorem dX12_laysFacts_6 : decode cX12_laysFacts 6 = .ok (.iload_n 1, 1) := by decide +kernel
theorem dX12_laysFacts_7 : decode cX12_laysFacts 7 = .ok (.iconst 2, 1) := by decide +kernel
theorem dX12_laysFacts_8 : decode cX12_laysFacts 8 = .ok (.invokevirtual 279, 3) := by decide +kernel
theorem dX12_laysFacts_11 : decode cX12_laysFacts 11 = .ok (.iastore, 1) := by decide +kernel
theorem dX12_laysFacts_12 : decode cX12_laysFacts 12 = .ok (.aload_n 0, 1) := by decide +kernel
theorem dX12_laysFacts_13 : decode cX12_laysFacts 13 = .ok (.getfield 93, 3) := by decide +kernel
theorem dX12_laysFacts_16 : decode cX12_laysFacts 16 = .ok (.iconst 1, 1) := by decide +kernel
theorem dX12_laysFacts_17 : decode cX12_laysFacts 17 = .ok (.aload_n 0, 1) := by decide +kernel
theorem dX12_laysFacts_18 : decode cX12_laysFacts 18 = .ok (.getfield 99, 3) := by decide +kernel
theorem dX12_laysFacts_21 : decode cX12_laysFacts 21 = .ok (.iconst 1, 1) := by decide +kernel
theorem dX12_laysFacts_22 : decode cX12_laysFacts 22 = .ok (.iload_n 1, 1) := by decide +kernel
theorem dX12_laysFacts_23 : decode cX12_laysFacts 23 = .ok (.iadd, 1) := by decide +kernel
theorem dX12_laysFacts_24 : decode cX12_laysFacts 24 = .ok (.iaload, 1) := by decide +kernel
theorem dX12_laysFacts_25 : decode cX12_laysFacts 25 = .ok (.iastore, 1) := by decide +kernel
theorem dX12_laysFacts_26 : decode cX12_laysFacts 26 = .ok (.aload_n 0, 1) := by decide +kernel
theorem dX12_laysFacts_27 : decode cX12_laysFacts 27 = .ok (.getfield 93, 3) := by decide +kernel
theorem dX12_laysFacts_30 : decode cX12_laysFacts 30 = .ok (.iconst 2, 1) := by decide +kernel
theorem dX12_laysFacts_31 : decode cX12_laysFacts 31 = .ok (.aload_n 0, 1) := by decide +kernel
theorem dX12_laysFacts_32 : decode cX12_laysFacts 32 = .ok (.iload_n 1, 1) := by decide +kernel
theorem dX12_laysFacts_33 : decode cX12_laysFacts 33 = .ok (.iconst 0, 1) := by decide +kernel
theorem dX12_laysFacts_34 : decode cX12_laysFacts 34 = .ok (.invokevirtual 282, 3) := by decide +kernel
theorem dX12_laysFacts_37 : decode cX12_laysFacts 37 = .ok (.iastore, 1) := by decide +kernel
theorem dX12_laysFacts_38 : decode cX12_laysFacts 38 = .ok (.aload_n 0, 1) := by decide +kernel
theorem dX12_laysFacts_39 : decode cX12_laysFacts 39 = .ok (.getfield 93, 3) := by decide +kernel
theorem dX12_laysFacts_42 : decode cX12_laysFacts 42 = .ok (.iconst 3, 1) := by decide +kernel
theorem dX12_laysFacts_43 : decode cX12_laysFacts 43 = .ok (.aload_n 0, 1) := by decide +kernel
theorem dX12_laysFacts_44 : decode cX12_laysFacts 44 = .ok (.iload_n 1, 1) := by decide +kernel
theorem dX12_laysFacts_45 : decode cX12_laysFacts 45 = .ok (.iconst 1, 1) := by decide +kernel
theorem dX12_laysFacts_46 : decode cX12_laysFacts 46 = .ok (.invokevirtual 282, 3) := by decide +kernel
theorem dX12_laysFacts_49 : decode cX12_laysFacts 49 = .ok (.iastore, 1) := by decide +kernel
theorem dX12_laysFacts_50 : decode cX12_laysFacts 50 = .ok (.return_, 1) := by decide +kernel
theorem dX12_clip_0 : decode cX12_clip 0 = .ok (.iload_n 0, 1) := by decide +kernel
theorem dX12_clip_1 : decode cX12_clip 1 = .ok (.iload_n 1, 1) := by decide +kernel
theorem dX12_clip_2 : decode cX12_clip 2 = .ok (.if_icmp .ge 7, 3) := by decide +kernel
theorem dX12_clip_5 : decode cX12_clip 5 = .ok (.iload_n 1, 1) := by decide +kernel
theorem dX12_clip_6 : decode cX12_clip 6 = .ok (.goto 13, 3) := by decide +kernel
theorem dX12_clip_9 : decode cX12_clip 9 = .ok (.iload_n 0, 1) := by decide +kernel
theorem dX12_clip_10 : decode cX12_clip 10 = .ok (.iload_n 2, 1) := by decide +kernel
theorem dX12_clip_11 : decode cX12_clip 11 = .ok (.if_icmp .le 7, 3) := by decide +kernel
theorem dX12_clip_14 : decode cX12_clip 14 = .ok (.iload_n 2, 1) := by decide +kernel
theorem dX12_clip_15 : decode cX12_clip 15 = .ok (.goto 4, 3) := by decide +kernel
theorem dX12_clip_18 : decode cX12_clip 18 = .ok (.iload_n 0, 1) := by decide +kernel
theorem dX12_clip_19 : decode cX12_clip 19 = .ok (.ireturn, 1) := by decide +kernel
theorem dX12_costOf_0 : decode cX12_costOf 0 = .ok (.aload_n 0, 1) := by decide +kernel
theorem dX12_costOf_1 : decode cX12_costOf 1 = .ok (.getfield 75, 3) := by decide +kernel
theorem dX12_costOf_4 : decode cX12_costOf 4 = .ok (.iconst 4, 1) := by decide +kernel
theorem dX12_costOf_5 : decode cX12_costOf 5 = .ok (.iaload, 1) := by decide +kernel
theorem dX12_costOf_6 : decode cX12_costOf 6 = .ok (.ifCond .ge 10, 3) := by decide +kernel
theorem dX12_costOf_9 : decode cX12_costOf 9 = .ok (.aload_n 0, 1) := by decide +kernel
theorem dX12_costOf_10 : decode cX12_costOf 10 = .ok (.iload_n 1, 1) := by decide +kernel
theorem dX12_costOf_11 : decode cX12_costOf 11 = .ok (.iconst 2, 1) := by decide +kernel
theorem dX12_costOf_12 : decode cX12_costOf 12 = .ok (.invokevirtual 279, 3) := by decide +kernel
theorem dX12_costOf_15 : decode cX12_costOf 15 = .ok (.ireturn, 1) := by decide +kernel
theorem dX12_costOf_16 : decode cX12_costOf 16 = .ok (.aload_n 0, 1) := by decide +kernel
theorem dX12_costOf_17 : decode cX12_costOf 17 = .ok (.iload_n 1, 1) := by decide +kernel
theorem dX12_costOf_18 : decode cX12_costOf 18 = .ok (.invokevirtual 285, 3) := by decide +kernel
theorem dX12_costOf_21 : decode cX12_costOf 21 = .ok (.aload_n 0, 1) := by decide +kernel
theorem dX12_costOf_22 : decode cX12_costOf 22 = .ok (.getfield 93, 3) := by decide +kernel
theorem dX12_costOf_25 : decode cX12_costOf 25 = .ok (.iconst 4, 1) := by decide +kernel
theorem dX12_costOf_26 : decode cX12_costOf 26 = .ok (.iload_n 2, 1) := by decide +kernel
theorem dX12_costOf_27 : decode cX12_costOf 27 = .ok (.iastore, 1) := by decide +kernel
theorem dX12_costOf_28 : decode cX12_costOf 28 = .ok (.aload_n 0, 1) := by decide +kernel
theorem dX12_costOf_29 : decode cX12_costOf 29 = .ok (.aload_n 0, 1) := by decide +kernel
theorem dX12_costOf_30 : decode cX12_costOf 30 = .ok (.getfield 75, 3) := by decide +kernel
theorem dX12_costOf_33 : decode cX12_costOf 33 = .ok (.iconst 4, 1) := by decide +kernel
theorem dX12_costOf_34 : decode cX12_costOf 34 = .ok (.iaload, 1) := by decide +kernel
theorem dX12_costOf_35 : decode cX12_costOf 35 = .ok (.invokevirtual 288, 3) := by decide +kernel
theorem dX12_costOf_38 : decode cX12_costOf 38 = .ok (.iconst 1, 1) := by decide +kernel
theorem dX12_costOf_39 : decode cX12_costOf 39 = .ok (.sipush 9999, 3) := by decide +kernel
theorem dX12_costOf_42 : decode cX12_costOf 42 = .ok (.invokestatic 291, 3) := by decide +kernel
theorem dX12_costOf_45 : decode cX12_costOf 45 = .ok (.ireturn, 1) := by decide +kernel
theorem dX12_shockOf_0 : decode cX12_shockOf 0 = .ok (.aload_n 0, 1) := by decide +kernel
theorem dX12_shockOf_1 : decode cX12_shockOf 1 = .ok (.getfield 75, 3) := by decide +kernel
theorem dX12_shockOf_4 : decode cX12_shockOf 4 = .ok (.iconst 5, 1) := by decide +kernel
theorem dX12_shockOf_5 : decode cX12_shockOf 5 = .ok (.iaload, 1) := by decide +kernel
theorem dX12_shockOf_6 : decode cX12_shockOf 6 = .ok (.ifCond .ge 18, 3) := by decide +kernel
theorem dX12_shockOf_9 : decode cX12_shockOf 9 = .ok (.aload_n 0, 1) := by decide +kernel
theorem dX12_shockOf_10 : decode cX12_shockOf 10 = .ok (.getfield 99, 3) := by decide +kernel
theorem dX12_shockOf_13 : decode cX12_shockOf 13 = .ok (.iconst 1, 1) := by decide +kernel
theorem dX12_shockOf_14 : decode cX12_shockOf 14 = .ok (.iload_n 1, 1) := by decide +kernel
theorem dX12_shockOf_15 : decode cX12_shockOf 15 = .ok (.iadd, 1) := by decide +kernel
theorem dX12_shockOf_16 : decode cX12_shockOf 16 = .ok (.iaload, 1) := by decide +kernel
theorem dX12_shockOf_17 : decode cX12_shockOf 17 = .ok (.iconst 0, 1) := by decide +kernel
theorem dX12_shockOf_18 : decode cX12_shockOf 18 = .ok (.bipush 100, 2) := by decide +kernel
theorem dX12_shockOf_20 : decode cX12_shockOf 20 = .ok (.invokestatic 291, 3) := by decide +kernel
theorem dX12_shockOf_23 : decode cX12_shockOf 23 = .ok (.ireturn, 1) := by decide +kernel
theorem dX12_shockOf_24 : decode cX12_shockOf 24 = .ok (.aload_n 0, 1) := by decide +kernel
theorem dX12_shockOf_25 : decode cX12_shockOf 25 = .ok (.iload_n 1, 1) := by decide +kernel
theorem dX12_shockOf_26 : decode cX12_shockOf 26 = .ok (.invokevirtual 285, 3) := by decide +kernel
theorem dX12_shockOf_29 : decode cX12_shockOf 29 = .ok (.aload_n 0, 1) := by decide +kernel
theorem dX12_shockOf_30 : decode cX12_shockOf 30 = .ok (.getfield 93, 3) := by decide +kernel
theorem dX12_shockOf_33 : decode cX12_shockOf 33 = .ok (.iconst 5, 1) := by decide +kernel
theorem dX12_shockOf_34 : decode cX12_shockOf 34 = .ok (.bipush 9, 2) := by decide +kernel
theorem dX12_shockOf_36 : decode cX12_shockOf 36 = .ok (.aload_n 0, 1) := by decide +kernel
theorem dX12_shockOf_37 : decode cX12_shockOf 37 = .ok (.getfield 75, 3) := by decide +kernel
theorem dX12_shockOf_40 : decode cX12_shockOf 40 = .ok (.bipush 7, 2) := by decide +kernel
theorem dX12_shockOf_42 : decode cX12_shockOf 42 = .ok (.iconst 2, 1) := by decide +kernel
theorem dX12_shockOf_43 : decode cX12_shockOf 43 = .ok (.iload_n 2, 1) := by decide +kernel
theorem dX12_shockOf_44 : decode cX12_shockOf 44 = .ok (.imul, 1) := by decide +kernel
theorem dX12_shockOf_45 : decode cX12_shockOf 45 = .ok (.iadd, 1) := by decide +kernel
theorem dX12_shockOf_46 : decode cX12_shockOf 46 = .ok (.iconst 1, 1) := by decide +kernel
theorem dX12_shockOf_47 : decode cX12_shockOf 47 = .ok (.iadd, 1) := by decide +kernel
theorem dX12_shockOf_48 : decode cX12_shockOf 48 = .ok (.iaload, 1) := by decide +kernel
theorem dX12_shockOf_49 : decode cX12_shockOf 49 = .ok (.isub, 1) := by decide +kernel
theorem dX12_shockOf_50 : decode cX12_shockOf 50 = .ok (.iastore, 1) := by decide +kernel
theorem dX12_shockOf_51 : decode cX12_shockOf 51 = .ok (.aload_n 0, 1) := by decide +kernel
theorem dX12_shockOf_52 : decode cX12_shockOf 52 = .ok (.aload_n 0, 1) := by decide +kernel
theorem dX12_shockOf_53 : decode cX12_shockOf 53 = .ok (.getfield 75, 3) := by decide +kernel
theorem dX12_shockOf_56 : decode cX12_shockOf 56 = .ok (.iconst 5, 1) := by decide +kernel
theorem dX12_shockOf_57 : decode cX12_shockOf 57 = .ok (.iaload, 1) := by decide +kernel
theorem dX12_shockOf_58 : decode cX12_shockOf 58 = .ok (.invokevirtual 288, 3) := by decide +kernel
theorem dX12_shockOf_61 : decode cX12_shockOf 61 = .ok (.iconst 0, 1) := by decide +kernel
theorem dX12_shockOf_62 : decode cX12_shockOf 62 = .ok (.bipush 100, 2) := by decide +kernel
theorem dX12_shockOf_64 : decode cX12_shockOf 64 = .ok (.invokestatic 291, 3) := by decide +kernel
theorem dX12_shockOf_67 : decode cX12_shockOf 67 = .ok (.ireturn, 1) := by decide +kernel
theorem dX12_mendOf_0 : decode cX12_mendOf 0 = .ok (.aload_n 0, 1) := by decide +kernel
theorem dX12_mendOf_1 : decode cX12_mendOf 1 = .ok (.getfield 75, 3) := by decide +kernel
theorem dX12_mendOf_4 : decode cX12_mendOf 4 = .ok (.bipush 6, 2) := by decide +kernel
theorem dX12_mendOf_6 : decode cX12_mendOf 6 = .ok (.iaload, 1) := by decide +kernel
theorem dX12_mendOf_7 : decode cX12_mendOf 7 = .ok (.ifCond .ge 15, 3) := by decide +kernel
theorem dX12_mendOf_10 : decode cX12_mendOf 10 = .ok (.aload_n 0, 1) := by decide +kernel
theorem dX12_mendOf_11 : decode cX12_mendOf 11 = .ok (.getfield 75, 3) := by decide +kernel
theorem dX12_mendOf_14 : decode cX12_mendOf 14 = .ok (.bipush 7, 2) := by decide +kernel
theorem dX12_mendOf_16 : decode cX12_mendOf 16 = .ok (.iconst 2, 1) := by decide +kernel
theorem dX12_mendOf_17 : decode cX12_mendOf 17 = .ok (.iload_n 2, 1) := by decide +kernel
theorem dX12_mendOf_18 : decode cX12_mendOf 18 = .ok (.imul, 1) := by decide +kernel
theorem dX12_mendOf_19 : decode cX12_mendOf 19 = .ok (.iadd, 1) := by decide +kernel
theorem dX12_mendOf_20 : decode cX12_mendOf 20 = .ok (.iaload, 1) := by decide +kernel
theorem dX12_mendOf_21 : decode cX12_mendOf 21 = .ok (.ireturn, 1) := by decide +kernel
theorem dX12_mendOf_22 : decode cX12_mendOf 22 = .ok (.aload_n 0, 1) := by decide +kernel
theorem dX12_mendOf_23 : decode cX12_mendOf 23 = .ok (.iload_n 1, 1) := by decide +kernel
theorem dX12_mendOf_24 : decode cX12_mendOf 24 = .ok (.invokevirtual 285, 3) := by decide +kernel
theorem dX12_mendOf_27 : decode cX12_mendOf 27 = .ok (.aload_n 0, 1) := by decide +kernel
theorem dX12_mendOf_28 : decode cX12_mendOf 28 = .ok (.getfield 93, 3) := by decide +kernel
theorem dX12_mendOf_31 : decode cX12_mendOf 31 = .ok (.iconst 5, 1) := by decide +kernel
theorem dX12_mendOf_32 : decode cX12_mendOf 32 = .ok (.bipush 9, 2) := by decide +kernel
theorem dX12_mendOf_34 : decode cX12_mendOf 34 = .ok (.aload_n 0, 1) := by decide +kernel
theorem dX12_mendOf_35 : decode cX12_mendOf 35 = .ok (.getfield 75, 3) := by decide +kernel
theorem dX12_mendOf_38 : decode cX12_mendOf 38 = .ok (.bipush 7, 2) := by decide +kernel
theorem dX12_mendOf_40 : decode cX12_mendOf 40 = .ok (.iconst 2, 1) := by decide +kernel
theorem dX12_mendOf_41 : decode cX12_mendOf 41 = .ok (.iload_n 2, 1) := by decide +kernel
theorem dX12_mendOf_42 : decode cX12_mendOf 42 = .ok (.imul, 1) := by decide +kernel
theorem dX12_mendOf_43 : decode cX12_mendOf 43 = .ok (.iadd, 1) := by decide +kernel
theorem dX12_mendOf_44 : decode cX12_mendOf 44 = .ok (.iconst 1, 1) := by decide +kernel
theorem dX12_mendOf_45 : decode cX12_mendOf 45 = .ok (.iadd, 1) := by decide +kernel
theorem dX12_mendOf_46 : decode cX12_mendOf 46 = .ok (.iaload, 1) := by decide +kernel
theorem dX12_mendOf_47 : decode cX12_mendOf 47 = .ok (.isub, 1) := by decide +kernel
theorem dX12_mendOf_48 : decode cX12_mendOf 48 = .ok (.iastore, 1) := by decide +kernel
theorem dX12_mendOf_49 : decode cX12_mendOf 49 = .ok (.aload_n 0, 1) := by decide +kernel
theorem dX12_mendOf_50 : decode cX12_mendOf 50 = .ok (.getfield 93, 3) := by decide +kernel
theorem dX12_mendOf_53 : decode cX12_mendOf 53 = .ok (.bipush 6, 2) := by decide +kernel
theorem dX12_mendOf_55 : decode cX12_mendOf 55 = .ok (.iload_n 3, 1) := by decide +kernel
theorem dX12_mendOf_56 : decode cX12_mendOf 56 = .ok (.iastore, 1) := by decide +kernel
theorem dX12_mendOf_57 : decode cX12_mendOf 57 = .ok (.aload_n 0, 1) := by decide +kernel
theorem dX12_mendOf_58 : decode cX12_mendOf 58 = .ok (.getfield 93, 3) := by decide +kernel
theorem dX12_mendOf_61 : decode cX12_mendOf 61 = .ok (.bipush 7, 2) := by decide +kernel
theorem dX12_mendOf_63 : decode cX12_mendOf 63 = .ok (.aload_n 0, 1) := by decide +kernel
theorem dX12_mendOf_64 : decode cX12_mendOf 64 = .ok (.getfield 75, 3) := by decide +kernel
theorem dX12_mendOf_67 : decode cX12_mendOf 67 = .ok (.bipush 7, 2) := by decide +kernel
theorem dX12_mendOf_69 : decode cX12_mendOf 69 = .ok (.iconst 2, 1) := by decide +kernel
theorem dX12_mendOf_70 : decode cX12_mendOf 70 = .ok (.iload_n 2, 1) := by decide +kernel
theorem dX12_mendOf_71 : decode cX12_mendOf 71 = .ok (.imul, 1) := by decide +kernel
theorem dX12_mendOf_72 : decode cX12_mendOf 72 = .ok (.iadd, 1) := by decide +kernel
theorem dX12_mendOf_73 : decode cX12_mendOf 73 = .ok (.iaload, 1) := by decide +kernel
theorem dX12_mendOf_74 : decode cX12_mendOf 74 = .ok (.iastore, 1) := by decide +kernel
theorem dX12_mendOf_75 : decode cX12_mendOf 75 = .ok (.aload_n 0, 1) := by decide +kernel
theorem dX12_mendOf_76 : decode cX12_mendOf 76 = .ok (.aload_n 0, 1) := by decide +kernel
theorem dX12_mendOf_77 : decode cX12_mendOf 77 = .ok (.getfield 75, 3) := by decide +kernel
theorem dX12_mendOf_80 : decode cX12_mendOf 80 = .ok (.bipush 6, 2) := by decide +kernel
theorem dX12_mendOf_82 : decode cX12_mendOf 82 = .ok (.iaload, 1) := by decide +kernel
theorem dX12_mendOf_83 : decode cX12_mendOf 83 = .ok (.invokevirtual 288, 3) := by decide +kernel
theorem dX12_mendOf_86 : decode cX12_mendOf 86 = .ok (.iconst 0, 1) := by decide +kernel
theorem dX12_mendOf_87 : decode cX12_mendOf 87 = .ok (.bipush 99, 2) := by decide +kernel
theorem dX12_mendOf_89 : decode cX12_mendOf 89 = .ok (.invokestatic 291, 3) := by decide +kernel
theorem dX12_mendOf_92 : decode cX12_mendOf 92 = .ok (.ireturn, 1) := by decide +kernel
theorem dX12_findWay_0 : decode cX12_findWay 0 = .ok (.iconst 0, 1) := by decide +kernel
theorem dX12_findWay_1 : decode cX12_findWay 1 = .ok (.istore_n 2, 1) := by decide +kernel
theorem dX12_findWay_2 : decode cX12_findWay 2 = .ok (.iload_n 2, 1) := by decide +kernel
theorem dX12_findWay_3 : decode cX12_findWay 3 = .ok (.aload_n 0, 1) := by decide +kernel
theorem dX12_findWay_4 : decode cX12_findWay 4 = .ok (.invokevirtual 194, 3) := by decide +kernel
theorem dX12_findWay_7 : decode cX12_findWay 7 = .ok (.if_icmp .ge 26, 3) := by decide +kernel
theorem dX12_findWay_10 : decode cX12_findWay 10 = .ok (.aload_n 0, 1) := by decide +kernel
theorem dX12_findWay_11 : decode cX12_findWay 11 = .ok (.getfield 112, 3) := by decide +kernel
theorem dX12_findWay_14 : decode cX12_findWay 14 = .ok (.iload_n 2, 1) := by decide +kernel
theorem dX12_findWay_15 : decode cX12_findWay 15 = .ok (.aload_n 0, 1) := by decide +kernel
theorem dX12_findWay_16 : decode cX12_findWay 16 = .ok (.iload_n 2, 1) := by decide +kernel
theorem dX12_findWay_17 : decode cX12_findWay 17 = .ok (.aload_n 0, 1) := by decide +kernel
theorem dX12_findWay_18 : decode cX12_findWay 18 = .ok (.iload_n 1, 1) := by decide +kernel
theorem dX12_findWay_19 : decode cX12_findWay 19 = .ok (.iconst 3, 1) := by decide +kernel
theorem dX12_findWay_20 : decode cX12_findWay 20 = .ok (.invokevirtual 294, 3) := by decide +kernel
theorem dX12_findWay_23 : decode cX12_findWay 23 = .ok (.invokevirtual 297, 3) := by decide +kernel
theorem dX12_findWay_26 : decode cX12_findWay 26 = .ok (.iastore, 1) := by decide +kernel
theorem dX12_findWay_27 : decode cX12_findWay 27 = .ok (.iinc 2 1, 3) := by decide +kernel
theorem dX12_findWay_30 : decode cX12_findWay 30 = .ok (.goto (-28), 3) := by decide +kernel
theorem dX12_findWay_33 : decode cX12_findWay 33 = .ok (.aload_n 0, 1) := by decide +kernel
theorem dX12_findWay_34 : decode cX12_findWay 34 = .ok (.ldc_w 300, 3) := by decide +kernel
theorem dX12_findWay_37 : decode cX12_findWay 37 = .ok (.putfield 301, 3) := by decide +kernel
theorem dX12_findWay_40 : decode cX12_findWay 40 = .ok (.aload_n 0, 1) := by decide +kernel
theorem dX12_findWay_41 : decode cX12_findWay 41 = .ok (.iconst 0, 1) := by decide +kernel
theorem dX12_findWay_42 : decode cX12_findWay 42 = .ok (.putfield 304, 3) := by decide +kernel
theorem dX12_findWay_45 : decode cX12_findWay 45 = .ok (.aload_n 0, 1) := by decide +kernel
theorem dX12_findWay_46 : decode cX12_findWay 46 = .ok (.aload_n 0, 1) := by decide +kernel
theorem dX12_findWay_47 : decode cX12_findWay 47 = .ok (.iload_n 1, 1) := by decide +kernel
theorem dX12_findWay_48 : decode cX12_findWay 48 = .ok (.iconst 0, 1) := by decide +kernel
theorem dX12_findWay_49 : decode cX12_findWay 49 = .ok (.invokevirtual 294, 3) := by decide +kernel
theorem dX12_findWay_52 : decode cX12_findWay 52 = .ok (.aload_n 0, 1) := by decide +kernel
theorem dX12_findWay_53 : decode cX12_findWay 53 = .ok (.iload_n 1, 1) := by decide +kernel
theorem dX12_findWay_54 : decode cX12_findWay 54 = .ok (.iconst 1, 1) := by decide +kernel
theorem dX12_findWay_55 : decode cX12_findWay 55 = .ok (.invokevirtual 294, 3) := by decide +kernel
theorem dX12_findWay_58 : decode cX12_findWay 58 = .ok (.iconst 1, 1) := by decide +kernel
theorem dX12_findWay_59 : decode cX12_findWay 59 = .ok (.aload_n 0, 1) := by decide +kernel
theorem dX12_findWay_60 : decode cX12_findWay 60 = .ok (.iload_n 1, 1) := by decide +kernel
theorem dX12_findWay_61 : decode cX12_findWay 61 = .ok (.iconst 0, 1) := by decide +kernel
theorem dX12_findWay_62 : decode cX12_findWay 62 = .ok (.invokevirtual 294, 3) := by decide +kernel
theorem dX12_findWay_65 : decode cX12_findWay 65 = .ok (.ishl, 1) := by decide +kernel
theorem dX12_findWay_66 : decode cX12_findWay 66 = .ok (.iconst 0, 1) := by decide +kernel
theorem dX12_findWay_67 : decode cX12_findWay 67 = .ok (.iconst 0, 1) := by decide +kernel
theorem dX12_findWay_68 : decode cX12_findWay 68 = .ok (.invokevirtual 307, 3) := by decide +kernel
theorem dX12_findWay_71 : decode cX12_findWay 71 = .ok (.aload_n 0, 1) := by decide +kernel
theorem dX12_findWay_72 : decode cX12_findWay 72 = .ok (.getfield 301, 3) := by decide +kernel
theorem dX12_findWay_75 : decode cX12_findWay 75 = .ok (.ldc_w 300, 3) := by decide +kernel
theorem dX12_findWay_78 : decode cX12_findWay 78 = .ok (.if_icmp .ge 7, 3) := by decide +kernel
theorem dX12_findWay_81 : decode cX12_findWay 81 = .ok (.iconst 1, 1) := by decide +kernel
theorem dX12_findWay_82 : decode cX12_findWay 82 = .ok (.goto 4, 3) := by decide +kernel
theorem dX12_findWay_85 : decode cX12_findWay 85 = .ok (.iconst 0, 1) := by decide +kernel
theorem dX12_findWay_86 : decode cX12_findWay 86 = .ok (.ireturn, 1) := by decide +kernel
theorem dX12_goesOn_0 : decode cX12_goesOn 0 = .ok (.iload 5, 2) := by decide +kernel
theorem dX12_goesOn_2 : decode cX12_goesOn 2 = .ok (.aload_n 0, 1) := by decide +kernel
theorem dX12_goesOn_3 : decode cX12_goesOn 3 = .ok (.getfield 301, 3) := by decide +kernel
theorem dX12_goesOn_6 : decode cX12_goesOn 6 = .ok (.if_icmp .gt 21, 3) := by decide +kernel
theorem dX12_goesOn_9 : decode cX12_goesOn 9 = .ok (.iload 5, 2) := by decide +kernel
theorem dX12_goesOn_11 : decode cX12_goesOn 11 = .ok (.aload_n 0, 1) := by decide +kernel
theorem dX12_goesOn_12 : decode cX12_goesOn 12 = .ok (.getfield 301, 3) := by decide +kernel
theorem dX12_goesOn_15 : decode cX12_goesOn 15 = .ok (.if_icmp .ne 13, 3) := by decide +kernel
theorem dX12_goesOn_18 : decode cX12_goesOn 18 = .ok (.iload 4, 2) := by decide +kernel
theorem dX12_goesOn_20 : decode cX12_goesOn 20 = .ok (.aload_n 0, 1) := by decide +kernel
theorem dX12_goesOn_21 : decode cX12_goesOn 21 = .ok (.getfield 304, 3) := by decide +kernel
theorem dX12_goesOn_24 : decode cX12_goesOn 24 = .ok (.if_icmp .lt 4, 3) := by decide +kernel
theorem dX12_goesOn_27 : decode cX12_goesOn 27 = .ok (.return_, 1) := by decide +kernel
theorem dX12_goesOn_28 : decode cX12_goesOn 28 = .ok (.iload_n 1, 1) := by decide +kernel
theorem dX12_goesOn_29 : decode cX12_goesOn 29 = .ok (.iload_n 2, 1) := by decide +kernel
theorem dX12_goesOn_30 : decode cX12_goesOn 30 = .ok (.if_icmp .ne 46, 3) := by decide +kernel
theorem dX12_goesOn_33 : decode cX12_goesOn 33 = .ok (.aload_n 0, 1) := by decide +kernel
theorem dX12_goesOn_34 : decode cX12_goesOn 34 = .ok (.iload 5, 2) := by decide +kernel
theorem dX12_goesOn_36 : decode cX12_goesOn 36 = .ok (.putfield 301, 3) := by decide +kernel
theorem dX12_goesOn_39 : decode cX12_goesOn 39 = .ok (.aload_n 0, 1) := by decide +kernel
theorem dX12_goesOn_40 : decode cX12_goesOn 40 = .ok (.iload 4, 2) := by decide +kernel
theorem dX12_goesOn_42 : decode cX12_goesOn 42 = .ok (.putfield 304, 3) := by decide +kernel
theorem dX12_goesOn_45 : decode cX12_goesOn 45 = .ok (.iconst 0, 1) := by decide +kernel
theorem dX12_goesOn_46 : decode cX12_goesOn 46 = .ok (.istore 6, 2) := by decide +kernel
theorem dX12_goesOn_48 : decode cX12_goesOn 48 = .ok (.iload 6, 2) := by decide +kernel
theorem dX12_goesOn_50 : decode cX12_goesOn 50 = .ok (.iload 4, 2) := by decide +kernel
theorem dX12_goesOn_52 : decode cX12_goesOn 52 = .ok (.if_icmp .ge 23, 3) := by decide +kernel
theorem dX12_goesOn_55 : decode cX12_goesOn 55 = .ok (.aload_n 0, 1) := by decide +kernel
theorem dX12_goesOn_56 : decode cX12_goesOn 56 = .ok (.getfield 118, 3) := by decide +kernel
theorem dX12_goesOn_59 : decode cX12_goesOn 59 = .ok (.iload 6, 2) := by decide +kernel
theorem dX12_goesOn_61 : decode cX12_goesOn 61 = .ok (.aload_n 0, 1) := by decide +kernel
theorem dX12_goesOn_62 : decode cX12_goesOn 62 = .ok (.getfield 115, 3) := by decide +kernel
theorem dX12_goesOn_65 : decode cX12_goesOn 65 = .ok (.iload 6, 2) := by decide +kernel
theorem dX12_goesOn_67 : decode cX12_goesOn 67 = .ok (.iaload, 1) := by decide +kernel
theorem dX12_goesOn_68 : decode cX12_goesOn 68 = .ok (.iastore, 1) := by decide +kernel
theorem dX12_goesOn_69 : decode cX12_goesOn 69 = .ok (.iinc 6 1, 3) := by decide +kernel
theorem dX12_goesOn_72 : decode cX12_goesOn 72 = .ok (.goto (-24), 3) := by decide +kernel
theorem dX12_goesOn_75 : decode cX12_goesOn 75 = .ok (.return_, 1) := by decide +kernel
theorem dX12_goesOn_76 : decode cX12_goesOn 76 = .ok (.iconst 0, 1) := by decide +kernel
theorem dX12_goesOn_77 : decode cX12_goesOn 77 = .ok (.istore 6, 2) := by decide +kernel
theorem dX12_goesOn_79 : decode cX12_goesOn 79 = .ok (.iload 6, 2) := by decide +kernel
theorem dX12_goesOn_81 : decode cX12_goesOn 81 = .ok (.aload_n 0, 1) := by decide +kernel
theorem dX12_goesOn_82 : decode cX12_goesOn 82 = .ok (.invokevirtual 194, 3) := by decide +kernel
theorem dX12_goesOn_85 : decode cX12_goesOn 85 = .ok (.if_icmp .ge 113, 3) := by decide +kernel
theorem dX12_goesOn_88 : decode cX12_goesOn 88 = .ok (.aload_n 0, 1) := by decide +kernel
theorem dX12_goesOn_89 : decode cX12_goesOn 89 = .ok (.iload 6, 2) := by decide +kernel
theorem dX12_goesOn_91 : decode cX12_goesOn 91 = .ok (.iconst 0, 1) := by decide +kernel
theorem dX12_goesOn_92 : decode cX12_goesOn 92 = .ok (.invokevirtual 279, 3) := by decide +kernel
theorem dX12_goesOn_95 : decode cX12_goesOn 95 = .ok (.iload_n 1, 1) := by decide +kernel
theorem dX12_goesOn_96 : decode cX12_goesOn 96 = .ok (.if_icmp .ne 13, 3) := by decide +kernel
theorem dX12_goesOn_99 : decode cX12_goesOn 99 = .ok (.aload_n 0, 1) := by decide +kernel
theorem dX12_goesOn_100 : decode cX12_goesOn 100 = .ok (.iload 6, 2) := by decide +kernel
theorem dX12_goesOn_102 : decode cX12_goesOn 102 = .ok (.iconst 1, 1) := by decide +kernel
theorem dX12_goesOn_103 : decode cX12_goesOn 103 = .ok (.invokevirtual 279, 3) := by decide +kernel
theorem dX12_goesOn_106 : decode cX12_goesOn 106 = .ok (.goto 25, 3) := by decide +kernel
theorem dX12_goesOn_109 : decode cX12_goesOn 109 = .ok (.aload_n 0, 1) := by decide +kernel
theorem dX12_goesOn_110 : decode cX12_goesOn 110 = .ok (.iload 6, 2) := by decide +kernel
theorem dX12_goesOn_112 : decode cX12_goesOn 112 = .ok (.iconst 1, 1) := by decide +kernel
theorem dX12_goesOn_113 : decode cX12_goesOn 113 = .ok (.invokevirtual 279, 3) := by decide +kernel
theorem dX12_goesOn_116 : decode cX12_goesOn 116 = .ok (.iload_n 1, 1) := by decide +kernel
theorem dX12_goesOn_117 : decode cX12_goesOn 117 = .ok (.if_icmp .ne 13, 3) := by decide +kernel
theorem dX12_goesOn_120 : decode cX12_goesOn 120 = .ok (.aload_n 0, 1) := by decide +kernel
theorem dX12_goesOn_121 : decode cX12_goesOn 121 = .ok (.iload 6, 2) := by decide +kernel
theorem dX12_goesOn_123 : decode cX12_goesOn 123 = .ok (.iconst 0, 1) := by decide +kernel
theorem dX12_goesOn_124 : decode cX12_goesOn 124 = .ok (.invokevirtual 279, 3) := by decide +kernel
theorem dX12_goesOn_127 : decode cX12_goesOn 127 = .ok (.goto 4, 3) := by decide +kernel
theorem dX12_goesOn_130 : decode cX12_goesOn 130 = .ok (.iconst (-1), 1) := by decide +kernel
theorem dX12_goesOn_131 : decode cX12_goesOn 131 = .ok (.istore 7, 2) := by decide +kernel
theorem dX12_goesOn_133 : decode cX12_goesOn 133 = .ok (.iload 7, 2) := by decide +kernel
theorem dX12_goesOn_135 : decode cX12_goesOn 135 = .ok (.ifCond .lt 57, 3) := by decide +kernel
theorem dX12_goesOn_138 : decode cX12_goesOn 138 = .ok (.aload_n 0, 1) := by decide +kernel
theorem dX12_goesOn_139 : decode cX12_goesOn 139 = .ok (.iload 6, 2) := by decide +kernel
theorem dX12_goesOn_141 : decode cX12_goesOn 141 = .ok (.invokevirtual 311, 3) := by decide +kernel
theorem dX12_goesOn_144 : decode cX12_goesOn 144 = .ok (.ifCond .ne 48, 3) := by decide +kernel
theorem dX12_goesOn_147 : decode cX12_goesOn 147 = .ok (.iload_n 3, 1) := by decide +kernel
theorem dX12_goesOn_148 : decode cX12_goesOn 148 = .ok (.iload 7, 2) := by decide +kernel
theorem dX12_goesOn_150 : decode cX12_goesOn 150 = .ok (.ishr, 1) := by decide +kernel
theorem dX12_goesOn_151 : decode cX12_goesOn 151 = .ok (.iconst 1, 1) := by decide +kernel
theorem dX12_goesOn_152 : decode cX12_goesOn 152 = .ok (.iand, 1) := by decide +kernel
theorem dX12_goesOn_153 : decode cX12_goesOn 153 = .ok (.ifCond .ne 39, 3) := by decide +kernel
theorem dX12_goesOn_156 : decode cX12_goesOn 156 = .ok (.aload_n 0, 1) := by decide +kernel
theorem dX12_goesOn_157 : decode cX12_goesOn 157 = .ok (.getfield 115, 3) := by decide +kernel
theorem dX12_goesOn_160 : decode cX12_goesOn 160 = .ok (.iload 4, 2) := by decide +kernel
theorem dX12_goesOn_162 : decode cX12_goesOn 162 = .ok (.iload 6, 2) := by decide +kernel
theorem dX12_goesOn_164 : decode cX12_goesOn 164 = .ok (.iastore, 1) := by decide +kernel
theorem dX12_goesOn_165 : decode cX12_goesOn 165 = .ok (.aload_n 0, 1) := by decide +kernel
theorem dX12_goesOn_166 : decode cX12_goesOn 166 = .ok (.iload 7, 2) := by decide +kernel
theorem dX12_goesOn_168 : decode cX12_goesOn 168 = .ok (.iload_n 2, 1) := by decide +kernel
theorem dX12_goesOn_169 : decode cX12_goesOn 169 = .ok (.iload_n 3, 1) := by decide +kernel
theorem dX12_goesOn_170 : decode cX12_goesOn 170 = .ok (.iconst 1, 1) := by decide +kernel
theorem dX12_goesOn_171 : decode cX12_goesOn 171 = .ok (.iload 7, 2) := by decide +kernel
theorem dX12_goesOn_173 : decode cX12_goesOn 173 = .ok (.ishl, 1) := by decide +kernel
theorem dX12_goesOn_174 : decode cX12_goesOn 174 = .ok (.ior, 1) := by decide +kernel
theorem dX12_goesOn_175 : decode cX12_goesOn 175 = .ok (.iload 4, 2) := by decide +kernel
theorem dX12_goesOn_177 : decode cX12_goesOn 177 = .ok (.iconst 1, 1) := by decide +kernel
theorem dX12_goesOn_178 : decode cX12_goesOn 178 = .ok (.iadd, 1) := by decide +kernel
theorem dX12_goesOn_179 : decode cX12_goesOn 179 = .ok (.iload 5, 2) := by decide +kernel
theorem dX12_goesOn_181 : decode cX12_goesOn 181 = .ok (.aload_n 0, 1) := by decide +kernel
theorem dX12_goesOn_182 : decode cX12_goesOn 182 = .ok (.getfield 112, 3) := by decide +kernel
theorem dX12_goesOn_185 : decode cX12_goesOn 185 = .ok (.iload 6, 2) := by decide +kernel
theorem dX12_goesOn_187 : decode cX12_goesOn 187 = .ok (.iaload, 1) := by decide +kernel
theorem dX12_goesOn_188 : decode cX12_goesOn 188 = .ok (.iadd, 1) := by decide +kernel
theorem dX12_goesOn_189 : decode cX12_goesOn 189 = .ok (.invokevirtual 307, 3) := by decide +kernel
theorem dX12_goesOn_192 : decode cX12_goesOn 192 = .ok (.iinc 6 1, 3) := by decide +kernel
theorem dX12_goesOn_195 : decode cX12_goesOn 195 = .ok (.goto (-116), 3) := by decide +kernel
theorem dX12_goesOn_198 : decode cX12_goesOn 198 = .ok (.return_, 1) := by decide +kernel
theorem dX12_passes_0 : decode cX12_passes 0 = .ok (.iconst 0, 1) := by decide +kernel
theorem dX12_passes_1 : decode cX12_passes 1 = .ok (.istore_n 1, 1) := by decide +kernel
theorem dX12_passes_2 : decode cX12_passes 2 = .ok (.iload_n 1, 1) := by decide +kernel
theorem dX12_passes_3 : decode cX12_passes 3 = .ok (.bipush 50, 2) := by decide +kernel
theorem dX12_passes_5 : decode cX12_passes 5 = .ok (.if_icmp .ge 24, 3) := by decide +kernel
theorem dX12_passes_8 : decode cX12_passes 8 = .ok (.aload_n 0, 1) := by decide +kernel
theorem dX12_passes_9 : decode cX12_passes 9 = .ok (.getfield 121, 3) := by decide +kernel
theorem dX12_passes_12 : decode cX12_passes 12 = .ok (.iload_n 1, 1) := by decide +kernel
theorem dX12_passes_13 : decode cX12_passes 13 = .ok (.aload_n 0, 1) := by decide +kernel
theorem dX12_passes_14 : decode cX12_passes 14 = .ok (.getfield 99, 3) := by decide +kernel
theorem dX12_passes_17 : decode cX12_passes 17 = .ok (.bipush 61, 2) := by decide +kernel
theorem dX12_passes_19 : decode cX12_passes 19 = .ok (.iload_n 1, 1) := by decide +kernel
theorem dX12_passes_20 : decode cX12_passes 20 = .ok (.iadd, 1) := by decide +kernel
theorem dX12_passes_21 : decode cX12_passes 21 = .ok (.iaload, 1) := by decide +kernel
theorem dX12_passes_22 : decode cX12_passes 22 = .ok (.iastore, 1) := by decide +kernel
theorem dX12_passes_23 : decode cX12_passes 23 = .ok (.iinc 1 1, 3) := by decide +kernel
theorem dX12_passes_26 : decode cX12_passes 26 = .ok (.goto (-24), 3) := by decide +kernel
theorem dX12_passes_29 : decode cX12_passes 29 = .ok (.iconst 0, 1) := by decide +kernel
theorem dX12_passes_30 : decode cX12_passes 30 = .ok (.istore_n 1, 1) := by decide +kernel
theorem dX12_passes_31 : decode cX12_passes 31 = .ok (.iload_n 1, 1) := by decide +kernel
theorem dX12_passes_32 : decode cX12_passes 32 = .ok (.bipush 10, 2) := by decide +kernel
theorem dX12_passes_34 : decode cX12_passes 34 = .ok (.if_icmp .ge 16, 3) := by decide +kernel
theorem dX12_passes_37 : decode cX12_passes 37 = .ok (.aload_n 0, 1) := by decide +kernel
theorem dX12_passes_38 : decode cX12_passes 38 = .ok (.getfield 124, 3) := by decide +kernel
theorem dX12_passes_41 : decode cX12_passes 41 = .ok (.iload_n 1, 1) := by decide +kernel
theorem dX12_passes_42 : decode cX12_passes 42 = .ok (.iconst 0, 1) := by decide +kernel
theorem dX12_passes_43 : decode cX12_passes 43 = .ok (.iastore, 1) := by decide +kernel
theorem dX12_passes_44 : decode cX12_passes 44 = .ok (.iinc 1 1, 3) := by decide +kernel
theorem dX12_passes_47 : decode cX12_passes 47 = .ok (.goto (-16), 3) := by decide +kernel
theorem dX12_passes_50 : decode cX12_passes 50 = .ok (.iconst 0, 1) := by decide +kernel
theorem dX12_passes_51 : decode cX12_passes 51 = .ok (.istore_n 1, 1) := by decide +kernel
theorem dX12_passes_52 : decode cX12_passes 52 = .ok (.iload_n 1, 1) := by decide +kernel
theorem dX12_passes_53 : decode cX12_passes 53 = .ok (.aload_n 0, 1) := by decide +kernel
theorem dX12_passes_54 : decode cX12_passes 54 = .ok (.invokevirtual 276, 3) := by decide +kernel
theorem dX12_passes_57 : decode cX12_passes 57 = .ok (.if_icmp .ge 14, 3) := by decide +kernel
theorem dX12_passes_60 : decode cX12_passes 60 = .ok (.aload_n 0, 1) := by decide +kernel
theorem dX12_passes_61 : decode cX12_passes 61 = .ok (.iload_n 1, 1) := by decide +kernel
theorem dX12_passes_62 : decode cX12_passes 62 = .ok (.invokevirtual 314, 3) := by decide +kernel
theorem dX12_passes_65 : decode cX12_passes 65 = .ok (.iinc 1 1, 3) := by decide +kernel
theorem dX12_passes_68 : decode cX12_passes 68 = .ok (.goto (-16), 3) := by decide +kernel
theorem dX12_passes_71 : decode cX12_passes 71 = .ok (.iconst 0, 1) := by decide +kernel
theorem dX12_passes_72 : decode cX12_passes 72 = .ok (.istore_n 1, 1) := by decide +kernel
theorem dX12_passes_73 : decode cX12_passes 73 = .ok (.iload_n 1, 1) := by decide +kernel
theorem dX12_passes_74 : decode cX12_passes 74 = .ok (.aload_n 0, 1) := by decide +kernel
theorem dX12_passes_75 : decode cX12_passes 75 = .ok (.invokevirtual 194, 3) := by decide +kernel
theorem dX12_passes_78 : decode cX12_passes 78 = .ok (.if_icmp .ge 20, 3) := by decide +kernel
theorem dX12_passes_81 : decode cX12_passes 81 = .ok (.aload_n 0, 1) := by decide +kernel
theorem dX12_passes_82 : decode cX12_passes 82 = .ok (.getfield 127, 3) := by decide +kernel
theorem dX12_passes_85 : decode cX12_passes 85 = .ok (.iload_n 1, 1) := by decide +kernel
theorem dX12_passes_86 : decode cX12_passes 86 = .ok (.aload_n 0, 1) := by decide +kernel
theorem dX12_passes_87 : decode cX12_passes 87 = .ok (.iload_n 1, 1) := by decide +kernel
theorem dX12_passes_88 : decode cX12_passes 88 = .ok (.invokevirtual 317, 3) := by decide +kernel
theorem dX12_passes_91 : decode cX12_passes 91 = .ok (.iastore, 1) := by decide +kernel
theorem dX12_passes_92 : decode cX12_passes 92 = .ok (.iinc 1 1, 3) := by decide +kernel
theorem dX12_passes_95 : decode cX12_passes 95 = .ok (.goto (-22), 3) := by decide +kernel
theorem dX12_passes_98 : decode cX12_passes 98 = .ok (.iconst 0, 1) := by decide +kernel
theorem dX12_passes_99 : decode cX12_passes 99 = .ok (.istore_n 1, 1) := by decide +kernel
theorem dX12_passes_100 : decode cX12_passes 100 = .ok (.iload_n 1, 1) := by decide +kernel
theorem dX12_passes_101 : decode cX12_passes 101 = .ok (.aload_n 0, 1) := by decide +kernel
theorem dX12_passes_102 : decode cX12_passes 102 = .ok (.invokevirtual 194, 3) := by decide +kernel
theorem dX12_passes_105 : decode cX12_passes 105 = .ok (.if_icmp .ge 93, 3) := by decide +kernel
theorem dX12_passes_108 : decode cX12_passes 108 = .ok (.aload_n 0, 1) := by decide +kernel
theorem dX12_passes_109 : decode cX12_passes 109 = .ok (.getfield 99, 3) := by decide +kernel
theorem dX12_passes_112 : decode cX12_passes 112 = .ok (.iconst 1, 1) := by decide +kernel
theorem dX12_passes_113 : decode cX12_passes 113 = .ok (.iload_n 1, 1) := by decide +kernel
theorem dX12_passes_114 : decode cX12_passes 114 = .ok (.iadd, 1) := by decide +kernel
theorem dX12_passes_115 : decode cX12_passes 115 = .ok (.aload_n 0, 1) := by decide +kernel
theorem dX12_passes_116 : decode cX12_passes 116 = .ok (.getfield 127, 3) := by decide +kernel
theorem dX12_passes_119 : decode cX12_passes 119 = .ok (.iload_n 1, 1) := by decide +kernel
theorem dX12_passes_120 : decode cX12_passes 120 = .ok (.iaload, 1) := by decide +kernel
theorem dX12_passes_121 : decode cX12_passes 121 = .ok (.iastore, 1) := by decide +kernel
theorem dX12_passes_122 : decode cX12_passes 122 = .ok (.iconst 0, 1) := by decide +kernel
theorem dX12_passes_123 : decode cX12_passes 123 = .ok (.istore_n 2, 1) := by decide +kernel
theorem dX12_passes_124 : decode cX12_passes 124 = .ok (.iload_n 2, 1) := by decide +kernel
theorem dX12_passes_125 : decode cX12_passes 125 = .ok (.aload_n 0, 1) := by decide +kernel
theorem dX12_passes_126 : decode cX12_passes 126 = .ok (.invokevirtual 273, 3) := by decide +kernel
theorem dX12_passes_129 : decode cX12_passes 129 = .ok (.if_icmp .ge 63, 3) := by decide +kernel
theorem dX12_passes_132 : decode cX12_passes 132 = .ok (.iconst 5, 1) := by decide +kernel
theorem dX12_passes_133 : decode cX12_passes 133 = .ok (.iload_n 1, 1) := by decide +kernel
theorem dX12_passes_134 : decode cX12_passes 134 = .ok (.imul, 1) := by decide +kernel
theorem dX12_passes_135 : decode cX12_passes 135 = .ok (.iload_n 2, 1) := by decide +kernel
theorem dX12_passes_136 : decode cX12_passes 136 = .ok (.iadd, 1) := by decide +kernel
theorem dX12_passes_137 : decode cX12_passes 137 = .ok (.istore_n 3, 1) := by decide +kernel
theorem dX12_passes_138 : decode cX12_passes 138 = .ok (.aload_n 0, 1) := by decide +kernel
theorem dX12_passes_139 : decode cX12_passes 139 = .ok (.getfield 99, 3) := by decide +kernel
theorem dX12_passes_142 : decode cX12_passes 142 = .ok (.bipush 123, 2) := by decide +kernel
theorem dX12_passes_144 : decode cX12_passes 144 = .ok (.iload_n 2, 1) := by decide +kernel
theorem dX12_passes_145 : decode cX12_passes 145 = .ok (.iadd, 1) := by decide +kernel
theorem dX12_passes_146 : decode cX12_passes 146 = .ok (.dup2, 1) := by decide +kernel
theorem dX12_passes_147 : decode cX12_passes 147 = .ok (.iaload, 1) := by decide +kernel
theorem dX12_passes_148 : decode cX12_passes 148 = .ok (.aload_n 0, 1) := by decide +kernel
theorem dX12_passes_149 : decode cX12_passes 149 = .ok (.getfield 121, 3) := by decide +kernel
theorem dX12_passes_152 : decode cX12_passes 152 = .ok (.iload_n 3, 1) := by decide +kernel
theorem dX12_passes_153 : decode cX12_passes 153 = .ok (.iaload, 1) := by decide +kernel
theorem dX12_passes_154 : decode cX12_passes 154 = .ok (.iadd, 1) := by decide +kernel
theorem dX12_passes_155 : decode cX12_passes 155 = .ok (.iastore, 1) := by decide +kernel
theorem dX12_passes_156 : decode cX12_passes 156 = .ok (.aload_n 0, 1) := by decide +kernel
theorem dX12_passes_157 : decode cX12_passes 157 = .ok (.getfield 99, 3) := by decide +kernel
theorem dX12_passes_160 : decode cX12_passes 160 = .ok (.bipush 11, 2) := by decide +kernel
theorem dX12_passes_162 : decode cX12_passes 162 = .ok (.iload_n 3, 1) := by decide +kernel
theorem dX12_passes_163 : decode cX12_passes 163 = .ok (.iadd, 1) := by decide +kernel
theorem dX12_passes_164 : decode cX12_passes 164 = .ok (.dup2, 1) := by decide +kernel
theorem dX12_passes_165 : decode cX12_passes 165 = .ok (.iaload, 1) := by decide +kernel
theorem dX12_passes_166 : decode cX12_passes 166 = .ok (.iload_n 1, 1) := by decide +kernel
theorem dX12_passes_167 : decode cX12_passes 167 = .ok (.aload_n 0, 1) := by decide +kernel
theorem dX12_passes_168 : decode cX12_passes 168 = .ok (.getfield 109, 3) := by decide +kernel
theorem dX12_passes_171 : decode cX12_passes 171 = .ok (.if_icmp .ne 7, 3) := by decide +kernel
theorem dX12_passes_174 : decode cX12_passes 174 = .ok (.iconst 0, 1) := by decide +kernel
theorem dX12_passes_175 : decode cX12_passes 175 = .ok (.goto 9, 3) := by decide +kernel
theorem dX12_passes_178 : decode cX12_passes 178 = .ok (.aload_n 0, 1) := by decide +kernel
theorem dX12_passes_179 : decode cX12_passes 179 = .ok (.getfield 121, 3) := by decide +kernel
theorem dX12_passes_182 : decode cX12_passes 182 = .ok (.iload_n 3, 1) := by decide +kernel
theorem dX12_passes_183 : decode cX12_passes 183 = .ok (.iaload, 1) := by decide +kernel
theorem dX12_passes_184 : decode cX12_passes 184 = .ok (.iadd, 1) := by decide +kernel
theorem dX12_passes_185 : decode cX12_passes 185 = .ok (.iastore, 1) := by decide +kernel
theorem dX12_passes_186 : decode cX12_passes 186 = .ok (.iinc 2 1, 3) := by decide +kernel
theorem dX12_passes_189 : decode cX12_passes 189 = .ok (.goto (-65), 3) := by decide +kernel
theorem dX12_passes_192 : decode cX12_passes 192 = .ok (.iinc 1 1, 3) := by decide +kernel
theorem dX12_passes_195 : decode cX12_passes 195 = .ok (.goto (-95), 3) := by decide +kernel
theorem dX12_passes_198 : decode cX12_passes 198 = .ok (.iconst 0, 1) := by decide +kernel
theorem dX12_passes_199 : decode cX12_passes 199 = .ok (.istore_n 1, 1) := by decide +kernel
theorem dX12_passes_200 : decode cX12_passes 200 = .ok (.iload_n 1, 1) := by decide +kernel
theorem dX12_passes_201 : decode cX12_passes 201 = .ok (.bipush 50, 2) := by decide +kernel
theorem dX12_passes_203 : decode cX12_passes 203 = .ok (.if_icmp .ge 53, 3) := by decide +kernel
theorem dX12_passes_206 : decode cX12_passes 206 = .ok (.aload_n 0, 1) := by decide +kernel
theorem dX12_passes_207 : decode cX12_passes 207 = .ok (.getfield 266, 3) := by decide +kernel
theorem dX12_passes_210 : decode cX12_passes 210 = .ok (.ifCond .ne 46, 3) := by decide +kernel
theorem dX12_passes_213 : decode cX12_passes 213 = .ok (.aload_n 0, 1) := by decide +kernel
theorem dX12_passes_214 : decode cX12_passes 214 = .ok (.getfield 99, 3) := by decide +kernel
theorem dX12_passes_217 : decode cX12_passes 217 = .ok (.iconst 0, 1) := by decide +kernel
theorem dX12_passes_218 : decode cX12_passes 218 = .ok (.iaload, 1) := by decide +kernel
theorem dX12_passes_219 : decode cX12_passes 219 = .ok (.bipush 40, 2) := by decide +kernel
theorem dX12_passes_221 : decode cX12_passes 221 = .ok (.if_icmp .ge 35, 3) := by decide +kernel
theorem dX12_passes_224 : decode cX12_passes 224 = .ok (.aload_n 0, 1) := by decide +kernel
theorem dX12_passes_225 : decode cX12_passes 225 = .ok (.getfield 99, 3) := by decide +kernel
theorem dX12_passes_228 : decode cX12_passes 228 = .ok (.sipush 133, 3) := by decide +kernel
theorem dX12_passes_231 : decode cX12_passes 231 = .ok (.bipush 50, 2) := by decide +kernel
theorem dX12_passes_233 : decode cX12_passes 233 = .ok (.aload_n 0, 1) := by decide +kernel
theorem dX12_passes_234 : decode cX12_passes 234 = .ok (.getfield 99, 3) := by decide +kernel
theorem dX12_passes_237 : decode cX12_passes 237 = .ok (.iconst 0, 1) := by decide +kernel
theorem dX12_passes_238 : decode cX12_passes 238 = .ok (.iaload, 1) := by decide +kernel
theorem dX12_passes_239 : decode cX12_passes 239 = .ok (.imul, 1) := by decide +kernel
theorem dX12_passes_240 : decode cX12_passes 240 = .ok (.iadd, 1) := by decide +kernel
theorem dX12_passes_241 : decode cX12_passes 241 = .ok (.iload_n 1, 1) := by decide +kernel
theorem dX12_passes_242 : decode cX12_passes 242 = .ok (.iadd, 1) := by decide +kernel
theorem dX12_passes_243 : decode cX12_passes 243 = .ok (.aload_n 0, 1) := by decide +kernel
theorem dX12_passes_244 : decode cX12_passes 244 = .ok (.getfield 121, 3) := by decide +kernel
theorem dX12_passes_247 : decode cX12_passes 247 = .ok (.iload_n 1, 1) := by decide +kernel
theorem dX12_passes_248 : decode cX12_passes 248 = .ok (.iaload, 1) := by decide +kernel
theorem dX12_passes_249 : decode cX12_passes 249 = .ok (.iastore, 1) := by decide +kernel
theorem dX12_passes_250 : decode cX12_passes 250 = .ok (.iinc 1 1, 3) := by decide +kernel
theorem dX12_passes_253 : decode cX12_passes 253 = .ok (.goto (-53), 3) := by decide +kernel
theorem dX12_passes_256 : decode cX12_passes 256 = .ok (.aload_n 0, 1) := by decide +kernel
theorem dX12_passes_257 : decode cX12_passes 257 = .ok (.getfield 99, 3) := by decide +kernel
theorem dX12_passes_260 : decode cX12_passes 260 = .ok (.iconst 0, 1) := by decide +kernel
theorem dX12_passes_261 : decode cX12_passes 261 = .ok (.dup2, 1) := by decide +kernel
theorem dX12_passes_262 : decode cX12_passes 262 = .ok (.iaload, 1) := by decide +kernel
theorem dX12_passes_263 : decode cX12_passes 263 = .ok (.iconst 1, 1) := by decide +kernel
theorem dX12_passes_264 : decode cX12_passes 264 = .ok (.iadd, 1) := by decide +kernel
theorem dX12_passes_265 : decode cX12_passes 265 = .ok (.iastore, 1) := by decide +kernel
theorem dX12_passes_266 : decode cX12_passes 266 = .ok (.return_, 1) := by decide +kernel
theorem dX12_goesTrade_0 : decode cX12_goesTrade 0 = .ok (.aload_n 0, 1) := by decide +kernel
theorem dX12_goesTrade_1 : decode cX12_goesTrade 1 = .ok (.iload_n 1, 1) := by decide +kernel
theorem dX12_goesTrade_2 : decode cX12_goesTrade 2 = .ok (.invokevirtual 320, 3) := by decide +kernel
theorem dX12_goesTrade_5 : decode cX12_goesTrade 5 = .ok (.istore_n 2, 1) := by decide +kernel
theorem dX12_goesTrade_6 : decode cX12_goesTrade 6 = .ok (.iload_n 2, 1) := by decide +kernel
theorem dX12_goesTrade_7 : decode cX12_goesTrade 7 = .ok (.ifCond .eq 12, 3) := by decide +kernel
theorem dX12_goesTrade_10 : decode cX12_goesTrade 10 = .ok (.aload_n 0, 1) := by decide +kernel
theorem dX12_goesTrade_11 : decode cX12_goesTrade 11 = .ok (.iload_n 1, 1) := by decide +kernel
theorem dX12_goesTrade_12 : decode cX12_goesTrade 12 = .ok (.iconst 3, 1) := by decide +kernel
theorem dX12_goesTrade_13 : decode cX12_goesTrade 13 = .ok (.invokevirtual 294, 3) := by decide +kernel
theorem dX12_goesTrade_16 : decode cX12_goesTrade 16 = .ok (.goto 4, 3) := by decide +kernel
theorem dX12_goesTrade_19 : decode cX12_goesTrade 19 = .ok (.iconst (-1), 1) := by decide +kernel
theorem dX12_goesTrade_20 : decode cX12_goesTrade 20 = .ok (.istore_n 3, 1) := by decide +kernel
theorem dX12_goesTrade_21 : decode cX12_goesTrade 21 = .ok (.iconst 0, 1) := by decide +kernel
theorem dX12_goesTrade_22 : decode cX12_goesTrade 22 = .ok (.istore 4, 2) := by decide +kernel
theorem dX12_goesTrade_24 : decode cX12_goesTrade 24 = .ok (.iload 4, 2) := by decide +kernel
theorem dX12_goesTrade_26 : decode cX12_goesTrade 26 = .ok (.aload_n 0, 1) := by decide +kernel
theorem dX12_goesTrade_27 : decode cX12_goesTrade 27 = .ok (.getfield 304, 3) := by decide +kernel
theorem dX12_goesTrade_30 : decode cX12_goesTrade 30 = .ok (.if_icmp .ge 78, 3) := by decide +kernel
theorem dX12_goesTrade_33 : decode cX12_goesTrade 33 = .ok (.iload_n 2, 1) := by decide +kernel
theorem dX12_goesTrade_34 : decode cX12_goesTrade 34 = .ok (.ifCond .eq 74, 3) := by decide +kernel
theorem dX12_goesTrade_37 : decode cX12_goesTrade 37 = .ok (.aload_n 0, 1) := by decide +kernel
theorem dX12_goesTrade_38 : decode cX12_goesTrade 38 = .ok (.getfield 118, 3) := by decide +kernel
theorem dX12_goesTrade_41 : decode cX12_goesTrade 41 = .ok (.iload 4, 2) := by decide +kernel
theorem dX12_goesTrade_43 : decode cX12_goesTrade 43 = .ok (.iaload, 1) := by decide +kernel
theorem dX12_goesTrade_44 : decode cX12_goesTrade 44 = .ok (.istore 5, 2) := by decide +kernel
theorem dX12_goesTrade_46 : decode cX12_goesTrade 46 = .ok (.iload_n 3, 1) := by decide +kernel
theorem dX12_goesTrade_47 : decode cX12_goesTrade 47 = .ok (.aload_n 0, 1) := by decide +kernel
theorem dX12_goesTrade_48 : decode cX12_goesTrade 48 = .ok (.iload 5, 2) := by decide +kernel
theorem dX12_goesTrade_50 : decode cX12_goesTrade 50 = .ok (.aload_n 0, 1) := by decide +kernel
theorem dX12_goesTrade_51 : decode cX12_goesTrade 51 = .ok (.iload_n 1, 1) := by decide +kernel
theorem dX12_goesTrade_52 : decode cX12_goesTrade 52 = .ok (.iconst 2, 1) := by decide +kernel
theorem dX12_goesTrade_53 : decode cX12_goesTrade 53 = .ok (.invokevirtual 294, 3) := by decide +kernel
theorem dX12_goesTrade_56 : decode cX12_goesTrade 56 = .ok (.invokevirtual 323, 3) := by decide +kernel
theorem dX12_goesTrade_59 : decode cX12_goesTrade 59 = .ok (.imul, 1) := by decide +kernel
theorem dX12_goesTrade_60 : decode cX12_goesTrade 60 = .ok (.bipush 100, 2) := by decide +kernel
theorem dX12_goesTrade_62 : decode cX12_goesTrade 62 = .ok (.idiv, 1) := by decide +kernel
theorem dX12_goesTrade_63 : decode cX12_goesTrade 63 = .ok (.istore 6, 2) := by decide +kernel
theorem dX12_goesTrade_65 : decode cX12_goesTrade 65 = .ok (.aload_n 0, 1) := by decide +kernel
theorem dX12_goesTrade_66 : decode cX12_goesTrade 66 = .ok (.getfield 124, 3) := by decide +kernel
theorem dX12_goesTrade_69 : decode cX12_goesTrade 69 = .ok (.iload 5, 2) := by decide +kernel
theorem dX12_goesTrade_71 : decode cX12_goesTrade 71 = .ok (.dup2, 1) := by decide +kernel
theorem dX12_goesTrade_72 : decode cX12_goesTrade 72 = .ok (.iaload, 1) := by decide +kernel
theorem dX12_goesTrade_73 : decode cX12_goesTrade 73 = .ok (.iload_n 3, 1) := by decide +kernel
theorem dX12_goesTrade_74 : decode cX12_goesTrade 74 = .ok (.iadd, 1) := by decide +kernel
theorem dX12_goesTrade_75 : decode cX12_goesTrade 75 = .ok (.iastore, 1) := by decide +kernel
theorem dX12_goesTrade_76 : decode cX12_goesTrade 76 = .ok (.aload_n 0, 1) := by decide +kernel
theorem dX12_goesTrade_77 : decode cX12_goesTrade 77 = .ok (.getfield 121, 3) := by decide +kernel
theorem dX12_goesTrade_80 : decode cX12_goesTrade 80 = .ok (.iconst 5, 1) := by decide +kernel
theorem dX12_goesTrade_81 : decode cX12_goesTrade 81 = .ok (.iload 5, 2) := by decide +kernel
theorem dX12_goesTrade_83 : decode cX12_goesTrade 83 = .ok (.imul, 1) := by decide +kernel
theorem dX12_goesTrade_84 : decode cX12_goesTrade 84 = .ok (.aload_n 0, 1) := by decide +kernel
theorem dX12_goesTrade_85 : decode cX12_goesTrade 85 = .ok (.iload_n 1, 1) := by decide +kernel
theorem dX12_goesTrade_86 : decode cX12_goesTrade 86 = .ok (.iconst 2, 1) := by decide +kernel
theorem dX12_goesTrade_87 : decode cX12_goesTrade 87 = .ok (.invokevirtual 294, 3) := by decide +kernel
theorem dX12_goesTrade_90 : decode cX12_goesTrade 90 = .ok (.iadd, 1) := by decide +kernel
theorem dX12_goesTrade_91 : decode cX12_goesTrade 91 = .ok (.dup2, 1) := by decide +kernel
theorem dX12_goesTrade_92 : decode cX12_goesTrade 92 = .ok (.iaload, 1) := by decide +kernel
theorem dX12_goesTrade_93 : decode cX12_goesTrade 93 = .ok (.iload 6, 2) := by decide +kernel
theorem dX12_goesTrade_95 : decode cX12_goesTrade 95 = .ok (.iadd, 1) := by decide +kernel
theorem dX12_goesTrade_96 : decode cX12_goesTrade 96 = .ok (.iastore, 1) := by decide +kernel
theorem dX12_goesTrade_97 : decode cX12_goesTrade 97 = .ok (.iload_n 3, 1) := by decide +kernel
theorem dX12_goesTrade_98 : decode cX12_goesTrade 98 = .ok (.iload 6, 2) := by decide +kernel
theorem dX12_goesTrade_100 : decode cX12_goesTrade 100 = .ok (.isub, 1) := by decide +kernel
theorem dX12_goesTrade_101 : decode cX12_goesTrade 101 = .ok (.istore_n 3, 1) := by decide +kernel
theorem dX12_goesTrade_102 : decode cX12_goesTrade 102 = .ok (.iinc 4 1, 3) := by decide +kernel
theorem dX12_goesTrade_105 : decode cX12_goesTrade 105 = .ok (.goto (-81), 3) := by decide +kernel
theorem dX12_goesTrade_108 : decode cX12_goesTrade 108 = .ok (.aload_n 0, 1) := by decide +kernel
theorem dX12_goesTrade_109 : decode cX12_goesTrade 109 = .ok (.getfield 99, 3) := by decide +kernel
theorem dX12_goesTrade_112 : decode cX12_goesTrade 112 = .ok (.bipush 111, 2) := by decide +kernel
theorem dX12_goesTrade_114 : decode cX12_goesTrade 114 = .ok (.iload_n 1, 1) := by decide +kernel
theorem dX12_goesTrade_115 : decode cX12_goesTrade 115 = .ok (.iadd, 1) := by decide +kernel
theorem dX12_goesTrade_116 : decode cX12_goesTrade 116 = .ok (.iload_n 3, 1) := by decide +kernel
theorem dX12_goesTrade_117 : decode cX12_goesTrade 117 = .ok (.iastore, 1) := by decide +kernel
theorem dX12_goesTrade_118 : decode cX12_goesTrade 118 = .ok (.aload_n 0, 1) := by decide +kernel
theorem dX12_goesTrade_119 : decode cX12_goesTrade 119 = .ok (.getfield 99, 3) := by decide +kernel
theorem dX12_goesTrade_122 : decode cX12_goesTrade 122 = .ok (.bipush 117, 2) := by decide +kernel
theorem dX12_goesTrade_124 : decode cX12_goesTrade 124 = .ok (.iload_n 1, 1) := by decide +kernel
theorem dX12_goesTrade_125 : decode cX12_goesTrade 125 = .ok (.iadd, 1) := by decide +kernel
theorem dX12_goesTrade_126 : decode cX12_goesTrade 126 = .ok (.dup2, 1) := by decide +kernel
theorem dX12_goesTrade_127 : decode cX12_goesTrade 127 = .ok (.iaload, 1) := by decide +kernel
theorem dX12_goesTrade_128 : decode cX12_goesTrade 128 = .ok (.iload_n 2, 1) := by decide +kernel
theorem dX12_goesTrade_129 : decode cX12_goesTrade 129 = .ok (.ifCond .eq 7, 3) := by decide +kernel
theorem dX12_goesTrade_132 : decode cX12_goesTrade 132 = .ok (.iload_n 3, 1) := by decide +kernel
theorem dX12_goesTrade_133 : decode cX12_goesTrade 133 = .ok (.goto 4, 3) := by decide +kernel
theorem dX12_goesTrade_136 : decode cX12_goesTrade 136 = .ok (.iconst 0, 1) := by decide +kernel
theorem dX12_goesTrade_137 : decode cX12_goesTrade 137 = .ok (.iadd, 1) := by decide +kernel
theorem dX12_goesTrade_138 : decode cX12_goesTrade 138 = .ok (.iastore, 1) := by decide +kernel
theorem dX12_goesTrade_139 : decode cX12_goesTrade 139 = .ok (.return_, 1) := by decide +kernel
theorem dX12_mended_0 : decode cX12_mended 0 = .ok (.aload_n 0, 1) := by decide +kernel
theorem dX12_mended_1 : decode cX12_mended 1 = .ok (.getfield 99, 3) := by decide +kernel
theorem dX12_mended_4 : decode cX12_mended 4 = .ok (.iconst 1, 1) := by decide +kernel
theorem dX12_mended_5 : decode cX12_mended 5 = .ok (.iload_n 1, 1) := by decide +kernel
theorem dX12_mended_6 : decode cX12_mended 6 = .ok (.iadd, 1) := by decide +kernel
theorem dX12_mended_7 : decode cX12_mended 7 = .ok (.iaload, 1) := by decide +kernel
theorem dX12_mended_8 : decode cX12_mended 8 = .ok (.aload_n 0, 1) := by decide +kernel
theorem dX12_mended_9 : decode cX12_mended 9 = .ok (.getfield 124, 3) := by decide +kernel
theorem dX12_mended_12 : decode cX12_mended 12 = .ok (.iload_n 1, 1) := by decide +kernel
theorem dX12_mended_13 : decode cX12_mended 13 = .ok (.iaload, 1) := by decide +kernel
theorem dX12_mended_14 : decode cX12_mended 14 = .ok (.bipush 10, 2) := by decide +kernel
theorem dX12_mended_16 : decode cX12_mended 16 = .ok (.idiv, 1) := by decide +kernel
theorem dX12_mended_17 : decode cX12_mended 17 = .ok (.iadd, 1) := by decide +kernel
theorem dX12_mended_18 : decode cX12_mended 18 = .ok (.istore_n 2, 1) := by decide +kernel
theorem dX12_mended_19 : decode cX12_mended 19 = .ok (.iload_n 2, 1) := by decide +kernel
theorem dX12_mended_20 : decode cX12_mended 20 = .ok (.ldc_w 326, 3) := by decide +kernel
theorem dX12_mended_23 : decode cX12_mended 23 = .ok (.if_icmp .le 9, 3) := by decide +kernel
theorem dX12_mended_26 : decode cX12_mended 26 = .ok (.ldc_w 326, 3) := by decide +kernel
theorem dX12_mended_29 : decode cX12_mended 29 = .ok (.goto 4, 3) := by decide +kernel
theorem dX12_mended_32 : decode cX12_mended 32 = .ok (.iload_n 2, 1) := by decide +kernel
theorem dX12_mended_33 : decode cX12_mended 33 = .ok (.istore_n 2, 1) := by decide +kernel
theorem dX12_mended_34 : decode cX12_mended 34 = .ok (.iconst 0, 1) := by decide +kernel
theorem dX12_mended_35 : decode cX12_mended 35 = .ok (.istore_n 3, 1) := by decide +kernel
theorem dX12_mended_36 : decode cX12_mended 36 = .ok (.iload_n 3, 1) := by decide +kernel
theorem dX12_mended_37 : decode cX12_mended 37 = .ok (.aload_n 0, 1) := by decide +kernel
theorem dX12_mended_38 : decode cX12_mended 38 = .ok (.invokevirtual 273, 3) := by decide +kernel
theorem dX12_mended_41 : decode cX12_mended 41 = .ok (.if_icmp .ge 58, 3) := by decide +kernel
theorem dX12_mended_44 : decode cX12_mended 44 = .ok (.iload_n 1, 1) := by decide +kernel
theorem dX12_mended_45 : decode cX12_mended 45 = .ok (.aload_n 0, 1) := by decide +kernel
theorem dX12_mended_46 : decode cX12_mended 46 = .ok (.getfield 109, 3) := by decide +kernel
theorem dX12_mended_49 : decode cX12_mended 49 = .ok (.if_icmp .eq 50, 3) := by decide +kernel
theorem dX12_mended_52 : decode cX12_mended 52 = .ok (.aload_n 0, 1) := by decide +kernel
theorem dX12_mended_53 : decode cX12_mended 53 = .ok (.getfield 121, 3) := by decide +kernel
theorem dX12_mended_56 : decode cX12_mended 56 = .ok (.iconst 5, 1) := by decide +kernel
theorem dX12_mended_57 : decode cX12_mended 57 = .ok (.iload_n 1, 1) := by decide +kernel
theorem dX12_mended_58 : decode cX12_mended 58 = .ok (.imul, 1) := by decide +kernel
theorem dX12_mended_59 : decode cX12_mended 59 = .ok (.iload_n 3, 1) := by decide +kernel
theorem dX12_mended_60 : decode cX12_mended 60 = .ok (.iadd, 1) := by decide +kernel
theorem dX12_mended_61 : decode cX12_mended 61 = .ok (.iaload, 1) := by decide +kernel
theorem dX12_mended_62 : decode cX12_mended 62 = .ok (.istore 4, 2) := by decide +kernel
theorem dX12_mended_64 : decode cX12_mended 64 = .ok (.iload 4, 2) := by decide +kernel
theorem dX12_mended_66 : decode cX12_mended 66 = .ok (.ifCond .le 27, 3) := by decide +kernel
theorem dX12_mended_69 : decode cX12_mended 69 = .ok (.iload_n 2, 1) := by decide +kernel
theorem dX12_mended_70 : decode cX12_mended 70 = .ok (.iload 4, 2) := by decide +kernel
theorem dX12_mended_72 : decode cX12_mended 72 = .ok (.aload_n 0, 1) := by decide +kernel
theorem dX12_mended_73 : decode cX12_mended 73 = .ok (.iload_n 1, 1) := by decide +kernel
theorem dX12_mended_74 : decode cX12_mended 74 = .ok (.iload_n 3, 1) := by decide +kernel
theorem dX12_mended_75 : decode cX12_mended 75 = .ok (.iload 4, 2) := by decide +kernel
theorem dX12_mended_77 : decode cX12_mended 77 = .ok (.invokevirtual 327, 3) := by decide +kernel
theorem dX12_mended_80 : decode cX12_mended 80 = .ok (.imul, 1) := by decide +kernel
theorem dX12_mended_81 : decode cX12_mended 81 = .ok (.isub, 1) := by decide +kernel
theorem dX12_mended_82 : decode cX12_mended 82 = .ok (.istore_n 2, 1) := by decide +kernel
theorem dX12_mended_83 : decode cX12_mended 83 = .ok (.iload_n 2, 1) := by decide +kernel
theorem dX12_mended_84 : decode cX12_mended 84 = .ok (.ifCond .ge 7, 3) := by decide +kernel
theorem dX12_mended_87 : decode cX12_mended 87 = .ok (.iconst 0, 1) := by decide +kernel
theorem dX12_mended_88 : decode cX12_mended 88 = .ok (.goto 4, 3) := by decide +kernel
theorem dX12_mended_91 : decode cX12_mended 91 = .ok (.iload_n 2, 1) := by decide +kernel
theorem dX12_mended_92 : decode cX12_mended 92 = .ok (.istore_n 2, 1) := by decide +kernel
theorem dX12_mended_93 : decode cX12_mended 93 = .ok (.iinc 3 1, 3) := by decide +kernel
theorem dX12_mended_96 : decode cX12_mended 96 = .ok (.goto (-60), 3) := by decide +kernel
theorem dX12_mended_99 : decode cX12_mended 99 = .ok (.iload_n 2, 1) := by decide +kernel
theorem dX12_mended_100 : decode cX12_mended 100 = .ok (.ireturn, 1) := by decide +kernel
theorem dX12_allHoles_0 : decode cX12_allHoles 0 = .ok (.iconst 0, 1) := by decide +kernel
theorem dX12_allHoles_1 : decode cX12_allHoles 1 = .ok (.istore_n 1, 1) := by decide +kernel
theorem dX12_allHoles_2 : decode cX12_allHoles 2 = .ok (.iconst 0, 1) := by decide +kernel
theorem dX12_allHoles_3 : decode cX12_allHoles 3 = .ok (.istore_n 2, 1) := by decide +kernel
theorem dX12_allHoles_4 : decode cX12_allHoles 4 = .ok (.iload_n 2, 1) := by decide +kernel
theorem dX12_allHoles_5 : decode cX12_allHoles 5 = .ok (.aload_n 0, 1) := by decide +kernel
theorem dX12_allHoles_6 : decode cX12_allHoles 6 = .ok (.invokevirtual 194, 3) := by decide +kernel
theorem dX12_allHoles_9 : decode cX12_allHoles 9 = .ok (.if_icmp .ge 40, 3) := by decide +kernel
theorem dX12_allHoles_12 : decode cX12_allHoles 12 = .ok (.iload_n 1, 1) := by decide +kernel
theorem dX12_allHoles_13 : decode cX12_allHoles 13 = .ok (.aload_n 0, 1) := by decide +kernel
theorem dX12_allHoles_14 : decode cX12_allHoles 14 = .ok (.getfield 99, 3) := by decide +kernel
theorem dX12_allHoles_17 : decode cX12_allHoles 17 = .ok (.iconst 1, 1) := by decide +kernel
theorem dX12_allHoles_18 : decode cX12_allHoles 18 = .ok (.iload_n 2, 1) := by decide +kernel
theorem dX12_allHoles_19 : decode cX12_allHoles 19 = .ok (.iadd, 1) := by decide +kernel
theorem dX12_allHoles_20 : decode cX12_allHoles 20 = .ok (.iaload, 1) := by decide +kernel
theorem dX12_allHoles_21 : decode cX12_allHoles 21 = .ok (.sipush 1000, 3) := by decide +kernel
theorem dX12_allHoles_24 : decode cX12_allHoles 24 = .ok (.if_icmp .le 9, 3) := by decide +kernel
theorem dX12_allHoles_27 : decode cX12_allHoles 27 = .ok (.sipush 1000, 3) := by decide +kernel
theorem dX12_allHoles_30 : decode cX12_allHoles 30 = .ok (.goto 11, 3) := by decide +kernel
theorem dX12_allHoles_33 : decode cX12_allHoles 33 = .ok (.aload_n 0, 1) := by decide +kernel
theorem dX12_allHoles_34 : decode cX12_allHoles 34 = .ok (.getfield 99, 3) := by decide +kernel
theorem dX12_allHoles_37 : decode cX12_allHoles 37 = .ok (.iconst 1, 1) := by decide +kernel
theorem dX12_allHoles_38 : decode cX12_allHoles 38 = .ok (.iload_n 2, 1) := by decide +kernel
theorem dX12_allHoles_39 : decode cX12_allHoles 39 = .ok (.iadd, 1) := by decide +kernel
theorem dX12_allHoles_40 : decode cX12_allHoles 40 = .ok (.iaload, 1) := by decide +kernel
theorem dX12_allHoles_41 : decode cX12_allHoles 41 = .ok (.iadd, 1) := by decide +kernel
theorem dX12_allHoles_42 : decode cX12_allHoles 42 = .ok (.istore_n 1, 1) := by decide +kernel
theorem dX12_allHoles_43 : decode cX12_allHoles 43 = .ok (.iinc 2 1, 3) := by decide +kernel
theorem dX12_allHoles_46 : decode cX12_allHoles 46 = .ok (.goto (-42), 3) := by decide +kernel
theorem dX12_allHoles_49 : decode cX12_allHoles 49 = .ok (.iload_n 1, 1) := by decide +kernel
theorem dX12_allHoles_50 : decode cX12_allHoles 50 = .ok (.ireturn, 1) := by decide +kernel
theorem dX12_worn_0 : decode cX12_worn 0 = .ok (.iconst 0, 1) := by decide +kernel
theorem dX12_worn_1 : decode cX12_worn 1 = .ok (.istore_n 1, 1) := by decide +kernel
theorem dX12_worn_2 : decode cX12_worn 2 = .ok (.iconst 0, 1) := by decide +kernel
theorem dX12_worn_3 : decode cX12_worn 3 = .ok (.istore_n 2, 1) := by decide +kernel
theorem dX12_worn_4 : decode cX12_worn 4 = .ok (.iload_n 2, 1) := by decide +kernel
theorem dX12_worn_5 : decode cX12_worn 5 = .ok (.aload_n 0, 1) := by decide +kernel
theorem dX12_worn_6 : decode cX12_worn 6 = .ok (.invokevirtual 194, 3) := by decide +kernel
theorem dX12_worn_9 : decode cX12_worn 9 = .ok (.if_icmp .ge 25, 3) := by decide +kernel
theorem dX12_worn_12 : decode cX12_worn 12 = .ok (.iload_n 1, 1) := by decide +kernel
theorem dX12_worn_13 : decode cX12_worn 13 = .ok (.aload_n 0, 1) := by decide +kernel
theorem dX12_worn_14 : decode cX12_worn 14 = .ok (.iload_n 2, 1) := by decide +kernel
theorem dX12_worn_15 : decode cX12_worn 15 = .ok (.invokevirtual 311, 3) := by decide +kernel
theorem dX12_worn_18 : decode cX12_worn 18 = .ok (.ifCond .eq 7, 3) := by decide +kernel
theorem dX12_worn_21 : decode cX12_worn 21 = .ok (.iconst 1, 1) := by decide +kernel
theorem dX12_worn_22 : decode cX12_worn 22 = .ok (.goto 4, 3) := by decide +kernel
theorem dX12_worn_25 : decode cX12_worn 25 = .ok (.iconst 0, 1) := by decide +kernel
theorem dX12_worn_26 : decode cX12_worn 26 = .ok (.iadd, 1) := by decide +kernel
theorem dX12_worn_27 : decode cX12_worn 27 = .ok (.istore_n 1, 1) := by decide +kernel
theorem dX12_worn_28 : decode cX12_worn 28 = .ok (.iinc 2 1, 3) := by decide +kernel
theorem dX12_worn_31 : decode cX12_worn 31 = .ok (.goto (-27), 3) := by decide +kernel
theorem dX12_worn_34 : decode cX12_worn 34 = .ok (.iload_n 1, 1) := by decide +kernel
theorem dX12_worn_35 : decode cX12_worn 35 = .ok (.ireturn, 1) := by decide +kernel
theorem dX12_stuff_0 : decode cX12_stuff 0 = .ok (.aload_n 0, 1) := by decide +kernel
theorem dX12_stuff_1 : decode cX12_stuff 1 = .ok (.iconst 0, 1) := by decide +kernel
theorem dX12_stuff_2 : decode cX12_stuff 2 = .ok (.putfield 1, 3) := by decide +kernel
theorem dX12_stuff_5 : decode cX12_stuff 5 = .ok (.aload_n 0, 1) := by decide +kernel
theorem dX12_stuff_6 : decode cX12_stuff 6 = .ok (.iload_n 1, 1) := by decide +kernel
theorem dX12_stuff_7 : decode cX12_stuff 7 = .ok (.invokevirtual 330, 3) := by decide +kernel
theorem dX12_stuff_10 : decode cX12_stuff 10 = .ok (.ifCond .eq 12, 3) := by decide +kernel
theorem dX12_stuff_13 : decode cX12_stuff 13 = .ok (.iload_n 2, 1) := by decide +kernel
theorem dX12_stuff_14 : decode cX12_stuff 14 = .ok (.iconst 0, 1) := by decide +kernel
theorem dX12_stuff_15 : decode cX12_stuff 15 = .ok (.iconst 2, 1) := by decide +kernel
theorem dX12_stuff_16 : decode cX12_stuff 16 = .ok (.invokestatic 333, 3) := by decide +kernel
theorem dX12_stuff_19 : decode cX12_stuff 19 = .ok (.ifCond .ne 5, 3) := by decide +kernel
theorem dX12_stuff_22 : decode cX12_stuff 22 = .ok (.iconst (-1), 1) := by decide +kernel
theorem dX12_stuff_23 : decode cX12_stuff 23 = .ok (.ireturn, 1) := by decide +kernel
theorem dX12_stuff_24 : decode cX12_stuff 24 = .ok (.iload_n 2, 1) := by decide +kernel
theorem dX12_stuff_25 : decode cX12_stuff 25 = .ok (.iconst 2, 1) := by decide +kernel
theorem dX12_stuff_26 : decode cX12_stuff 26 = .ok (.if_icmp .ge 19, 3) := by decide +kernel
theorem dX12_stuff_29 : decode cX12_stuff 29 = .ok (.aload_n 0, 1) := by decide +kernel
theorem dX12_stuff_30 : decode cX12_stuff 30 = .ok (.getfield 75, 3) := by decide +kernel
theorem dX12_stuff_33 : decode cX12_stuff 33 = .ok (.bipush 7, 2) := by decide +kernel
theorem dX12_stuff_35 : decode cX12_stuff 35 = .ok (.iconst 2, 1) := by decide +kernel
theorem dX12_stuff_36 : decode cX12_stuff 36 = .ok (.iload_n 1, 1) := by decide +kernel
theorem dX12_stuff_37 : decode cX12_stuff 37 = .ok (.imul, 1) := by decide +kernel
theorem dX12_stuff_38 : decode cX12_stuff 38 = .ok (.iadd, 1) := by decide +kernel
theorem dX12_stuff_39 : decode cX12_stuff 39 = .ok (.iload_n 2, 1) := by decide +kernel
theorem dX12_stuff_40 : decode cX12_stuff 40 = .ok (.iadd, 1) := by decide +kernel
theorem dX12_stuff_41 : decode cX12_stuff 41 = .ok (.iaload, 1) := by decide +kernel
theorem dX12_stuff_42 : decode cX12_stuff 42 = .ok (.goto 12, 3) := by decide +kernel
theorem dX12_stuff_45 : decode cX12_stuff 45 = .ok (.aload_n 0, 1) := by decide +kernel
theorem dX12_stuff_46 : decode cX12_stuff 46 = .ok (.getfield 99, 3) := by decide +kernel
theorem dX12_stuff_49 : decode cX12_stuff 49 = .ok (.bipush 123, 2) := by decide +kernel
theorem dX12_stuff_51 : decode cX12_stuff 51 = .ok (.iload_n 1, 1) := by decide +kernel
theorem dX12_stuff_52 : decode cX12_stuff 52 = .ok (.iadd, 1) := by decide +kernel
theorem dX12_stuff_53 : decode cX12_stuff 53 = .ok (.iaload, 1) := by decide +kernel
theorem dX12_stuff_54 : decode cX12_stuff 54 = .ok (.ireturn, 1) := by decide +kernel
theorem dX12_road_0 : decode cX12_road 0 = .ok (.aload_n 0, 1) := by decide +kernel
theorem dX12_road_1 : decode cX12_road 1 = .ok (.iconst 0, 1) := by decide +kernel
theorem dX12_road_2 : decode cX12_road 2 = .ok (.putfield 1, 3) := by decide +kernel
theorem dX12_road_5 : decode cX12_road 5 = .ok (.aload_n 0, 1) := by decide +kernel
theorem dX12_road_6 : decode cX12_road 6 = .ok (.iload_n 1, 1) := by decide +kernel
theorem dX12_road_7 : decode cX12_road 7 = .ok (.invokevirtual 337, 3) := by decide +kernel
theorem dX12_road_10 : decode cX12_road 10 = .ok (.ifCond .eq 13, 3) := by decide +kernel
theorem dX12_road_13 : decode cX12_road 13 = .ok (.iload_n 2, 1) := by decide +kernel
theorem dX12_road_14 : decode cX12_road 14 = .ok (.iconst 0, 1) := by decide +kernel
theorem dX12_road_15 : decode cX12_road 15 = .ok (.bipush 6, 2) := by decide +kernel
theorem dX12_road_17 : decode cX12_road 17 = .ok (.invokestatic 333, 3) := by decide +kernel
theorem dX12_road_20 : decode cX12_road 20 = .ok (.ifCond .ne 5, 3) := by decide +kernel
theorem dX12_road_23 : decode cX12_road 23 = .ok (.iconst (-1), 1) := by decide +kernel
theorem dX12_road_24 : decode cX12_road 24 = .ok (.ireturn, 1) := by decide +kernel
theorem dX12_road_25 : decode cX12_road 25 = .ok (.iload_n 2, 1) := by decide +kernel
theorem dX12_road_26 : decode cX12_road 26 = .ok (.iconst 3, 1) := by decide +kernel
theorem dX12_road_27 : decode cX12_road 27 = .ok (.if_icmp .ge 12, 3) := by decide +kernel
theorem dX12_road_30 : decode cX12_road 30 = .ok (.aload_n 0, 1) := by decide +kernel
theorem dX12_road_31 : decode cX12_road 31 = .ok (.iload_n 1, 1) := by decide +kernel
theorem dX12_road_32 : decode cX12_road 32 = .ok (.iload_n 2, 1) := by decide +kernel
theorem dX12_road_33 : decode cX12_road 33 = .ok (.invokevirtual 279, 3) := by decide +kernel
theorem dX12_road_36 : decode cX12_road 36 = .ok (.goto 49, 3) := by decide +kernel
theorem dX12_road_39 : decode cX12_road 39 = .ok (.iload_n 2, 1) := by decide +kernel
theorem dX12_road_40 : decode cX12_road 40 = .ok (.iconst 3, 1) := by decide +kernel
theorem dX12_road_41 : decode cX12_road 41 = .ok (.if_icmp .ne 14, 3) := by decide +kernel
theorem dX12_road_44 : decode cX12_road 44 = .ok (.aload_n 0, 1) := by decide +kernel
theorem dX12_road_45 : decode cX12_road 45 = .ok (.getfield 99, 3) := by decide +kernel
theorem dX12_road_48 : decode cX12_road 48 = .ok (.iconst 1, 1) := by decide +kernel
theorem dX12_road_49 : decode cX12_road 49 = .ok (.iload_n 1, 1) := by decide +kernel
theorem dX12_road_50 : decode cX12_road 50 = .ok (.iadd, 1) := by decide +kernel
theorem dX12_road_51 : decode cX12_road 51 = .ok (.iaload, 1) := by decide +kernel
theorem dX12_road_52 : decode cX12_road 52 = .ok (.goto 33, 3) := by decide +kernel
theorem dX12_road_55 : decode cX12_road 55 = .ok (.iload_n 2, 1) := by decide +kernel
theorem dX12_road_56 : decode cX12_road 56 = .ok (.bipush 6, 2) := by decide +kernel
theorem dX12_road_58 : decode cX12_road 58 = .ok (.if_icmp .ge 14, 3) := by decide +kernel
theorem dX12_road_61 : decode cX12_road 61 = .ok (.aload_n 0, 1) := by decide +kernel
theorem dX12_road_62 : decode cX12_road 62 = .ok (.iload_n 1, 1) := by decide +kernel
theorem dX12_road_63 : decode cX12_road 63 = .ok (.iload_n 2, 1) := by decide +kernel
theorem dX12_road_64 : decode cX12_road 64 = .ok (.iconst 4, 1) := by decide +kernel
theorem dX12_road_65 : decode cX12_road 65 = .ok (.isub, 1) := by decide +kernel
theorem dX12_road_66 : decode cX12_road 66 = .ok (.invokevirtual 282, 3) := by decide +kernel
theorem dX12_road_69 : decode cX12_road 69 = .ok (.goto 16, 3) := by decide +kernel
theorem dX12_road_72 : decode cX12_road 72 = .ok (.aload_n 0, 1) := by decide +kernel
theorem dX12_road_73 : decode cX12_road 73 = .ok (.iload_n 1, 1) := by decide +kernel
theorem dX12_road_74 : decode cX12_road 74 = .ok (.invokevirtual 311, 3) := by decide +kernel
theorem dX12_road_77 : decode cX12_road 77 = .ok (.ifCond .eq 7, 3) := by decide +kernel
theorem dX12_road_80 : decode cX12_road 80 = .ok (.iconst 1, 1) := by decide +kernel
theorem dX12_road_81 : decode cX12_road 81 = .ok (.goto 4, 3) := by decide +kernel
theorem dX12_road_84 : decode cX12_road 84 = .ok (.iconst 0, 1) := by decide +kernel
theorem dX12_road_85 : decode cX12_road 85 = .ok (.ireturn, 1) := by decide +kernel
theorem dX12_surface_0 : decode cX12_surface 0 = .ok (.aload_n 0, 1) := by decide +kernel
theorem dX12_surface_1 : decode cX12_surface 1 = .ok (.iconst 0, 1) := by decide +kernel
theorem dX12_surface_2 : decode cX12_surface 2 = .ok (.putfield 1, 3) := by decide +kernel
theorem dX12_surface_5 : decode cX12_surface 5 = .ok (.aload_n 0, 1) := by decide +kernel
theorem dX12_surface_6 : decode cX12_surface 6 = .ok (.iload_n 1, 1) := by decide +kernel
theorem dX12_surface_7 : decode cX12_surface 7 = .ok (.invokevirtual 337, 3) := by decide +kernel
theorem dX12_surface_10 : decode cX12_surface 10 = .ok (.ifCond .eq 27, 3) := by decide +kernel
theorem dX12_surface_13 : decode cX12_surface 13 = .ok (.aload_n 0, 1) := by decide +kernel
theorem dX12_surface_14 : decode cX12_surface 14 = .ok (.iload_n 2, 1) := by decide +kernel
theorem dX12_surface_15 : decode cX12_surface 15 = .ok (.invokevirtual 330, 3) := by decide +kernel
theorem dX12_surface_18 : decode cX12_surface 18 = .ok (.ifCond .eq 19, 3) := by decide +kernel
theorem dX12_surface_21 : decode cX12_surface 21 = .ok (.aload_n 0, 1) := by decide +kernel
theorem dX12_surface_22 : decode cX12_surface 22 = .ok (.getfield 99, 3) := by decide +kernel
theorem dX12_surface_25 : decode cX12_surface 25 = .ok (.bipush 11, 2) := by decide +kernel
theorem dX12_surface_27 : decode cX12_surface 27 = .ok (.iconst 5, 1) := by decide +kernel
theorem dX12_surface_28 : decode cX12_surface 28 = .ok (.iload_n 1, 1) := by decide +kernel
theorem dX12_surface_29 : decode cX12_surface 29 = .ok (.imul, 1) := by decide +kernel
theorem dX12_surface_30 : decode cX12_surface 30 = .ok (.iadd, 1) := by decide +kernel
theorem dX12_surface_31 : decode cX12_surface 31 = .ok (.iload_n 2, 1) := by decide +kernel
theorem dX12_surface_32 : decode cX12_surface 32 = .ok (.iadd, 1) := by decide +kernel
theorem dX12_surface_33 : decode cX12_surface 33 = .ok (.iaload, 1) := by decide +kernel
theorem dX12_surface_34 : decode cX12_surface 34 = .ok (.goto 4, 3) := by decide +kernel
theorem dX12_surface_37 : decode cX12_surface 37 = .ok (.iconst (-1), 1) := by decide +kernel
theorem dX12_surface_38 : decode cX12_surface 38 = .ok (.ireturn, 1) := by decide +kernel
theorem dX12_trade_0 : decode cX12_trade 0 = .ok (.aload_n 0, 1) := by decide +kernel
theorem dX12_trade_1 : decode cX12_trade 1 = .ok (.iconst 0, 1) := by decide +kernel
theorem dX12_trade_2 : decode cX12_trade 2 = .ok (.putfield 1, 3) := by decide +kernel
theorem dX12_trade_5 : decode cX12_trade 5 = .ok (.aload_n 0, 1) := by decide +kernel
theorem dX12_trade_6 : decode cX12_trade 6 = .ok (.iload_n 1, 1) := by decide +kernel
theorem dX12_trade_7 : decode cX12_trade 7 = .ok (.invokevirtual 340, 3) := by decide +kernel
theorem dX12_trade_10 : decode cX12_trade 10 = .ok (.ifCond .eq 12, 3) := by decide +kernel
theorem dX12_trade_13 : decode cX12_trade 13 = .ok (.iload_n 2, 1) := by decide +kernel
theorem dX12_trade_14 : decode cX12_trade 14 = .ok (.iconst 0, 1) := by decide +kernel
theorem dX12_trade_15 : decode cX12_trade 15 = .ok (.iconst 5, 1) := by decide +kernel
theorem dX12_trade_16 : decode cX12_trade 16 = .ok (.invokestatic 333, 3) := by decide +kernel
theorem dX12_trade_19 : decode cX12_trade 19 = .ok (.ifCond .ne 5, 3) := by decide +kernel
theorem dX12_trade_22 : decode cX12_trade 22 = .ok (.iconst (-1), 1) := by decide +kernel
theorem dX12_trade_23 : decode cX12_trade 23 = .ok (.ireturn, 1) := by decide +kernel
theorem dX12_trade_24 : decode cX12_trade 24 = .ok (.iload_n 2, 1) := by decide +kernel
theorem dX12_trade_25 : decode cX12_trade 25 = .ok (.iconst 4, 1) := by decide +kernel
theorem dX12_trade_26 : decode cX12_trade 26 = .ok (.if_icmp .ge 12, 3) := by decide +kernel
theorem dX12_trade_29 : decode cX12_trade 29 = .ok (.aload_n 0, 1) := by decide +kernel
theorem dX12_trade_30 : decode cX12_trade 30 = .ok (.iload_n 1, 1) := by decide +kernel
theorem dX12_trade_31 : decode cX12_trade 31 = .ok (.iload_n 2, 1) := by decide +kernel
theorem dX12_trade_32 : decode cX12_trade 32 = .ok (.invokevirtual 294, 3) := by decide +kernel
theorem dX12_trade_35 : decode cX12_trade 35 = .ok (.goto 29, 3) := by decide +kernel
theorem dX12_trade_38 : decode cX12_trade 38 = .ok (.iload_n 2, 1) := by decide +kernel
theorem dX12_trade_39 : decode cX12_trade 39 = .ok (.iconst 4, 1) := by decide +kernel
theorem dX12_trade_40 : decode cX12_trade 40 = .ok (.if_icmp .ne 15, 3) := by decide +kernel
theorem dX12_trade_43 : decode cX12_trade 43 = .ok (.aload_n 0, 1) := by decide +kernel
theorem dX12_trade_44 : decode cX12_trade 44 = .ok (.getfield 99, 3) := by decide +kernel
theorem dX12_trade_47 : decode cX12_trade 47 = .ok (.bipush 111, 2) := by decide +kernel
theorem dX12_trade_49 : decode cX12_trade 49 = .ok (.iload_n 1, 1) := by decide +kernel
theorem dX12_trade_50 : decode cX12_trade 50 = .ok (.iadd, 1) := by decide +kernel
theorem dX12_trade_51 : decode cX12_trade 51 = .ok (.iaload, 1) := by decide +kernel
theorem dX12_trade_52 : decode cX12_trade 52 = .ok (.goto 12, 3) := by decide +kernel
theorem dX12_trade_55 : decode cX12_trade 55 = .ok (.aload_n 0, 1) := by decide +kernel
theorem dX12_trade_56 : decode cX12_trade 56 = .ok (.getfield 99, 3) := by decide +kernel
theorem dX12_trade_59 : decode cX12_trade 59 = .ok (.bipush 117, 2) := by decide +kernel
theorem dX12_trade_61 : decode cX12_trade 61 = .ok (.iload_n 1, 1) := by decide +kernel
theorem dX12_trade_62 : decode cX12_trade 62 = .ok (.iadd, 1) := by decide +kernel
theorem dX12_trade_63 : decode cX12_trade 63 = .ok (.iaload, 1) := by decide +kernel
theorem dX12_trade_64 : decode cX12_trade 64 = .ok (.ireturn, 1) := by decide +kernel
theorem dX12_way_0 : decode cX12_way 0 = .ok (.aload_n 0, 1) := by decide +kernel
theorem dX12_way_1 : decode cX12_way 1 = .ok (.iconst 0, 1) := by decide +kernel
theorem dX12_way_2 : decode cX12_way 2 = .ok (.putfield 1, 3) := by decide +kernel
theorem dX12_way_5 : decode cX12_way 5 = .ok (.aload_n 0, 1) := by decide +kernel
theorem dX12_way_6 : decode cX12_way 6 = .ok (.iload_n 1, 1) := by decide +kernel
theorem dX12_way_7 : decode cX12_way 7 = .ok (.invokevirtual 340, 3) := by decide +kernel
theorem dX12_way_10 : decode cX12_way 10 = .ok (.ifCond .eq 32, 3) := by decide +kernel
theorem dX12_way_13 : decode cX12_way 13 = .ok (.iload_n 2, 1) := by decide +kernel
theorem dX12_way_14 : decode cX12_way 14 = .ok (.ifCond .lt 28, 3) := by decide +kernel
theorem dX12_way_17 : decode cX12_way 17 = .ok (.aload_n 0, 1) := by decide +kernel
theorem dX12_way_18 : decode cX12_way 18 = .ok (.iload_n 1, 1) := by decide +kernel
theorem dX12_way_19 : decode cX12_way 19 = .ok (.invokevirtual 320, 3) := by decide +kernel
theorem dX12_way_22 : decode cX12_way 22 = .ok (.ifCond .eq 20, 3) := by decide +kernel
theorem dX12_way_25 : decode cX12_way 25 = .ok (.iload_n 2, 1) := by decide +kernel
theorem dX12_way_26 : decode cX12_way 26 = .ok (.aload_n 0, 1) := by decide +kernel
theorem dX12_way_27 : decode cX12_way 27 = .ok (.getfield 304, 3) := by decide +kernel
theorem dX12_way_30 : decode cX12_way 30 = .ok (.if_icmp .ge 12, 3) := by decide +kernel
theorem dX12_way_33 : decode cX12_way 33 = .ok (.aload_n 0, 1) := by decide +kernel
theorem dX12_way_34 : decode cX12_way 34 = .ok (.getfield 118, 3) := by decide +kernel
theorem dX12_way_37 : decode cX12_way 37 = .ok (.iload_n 2, 1) := by decide +kernel
theorem dX12_way_38 : decode cX12_way 38 = .ok (.iaload, 1) := by decide +kernel
theorem dX12_way_39 : decode cX12_way 39 = .ok (.goto 4, 3) := by decide +kernel
theorem dX12_way_42 : decode cX12_way 42 = .ok (.iconst (-1), 1) := by decide +kernel
theorem dX12_way_43 : decode cX12_way 43 = .ok (.ireturn, 1) := by decide +kernel
theorem dX12_cost_0 : decode cX12_cost 0 = .ok (.aload_n 0, 1) := by decide +kernel
theorem dX12_cost_1 : decode cX12_cost 1 = .ok (.aload_n 0, 1) := by decide +kernel
theorem dX12_cost_2 : decode cX12_cost 2 = .ok (.iload_n 1, 1) := by decide +kernel
theorem dX12_cost_3 : decode cX12_cost 3 = .ok (.invokevirtual 340, 3) := by decide +kernel
theorem dX12_cost_6 : decode cX12_cost 6 = .ok (.ifCond .eq 15, 3) := by decide +kernel
theorem dX12_cost_9 : decode cX12_cost 9 = .ok (.aload_n 0, 1) := by decide +kernel
theorem dX12_cost_10 : decode cX12_cost 10 = .ok (.iload_n 1, 1) := by decide +kernel
theorem dX12_cost_11 : decode cX12_cost 11 = .ok (.invokevirtual 320, 3) := by decide +kernel
theorem dX12_cost_14 : decode cX12_cost 14 = .ok (.ifCond .eq 7, 3) := by decide +kernel
theorem dX12_cost_17 : decode cX12_cost 17 = .ok (.iconst 0, 1) := by decide +kernel
theorem dX12_cost_18 : decode cX12_cost 18 = .ok (.goto 4, 3) := by decide +kernel
theorem dX12_cost_21 : decode cX12_cost 21 = .ok (.iconst 1, 1) := by decide +kernel
theorem dX12_cost_22 : decode cX12_cost 22 = .ok (.putfield 1, 3) := by decide +kernel
theorem dX12_cost_25 : decode cX12_cost 25 = .ok (.aload_n 0, 1) := by decide +kernel
theorem dX12_cost_26 : decode cX12_cost 26 = .ok (.getfield 1, 3) := by decide +kernel
theorem dX12_cost_29 : decode cX12_cost 29 = .ok (.ifCond .le 7, 3) := by decide +kernel
theorem dX12_cost_32 : decode cX12_cost 32 = .ok (.iconst 0, 1) := by decide +kernel
theorem dX12_cost_33 : decode cX12_cost 33 = .ok (.goto 7, 3) := by decide +kernel
theorem dX12_cost_36 : decode cX12_cost 36 = .ok (.aload_n 0, 1) := by decide +kernel
theorem dX12_cost_37 : decode cX12_cost 37 = .ok (.getfield 301, 3) := by decide +kernel
theorem dX12_cost_40 : decode cX12_cost 40 = .ok (.ireturn, 1) := by decide +kernel
theorem dX12_shock_0 : decode cX12_shock 0 = .ok (.aload_n 0, 1) := by decide +kernel
theorem dX12_shock_1 : decode cX12_shock 1 = .ok (.iconst 0, 1) := by decide +kernel
theorem dX12_shock_2 : decode cX12_shock 2 = .ok (.putfield 1, 3) := by decide +kernel
theorem dX12_shock_5 : decode cX12_shock 5 = .ok (.aload_n 0, 1) := by decide +kernel
theorem dX12_shock_6 : decode cX12_shock 6 = .ok (.iload_n 1, 1) := by decide +kernel
theorem dX12_shock_7 : decode cX12_shock 7 = .ok (.invokevirtual 337, 3) := by decide +kernel
theorem dX12_shock_10 : decode cX12_shock 10 = .ok (.ifCond .eq 20, 3) := by decide +kernel
theorem dX12_shock_13 : decode cX12_shock 13 = .ok (.aload_n 0, 1) := by decide +kernel
theorem dX12_shock_14 : decode cX12_shock 14 = .ok (.iload_n 2, 1) := by decide +kernel
theorem dX12_shock_15 : decode cX12_shock 15 = .ok (.invokevirtual 330, 3) := by decide +kernel
theorem dX12_shock_18 : decode cX12_shock 18 = .ok (.ifCond .eq 12, 3) := by decide +kernel
theorem dX12_shock_21 : decode cX12_shock 21 = .ok (.aload_n 0, 1) := by decide +kernel
theorem dX12_shock_22 : decode cX12_shock 22 = .ok (.iload_n 1, 1) := by decide +kernel
theorem dX12_shock_23 : decode cX12_shock 23 = .ok (.iload_n 2, 1) := by decide +kernel
theorem dX12_shock_24 : decode cX12_shock 24 = .ok (.invokevirtual 323, 3) := by decide +kernel
theorem dX12_shock_27 : decode cX12_shock 27 = .ok (.goto 4, 3) := by decide +kernel
theorem dX12_shock_30 : decode cX12_shock 30 = .ok (.iconst (-1), 1) := by decide +kernel
theorem dX12_shock_31 : decode cX12_shock 31 = .ok (.ireturn, 1) := by decide +kernel
theorem dX12_years_0 : decode cX12_years 0 = .ok (.aload_n 0, 1) := by decide +kernel
theorem dX12_years_1 : decode cX12_years 1 = .ok (.iconst 0, 1) := by decide +kernel
theorem dX12_years_2 : decode cX12_years 2 = .ok (.putfield 1, 3) := by decide +kernel
theorem dX12_years_5 : decode cX12_years 5 = .ok (.iload_n 1, 1) := by decide +kernel
theorem dX12_years_6 : decode cX12_years 6 = .ok (.invokestatic 343, 3) := by decide +kernel
theorem dX12_years_9 : decode cX12_years 9 = .ok (.ifCond .ne 5, 3) := by decide +kernel
theorem dX12_years_12 : decode cX12_years 12 = .ok (.iconst (-1), 1) := by decide +kernel
theorem dX12_years_13 : decode cX12_years 13 = .ok (.ireturn, 1) := by decide +kernel
theorem dX12_years_14 : decode cX12_years 14 = .ok (.iconst 0, 1) := by decide +kernel
theorem dX12_years_15 : decode cX12_years 15 = .ok (.istore_n 2, 1) := by decide +kernel
theorem dX12_years_16 : decode cX12_years 16 = .ok (.iload_n 2, 1) := by decide +kernel
theorem dX12_years_17 : decode cX12_years 17 = .ok (.iload_n 1, 1) := by decide +kernel
theorem dX12_years_18 : decode cX12_years 18 = .ok (.if_icmp .ge 13, 3) := by decide +kernel
theorem dX12_years_21 : decode cX12_years 21 = .ok (.aload_n 0, 1) := by decide +kernel
theorem dX12_years_22 : decode cX12_years 22 = .ok (.invokevirtual 346, 3) := by decide +kernel
theorem dX12_years_25 : decode cX12_years 25 = .ok (.iinc 2 1, 3) := by decide +kernel
theorem dX12_years_28 : decode cX12_years 28 = .ok (.goto (-12), 3) := by decide +kernel
theorem dX12_years_31 : decode cX12_years 31 = .ok (.aload_n 0, 1) := by decide +kernel
theorem dX12_years_32 : decode cX12_years 32 = .ok (.getfield 99, 3) := by decide +kernel
theorem dX12_years_35 : decode cX12_years 35 = .ok (.iconst 0, 1) := by decide +kernel
theorem dX12_years_36 : decode cX12_years 36 = .ok (.iaload, 1) := by decide +kernel
theorem dX12_years_37 : decode cX12_years 37 = .ok (.ireturn, 1) := by decide +kernel
theorem dX12_lose_0 : decode cX12_lose 0 = .ok (.aload_n 0, 1) := by decide +kernel
theorem dX12_lose_1 : decode cX12_lose 1 = .ok (.iconst 0, 1) := by decide +kernel
theorem dX12_lose_2 : decode cX12_lose 2 = .ok (.putfield 1, 3) := by decide +kernel
theorem dX12_lose_5 : decode cX12_lose 5 = .ok (.aload_n 0, 1) := by decide +kernel
theorem dX12_lose_6 : decode cX12_lose 6 = .ok (.iload_n 1, 1) := by decide +kernel
theorem dX12_lose_7 : decode cX12_lose 7 = .ok (.invokevirtual 337, 3) := by decide +kernel
theorem dX12_lose_10 : decode cX12_lose 10 = .ok (.ifCond .eq 21, 3) := by decide +kernel
theorem dX12_lose_13 : decode cX12_lose 13 = .ok (.aload_n 0, 1) := by decide +kernel
theorem dX12_lose_14 : decode cX12_lose 14 = .ok (.iload_n 2, 1) := by decide +kernel
theorem dX12_lose_15 : decode cX12_lose 15 = .ok (.invokevirtual 330, 3) := by decide +kernel
theorem dX12_lose_18 : decode cX12_lose 18 = .ok (.ifCond .eq 13, 3) := by decide +kernel
theorem dX12_lose_21 : decode cX12_lose 21 = .ok (.iload_n 3, 1) := by decide +kernel
theorem dX12_lose_22 : decode cX12_lose 22 = .ok (.iconst 0, 1) := by decide +kernel
theorem dX12_lose_23 : decode cX12_lose 23 = .ok (.bipush 99, 2) := by decide +kernel
theorem dX12_lose_25 : decode cX12_lose 25 = .ok (.invokestatic 333, 3) := by decide +kernel
theorem dX12_lose_28 : decode cX12_lose 28 = .ok (.ifCond .ne 5, 3) := by decide +kernel
theorem dX12_lose_31 : decode cX12_lose 31 = .ok (.iconst 0, 1) := by decide +kernel
theorem dX12_lose_32 : decode cX12_lose 32 = .ok (.ireturn, 1) := by decide +kernel
theorem dX12_lose_33 : decode cX12_lose 33 = .ok (.aload_n 0, 1) := by decide +kernel
theorem dX12_lose_34 : decode cX12_lose 34 = .ok (.getfield 99, 3) := by decide +kernel
theorem dX12_lose_37 : decode cX12_lose 37 = .ok (.bipush 61, 2) := by decide +kernel
theorem dX12_lose_39 : decode cX12_lose 39 = .ok (.iconst 5, 1) := by decide +kernel
theorem dX12_lose_40 : decode cX12_lose 40 = .ok (.iload_n 1, 1) := by decide +kernel
theorem dX12_lose_41 : decode cX12_lose 41 = .ok (.imul, 1) := by decide +kernel
theorem dX12_lose_42 : decode cX12_lose 42 = .ok (.iadd, 1) := by decide +kernel
theorem dX12_lose_43 : decode cX12_lose 43 = .ok (.iload_n 2, 1) := by decide +kernel
theorem dX12_lose_44 : decode cX12_lose 44 = .ok (.iadd, 1) := by decide +kernel
theorem dX12_lose_45 : decode cX12_lose 45 = .ok (.iload_n 3, 1) := by decide +kernel
theorem dX12_lose_46 : decode cX12_lose 46 = .ok (.iastore, 1) := by decide +kernel
theorem dX12_lose_47 : decode cX12_lose 47 = .ok (.iconst 1, 1) := by decide +kernel
theorem dX12_lose_48 : decode cX12_lose 48 = .ok (.ireturn, 1) := by decide +kernel
theorem dX12_layer_0 : decode cX12_layer 0 = .ok (.aload_n 0, 1) := by decide +kernel
theorem dX12_layer_1 : decode cX12_layer 1 = .ok (.iconst 0, 1) := by decide +kernel
theorem dX12_layer_2 : decode cX12_layer 2 = .ok (.putfield 1, 3) := by decide +kernel
theorem dX12_layer_5 : decode cX12_layer 5 = .ok (.iload_n 1, 1) := by decide +kernel
theorem dX12_layer_6 : decode cX12_layer 6 = .ok (.iconst 0, 1) := by decide +kernel
theorem dX12_layer_7 : decode cX12_layer 7 = .ok (.bipush 39, 2) := by decide +kernel
theorem dX12_layer_9 : decode cX12_layer 9 = .ok (.invokestatic 333, 3) := by decide +kernel
theorem dX12_layer_12 : decode cX12_layer 12 = .ok (.ifCond .eq 29, 3) := by decide +kernel
theorem dX12_layer_15 : decode cX12_layer 15 = .ok (.iload_n 1, 1) := by decide +kernel
theorem dX12_layer_16 : decode cX12_layer 16 = .ok (.aload_n 0, 1) := by decide +kernel
theorem dX12_layer_17 : decode cX12_layer 17 = .ok (.getfield 99, 3) := by decide +kernel
theorem dX12_layer_20 : decode cX12_layer 20 = .ok (.iconst 0, 1) := by decide +kernel
theorem dX12_layer_21 : decode cX12_layer 21 = .ok (.iaload, 1) := by decide +kernel
theorem dX12_layer_22 : decode cX12_layer 22 = .ok (.if_icmp .ge 19, 3) := by decide +kernel
theorem dX12_layer_25 : decode cX12_layer 25 = .ok (.aload_n 0, 1) := by decide +kernel
theorem dX12_layer_26 : decode cX12_layer 26 = .ok (.iload_n 2, 1) := by decide +kernel
theorem dX12_layer_27 : decode cX12_layer 27 = .ok (.invokevirtual 337, 3) := by decide +kernel
theorem dX12_layer_30 : decode cX12_layer 30 = .ok (.ifCond .eq 11, 3) := by decide +kernel
theorem dX12_layer_33 : decode cX12_layer 33 = .ok (.aload_n 0, 1) := by decide +kernel
theorem dX12_layer_34 : decode cX12_layer 34 = .ok (.iload_n 3, 1) := by decide +kernel
theorem dX12_layer_35 : decode cX12_layer 35 = .ok (.invokevirtual 330, 3) := by decide +kernel
theorem dX12_layer_38 : decode cX12_layer 38 = .ok (.ifCond .ne 5, 3) := by decide +kernel
theorem dX12_layer_41 : decode cX12_layer 41 = .ok (.iconst (-1), 1) := by decide +kernel
theorem dX12_layer_42 : decode cX12_layer 42 = .ok (.ireturn, 1) := by decide +kernel
theorem dX12_layer_43 : decode cX12_layer 43 = .ok (.aload_n 0, 1) := by decide +kernel
theorem dX12_layer_44 : decode cX12_layer 44 = .ok (.getfield 99, 3) := by decide +kernel
theorem dX12_layer_47 : decode cX12_layer 47 = .ok (.sipush 133, 3) := by decide +kernel
theorem dX12_layer_50 : decode cX12_layer 50 = .ok (.bipush 50, 2) := by decide +kernel
theorem dX12_layer_52 : decode cX12_layer 52 = .ok (.iload_n 1, 1) := by decide +kernel
theorem dX12_layer_53 : decode cX12_layer 53 = .ok (.imul, 1) := by decide +kernel
theorem dX12_layer_54 : decode cX12_layer 54 = .ok (.iadd, 1) := by decide +kernel
theorem dX12_layer_55 : decode cX12_layer 55 = .ok (.iconst 5, 1) := by decide +kernel
theorem dX12_layer_56 : decode cX12_layer 56 = .ok (.iload_n 2, 1) := by decide +kernel
theorem dX12_layer_57 : decode cX12_layer 57 = .ok (.imul, 1) := by decide +kernel
theorem dX12_layer_58 : decode cX12_layer 58 = .ok (.iadd, 1) := by decide +kernel
theorem dX12_layer_59 : decode cX12_layer 59 = .ok (.iload_n 3, 1) := by decide +kernel
theorem dX12_layer_60 : decode cX12_layer 60 = .ok (.iadd, 1) := by decide +kernel
theorem dX12_layer_61 : decode cX12_layer 61 = .ok (.iaload, 1) := by decide +kernel
theorem dX12_layer_62 : decode cX12_layer 62 = .ok (.ireturn, 1) := by decide +kernel
theorem dX12_starves_0 : decode cX12_starves 0 = .ok (.aload_n 0, 1) := by decide +kernel
theorem dX12_starves_1 : decode cX12_starves 1 = .ok (.iconst 0, 1) := by decide +kernel
theorem dX12_starves_2 : decode cX12_starves 2 = .ok (.putfield 1, 3) := by decide +kernel
theorem dX12_starves_5 : decode cX12_starves 5 = .ok (.aload_n 0, 1) := by decide +kernel
theorem dX12_starves_6 : decode cX12_starves 6 = .ok (.iload_n 1, 1) := by decide +kernel
theorem dX12_starves_7 : decode cX12_starves 7 = .ok (.invokevirtual 337, 3) := by decide +kernel
theorem dX12_starves_10 : decode cX12_starves 10 = .ok (.ifCond .eq 10, 3) := by decide +kernel
theorem dX12_starves_13 : decode cX12_starves 13 = .ok (.iload_n 2, 1) := by decide +kernel
theorem dX12_starves_14 : decode cX12_starves 14 = .ok (.invokestatic 343, 3) := by decide +kernel
theorem dX12_starves_17 : decode cX12_starves 17 = .ok (.ifCond .ne 5, 3) := by decide +kernel
theorem dX12_starves_20 : decode cX12_starves 20 = .ok (.iconst (-1), 1) := by decide +kernel
theorem dX12_starves_21 : decode cX12_starves 21 = .ok (.ireturn, 1) := by decide +kernel
theorem dX12_starves_22 : decode cX12_starves 22 = .ok (.aload_n 0, 1) := by decide +kernel
theorem dX12_starves_23 : decode cX12_starves 23 = .ok (.invokevirtual 349, 3) := by decide +kernel
theorem dX12_starves_26 : decode cX12_starves 26 = .ok (.iconst 0, 1) := by decide +kernel
theorem dX12_starves_27 : decode cX12_starves 27 = .ok (.istore_n 3, 1) := by decide +kernel
theorem dX12_starves_28 : decode cX12_starves 28 = .ok (.iload_n 3, 1) := by decide +kernel
theorem dX12_starves_29 : decode cX12_starves 29 = .ok (.iload_n 2, 1) := by decide +kernel
theorem dX12_starves_30 : decode cX12_starves 30 = .ok (.if_icmp .gt 21, 3) := by decide +kernel
theorem dX12_starves_33 : decode cX12_starves 33 = .ok (.aload_n 0, 1) := by decide +kernel
theorem dX12_starves_34 : decode cX12_starves 34 = .ok (.iload_n 1, 1) := by decide +kernel
theorem dX12_starves_35 : decode cX12_starves 35 = .ok (.invokevirtual 311, 3) := by decide +kernel
theorem dX12_starves_38 : decode cX12_starves 38 = .ok (.ifCond .ne 13, 3) := by decide +kernel
theorem dX12_starves_41 : decode cX12_starves 41 = .ok (.aload_n 0, 1) := by decide +kernel
theorem dX12_starves_42 : decode cX12_starves 42 = .ok (.invokevirtual 346, 3) := by decide +kernel
theorem dX12_starves_45 : decode cX12_starves 45 = .ok (.iinc 3 1, 3) := by decide +kernel
theorem dX12_starves_48 : decode cX12_starves 48 = .ok (.goto (-20), 3) := by decide +kernel
theorem dX12_starves_51 : decode cX12_starves 51 = .ok (.aload_n 0, 1) := by decide +kernel
theorem dX12_starves_52 : decode cX12_starves 52 = .ok (.invokevirtual 352, 3) := by decide +kernel
theorem dX12_starves_55 : decode cX12_starves 55 = .ok (.iload_n 3, 1) := by decide +kernel
theorem dX12_starves_56 : decode cX12_starves 56 = .ok (.iload_n 2, 1) := by decide +kernel
theorem dX12_starves_57 : decode cX12_starves 57 = .ok (.if_icmp .le 7, 3) := by decide +kernel
theorem dX12_starves_60 : decode cX12_starves 60 = .ok (.iconst (-1), 1) := by decide +kernel
theorem dX12_starves_61 : decode cX12_starves 61 = .ok (.goto 4, 3) := by decide +kernel
theorem dX12_starves_64 : decode cX12_starves 64 = .ok (.iload_n 3, 1) := by decide +kernel
theorem dX12_starves_65 : decode cX12_starves 65 = .ok (.ireturn, 1) := by decide +kernel
theorem dX12_holds_0 : decode cX12_holds 0 = .ok (.aload_n 0, 1) := by decide +kernel
theorem dX12_holds_1 : decode cX12_holds 1 = .ok (.invokevirtual 349, 3) := by decide +kernel
theorem dX12_holds_4 : decode cX12_holds 4 = .ok (.aload_n 0, 1) := by decide +kernel
theorem dX12_holds_5 : decode cX12_holds 5 = .ok (.getfield 99, 3) := by decide +kernel
theorem dX12_holds_8 : decode cX12_holds 8 = .ok (.bipush 61, 2) := by decide +kernel
theorem dX12_holds_10 : decode cX12_holds 10 = .ok (.iconst 5, 1) := by decide +kernel
theorem dX12_holds_11 : decode cX12_holds 11 = .ok (.iload_n 1, 1) := by decide +kernel
theorem dX12_holds_12 : decode cX12_holds 12 = .ok (.imul, 1) := by decide +kernel
theorem dX12_holds_13 : decode cX12_holds 13 = .ok (.iadd, 1) := by decide +kernel
theorem dX12_holds_14 : decode cX12_holds 14 = .ok (.iload_n 2, 1) := by decide +kernel
theorem dX12_holds_15 : decode cX12_holds 15 = .ok (.iadd, 1) := by decide +kernel
theorem dX12_holds_16 : decode cX12_holds 16 = .ok (.dup2, 1) := by decide +kernel
theorem dX12_holds_17 : decode cX12_holds 17 = .ok (.iaload, 1) := by decide +kernel
theorem dX12_holds_18 : decode cX12_holds 18 = .ok (.iload_n 3, 1) := by decide +kernel
theorem dX12_holds_19 : decode cX12_holds 19 = .ok (.iadd, 1) := by decide +kernel
theorem dX12_holds_20 : decode cX12_holds 20 = .ok (.iastore, 1) := by decide +kernel
theorem dX12_holds_21 : decode cX12_holds 21 = .ok (.iconst 1, 1) := by decide +kernel
theorem dX12_holds_22 : decode cX12_holds 22 = .ok (.istore 5, 2) := by decide +kernel
theorem dX12_holds_24 : decode cX12_holds 24 = .ok (.iconst 0, 1) := by decide +kernel
theorem dX12_holds_25 : decode cX12_holds 25 = .ok (.istore 6, 2) := by decide +kernel
theorem dX12_holds_27 : decode cX12_holds 27 = .ok (.iload 6, 2) := by decide +kernel
theorem dX12_holds_29 : decode cX12_holds 29 = .ok (.iload 4, 2) := by decide +kernel
theorem dX12_holds_31 : decode cX12_holds 31 = .ok (.if_icmp .ge 33, 3) := by decide +kernel
theorem dX12_holds_34 : decode cX12_holds 34 = .ok (.iload 5, 2) := by decide +kernel
theorem dX12_holds_36 : decode cX12_holds 36 = .ok (.ifCond .eq 28, 3) := by decide +kernel
theorem dX12_holds_39 : decode cX12_holds 39 = .ok (.aload_n 0, 1) := by decide +kernel
theorem dX12_holds_40 : decode cX12_holds 40 = .ok (.invokevirtual 346, 3) := by decide +kernel
theorem dX12_holds_43 : decode cX12_holds 43 = .ok (.aload_n 0, 1) := by decide +kernel
theorem dX12_holds_44 : decode cX12_holds 44 = .ok (.iload_n 1, 1) := by decide +kernel
theorem dX12_holds_45 : decode cX12_holds 45 = .ok (.invokevirtual 311, 3) := by decide +kernel
theorem dX12_holds_48 : decode cX12_holds 48 = .ok (.ifCond .ne 7, 3) := by decide +kernel
theorem dX12_holds_51 : decode cX12_holds 51 = .ok (.iconst 1, 1) := by decide +kernel
theorem dX12_holds_52 : decode cX12_holds 52 = .ok (.goto 4, 3) := by decide +kernel
theorem dX12_holds_55 : decode cX12_holds 55 = .ok (.iconst 0, 1) := by decide +kernel
theorem dX12_holds_56 : decode cX12_holds 56 = .ok (.istore 5, 2) := by decide +kernel
theorem dX12_holds_58 : decode cX12_holds 58 = .ok (.iinc 6 1, 3) := by decide +kernel
theorem dX12_holds_61 : decode cX12_holds 61 = .ok (.goto (-34), 3) := by decide +kernel
theorem dX12_holds_64 : decode cX12_holds 64 = .ok (.aload_n 0, 1) := by decide +kernel
theorem dX12_holds_65 : decode cX12_holds 65 = .ok (.invokevirtual 352, 3) := by decide +kernel
theorem dX12_holds_68 : decode cX12_holds 68 = .ok (.iload 5, 2) := by decide +kernel
theorem dX12_holds_70 : decode cX12_holds 70 = .ok (.ireturn, 1) := by decide +kernel
theorem dX12_purpose_0 : decode cX12_purpose 0 = .ok (.aload_n 0, 1) := by decide +kernel
theorem dX12_purpose_1 : decode cX12_purpose 1 = .ok (.iconst 0, 1) := by decide +kernel
theorem dX12_purpose_2 : decode cX12_purpose 2 = .ok (.putfield 1, 3) := by decide +kernel
theorem dX12_purpose_5 : decode cX12_purpose 5 = .ok (.aload_n 0, 1) := by decide +kernel
theorem dX12_purpose_6 : decode cX12_purpose 6 = .ok (.iload_n 1, 1) := by decide +kernel
theorem dX12_purpose_7 : decode cX12_purpose 7 = .ok (.invokevirtual 337, 3) := by decide +kernel
theorem dX12_purpose_10 : decode cX12_purpose 10 = .ok (.ifCond .eq 18, 3) := by decide +kernel
theorem dX12_purpose_13 : decode cX12_purpose 13 = .ok (.aload_n 0, 1) := by decide +kernel
theorem dX12_purpose_14 : decode cX12_purpose 14 = .ok (.iload_n 2, 1) := by decide +kernel
theorem dX12_purpose_15 : decode cX12_purpose 15 = .ok (.invokevirtual 330, 3) := by decide +kernel
theorem dX12_purpose_18 : decode cX12_purpose 18 = .ok (.ifCond .eq 10, 3) := by decide +kernel
theorem dX12_purpose_21 : decode cX12_purpose 21 = .ok (.iload_n 3, 1) := by decide +kernel
theorem dX12_purpose_22 : decode cX12_purpose 22 = .ok (.invokestatic 343, 3) := by decide +kernel
theorem dX12_purpose_25 : decode cX12_purpose 25 = .ok (.ifCond .ne 5, 3) := by decide +kernel
theorem dX12_purpose_28 : decode cX12_purpose 28 = .ok (.iconst (-1), 1) := by decide +kernel
theorem dX12_purpose_29 : decode cX12_purpose 29 = .ok (.ireturn, 1) := by decide +kernel
theorem dX12_purpose_30 : decode cX12_purpose 30 = .ok (.iconst 0, 1) := by decide +kernel
theorem dX12_purpose_31 : decode cX12_purpose 31 = .ok (.istore 4, 2) := by decide +kernel
theorem dX12_purpose_33 : decode cX12_purpose 33 = .ok (.iload 4, 2) := by decide +kernel
theorem dX12_purpose_35 : decode cX12_purpose 35 = .ok (.bipush 100, 2) := by decide +kernel
theorem dX12_purpose_37 : decode cX12_purpose 37 = .ok (.if_icmp .ge 24, 3) := by decide +kernel
theorem dX12_purpose_40 : decode cX12_purpose 40 = .ok (.aload_n 0, 1) := by decide +kernel
theorem dX12_purpose_41 : decode cX12_purpose 41 = .ok (.iload_n 1, 1) := by decide +kernel
theorem dX12_purpose_42 : decode cX12_purpose 42 = .ok (.iload_n 2, 1) := by decide +kernel
theorem dX12_purpose_43 : decode cX12_purpose 43 = .ok (.iload 4, 2) := by decide +kernel
theorem dX12_purpose_45 : decode cX12_purpose 45 = .ok (.iload_n 3, 1) := by decide +kernel
theorem dX12_purpose_46 : decode cX12_purpose 46 = .ok (.invokevirtual 355, 3) := by decide +kernel
theorem dX12_purpose_49 : decode cX12_purpose 49 = .ok (.ifCond .eq 6, 3) := by decide +kernel
theorem dX12_purpose_52 : decode cX12_purpose 52 = .ok (.iload 4, 2) := by decide +kernel
theorem dX12_purpose_54 : decode cX12_purpose 54 = .ok (.ireturn, 1) := by decide +kernel
theorem dX12_purpose_55 : decode cX12_purpose 55 = .ok (.iinc 4 1, 3) := by decide +kernel
theorem dX12_purpose_58 : decode cX12_purpose 58 = .ok (.goto (-25), 3) := by decide +kernel
theorem dX12_purpose_61 : decode cX12_purpose 61 = .ok (.iconst (-1), 1) := by decide +kernel
theorem dX12_purpose_62 : decode cX12_purpose 62 = .ok (.ireturn, 1) := by decide +kernel
theorem dX12_holesBehind_0 : decode cX12_holesBehind 0 = .ok (.aload_n 0, 1) := by decide +kernel
theorem dX12_holesBehind_1 : decode cX12_holesBehind 1 = .ok (.invokevirtual 349, 3) := by decide +kernel
theorem dX12_holesBehind_4 : decode cX12_holesBehind 4 = .ok (.iconst 0, 1) := by decide +kernel
theorem dX12_holesBehind_5 : decode cX12_holesBehind 5 = .ok (.istore_n 2, 1) := by decide +kernel
theorem dX12_holesBehind_6 : decode cX12_holesBehind 6 = .ok (.iload_n 2, 1) := by decide +kernel
theorem dX12_holesBehind_7 : decode cX12_holesBehind 7 = .ok (.iload_n 1, 1) := by decide +kernel
theorem dX12_holesBehind_8 : decode cX12_holesBehind 8 = .ok (.if_icmp .ge 13, 3) := by decide +kernel
theorem dX12_holesBehind_11 : decode cX12_holesBehind 11 = .ok (.aload_n 0, 1) := by decide +kernel
theorem dX12_holesBehind_12 : decode cX12_holesBehind 12 = .ok (.invokevirtual 346, 3) := by decide +kernel
theorem dX12_holesBehind_15 : decode cX12_holesBehind 15 = .ok (.iinc 2 1, 3) := by decide +kernel
theorem dX12_holesBehind_18 : decode cX12_holesBehind 18 = .ok (.goto (-12), 3) := by decide +kernel
theorem dX12_holesBehind_21 : decode cX12_holesBehind 21 = .ok (.aload_n 0, 1) := by decide +kernel
theorem dX12_holesBehind_22 : decode cX12_holesBehind 22 = .ok (.invokevirtual 359, 3) := by decide +kernel
theorem dX12_holesBehind_25 : decode cX12_holesBehind 25 = .ok (.istore_n 2, 1) := by decide +kernel
theorem dX12_holesBehind_26 : decode cX12_holesBehind 26 = .ok (.aload_n 0, 1) := by decide +kernel
theorem dX12_holesBehind_27 : decode cX12_holesBehind 27 = .ok (.invokevirtual 352, 3) := by decide +kernel
theorem dX12_holesBehind_30 : decode cX12_holesBehind 30 = .ok (.iload_n 2, 1) := by decide +kernel
theorem dX12_holesBehind_31 : decode cX12_holesBehind 31 = .ok (.ireturn, 1) := by decide +kernel
theorem dX12_table_0 : decode cX12_table 0 = .ok (.aload_n 0, 1) := by decide +kernel
theorem dX12_table_1 : decode cX12_table 1 = .ok (.iconst 0, 1) := by decide +kernel
theorem dX12_table_2 : decode cX12_table 2 = .ok (.putfield 1, 3) := by decide +kernel
theorem dX12_table_5 : decode cX12_table 5 = .ok (.iload_n 2, 1) := by decide +kernel
theorem dX12_table_6 : decode cX12_table 6 = .ok (.invokestatic 343, 3) := by decide +kernel
theorem dX12_table_9 : decode cX12_table 9 = .ok (.ifCond .eq 23, 3) := by decide +kernel
theorem dX12_table_12 : decode cX12_table 12 = .ok (.aload_n 0, 1) := by decide +kernel
theorem dX12_table_13 : decode cX12_table 13 = .ok (.invokevirtual 273, 3) := by decide +kernel
theorem dX12_table_16 : decode cX12_table 16 = .ok (.ifCond .eq 16, 3) := by decide +kernel
theorem dX12_table_19 : decode cX12_table 19 = .ok (.iload_n 1, 1) := by decide +kernel
theorem dX12_table_20 : decode cX12_table 20 = .ok (.iconst (-1), 1) := by decide +kernel
theorem dX12_table_21 : decode cX12_table 21 = .ok (.if_icmp .eq 13, 3) := by decide +kernel
theorem dX12_table_24 : decode cX12_table 24 = .ok (.aload_n 0, 1) := by decide +kernel
theorem dX12_table_25 : decode cX12_table 25 = .ok (.iload_n 1, 1) := by decide +kernel
theorem dX12_table_26 : decode cX12_table 26 = .ok (.invokevirtual 330, 3) := by decide +kernel
theorem dX12_table_29 : decode cX12_table 29 = .ok (.ifCond .ne 5, 3) := by decide +kernel
theorem dX12_table_32 : decode cX12_table 32 = .ok (.iconst (-1), 1) := by decide +kernel
theorem dX12_table_33 : decode cX12_table 33 = .ok (.ireturn, 1) := by decide +kernel
theorem dX12_table_34 : decode cX12_table 34 = .ok (.iconst (-1), 1) := by decide +kernel
theorem dX12_table_35 : decode cX12_table 35 = .ok (.istore_n 3, 1) := by decide +kernel
theorem dX12_table_36 : decode cX12_table 36 = .ok (.ldc_w 300, 3) := by decide +kernel
theorem dX12_table_39 : decode cX12_table 39 = .ok (.istore 4, 2) := by decide +kernel
theorem dX12_table_41 : decode cX12_table 41 = .ok (.iload_n 1, 1) := by decide +kernel
theorem dX12_table_42 : decode cX12_table 42 = .ok (.ifCond .ge 7, 3) := by decide +kernel
theorem dX12_table_45 : decode cX12_table 45 = .ok (.iconst 0, 1) := by decide +kernel
theorem dX12_table_46 : decode cX12_table 46 = .ok (.goto 4, 3) := by decide +kernel
theorem dX12_table_49 : decode cX12_table 49 = .ok (.iload_n 1, 1) := by decide +kernel
theorem dX12_table_50 : decode cX12_table 50 = .ok (.istore 5, 2) := by decide +kernel
theorem dX12_table_52 : decode cX12_table 52 = .ok (.iload 5, 2) := by decide +kernel
theorem dX12_table_54 : decode cX12_table 54 = .ok (.iload_n 1, 1) := by decide +kernel
theorem dX12_table_55 : decode cX12_table 55 = .ok (.ifCond .ge 10, 3) := by decide +kernel
theorem dX12_table_58 : decode cX12_table 58 = .ok (.aload_n 0, 1) := by decide +kernel
theorem dX12_table_59 : decode cX12_table 59 = .ok (.invokevirtual 273, 3) := by decide +kernel
theorem dX12_table_62 : decode cX12_table 62 = .ok (.goto 6, 3) := by decide +kernel
theorem dX12_table_65 : decode cX12_table 65 = .ok (.iload_n 1, 1) := by decide +kernel
theorem dX12_table_66 : decode cX12_table 66 = .ok (.iconst 1, 1) := by decide +kernel
theorem dX12_table_67 : decode cX12_table 67 = .ok (.iadd, 1) := by decide +kernel
theorem dX12_table_68 : decode cX12_table 68 = .ok (.if_icmp .ge 52, 3) := by decide +kernel
theorem dX12_table_71 : decode cX12_table 71 = .ok (.aload_n 0, 1) := by decide +kernel
theorem dX12_table_72 : decode cX12_table 72 = .ok (.iload 5, 2) := by decide +kernel
theorem dX12_table_74 : decode cX12_table 74 = .ok (.putfield 106, 3) := by decide +kernel
theorem dX12_table_77 : decode cX12_table 77 = .ok (.aload_n 0, 1) := by decide +kernel
theorem dX12_table_78 : decode cX12_table 78 = .ok (.iload_n 2, 1) := by decide +kernel
theorem dX12_table_79 : decode cX12_table 79 = .ok (.invokevirtual 362, 3) := by decide +kernel
theorem dX12_table_82 : decode cX12_table 82 = .ok (.istore 6, 2) := by decide +kernel
theorem dX12_table_84 : decode cX12_table 84 = .ok (.iload 6, 2) := by decide +kernel
theorem dX12_table_86 : decode cX12_table 86 = .ok (.iload 4, 2) := by decide +kernel
theorem dX12_table_88 : decode cX12_table 88 = .ok (.if_icmp .ge 8, 3) := by decide +kernel
theorem dX12_table_91 : decode cX12_table 91 = .ok (.iload 5, 2) := by decide +kernel
theorem dX12_table_93 : decode cX12_table 93 = .ok (.goto 4, 3) := by decide +kernel
theorem dX12_table_96 : decode cX12_table 96 = .ok (.iload_n 3, 1) := by decide +kernel
theorem dX12_table_97 : decode cX12_table 97 = .ok (.istore_n 3, 1) := by decide +kernel
theorem dX12_table_98 : decode cX12_table 98 = .ok (.iload 6, 2) := by decide +kernel
theorem dX12_table_100 : decode cX12_table 100 = .ok (.iload 4, 2) := by decide +kernel
theorem dX12_table_102 : decode cX12_table 102 = .ok (.if_icmp .ge 8, 3) := by decide +kernel
theorem dX12_table_105 : decode cX12_table 105 = .ok (.iload 6, 2) := by decide +kernel
theorem dX12_table_107 : decode cX12_table 107 = .ok (.goto 5, 3) := by decide +kernel
theorem dX12_table_110 : decode cX12_table 110 = .ok (.iload 4, 2) := by decide +kernel
theorem dX12_table_112 : decode cX12_table 112 = .ok (.istore 4, 2) := by decide +kernel
theorem dX12_table_114 : decode cX12_table 114 = .ok (.iinc 5 1, 3) := by decide +kernel
theorem dX12_table_117 : decode cX12_table 117 = .ok (.goto (-65), 3) := by decide +kernel
theorem dX12_table_120 : decode cX12_table 120 = .ok (.iload_n 1, 1) := by decide +kernel
theorem dX12_table_121 : decode cX12_table 121 = .ok (.ifCond .ge 7, 3) := by decide +kernel
theorem dX12_table_124 : decode cX12_table 124 = .ok (.iload_n 3, 1) := by decide +kernel
theorem dX12_table_125 : decode cX12_table 125 = .ok (.goto 5, 3) := by decide +kernel
theorem dX12_table_128 : decode cX12_table 128 = .ok (.iload 4, 2) := by decide +kernel
theorem dX12_table_130 : decode cX12_table 130 = .ok (.ireturn, 1) := by decide +kernel
theorem dX12_isPlaceOf_0 : decode cX12_isPlaceOf 0 = .ok (.iload_n 1, 1) := by decide +kernel
theorem dX12_isPlaceOf_1 : decode cX12_isPlaceOf 1 = .ok (.ifCond .lt 17, 3) := by decide +kernel
theorem dX12_isPlaceOf_4 : decode cX12_isPlaceOf 4 = .ok (.iload_n 1, 1) := by decide +kernel
theorem dX12_isPlaceOf_5 : decode cX12_isPlaceOf 5 = .ok (.aload_n 0, 1) := by decide +kernel
theorem dX12_isPlaceOf_6 : decode cX12_isPlaceOf 6 = .ok (.getfield 75, 3) := by decide +kernel
theorem dX12_isPlaceOf_9 : decode cX12_isPlaceOf 9 = .ok (.iconst 1, 1) := by decide +kernel
theorem dX12_isPlaceOf_10 : decode cX12_isPlaceOf 10 = .ok (.iaload, 1) := by decide +kernel
theorem dX12_isPlaceOf_11 : decode cX12_isPlaceOf 11 = .ok (.if_icmp .ge 7, 3) := by decide +kernel
theorem dX12_isPlaceOf_14 : decode cX12_isPlaceOf 14 = .ok (.iconst 1, 1) := by decide +kernel
theorem dX12_isPlaceOf_15 : decode cX12_isPlaceOf 15 = .ok (.goto 4, 3) := by decide +kernel
theorem dX12_isPlaceOf_18 : decode cX12_isPlaceOf 18 = .ok (.iconst 0, 1) := by decide +kernel
theorem dX12_isPlaceOf_19 : decode cX12_isPlaceOf 19 = .ok (.ireturn, 1) := by decide +kernel
theorem dX12_newcomer_0 : decode cX12_newcomer 0 = .ok (.aload_n 0, 1) := by decide +kernel
theorem dX12_newcomer_1 : decode cX12_newcomer 1 = .ok (.iload_n 1, 1) := by decide +kernel
theorem dX12_newcomer_2 : decode cX12_newcomer 2 = .ok (.invokevirtual 365, 3) := by decide +kernel
theorem dX12_newcomer_5 : decode cX12_newcomer 5 = .ok (.ifCond .eq 69, 3) := by decide +kernel
theorem dX12_newcomer_8 : decode cX12_newcomer 8 = .ok (.aload_n 0, 1) := by decide +kernel
theorem dX12_newcomer_9 : decode cX12_newcomer 9 = .ok (.iload_n 2, 1) := by decide +kernel
theorem dX12_newcomer_10 : decode cX12_newcomer 10 = .ok (.invokevirtual 365, 3) := by decide +kernel
theorem dX12_newcomer_13 : decode cX12_newcomer 13 = .ok (.ifCond .eq 61, 3) := by decide +kernel
theorem dX12_newcomer_16 : decode cX12_newcomer 16 = .ok (.iload_n 1, 1) := by decide +kernel
theorem dX12_newcomer_17 : decode cX12_newcomer 17 = .ok (.iload_n 2, 1) := by decide +kernel
theorem dX12_newcomer_18 : decode cX12_newcomer 18 = .ok (.if_icmp .eq 56, 3) := by decide +kernel
theorem dX12_newcomer_21 : decode cX12_newcomer 21 = .ok (.aload_n 0, 1) := by decide +kernel
theorem dX12_newcomer_22 : decode cX12_newcomer 22 = .ok (.iload_n 3, 1) := by decide +kernel
theorem dX12_newcomer_23 : decode cX12_newcomer 23 = .ok (.invokevirtual 330, 3) := by decide +kernel
theorem dX12_newcomer_26 : decode cX12_newcomer 26 = .ok (.ifCond .eq 48, 3) := by decide +kernel
theorem dX12_newcomer_29 : decode cX12_newcomer 29 = .ok (.iload 4, 2) := by decide +kernel
theorem dX12_newcomer_31 : decode cX12_newcomer 31 = .ok (.iconst 1, 1) := by decide +kernel
theorem dX12_newcomer_32 : decode cX12_newcomer 32 = .ok (.sipush 999, 3) := by decide +kernel
theorem dX12_newcomer_35 : decode cX12_newcomer 35 = .ok (.invokestatic 333, 3) := by decide +kernel
theorem dX12_newcomer_38 : decode cX12_newcomer 38 = .ok (.ifCond .eq 36, 3) := by decide +kernel
theorem dX12_newcomer_41 : decode cX12_newcomer 41 = .ok (.iload 5, 2) := by decide +kernel
theorem dX12_newcomer_43 : decode cX12_newcomer 43 = .ok (.invokestatic 343, 3) := by decide +kernel
theorem dX12_newcomer_46 : decode cX12_newcomer 46 = .ok (.ifCond .eq 28, 3) := by decide +kernel
theorem dX12_newcomer_49 : decode cX12_newcomer 49 = .ok (.iload 6, 2) := by decide +kernel
theorem dX12_newcomer_51 : decode cX12_newcomer 51 = .ok (.iconst 0, 1) := by decide +kernel
theorem dX12_newcomer_52 : decode cX12_newcomer 52 = .ok (.iconst 1, 1) := by decide +kernel
theorem dX12_newcomer_53 : decode cX12_newcomer 53 = .ok (.invokestatic 333, 3) := by decide +kernel
theorem dX12_newcomer_56 : decode cX12_newcomer 56 = .ok (.ifCond .eq 18, 3) := by decide +kernel
theorem dX12_newcomer_59 : decode cX12_newcomer 59 = .ok (.aload_n 0, 1) := by decide +kernel
theorem dX12_newcomer_60 : decode cX12_newcomer 60 = .ok (.getfield 75, 3) := by decide +kernel
theorem dX12_newcomer_63 : decode cX12_newcomer 63 = .ok (.iconst 3, 1) := by decide +kernel
theorem dX12_newcomer_64 : decode cX12_newcomer 64 = .ok (.iaload, 1) := by decide +kernel
theorem dX12_newcomer_65 : decode cX12_newcomer 65 = .ok (.bipush 6, 2) := by decide +kernel
theorem dX12_newcomer_67 : decode cX12_newcomer 67 = .ok (.if_icmp .ge 7, 3) := by decide +kernel
theorem dX12_newcomer_70 : decode cX12_newcomer 70 = .ok (.iconst 1, 1) := by decide +kernel
theorem dX12_newcomer_71 : decode cX12_newcomer 71 = .ok (.goto 4, 3) := by decide +kernel
theorem dX12_newcomer_74 : decode cX12_newcomer 74 = .ok (.iconst 0, 1) := by decide +kernel
theorem dX12_newcomer_75 : decode cX12_newcomer 75 = .ok (.istore 7, 2) := by decide +kernel
theorem dX12_newcomer_77 : decode cX12_newcomer 77 = .ok (.aload_n 0, 1) := by decide +kernel
theorem dX12_newcomer_78 : decode cX12_newcomer 78 = .ok (.iload 7, 2) := by decide +kernel
theorem dX12_newcomer_80 : decode cX12_newcomer 80 = .ok (.ifCond .eq 7, 3) := by decide +kernel
theorem dX12_newcomer_83 : decode cX12_newcomer 83 = .ok (.iconst 0, 1) := by decide +kernel
theorem dX12_newcomer_84 : decode cX12_newcomer 84 = .ok (.goto 4, 3) := by decide +kernel
theorem dX12_newcomer_87 : decode cX12_newcomer 87 = .ok (.iconst 1, 1) := by decide +kernel
theorem dX12_newcomer_88 : decode cX12_newcomer 88 = .ok (.putfield 1, 3) := by decide +kernel
theorem dX12_newcomer_91 : decode cX12_newcomer 91 = .ok (.iload 7, 2) := by decide +kernel
theorem dX12_newcomer_93 : decode cX12_newcomer 93 = .ok (.ifCond .ne 5, 3) := by decide +kernel
theorem dX12_newcomer_96 : decode cX12_newcomer 96 = .ok (.iconst 0, 1) := by decide +kernel
theorem dX12_newcomer_97 : decode cX12_newcomer 97 = .ok (.ireturn, 1) := by decide +kernel
theorem dX12_newcomer_98 : decode cX12_newcomer 98 = .ok (.aload_n 0, 1) := by decide +kernel
theorem dX12_newcomer_99 : decode cX12_newcomer 99 = .ok (.iload 5, 2) := by decide +kernel
theorem dX12_newcomer_101 : decode cX12_newcomer 101 = .ok (.invokevirtual 362, 3) := by decide +kernel
theorem dX12_newcomer_104 : decode cX12_newcomer 104 = .ok (.istore 8, 2) := by decide +kernel
theorem dX12_newcomer_106 : decode cX12_newcomer 106 = .ok (.aload_n 0, 1) := by decide +kernel
theorem dX12_newcomer_107 : decode cX12_newcomer 107 = .ok (.getfield 75, 3) := by decide +kernel
theorem dX12_newcomer_110 : decode cX12_newcomer 110 = .ok (.iconst 3, 1) := by decide +kernel
theorem dX12_newcomer_111 : decode cX12_newcomer 111 = .ok (.iaload, 1) := by decide +kernel
theorem dX12_newcomer_112 : decode cX12_newcomer 112 = .ok (.istore 9, 2) := by decide +kernel
theorem dX12_newcomer_114 : decode cX12_newcomer 114 = .ok (.aload_n 0, 1) := by decide +kernel
theorem dX12_newcomer_115 : decode cX12_newcomer 115 = .ok (.getfield 75, 3) := by decide +kernel
theorem dX12_newcomer_118 : decode cX12_newcomer 118 = .ok (.bipush 57, 2) := by decide +kernel
theorem dX12_newcomer_120 : decode cX12_newcomer 120 = .ok (.iconst 4, 1) := by decide +kernel
theorem dX12_newcomer_121 : decode cX12_newcomer 121 = .ok (.iload 9, 2) := by decide +kernel
theorem dX12_newcomer_123 : decode cX12_newcomer 123 = .ok (.imul, 1) := by decide +kernel
theorem dX12_newcomer_124 : decode cX12_newcomer 124 = .ok (.iadd, 1) := by decide +kernel
theorem dX12_newcomer_125 : decode cX12_newcomer 125 = .ok (.iload_n 1, 1) := by decide +kernel
theorem dX12_newcomer_126 : decode cX12_newcomer 126 = .ok (.iastore, 1) := by decide +kernel
theorem dX12_newcomer_127 : decode cX12_newcomer 127 = .ok (.aload_n 0, 1) := by decide +kernel
theorem dX12_newcomer_128 : decode cX12_newcomer 128 = .ok (.getfield 75, 3) := by decide +kernel
theorem dX12_newcomer_131 : decode cX12_newcomer 131 = .ok (.bipush 57, 2) := by decide +kernel
theorem dX12_newcomer_133 : decode cX12_newcomer 133 = .ok (.iconst 4, 1) := by decide +kernel
theorem dX12_newcomer_134 : decode cX12_newcomer 134 = .ok (.iload 9, 2) := by decide +kernel
theorem dX12_newcomer_136 : decode cX12_newcomer 136 = .ok (.imul, 1) := by decide +kernel
theorem dX12_newcomer_137 : decode cX12_newcomer 137 = .ok (.iadd, 1) := by decide +kernel
theorem dX12_newcomer_138 : decode cX12_newcomer 138 = .ok (.iconst 1, 1) := by decide +kernel
theorem dX12_newcomer_139 : decode cX12_newcomer 139 = .ok (.iadd, 1) := by decide +kernel
theorem dX12_newcomer_140 : decode cX12_newcomer 140 = .ok (.iload_n 2, 1) := by decide +kernel
theorem dX12_newcomer_141 : decode cX12_newcomer 141 = .ok (.iastore, 1) := by decide +kernel
theorem dX12_newcomer_142 : decode cX12_newcomer 142 = .ok (.aload_n 0, 1) := by decide +kernel
theorem dX12_newcomer_143 : decode cX12_newcomer 143 = .ok (.getfield 75, 3) := by decide +kernel
theorem dX12_newcomer_146 : decode cX12_newcomer 146 = .ok (.bipush 57, 2) := by decide +kernel
theorem dX12_newcomer_148 : decode cX12_newcomer 148 = .ok (.iconst 4, 1) := by decide +kernel
theorem dX12_newcomer_149 : decode cX12_newcomer 149 = .ok (.iload 9, 2) := by decide +kernel
theorem dX12_newcomer_151 : decode cX12_newcomer 151 = .ok (.imul, 1) := by decide +kernel
theorem dX12_newcomer_152 : decode cX12_newcomer 152 = .ok (.iadd, 1) := by decide +kernel
theorem dX12_newcomer_153 : decode cX12_newcomer 153 = .ok (.iconst 2, 1) := by decide +kernel
theorem dX12_newcomer_154 : decode cX12_newcomer 154 = .ok (.iadd, 1) := by decide +kernel
theorem dX12_newcomer_155 : decode cX12_newcomer 155 = .ok (.iload_n 3, 1) := by decide +kernel
theorem dX12_newcomer_156 : decode cX12_newcomer 156 = .ok (.iastore, 1) := by decide +kernel
theorem dX12_newcomer_157 : decode cX12_newcomer 157 = .ok (.aload_n 0, 1) := by decide +kernel
theorem dX12_newcomer_158 : decode cX12_newcomer 158 = .ok (.getfield 75, 3) := by decide +kernel
theorem dX12_newcomer_161 : decode cX12_newcomer 161 = .ok (.bipush 57, 2) := by decide +kernel
theorem dX12_newcomer_163 : decode cX12_newcomer 163 = .ok (.iconst 4, 1) := by decide +kernel
theorem dX12_newcomer_164 : decode cX12_newcomer 164 = .ok (.iload 9, 2) := by decide +kernel
theorem dX12_newcomer_166 : decode cX12_newcomer 166 = .ok (.imul, 1) := by decide +kernel
theorem dX12_newcomer_167 : decode cX12_newcomer 167 = .ok (.iadd, 1) := by decide +kernel
theorem dX12_newcomer_168 : decode cX12_newcomer 168 = .ok (.iconst 3, 1) := by decide +kernel
theorem dX12_newcomer_169 : decode cX12_newcomer 169 = .ok (.iadd, 1) := by decide +kernel
theorem dX12_newcomer_170 : decode cX12_newcomer 170 = .ok (.iload 4, 2) := by decide +kernel
theorem dX12_newcomer_172 : decode cX12_newcomer 172 = .ok (.iastore, 1) := by decide +kernel
theorem dX12_newcomer_173 : decode cX12_newcomer 173 = .ok (.aload_n 0, 1) := by decide +kernel
theorem dX12_newcomer_174 : decode cX12_newcomer 174 = .ok (.iconst 1, 1) := by decide +kernel
theorem dX12_newcomer_175 : decode cX12_newcomer 175 = .ok (.putfield 270, 3) := by decide +kernel
theorem dX12_newcomer_178 : decode cX12_newcomer 178 = .ok (.aload_n 0, 1) := by decide +kernel
theorem dX12_newcomer_179 : decode cX12_newcomer 179 = .ok (.invokevirtual 349, 3) := by decide +kernel
theorem dX12_newcomer_182 : decode cX12_newcomer 182 = .ok (.aload_n 0, 1) := by decide +kernel
theorem dX12_newcomer_183 : decode cX12_newcomer 183 = .ok (.getfield 99, 3) := by decide +kernel
theorem dX12_newcomer_186 : decode cX12_newcomer 186 = .ok (.bipush 117, 2) := by decide +kernel
theorem dX12_newcomer_188 : decode cX12_newcomer 188 = .ok (.iload 9, 2) := by decide +kernel
theorem dX12_newcomer_190 : decode cX12_newcomer 190 = .ok (.iadd, 1) := by decide +kernel
theorem dX12_newcomer_191 : decode cX12_newcomer 191 = .ok (.iconst 0, 1) := by decide +kernel
theorem dX12_newcomer_192 : decode cX12_newcomer 192 = .ok (.iastore, 1) := by decide +kernel
theorem dX12_newcomer_193 : decode cX12_newcomer 193 = .ok (.iconst 0, 1) := by decide +kernel
theorem dX12_newcomer_194 : decode cX12_newcomer 194 = .ok (.istore 10, 2) := by decide +kernel
theorem dX12_newcomer_196 : decode cX12_newcomer 196 = .ok (.iload 10, 2) := by decide +kernel
theorem dX12_newcomer_198 : decode cX12_newcomer 198 = .ok (.iload 5, 2) := by decide +kernel
theorem dX12_newcomer_200 : decode cX12_newcomer 200 = .ok (.if_icmp .ge 13, 3) := by decide +kernel
theorem dX12_newcomer_203 : decode cX12_newcomer 203 = .ok (.aload_n 0, 1) := by decide +kernel
theorem dX12_newcomer_204 : decode cX12_newcomer 204 = .ok (.invokevirtual 346, 3) := by decide +kernel
theorem dX12_newcomer_207 : decode cX12_newcomer 207 = .ok (.iinc 10 1, 3) := by decide +kernel
theorem dX12_newcomer_210 : decode cX12_newcomer 210 = .ok (.goto (-14), 3) := by decide +kernel
theorem dX12_newcomer_213 : decode cX12_newcomer 213 = .ok (.aload_n 0, 1) := by decide +kernel
theorem dX12_newcomer_214 : decode cX12_newcomer 214 = .ok (.invokevirtual 359, 3) := by decide +kernel
theorem dX12_newcomer_217 : decode cX12_newcomer 217 = .ok (.iload 8, 2) := by decide +kernel
theorem dX12_newcomer_219 : decode cX12_newcomer 219 = .ok (.isub, 1) := by decide +kernel
theorem dX12_newcomer_220 : decode cX12_newcomer 220 = .ok (.istore 10, 2) := by decide +kernel
theorem dX12_newcomer_222 : decode cX12_newcomer 222 = .ok (.aload_n 0, 1) := by decide +kernel
theorem dX12_newcomer_223 : decode cX12_newcomer 223 = .ok (.getfield 99, 3) := by decide +kernel
theorem dX12_newcomer_226 : decode cX12_newcomer 226 = .ok (.bipush 117, 2) := by decide +kernel
theorem dX12_newcomer_228 : decode cX12_newcomer 228 = .ok (.iload 9, 2) := by decide +kernel
theorem dX12_newcomer_230 : decode cX12_newcomer 230 = .ok (.iadd, 1) := by decide +kernel
theorem dX12_newcomer_231 : decode cX12_newcomer 231 = .ok (.iaload, 1) := by decide +kernel
theorem dX12_newcomer_232 : decode cX12_newcomer 232 = .ok (.istore 11, 2) := by decide +kernel
theorem dX12_newcomer_234 : decode cX12_newcomer 234 = .ok (.aload_n 0, 1) := by decide +kernel
theorem dX12_newcomer_235 : decode cX12_newcomer 235 = .ok (.invokevirtual 352, 3) := by decide +kernel
theorem dX12_newcomer_238 : decode cX12_newcomer 238 = .ok (.iload 6, 2) := by decide +kernel
theorem dX12_newcomer_240 : decode cX12_newcomer 240 = .ok (.ifCond .ne 8, 3) := by decide +kernel
theorem dX12_newcomer_243 : decode cX12_newcomer 243 = .ok (.iload 10, 2) := by decide +kernel
theorem dX12_newcomer_245 : decode cX12_newcomer 245 = .ok (.goto 5, 3) := by decide +kernel
theorem dX12_newcomer_248 : decode cX12_newcomer 248 = .ok (.iload 11, 2) := by decide +kernel
theorem dX12_newcomer_250 : decode cX12_newcomer 250 = .ok (.ireturn, 1) := by decide +kernel
theorem dX12_swept_0 : decode cX12_swept 0 = .ok (.aload_n 0, 1) := by decide +kernel
theorem dX12_swept_1 : decode cX12_swept 1 = .ok (.aload_n 0, 1) := by decide +kernel
theorem dX12_swept_2 : decode cX12_swept 2 = .ok (.iload_n 1, 1) := by decide +kernel
theorem dX12_swept_3 : decode cX12_swept 3 = .ok (.invokevirtual 337, 3) := by decide +kernel
theorem dX12_swept_6 : decode cX12_swept 6 = .ok (.ifCond .eq 14, 3) := by decide +kernel
theorem dX12_swept_9 : decode cX12_swept 9 = .ok (.iload_n 2, 1) := by decide +kernel
theorem dX12_swept_10 : decode cX12_swept 10 = .ok (.invokestatic 343, 3) := by decide +kernel
theorem dX12_swept_13 : decode cX12_swept 13 = .ok (.ifCond .eq 7, 3) := by decide +kernel
theorem dX12_swept_16 : decode cX12_swept 16 = .ok (.iconst 0, 1) := by decide +kernel
theorem dX12_swept_17 : decode cX12_swept 17 = .ok (.goto 4, 3) := by decide +kernel
theorem dX12_swept_20 : decode cX12_swept 20 = .ok (.iconst 1, 1) := by decide +kernel
theorem dX12_swept_21 : decode cX12_swept 21 = .ok (.putfield 1, 3) := by decide +kernel
theorem dX12_swept_24 : decode cX12_swept 24 = .ok (.aload_n 0, 1) := by decide +kernel
theorem dX12_swept_25 : decode cX12_swept 25 = .ok (.getfield 1, 3) := by decide +kernel
theorem dX12_swept_28 : decode cX12_swept 28 = .ok (.ifCond .le 5, 3) := by decide +kernel
theorem dX12_swept_31 : decode cX12_swept 31 = .ok (.iconst 0, 1) := by decide +kernel
theorem dX12_swept_32 : decode cX12_swept 32 = .ok (.ireturn, 1) := by decide +kernel
theorem dX12_swept_33 : decode cX12_swept 33 = .ok (.aload_n 0, 1) := by decide +kernel
theorem dX12_swept_34 : decode cX12_swept 34 = .ok (.iload_n 2, 1) := by decide +kernel
theorem dX12_swept_35 : decode cX12_swept 35 = .ok (.invokevirtual 362, 3) := by decide +kernel
theorem dX12_swept_38 : decode cX12_swept 38 = .ok (.istore_n 3, 1) := by decide +kernel
theorem dX12_swept_39 : decode cX12_swept 39 = .ok (.aload_n 0, 1) := by decide +kernel
theorem dX12_swept_40 : decode cX12_swept 40 = .ok (.iload_n 1, 1) := by decide +kernel
theorem dX12_swept_41 : decode cX12_swept 41 = .ok (.putfield 109, 3) := by decide +kernel
theorem dX12_swept_44 : decode cX12_swept 44 = .ok (.aload_n 0, 1) := by decide +kernel
theorem dX12_swept_45 : decode cX12_swept 45 = .ok (.iload_n 2, 1) := by decide +kernel
theorem dX12_swept_46 : decode cX12_swept 46 = .ok (.invokevirtual 362, 3) := by decide +kernel
theorem dX12_swept_49 : decode cX12_swept 49 = .ok (.iload_n 3, 1) := by decide +kernel
theorem dX12_swept_50 : decode cX12_swept 50 = .ok (.isub, 1) := by decide +kernel
theorem dX12_swept_51 : decode cX12_swept 51 = .ok (.ireturn, 1) := by decide +kernel
theorem dX12_told_0 : decode cX12_told 0 = .ok (.aload_n 0, 1) := by decide +kernel
theorem dX12_told_1 : decode cX12_told 1 = .ok (.iconst 0, 1) := by decide +kernel
theorem dX12_told_2 : decode cX12_told 2 = .ok (.putfield 1, 3) := by decide +kernel
theorem dX12_told_5 : decode cX12_told 5 = .ok (.aload_n 0, 1) := by decide +kernel
theorem dX12_told_6 : decode cX12_told 6 = .ok (.iload_n 1, 1) := by decide +kernel
theorem dX12_told_7 : decode cX12_told 7 = .ok (.invokevirtual 330, 3) := by decide +kernel
theorem dX12_told_10 : decode cX12_told 10 = .ok (.ifCond .eq 14, 3) := by decide +kernel
theorem dX12_told_13 : decode cX12_told 13 = .ok (.iload_n 2, 1) := by decide +kernel
theorem dX12_told_14 : decode cX12_told 14 = .ok (.iconst 0, 1) := by decide +kernel
theorem dX12_told_15 : decode cX12_told 15 = .ok (.sipush 9999, 3) := by decide +kernel
theorem dX12_told_18 : decode cX12_told 18 = .ok (.invokestatic 333, 3) := by decide +kernel
theorem dX12_told_21 : decode cX12_told 21 = .ok (.ifCond .ne 5, 3) := by decide +kernel
theorem dX12_told_24 : decode cX12_told 24 = .ok (.iconst 0, 1) := by decide +kernel
theorem dX12_told_25 : decode cX12_told 25 = .ok (.ireturn, 1) := by decide +kernel
theorem dX12_told_26 : decode cX12_told 26 = .ok (.aload_n 0, 1) := by decide +kernel
theorem dX12_told_27 : decode cX12_told 27 = .ok (.getfield 99, 3) := by decide +kernel
theorem dX12_told_30 : decode cX12_told 30 = .ok (.sipush 128, 3) := by decide +kernel
theorem dX12_told_33 : decode cX12_told 33 = .ok (.iload_n 1, 1) := by decide +kernel
theorem dX12_told_34 : decode cX12_told 34 = .ok (.iadd, 1) := by decide +kernel
theorem dX12_told_35 : decode cX12_told 35 = .ok (.iload_n 2, 1) := by decide +kernel
theorem dX12_told_36 : decode cX12_told 36 = .ok (.iastore, 1) := by decide +kernel
theorem dX12_told_37 : decode cX12_told 37 = .ok (.iconst 1, 1) := by decide +kernel
theorem dX12_told_38 : decode cX12_told 38 = .ok (.ireturn, 1) := by decide +kernel
theorem dX12_isSo_0 : decode cX12_isSo 0 = .ok (.iconst 1, 1) := by decide +kernel
theorem dX12_isSo_1 : decode cX12_isSo 1 = .ok (.istore_n 3, 1) := by decide +kernel
theorem dX12_isSo_2 : decode cX12_isSo 2 = .ok (.iconst 0, 1) := by decide +kernel
theorem dX12_isSo_3 : decode cX12_isSo 3 = .ok (.istore 4, 2) := by decide +kernel
theorem dX12_isSo_5 : decode cX12_isSo 5 = .ok (.iload 4, 2) := by decide +kernel
theorem dX12_isSo_7 : decode cX12_isSo 7 = .ok (.aload_n 0, 1) := by decide +kernel
theorem dX12_isSo_8 : decode cX12_isSo 8 = .ok (.invokevirtual 273, 3) := by decide +kernel
theorem dX12_isSo_11 : decode cX12_isSo 11 = .ok (.if_icmp .ge 105, 3) := by decide +kernel
theorem dX12_isSo_14 : decode cX12_isSo 14 = .ok (.iconst 0, 1) := by decide +kernel
theorem dX12_isSo_15 : decode cX12_isSo 15 = .ok (.istore 5, 2) := by decide +kernel
theorem dX12_isSo_17 : decode cX12_isSo 17 = .ok (.iconst 0, 1) := by decide +kernel
theorem dX12_isSo_18 : decode cX12_isSo 18 = .ok (.istore 6, 2) := by decide +kernel
theorem dX12_isSo_20 : decode cX12_isSo 20 = .ok (.iload 6, 2) := by decide +kernel
theorem dX12_isSo_22 : decode cX12_isSo 22 = .ok (.aload_n 0, 1) := by decide +kernel
theorem dX12_isSo_23 : decode cX12_isSo 23 = .ok (.invokevirtual 276, 3) := by decide +kernel
theorem dX12_isSo_26 : decode cX12_isSo 26 = .ok (.if_icmp .ge 58, 3) := by decide +kernel
theorem dX12_isSo_29 : decode cX12_isSo 29 = .ok (.iload 5, 2) := by decide +kernel
theorem dX12_isSo_31 : decode cX12_isSo 31 = .ok (.iload_n 2, 1) := by decide +kernel
theorem dX12_isSo_32 : decode cX12_isSo 32 = .ok (.iload 6, 2) := by decide +kernel
theorem dX12_isSo_34 : decode cX12_isSo 34 = .ok (.ishr, 1) := by decide +kernel
theorem dX12_isSo_35 : decode cX12_isSo 35 = .ok (.iconst 1, 1) := by decide +kernel
theorem dX12_isSo_36 : decode cX12_isSo 36 = .ok (.iand, 1) := by decide +kernel
theorem dX12_isSo_37 : decode cX12_isSo 37 = .ok (.iconst 1, 1) := by decide +kernel
theorem dX12_isSo_38 : decode cX12_isSo 38 = .ok (.if_icmp .ne 36, 3) := by decide +kernel
theorem dX12_isSo_41 : decode cX12_isSo 41 = .ok (.aload_n 0, 1) := by decide +kernel
theorem dX12_isSo_42 : decode cX12_isSo 42 = .ok (.iload 6, 2) := by decide +kernel
theorem dX12_isSo_44 : decode cX12_isSo 44 = .ok (.iconst 2, 1) := by decide +kernel
theorem dX12_isSo_45 : decode cX12_isSo 45 = .ok (.invokevirtual 294, 3) := by decide +kernel
theorem dX12_isSo_48 : decode cX12_isSo 48 = .ok (.iload 4, 2) := by decide +kernel
theorem dX12_isSo_50 : decode cX12_isSo 50 = .ok (.if_icmp .ne 24, 3) := by decide +kernel
theorem dX12_isSo_53 : decode cX12_isSo 53 = .ok (.aload_n 0, 1) := by decide +kernel
theorem dX12_isSo_54 : decode cX12_isSo 54 = .ok (.iload 6, 2) := by decide +kernel
theorem dX12_isSo_56 : decode cX12_isSo 56 = .ok (.iconst 3, 1) := by decide +kernel
theorem dX12_isSo_57 : decode cX12_isSo 57 = .ok (.invokevirtual 294, 3) := by decide +kernel
theorem dX12_isSo_60 : decode cX12_isSo 60 = .ok (.aload_n 0, 1) := by decide +kernel
theorem dX12_isSo_61 : decode cX12_isSo 61 = .ok (.iload_n 1, 1) := by decide +kernel
theorem dX12_isSo_62 : decode cX12_isSo 62 = .ok (.iload 4, 2) := by decide +kernel
theorem dX12_isSo_64 : decode cX12_isSo 64 = .ok (.invokevirtual 323, 3) := by decide +kernel
theorem dX12_isSo_67 : decode cX12_isSo 67 = .ok (.imul, 1) := by decide +kernel
theorem dX12_isSo_68 : decode cX12_isSo 68 = .ok (.bipush 100, 2) := by decide +kernel
theorem dX12_isSo_70 : decode cX12_isSo 70 = .ok (.idiv, 1) := by decide +kernel
theorem dX12_isSo_71 : decode cX12_isSo 71 = .ok (.goto 4, 3) := by decide +kernel
theorem dX12_isSo_74 : decode cX12_isSo 74 = .ok (.iconst 0, 1) := by decide +kernel
theorem dX12_isSo_75 : decode cX12_isSo 75 = .ok (.iadd, 1) := by decide +kernel
theorem dX12_isSo_76 : decode cX12_isSo 76 = .ok (.istore 5, 2) := by decide +kernel
theorem dX12_isSo_78 : decode cX12_isSo 78 = .ok (.iinc 6 1, 3) := by decide +kernel
theorem dX12_isSo_81 : decode cX12_isSo 81 = .ok (.goto (-61), 3) := by decide +kernel
theorem dX12_isSo_84 : decode cX12_isSo 84 = .ok (.iload_n 3, 1) := by decide +kernel
theorem dX12_isSo_85 : decode cX12_isSo 85 = .ok (.ifCond .eq 23, 3) := by decide +kernel
theorem dX12_isSo_88 : decode cX12_isSo 88 = .ok (.iload 5, 2) := by decide +kernel
theorem dX12_isSo_90 : decode cX12_isSo 90 = .ok (.aload_n 0, 1) := by decide +kernel
theorem dX12_isSo_91 : decode cX12_isSo 91 = .ok (.getfield 99, 3) := by decide +kernel
theorem dX12_isSo_94 : decode cX12_isSo 94 = .ok (.sipush 128, 3) := by decide +kernel
theorem dX12_isSo_97 : decode cX12_isSo 97 = .ok (.iload 4, 2) := by decide +kernel
theorem dX12_isSo_99 : decode cX12_isSo 99 = .ok (.iadd, 1) := by decide +kernel
theorem dX12_isSo_100 : decode cX12_isSo 100 = .ok (.iaload, 1) := by decide +kernel
theorem dX12_isSo_101 : decode cX12_isSo 101 = .ok (.if_icmp .ne 7, 3) := by decide +kernel
theorem dX12_isSo_104 : decode cX12_isSo 104 = .ok (.iconst 1, 1) := by decide +kernel
theorem dX12_isSo_105 : decode cX12_isSo 105 = .ok (.goto 4, 3) := by decide +kernel
theorem dX12_isSo_108 : decode cX12_isSo 108 = .ok (.iconst 0, 1) := by decide +kernel
theorem dX12_isSo_109 : decode cX12_isSo 109 = .ok (.istore_n 3, 1) := by decide +kernel
theorem dX12_isSo_110 : decode cX12_isSo 110 = .ok (.iinc 4 1, 3) := by decide +kernel
theorem dX12_isSo_113 : decode cX12_isSo 113 = .ok (.goto (-108), 3) := by decide +kernel
theorem dX12_isSo_116 : decode cX12_isSo 116 = .ok (.iload_n 3, 1) := by decide +kernel
theorem dX12_isSo_117 : decode cX12_isSo 117 = .ok (.ireturn, 1) := by decide +kernel
theorem dX12_went_0 : decode cX12_went 0 = .ok (.aload_n 0, 1) := by decide +kernel
theorem dX12_went_1 : decode cX12_went 1 = .ok (.iconst 0, 1) := by decide +kernel
theorem dX12_went_2 : decode cX12_went 2 = .ok (.putfield 1, 3) := by decide +kernel
theorem dX12_went_5 : decode cX12_went 5 = .ok (.aload_n 0, 1) := by decide +kernel
theorem dX12_went_6 : decode cX12_went 6 = .ok (.iload_n 1, 1) := by decide +kernel
theorem dX12_went_7 : decode cX12_went 7 = .ok (.invokevirtual 337, 3) := by decide +kernel
theorem dX12_went_10 : decode cX12_went 10 = .ok (.ifCond .eq 12, 3) := by decide +kernel
theorem dX12_went_13 : decode cX12_went 13 = .ok (.iload_n 2, 1) := by decide +kernel
theorem dX12_went_14 : decode cX12_went 14 = .ok (.iconst 0, 1) := by decide +kernel
theorem dX12_went_15 : decode cX12_went 15 = .ok (.iconst 2, 1) := by decide +kernel
theorem dX12_went_16 : decode cX12_went 16 = .ok (.invokestatic 333, 3) := by decide +kernel
theorem dX12_went_19 : decode cX12_went 19 = .ok (.ifCond .ne 5, 3) := by decide +kernel
theorem dX12_went_22 : decode cX12_went 22 = .ok (.iconst (-1), 1) := by decide +kernel
theorem dX12_went_23 : decode cX12_went 23 = .ok (.ireturn, 1) := by decide +kernel
theorem dX12_went_24 : decode cX12_went 24 = .ok (.iconst (-1), 1) := by decide +kernel
theorem dX12_went_25 : decode cX12_went 25 = .ok (.istore_n 3, 1) := by decide +kernel
theorem dX12_went_26 : decode cX12_went 26 = .ok (.iconst 0, 1) := by decide +kernel
theorem dX12_went_27 : decode cX12_went 27 = .ok (.istore 4, 2) := by decide +kernel
theorem dX12_went_29 : decode cX12_went 29 = .ok (.iconst 1, 1) := by decide +kernel
theorem dX12_went_30 : decode cX12_went 30 = .ok (.aload_n 0, 1) := by decide +kernel
theorem dX12_went_31 : decode cX12_went 31 = .ok (.invokevirtual 276, 3) := by decide +kernel
theorem dX12_went_34 : decode cX12_went 34 = .ok (.ishl, 1) := by decide +kernel
theorem dX12_went_35 : decode cX12_went 35 = .ok (.iconst 1, 1) := by decide +kernel
theorem dX12_went_36 : decode cX12_went 36 = .ok (.isub, 1) := by decide +kernel
theorem dX12_went_37 : decode cX12_went 37 = .ok (.istore 5, 2) := by decide +kernel
theorem dX12_went_39 : decode cX12_went 39 = .ok (.iconst 0, 1) := by decide +kernel
theorem dX12_went_40 : decode cX12_went 40 = .ok (.istore 6, 2) := by decide +kernel
theorem dX12_went_42 : decode cX12_went 42 = .ok (.iload 6, 2) := by decide +kernel
theorem dX12_went_44 : decode cX12_went 44 = .ok (.iconst 1, 1) := by decide +kernel
theorem dX12_went_45 : decode cX12_went 45 = .ok (.aload_n 0, 1) := by decide +kernel
theorem dX12_went_46 : decode cX12_went 46 = .ok (.invokevirtual 276, 3) := by decide +kernel
theorem dX12_went_49 : decode cX12_went 49 = .ok (.ishl, 1) := by decide +kernel
theorem dX12_went_50 : decode cX12_went 50 = .ok (.if_icmp .ge 40, 3) := by decide +kernel
theorem dX12_went_53 : decode cX12_went 53 = .ok (.aload_n 0, 1) := by decide +kernel
theorem dX12_went_54 : decode cX12_went 54 = .ok (.iload_n 1, 1) := by decide +kernel
theorem dX12_went_55 : decode cX12_went 55 = .ok (.iload 6, 2) := by decide +kernel
theorem dX12_went_57 : decode cX12_went 57 = .ok (.invokevirtual 368, 3) := by decide +kernel
theorem dX12_went_60 : decode cX12_went 60 = .ok (.ifCond .eq 24, 3) := by decide +kernel
theorem dX12_went_63 : decode cX12_went 63 = .ok (.iload_n 3, 1) := by decide +kernel
theorem dX12_went_64 : decode cX12_went 64 = .ok (.ifCond .ge 8, 3) := by decide +kernel
theorem dX12_went_67 : decode cX12_went 67 = .ok (.iload 6, 2) := by decide +kernel
theorem dX12_went_69 : decode cX12_went 69 = .ok (.goto 4, 3) := by decide +kernel
theorem dX12_went_72 : decode cX12_went 72 = .ok (.iload_n 3, 1) := by decide +kernel
theorem dX12_went_73 : decode cX12_went 73 = .ok (.istore_n 3, 1) := by decide +kernel
theorem dX12_went_74 : decode cX12_went 74 = .ok (.iload 5, 2) := by decide +kernel
theorem dX12_went_76 : decode cX12_went 76 = .ok (.iload 6, 2) := by decide +kernel
theorem dX12_went_78 : decode cX12_went 78 = .ok (.iand, 1) := by decide +kernel
theorem dX12_went_79 : decode cX12_went 79 = .ok (.istore 5, 2) := by decide +kernel
theorem dX12_went_81 : decode cX12_went 81 = .ok (.iinc 4 1, 3) := by decide +kernel
theorem dX12_went_84 : decode cX12_went 84 = .ok (.iinc 6 1, 3) := by decide +kernel
theorem dX12_went_87 : decode cX12_went 87 = .ok (.goto (-45), 3) := by decide +kernel
theorem dX12_went_90 : decode cX12_went 90 = .ok (.iload 4, 2) := by decide +kernel
theorem dX12_went_92 : decode cX12_went 92 = .ok (.ifCond .ne 7, 3) := by decide +kernel
theorem dX12_went_95 : decode cX12_went 95 = .ok (.iconst (-1), 1) := by decide +kernel
theorem dX12_went_96 : decode cX12_went 96 = .ok (.goto 23, 3) := by decide +kernel
theorem dX12_went_99 : decode cX12_went 99 = .ok (.iload_n 2, 1) := by decide +kernel
theorem dX12_went_100 : decode cX12_went 100 = .ok (.ifCond .ne 7, 3) := by decide +kernel
theorem dX12_went_103 : decode cX12_went 103 = .ok (.iload_n 3, 1) := by decide +kernel
theorem dX12_went_104 : decode cX12_went 104 = .ok (.goto 15, 3) := by decide +kernel
theorem dX12_went_107 : decode cX12_went 107 = .ok (.iload_n 2, 1) := by decide +kernel
theorem dX12_went_108 : decode cX12_went 108 = .ok (.iconst 1, 1) := by decide +kernel
theorem dX12_went_109 : decode cX12_went 109 = .ok (.if_icmp .ne 8, 3) := by decide +kernel
theorem dX12_went_112 : decode cX12_went 112 = .ok (.iload 4, 2) := by decide +kernel
theorem dX12_went_114 : decode cX12_went 114 = .ok (.goto 5, 3) := by decide +kernel
theorem dX12_went_117 : decode cX12_went 117 = .ok (.iload 5, 2) := by decide +kernel
theorem dX12_went_119 : decode cX12_went 119 = .ok (.ireturn, 1) := by decide +kernel
theorem dX12_draw_0 : decode cX12_draw 0 = .ok (.aload_n 0, 1) := by decide +kernel
theorem dX12_draw_1 : decode cX12_draw 1 = .ok (.aload_n 0, 1) := by decide +kernel
theorem dX12_draw_2 : decode cX12_draw 2 = .ok (.getfield 372, 3) := by decide +kernel
theorem dX12_draw_5 : decode cX12_draw 5 = .ok (.ldc2_w 376, 3) := by decide +kernel
theorem dX12_draw_8 : decode cX12_draw 8 = .ok (.lmul, 1) := by decide +kernel
theorem dX12_draw_9 : decode cX12_draw 9 = .ok (.ldc2_w 378, 3) := by decide +kernel
theorem dX12_draw_12 : decode cX12_draw 12 = .ok (.ladd, 1) := by decide +kernel
theorem dX12_draw_13 : decode cX12_draw 13 = .ok (.ldc2_w 380, 3) := by decide +kernel
theorem dX12_draw_16 : decode cX12_draw 16 = .ok (.lrem, 1) := by decide +kernel
theorem dX12_draw_17 : decode cX12_draw 17 = .ok (.putfield 372, 3) := by decide +kernel
theorem dX12_draw_20 : decode cX12_draw 20 = .ok (.aload_n 0, 1) := by decide +kernel
theorem dX12_draw_21 : decode cX12_draw 21 = .ok (.getfield 372, 3) := by decide +kernel
theorem dX12_draw_24 : decode cX12_draw 24 = .ok (.ldc2_w 382, 3) := by decide +kernel
theorem dX12_draw_27 : decode cX12_draw 27 = .ok (.ldiv, 1) := by decide +kernel
theorem dX12_draw_28 : decode cX12_draw 28 = .ok (.iload_n 1, 1) := by decide +kernel
theorem dX12_draw_29 : decode cX12_draw 29 = .ok (.i2l, 1) := by decide +kernel
theorem dX12_draw_30 : decode cX12_draw 30 = .ok (.lrem, 1) := by decide +kernel
theorem dX12_draw_31 : decode cX12_draw 31 = .ok (.l2i, 1) := by decide +kernel
theorem dX12_draw_32 : decode cX12_draw 32 = .ok (.ireturn, 1) := by decide +kernel
theorem dX12_wars_0 : decode cX12_wars 0 = .ok (.aload_n 0, 1) := by decide +kernel
theorem dX12_wars_1 : decode cX12_wars 1 = .ok (.iconst 0, 1) := by decide +kernel
theorem dX12_wars_2 : decode cX12_wars 2 = .ok (.putfield 1, 3) := by decide +kernel
theorem dX12_wars_5 : decode cX12_wars 5 = .ok (.iload_n 1, 1) := by decide +kernel
theorem dX12_wars_6 : decode cX12_wars 6 = .ok (.iconst 0, 1) := by decide +kernel
theorem dX12_wars_7 : decode cX12_wars 7 = .ok (.sipush 9999, 3) := by decide +kernel
theorem dX12_wars_10 : decode cX12_wars 10 = .ok (.invokestatic 333, 3) := by decide +kernel
theorem dX12_wars_13 : decode cX12_wars 13 = .ok (.ifCond .eq 37, 3) := by decide +kernel
theorem dX12_wars_16 : decode cX12_wars 16 = .ok (.iload_n 2, 1) := by decide +kernel
theorem dX12_wars_17 : decode cX12_wars 17 = .ok (.iconst 1, 1) := by decide +kernel
theorem dX12_wars_18 : decode cX12_wars 18 = .ok (.bipush 20, 2) := by decide +kernel
theorem dX12_wars_20 : decode cX12_wars 20 = .ok (.invokestatic 333, 3) := by decide +kernel
theorem dX12_wars_23 : decode cX12_wars 23 = .ok (.ifCond .eq 27, 3) := by decide +kernel
theorem dX12_wars_26 : decode cX12_wars 26 = .ok (.iload_n 3, 1) := by decide +kernel
theorem dX12_wars_27 : decode cX12_wars 27 = .ok (.invokestatic 343, 3) := by decide +kernel
theorem dX12_wars_30 : decode cX12_wars 30 = .ok (.ifCond .eq 20, 3) := by decide +kernel
theorem dX12_wars_33 : decode cX12_wars 33 = .ok (.iload 4, 2) := by decide +kernel
theorem dX12_wars_35 : decode cX12_wars 35 = .ok (.iconst 0, 1) := by decide +kernel
theorem dX12_wars_36 : decode cX12_wars 36 = .ok (.iconst 1, 1) := by decide +kernel
theorem dX12_wars_37 : decode cX12_wars 37 = .ok (.invokestatic 333, 3) := by decide +kernel
theorem dX12_wars_40 : decode cX12_wars 40 = .ok (.ifCond .eq 10, 3) := by decide +kernel
theorem dX12_wars_43 : decode cX12_wars 43 = .ok (.aload_n 0, 1) := by decide +kernel
theorem dX12_wars_44 : decode cX12_wars 44 = .ok (.invokevirtual 194, 3) := by decide +kernel
theorem dX12_wars_47 : decode cX12_wars 47 = .ok (.ifCond .ne 5, 3) := by decide +kernel
theorem dX12_wars_50 : decode cX12_wars 50 = .ok (.iconst (-1), 1) := by decide +kernel
theorem dX12_wars_51 : decode cX12_wars 51 = .ok (.ireturn, 1) := by decide +kernel
theorem dX12_wars_52 : decode cX12_wars 52 = .ok (.aload_n 0, 1) := by decide +kernel
theorem dX12_wars_53 : decode cX12_wars 53 = .ok (.iload_n 1, 1) := by decide +kernel
theorem dX12_wars_54 : decode cX12_wars 54 = .ok (.i2l, 1) := by decide +kernel
theorem dX12_wars_55 : decode cX12_wars 55 = .ok (.putfield 372, 3) := by decide +kernel
theorem dX12_wars_58 : decode cX12_wars 58 = .ok (.iconst 0, 1) := by decide +kernel
theorem dX12_wars_59 : decode cX12_wars 59 = .ok (.istore 5, 2) := by decide +kernel
theorem dX12_wars_61 : decode cX12_wars 61 = .ok (.iconst 0, 1) := by decide +kernel
theorem dX12_wars_62 : decode cX12_wars 62 = .ok (.istore 6, 2) := by decide +kernel
theorem dX12_wars_64 : decode cX12_wars 64 = .ok (.iconst 0, 1) := by decide +kernel
theorem dX12_wars_65 : decode cX12_wars 65 = .ok (.istore 7, 2) := by decide +kernel
theorem dX12_wars_67 : decode cX12_wars 67 = .ok (.iload 7, 2) := by decide +kernel
theorem dX12_wars_69 : decode cX12_wars 69 = .ok (.iload_n 2, 1) := by decide +kernel
theorem dX12_wars_70 : decode cX12_wars 70 = .ok (.if_icmp .ge 157, 3) := by decide +kernel
theorem dX12_wars_73 : decode cX12_wars 73 = .ok (.aload_n 0, 1) := by decide +kernel
theorem dX12_wars_74 : decode cX12_wars 74 = .ok (.invokevirtual 349, 3) := by decide +kernel
theorem dX12_wars_77 : decode cX12_wars 77 = .ok (.iconst 0, 1) := by decide +kernel
theorem dX12_wars_78 : decode cX12_wars 78 = .ok (.istore 8, 2) := by decide +kernel
theorem dX12_wars_80 : decode cX12_wars 80 = .ok (.iload 8, 2) := by decide +kernel
theorem dX12_wars_82 : decode cX12_wars 82 = .ok (.iload_n 3, 1) := by decide +kernel
theorem dX12_wars_83 : decode cX12_wars 83 = .ok (.if_icmp .ge 117, 3) := by decide +kernel
theorem dX12_wars_86 : decode cX12_wars 86 = .ok (.aload_n 0, 1) := by decide +kernel
theorem dX12_wars_87 : decode cX12_wars 87 = .ok (.aload_n 0, 1) := by decide +kernel
theorem dX12_wars_88 : decode cX12_wars 88 = .ok (.invokevirtual 194, 3) := by decide +kernel
theorem dX12_wars_91 : decode cX12_wars 91 = .ok (.invokevirtual 384, 3) := by decide +kernel
theorem dX12_wars_94 : decode cX12_wars 94 = .ok (.istore 9, 2) := by decide +kernel
theorem dX12_wars_96 : decode cX12_wars 96 = .ok (.aload_n 0, 1) := by decide +kernel
theorem dX12_wars_97 : decode cX12_wars 97 = .ok (.getfield 99, 3) := by decide +kernel
theorem dX12_wars_100 : decode cX12_wars 100 = .ok (.iconst 1, 1) := by decide +kernel
theorem dX12_wars_101 : decode cX12_wars 101 = .ok (.iload 9, 2) := by decide +kernel
theorem dX12_wars_103 : decode cX12_wars 103 = .ok (.iadd, 1) := by decide +kernel
theorem dX12_wars_104 : decode cX12_wars 104 = .ok (.iaload, 1) := by decide +kernel
theorem dX12_wars_105 : decode cX12_wars 105 = .ok (.aload_n 0, 1) := by decide +kernel
theorem dX12_wars_106 : decode cX12_wars 106 = .ok (.sipush 500, 3) := by decide +kernel
theorem dX12_wars_109 : decode cX12_wars 109 = .ok (.invokevirtual 384, 3) := by decide +kernel
theorem dX12_wars_112 : decode cX12_wars 112 = .ok (.iadd, 1) := by decide +kernel
theorem dX12_wars_113 : decode cX12_wars 113 = .ok (.istore 10, 2) := by decide +kernel
theorem dX12_wars_115 : decode cX12_wars 115 = .ok (.aload_n 0, 1) := by decide +kernel
theorem dX12_wars_116 : decode cX12_wars 116 = .ok (.getfield 99, 3) := by decide +kernel
theorem dX12_wars_119 : decode cX12_wars 119 = .ok (.iconst 1, 1) := by decide +kernel
theorem dX12_wars_120 : decode cX12_wars 120 = .ok (.iload 9, 2) := by decide +kernel
theorem dX12_wars_122 : decode cX12_wars 122 = .ok (.iadd, 1) := by decide +kernel
theorem dX12_wars_123 : decode cX12_wars 123 = .ok (.iload 10, 2) := by decide +kernel
theorem dX12_wars_125 : decode cX12_wars 125 = .ok (.ldc_w 326, 3) := by decide +kernel
theorem dX12_wars_128 : decode cX12_wars 128 = .ok (.if_icmp .le 9, 3) := by decide +kernel
theorem dX12_wars_131 : decode cX12_wars 131 = .ok (.ldc_w 326, 3) := by decide +kernel
theorem dX12_wars_134 : decode cX12_wars 134 = .ok (.goto 5, 3) := by decide +kernel
theorem dX12_wars_137 : decode cX12_wars 137 = .ok (.iload 10, 2) := by decide +kernel
theorem dX12_wars_139 : decode cX12_wars 139 = .ok (.iastore, 1) := by decide +kernel
theorem dX12_wars_140 : decode cX12_wars 140 = .ok (.aload_n 0, 1) := by decide +kernel
theorem dX12_wars_141 : decode cX12_wars 141 = .ok (.invokevirtual 346, 3) := by decide +kernel
theorem dX12_wars_144 : decode cX12_wars 144 = .ok (.iconst 0, 1) := by decide +kernel
theorem dX12_wars_145 : decode cX12_wars 145 = .ok (.istore 11, 2) := by decide +kernel
theorem dX12_wars_147 : decode cX12_wars 147 = .ok (.iload 11, 2) := by decide +kernel
theorem dX12_wars_149 : decode cX12_wars 149 = .ok (.aload_n 0, 1) := by decide +kernel
theorem dX12_wars_150 : decode cX12_wars 150 = .ok (.invokevirtual 276, 3) := by decide +kernel
theorem dX12_wars_153 : decode cX12_wars 153 = .ok (.if_icmp .ge 41, 3) := by decide +kernel
theorem dX12_wars_156 : decode cX12_wars 156 = .ok (.iload 6, 2) := by decide +kernel
theorem dX12_wars_158 : decode cX12_wars 158 = .ok (.aload_n 0, 1) := by decide +kernel
theorem dX12_wars_159 : decode cX12_wars 159 = .ok (.getfield 99, 3) := by decide +kernel
theorem dX12_wars_162 : decode cX12_wars 162 = .ok (.bipush 111, 2) := by decide +kernel
theorem dX12_wars_164 : decode cX12_wars 164 = .ok (.iload 11, 2) := by decide +kernel
theorem dX12_wars_166 : decode cX12_wars 166 = .ok (.iadd, 1) := by decide +kernel
theorem dX12_wars_167 : decode cX12_wars 167 = .ok (.iaload, 1) := by decide +kernel
theorem dX12_wars_168 : decode cX12_wars 168 = .ok (.ifCond .le 16, 3) := by decide +kernel
theorem dX12_wars_171 : decode cX12_wars 171 = .ok (.aload_n 0, 1) := by decide +kernel
theorem dX12_wars_172 : decode cX12_wars 172 = .ok (.getfield 99, 3) := by decide +kernel
theorem dX12_wars_175 : decode cX12_wars 175 = .ok (.bipush 111, 2) := by decide +kernel
theorem dX12_wars_177 : decode cX12_wars 177 = .ok (.iload 11, 2) := by decide +kernel
theorem dX12_wars_179 : decode cX12_wars 179 = .ok (.iadd, 1) := by decide +kernel
theorem dX12_wars_180 : decode cX12_wars 180 = .ok (.iaload, 1) := by decide +kernel
theorem dX12_wars_181 : decode cX12_wars 181 = .ok (.goto 4, 3) := by decide +kernel
theorem dX12_wars_184 : decode cX12_wars 184 = .ok (.iconst 0, 1) := by decide +kernel
theorem dX12_wars_185 : decode cX12_wars 185 = .ok (.iadd, 1) := by decide +kernel
theorem dX12_wars_186 : decode cX12_wars 186 = .ok (.istore 6, 2) := by decide +kernel
theorem dX12_wars_188 : decode cX12_wars 188 = .ok (.iinc 11 1, 3) := by decide +kernel
theorem dX12_wars_191 : decode cX12_wars 191 = .ok (.goto (-44), 3) := by decide +kernel
theorem dX12_wars_194 : decode cX12_wars 194 = .ok (.iinc 8 1, 3) := by decide +kernel
theorem dX12_wars_197 : decode cX12_wars 197 = .ok (.goto (-117), 3) := by decide +kernel
theorem dX12_wars_200 : decode cX12_wars 200 = .ok (.iload 5, 2) := by decide +kernel
theorem dX12_wars_202 : decode cX12_wars 202 = .ok (.aload_n 0, 1) := by decide +kernel
theorem dX12_wars_203 : decode cX12_wars 203 = .ok (.invokevirtual 387, 3) := by decide +kernel
theorem dX12_wars_206 : decode cX12_wars 206 = .ok (.ifCond .ne 7, 3) := by decide +kernel
theorem dX12_wars_209 : decode cX12_wars 209 = .ok (.iconst 1, 1) := by decide +kernel
theorem dX12_wars_210 : decode cX12_wars 210 = .ok (.goto 4, 3) := by decide +kernel
theorem dX12_wars_213 : decode cX12_wars 213 = .ok (.iconst 0, 1) := by decide +kernel
theorem dX12_wars_214 : decode cX12_wars 214 = .ok (.iadd, 1) := by decide +kernel
theorem dX12_wars_215 : decode cX12_wars 215 = .ok (.istore 5, 2) := by decide +kernel
theorem dX12_wars_217 : decode cX12_wars 217 = .ok (.aload_n 0, 1) := by decide +kernel
theorem dX12_wars_218 : decode cX12_wars 218 = .ok (.invokevirtual 352, 3) := by decide +kernel
theorem dX12_wars_221 : decode cX12_wars 221 = .ok (.iinc 7 1, 3) := by decide +kernel
theorem dX12_wars_224 : decode cX12_wars 224 = .ok (.goto (-157), 3) := by decide +kernel
theorem dX12_wars_227 : decode cX12_wars 227 = .ok (.iload 4, 2) := by decide +kernel
theorem dX12_wars_229 : decode cX12_wars 229 = .ok (.ifCond .ne 8, 3) := by decide +kernel
theorem dX12_wars_232 : decode cX12_wars 232 = .ok (.iload 5, 2) := by decide +kernel
theorem dX12_wars_234 : decode cX12_wars 234 = .ok (.goto 5, 3) := by decide +kernel
theorem dX12_wars_237 : decode cX12_wars 237 = .ok (.iload 6, 2) := by decide +kernel
theorem dX12_wars_239 : decode cX12_wars 239 = .ok (.ireturn, 1) := by decide +kernel
theorem dX12_mark_0 : decode cX12_mark 0 = .ok (.aload_n 0, 1) := by decide +kernel
theorem dX12_mark_1 : decode cX12_mark 1 = .ok (.iconst 0, 1) := by decide +kernel
theorem dX12_mark_2 : decode cX12_mark 2 = .ok (.putfield 1, 3) := by decide +kernel
theorem dX12_mark_5 : decode cX12_mark 5 = .ok (.iload_n 1, 1) := by decide +kernel
theorem dX12_mark_6 : decode cX12_mark 6 = .ok (.iconst 0, 1) := by decide +kernel
theorem dX12_mark_7 : decode cX12_mark 7 = .ok (.iconst 3, 1) := by decide +kernel
theorem dX12_mark_8 : decode cX12_mark 8 = .ok (.invokestatic 333, 3) := by decide +kernel
theorem dX12_mark_11 : decode cX12_mark 11 = .ok (.ifCond .eq 16, 3) := by decide +kernel
theorem dX12_mark_14 : decode cX12_mark 14 = .ok (.iload_n 2, 1) := by decide +kernel
theorem dX12_mark_15 : decode cX12_mark 15 = .ok (.ifCond .eq 14, 3) := by decide +kernel
theorem dX12_mark_18 : decode cX12_mark 18 = .ok (.aload_n 0, 1) := by decide +kernel
theorem dX12_mark_19 : decode cX12_mark 19 = .ok (.getfield 102, 3) := by decide +kernel
theorem dX12_mark_22 : decode cX12_mark 22 = .ok (.iload_n 1, 1) := by decide +kernel
theorem dX12_mark_23 : decode cX12_mark 23 = .ok (.baload, 1) := by decide +kernel
theorem dX12_mark_24 : decode cX12_mark 24 = .ok (.ifCond .ne 5, 3) := by decide +kernel
theorem dX12_mark_27 : decode cX12_mark 27 = .ok (.iconst 0, 1) := by decide +kernel
theorem dX12_mark_28 : decode cX12_mark 28 = .ok (.ireturn, 1) := by decide +kernel
theorem dX12_mark_29 : decode cX12_mark 29 = .ok (.aload_n 0, 1) := by decide +kernel
theorem dX12_mark_30 : decode cX12_mark 30 = .ok (.getfield 102, 3) := by decide +kernel
theorem dX12_mark_33 : decode cX12_mark 33 = .ok (.iload_n 1, 1) := by decide +kernel
theorem dX12_mark_34 : decode cX12_mark 34 = .ok (.iconst 1, 1) := by decide +kernel
theorem dX12_mark_35 : decode cX12_mark 35 = .ok (.bastore, 1) := by decide +kernel
theorem dX12_mark_36 : decode cX12_mark 36 = .ok (.aload_n 0, 1) := by decide +kernel
theorem dX12_mark_37 : decode cX12_mark 37 = .ok (.iload_n 2, 1) := by decide +kernel
theorem dX12_mark_38 : decode cX12_mark 38 = .ok (.ifCond .eq 9, 3) := by decide +kernel
theorem dX12_mark_41 : decode cX12_mark 41 = .ok (.iconst 1, 1) := by decide +kernel
theorem dX12_mark_42 : decode cX12_mark 42 = .ok (.iload_n 1, 1) := by decide +kernel
theorem dX12_mark_43 : decode cX12_mark 43 = .ok (.iadd, 1) := by decide +kernel
theorem dX12_mark_44 : decode cX12_mark 44 = .ok (.goto 4, 3) := by decide +kernel
theorem dX12_mark_47 : decode cX12_mark 47 = .ok (.iconst 0, 1) := by decide +kernel
theorem dX12_mark_48 : decode cX12_mark 48 = .ok (.iload_n 2, 1) := by decide +kernel
theorem dX12_mark_49 : decode cX12_mark 49 = .ok (.ifCond .eq 7, 3) := by decide +kernel
theorem dX12_mark_52 : decode cX12_mark 52 = .ok (.iconst 0, 1) := by decide +kernel
theorem dX12_mark_53 : decode cX12_mark 53 = .ok (.goto 6, 3) := by decide +kernel
theorem dX12_mark_56 : decode cX12_mark 56 = .ok (.iconst 1, 1) := by decide +kernel
theorem dX12_mark_57 : decode cX12_mark 57 = .ok (.iload_n 1, 1) := by decide +kernel
theorem dX12_mark_58 : decode cX12_mark 58 = .ok (.iadd, 1) := by decide +kernel
theorem dX12_mark_59 : decode cX12_mark 59 = .ok (.sipush 2140, 3) := by decide +kernel
theorem dX12_mark_62 : decode cX12_mark 62 = .ok (.invokevirtual 262, 3) := by decide +kernel
theorem dX12_mark_65 : decode cX12_mark 65 = .ok (.iconst 1, 1) := by decide +kernel
theorem dX12_mark_66 : decode cX12_mark 66 = .ok (.ireturn, 1) := by decide +kernel
theorem dX12_count_0 : decode cX12_count 0 = .ok (.aload_n 0, 1) := by decide +kernel
theorem dX12_count_1 : decode cX12_count 1 = .ok (.iconst 0, 1) := by decide +kernel
theorem dX12_count_2 : decode cX12_count 2 = .ok (.putfield 1, 3) := by decide +kernel
theorem dX12_count_5 : decode cX12_count 5 = .ok (.iload_n 1, 1) := by decide +kernel
theorem dX12_count_6 : decode cX12_count 6 = .ok (.tableswitch 90 0 7 #[46, 51, 58, 63, 68, 75, 80, 85], 46) := by decide +kernel
theorem dX12_count_52 : decode cX12_count 52 = .ok (.aload_n 0, 1) := by decide +kernel
theorem dX12_count_53 : decode cX12_count 53 = .ok (.invokevirtual 273, 3) := by decide +kernel
theorem dX12_count_56 : decode cX12_count 56 = .ok (.ireturn, 1) := by decide +kernel
theorem dX12_count_57 : decode cX12_count 57 = .ok (.aload_n 0, 1) := by decide +kernel
theorem dX12_count_58 : decode cX12_count 58 = .ok (.getfield 75, 3) := by decide +kernel
theorem dX12_count_61 : decode cX12_count 61 = .ok (.iconst 1, 1) := by decide +kernel
theorem dX12_count_62 : decode cX12_count 62 = .ok (.iaload, 1) := by decide +kernel
theorem dX12_count_63 : decode cX12_count 63 = .ok (.ireturn, 1) := by decide +kernel
theorem dX12_count_64 : decode cX12_count 64 = .ok (.aload_n 0, 1) := by decide +kernel
theorem dX12_count_65 : decode cX12_count 65 = .ok (.invokevirtual 194, 3) := by decide +kernel
theorem dX12_count_68 : decode cX12_count 68 = .ok (.ireturn, 1) := by decide +kernel
theorem dX12_count_69 : decode cX12_count 69 = .ok (.aload_n 0, 1) := by decide +kernel
theorem dX12_count_70 : decode cX12_count 70 = .ok (.invokevirtual 276, 3) := by decide +kernel
theorem dX12_count_73 : decode cX12_count 73 = .ok (.ireturn, 1) := by decide +kernel
theorem dX12_count_74 : decode cX12_count 74 = .ok (.aload_n 0, 1) := by decide +kernel
theorem dX12_count_75 : decode cX12_count 75 = .ok (.getfield 99, 3) := by decide +kernel
theorem dX12_count_78 : decode cX12_count 78 = .ok (.iconst 0, 1) := by decide +kernel
theorem dX12_count_79 : decode cX12_count 79 = .ok (.iaload, 1) := by decide +kernel
theorem dX12_count_80 : decode cX12_count 80 = .ok (.ireturn, 1) := by decide +kernel
theorem dX12_count_81 : decode cX12_count 81 = .ok (.aload_n 0, 1) := by decide +kernel
theorem dX12_count_82 : decode cX12_count 82 = .ok (.invokevirtual 387, 3) := by decide +kernel
theorem dX12_count_85 : decode cX12_count 85 = .ok (.ireturn, 1) := by decide +kernel
theorem dX12_count_86 : decode cX12_count 86 = .ok (.aload_n 0, 1) := by decide +kernel
theorem dX12_count_87 : decode cX12_count 87 = .ok (.invokevirtual 359, 3) := by decide +kernel
theorem dX12_count_90 : decode cX12_count 90 = .ok (.ireturn, 1) := by decide +kernel
theorem dX12_count_91 : decode cX12_count 91 = .ok (.aload_n 0, 1) := by decide +kernel
theorem dX12_count_92 : decode cX12_count 92 = .ok (.getfield 11, 3) := by decide +kernel
theorem dX12_count_95 : decode cX12_count 95 = .ok (.ireturn, 1) := by decide +kernel
theorem dX12_count_96 : decode cX12_count 96 = .ok (.iconst (-1), 1) := by decide +kernel
theorem dX12_count_97 : decode cX12_count 97 = .ok (.ireturn, 1) := by decide +kernel
