theorem dX8_whyOf_2 : decode cX8_whyOf 2 = .ok (.aload_n 0, 1) := by decide +kernel
theorem dX8_whyOf_3 : decode cX8_whyOf 3 = .ok (.getfield 42, 3) := by decide +kernel
theorem dX8_whyOf_6 : decode cX8_whyOf 6 = .ok (.invokevirtual 157, 3) := by decide +kernel
theorem dX8_whyOf_9 : decode cX8_whyOf 9 = .ok (.aload_n 0, 1) := by decide +kernel
theorem dX8_whyOf_10 : decode cX8_whyOf 10 = .ok (.iload_n 2, 1) := by decide +kernel
theorem dX8_whyOf_11 : decode cX8_whyOf 11 = .ok (.aload_n 0, 1) := by decide +kernel
theorem dX8_whyOf_12 : decode cX8_whyOf 12 = .ok (.getfield 45, 3) := by decide +kernel
theorem dX8_whyOf_15 : decode cX8_whyOf 15 = .ok (.invokevirtual 157, 3) := by decide +kernel
theorem dX8_whyOf_18 : decode cX8_whyOf 18 = .ok (.aload_n 0, 1) := by decide +kernel
theorem dX8_whyOf_19 : decode cX8_whyOf 19 = .ok (.aload_n 0, 1) := by decide +kernel
theorem dX8_whyOf_20 : decode cX8_whyOf 20 = .ok (.getfield 42, 3) := by decide +kernel
theorem dX8_whyOf_23 : decode cX8_whyOf 23 = .ok (.aload_n 0, 1) := by decide +kernel
theorem dX8_whyOf_24 : decode cX8_whyOf 24 = .ok (.getfield 13, 3) := by decide +kernel
theorem dX8_whyOf_27 : decode cX8_whyOf 27 = .ok (.iload_n 1, 1) := by decide +kernel
theorem dX8_whyOf_28 : decode cX8_whyOf 28 = .ok (.iaload, 1) := by decide +kernel
theorem dX8_whyOf_29 : decode cX8_whyOf 29 = .ok (.invokevirtual 161, 3) := by decide +kernel
theorem dX8_whyOf_32 : decode cX8_whyOf 32 = .ok (.istore_n 3, 1) := by decide +kernel
theorem dX8_whyOf_33 : decode cX8_whyOf 33 = .ok (.aload_n 0, 1) := by decide +kernel
theorem dX8_whyOf_34 : decode cX8_whyOf 34 = .ok (.aload_n 0, 1) := by decide +kernel
theorem dX8_whyOf_35 : decode cX8_whyOf 35 = .ok (.getfield 45, 3) := by decide +kernel
theorem dX8_whyOf_38 : decode cX8_whyOf 38 = .ok (.aload_n 0, 1) := by decide +kernel
theorem dX8_whyOf_39 : decode cX8_whyOf 39 = .ok (.getfield 13, 3) := by decide +kernel
theorem dX8_whyOf_42 : decode cX8_whyOf 42 = .ok (.iload_n 2, 1) := by decide +kernel
theorem dX8_whyOf_43 : decode cX8_whyOf 43 = .ok (.iaload, 1) := by decide +kernel
theorem dX8_whyOf_44 : decode cX8_whyOf 44 = .ok (.invokevirtual 161, 3) := by decide +kernel
theorem dX8_whyOf_47 : decode cX8_whyOf 47 = .ok (.istore 4, 2) := by decide +kernel
theorem dX8_whyOf_49 : decode cX8_whyOf 49 = .ok (.iconst 0, 1) := by decide +kernel
theorem dX8_whyOf_50 : decode cX8_whyOf 50 = .ok (.istore 5, 2) := by decide +kernel
theorem dX8_whyOf_52 : decode cX8_whyOf 52 = .ok (.iconst 0, 1) := by decide +kernel
theorem dX8_whyOf_53 : decode cX8_whyOf 53 = .ok (.istore 6, 2) := by decide +kernel
theorem dX8_whyOf_55 : decode cX8_whyOf 55 = .ok (.iload 6, 2) := by decide +kernel
theorem dX8_whyOf_57 : decode cX8_whyOf 57 = .ok (.iload_n 3, 1) := by decide +kernel
theorem dX8_whyOf_58 : decode cX8_whyOf 58 = .ok (.if_icmp .ge 54, 3) := by decide +kernel
theorem dX8_whyOf_61 : decode cX8_whyOf 61 = .ok (.iconst 0, 1) := by decide +kernel
theorem dX8_whyOf_62 : decode cX8_whyOf 62 = .ok (.istore 7, 2) := by decide +kernel
theorem dX8_whyOf_64 : decode cX8_whyOf 64 = .ok (.iload 7, 2) := by decide +kernel
theorem dX8_whyOf_66 : decode cX8_whyOf 66 = .ok (.iload 4, 2) := by decide +kernel
theorem dX8_whyOf_68 : decode cX8_whyOf 68 = .ok (.if_icmp .ge 38, 3) := by decide +kernel
theorem dX8_whyOf_71 : decode cX8_whyOf 71 = .ok (.iload 5, 2) := by decide +kernel
theorem dX8_whyOf_73 : decode cX8_whyOf 73 = .ok (.ifCond .ne 20, 3) := by decide +kernel
theorem dX8_whyOf_76 : decode cX8_whyOf 76 = .ok (.aload_n 0, 1) := by decide +kernel
theorem dX8_whyOf_77 : decode cX8_whyOf 77 = .ok (.getfield 42, 3) := by decide +kernel
theorem dX8_whyOf_80 : decode cX8_whyOf 80 = .ok (.iload 6, 2) := by decide +kernel
theorem dX8_whyOf_82 : decode cX8_whyOf 82 = .ok (.iaload, 1) := by decide +kernel
theorem dX8_whyOf_83 : decode cX8_whyOf 83 = .ok (.aload_n 0, 1) := by decide +kernel
theorem dX8_whyOf_84 : decode cX8_whyOf 84 = .ok (.getfield 45, 3) := by decide +kernel
theorem dX8_whyOf_87 : decode cX8_whyOf 87 = .ok (.iload 7, 2) := by decide +kernel
theorem dX8_whyOf_89 : decode cX8_whyOf 89 = .ok (.iaload, 1) := by decide +kernel
theorem dX8_whyOf_90 : decode cX8_whyOf 90 = .ok (.if_icmp .ne 7, 3) := by decide +kernel
theorem dX8_whyOf_93 : decode cX8_whyOf 93 = .ok (.iconst 1, 1) := by decide +kernel
theorem dX8_whyOf_94 : decode cX8_whyOf 94 = .ok (.goto 4, 3) := by decide +kernel
theorem dX8_whyOf_97 : decode cX8_whyOf 97 = .ok (.iconst 0, 1) := by decide +kernel
theorem dX8_whyOf_98 : decode cX8_whyOf 98 = .ok (.istore 5, 2) := by decide +kernel
theorem dX8_whyOf_100 : decode cX8_whyOf 100 = .ok (.iinc 7 1, 3) := by decide +kernel
theorem dX8_whyOf_103 : decode cX8_whyOf 103 = .ok (.goto (-39), 3) := by decide +kernel
theorem dX8_whyOf_106 : decode cX8_whyOf 106 = .ok (.iinc 6 1, 3) := by decide +kernel
theorem dX8_whyOf_109 : decode cX8_whyOf 109 = .ok (.goto (-54), 3) := by decide +kernel
theorem dX8_whyOf_112 : decode cX8_whyOf 112 = .ok (.iload 5, 2) := by decide +kernel
theorem dX8_whyOf_114 : decode cX8_whyOf 114 = .ok (.ifCond .ne 5, 3) := by decide +kernel
theorem dX8_whyOf_117 : decode cX8_whyOf 117 = .ok (.iconst 1, 1) := by decide +kernel
theorem dX8_whyOf_118 : decode cX8_whyOf 118 = .ok (.ireturn, 1) := by decide +kernel
theorem dX8_whyOf_119 : decode cX8_whyOf 119 = .ok (.aload_n 0, 1) := by decide +kernel
theorem dX8_whyOf_120 : decode cX8_whyOf 120 = .ok (.iload_n 1, 1) := by decide +kernel
theorem dX8_whyOf_121 : decode cX8_whyOf 121 = .ok (.invokevirtual 136, 3) := by decide +kernel
theorem dX8_whyOf_124 : decode cX8_whyOf 124 = .ok (.i2l, 1) := by decide +kernel
theorem dX8_whyOf_125 : decode cX8_whyOf 125 = .ok (.lstore 6, 2) := by decide +kernel
theorem dX8_whyOf_127 : decode cX8_whyOf 127 = .ok (.aload_n 0, 1) := by decide +kernel
theorem dX8_whyOf_128 : decode cX8_whyOf 128 = .ok (.iload_n 2, 1) := by decide +kernel
theorem dX8_whyOf_129 : decode cX8_whyOf 129 = .ok (.invokevirtual 136, 3) := by decide +kernel
theorem dX8_whyOf_132 : decode cX8_whyOf 132 = .ok (.i2l, 1) := by decide +kernel
theorem dX8_whyOf_133 : decode cX8_whyOf 133 = .ok (.lstore 8, 2) := by decide +kernel
theorem dX8_whyOf_135 : decode cX8_whyOf 135 = .ok (.aload_n 0, 1) := by decide +kernel
theorem dX8_whyOf_136 : decode cX8_whyOf 136 = .ok (.lload 6, 2) := by decide +kernel
theorem dX8_whyOf_138 : decode cX8_whyOf 138 = .ok (.lload 8, 2) := by decide +kernel
theorem dX8_whyOf_140 : decode cX8_whyOf 140 = .ok (.invokevirtual 165, 3) := by decide +kernel
theorem dX8_whyOf_143 : decode cX8_whyOf 143 = .ok (.lstore 10, 2) := by decide +kernel
theorem dX8_whyOf_145 : decode cX8_whyOf 145 = .ok (.lload 10, 2) := by decide +kernel
theorem dX8_whyOf_147 : decode cX8_whyOf 147 = .ok (.lload 6, 2) := by decide +kernel
theorem dX8_whyOf_149 : decode cX8_whyOf 149 = .ok (.lload 8, 2) := by decide +kernel
theorem dX8_whyOf_151 : decode cX8_whyOf 151 = .ok (.lcmp, 1) := by decide +kernel
theorem dX8_whyOf_152 : decode cX8_whyOf 152 = .ok (.ifCond .ge 8, 3) := by decide +kernel
theorem dX8_whyOf_155 : decode cX8_whyOf 155 = .ok (.lload 6, 2) := by decide +kernel
theorem dX8_whyOf_157 : decode cX8_whyOf 157 = .ok (.goto 5, 3) := by decide +kernel
theorem dX8_whyOf_160 : decode cX8_whyOf 160 = .ok (.lload 8, 2) := by decide +kernel
theorem dX8_whyOf_162 : decode cX8_whyOf 162 = .ok (.lcmp, 1) := by decide +kernel
theorem dX8_whyOf_163 : decode cX8_whyOf 163 = .ok (.ifCond .le 5, 3) := by decide +kernel
theorem dX8_whyOf_166 : decode cX8_whyOf 166 = .ok (.iconst 2, 1) := by decide +kernel
theorem dX8_whyOf_167 : decode cX8_whyOf 167 = .ok (.ireturn, 1) := by decide +kernel
theorem dX8_whyOf_168 : decode cX8_whyOf 168 = .ok (.iconst 0, 1) := by decide +kernel
theorem dX8_whyOf_169 : decode cX8_whyOf 169 = .ok (.istore 12, 2) := by decide +kernel
theorem dX8_whyOf_171 : decode cX8_whyOf 171 = .ok (.aload_n 0, 1) := by decide +kernel
theorem dX8_whyOf_172 : decode cX8_whyOf 172 = .ok (.iload_n 2, 1) := by decide +kernel
theorem dX8_whyOf_173 : decode cX8_whyOf 173 = .ok (.aload_n 0, 1) := by decide +kernel
theorem dX8_whyOf_174 : decode cX8_whyOf 174 = .ok (.getfield 42, 3) := by decide +kernel
theorem dX8_whyOf_177 : decode cX8_whyOf 177 = .ok (.iload 12, 2) := by decide +kernel
theorem dX8_whyOf_179 : decode cX8_whyOf 179 = .ok (.iaload, 1) := by decide +kernel
theorem dX8_whyOf_180 : decode cX8_whyOf 180 = .ok (.invokevirtual 93, 3) := by decide +kernel
theorem dX8_whyOf_183 : decode cX8_whyOf 183 = .ok (.iconst (-1), 1) := by decide +kernel
theorem dX8_whyOf_184 : decode cX8_whyOf 184 = .ok (.if_icmp .ne 9, 3) := by decide +kernel
theorem dX8_whyOf_187 : decode cX8_whyOf 187 = .ok (.iinc 12 1, 3) := by decide +kernel
theorem dX8_whyOf_190 : decode cX8_whyOf 190 = .ok (.goto (-19), 3) := by decide +kernel
theorem dX8_whyOf_193 : decode cX8_whyOf 193 = .ok (.iconst 0, 1) := by decide +kernel
theorem dX8_whyOf_194 : decode cX8_whyOf 194 = .ok (.istore 13, 2) := by decide +kernel
theorem dX8_whyOf_196 : decode cX8_whyOf 196 = .ok (.aload_n 0, 1) := by decide +kernel
theorem dX8_whyOf_197 : decode cX8_whyOf 197 = .ok (.getfield 45, 3) := by decide +kernel
theorem dX8_whyOf_200 : decode cX8_whyOf 200 = .ok (.iload 13, 2) := by decide +kernel
theorem dX8_whyOf_202 : decode cX8_whyOf 202 = .ok (.iaload, 1) := by decide +kernel
theorem dX8_whyOf_203 : decode cX8_whyOf 203 = .ok (.aload_n 0, 1) := by decide +kernel
theorem dX8_whyOf_204 : decode cX8_whyOf 204 = .ok (.getfield 42, 3) := by decide +kernel
theorem dX8_whyOf_207 : decode cX8_whyOf 207 = .ok (.iload 12, 2) := by decide +kernel
theorem dX8_whyOf_209 : decode cX8_whyOf 209 = .ok (.iaload, 1) := by decide +kernel
theorem dX8_whyOf_210 : decode cX8_whyOf 210 = .ok (.if_icmp .eq 9, 3) := by decide +kernel
theorem dX8_whyOf_213 : decode cX8_whyOf 213 = .ok (.iinc 13 1, 3) := by decide +kernel
theorem dX8_whyOf_216 : decode cX8_whyOf 216 = .ok (.goto (-20), 3) := by decide +kernel
theorem dX8_whyOf_219 : decode cX8_whyOf 219 = .ok (.aload_n 0, 1) := by decide +kernel
theorem dX8_whyOf_220 : decode cX8_whyOf 220 = .ok (.aload_n 0, 1) := by decide +kernel
theorem dX8_whyOf_221 : decode cX8_whyOf 221 = .ok (.getfield 42, 3) := by decide +kernel
theorem dX8_whyOf_224 : decode cX8_whyOf 224 = .ok (.iload 12, 2) := by decide +kernel
theorem dX8_whyOf_226 : decode cX8_whyOf 226 = .ok (.iconst 1, 1) := by decide +kernel
theorem dX8_whyOf_227 : decode cX8_whyOf 227 = .ok (.iadd, 1) := by decide +kernel
theorem dX8_whyOf_228 : decode cX8_whyOf 228 = .ok (.aload_n 0, 1) := by decide +kernel
theorem dX8_whyOf_229 : decode cX8_whyOf 229 = .ok (.getfield 13, 3) := by decide +kernel
theorem dX8_whyOf_232 : decode cX8_whyOf 232 = .ok (.iload_n 1, 1) := by decide +kernel
theorem dX8_whyOf_233 : decode cX8_whyOf 233 = .ok (.iaload, 1) := by decide +kernel
theorem dX8_whyOf_234 : decode cX8_whyOf 234 = .ok (.invokevirtual 149, 3) := by decide +kernel
theorem dX8_whyOf_237 : decode cX8_whyOf 237 = .ok (.istore 14, 2) := by decide +kernel
theorem dX8_whyOf_239 : decode cX8_whyOf 239 = .ok (.aload_n 0, 1) := by decide +kernel
theorem dX8_whyOf_240 : decode cX8_whyOf 240 = .ok (.aload_n 0, 1) := by decide +kernel
theorem dX8_whyOf_241 : decode cX8_whyOf 241 = .ok (.getfield 45, 3) := by decide +kernel
theorem dX8_whyOf_244 : decode cX8_whyOf 244 = .ok (.iload 13, 2) := by decide +kernel
theorem dX8_whyOf_246 : decode cX8_whyOf 246 = .ok (.iconst 1, 1) := by decide +kernel
theorem dX8_whyOf_247 : decode cX8_whyOf 247 = .ok (.iadd, 1) := by decide +kernel
theorem dX8_whyOf_248 : decode cX8_whyOf 248 = .ok (.aload_n 0, 1) := by decide +kernel
theorem dX8_whyOf_249 : decode cX8_whyOf 249 = .ok (.getfield 13, 3) := by decide +kernel
theorem dX8_whyOf_252 : decode cX8_whyOf 252 = .ok (.iload_n 2, 1) := by decide +kernel
theorem dX8_whyOf_253 : decode cX8_whyOf 253 = .ok (.iaload, 1) := by decide +kernel
theorem dX8_whyOf_254 : decode cX8_whyOf 254 = .ok (.invokevirtual 149, 3) := by decide +kernel
theorem dX8_whyOf_257 : decode cX8_whyOf 257 = .ok (.istore 15, 2) := by decide +kernel
theorem dX8_whyOf_259 : decode cX8_whyOf 259 = .ok (.aload_n 0, 1) := by decide +kernel
theorem dX8_whyOf_260 : decode cX8_whyOf 260 = .ok (.aload_n 0, 1) := by decide +kernel
theorem dX8_whyOf_261 : decode cX8_whyOf 261 = .ok (.getfield 42, 3) := by decide +kernel
theorem dX8_whyOf_264 : decode cX8_whyOf 264 = .ok (.iload 12, 2) := by decide +kernel
theorem dX8_whyOf_266 : decode cX8_whyOf 266 = .ok (.iaload, 1) := by decide +kernel
theorem dX8_whyOf_267 : decode cX8_whyOf 267 = .ok (.invokevirtual 114, 3) := by decide +kernel
theorem dX8_whyOf_270 : decode cX8_whyOf 270 = .ok (.iload 14, 2) := by decide +kernel
theorem dX8_whyOf_272 : decode cX8_whyOf 272 = .ok (.iload 15, 2) := by decide +kernel
theorem dX8_whyOf_274 : decode cX8_whyOf 274 = .ok (.if_icmp .ge 8, 3) := by decide +kernel
theorem dX8_whyOf_277 : decode cX8_whyOf 277 = .ok (.iload 14, 2) := by decide +kernel
theorem dX8_whyOf_279 : decode cX8_whyOf 279 = .ok (.goto 5, 3) := by decide +kernel
theorem dX8_whyOf_282 : decode cX8_whyOf 282 = .ok (.iload 15, 2) := by decide +kernel
theorem dX8_whyOf_284 : decode cX8_whyOf 284 = .ok (.iadd, 1) := by decide +kernel
theorem dX8_whyOf_285 : decode cX8_whyOf 285 = .ok (.i2l, 1) := by decide +kernel
theorem dX8_whyOf_286 : decode cX8_whyOf 286 = .ok (.lload 10, 2) := by decide +kernel
theorem dX8_whyOf_288 : decode cX8_whyOf 288 = .ok (.lcmp, 1) := by decide +kernel
theorem dX8_whyOf_289 : decode cX8_whyOf 289 = .ok (.ifCond .ge 5, 3) := by decide +kernel
theorem dX8_whyOf_292 : decode cX8_whyOf 292 = .ok (.iconst 3, 1) := by decide +kernel
theorem dX8_whyOf_293 : decode cX8_whyOf 293 = .ok (.ireturn, 1) := by decide +kernel
theorem dX8_whyOf_294 : decode cX8_whyOf 294 = .ok (.aload_n 0, 1) := by decide +kernel
theorem dX8_whyOf_295 : decode cX8_whyOf 295 = .ok (.iload_n 1, 1) := by decide +kernel
theorem dX8_whyOf_296 : decode cX8_whyOf 296 = .ok (.iload_n 2, 1) := by decide +kernel
theorem dX8_whyOf_297 : decode cX8_whyOf 297 = .ok (.invokevirtual 168, 3) := by decide +kernel
theorem dX8_whyOf_300 : decode cX8_whyOf 300 = .ok (.ifCond .eq 7, 3) := by decide +kernel
theorem dX8_whyOf_303 : decode cX8_whyOf 303 = .ok (.iconst 0, 1) := by decide +kernel
theorem dX8_whyOf_304 : decode cX8_whyOf 304 = .ok (.goto 4, 3) := by decide +kernel
theorem dX8_whyOf_307 : decode cX8_whyOf 307 = .ok (.iconst 4, 1) := by decide +kernel
theorem dX8_whyOf_308 : decode cX8_whyOf 308 = .ok (.ireturn, 1) := by decide +kernel
theorem dX8_why_0 : decode cX8_why 0 = .ok (.aload_n 0, 1) := by decide +kernel
theorem dX8_why_1 : decode cX8_why 1 = .ok (.iconst 0, 1) := by decide +kernel
theorem dX8_why_2 : decode cX8_why 2 = .ok (.putfield 75, 3) := by decide +kernel
theorem dX8_why_5 : decode cX8_why 5 = .ok (.aload_n 0, 1) := by decide +kernel
theorem dX8_why_6 : decode cX8_why 6 = .ok (.iload_n 1, 1) := by decide +kernel
theorem dX8_why_7 : decode cX8_why 7 = .ok (.iload_n 2, 1) := by decide +kernel
theorem dX8_why_8 : decode cX8_why 8 = .ok (.invokevirtual 171, 3) := by decide +kernel
theorem dX8_why_11 : decode cX8_why 11 = .ok (.ifCond .eq 12, 3) := by decide +kernel
theorem dX8_why_14 : decode cX8_why 14 = .ok (.aload_n 0, 1) := by decide +kernel
theorem dX8_why_15 : decode cX8_why 15 = .ok (.iload_n 1, 1) := by decide +kernel
theorem dX8_why_16 : decode cX8_why 16 = .ok (.iload_n 2, 1) := by decide +kernel
theorem dX8_why_17 : decode cX8_why 17 = .ok (.invokevirtual 174, 3) := by decide +kernel
theorem dX8_why_20 : decode cX8_why 20 = .ok (.goto 4, 3) := by decide +kernel
theorem dX8_why_23 : decode cX8_why 23 = .ok (.iconst (-1), 1) := by decide +kernel
theorem dX8_why_24 : decode cX8_why 24 = .ok (.ireturn, 1) := by decide +kernel
theorem dX8_like_0 : decode cX8_like 0 = .ok (.aload_n 0, 1) := by decide +kernel
theorem dX8_like_1 : decode cX8_like 1 = .ok (.iconst 0, 1) := by decide +kernel
theorem dX8_like_2 : decode cX8_like 2 = .ok (.putfield 75, 3) := by decide +kernel
theorem dX8_like_5 : decode cX8_like 5 = .ok (.aload_n 0, 1) := by decide +kernel
theorem dX8_like_6 : decode cX8_like 6 = .ok (.iload_n 1, 1) := by decide +kernel
theorem dX8_like_7 : decode cX8_like 7 = .ok (.iload_n 2, 1) := by decide +kernel
theorem dX8_like_8 : decode cX8_like 8 = .ok (.invokevirtual 171, 3) := by decide +kernel
theorem dX8_like_11 : decode cX8_like 11 = .ok (.ifCond .ne 7, 3) := by decide +kernel
theorem dX8_like_14 : decode cX8_like 14 = .ok (.ldc2_w 177, 3) := by decide +kernel
theorem dX8_like_17 : decode cX8_like 17 = .ok (.lreturn, 1) := by decide +kernel
theorem dX8_like_18 : decode cX8_like 18 = .ok (.aload_n 0, 1) := by decide +kernel
theorem dX8_like_19 : decode cX8_like 19 = .ok (.iload_n 1, 1) := by decide +kernel
theorem dX8_like_20 : decode cX8_like 20 = .ok (.invokevirtual 136, 3) := by decide +kernel
theorem dX8_like_23 : decode cX8_like 23 = .ok (.i2l, 1) := by decide +kernel
theorem dX8_like_24 : decode cX8_like 24 = .ok (.lstore 4, 2) := by decide +kernel
theorem dX8_like_26 : decode cX8_like 26 = .ok (.aload_n 0, 1) := by decide +kernel
theorem dX8_like_27 : decode cX8_like 27 = .ok (.iload_n 2, 1) := by decide +kernel
theorem dX8_like_28 : decode cX8_like 28 = .ok (.invokevirtual 136, 3) := by decide +kernel
theorem dX8_like_31 : decode cX8_like 31 = .ok (.i2l, 1) := by decide +kernel
theorem dX8_like_32 : decode cX8_like 32 = .ok (.lstore 6, 2) := by decide +kernel
theorem dX8_like_34 : decode cX8_like 34 = .ok (.aload_n 0, 1) := by decide +kernel
theorem dX8_like_35 : decode cX8_like 35 = .ok (.iload_n 1, 1) := by decide +kernel
theorem dX8_like_36 : decode cX8_like 36 = .ok (.iload_n 2, 1) := by decide +kernel
theorem dX8_like_37 : decode cX8_like 37 = .ok (.invokevirtual 139, 3) := by decide +kernel
theorem dX8_like_40 : decode cX8_like 40 = .ok (.i2l, 1) := by decide +kernel
theorem dX8_like_41 : decode cX8_like 41 = .ok (.lstore 8, 2) := by decide +kernel
theorem dX8_like_43 : decode cX8_like 43 = .ok (.aload_n 0, 1) := by decide +kernel
theorem dX8_like_44 : decode cX8_like 44 = .ok (.lload 4, 2) := by decide +kernel
theorem dX8_like_46 : decode cX8_like 46 = .ok (.lload 6, 2) := by decide +kernel
theorem dX8_like_48 : decode cX8_like 48 = .ok (.lload 8, 2) := by decide +kernel
theorem dX8_like_50 : decode cX8_like 50 = .ok (.invokevirtual 142, 3) := by decide +kernel
theorem dX8_like_53 : decode cX8_like 53 = .ok (.lstore 10, 2) := by decide +kernel
theorem dX8_like_55 : decode cX8_like 55 = .ok (.aload_n 0, 1) := by decide +kernel
theorem dX8_like_56 : decode cX8_like 56 = .ok (.lload 4, 2) := by decide +kernel
theorem dX8_like_58 : decode cX8_like 58 = .ok (.lload 6, 2) := by decide +kernel
theorem dX8_like_60 : decode cX8_like 60 = .ok (.lload 8, 2) := by decide +kernel
theorem dX8_like_62 : decode cX8_like 62 = .ok (.invokevirtual 146, 3) := by decide +kernel
theorem dX8_like_65 : decode cX8_like 65 = .ok (.lstore 12, 2) := by decide +kernel
theorem dX8_like_67 : decode cX8_like 67 = .ok (.lload 12, 2) := by decide +kernel
theorem dX8_like_69 : decode cX8_like 69 = .ok (.lload 10, 2) := by decide +kernel
theorem dX8_like_71 : decode cX8_like 71 = .ok (.invokestatic 133, 3) := by decide +kernel
theorem dX8_like_74 : decode cX8_like 74 = .ok (.lstore 14, 2) := by decide +kernel
theorem dX8_like_76 : decode cX8_like 76 = .ok (.iload_n 3, 1) := by decide +kernel
theorem dX8_like_77 : decode cX8_like 77 = .ok (.tableswitch 74 0 4 #[35, 38, 47, 53, 59], 35) := by decide +kernel
theorem dX8_like_112 : decode cX8_like 112 = .ok (.lload 8, 2) := by decide +kernel
theorem dX8_like_114 : decode cX8_like 114 = .ok (.lreturn, 1) := by decide +kernel
theorem dX8_like_115 : decode cX8_like 115 = .ok (.aload_n 0, 1) := by decide +kernel
theorem dX8_like_116 : decode cX8_like 116 = .ok (.lload 4, 2) := by decide +kernel
theorem dX8_like_118 : decode cX8_like 118 = .ok (.lload 6, 2) := by decide +kernel
theorem dX8_like_120 : decode cX8_like 120 = .ok (.invokevirtual 165, 3) := by decide +kernel
theorem dX8_like_123 : decode cX8_like 123 = .ok (.lreturn, 1) := by decide +kernel
theorem dX8_like_124 : decode cX8_like 124 = .ok (.lload 10, 2) := by decide +kernel
theorem dX8_like_126 : decode cX8_like 126 = .ok (.lload 14, 2) := by decide +kernel
theorem dX8_like_128 : decode cX8_like 128 = .ok (.ldiv, 1) := by decide +kernel
theorem dX8_like_129 : decode cX8_like 129 = .ok (.lreturn, 1) := by decide +kernel
theorem dX8_like_130 : decode cX8_like 130 = .ok (.lload 12, 2) := by decide +kernel
theorem dX8_like_132 : decode cX8_like 132 = .ok (.lload 14, 2) := by decide +kernel
theorem dX8_like_134 : decode cX8_like 134 = .ok (.ldiv, 1) := by decide +kernel
theorem dX8_like_135 : decode cX8_like 135 = .ok (.lreturn, 1) := by decide +kernel
theorem dX8_like_136 : decode cX8_like 136 = .ok (.aload_n 0, 1) := by decide +kernel
theorem dX8_like_137 : decode cX8_like 137 = .ok (.iload_n 1, 1) := by decide +kernel
theorem dX8_like_138 : decode cX8_like 138 = .ok (.iload_n 2, 1) := by decide +kernel
theorem dX8_like_139 : decode cX8_like 139 = .ok (.invokevirtual 168, 3) := by decide +kernel
theorem dX8_like_142 : decode cX8_like 142 = .ok (.ifCond .eq 7, 3) := by decide +kernel
theorem dX8_like_145 : decode cX8_like 145 = .ok (.lconst 1, 1) := by decide +kernel
theorem dX8_like_146 : decode cX8_like 146 = .ok (.goto 4, 3) := by decide +kernel
theorem dX8_like_149 : decode cX8_like 149 = .ok (.lconst 0, 1) := by decide +kernel
theorem dX8_like_150 : decode cX8_like 150 = .ok (.lreturn, 1) := by decide +kernel
theorem dX8_like_151 : decode cX8_like 151 = .ok (.ldc2_w 177, 3) := by decide +kernel
theorem dX8_like_154 : decode cX8_like 154 = .ok (.lreturn, 1) := by decide +kernel
theorem dX8_keep_0 : decode cX8_keep 0 = .ok (.aload_n 0, 1) := by decide +kernel
theorem dX8_keep_1 : decode cX8_keep 1 = .ok (.getfield 51, 3) := by decide +kernel
theorem dX8_keep_4 : decode cX8_keep 4 = .ok (.iload_n 1, 1) := by decide +kernel
theorem dX8_keep_5 : decode cX8_keep 5 = .ok (.iload_n 2, 1) := by decide +kernel
theorem dX8_keep_6 : decode cX8_keep 6 = .ok (.iastore, 1) := by decide +kernel
theorem dX8_keep_7 : decode cX8_keep 7 = .ok (.aload_n 0, 1) := by decide +kernel
theorem dX8_keep_8 : decode cX8_keep 8 = .ok (.getfield 54, 3) := by decide +kernel
theorem dX8_keep_11 : decode cX8_keep 11 = .ok (.iload_n 1, 1) := by decide +kernel
theorem dX8_keep_12 : decode cX8_keep 12 = .ok (.iload_n 3, 1) := by decide +kernel
theorem dX8_keep_13 : decode cX8_keep 13 = .ok (.iastore, 1) := by decide +kernel
theorem dX8_keep_14 : decode cX8_keep 14 = .ok (.aload_n 0, 1) := by decide +kernel
theorem dX8_keep_15 : decode cX8_keep 15 = .ok (.getfield 57, 3) := by decide +kernel
theorem dX8_keep_18 : decode cX8_keep 18 = .ok (.iload_n 1, 1) := by decide +kernel
theorem dX8_keep_19 : decode cX8_keep 19 = .ok (.aload_n 0, 1) := by decide +kernel
theorem dX8_keep_20 : decode cX8_keep 20 = .ok (.iload_n 2, 1) := by decide +kernel
theorem dX8_keep_21 : decode cX8_keep 21 = .ok (.iload_n 3, 1) := by decide +kernel
theorem dX8_keep_22 : decode cX8_keep 22 = .ok (.invokevirtual 139, 3) := by decide +kernel
theorem dX8_keep_25 : decode cX8_keep 25 = .ok (.iastore, 1) := by decide +kernel
theorem dX8_keep_26 : decode cX8_keep 26 = .ok (.return_, 1) := by decide +kernel
theorem dX8_spent_0 : decode cX8_spent 0 = .ok (.iconst 0, 1) := by decide +kernel
theorem dX8_spent_1 : decode cX8_spent 1 = .ok (.istore_n 1, 1) := by decide +kernel
theorem dX8_spent_2 : decode cX8_spent 2 = .ok (.iconst 0, 1) := by decide +kernel
theorem dX8_spent_3 : decode cX8_spent 3 = .ok (.istore_n 2, 1) := by decide +kernel
theorem dX8_spent_4 : decode cX8_spent 4 = .ok (.iload_n 2, 1) := by decide +kernel
theorem dX8_spent_5 : decode cX8_spent 5 = .ok (.aload_n 0, 1) := by decide +kernel
theorem dX8_spent_6 : decode cX8_spent 6 = .ok (.getfield 78, 3) := by decide +kernel
theorem dX8_spent_9 : decode cX8_spent 9 = .ok (.if_icmp .ge 161, 3) := by decide +kernel
theorem dX8_spent_12 : decode cX8_spent 12 = .ok (.aload_n 0, 1) := by decide +kernel
theorem dX8_spent_13 : decode cX8_spent 13 = .ok (.getfield 9, 3) := by decide +kernel
theorem dX8_spent_16 : decode cX8_spent 16 = .ok (.iload_n 2, 1) := by decide +kernel
theorem dX8_spent_17 : decode cX8_spent 17 = .ok (.baload, 1) := by decide +kernel
theorem dX8_spent_18 : decode cX8_spent 18 = .ok (.ifCond .eq 6, 3) := by decide +kernel
theorem dX8_spent_21 : decode cX8_spent 21 = .ok (.goto 143, 3) := by decide +kernel
theorem dX8_spent_24 : decode cX8_spent 24 = .ok (.aload_n 0, 1) := by decide +kernel
theorem dX8_spent_25 : decode cX8_spent 25 = .ok (.iload_n 2, 1) := by decide +kernel
theorem dX8_spent_26 : decode cX8_spent 26 = .ok (.aload_n 0, 1) := by decide +kernel
theorem dX8_spent_27 : decode cX8_spent 27 = .ok (.getfield 42, 3) := by decide +kernel
theorem dX8_spent_30 : decode cX8_spent 30 = .ok (.invokevirtual 157, 3) := by decide +kernel
theorem dX8_spent_33 : decode cX8_spent 33 = .ok (.aload_n 0, 1) := by decide +kernel
theorem dX8_spent_34 : decode cX8_spent 34 = .ok (.aload_n 0, 1) := by decide +kernel
theorem dX8_spent_35 : decode cX8_spent 35 = .ok (.getfield 42, 3) := by decide +kernel
theorem dX8_spent_38 : decode cX8_spent 38 = .ok (.aload_n 0, 1) := by decide +kernel
theorem dX8_spent_39 : decode cX8_spent 39 = .ok (.getfield 13, 3) := by decide +kernel
theorem dX8_spent_42 : decode cX8_spent 42 = .ok (.iload_n 2, 1) := by decide +kernel
theorem dX8_spent_43 : decode cX8_spent 43 = .ok (.iaload, 1) := by decide +kernel
theorem dX8_spent_44 : decode cX8_spent 44 = .ok (.invokevirtual 161, 3) := by decide +kernel
theorem dX8_spent_47 : decode cX8_spent 47 = .ok (.istore_n 3, 1) := by decide +kernel
theorem dX8_spent_48 : decode cX8_spent 48 = .ok (.iconst 0, 1) := by decide +kernel
theorem dX8_spent_49 : decode cX8_spent 49 = .ok (.istore 4, 2) := by decide +kernel
theorem dX8_spent_51 : decode cX8_spent 51 = .ok (.iload 4, 2) := by decide +kernel
theorem dX8_spent_53 : decode cX8_spent 53 = .ok (.iload_n 3, 1) := by decide +kernel
theorem dX8_spent_54 : decode cX8_spent 54 = .ok (.if_icmp .ge 110, 3) := by decide +kernel
theorem dX8_spent_57 : decode cX8_spent 57 = .ok (.iload_n 2, 1) := by decide +kernel
theorem dX8_spent_58 : decode cX8_spent 58 = .ok (.iconst 1, 1) := by decide +kernel
theorem dX8_spent_59 : decode cX8_spent 59 = .ok (.iadd, 1) := by decide +kernel
theorem dX8_spent_60 : decode cX8_spent 60 = .ok (.istore 5, 2) := by decide +kernel
theorem dX8_spent_62 : decode cX8_spent 62 = .ok (.iload 5, 2) := by decide +kernel
theorem dX8_spent_64 : decode cX8_spent 64 = .ok (.aload_n 0, 1) := by decide +kernel
theorem dX8_spent_65 : decode cX8_spent 65 = .ok (.getfield 78, 3) := by decide +kernel
theorem dX8_spent_68 : decode cX8_spent 68 = .ok (.if_icmp .ge 90, 3) := by decide +kernel
theorem dX8_spent_71 : decode cX8_spent 71 = .ok (.aload_n 0, 1) := by decide +kernel
theorem dX8_spent_72 : decode cX8_spent 72 = .ok (.getfield 9, 3) := by decide +kernel
theorem dX8_spent_75 : decode cX8_spent 75 = .ok (.iload 5, 2) := by decide +kernel
theorem dX8_spent_77 : decode cX8_spent 77 = .ok (.baload, 1) := by decide +kernel
theorem dX8_spent_78 : decode cX8_spent 78 = .ok (.ifCond .eq 6, 3) := by decide +kernel
theorem dX8_spent_81 : decode cX8_spent 81 = .ok (.goto 71, 3) := by decide +kernel
theorem dX8_spent_84 : decode cX8_spent 84 = .ok (.aload_n 0, 1) := by decide +kernel
theorem dX8_spent_85 : decode cX8_spent 85 = .ok (.iload 5, 2) := by decide +kernel
theorem dX8_spent_87 : decode cX8_spent 87 = .ok (.aload_n 0, 1) := by decide +kernel
theorem dX8_spent_88 : decode cX8_spent 88 = .ok (.getfield 45, 3) := by decide +kernel
theorem dX8_spent_91 : decode cX8_spent 91 = .ok (.invokevirtual 157, 3) := by decide +kernel
theorem dX8_spent_94 : decode cX8_spent 94 = .ok (.aload_n 0, 1) := by decide +kernel
theorem dX8_spent_95 : decode cX8_spent 95 = .ok (.aload_n 0, 1) := by decide +kernel
theorem dX8_spent_96 : decode cX8_spent 96 = .ok (.getfield 45, 3) := by decide +kernel
theorem dX8_spent_99 : decode cX8_spent 99 = .ok (.aload_n 0, 1) := by decide +kernel
theorem dX8_spent_100 : decode cX8_spent 100 = .ok (.getfield 13, 3) := by decide +kernel
theorem dX8_spent_103 : decode cX8_spent 103 = .ok (.iload 5, 2) := by decide +kernel
theorem dX8_spent_105 : decode cX8_spent 105 = .ok (.iaload, 1) := by decide +kernel
theorem dX8_spent_106 : decode cX8_spent 106 = .ok (.invokevirtual 161, 3) := by decide +kernel
theorem dX8_spent_109 : decode cX8_spent 109 = .ok (.istore 6, 2) := by decide +kernel
theorem dX8_spent_111 : decode cX8_spent 111 = .ok (.iconst 0, 1) := by decide +kernel
theorem dX8_spent_112 : decode cX8_spent 112 = .ok (.istore 7, 2) := by decide +kernel
theorem dX8_spent_114 : decode cX8_spent 114 = .ok (.iload 7, 2) := by decide +kernel
theorem dX8_spent_116 : decode cX8_spent 116 = .ok (.iload 6, 2) := by decide +kernel
theorem dX8_spent_118 : decode cX8_spent 118 = .ok (.if_icmp .ge 34, 3) := by decide +kernel
theorem dX8_spent_121 : decode cX8_spent 121 = .ok (.iload_n 1, 1) := by decide +kernel
theorem dX8_spent_122 : decode cX8_spent 122 = .ok (.aload_n 0, 1) := by decide +kernel
theorem dX8_spent_123 : decode cX8_spent 123 = .ok (.getfield 42, 3) := by decide +kernel
theorem dX8_spent_126 : decode cX8_spent 126 = .ok (.iload 4, 2) := by decide +kernel
theorem dX8_spent_128 : decode cX8_spent 128 = .ok (.iaload, 1) := by decide +kernel
theorem dX8_spent_129 : decode cX8_spent 129 = .ok (.aload_n 0, 1) := by decide +kernel
theorem dX8_spent_130 : decode cX8_spent 130 = .ok (.getfield 45, 3) := by decide +kernel
theorem dX8_spent_133 : decode cX8_spent 133 = .ok (.iload 7, 2) := by decide +kernel
theorem dX8_spent_135 : decode cX8_spent 135 = .ok (.iaload, 1) := by decide +kernel
theorem dX8_spent_136 : decode cX8_spent 136 = .ok (.if_icmp .ne 7, 3) := by decide +kernel
theorem dX8_spent_139 : decode cX8_spent 139 = .ok (.iconst 1, 1) := by decide +kernel
theorem dX8_spent_140 : decode cX8_spent 140 = .ok (.goto 4, 3) := by decide +kernel
theorem dX8_spent_143 : decode cX8_spent 143 = .ok (.iconst 0, 1) := by decide +kernel
theorem dX8_spent_144 : decode cX8_spent 144 = .ok (.iadd, 1) := by decide +kernel
theorem dX8_spent_145 : decode cX8_spent 145 = .ok (.istore_n 1, 1) := by decide +kernel
theorem dX8_spent_146 : decode cX8_spent 146 = .ok (.iinc 7 1, 3) := by decide +kernel
theorem dX8_spent_149 : decode cX8_spent 149 = .ok (.goto (-35), 3) := by decide +kernel
theorem dX8_spent_152 : decode cX8_spent 152 = .ok (.iinc 5 1, 3) := by decide +kernel
theorem dX8_spent_155 : decode cX8_spent 155 = .ok (.goto (-93), 3) := by decide +kernel
theorem dX8_spent_158 : decode cX8_spent 158 = .ok (.iinc 4 1, 3) := by decide +kernel
theorem dX8_spent_161 : decode cX8_spent 161 = .ok (.goto (-110), 3) := by decide +kernel
theorem dX8_spent_164 : decode cX8_spent 164 = .ok (.iinc 2 1, 3) := by decide +kernel
theorem dX8_spent_167 : decode cX8_spent 167 = .ok (.goto (-163), 3) := by decide +kernel
theorem dX8_spent_170 : decode cX8_spent 170 = .ok (.iload_n 1, 1) := by decide +kernel
theorem dX8_spent_171 : decode cX8_spent 171 = .ok (.ireturn, 1) := by decide +kernel
theorem dX8_pairs_0 : decode cX8_pairs 0 = .ok (.aload_n 0, 1) := by decide +kernel
theorem dX8_pairs_1 : decode cX8_pairs 1 = .ok (.iconst 0, 1) := by decide +kernel
theorem dX8_pairs_2 : decode cX8_pairs 2 = .ok (.putfield 75, 3) := by decide +kernel
theorem dX8_pairs_5 : decode cX8_pairs 5 = .ok (.aload_n 0, 1) := by decide +kernel
theorem dX8_pairs_6 : decode cX8_pairs 6 = .ok (.iconst 0, 1) := by decide +kernel
theorem dX8_pairs_7 : decode cX8_pairs 7 = .ok (.putfield 179, 3) := by decide +kernel
theorem dX8_pairs_10 : decode cX8_pairs 10 = .ok (.iconst 0, 1) := by decide +kernel
theorem dX8_pairs_11 : decode cX8_pairs 11 = .ok (.istore_n 1, 1) := by decide +kernel
theorem dX8_pairs_12 : decode cX8_pairs 12 = .ok (.iload_n 1, 1) := by decide +kernel
theorem dX8_pairs_13 : decode cX8_pairs 13 = .ok (.bipush 6, 2) := by decide +kernel
theorem dX8_pairs_15 : decode cX8_pairs 15 = .ok (.if_icmp .ge 16, 3) := by decide +kernel
theorem dX8_pairs_18 : decode cX8_pairs 18 = .ok (.aload_n 0, 1) := by decide +kernel
theorem dX8_pairs_19 : decode cX8_pairs 19 = .ok (.getfield 60, 3) := by decide +kernel
theorem dX8_pairs_22 : decode cX8_pairs 22 = .ok (.iload_n 1, 1) := by decide +kernel
theorem dX8_pairs_23 : decode cX8_pairs 23 = .ok (.iconst 0, 1) := by decide +kernel
theorem dX8_pairs_24 : decode cX8_pairs 24 = .ok (.iastore, 1) := by decide +kernel
theorem dX8_pairs_25 : decode cX8_pairs 25 = .ok (.iinc 1 1, 3) := by decide +kernel
theorem dX8_pairs_28 : decode cX8_pairs 28 = .ok (.goto (-16), 3) := by decide +kernel
theorem dX8_pairs_31 : decode cX8_pairs 31 = .ok (.iconst 0, 1) := by decide +kernel
theorem dX8_pairs_32 : decode cX8_pairs 32 = .ok (.istore_n 1, 1) := by decide +kernel
theorem dX8_pairs_33 : decode cX8_pairs 33 = .ok (.iload_n 1, 1) := by decide +kernel
theorem dX8_pairs_34 : decode cX8_pairs 34 = .ok (.aload_n 0, 1) := by decide +kernel
theorem dX8_pairs_35 : decode cX8_pairs 35 = .ok (.getfield 78, 3) := by decide +kernel
theorem dX8_pairs_38 : decode cX8_pairs 38 = .ok (.if_icmp .ge 118, 3) := by decide +kernel
theorem dX8_pairs_41 : decode cX8_pairs 41 = .ok (.iload_n 1, 1) := by decide +kernel
theorem dX8_pairs_42 : decode cX8_pairs 42 = .ok (.iconst 1, 1) := by decide +kernel
theorem dX8_pairs_43 : decode cX8_pairs 43 = .ok (.iadd, 1) := by decide +kernel
theorem dX8_pairs_44 : decode cX8_pairs 44 = .ok (.istore_n 2, 1) := by decide +kernel
theorem dX8_pairs_45 : decode cX8_pairs 45 = .ok (.iload_n 2, 1) := by decide +kernel
theorem dX8_pairs_46 : decode cX8_pairs 46 = .ok (.aload_n 0, 1) := by decide +kernel
theorem dX8_pairs_47 : decode cX8_pairs 47 = .ok (.getfield 78, 3) := by decide +kernel
theorem dX8_pairs_50 : decode cX8_pairs 50 = .ok (.if_icmp .ge 100, 3) := by decide +kernel
theorem dX8_pairs_53 : decode cX8_pairs 53 = .ok (.aload_n 0, 1) := by decide +kernel
theorem dX8_pairs_54 : decode cX8_pairs 54 = .ok (.getfield 9, 3) := by decide +kernel
theorem dX8_pairs_57 : decode cX8_pairs 57 = .ok (.iload_n 1, 1) := by decide +kernel
theorem dX8_pairs_58 : decode cX8_pairs 58 = .ok (.baload, 1) := by decide +kernel
theorem dX8_pairs_59 : decode cX8_pairs 59 = .ok (.ifCond .ne 85, 3) := by decide +kernel
theorem dX8_pairs_62 : decode cX8_pairs 62 = .ok (.aload_n 0, 1) := by decide +kernel
theorem dX8_pairs_63 : decode cX8_pairs 63 = .ok (.getfield 9, 3) := by decide +kernel
theorem dX8_pairs_66 : decode cX8_pairs 66 = .ok (.iload_n 2, 1) := by decide +kernel
theorem dX8_pairs_67 : decode cX8_pairs 67 = .ok (.baload, 1) := by decide +kernel
theorem dX8_pairs_68 : decode cX8_pairs 68 = .ok (.ifCond .eq 6, 3) := by decide +kernel
theorem dX8_pairs_71 : decode cX8_pairs 71 = .ok (.goto 73, 3) := by decide +kernel
theorem dX8_pairs_74 : decode cX8_pairs 74 = .ok (.aload_n 0, 1) := by decide +kernel
theorem dX8_pairs_75 : decode cX8_pairs 75 = .ok (.iload_n 1, 1) := by decide +kernel
theorem dX8_pairs_76 : decode cX8_pairs 76 = .ok (.iload_n 2, 1) := by decide +kernel
theorem dX8_pairs_77 : decode cX8_pairs 77 = .ok (.invokevirtual 174, 3) := by decide +kernel
theorem dX8_pairs_80 : decode cX8_pairs 80 = .ok (.istore_n 3, 1) := by decide +kernel
theorem dX8_pairs_81 : decode cX8_pairs 81 = .ok (.aload_n 0, 1) := by decide +kernel
theorem dX8_pairs_82 : decode cX8_pairs 82 = .ok (.getfield 60, 3) := by decide +kernel
theorem dX8_pairs_85 : decode cX8_pairs 85 = .ok (.iload_n 3, 1) := by decide +kernel
theorem dX8_pairs_86 : decode cX8_pairs 86 = .ok (.ifCond .ne 7, 3) := by decide +kernel
theorem dX8_pairs_89 : decode cX8_pairs 89 = .ok (.iconst 0, 1) := by decide +kernel
theorem dX8_pairs_90 : decode cX8_pairs 90 = .ok (.goto 22, 3) := by decide +kernel
theorem dX8_pairs_93 : decode cX8_pairs 93 = .ok (.iload_n 3, 1) := by decide +kernel
theorem dX8_pairs_94 : decode cX8_pairs 94 = .ok (.iconst 4, 1) := by decide +kernel
theorem dX8_pairs_95 : decode cX8_pairs 95 = .ok (.if_icmp .ne 7, 3) := by decide +kernel
theorem dX8_pairs_98 : decode cX8_pairs 98 = .ok (.iconst 1, 1) := by decide +kernel
theorem dX8_pairs_99 : decode cX8_pairs 99 = .ok (.goto 13, 3) := by decide +kernel
theorem dX8_pairs_102 : decode cX8_pairs 102 = .ok (.iload_n 3, 1) := by decide +kernel
theorem dX8_pairs_103 : decode cX8_pairs 103 = .ok (.iconst 1, 1) := by decide +kernel
theorem dX8_pairs_104 : decode cX8_pairs 104 = .ok (.if_icmp .ne 7, 3) := by decide +kernel
theorem dX8_pairs_107 : decode cX8_pairs 107 = .ok (.iconst 4, 1) := by decide +kernel
theorem dX8_pairs_108 : decode cX8_pairs 108 = .ok (.goto 4, 3) := by decide +kernel
theorem dX8_pairs_111 : decode cX8_pairs 111 = .ok (.iload_n 3, 1) := by decide +kernel
theorem dX8_pairs_112 : decode cX8_pairs 112 = .ok (.dup2, 1) := by decide +kernel
theorem dX8_pairs_113 : decode cX8_pairs 113 = .ok (.iaload, 1) := by decide +kernel
theorem dX8_pairs_114 : decode cX8_pairs 114 = .ok (.iconst 1, 1) := by decide +kernel
theorem dX8_pairs_115 : decode cX8_pairs 115 = .ok (.iadd, 1) := by decide +kernel
theorem dX8_pairs_116 : decode cX8_pairs 116 = .ok (.iastore, 1) := by decide +kernel
theorem dX8_pairs_117 : decode cX8_pairs 117 = .ok (.iload_n 3, 1) := by decide +kernel
theorem dX8_pairs_118 : decode cX8_pairs 118 = .ok (.ifCond .le 6, 3) := by decide +kernel
theorem dX8_pairs_121 : decode cX8_pairs 121 = .ok (.goto 23, 3) := by decide +kernel
theorem dX8_pairs_124 : decode cX8_pairs 124 = .ok (.aload_n 0, 1) := by decide +kernel
theorem dX8_pairs_125 : decode cX8_pairs 125 = .ok (.aload_n 0, 1) := by decide +kernel
theorem dX8_pairs_126 : decode cX8_pairs 126 = .ok (.getfield 179, 3) := by decide +kernel
theorem dX8_pairs_129 : decode cX8_pairs 129 = .ok (.iload_n 1, 1) := by decide +kernel
theorem dX8_pairs_130 : decode cX8_pairs 130 = .ok (.iload_n 2, 1) := by decide +kernel
theorem dX8_pairs_131 : decode cX8_pairs 131 = .ok (.invokevirtual 182, 3) := by decide +kernel
theorem dX8_pairs_134 : decode cX8_pairs 134 = .ok (.aload_n 0, 1) := by decide +kernel
theorem dX8_pairs_135 : decode cX8_pairs 135 = .ok (.dup, 1) := by decide +kernel
theorem dX8_pairs_136 : decode cX8_pairs 136 = .ok (.getfield 179, 3) := by decide +kernel
theorem dX8_pairs_139 : decode cX8_pairs 139 = .ok (.iconst 1, 1) := by decide +kernel
theorem dX8_pairs_140 : decode cX8_pairs 140 = .ok (.iadd, 1) := by decide +kernel
theorem dX8_pairs_141 : decode cX8_pairs 141 = .ok (.putfield 179, 3) := by decide +kernel
theorem dX8_pairs_144 : decode cX8_pairs 144 = .ok (.iinc 2 1, 3) := by decide +kernel
theorem dX8_pairs_147 : decode cX8_pairs 147 = .ok (.goto (-102), 3) := by decide +kernel
theorem dX8_pairs_150 : decode cX8_pairs 150 = .ok (.iinc 1 1, 3) := by decide +kernel
theorem dX8_pairs_153 : decode cX8_pairs 153 = .ok (.goto (-120), 3) := by decide +kernel
theorem dX8_pairs_156 : decode cX8_pairs 156 = .ok (.aload_n 0, 1) := by decide +kernel
theorem dX8_pairs_157 : decode cX8_pairs 157 = .ok (.getfield 60, 3) := by decide +kernel
theorem dX8_pairs_160 : decode cX8_pairs 160 = .ok (.iconst 5, 1) := by decide +kernel
theorem dX8_pairs_161 : decode cX8_pairs 161 = .ok (.aload_n 0, 1) := by decide +kernel
theorem dX8_pairs_162 : decode cX8_pairs 162 = .ok (.invokevirtual 186, 3) := by decide +kernel
theorem dX8_pairs_165 : decode cX8_pairs 165 = .ok (.iastore, 1) := by decide +kernel
theorem dX8_pairs_166 : decode cX8_pairs 166 = .ok (.aload_n 0, 1) := by decide +kernel
theorem dX8_pairs_167 : decode cX8_pairs 167 = .ok (.getfield 179, 3) := by decide +kernel
theorem dX8_pairs_170 : decode cX8_pairs 170 = .ok (.ireturn, 1) := by decide +kernel
theorem dX8_pair_0 : decode cX8_pair 0 = .ok (.aload_n 0, 1) := by decide +kernel
theorem dX8_pair_1 : decode cX8_pair 1 = .ok (.iload_n 1, 1) := by decide +kernel
theorem dX8_pair_2 : decode cX8_pair 2 = .ok (.iconst 0, 1) := by decide +kernel
theorem dX8_pair_3 : decode cX8_pair 3 = .ok (.aload_n 0, 1) := by decide +kernel
theorem dX8_pair_4 : decode cX8_pair 4 = .ok (.getfield 179, 3) := by decide +kernel
theorem dX8_pair_7 : decode cX8_pair 7 = .ok (.iconst 1, 1) := by decide +kernel
theorem dX8_pair_8 : decode cX8_pair 8 = .ok (.isub, 1) := by decide +kernel
theorem dX8_pair_9 : decode cX8_pair 9 = .ok (.invokestatic 81, 3) := by decide +kernel
theorem dX8_pair_12 : decode cX8_pair 12 = .ok (.ifCond .eq 16, 3) := by decide +kernel
theorem dX8_pair_15 : decode cX8_pair 15 = .ok (.iload_n 2, 1) := by decide +kernel
theorem dX8_pair_16 : decode cX8_pair 16 = .ok (.iconst 0, 1) := by decide +kernel
theorem dX8_pair_17 : decode cX8_pair 17 = .ok (.iconst 2, 1) := by decide +kernel
theorem dX8_pair_18 : decode cX8_pair 18 = .ok (.invokestatic 81, 3) := by decide +kernel
theorem dX8_pair_21 : decode cX8_pair 21 = .ok (.ifCond .eq 7, 3) := by decide +kernel
theorem dX8_pair_24 : decode cX8_pair 24 = .ok (.iconst 0, 1) := by decide +kernel
theorem dX8_pair_25 : decode cX8_pair 25 = .ok (.goto 4, 3) := by decide +kernel
theorem dX8_pair_28 : decode cX8_pair 28 = .ok (.iconst 1, 1) := by decide +kernel
theorem dX8_pair_29 : decode cX8_pair 29 = .ok (.putfield 75, 3) := by decide +kernel
theorem dX8_pair_32 : decode cX8_pair 32 = .ok (.aload_n 0, 1) := by decide +kernel
theorem dX8_pair_33 : decode cX8_pair 33 = .ok (.getfield 75, 3) := by decide +kernel
theorem dX8_pair_36 : decode cX8_pair 36 = .ok (.ifCond .le 5, 3) := by decide +kernel
theorem dX8_pair_39 : decode cX8_pair 39 = .ok (.iconst 0, 1) := by decide +kernel
theorem dX8_pair_40 : decode cX8_pair 40 = .ok (.ireturn, 1) := by decide +kernel
theorem dX8_pair_41 : decode cX8_pair 41 = .ok (.iload_n 2, 1) := by decide +kernel
theorem dX8_pair_42 : decode cX8_pair 42 = .ok (.ifCond .ne 12, 3) := by decide +kernel
theorem dX8_pair_45 : decode cX8_pair 45 = .ok (.aload_n 0, 1) := by decide +kernel
theorem dX8_pair_46 : decode cX8_pair 46 = .ok (.getfield 51, 3) := by decide +kernel
theorem dX8_pair_49 : decode cX8_pair 49 = .ok (.iload_n 1, 1) := by decide +kernel
theorem dX8_pair_50 : decode cX8_pair 50 = .ok (.iaload, 1) := by decide +kernel
theorem dX8_pair_51 : decode cX8_pair 51 = .ok (.goto 23, 3) := by decide +kernel
theorem dX8_pair_54 : decode cX8_pair 54 = .ok (.iload_n 2, 1) := by decide +kernel
theorem dX8_pair_55 : decode cX8_pair 55 = .ok (.iconst 1, 1) := by decide +kernel
theorem dX8_pair_56 : decode cX8_pair 56 = .ok (.if_icmp .ne 12, 3) := by decide +kernel
theorem dX8_pair_59 : decode cX8_pair 59 = .ok (.aload_n 0, 1) := by decide +kernel
theorem dX8_pair_60 : decode cX8_pair 60 = .ok (.getfield 54, 3) := by decide +kernel
theorem dX8_pair_63 : decode cX8_pair 63 = .ok (.iload_n 1, 1) := by decide +kernel
theorem dX8_pair_64 : decode cX8_pair 64 = .ok (.iaload, 1) := by decide +kernel
theorem dX8_pair_65 : decode cX8_pair 65 = .ok (.goto 9, 3) := by decide +kernel
theorem dX8_pair_68 : decode cX8_pair 68 = .ok (.aload_n 0, 1) := by decide +kernel
theorem dX8_pair_69 : decode cX8_pair 69 = .ok (.getfield 57, 3) := by decide +kernel
theorem dX8_pair_72 : decode cX8_pair 72 = .ok (.iload_n 1, 1) := by decide +kernel
theorem dX8_pair_73 : decode cX8_pair 73 = .ok (.iaload, 1) := by decide +kernel
theorem dX8_pair_74 : decode cX8_pair 74 = .ok (.ireturn, 1) := by decide +kernel
theorem dX8_isLiker_0 : decode cX8_isLiker 0 = .ok (.aload_n 0, 1) := by decide +kernel
theorem dX8_isLiker_1 : decode cX8_isLiker 1 = .ok (.iload_n 1, 1) := by decide +kernel
theorem dX8_isLiker_2 : decode cX8_isLiker 2 = .ok (.invokevirtual 136, 3) := by decide +kernel
theorem dX8_isLiker_5 : decode cX8_isLiker 5 = .ok (.i2l, 1) := by decide +kernel
theorem dX8_isLiker_6 : decode cX8_isLiker 6 = .ok (.lstore 5, 2) := by decide +kernel
theorem dX8_isLiker_8 : decode cX8_isLiker 8 = .ok (.aload_n 0, 1) := by decide +kernel
theorem dX8_isLiker_9 : decode cX8_isLiker 9 = .ok (.iload_n 2, 1) := by decide +kernel
theorem dX8_isLiker_10 : decode cX8_isLiker 10 = .ok (.invokevirtual 136, 3) := by decide +kernel
theorem dX8_isLiker_13 : decode cX8_isLiker 13 = .ok (.i2l, 1) := by decide +kernel
theorem dX8_isLiker_14 : decode cX8_isLiker 14 = .ok (.lstore 7, 2) := by decide +kernel
theorem dX8_isLiker_16 : decode cX8_isLiker 16 = .ok (.aload_n 0, 1) := by decide +kernel
theorem dX8_isLiker_17 : decode cX8_isLiker 17 = .ok (.iload_n 1, 1) := by decide +kernel
theorem dX8_isLiker_18 : decode cX8_isLiker 18 = .ok (.iload_n 2, 1) := by decide +kernel
theorem dX8_isLiker_19 : decode cX8_isLiker 19 = .ok (.invokevirtual 139, 3) := by decide +kernel
theorem dX8_isLiker_22 : decode cX8_isLiker 22 = .ok (.i2l, 1) := by decide +kernel
theorem dX8_isLiker_23 : decode cX8_isLiker 23 = .ok (.lstore 9, 2) := by decide +kernel
theorem dX8_isLiker_25 : decode cX8_isLiker 25 = .ok (.aload_n 0, 1) := by decide +kernel
theorem dX8_isLiker_26 : decode cX8_isLiker 26 = .ok (.iload_n 3, 1) := by decide +kernel
theorem dX8_isLiker_27 : decode cX8_isLiker 27 = .ok (.invokevirtual 136, 3) := by decide +kernel
theorem dX8_isLiker_30 : decode cX8_isLiker 30 = .ok (.i2l, 1) := by decide +kernel
theorem dX8_isLiker_31 : decode cX8_isLiker 31 = .ok (.lstore 11, 2) := by decide +kernel
theorem dX8_isLiker_33 : decode cX8_isLiker 33 = .ok (.aload_n 0, 1) := by decide +kernel
theorem dX8_isLiker_34 : decode cX8_isLiker 34 = .ok (.iload 4, 2) := by decide +kernel
theorem dX8_isLiker_36 : decode cX8_isLiker 36 = .ok (.invokevirtual 136, 3) := by decide +kernel
theorem dX8_isLiker_39 : decode cX8_isLiker 39 = .ok (.i2l, 1) := by decide +kernel
theorem dX8_isLiker_40 : decode cX8_isLiker 40 = .ok (.lstore 13, 2) := by decide +kernel
theorem dX8_isLiker_42 : decode cX8_isLiker 42 = .ok (.aload_n 0, 1) := by decide +kernel
theorem dX8_isLiker_43 : decode cX8_isLiker 43 = .ok (.iload_n 3, 1) := by decide +kernel
theorem dX8_isLiker_44 : decode cX8_isLiker 44 = .ok (.iload 4, 2) := by decide +kernel
theorem dX8_isLiker_46 : decode cX8_isLiker 46 = .ok (.invokevirtual 139, 3) := by decide +kernel
theorem dX8_isLiker_49 : decode cX8_isLiker 49 = .ok (.i2l, 1) := by decide +kernel
theorem dX8_isLiker_50 : decode cX8_isLiker 50 = .ok (.lstore 15, 2) := by decide +kernel
theorem dX8_isLiker_52 : decode cX8_isLiker 52 = .ok (.aload_n 0, 1) := by decide +kernel
theorem dX8_isLiker_53 : decode cX8_isLiker 53 = .ok (.lload 5, 2) := by decide +kernel
theorem dX8_isLiker_55 : decode cX8_isLiker 55 = .ok (.lload 7, 2) := by decide +kernel
theorem dX8_isLiker_57 : decode cX8_isLiker 57 = .ok (.lload 9, 2) := by decide +kernel
theorem dX8_isLiker_59 : decode cX8_isLiker 59 = .ok (.invokevirtual 142, 3) := by decide +kernel
theorem dX8_isLiker_62 : decode cX8_isLiker 62 = .ok (.aload_n 0, 1) := by decide +kernel
theorem dX8_isLiker_63 : decode cX8_isLiker 63 = .ok (.lload 11, 2) := by decide +kernel
theorem dX8_isLiker_65 : decode cX8_isLiker 65 = .ok (.lload 13, 2) := by decide +kernel
theorem dX8_isLiker_67 : decode cX8_isLiker 67 = .ok (.lload 15, 2) := by decide +kernel
theorem dX8_isLiker_69 : decode cX8_isLiker 69 = .ok (.invokevirtual 146, 3) := by decide +kernel
theorem dX8_isLiker_72 : decode cX8_isLiker 72 = .ok (.lmul, 1) := by decide +kernel
theorem dX8_isLiker_73 : decode cX8_isLiker 73 = .ok (.aload_n 0, 1) := by decide +kernel
theorem dX8_isLiker_74 : decode cX8_isLiker 74 = .ok (.lload 11, 2) := by decide +kernel
theorem dX8_isLiker_76 : decode cX8_isLiker 76 = .ok (.lload 13, 2) := by decide +kernel
theorem dX8_isLiker_78 : decode cX8_isLiker 78 = .ok (.lload 15, 2) := by decide +kernel
theorem dX8_isLiker_80 : decode cX8_isLiker 80 = .ok (.invokevirtual 142, 3) := by decide +kernel
theorem dX8_isLiker_83 : decode cX8_isLiker 83 = .ok (.aload_n 0, 1) := by decide +kernel
theorem dX8_isLiker_84 : decode cX8_isLiker 84 = .ok (.lload 5, 2) := by decide +kernel
theorem dX8_isLiker_86 : decode cX8_isLiker 86 = .ok (.lload 7, 2) := by decide +kernel
theorem dX8_isLiker_88 : decode cX8_isLiker 88 = .ok (.lload 9, 2) := by decide +kernel
theorem dX8_isLiker_90 : decode cX8_isLiker 90 = .ok (.invokevirtual 146, 3) := by decide +kernel
theorem dX8_isLiker_93 : decode cX8_isLiker 93 = .ok (.lmul, 1) := by decide +kernel
theorem dX8_isLiker_94 : decode cX8_isLiker 94 = .ok (.lcmp, 1) := by decide +kernel
theorem dX8_isLiker_95 : decode cX8_isLiker 95 = .ok (.ifCond .le 7, 3) := by decide +kernel
theorem dX8_isLiker_98 : decode cX8_isLiker 98 = .ok (.iconst 1, 1) := by decide +kernel
theorem dX8_isLiker_99 : decode cX8_isLiker 99 = .ok (.goto 4, 3) := by decide +kernel
theorem dX8_isLiker_102 : decode cX8_isLiker 102 = .ok (.iconst 0, 1) := by decide +kernel
theorem dX8_isLiker_103 : decode cX8_isLiker 103 = .ok (.ireturn, 1) := by decide +kernel
theorem dX8_top_0 : decode cX8_top 0 = .ok (.aload_n 0, 1) := by decide +kernel
theorem dX8_top_1 : decode cX8_top 1 = .ok (.iconst 0, 1) := by decide +kernel
theorem dX8_top_2 : decode cX8_top 2 = .ok (.putfield 75, 3) := by decide +kernel
theorem dX8_top_5 : decode cX8_top 5 = .ok (.iload_n 1, 1) := by decide +kernel
theorem dX8_top_6 : decode cX8_top 6 = .ok (.iconst 1, 1) := by decide +kernel
theorem dX8_top_7 : decode cX8_top 7 = .ok (.bipush 100, 2) := by decide +kernel
theorem dX8_top_9 : decode cX8_top 9 = .ok (.invokestatic 81, 3) := by decide +kernel
theorem dX8_top_12 : decode cX8_top 12 = .ok (.ifCond .ne 5, 3) := by decide +kernel
theorem dX8_top_15 : decode cX8_top 15 = .ok (.iconst (-1), 1) := by decide +kernel
theorem dX8_top_16 : decode cX8_top 16 = .ok (.ireturn, 1) := by decide +kernel
theorem dX8_top_17 : decode cX8_top 17 = .ok (.aload_n 0, 1) := by decide +kernel
theorem dX8_top_18 : decode cX8_top 18 = .ok (.iconst 0, 1) := by decide +kernel
theorem dX8_top_19 : decode cX8_top 19 = .ok (.putfield 179, 3) := by decide +kernel
theorem dX8_top_22 : decode cX8_top 22 = .ok (.iconst 0, 1) := by decide +kernel
theorem dX8_top_23 : decode cX8_top 23 = .ok (.istore_n 2, 1) := by decide +kernel
theorem dX8_top_24 : decode cX8_top 24 = .ok (.iload_n 2, 1) := by decide +kernel
theorem dX8_top_25 : decode cX8_top 25 = .ok (.aload_n 0, 1) := by decide +kernel
theorem dX8_top_26 : decode cX8_top 26 = .ok (.getfield 78, 3) := by decide +kernel
theorem dX8_top_29 : decode cX8_top 29 = .ok (.if_icmp .ge 187, 3) := by decide +kernel
theorem dX8_top_32 : decode cX8_top 32 = .ok (.iload_n 2, 1) := by decide +kernel
theorem dX8_top_33 : decode cX8_top 33 = .ok (.iconst 1, 1) := by decide +kernel
theorem dX8_top_34 : decode cX8_top 34 = .ok (.iadd, 1) := by decide +kernel
theorem dX8_top_35 : decode cX8_top 35 = .ok (.istore_n 3, 1) := by decide +kernel
theorem dX8_top_36 : decode cX8_top 36 = .ok (.iload_n 3, 1) := by decide +kernel
theorem dX8_top_37 : decode cX8_top 37 = .ok (.aload_n 0, 1) := by decide +kernel
theorem dX8_top_38 : decode cX8_top 38 = .ok (.getfield 78, 3) := by decide +kernel
theorem dX8_top_41 : decode cX8_top 41 = .ok (.if_icmp .ge 169, 3) := by decide +kernel
theorem dX8_top_44 : decode cX8_top 44 = .ok (.aload_n 0, 1) := by decide +kernel
theorem dX8_top_45 : decode cX8_top 45 = .ok (.getfield 9, 3) := by decide +kernel
theorem dX8_top_48 : decode cX8_top 48 = .ok (.iload_n 2, 1) := by decide +kernel
theorem dX8_top_49 : decode cX8_top 49 = .ok (.baload, 1) := by decide +kernel
theorem dX8_top_50 : decode cX8_top 50 = .ok (.ifCond .ne 154, 3) := by decide +kernel
theorem dX8_top_53 : decode cX8_top 53 = .ok (.aload_n 0, 1) := by decide +kernel
theorem dX8_top_54 : decode cX8_top 54 = .ok (.getfield 9, 3) := by decide +kernel
theorem dX8_top_57 : decode cX8_top 57 = .ok (.iload_n 3, 1) := by decide +kernel
theorem dX8_top_58 : decode cX8_top 58 = .ok (.baload, 1) := by decide +kernel
theorem dX8_top_59 : decode cX8_top 59 = .ok (.ifCond .ne 145, 3) := by decide +kernel
theorem dX8_top_62 : decode cX8_top 62 = .ok (.aload_n 0, 1) := by decide +kernel
theorem dX8_top_63 : decode cX8_top 63 = .ok (.iload_n 2, 1) := by decide +kernel
theorem dX8_top_64 : decode cX8_top 64 = .ok (.iload_n 3, 1) := by decide +kernel
theorem dX8_top_65 : decode cX8_top 65 = .ok (.invokevirtual 139, 3) := by decide +kernel
theorem dX8_top_68 : decode cX8_top 68 = .ok (.ifCond .ne 6, 3) := by decide +kernel
theorem dX8_top_71 : decode cX8_top 71 = .ok (.goto 133, 3) := by decide +kernel
theorem dX8_top_74 : decode cX8_top 74 = .ok (.aload_n 0, 1) := by decide +kernel
theorem dX8_top_75 : decode cX8_top 75 = .ok (.getfield 179, 3) := by decide +kernel
theorem dX8_top_78 : decode cX8_top 78 = .ok (.iload_n 1, 1) := by decide +kernel
theorem dX8_top_79 : decode cX8_top 79 = .ok (.if_icmp .ge 10, 3) := by decide +kernel
theorem dX8_top_82 : decode cX8_top 82 = .ok (.aload_n 0, 1) := by decide +kernel
theorem dX8_top_83 : decode cX8_top 83 = .ok (.getfield 179, 3) := by decide +kernel
theorem dX8_top_86 : decode cX8_top 86 = .ok (.goto 4, 3) := by decide +kernel
theorem dX8_top_89 : decode cX8_top 89 = .ok (.iload_n 1, 1) := by decide +kernel
theorem dX8_top_90 : decode cX8_top 90 = .ok (.istore 4, 2) := by decide +kernel
theorem dX8_top_92 : decode cX8_top 92 = .ok (.iload 4, 2) := by decide +kernel
theorem dX8_top_94 : decode cX8_top 94 = .ok (.ifCond .le 84, 3) := by decide +kernel
theorem dX8_top_97 : decode cX8_top 97 = .ok (.aload_n 0, 1) := by decide +kernel
theorem dX8_top_98 : decode cX8_top 98 = .ok (.iload_n 2, 1) := by decide +kernel
theorem dX8_top_99 : decode cX8_top 99 = .ok (.iload_n 3, 1) := by decide +kernel
theorem dX8_top_100 : decode cX8_top 100 = .ok (.aload_n 0, 1) := by decide +kernel
theorem dX8_top_101 : decode cX8_top 101 = .ok (.getfield 51, 3) := by decide +kernel
theorem dX8_top_104 : decode cX8_top 104 = .ok (.iload 4, 2) := by decide +kernel
theorem dX8_top_106 : decode cX8_top 106 = .ok (.iconst 1, 1) := by decide +kernel
theorem dX8_top_107 : decode cX8_top 107 = .ok (.isub, 1) := by decide +kernel
theorem dX8_top_108 : decode cX8_top 108 = .ok (.iaload, 1) := by decide +kernel
theorem dX8_top_109 : decode cX8_top 109 = .ok (.aload_n 0, 1) := by decide +kernel
theorem dX8_top_110 : decode cX8_top 110 = .ok (.getfield 54, 3) := by decide +kernel
theorem dX8_top_113 : decode cX8_top 113 = .ok (.iload 4, 2) := by decide +kernel
theorem dX8_top_115 : decode cX8_top 115 = .ok (.iconst 1, 1) := by decide +kernel
theorem dX8_top_116 : decode cX8_top 116 = .ok (.isub, 1) := by decide +kernel
theorem dX8_top_117 : decode cX8_top 117 = .ok (.iaload, 1) := by decide +kernel
theorem dX8_top_118 : decode cX8_top 118 = .ok (.invokevirtual 190, 3) := by decide +kernel
theorem dX8_top_121 : decode cX8_top 121 = .ok (.ifCond .eq 57, 3) := by decide +kernel
theorem dX8_top_124 : decode cX8_top 124 = .ok (.aload_n 0, 1) := by decide +kernel
theorem dX8_top_125 : decode cX8_top 125 = .ok (.getfield 51, 3) := by decide +kernel
theorem dX8_top_128 : decode cX8_top 128 = .ok (.iload 4, 2) := by decide +kernel
theorem dX8_top_130 : decode cX8_top 130 = .ok (.aload_n 0, 1) := by decide +kernel
theorem dX8_top_131 : decode cX8_top 131 = .ok (.getfield 51, 3) := by decide +kernel
theorem dX8_top_134 : decode cX8_top 134 = .ok (.iload 4, 2) := by decide +kernel
theorem dX8_top_136 : decode cX8_top 136 = .ok (.iconst 1, 1) := by decide +kernel
theorem dX8_top_137 : decode cX8_top 137 = .ok (.isub, 1) := by decide +kernel
theorem dX8_top_138 : decode cX8_top 138 = .ok (.iaload, 1) := by decide +kernel
theorem dX8_top_139 : decode cX8_top 139 = .ok (.iastore, 1) := by decide +kernel
theorem dX8_top_140 : decode cX8_top 140 = .ok (.aload_n 0, 1) := by decide +kernel
theorem dX8_top_141 : decode cX8_top 141 = .ok (.getfield 54, 3) := by decide +kernel
theorem dX8_top_144 : decode cX8_top 144 = .ok (.iload 4, 2) := by decide +kernel
theorem dX8_top_146 : decode cX8_top 146 = .ok (.aload_n 0, 1) := by decide +kernel
theorem dX8_top_147 : decode cX8_top 147 = .ok (.getfield 54, 3) := by decide +kernel
theorem dX8_top_150 : decode cX8_top 150 = .ok (.iload 4, 2) := by decide +kernel
theorem dX8_top_152 : decode cX8_top 152 = .ok (.iconst 1, 1) := by decide +kernel
theorem dX8_top_153 : decode cX8_top 153 = .ok (.isub, 1) := by decide +kernel
theorem dX8_top_154 : decode cX8_top 154 = .ok (.iaload, 1) := by decide +kernel
theorem dX8_top_155 : decode cX8_top 155 = .ok (.iastore, 1) := by decide +kernel
theorem dX8_top_156 : decode cX8_top 156 = .ok (.aload_n 0, 1) := by decide +kernel
theorem dX8_top_157 : decode cX8_top 157 = .ok (.getfield 57, 3) := by decide +kernel
theorem dX8_top_160 : decode cX8_top 160 = .ok (.iload 4, 2) := by decide +kernel
theorem dX8_top_162 : decode cX8_top 162 = .ok (.aload_n 0, 1) := by decide +kernel
theorem dX8_top_163 : decode cX8_top 163 = .ok (.getfield 57, 3) := by decide +kernel
theorem dX8_top_166 : decode cX8_top 166 = .ok (.iload 4, 2) := by decide +kernel
theorem dX8_top_168 : decode cX8_top 168 = .ok (.iconst 1, 1) := by decide +kernel
theorem dX8_top_169 : decode cX8_top 169 = .ok (.isub, 1) := by decide +kernel
theorem dX8_top_170 : decode cX8_top 170 = .ok (.iaload, 1) := by decide +kernel
theorem dX8_top_171 : decode cX8_top 171 = .ok (.iastore, 1) := by decide +kernel
theorem dX8_top_172 : decode cX8_top 172 = .ok (.iinc 4 (-1), 3) := by decide +kernel
theorem dX8_top_175 : decode cX8_top 175 = .ok (.goto (-83), 3) := by decide +kernel
theorem dX8_top_178 : decode cX8_top 178 = .ok (.aload_n 0, 1) := by decide +kernel
theorem dX8_top_179 : decode cX8_top 179 = .ok (.iload 4, 2) := by decide +kernel
theorem dX8_top_181 : decode cX8_top 181 = .ok (.iload_n 2, 1) := by decide +kernel
theorem dX8_top_182 : decode cX8_top 182 = .ok (.iload_n 3, 1) := by decide +kernel
theorem dX8_top_183 : decode cX8_top 183 = .ok (.invokevirtual 182, 3) := by decide +kernel
theorem dX8_top_186 : decode cX8_top 186 = .ok (.aload_n 0, 1) := by decide +kernel
theorem dX8_top_187 : decode cX8_top 187 = .ok (.getfield 179, 3) := by decide +kernel
theorem dX8_top_190 : decode cX8_top 190 = .ok (.iload_n 1, 1) := by decide +kernel
theorem dX8_top_191 : decode cX8_top 191 = .ok (.if_icmp .ge 13, 3) := by decide +kernel
theorem dX8_top_194 : decode cX8_top 194 = .ok (.aload_n 0, 1) := by decide +kernel
theorem dX8_top_195 : decode cX8_top 195 = .ok (.dup, 1) := by decide +kernel
theorem dX8_top_196 : decode cX8_top 196 = .ok (.getfield 179, 3) := by decide +kernel
theorem dX8_top_199 : decode cX8_top 199 = .ok (.iconst 1, 1) := by decide +kernel
theorem dX8_top_200 : decode cX8_top 200 = .ok (.iadd, 1) := by decide +kernel
theorem dX8_top_201 : decode cX8_top 201 = .ok (.putfield 179, 3) := by decide +kernel
theorem dX8_top_204 : decode cX8_top 204 = .ok (.iinc 3 1, 3) := by decide +kernel
theorem dX8_top_207 : decode cX8_top 207 = .ok (.goto (-171), 3) := by decide +kernel
theorem dX8_top_210 : decode cX8_top 210 = .ok (.iinc 2 1, 3) := by decide +kernel
theorem dX8_top_213 : decode cX8_top 213 = .ok (.goto (-189), 3) := by decide +kernel
theorem dX8_top_216 : decode cX8_top 216 = .ok (.aload_n 0, 1) := by decide +kernel
theorem dX8_top_217 : decode cX8_top 217 = .ok (.getfield 179, 3) := by decide +kernel
theorem dX8_top_220 : decode cX8_top 220 = .ok (.ireturn, 1) := by decide +kernel
theorem dX8_steps_0 : decode cX8_steps 0 = .ok (.iconst 0, 1) := by decide +kernel
theorem dX8_steps_1 : decode cX8_steps 1 = .ok (.istore_n 2, 1) := by decide +kernel
theorem dX8_steps_2 : decode cX8_steps 2 = .ok (.iload_n 2, 1) := by decide +kernel
theorem dX8_steps_3 : decode cX8_steps 3 = .ok (.bipush 60, 2) := by decide +kernel
theorem dX8_steps_5 : decode cX8_steps 5 = .ok (.if_icmp .ge 16, 3) := by decide +kernel
theorem dX8_steps_8 : decode cX8_steps 8 = .ok (.aload_n 0, 1) := by decide +kernel
theorem dX8_steps_9 : decode cX8_steps 9 = .ok (.getfield 63, 3) := by decide +kernel
theorem dX8_steps_12 : decode cX8_steps 12 = .ok (.iload_n 2, 1) := by decide +kernel
theorem dX8_steps_13 : decode cX8_steps 13 = .ok (.iconst (-1), 1) := by decide +kernel
theorem dX8_steps_14 : decode cX8_steps 14 = .ok (.iastore, 1) := by decide +kernel
theorem dX8_steps_15 : decode cX8_steps 15 = .ok (.iinc 2 1, 3) := by decide +kernel
theorem dX8_steps_18 : decode cX8_steps 18 = .ok (.goto (-16), 3) := by decide +kernel
theorem dX8_steps_21 : decode cX8_steps 21 = .ok (.aload_n 0, 1) := by decide +kernel
theorem dX8_steps_22 : decode cX8_steps 22 = .ok (.getfield 63, 3) := by decide +kernel
theorem dX8_steps_25 : decode cX8_steps 25 = .ok (.iload_n 1, 1) := by decide +kernel
theorem dX8_steps_26 : decode cX8_steps 26 = .ok (.iconst 0, 1) := by decide +kernel
theorem dX8_steps_27 : decode cX8_steps 27 = .ok (.iastore, 1) := by decide +kernel
theorem dX8_steps_28 : decode cX8_steps 28 = .ok (.iconst 1, 1) := by decide +kernel
theorem dX8_steps_29 : decode cX8_steps 29 = .ok (.istore_n 2, 1) := by decide +kernel
theorem dX8_steps_30 : decode cX8_steps 30 = .ok (.iconst 0, 1) := by decide +kernel
theorem dX8_steps_31 : decode cX8_steps 31 = .ok (.istore_n 3, 1) := by decide +kernel
theorem dX8_steps_32 : decode cX8_steps 32 = .ok (.iload_n 2, 1) := by decide +kernel
theorem dX8_steps_33 : decode cX8_steps 33 = .ok (.ifCond .eq 109, 3) := by decide +kernel
theorem dX8_steps_36 : decode cX8_steps 36 = .ok (.iconst 0, 1) := by decide +kernel
theorem dX8_steps_37 : decode cX8_steps 37 = .ok (.istore_n 2, 1) := by decide +kernel
theorem dX8_steps_38 : decode cX8_steps 38 = .ok (.iconst 0, 1) := by decide +kernel
theorem dX8_steps_39 : decode cX8_steps 39 = .ok (.istore 4, 2) := by decide +kernel
theorem dX8_steps_41 : decode cX8_steps 41 = .ok (.iload 4, 2) := by decide +kernel
theorem dX8_steps_43 : decode cX8_steps 43 = .ok (.aload_n 0, 1) := by decide +kernel
theorem dX8_steps_44 : decode cX8_steps 44 = .ok (.getfield 78, 3) := by decide +kernel
theorem dX8_steps_47 : decode cX8_steps 47 = .ok (.if_icmp .ge 89, 3) := by decide +kernel
theorem dX8_steps_50 : decode cX8_steps 50 = .ok (.aload_n 0, 1) := by decide +kernel
theorem dX8_steps_51 : decode cX8_steps 51 = .ok (.getfield 63, 3) := by decide +kernel
theorem dX8_steps_54 : decode cX8_steps 54 = .ok (.iload 4, 2) := by decide +kernel
theorem dX8_steps_56 : decode cX8_steps 56 = .ok (.iaload, 1) := by decide +kernel
theorem dX8_steps_57 : decode cX8_steps 57 = .ok (.iload_n 3, 1) := by decide +kernel
theorem dX8_steps_58 : decode cX8_steps 58 = .ok (.if_icmp .eq 6, 3) := by decide +kernel
theorem dX8_steps_61 : decode cX8_steps 61 = .ok (.goto 69, 3) := by decide +kernel
theorem dX8_steps_64 : decode cX8_steps 64 = .ok (.iconst 0, 1) := by decide +kernel
theorem dX8_steps_65 : decode cX8_steps 65 = .ok (.istore 5, 2) := by decide +kernel
theorem dX8_steps_67 : decode cX8_steps 67 = .ok (.iload 5, 2) := by decide +kernel
theorem dX8_steps_69 : decode cX8_steps 69 = .ok (.aload_n 0, 1) := by decide +kernel
theorem dX8_steps_70 : decode cX8_steps 70 = .ok (.getfield 78, 3) := by decide +kernel
theorem dX8_steps_73 : decode cX8_steps 73 = .ok (.if_icmp .ge 57, 3) := by decide +kernel
theorem dX8_steps_76 : decode cX8_steps 76 = .ok (.aload_n 0, 1) := by decide +kernel
theorem dX8_steps_77 : decode cX8_steps 77 = .ok (.getfield 63, 3) := by decide +kernel
theorem dX8_steps_80 : decode cX8_steps 80 = .ok (.iload 5, 2) := by decide +kernel
theorem dX8_steps_82 : decode cX8_steps 82 = .ok (.iaload, 1) := by decide +kernel
theorem dX8_steps_83 : decode cX8_steps 83 = .ok (.iconst (-1), 1) := by decide +kernel
theorem dX8_steps_84 : decode cX8_steps 84 = .ok (.if_icmp .ne 40, 3) := by decide +kernel
theorem dX8_steps_87 : decode cX8_steps 87 = .ok (.aload_n 0, 1) := by decide +kernel
theorem dX8_steps_88 : decode cX8_steps 88 = .ok (.iload 4, 2) := by decide +kernel
theorem dX8_steps_90 : decode cX8_steps 90 = .ok (.iload 5, 2) := by decide +kernel
theorem dX8_steps_92 : decode cX8_steps 92 = .ok (.invokevirtual 171, 3) := by decide +kernel
theorem dX8_steps_95 : decode cX8_steps 95 = .ok (.ifCond .eq 29, 3) := by decide +kernel
theorem dX8_steps_98 : decode cX8_steps 98 = .ok (.aload_n 0, 1) := by decide +kernel
theorem dX8_steps_99 : decode cX8_steps 99 = .ok (.iload 4, 2) := by decide +kernel
theorem dX8_steps_101 : decode cX8_steps 101 = .ok (.iload 5, 2) := by decide +kernel
theorem dX8_steps_103 : decode cX8_steps 103 = .ok (.invokevirtual 168, 3) := by decide +kernel
theorem dX8_steps_106 : decode cX8_steps 106 = .ok (.ifCond .ne 6, 3) := by decide +kernel
theorem dX8_steps_109 : decode cX8_steps 109 = .ok (.goto 15, 3) := by decide +kernel
theorem dX8_steps_112 : decode cX8_steps 112 = .ok (.aload_n 0, 1) := by decide +kernel
theorem dX8_steps_113 : decode cX8_steps 113 = .ok (.getfield 63, 3) := by decide +kernel
theorem dX8_steps_116 : decode cX8_steps 116 = .ok (.iload 5, 2) := by decide +kernel
theorem dX8_steps_118 : decode cX8_steps 118 = .ok (.iload_n 3, 1) := by decide +kernel
theorem dX8_steps_119 : decode cX8_steps 119 = .ok (.iconst 1, 1) := by decide +kernel
theorem dX8_steps_120 : decode cX8_steps 120 = .ok (.iadd, 1) := by decide +kernel
theorem dX8_steps_121 : decode cX8_steps 121 = .ok (.iastore, 1) := by decide +kernel
theorem dX8_steps_122 : decode cX8_steps 122 = .ok (.iconst 1, 1) := by decide +kernel
theorem dX8_steps_123 : decode cX8_steps 123 = .ok (.istore_n 2, 1) := by decide +kernel
theorem dX8_steps_124 : decode cX8_steps 124 = .ok (.iinc 5 1, 3) := by decide +kernel
theorem dX8_steps_127 : decode cX8_steps 127 = .ok (.goto (-60), 3) := by decide +kernel
theorem dX8_steps_130 : decode cX8_steps 130 = .ok (.iinc 4 1, 3) := by decide +kernel
theorem dX8_steps_133 : decode cX8_steps 133 = .ok (.goto (-92), 3) := by decide +kernel
theorem dX8_steps_136 : decode cX8_steps 136 = .ok (.iinc 3 1, 3) := by decide +kernel
theorem dX8_steps_139 : decode cX8_steps 139 = .ok (.goto (-107), 3) := by decide +kernel
theorem dX8_steps_142 : decode cX8_steps 142 = .ok (.return_, 1) := by decide +kernel
theorem dX8_about_0 : decode cX8_about 0 = .ok (.aload_n 0, 1) := by decide +kernel
theorem dX8_about_1 : decode cX8_about 1 = .ok (.iconst 0, 1) := by decide +kernel
theorem dX8_about_2 : decode cX8_about 2 = .ok (.putfield 75, 3) := by decide +kernel
theorem dX8_about_5 : decode cX8_about 5 = .ok (.aload_n 0, 1) := by decide +kernel
theorem dX8_about_6 : decode cX8_about 6 = .ok (.iload_n 1, 1) := by decide +kernel
theorem dX8_about_7 : decode cX8_about 7 = .ok (.invokevirtual 85, 3) := by decide +kernel
theorem dX8_about_10 : decode cX8_about 10 = .ok (.ifCond .ne 5, 3) := by decide +kernel
theorem dX8_about_13 : decode cX8_about 13 = .ok (.iconst (-1), 1) := by decide +kernel
theorem dX8_about_14 : decode cX8_about 14 = .ok (.ireturn, 1) := by decide +kernel
theorem dX8_about_15 : decode cX8_about 15 = .ok (.iconst 0, 1) := by decide +kernel
theorem dX8_about_16 : decode cX8_about 16 = .ok (.istore_n 3, 1) := by decide +kernel
theorem dX8_about_17 : decode cX8_about 17 = .ok (.iload_n 2, 1) := by decide +kernel
theorem dX8_about_18 : decode cX8_about 18 = .ok (.tableswitch 154 0 5 #[38, 45, 51, 63, 87, 110], 38) := by decide +kernel
theorem dX8_about_56 : decode cX8_about 56 = .ok (.aload_n 0, 1) := by decide +kernel
theorem dX8_about_57 : decode cX8_about 57 = .ok (.getfield 13, 3) := by decide +kernel
theorem dX8_about_60 : decode cX8_about 60 = .ok (.iload_n 1, 1) := by decide +kernel
theorem dX8_about_61 : decode cX8_about 61 = .ok (.iaload, 1) := by decide +kernel
theorem dX8_about_62 : decode cX8_about 62 = .ok (.ireturn, 1) := by decide +kernel
theorem dX8_about_63 : decode cX8_about 63 = .ok (.aload_n 0, 1) := by decide +kernel
theorem dX8_about_64 : decode cX8_about 64 = .ok (.iload_n 1, 1) := by decide +kernel
theorem dX8_about_65 : decode cX8_about 65 = .ok (.invokevirtual 136, 3) := by decide +kernel
theorem dX8_about_68 : decode cX8_about 68 = .ok (.ireturn, 1) := by decide +kernel
theorem dX8_about_69 : decode cX8_about 69 = .ok (.aload_n 0, 1) := by decide +kernel
theorem dX8_about_70 : decode cX8_about 70 = .ok (.aload_n 0, 1) := by decide +kernel
theorem dX8_about_71 : decode cX8_about 71 = .ok (.iload_n 1, 1) := by decide +kernel
theorem dX8_about_72 : decode cX8_about 72 = .ok (.invokevirtual 136, 3) := by decide +kernel
theorem dX8_about_75 : decode cX8_about 75 = .ok (.i2l, 1) := by decide +kernel
theorem dX8_about_76 : decode cX8_about 76 = .ok (.invokevirtual 153, 3) := by decide +kernel
theorem dX8_about_79 : decode cX8_about 79 = .ok (.l2i, 1) := by decide +kernel
theorem dX8_about_80 : decode cX8_about 80 = .ok (.ireturn, 1) := by decide +kernel
theorem dX8_about_81 : decode cX8_about 81 = .ok (.aload_n 0, 1) := by decide +kernel
theorem dX8_about_82 : decode cX8_about 82 = .ok (.iload_n 1, 1) := by decide +kernel
theorem dX8_about_83 : decode cX8_about 83 = .ok (.aload_n 0, 1) := by decide +kernel
theorem dX8_about_84 : decode cX8_about 84 = .ok (.getfield 42, 3) := by decide +kernel
theorem dX8_about_87 : decode cX8_about 87 = .ok (.invokevirtual 157, 3) := by decide +kernel
theorem dX8_about_90 : decode cX8_about 90 = .ok (.aload_n 0, 1) := by decide +kernel
