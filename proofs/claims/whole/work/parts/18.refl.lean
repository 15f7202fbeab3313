theorem dX11_closes_0 : decode cX11_closes 0 = .ok (.aload_n 0, 1) := by decide +kernel
theorem dX11_closes_1 : decode cX11_closes 1 = .ok (.invokevirtual 226, 3) := by decide +kernel
theorem dX11_closes_4 : decode cX11_closes 4 = .ok (.iconst 1, 1) := by decide +kernel
theorem dX11_closes_5 : decode cX11_closes 5 = .ok (.isub, 1) := by decide +kernel
theorem dX11_closes_6 : decode cX11_closes 6 = .ok (.istore_n 1, 1) := by decide +kernel
theorem dX11_closes_7 : decode cX11_closes 7 = .ok (.iconst 0, 1) := by decide +kernel
theorem dX11_closes_8 : decode cX11_closes 8 = .ok (.istore_n 2, 1) := by decide +kernel
theorem dX11_closes_9 : decode cX11_closes 9 = .ok (.iload_n 2, 1) := by decide +kernel
theorem dX11_closes_10 : decode cX11_closes 10 = .ok (.iconst 4, 1) := by decide +kernel
theorem dX11_closes_11 : decode cX11_closes 11 = .ok (.aload_n 0, 1) := by decide +kernel
theorem dX11_closes_12 : decode cX11_closes 12 = .ok (.getfield 185, 3) := by decide +kernel
theorem dX11_closes_15 : decode cX11_closes 15 = .ok (.imul, 1) := by decide +kernel
theorem dX11_closes_16 : decode cX11_closes 16 = .ok (.if_icmp .ge 111, 3) := by decide +kernel
theorem dX11_closes_19 : decode cX11_closes 19 = .ok (.iload_n 2, 1) := by decide +kernel
theorem dX11_closes_20 : decode cX11_closes 20 = .ok (.iconst 4, 1) := by decide +kernel
theorem dX11_closes_21 : decode cX11_closes 21 = .ok (.idiv, 1) := by decide +kernel
theorem dX11_closes_22 : decode cX11_closes 22 = .ok (.istore_n 3, 1) := by decide +kernel
theorem dX11_closes_23 : decode cX11_closes 23 = .ok (.iload_n 2, 1) := by decide +kernel
theorem dX11_closes_24 : decode cX11_closes 24 = .ok (.iconst 4, 1) := by decide +kernel
theorem dX11_closes_25 : decode cX11_closes 25 = .ok (.irem, 1) := by decide +kernel
theorem dX11_closes_26 : decode cX11_closes 26 = .ok (.aload_n 0, 1) := by decide +kernel
theorem dX11_closes_27 : decode cX11_closes 27 = .ok (.getfield 48, 3) := by decide +kernel
theorem dX11_closes_30 : decode cX11_closes 30 = .ok (.iload_n 3, 1) := by decide +kernel
theorem dX11_closes_31 : decode cX11_closes 31 = .ok (.iaload, 1) := by decide +kernel
theorem dX11_closes_32 : decode cX11_closes 32 = .ok (.if_icmp .ge 89, 3) := by decide +kernel
theorem dX11_closes_35 : decode cX11_closes 35 = .ok (.aload_n 0, 1) := by decide +kernel
theorem dX11_closes_36 : decode cX11_closes 36 = .ok (.getfield 45, 3) := by decide +kernel
theorem dX11_closes_39 : decode cX11_closes 39 = .ok (.iload_n 3, 1) := by decide +kernel
theorem dX11_closes_40 : decode cX11_closes 40 = .ok (.iaload, 1) := by decide +kernel
theorem dX11_closes_41 : decode cX11_closes 41 = .ok (.iconst 4, 1) := by decide +kernel
theorem dX11_closes_42 : decode cX11_closes 42 = .ok (.if_icmp .ne 79, 3) := by decide +kernel
theorem dX11_closes_45 : decode cX11_closes 45 = .ok (.aload_n 0, 1) := by decide +kernel
theorem dX11_closes_46 : decode cX11_closes 46 = .ok (.getfield 75, 3) := by decide +kernel
theorem dX11_closes_49 : decode cX11_closes 49 = .ok (.iload_n 2, 1) := by decide +kernel
theorem dX11_closes_50 : decode cX11_closes 50 = .ok (.baload, 1) := by decide +kernel
theorem dX11_closes_51 : decode cX11_closes 51 = .ok (.ifCond .ne 70, 3) := by decide +kernel
theorem dX11_closes_54 : decode cX11_closes 54 = .ok (.aload_n 0, 1) := by decide +kernel
theorem dX11_closes_55 : decode cX11_closes 55 = .ok (.getfield 84, 3) := by decide +kernel
theorem dX11_closes_58 : decode cX11_closes 58 = .ok (.iload_n 2, 1) := by decide +kernel
theorem dX11_closes_59 : decode cX11_closes 59 = .ok (.iaload, 1) := by decide +kernel
theorem dX11_closes_60 : decode cX11_closes 60 = .ok (.aload_n 0, 1) := by decide +kernel
theorem dX11_closes_61 : decode cX11_closes 61 = .ok (.iload_n 2, 1) := by decide +kernel
theorem dX11_closes_62 : decode cX11_closes 62 = .ok (.invokevirtual 230, 3) := by decide +kernel
theorem dX11_closes_65 : decode cX11_closes 65 = .ok (.isub, 1) := by decide +kernel
theorem dX11_closes_66 : decode cX11_closes 66 = .ok (.i2l, 1) := by decide +kernel
theorem dX11_closes_67 : decode cX11_closes 67 = .ok (.aload_n 0, 1) := by decide +kernel
theorem dX11_closes_68 : decode cX11_closes 68 = .ok (.getfield 81, 3) := by decide +kernel
theorem dX11_closes_71 : decode cX11_closes 71 = .ok (.iload_n 2, 1) := by decide +kernel
theorem dX11_closes_72 : decode cX11_closes 72 = .ok (.iaload, 1) := by decide +kernel
theorem dX11_closes_73 : decode cX11_closes 73 = .ok (.i2l, 1) := by decide +kernel
theorem dX11_closes_74 : decode cX11_closes 74 = .ok (.lmul, 1) := by decide +kernel
theorem dX11_closes_75 : decode cX11_closes 75 = .ok (.lstore 4, 2) := by decide +kernel
theorem dX11_closes_77 : decode cX11_closes 77 = .ok (.aload_n 0, 1) := by decide +kernel
theorem dX11_closes_78 : decode cX11_closes 78 = .ok (.getfield 32, 3) := by decide +kernel
theorem dX11_closes_81 : decode cX11_closes 81 = .ok (.aload_n 0, 1) := by decide +kernel
theorem dX11_closes_82 : decode cX11_closes 82 = .ok (.getfield 42, 3) := by decide +kernel
theorem dX11_closes_85 : decode cX11_closes 85 = .ok (.iload_n 3, 1) := by decide +kernel
theorem dX11_closes_86 : decode cX11_closes 86 = .ok (.iaload, 1) := by decide +kernel
theorem dX11_closes_87 : decode cX11_closes 87 = .ok (.iload_n 1, 1) := by decide +kernel
theorem dX11_closes_88 : decode cX11_closes 88 = .ok (.iconst 2, 1) := by decide +kernel
theorem dX11_closes_89 : decode cX11_closes 89 = .ok (.invokestatic 198, 3) := by decide +kernel
theorem dX11_closes_92 : decode cX11_closes 92 = .ok (.dup2, 1) := by decide +kernel
theorem dX11_closes_93 : decode cX11_closes 93 = .ok (.laload, 1) := by decide +kernel
theorem dX11_closes_94 : decode cX11_closes 94 = .ok (.lload 4, 2) := by decide +kernel
theorem dX11_closes_96 : decode cX11_closes 96 = .ok (.ladd, 1) := by decide +kernel
theorem dX11_closes_97 : decode cX11_closes 97 = .ok (.lastore, 1) := by decide +kernel
theorem dX11_closes_98 : decode cX11_closes 98 = .ok (.aload_n 0, 1) := by decide +kernel
theorem dX11_closes_99 : decode cX11_closes 99 = .ok (.getfield 32, 3) := by decide +kernel
theorem dX11_closes_102 : decode cX11_closes 102 = .ok (.aload_n 0, 1) := by decide +kernel
theorem dX11_closes_103 : decode cX11_closes 103 = .ok (.getfield 42, 3) := by decide +kernel
theorem dX11_closes_106 : decode cX11_closes 106 = .ok (.iload_n 3, 1) := by decide +kernel
theorem dX11_closes_107 : decode cX11_closes 107 = .ok (.iaload, 1) := by decide +kernel
theorem dX11_closes_108 : decode cX11_closes 108 = .ok (.iload_n 1, 1) := by decide +kernel
theorem dX11_closes_109 : decode cX11_closes 109 = .ok (.iconst 1, 1) := by decide +kernel
theorem dX11_closes_110 : decode cX11_closes 110 = .ok (.iadd, 1) := by decide +kernel
theorem dX11_closes_111 : decode cX11_closes 111 = .ok (.iconst 2, 1) := by decide +kernel
theorem dX11_closes_112 : decode cX11_closes 112 = .ok (.invokestatic 198, 3) := by decide +kernel
theorem dX11_closes_115 : decode cX11_closes 115 = .ok (.dup2, 1) := by decide +kernel
theorem dX11_closes_116 : decode cX11_closes 116 = .ok (.laload, 1) := by decide +kernel
theorem dX11_closes_117 : decode cX11_closes 117 = .ok (.lload 4, 2) := by decide +kernel
theorem dX11_closes_119 : decode cX11_closes 119 = .ok (.lsub, 1) := by decide +kernel
theorem dX11_closes_120 : decode cX11_closes 120 = .ok (.lastore, 1) := by decide +kernel
theorem dX11_closes_121 : decode cX11_closes 121 = .ok (.iinc 2 1, 3) := by decide +kernel
theorem dX11_closes_124 : decode cX11_closes 124 = .ok (.goto (-115), 3) := by decide +kernel
theorem dX11_closes_127 : decode cX11_closes 127 = .ok (.iconst 0, 1) := by decide +kernel
theorem dX11_closes_128 : decode cX11_closes 128 = .ok (.istore_n 2, 1) := by decide +kernel
theorem dX11_closes_129 : decode cX11_closes 129 = .ok (.iload_n 2, 1) := by decide +kernel
theorem dX11_closes_130 : decode cX11_closes 130 = .ok (.aload_n 0, 1) := by decide +kernel
theorem dX11_closes_131 : decode cX11_closes 131 = .ok (.getfield 185, 3) := by decide +kernel
theorem dX11_closes_134 : decode cX11_closes 134 = .ok (.if_icmp .ge 77, 3) := by decide +kernel
theorem dX11_closes_137 : decode cX11_closes 137 = .ok (.aload_n 0, 1) := by decide +kernel
theorem dX11_closes_138 : decode cX11_closes 138 = .ok (.getfield 45, 3) := by decide +kernel
theorem dX11_closes_141 : decode cX11_closes 141 = .ok (.iload_n 2, 1) := by decide +kernel
theorem dX11_closes_142 : decode cX11_closes 142 = .ok (.iaload, 1) := by decide +kernel
theorem dX11_closes_143 : decode cX11_closes 143 = .ok (.iconst 1, 1) := by decide +kernel
theorem dX11_closes_144 : decode cX11_closes 144 = .ok (.if_icmp .eq 23, 3) := by decide +kernel
theorem dX11_closes_147 : decode cX11_closes 147 = .ok (.aload_n 0, 1) := by decide +kernel
theorem dX11_closes_148 : decode cX11_closes 148 = .ok (.getfield 45, 3) := by decide +kernel
theorem dX11_closes_151 : decode cX11_closes 151 = .ok (.iload_n 2, 1) := by decide +kernel
theorem dX11_closes_152 : decode cX11_closes 152 = .ok (.iaload, 1) := by decide +kernel
theorem dX11_closes_153 : decode cX11_closes 153 = .ok (.iconst 2, 1) := by decide +kernel
theorem dX11_closes_154 : decode cX11_closes 154 = .ok (.if_icmp .eq 13, 3) := by decide +kernel
theorem dX11_closes_157 : decode cX11_closes 157 = .ok (.aload_n 0, 1) := by decide +kernel
theorem dX11_closes_158 : decode cX11_closes 158 = .ok (.getfield 45, 3) := by decide +kernel
theorem dX11_closes_161 : decode cX11_closes 161 = .ok (.iload_n 2, 1) := by decide +kernel
theorem dX11_closes_162 : decode cX11_closes 162 = .ok (.iaload, 1) := by decide +kernel
theorem dX11_closes_163 : decode cX11_closes 163 = .ok (.iconst 4, 1) := by decide +kernel
theorem dX11_closes_164 : decode cX11_closes 164 = .ok (.if_icmp .ne 7, 3) := by decide +kernel
theorem dX11_closes_167 : decode cX11_closes 167 = .ok (.iconst 1, 1) := by decide +kernel
theorem dX11_closes_168 : decode cX11_closes 168 = .ok (.goto 4, 3) := by decide +kernel
theorem dX11_closes_171 : decode cX11_closes 171 = .ok (.iconst 0, 1) := by decide +kernel
theorem dX11_closes_172 : decode cX11_closes 172 = .ok (.istore_n 3, 1) := by decide +kernel
theorem dX11_closes_173 : decode cX11_closes 173 = .ok (.aload_n 0, 1) := by decide +kernel
theorem dX11_closes_174 : decode cX11_closes 174 = .ok (.getfield 54, 3) := by decide +kernel
theorem dX11_closes_177 : decode cX11_closes 177 = .ok (.iload_n 2, 1) := by decide +kernel
theorem dX11_closes_178 : decode cX11_closes 178 = .ok (.iload_n 3, 1) := by decide +kernel
theorem dX11_closes_179 : decode cX11_closes 179 = .ok (.ifCond .eq 19, 3) := by decide +kernel
theorem dX11_closes_182 : decode cX11_closes 182 = .ok (.aload_n 0, 1) := by decide +kernel
theorem dX11_closes_183 : decode cX11_closes 183 = .ok (.getfield 54, 3) := by decide +kernel
theorem dX11_closes_186 : decode cX11_closes 186 = .ok (.iload_n 2, 1) := by decide +kernel
theorem dX11_closes_187 : decode cX11_closes 187 = .ok (.iaload, 1) := by decide +kernel
theorem dX11_closes_188 : decode cX11_closes 188 = .ok (.iload_n 1, 1) := by decide +kernel
theorem dX11_closes_189 : decode cX11_closes 189 = .ok (.if_icmp .ne 9, 3) := by decide +kernel
theorem dX11_closes_192 : decode cX11_closes 192 = .ok (.iload_n 1, 1) := by decide +kernel
theorem dX11_closes_193 : decode cX11_closes 193 = .ok (.iconst 1, 1) := by decide +kernel
theorem dX11_closes_194 : decode cX11_closes 194 = .ok (.iadd, 1) := by decide +kernel
theorem dX11_closes_195 : decode cX11_closes 195 = .ok (.goto 9, 3) := by decide +kernel
theorem dX11_closes_198 : decode cX11_closes 198 = .ok (.aload_n 0, 1) := by decide +kernel
theorem dX11_closes_199 : decode cX11_closes 199 = .ok (.getfield 54, 3) := by decide +kernel
theorem dX11_closes_202 : decode cX11_closes 202 = .ok (.iload_n 2, 1) := by decide +kernel
theorem dX11_closes_203 : decode cX11_closes 203 = .ok (.iaload, 1) := by decide +kernel
theorem dX11_closes_204 : decode cX11_closes 204 = .ok (.iastore, 1) := by decide +kernel
theorem dX11_closes_205 : decode cX11_closes 205 = .ok (.iinc 2 1, 3) := by decide +kernel
theorem dX11_closes_208 : decode cX11_closes 208 = .ok (.goto (-79), 3) := by decide +kernel
theorem dX11_closes_211 : decode cX11_closes 211 = .ok (.iconst 0, 1) := by decide +kernel
theorem dX11_closes_212 : decode cX11_closes 212 = .ok (.istore_n 2, 1) := by decide +kernel
theorem dX11_closes_213 : decode cX11_closes 213 = .ok (.iload_n 2, 1) := by decide +kernel
theorem dX11_closes_214 : decode cX11_closes 214 = .ok (.bipush 6, 2) := by decide +kernel
theorem dX11_closes_216 : decode cX11_closes 216 = .ok (.if_icmp .ge 149, 3) := by decide +kernel
theorem dX11_closes_219 : decode cX11_closes 219 = .ok (.aload_n 0, 1) := by decide +kernel
theorem dX11_closes_220 : decode cX11_closes 220 = .ok (.getfield 32, 3) := by decide +kernel
theorem dX11_closes_223 : decode cX11_closes 223 = .ok (.iload_n 2, 1) := by decide +kernel
theorem dX11_closes_224 : decode cX11_closes 224 = .ok (.iload_n 1, 1) := by decide +kernel
theorem dX11_closes_225 : decode cX11_closes 225 = .ok (.iconst 1, 1) := by decide +kernel
theorem dX11_closes_226 : decode cX11_closes 226 = .ok (.invokestatic 198, 3) := by decide +kernel
theorem dX11_closes_229 : decode cX11_closes 229 = .ok (.laload, 1) := by decide +kernel
theorem dX11_closes_230 : decode cX11_closes 230 = .ok (.lstore_n 3, 1) := by decide +kernel
theorem dX11_closes_231 : decode cX11_closes 231 = .ok (.aload_n 0, 1) := by decide +kernel
theorem dX11_closes_232 : decode cX11_closes 232 = .ok (.getfield 32, 3) := by decide +kernel
theorem dX11_closes_235 : decode cX11_closes 235 = .ok (.iload_n 2, 1) := by decide +kernel
theorem dX11_closes_236 : decode cX11_closes 236 = .ok (.iload_n 1, 1) := by decide +kernel
theorem dX11_closes_237 : decode cX11_closes 237 = .ok (.iconst 0, 1) := by decide +kernel
theorem dX11_closes_238 : decode cX11_closes 238 = .ok (.invokestatic 198, 3) := by decide +kernel
theorem dX11_closes_241 : decode cX11_closes 241 = .ok (.dup2, 1) := by decide +kernel
theorem dX11_closes_242 : decode cX11_closes 242 = .ok (.laload, 1) := by decide +kernel
theorem dX11_closes_243 : decode cX11_closes 243 = .ok (.lload_n 3, 1) := by decide +kernel
theorem dX11_closes_244 : decode cX11_closes 244 = .ok (.lsub, 1) := by decide +kernel
theorem dX11_closes_245 : decode cX11_closes 245 = .ok (.lastore, 1) := by decide +kernel
theorem dX11_closes_246 : decode cX11_closes 246 = .ok (.aload_n 0, 1) := by decide +kernel
theorem dX11_closes_247 : decode cX11_closes 247 = .ok (.getfield 32, 3) := by decide +kernel
theorem dX11_closes_250 : decode cX11_closes 250 = .ok (.iload_n 2, 1) := by decide +kernel
theorem dX11_closes_251 : decode cX11_closes 251 = .ok (.iload_n 1, 1) := by decide +kernel
theorem dX11_closes_252 : decode cX11_closes 252 = .ok (.iconst 1, 1) := by decide +kernel
theorem dX11_closes_253 : decode cX11_closes 253 = .ok (.invokestatic 198, 3) := by decide +kernel
theorem dX11_closes_256 : decode cX11_closes 256 = .ok (.lconst 0, 1) := by decide +kernel
theorem dX11_closes_257 : decode cX11_closes 257 = .ok (.lastore, 1) := by decide +kernel
theorem dX11_closes_258 : decode cX11_closes 258 = .ok (.aload_n 0, 1) := by decide +kernel
theorem dX11_closes_259 : decode cX11_closes 259 = .ok (.getfield 32, 3) := by decide +kernel
theorem dX11_closes_262 : decode cX11_closes 262 = .ok (.iload_n 2, 1) := by decide +kernel
theorem dX11_closes_263 : decode cX11_closes 263 = .ok (.iload_n 1, 1) := by decide +kernel
theorem dX11_closes_264 : decode cX11_closes 264 = .ok (.iconst 1, 1) := by decide +kernel
theorem dX11_closes_265 : decode cX11_closes 265 = .ok (.iadd, 1) := by decide +kernel
theorem dX11_closes_266 : decode cX11_closes 266 = .ok (.iconst 0, 1) := by decide +kernel
theorem dX11_closes_267 : decode cX11_closes 267 = .ok (.invokestatic 198, 3) := by decide +kernel
theorem dX11_closes_270 : decode cX11_closes 270 = .ok (.dup2, 1) := by decide +kernel
theorem dX11_closes_271 : decode cX11_closes 271 = .ok (.laload, 1) := by decide +kernel
theorem dX11_closes_272 : decode cX11_closes 272 = .ok (.lload_n 3, 1) := by decide +kernel
theorem dX11_closes_273 : decode cX11_closes 273 = .ok (.ladd, 1) := by decide +kernel
theorem dX11_closes_274 : decode cX11_closes 274 = .ok (.lastore, 1) := by decide +kernel
theorem dX11_closes_275 : decode cX11_closes 275 = .ok (.aload_n 0, 1) := by decide +kernel
theorem dX11_closes_276 : decode cX11_closes 276 = .ok (.getfield 32, 3) := by decide +kernel
theorem dX11_closes_279 : decode cX11_closes 279 = .ok (.iload_n 2, 1) := by decide +kernel
theorem dX11_closes_280 : decode cX11_closes 280 = .ok (.iload_n 1, 1) := by decide +kernel
theorem dX11_closes_281 : decode cX11_closes 281 = .ok (.iconst 1, 1) := by decide +kernel
theorem dX11_closes_282 : decode cX11_closes 282 = .ok (.iadd, 1) := by decide +kernel
theorem dX11_closes_283 : decode cX11_closes 283 = .ok (.iconst 1, 1) := by decide +kernel
theorem dX11_closes_284 : decode cX11_closes 284 = .ok (.invokestatic 198, 3) := by decide +kernel
theorem dX11_closes_287 : decode cX11_closes 287 = .ok (.dup2, 1) := by decide +kernel
theorem dX11_closes_288 : decode cX11_closes 288 = .ok (.laload, 1) := by decide +kernel
theorem dX11_closes_289 : decode cX11_closes 289 = .ok (.lload_n 3, 1) := by decide +kernel
theorem dX11_closes_290 : decode cX11_closes 290 = .ok (.ladd, 1) := by decide +kernel
theorem dX11_closes_291 : decode cX11_closes 291 = .ok (.lastore, 1) := by decide +kernel
theorem dX11_closes_292 : decode cX11_closes 292 = .ok (.aload_n 0, 1) := by decide +kernel
theorem dX11_closes_293 : decode cX11_closes 293 = .ok (.iload_n 2, 1) := by decide +kernel
theorem dX11_closes_294 : decode cX11_closes 294 = .ok (.iload_n 1, 1) := by decide +kernel
theorem dX11_closes_295 : decode cX11_closes 295 = .ok (.invokevirtual 202, 3) := by decide +kernel
theorem dX11_closes_298 : decode cX11_closes 298 = .ok (.lstore 5, 2) := by decide +kernel
theorem dX11_closes_300 : decode cX11_closes 300 = .ok (.lload 5, 2) := by decide +kernel
theorem dX11_closes_302 : decode cX11_closes 302 = .ok (.lconst 0, 1) := by decide +kernel
theorem dX11_closes_303 : decode cX11_closes 303 = .ok (.lcmp, 1) := by decide +kernel
theorem dX11_closes_304 : decode cX11_closes 304 = .ok (.ifCond .le 18, 3) := by decide +kernel
theorem dX11_closes_307 : decode cX11_closes 307 = .ok (.lload 5, 2) := by decide +kernel
theorem dX11_closes_309 : decode cX11_closes 309 = .ok (.aload_n 0, 1) := by decide +kernel
theorem dX11_closes_310 : decode cX11_closes 310 = .ok (.getfield 223, 3) := by decide +kernel
theorem dX11_closes_313 : decode cX11_closes 313 = .ok (.i2l, 1) := by decide +kernel
theorem dX11_closes_314 : decode cX11_closes 314 = .ok (.lmul, 1) := by decide +kernel
theorem dX11_closes_315 : decode cX11_closes 315 = .ok (.ldc2_w 234, 3) := by decide +kernel
theorem dX11_closes_318 : decode cX11_closes 318 = .ok (.ldiv, 1) := by decide +kernel
theorem dX11_closes_319 : decode cX11_closes 319 = .ok (.goto 4, 3) := by decide +kernel
theorem dX11_closes_322 : decode cX11_closes 322 = .ok (.lconst 0, 1) := by decide +kernel
theorem dX11_closes_323 : decode cX11_closes 323 = .ok (.lstore 7, 2) := by decide +kernel
theorem dX11_closes_325 : decode cX11_closes 325 = .ok (.aload_n 0, 1) := by decide +kernel
theorem dX11_closes_326 : decode cX11_closes 326 = .ok (.getfield 32, 3) := by decide +kernel
theorem dX11_closes_329 : decode cX11_closes 329 = .ok (.iload_n 2, 1) := by decide +kernel
theorem dX11_closes_330 : decode cX11_closes 330 = .ok (.iload_n 1, 1) := by decide +kernel
theorem dX11_closes_331 : decode cX11_closes 331 = .ok (.iconst 0, 1) := by decide +kernel
theorem dX11_closes_332 : decode cX11_closes 332 = .ok (.invokestatic 198, 3) := by decide +kernel
theorem dX11_closes_335 : decode cX11_closes 335 = .ok (.dup2, 1) := by decide +kernel
theorem dX11_closes_336 : decode cX11_closes 336 = .ok (.laload, 1) := by decide +kernel
theorem dX11_closes_337 : decode cX11_closes 337 = .ok (.lload 7, 2) := by decide +kernel
theorem dX11_closes_339 : decode cX11_closes 339 = .ok (.lsub, 1) := by decide +kernel
theorem dX11_closes_340 : decode cX11_closes 340 = .ok (.lastore, 1) := by decide +kernel
theorem dX11_closes_341 : decode cX11_closes 341 = .ok (.aload_n 0, 1) := by decide +kernel
theorem dX11_closes_342 : decode cX11_closes 342 = .ok (.getfield 32, 3) := by decide +kernel
theorem dX11_closes_345 : decode cX11_closes 345 = .ok (.iload_n 2, 1) := by decide +kernel
theorem dX11_closes_346 : decode cX11_closes 346 = .ok (.iload_n 1, 1) := by decide +kernel
theorem dX11_closes_347 : decode cX11_closes 347 = .ok (.iconst 1, 1) := by decide +kernel
theorem dX11_closes_348 : decode cX11_closes 348 = .ok (.iadd, 1) := by decide +kernel
theorem dX11_closes_349 : decode cX11_closes 349 = .ok (.iconst 0, 1) := by decide +kernel
theorem dX11_closes_350 : decode cX11_closes 350 = .ok (.invokestatic 198, 3) := by decide +kernel
theorem dX11_closes_353 : decode cX11_closes 353 = .ok (.dup2, 1) := by decide +kernel
theorem dX11_closes_354 : decode cX11_closes 354 = .ok (.laload, 1) := by decide +kernel
theorem dX11_closes_355 : decode cX11_closes 355 = .ok (.lload 7, 2) := by decide +kernel
theorem dX11_closes_357 : decode cX11_closes 357 = .ok (.ladd, 1) := by decide +kernel
theorem dX11_closes_358 : decode cX11_closes 358 = .ok (.lastore, 1) := by decide +kernel
theorem dX11_closes_359 : decode cX11_closes 359 = .ok (.iinc 2 1, 3) := by decide +kernel
theorem dX11_closes_362 : decode cX11_closes 362 = .ok (.goto (-149), 3) := by decide +kernel
theorem dX11_closes_365 : decode cX11_closes 365 = .ok (.return_, 1) := by decide +kernel
def cl1 (o x : Int32) (Mi : MS) : MS :=
    if (gI Mi 18 (x / 4)) ≤ (x - x / 4 * 4) then
      Mi
    else
    if (gI Mi 17 (x / 4)) = 4 then
      if (gI Mi 27 x) = 0 then
        (rJ (rJ Mi 11 (f_at (gI Mi 16 (x / 4)) o 2) ((gJ Mi 11 (f_at (gI Mi 16 (x / 4)) o 2)) + ((((gI Mi 30 x) - (f_bookedPieces x Mi)).toInt64) * ((gI Mi 29 x).toInt64)))) 11 (f_at (gI Mi 16 (x / 4)) (o + 1) 2) ((gJ (rJ Mi 11 (f_at (gI Mi 16 (x / 4)) o 2) ((gJ Mi 11 (f_at (gI Mi 16 (x / 4)) o 2)) + ((((gI Mi 30 x) - (f_bookedPieces x Mi)).toInt64) * ((gI Mi 29 x).toInt64)))) 11 (f_at (gI Mi 16 (x / 4)) (o + 1) 2)) - ((((gI Mi 30 x) - (f_bookedPieces x Mi)).toInt64) * ((gI Mi 29 x).toInt64))))
      else
      Mi
    else
    Mi
def it_cl1 (o : Int32) (M : MS) : Nat → MS
  | 0 => M
  | i + 1 => cl1 o (nI i) (it_cl1 o M i)
def cl2 (o x : Int32) (Mi : MS) : MS :=
    if (gI Mi 17 x) = 1 then
      if (gI Mi 20 x) = o then
        (rI Mi 20 x (o + 1))
      else
      (rI Mi 20 x (gI Mi 20 x))
    else
    if (gI Mi 17 x) = 2 then
      if (gI Mi 20 x) = o then
        (rI Mi 20 x (o + 1))
      else
      (rI Mi 20 x (gI Mi 20 x))
    else
    if (gI Mi 17 x) = 4 then
      if (gI Mi 20 x) = o then
        (rI Mi 20 x (o + 1))
      else
      (rI Mi 20 x (gI Mi 20 x))
    else
    (rI Mi 20 x (gI Mi 20 x))
def it_cl2 (o : Int32) (M : MS) : Nat → MS
  | 0 => M
  | i + 1 => cl2 o (nI i) (it_cl2 o M i)
def cl3 (o x : Int32) (Mi : MS) : MS :=
    if (lg_cmp (f_free x o (rJ (rJ (rJ (rJ Mi 11 (f_at x o 0) ((gJ Mi 11 (f_at x o 0)) - (gJ Mi 11 (f_at x o 1)))) 11 (f_at x o 1) 0) 11 (f_at x (o + 1) 0) ((gJ (rJ (rJ Mi 11 (f_at x o 0) ((gJ Mi 11 (f_at x o 0)) - (gJ Mi 11 (f_at x o 1)))) 11 (f_at x o 1) 0) 11 (f_at x (o + 1) 0)) + (gJ Mi 11 (f_at x o 1)))) 11 (f_at x (o + 1) 1) ((gJ (rJ (rJ (rJ Mi 11 (f_at x o 0) ((gJ Mi 11 (f_at x o 0)) - (gJ Mi 11 (f_at x o 1)))) 11 (f_at x o 1) 0) 11 (f_at x (o + 1) 0) ((gJ (rJ (rJ Mi 11 (f_at x o 0) ((gJ Mi 11 (f_at x o 0)) - (gJ Mi 11 (f_at x o 1)))) 11 (f_at x o 1) 0) 11 (f_at x (o + 1) 0)) + (gJ Mi 11 (f_at x o 1)))) 11 (f_at x (o + 1) 1)) + (gJ Mi 11 (f_at x o 1))))) 0) ≤ 0 then
      (rJ (rJ (rJ (rJ (rJ (rJ Mi 11 (f_at x o 0) ((gJ Mi 11 (f_at x o 0)) - (gJ Mi 11 (f_at x o 1)))) 11 (f_at x o 1) 0) 11 (f_at x (o + 1) 0) ((gJ (rJ (rJ Mi 11 (f_at x o 0) ((gJ Mi 11 (f_at x o 0)) - (gJ Mi 11 (f_at x o 1)))) 11 (f_at x o 1) 0) 11 (f_at x (o + 1) 0)) + (gJ Mi 11 (f_at x o 1)))) 11 (f_at x (o + 1) 1) ((gJ (rJ (rJ (rJ Mi 11 (f_at x o 0) ((gJ Mi 11 (f_at x o 0)) - (gJ Mi 11 (f_at x o 1)))) 11 (f_at x o 1) 0) 11 (f_at x (o + 1) 0) ((gJ (rJ (rJ Mi 11 (f_at x o 0) ((gJ Mi 11 (f_at x o 0)) - (gJ Mi 11 (f_at x o 1)))) 11 (f_at x o 1) 0) 11 (f_at x (o + 1) 0)) + (gJ Mi 11 (f_at x o 1)))) 11 (f_at x (o + 1) 1)) + (gJ Mi 11 (f_at x o 1)))) 11 (f_at x o 0) ((gJ (rJ (rJ (rJ (rJ Mi 11 (f_at x o 0) ((gJ Mi 11 (f_at x o 0)) - (gJ Mi 11 (f_at x o 1)))) 11 (f_at x o 1) 0) 11 (f_at x (o + 1) 0) ((gJ (rJ (rJ Mi 11 (f_at x o 0) ((gJ Mi 11 (f_at x o 0)) - (gJ Mi 11 (f_at x o 1)))) 11 (f_at x o 1) 0) 11 (f_at x (o + 1) 0)) + (gJ Mi 11 (f_at x o 1)))) 11 (f_at x (o + 1) 1) ((gJ (rJ (rJ (rJ Mi 11 (f_at x o 0) ((gJ Mi 11 (f_at x o 0)) - (gJ Mi 11 (f_at x o 1)))) 11 (f_at x o 1) 0) 11 (f_at x (o + 1) 0) ((gJ (rJ (rJ Mi 11 (f_at x o 0) ((gJ Mi 11 (f_at x o 0)) - (gJ Mi 11 (f_at x o 1)))) 11 (f_at x o 1) 0) 11 (f_at x (o + 1) 0)) + (gJ Mi 11 (f_at x o 1)))) 11 (f_at x (o + 1) 1)) + (gJ Mi 11 (f_at x o 1)))) 11 (f_at x o 0)) - 0)) 11 (f_at x (o + 1) 0) ((gJ (rJ (rJ (rJ (rJ (rJ Mi 11 (f_at x o 0) ((gJ Mi 11 (f_at x o 0)) - (gJ Mi 11 (f_at x o 1)))) 11 (f_at x o 1) 0) 11 (f_at x (o + 1) 0) ((gJ (rJ (rJ Mi 11 (f_at x o 0) ((gJ Mi 11 (f_at x o 0)) - (gJ Mi 11 (f_at x o 1)))) 11 (f_at x o 1) 0) 11 (f_at x (o + 1) 0)) + (gJ Mi 11 (f_at x o 1)))) 11 (f_at x (o + 1) 1) ((gJ (rJ (rJ (rJ Mi 11 (f_at x o 0) ((gJ Mi 11 (f_at x o 0)) - (gJ Mi 11 (f_at x o 1)))) 11 (f_at x o 1) 0) 11 (f_at x (o + 1) 0) ((gJ (rJ (rJ Mi 11 (f_at x o 0) ((gJ Mi 11 (f_at x o 0)) - (gJ Mi 11 (f_at x o 1)))) 11 (f_at x o 1) 0) 11 (f_at x (o + 1) 0)) + (gJ Mi 11 (f_at x o 1)))) 11 (f_at x (o + 1) 1)) + (gJ Mi 11 (f_at x o 1)))) 11 (f_at x o 0) ((gJ (rJ (rJ (rJ (rJ Mi 11 (f_at x o 0) ((gJ Mi 11 (f_at x o 0)) - (gJ Mi 11 (f_at x o 1)))) 11 (f_at x o 1) 0) 11 (f_at x (o + 1) 0) ((gJ (rJ (rJ Mi 11 (f_at x o 0) ((gJ Mi 11 (f_at x o 0)) - (gJ Mi 11 (f_at x o 1)))) 11 (f_at x o 1) 0) 11 (f_at x (o + 1) 0)) + (gJ Mi 11 (f_at x o 1)))) 11 (f_at x (o + 1) 1) ((gJ (rJ (rJ (rJ Mi 11 (f_at x o 0) ((gJ Mi 11 (f_at x o 0)) - (gJ Mi 11 (f_at x o 1)))) 11 (f_at x o 1) 0) 11 (f_at x (o + 1) 0) ((gJ (rJ (rJ Mi 11 (f_at x o 0) ((gJ Mi 11 (f_at x o 0)) - (gJ Mi 11 (f_at x o 1)))) 11 (f_at x o 1) 0) 11 (f_at x (o + 1) 0)) + (gJ Mi 11 (f_at x o 1)))) 11 (f_at x (o + 1) 1)) + (gJ Mi 11 (f_at x o 1)))) 11 (f_at x o 0)) - 0)) 11 (f_at x (o + 1) 0)) + 0))
    else
    (rJ (rJ (rJ (rJ (rJ (rJ Mi 11 (f_at x o 0) ((gJ Mi 11 (f_at x o 0)) - (gJ Mi 11 (f_at x o 1)))) 11 (f_at x o 1) 0) 11 (f_at x (o + 1) 0) ((gJ (rJ (rJ Mi 11 (f_at x o 0) ((gJ Mi 11 (f_at x o 0)) - (gJ Mi 11 (f_at x o 1)))) 11 (f_at x o 1) 0) 11 (f_at x (o + 1) 0)) + (gJ Mi 11 (f_at x o 1)))) 11 (f_at x (o + 1) 1) ((gJ (rJ (rJ (rJ Mi 11 (f_at x o 0) ((gJ Mi 11 (f_at x o 0)) - (gJ Mi 11 (f_at x o 1)))) 11 (f_at x o 1) 0) 11 (f_at x (o + 1) 0) ((gJ (rJ (rJ Mi 11 (f_at x o 0) ((gJ Mi 11 (f_at x o 0)) - (gJ Mi 11 (f_at x o 1)))) 11 (f_at x o 1) 0) 11 (f_at x (o + 1) 0)) + (gJ Mi 11 (f_at x o 1)))) 11 (f_at x (o + 1) 1)) + (gJ Mi 11 (f_at x o 1)))) 11 (f_at x o 0) ((gJ (rJ (rJ (rJ (rJ Mi 11 (f_at x o 0) ((gJ Mi 11 (f_at x o 0)) - (gJ Mi 11 (f_at x o 1)))) 11 (f_at x o 1) 0) 11 (f_at x (o + 1) 0) ((gJ (rJ (rJ Mi 11 (f_at x o 0) ((gJ Mi 11 (f_at x o 0)) - (gJ Mi 11 (f_at x o 1)))) 11 (f_at x o 1) 0) 11 (f_at x (o + 1) 0)) + (gJ Mi 11 (f_at x o 1)))) 11 (f_at x (o + 1) 1) ((gJ (rJ (rJ (rJ Mi 11 (f_at x o 0) ((gJ Mi 11 (f_at x o 0)) - (gJ Mi 11 (f_at x o 1)))) 11 (f_at x o 1) 0) 11 (f_at x (o + 1) 0) ((gJ (rJ (rJ Mi 11 (f_at x o 0) ((gJ Mi 11 (f_at x o 0)) - (gJ Mi 11 (f_at x o 1)))) 11 (f_at x o 1) 0) 11 (f_at x (o + 1) 0)) + (gJ Mi 11 (f_at x o 1)))) 11 (f_at x (o + 1) 1)) + (gJ Mi 11 (f_at x o 1)))) 11 (f_at x o 0)) - (((f_free x o (rJ (rJ (rJ (rJ Mi 11 (f_at x o 0) ((gJ Mi 11 (f_at x o 0)) - (gJ Mi 11 (f_at x o 1)))) 11 (f_at x o 1) 0) 11 (f_at x (o + 1) 0) ((gJ (rJ (rJ Mi 11 (f_at x o 0) ((gJ Mi 11 (f_at x o 0)) - (gJ Mi 11 (f_at x o 1)))) 11 (f_at x o 1) 0) 11 (f_at x (o + 1) 0)) + (gJ Mi 11 (f_at x o 1)))) 11 (f_at x (o + 1) 1) ((gJ (rJ (rJ (rJ Mi 11 (f_at x o 0) ((gJ Mi 11 (f_at x o 0)) - (gJ Mi 11 (f_at x o 1)))) 11 (f_at x o 1) 0) 11 (f_at x (o + 1) 0) ((gJ (rJ (rJ Mi 11 (f_at x o 0) ((gJ Mi 11 (f_at x o 0)) - (gJ Mi 11 (f_at x o 1)))) 11 (f_at x o 1) 0) 11 (f_at x (o + 1) 0)) + (gJ Mi 11 (f_at x o 1)))) 11 (f_at x (o + 1) 1)) + (gJ Mi 11 (f_at x o 1))))) * ((mI Mi 13).toInt64)) / 100))) 11 (f_at x (o + 1) 0) ((gJ (rJ (rJ (rJ (rJ (rJ Mi 11 (f_at x o 0) ((gJ Mi 11 (f_at x o 0)) - (gJ Mi 11 (f_at x o 1)))) 11 (f_at x o 1) 0) 11 (f_at x (o + 1) 0) ((gJ (rJ (rJ Mi 11 (f_at x o 0) ((gJ Mi 11 (f_at x o 0)) - (gJ Mi 11 (f_at x o 1)))) 11 (f_at x o 1) 0) 11 (f_at x (o + 1) 0)) + (gJ Mi 11 (f_at x o 1)))) 11 (f_at x (o + 1) 1) ((gJ (rJ (rJ (rJ Mi 11 (f_at x o 0) ((gJ Mi 11 (f_at x o 0)) - (gJ Mi 11 (f_at x o 1)))) 11 (f_at x o 1) 0) 11 (f_at x (o + 1) 0) ((gJ (rJ (rJ Mi 11 (f_at x o 0) ((gJ Mi 11 (f_at x o 0)) - (gJ Mi 11 (f_at x o 1)))) 11 (f_at x o 1) 0) 11 (f_at x (o + 1) 0)) + (gJ Mi 11 (f_at x o 1)))) 11 (f_at x (o + 1) 1)) + (gJ Mi 11 (f_at x o 1)))) 11 (f_at x o 0) ((gJ (rJ (rJ (rJ (rJ Mi 11 (f_at x o 0) ((gJ Mi 11 (f_at x o 0)) - (gJ Mi 11 (f_at x o 1)))) 11 (f_at x o 1) 0) 11 (f_at x (o + 1) 0) ((gJ (rJ (rJ Mi 11 (f_at x o 0) ((gJ Mi 11 (f_at x o 0)) - (gJ Mi 11 (f_at x o 1)))) 11 (f_at x o 1) 0) 11 (f_at x (o + 1) 0)) + (gJ Mi 11 (f_at x o 1)))) 11 (f_at x (o + 1) 1) ((gJ (rJ (rJ (rJ Mi 11 (f_at x o 0) ((gJ Mi 11 (f_at x o 0)) - (gJ Mi 11 (f_at x o 1)))) 11 (f_at x o 1) 0) 11 (f_at x (o + 1) 0) ((gJ (rJ (rJ Mi 11 (f_at x o 0) ((gJ Mi 11 (f_at x o 0)) - (gJ Mi 11 (f_at x o 1)))) 11 (f_at x o 1) 0) 11 (f_at x (o + 1) 0)) + (gJ Mi 11 (f_at x o 1)))) 11 (f_at x (o + 1) 1)) + (gJ Mi 11 (f_at x o 1)))) 11 (f_at x o 0)) - (((f_free x o (rJ (rJ (rJ (rJ Mi 11 (f_at x o 0) ((gJ Mi 11 (f_at x o 0)) - (gJ Mi 11 (f_at x o 1)))) 11 (f_at x o 1) 0) 11 (f_at x (o + 1) 0) ((gJ (rJ (rJ Mi 11 (f_at x o 0) ((gJ Mi 11 (f_at x o 0)) - (gJ Mi 11 (f_at x o 1)))) 11 (f_at x o 1) 0) 11 (f_at x (o + 1) 0)) + (gJ Mi 11 (f_at x o 1)))) 11 (f_at x (o + 1) 1) ((gJ (rJ (rJ (rJ Mi 11 (f_at x o 0) ((gJ Mi 11 (f_at x o 0)) - (gJ Mi 11 (f_at x o 1)))) 11 (f_at x o 1) 0) 11 (f_at x (o + 1) 0) ((gJ (rJ (rJ Mi 11 (f_at x o 0) ((gJ Mi 11 (f_at x o 0)) - (gJ Mi 11 (f_at x o 1)))) 11 (f_at x o 1) 0) 11 (f_at x (o + 1) 0)) + (gJ Mi 11 (f_at x o 1)))) 11 (f_at x (o + 1) 1)) + (gJ Mi 11 (f_at x o 1))))) * ((mI Mi 13).toInt64)) / 100))) 11 (f_at x (o + 1) 0)) + (((f_free x o (rJ (rJ (rJ (rJ Mi 11 (f_at x o 0) ((gJ Mi 11 (f_at x o 0)) - (gJ Mi 11 (f_at x o 1)))) 11 (f_at x o 1) 0) 11 (f_at x (o + 1) 0) ((gJ (rJ (rJ Mi 11 (f_at x o 0) ((gJ Mi 11 (f_at x o 0)) - (gJ Mi 11 (f_at x o 1)))) 11 (f_at x o 1) 0) 11 (f_at x (o + 1) 0)) + (gJ Mi 11 (f_at x o 1)))) 11 (f_at x (o + 1) 1) ((gJ (rJ (rJ (rJ Mi 11 (f_at x o 0) ((gJ Mi 11 (f_at x o 0)) - (gJ Mi 11 (f_at x o 1)))) 11 (f_at x o 1) 0) 11 (f_at x (o + 1) 0) ((gJ (rJ (rJ Mi 11 (f_at x o 0) ((gJ Mi 11 (f_at x o 0)) - (gJ Mi 11 (f_at x o 1)))) 11 (f_at x o 1) 0) 11 (f_at x (o + 1) 0)) + (gJ Mi 11 (f_at x o 1)))) 11 (f_at x (o + 1) 1)) + (gJ Mi 11 (f_at x o 1))))) * ((mI Mi 13).toInt64)) / 100)))
def it_cl3 (o : Int32) (M : MS) : Nat → MS
  | 0 => M
  | i + 1 => cl3 o (nI i) (it_cl3 o M i)
def f_closes (M : MS) : MS := it_cl3 ((f_yearNow M) - 1) (it_cl2 ((f_yearNow M) - 1) (it_cl1 ((f_yearNow M) - 1) M (4 * mI M 14).toNatClampNeg) (mI M 14).toNatClampNeg) 6
abbrev rm_X11_closes : Room := { frames := 2, cells := 0, slots := 0, locals := 44 }
theorem vin_q4 {i n : Nat} (h : i < 4 * n) (hn : n ≤ 40) : vp_in (nI i / 4) 40 := by
  rw [show (4 : Int32) = nI 4 from rfl, pk_div (by omega) (by decide) (by decide)]
  exact vp_in_nI (by omega) (by decide)
theorem q4_of {P : Int32 → Prop} {i n : Nat} (h : i < 4 * n) (hn : n ≤ 40) (hr : ∀ r, r < n → P (nI r)) : P (nI i / 4) := by
  rw [show (4 : Int32) = nI 4 from rfl, pk_div (by omega) (by decide) (by decide)]
  exact hr _ (by omega)
theorem vin9 (i : Nat) (h : i < 6) : P_isCentre (nI i) := ⟨nI_pos' (by omega), show nI i ≤ nI 5 from nI_le (by omega) (by decide)⟩
set_option maxRecDepth 100000 in
set_option maxHeartbeats 40000000 in
theorem c_closes {l : Launch} {k : KC} {mo : Nat} {ad : Nat → Nat} (hl : l.stackTraces = false) (hM : HM mo ad) {M : MS} {n : Nat} (hn : n ≤ 40) (e14 : mI M 14 = nI n) (hr : ∀ r, r < n → P_isCentre (gI M 16 (nI r))) (h39 : LE (mI M 39) 60) (hyo : P_isYear ((f_yearNow M) - 1) ∧ P_isYear (((f_yearNow M) - 1) + 1)) : CM l k mo ad yX11_closes (.code yX11_closes cX11_closes 9 none) rm_X11_closes [] M none (f_closes M) := by
  refine MC.of 8 hl (by decide) (Nat.le_of_ble_eq_true rfl) ?_
  intro p e s m args below meth c A Q G B _ _
  show Wx p l e rm_X11_closes s m args below meth c k A 9 Q 0 0 0 [some (.ref mo), none, none, none, none, none, none, none, none] [] (mW k mo ad M)
  have hF : f_closes M = it_cl3 ((f_yearNow M) - 1) (it_cl2 ((f_yearNow M) - 1) (it_cl1 ((f_yearNow M) - 1) M (4 * n)) n) 6 := by
    rw [f_closes, e14, show (4 : Int32) = nI 4 from rfl, pk_mul, nI_clamp (by omega), nI_clamp (by omega)]
  have loop3 : ∀ (f i : Nat) (Mi : MS), i ≤ 6 → 6 - i < f → it_cl3 ((f_yearNow M) - 1) (it_cl2 ((f_yearNow M) - 1) (it_cl1 ((f_yearNow M) - 1) M (4 * n)) n) i = Mi → True → Wx p l e rm_X11_closes s m args below meth c k A 9 Q 0 0 213 [some (.ref mo), some (.int ((f_yearNow M) - 1)), some (.int (nI i)), none, none, none, none, none, none] [] (mW k mo ad Mi) := by
    intro f
    induction f with
    | zero => intro i Mi _ h9 _ _; omega
    | succ f ih =>
      intro i Mi hi hf hit hI
      refine x_iload2 (pc := 213) G dX11_closes_213 ?_
      refine x_bipush (pc := 214) (v := 6) G dX11_closes_214 bp_6 ?_
      refine x_icmp_ge (pc := 216) (tgt := 365) G dX11_closes_216 rfl (fun c1 => ?_) (fun c1 => ?_)
      · have ei : i = 6 := lp_end (show (6 : Int32) = nI 6 from rfl) c1 hi (by omega)
        exact x_vret (pc := 365) G B rfl dX11_closes_365 ⟨rfl, by rw [hF, ← ei, hit]⟩
      have hlt := lp_lt (show (6 : Int32) = nI 6 from rfl) c1 hi (by omega)
      refine x_aload0 (pc := 219) G dX11_closes_219 ?_
      refine y_gA (pc := 220) G g_32 mG_11 dX11_closes_220 ?_
      refine x_iload2 (pc := 223) G dX11_closes_223 ?_
      refine x_iload1 (pc := 224) G dX11_closes_224 ?_
      refine x_iconst (pc := 225) (v := 1) G dX11_closes_225 ic_1 ?_
      refine x_cS3 (pc := 226) G (c_at hl hM _) q_ml_X11_198 h_X11_at ⟨Nat.le_of_ble_eq_true rfl, Nat.le_of_ble_eq_true rfl⟩ (Nat.le_of_ble_eq_true rfl) (Nat.le_refl _) (Nat.le_refl _) dX11_closes_226 ?_
      refine y_lald (pc := 229) (v := (gJ Mi 11 (f_at (nI i) ((f_yearNow M) - 1) 1))) G hM a_11 (vin_at (vin9 i hlt) hyo.1 (by decide)) rfl dX11_closes_229 ?_
      refine x_lstore3 (pc := 230) G dX11_closes_230 (Nat.le_of_ble_eq_true rfl) rfl ?_
      refine x_aload0 (pc := 231) G dX11_closes_231 ?_
      refine y_gA (pc := 232) G g_32 mG_11 dX11_closes_232 ?_
      refine x_iload2 (pc := 235) G dX11_closes_235 ?_
      refine x_iload1 (pc := 236) G dX11_closes_236 ?_
      refine x_iconst (pc := 237) (v := 0) G dX11_closes_237 ic_0 ?_
      refine x_cS3 (pc := 238) G (c_at hl hM _) q_ml_X11_198 h_X11_at ⟨Nat.le_of_ble_eq_true rfl, Nat.le_of_ble_eq_true rfl⟩ (Nat.le_of_ble_eq_true rfl) (Nat.le_refl _) (Nat.le_refl _) dX11_closes_238 ?_
      refine x_dup2 (pc := 241) G dX11_closes_241 rfl rfl ?_
      refine y_lald (pc := 242) (v := (gJ Mi 11 (f_at (nI i) ((f_yearNow M) - 1) 0))) G hM a_11 (vin_at (vin9 i hlt) hyo.1 (by decide)) rfl dX11_closes_242 ?_
      refine x_lload3 (pc := 243) G dX11_closes_243 ?_
      refine x_lsub (pc := 244) G dX11_closes_244 ?_
      refine y_last (pc := 245) G hM a_11 (vin_at (vin9 i hlt) hyo.1 (by decide)) dX11_closes_245 ?_
      refine x_aload0 (pc := 246) G dX11_closes_246 ?_
      refine y_gA (pc := 247) G g_32 mG_11 dX11_closes_247 ?_
      refine x_iload2 (pc := 250) G dX11_closes_250 ?_
      refine x_iload1 (pc := 251) G dX11_closes_251 ?_
      refine x_iconst (pc := 252) (v := 1) G dX11_closes_252 ic_1 ?_
      refine x_cS3 (pc := 253) G (c_at hl hM _) q_ml_X11_198 h_X11_at ⟨Nat.le_of_ble_eq_true rfl, Nat.le_of_ble_eq_true rfl⟩ (Nat.le_of_ble_eq_true rfl) (Nat.le_refl _) (Nat.le_refl _) dX11_closes_253 ?_
      refine x_lconst (pc := 256) (v := 0) G dX11_closes_256 lc_0 ?_
      refine y_last (pc := 257) G hM a_11 (vin_at (vin9 i hlt) hyo.1 (by decide)) dX11_closes_257 ?_
      refine x_aload0 (pc := 258) G dX11_closes_258 ?_
      refine y_gA (pc := 259) G g_32 mG_11 dX11_closes_259 ?_
      refine x_iload2 (pc := 262) G dX11_closes_262 ?_
      refine x_iload1 (pc := 263) G dX11_closes_263 ?_
      refine x_iconst (pc := 264) (v := 1) G dX11_closes_264 ic_1 ?_
      refine x_iadd (pc := 265) G dX11_closes_265 ?_
      refine x_iconst (pc := 266) (v := 0) G dX11_closes_266 ic_0 ?_
      refine x_cS3 (pc := 267) G (c_at hl hM _) q_ml_X11_198 h_X11_at ⟨Nat.le_of_ble_eq_true rfl, Nat.le_of_ble_eq_true rfl⟩ (Nat.le_of_ble_eq_true rfl) (Nat.le_refl _) (Nat.le_refl _) dX11_closes_267 ?_
      refine x_dup2 (pc := 270) G dX11_closes_270 rfl rfl ?_
      refine y_lald (pc := 271) (v := (gJ (rJ (rJ Mi 11 (f_at (nI i) ((f_yearNow M) - 1) 0) ((gJ Mi 11 (f_at (nI i) ((f_yearNow M) - 1) 0)) - (gJ Mi 11 (f_at (nI i) ((f_yearNow M) - 1) 1)))) 11 (f_at (nI i) ((f_yearNow M) - 1) 1) 0) 11 (f_at (nI i) (((f_yearNow M) - 1) + 1) 0))) G hM a_11 (vin_at (vin9 i hlt) hyo.2 (by decide)) rfl dX11_closes_271 ?_
      refine x_lload3 (pc := 272) G dX11_closes_272 ?_
      refine x_ladd (pc := 273) G dX11_closes_273 ?_
      refine y_last (pc := 274) G hM a_11 (vin_at (vin9 i hlt) hyo.2 (by decide)) dX11_closes_274 ?_
      refine x_aload0 (pc := 275) G dX11_closes_275 ?_
      refine y_gA (pc := 276) G g_32 mG_11 dX11_closes_276 ?_
      refine x_iload2 (pc := 279) G dX11_closes_279 ?_
      refine x_iload1 (pc := 280) G dX11_closes_280 ?_
      refine x_iconst (pc := 281) (v := 1) G dX11_closes_281 ic_1 ?_
      refine x_iadd (pc := 282) G dX11_closes_282 ?_
      refine x_iconst (pc := 283) (v := 1) G dX11_closes_283 ic_1 ?_
      refine x_cS3 (pc := 284) G (c_at hl hM _) q_ml_X11_198 h_X11_at ⟨Nat.le_of_ble_eq_true rfl, Nat.le_of_ble_eq_true rfl⟩ (Nat.le_of_ble_eq_true rfl) (Nat.le_refl _) (Nat.le_refl _) dX11_closes_284 ?_
      refine x_dup2 (pc := 287) G dX11_closes_287 rfl rfl ?_
      refine y_lald (pc := 288) (v := (gJ (rJ (rJ (rJ Mi 11 (f_at (nI i) ((f_yearNow M) - 1) 0) ((gJ Mi 11 (f_at (nI i) ((f_yearNow M) - 1) 0)) - (gJ Mi 11 (f_at (nI i) ((f_yearNow M) - 1) 1)))) 11 (f_at (nI i) ((f_yearNow M) - 1) 1) 0) 11 (f_at (nI i) (((f_yearNow M) - 1) + 1) 0) ((gJ (rJ (rJ Mi 11 (f_at (nI i) ((f_yearNow M) - 1) 0) ((gJ Mi 11 (f_at (nI i) ((f_yearNow M) - 1) 0)) - (gJ Mi 11 (f_at (nI i) ((f_yearNow M) - 1) 1)))) 11 (f_at (nI i) ((f_yearNow M) - 1) 1) 0) 11 (f_at (nI i) (((f_yearNow M) - 1) + 1) 0)) + (gJ Mi 11 (f_at (nI i) ((f_yearNow M) - 1) 1)))) 11 (f_at (nI i) (((f_yearNow M) - 1) + 1) 1))) G hM a_11 (vin_at (vin9 i hlt) hyo.2 (by decide)) rfl dX11_closes_288 ?_
      refine x_lload3 (pc := 289) G dX11_closes_289 ?_
      refine x_ladd (pc := 290) G dX11_closes_290 ?_
      refine y_last (pc := 291) G hM a_11 (vin_at (vin9 i hlt) hyo.2 (by decide)) dX11_closes_291 ?_
      refine x_aload0 (pc := 292) G dX11_closes_292 ?_
      refine x_iload2 (pc := 293) G dX11_closes_293 ?_
      refine x_iload1 (pc := 294) G dX11_closes_294 ?_
      refine y_c2 (pc := 295) G (c_free hl hM (vin9 i hlt) hyo.1) q_ml_X11_202 h_X11_free rfl ⟨Nat.le_of_ble_eq_true rfl, Nat.le_of_ble_eq_true rfl⟩ (Nat.le_of_ble_eq_true rfl) (Nat.le_refl _) (Nat.le_refl _) dX11_closes_295 ?_
      refine x_lstore5 (pc := 298) G dX11_closes_298 (Nat.le_of_ble_eq_true rfl) rfl ?_
      refine x_lload5 (pc := 300) G dX11_closes_300 ?_
      refine x_lconst (pc := 302) (v := 0) G dX11_closes_302 lc_0 ?_
      refine x_lcmp (pc := 303) G dX11_closes_303 ?_
      refine x_if_le (pc := 304) (y := 0) (tgt := 322) G dX11_closes_304 rfl (fun c2 => ?_) (fun c2 => ?_)
      · refine x_lconst (pc := 322) (v := 0) G dX11_closes_322 lc_0 ?_
        refine x_lstore7 (pc := 323) G dX11_closes_323 (Nat.le_of_ble_eq_true rfl) rfl ?_
        refine x_aload0 (pc := 325) G dX11_closes_325 ?_
        refine y_gA (pc := 326) G g_32 mG_11 dX11_closes_326 ?_
        refine x_iload2 (pc := 329) G dX11_closes_329 ?_
        refine x_iload1 (pc := 330) G dX11_closes_330 ?_
        refine x_iconst (pc := 331) (v := 0) G dX11_closes_331 ic_0 ?_
        refine x_cS3 (pc := 332) G (c_at hl hM _) q_ml_X11_198 h_X11_at ⟨Nat.le_of_ble_eq_true rfl, Nat.le_of_ble_eq_true rfl⟩ (Nat.le_of_ble_eq_true rfl) (Nat.le_refl _) (Nat.le_refl _) dX11_closes_332 ?_
        refine x_dup2 (pc := 335) G dX11_closes_335 rfl rfl ?_
        refine y_lald (pc := 336) (v := (gJ (rJ (rJ (rJ (rJ Mi 11 (f_at (nI i) ((f_yearNow M) - 1) 0) ((gJ Mi 11 (f_at (nI i) ((f_yearNow M) - 1) 0)) - (gJ Mi 11 (f_at (nI i) ((f_yearNow M) - 1) 1)))) 11 (f_at (nI i) ((f_yearNow M) - 1) 1) 0) 11 (f_at (nI i) (((f_yearNow M) - 1) + 1) 0) ((gJ (rJ (rJ Mi 11 (f_at (nI i) ((f_yearNow M) - 1) 0) ((gJ Mi 11 (f_at (nI i) ((f_yearNow M) - 1) 0)) - (gJ Mi 11 (f_at (nI i) ((f_yearNow M) - 1) 1)))) 11 (f_at (nI i) ((f_yearNow M) - 1) 1) 0) 11 (f_at (nI i) (((f_yearNow M) - 1) + 1) 0)) + (gJ Mi 11 (f_at (nI i) ((f_yearNow M) - 1) 1)))) 11 (f_at (nI i) (((f_yearNow M) - 1) + 1) 1) ((gJ (rJ (rJ (rJ Mi 11 (f_at (nI i) ((f_yearNow M) - 1) 0) ((gJ Mi 11 (f_at (nI i) ((f_yearNow M) - 1) 0)) - (gJ Mi 11 (f_at (nI i) ((f_yearNow M) - 1) 1)))) 11 (f_at (nI i) ((f_yearNow M) - 1) 1) 0) 11 (f_at (nI i) (((f_yearNow M) - 1) + 1) 0) ((gJ (rJ (rJ Mi 11 (f_at (nI i) ((f_yearNow M) - 1) 0) ((gJ Mi 11 (f_at (nI i) ((f_yearNow M) - 1) 0)) - (gJ Mi 11 (f_at (nI i) ((f_yearNow M) - 1) 1)))) 11 (f_at (nI i) ((f_yearNow M) - 1) 1) 0) 11 (f_at (nI i) (((f_yearNow M) - 1) + 1) 0)) + (gJ Mi 11 (f_at (nI i) ((f_yearNow M) - 1) 1)))) 11 (f_at (nI i) (((f_yearNow M) - 1) + 1) 1)) + (gJ Mi 11 (f_at (nI i) ((f_yearNow M) - 1) 1)))) 11 (f_at (nI i) ((f_yearNow M) - 1) 0))) G hM a_11 (vin_at (vin9 i hlt) hyo.1 (by decide)) rfl dX11_closes_336 ?_
        refine x_lload7 (pc := 337) G dX11_closes_337 ?_
        refine x_lsub (pc := 339) G dX11_closes_339 ?_
        refine y_last (pc := 340) G hM a_11 (vin_at (vin9 i hlt) hyo.1 (by decide)) dX11_closes_340 ?_
        refine x_aload0 (pc := 341) G dX11_closes_341 ?_
        refine y_gA (pc := 342) G g_32 mG_11 dX11_closes_342 ?_
        refine x_iload2 (pc := 345) G dX11_closes_345 ?_
        refine x_iload1 (pc := 346) G dX11_closes_346 ?_
        refine x_iconst (pc := 347) (v := 1) G dX11_closes_347 ic_1 ?_
        refine x_iadd (pc := 348) G dX11_closes_348 ?_
        refine x_iconst (pc := 349) (v := 0) G dX11_closes_349 ic_0 ?_
        refine x_cS3 (pc := 350) G (c_at hl hM _) q_ml_X11_198 h_X11_at ⟨Nat.le_of_ble_eq_true rfl, Nat.le_of_ble_eq_true rfl⟩ (Nat.le_of_ble_eq_true rfl) (Nat.le_refl _) (Nat.le_refl _) dX11_closes_350 ?_
        refine x_dup2 (pc := 353) G dX11_closes_353 rfl rfl ?_
        refine y_lald (pc := 354) (v := (gJ (rJ (rJ (rJ (rJ (rJ Mi 11 (f_at (nI i) ((f_yearNow M) - 1) 0) ((gJ Mi 11 (f_at (nI i) ((f_yearNow M) - 1) 0)) - (gJ Mi 11 (f_at (nI i) ((f_yearNow M) - 1) 1)))) 11 (f_at (nI i) ((f_yearNow M) - 1) 1) 0) 11 (f_at (nI i) (((f_yearNow M) - 1) + 1) 0) ((gJ (rJ (rJ Mi 11 (f_at (nI i) ((f_yearNow M) - 1) 0) ((gJ Mi 11 (f_at (nI i) ((f_yearNow M) - 1) 0)) - (gJ Mi 11 (f_at (nI i) ((f_yearNow M) - 1) 1)))) 11 (f_at (nI i) ((f_yearNow M) - 1) 1) 0) 11 (f_at (nI i) (((f_yearNow M) - 1) + 1) 0)) + (gJ Mi 11 (f_at (nI i) ((f_yearNow M) - 1) 1)))) 11 (f_at (nI i) (((f_yearNow M) - 1) + 1) 1) ((gJ (rJ (rJ (rJ Mi 11 (f_at (nI i) ((f_yearNow M) - 1) 0) ((gJ Mi 11 (f_at (nI i) ((f_yearNow M) - 1) 0)) - (gJ Mi 11 (f_at (nI i) ((f_yearNow M) - 1) 1)))) 11 (f_at (nI i) ((f_yearNow M) - 1) 1) 0) 11 (f_at (nI i) (((f_yearNow M) - 1) + 1) 0) ((gJ (rJ (rJ Mi 11 (f_at (nI i) ((f_yearNow M) - 1) 0) ((gJ Mi 11 (f_at (nI i) ((f_yearNow M) - 1) 0)) - (gJ Mi 11 (f_at (nI i) ((f_yearNow M) - 1) 1)))) 11 (f_at (nI i) ((f_yearNow M) - 1) 1) 0) 11 (f_at (nI i) (((f_yearNow M) - 1) + 1) 0)) + (gJ Mi 11 (f_at (nI i) ((f_yearNow M) - 1) 1)))) 11 (f_at (nI i) (((f_yearNow M) - 1) + 1) 1)) + (gJ Mi 11 (f_at (nI i) ((f_yearNow M) - 1) 1)))) 11 (f_at (nI i) ((f_yearNow M) - 1) 0) ((gJ (rJ (rJ (rJ (rJ Mi 11 (f_at (nI i) ((f_yearNow M) - 1) 0) ((gJ Mi 11 (f_at (nI i) ((f_yearNow M) - 1) 0)) - (gJ Mi 11 (f_at (nI i) ((f_yearNow M) - 1) 1)))) 11 (f_at (nI i) ((f_yearNow M) - 1) 1) 0) 11 (f_at (nI i) (((f_yearNow M) - 1) + 1) 0) ((gJ (rJ (rJ Mi 11 (f_at (nI i) ((f_yearNow M) - 1) 0) ((gJ Mi 11 (f_at (nI i) ((f_yearNow M) - 1) 0)) - (gJ Mi 11 (f_at (nI i) ((f_yearNow M) - 1) 1)))) 11 (f_at (nI i) ((f_yearNow M) - 1) 1) 0) 11 (f_at (nI i) (((f_yearNow M) - 1) + 1) 0)) + (gJ Mi 11 (f_at (nI i) ((f_yearNow M) - 1) 1)))) 11 (f_at (nI i) (((f_yearNow M) - 1) + 1) 1) ((gJ (rJ (rJ (rJ Mi 11 (f_at (nI i) ((f_yearNow M) - 1) 0) ((gJ Mi 11 (f_at (nI i) ((f_yearNow M) - 1) 0)) - (gJ Mi 11 (f_at (nI i) ((f_yearNow M) - 1) 1)))) 11 (f_at (nI i) ((f_yearNow M) - 1) 1) 0) 11 (f_at (nI i) (((f_yearNow M) - 1) + 1) 0) ((gJ (rJ (rJ Mi 11 (f_at (nI i) ((f_yearNow M) - 1) 0) ((gJ Mi 11 (f_at (nI i) ((f_yearNow M) - 1) 0)) - (gJ Mi 11 (f_at (nI i) ((f_yearNow M) - 1) 1)))) 11 (f_at (nI i) ((f_yearNow M) - 1) 1) 0) 11 (f_at (nI i) (((f_yearNow M) - 1) + 1) 0)) + (gJ Mi 11 (f_at (nI i) ((f_yearNow M) - 1) 1)))) 11 (f_at (nI i) (((f_yearNow M) - 1) + 1) 1)) + (gJ Mi 11 (f_at (nI i) ((f_yearNow M) - 1) 1)))) 11 (f_at (nI i) ((f_yearNow M) - 1) 0)) - 0)) 11 (f_at (nI i) (((f_yearNow M) - 1) + 1) 0))) G hM a_11 (vin_at (vin9 i hlt) hyo.2 (by decide)) rfl dX11_closes_354 ?_
        refine x_lload7 (pc := 355) G dX11_closes_355 ?_
        refine x_ladd (pc := 357) G dX11_closes_357 ?_
        refine y_last (pc := 358) G hM a_11 (vin_at (vin9 i hlt) hyo.2 (by decide)) dX11_closes_358 ?_
        refine x_iinc2 (pc := 359) (v := ((nI i) + 1)) G dX11_closes_359 (by rfl) (Nat.le_of_ble_eq_true rfl) rfl ?_
        refine x_goto (pc := 362) (tgt := 213) G dX11_closes_362 rfl ?_
        refine xdrop3 ?_
        refine xdrop5 ?_
        refine xdrop7 ?_
        have h9 := ih (i + 1) (rJ (rJ (rJ (rJ (rJ (rJ Mi 11 (f_at (nI i) ((f_yearNow M) - 1) 0) ((gJ Mi 11 (f_at (nI i) ((f_yearNow M) - 1) 0)) - (gJ Mi 11 (f_at (nI i) ((f_yearNow M) - 1) 1)))) 11 (f_at (nI i) ((f_yearNow M) - 1) 1) 0) 11 (f_at (nI i) (((f_yearNow M) - 1) + 1) 0) ((gJ (rJ (rJ Mi 11 (f_at (nI i) ((f_yearNow M) - 1) 0) ((gJ Mi 11 (f_at (nI i) ((f_yearNow M) - 1) 0)) - (gJ Mi 11 (f_at (nI i) ((f_yearNow M) - 1) 1)))) 11 (f_at (nI i) ((f_yearNow M) - 1) 1) 0) 11 (f_at (nI i) (((f_yearNow M) - 1) + 1) 0)) + (gJ Mi 11 (f_at (nI i) ((f_yearNow M) - 1) 1)))) 11 (f_at (nI i) (((f_yearNow M) - 1) + 1) 1) ((gJ (rJ (rJ (rJ Mi 11 (f_at (nI i) ((f_yearNow M) - 1) 0) ((gJ Mi 11 (f_at (nI i) ((f_yearNow M) - 1) 0)) - (gJ Mi 11 (f_at (nI i) ((f_yearNow M) - 1) 1)))) 11 (f_at (nI i) ((f_yearNow M) - 1) 1) 0) 11 (f_at (nI i) (((f_yearNow M) - 1) + 1) 0) ((gJ (rJ (rJ Mi 11 (f_at (nI i) ((f_yearNow M) - 1) 0) ((gJ Mi 11 (f_at (nI i) ((f_yearNow M) - 1) 0)) - (gJ Mi 11 (f_at (nI i) ((f_yearNow M) - 1) 1)))) 11 (f_at (nI i) ((f_yearNow M) - 1) 1) 0) 11 (f_at (nI i) (((f_yearNow M) - 1) + 1) 0)) + (gJ Mi 11 (f_at (nI i) ((f_yearNow M) - 1) 1)))) 11 (f_at (nI i) (((f_yearNow M) - 1) + 1) 1)) + (gJ Mi 11 (f_at (nI i) ((f_yearNow M) - 1) 1)))) 11 (f_at (nI i) ((f_yearNow M) - 1) 0) ((gJ (rJ (rJ (rJ (rJ Mi 11 (f_at (nI i) ((f_yearNow M) - 1) 0) ((gJ Mi 11 (f_at (nI i) ((f_yearNow M) - 1) 0)) - (gJ Mi 11 (f_at (nI i) ((f_yearNow M) - 1) 1)))) 11 (f_at (nI i) ((f_yearNow M) - 1) 1) 0) 11 (f_at (nI i) (((f_yearNow M) - 1) + 1) 0) ((gJ (rJ (rJ Mi 11 (f_at (nI i) ((f_yearNow M) - 1) 0) ((gJ Mi 11 (f_at (nI i) ((f_yearNow M) - 1) 0)) - (gJ Mi 11 (f_at (nI i) ((f_yearNow M) - 1) 1)))) 11 (f_at (nI i) ((f_yearNow M) - 1) 1) 0) 11 (f_at (nI i) (((f_yearNow M) - 1) + 1) 0)) + (gJ Mi 11 (f_at (nI i) ((f_yearNow M) - 1) 1)))) 11 (f_at (nI i) (((f_yearNow M) - 1) + 1) 1) ((gJ (rJ (rJ (rJ Mi 11 (f_at (nI i) ((f_yearNow M) - 1) 0) ((gJ Mi 11 (f_at (nI i) ((f_yearNow M) - 1) 0)) - (gJ Mi 11 (f_at (nI i) ((f_yearNow M) - 1) 1)))) 11 (f_at (nI i) ((f_yearNow M) - 1) 1) 0) 11 (f_at (nI i) (((f_yearNow M) - 1) + 1) 0) ((gJ (rJ (rJ Mi 11 (f_at (nI i) ((f_yearNow M) - 1) 0) ((gJ Mi 11 (f_at (nI i) ((f_yearNow M) - 1) 0)) - (gJ Mi 11 (f_at (nI i) ((f_yearNow M) - 1) 1)))) 11 (f_at (nI i) ((f_yearNow M) - 1) 1) 0) 11 (f_at (nI i) (((f_yearNow M) - 1) + 1) 0)) + (gJ Mi 11 (f_at (nI i) ((f_yearNow M) - 1) 1)))) 11 (f_at (nI i) (((f_yearNow M) - 1) + 1) 1)) + (gJ Mi 11 (f_at (nI i) ((f_yearNow M) - 1) 1)))) 11 (f_at (nI i) ((f_yearNow M) - 1) 0)) - 0)) 11 (f_at (nI i) (((f_yearNow M) - 1) + 1) 0) ((gJ (rJ (rJ (rJ (rJ (rJ Mi 11 (f_at (nI i) ((f_yearNow M) - 1) 0) ((gJ Mi 11 (f_at (nI i) ((f_yearNow M) - 1) 0)) - (gJ Mi 11 (f_at (nI i) ((f_yearNow M) - 1) 1)))) 11 (f_at (nI i) ((f_yearNow M) - 1) 1) 0) 11 (f_at (nI i) (((f_yearNow M) - 1) + 1) 0) ((gJ (rJ (rJ Mi 11 (f_at (nI i) ((f_yearNow M) - 1) 0) ((gJ Mi 11 (f_at (nI i) ((f_yearNow M) - 1) 0)) - (gJ Mi 11 (f_at (nI i) ((f_yearNow M) - 1) 1)))) 11 (f_at (nI i) ((f_yearNow M) - 1) 1) 0) 11 (f_at (nI i) (((f_yearNow M) - 1) + 1) 0)) + (gJ Mi 11 (f_at (nI i) ((f_yearNow M) - 1) 1)))) 11 (f_at (nI i) (((f_yearNow M) - 1) + 1) 1) ((gJ (rJ (rJ (rJ Mi 11 (f_at (nI i) ((f_yearNow M) - 1) 0) ((gJ Mi 11 (f_at (nI i) ((f_yearNow M) - 1) 0)) - (gJ Mi 11 (f_at (nI i) ((f_yearNow M) - 1) 1)))) 11 (f_at (nI i) ((f_yearNow M) - 1) 1) 0) 11 (f_at (nI i) (((f_yearNow M) - 1) + 1) 0) ((gJ (rJ (rJ Mi 11 (f_at (nI i) ((f_yearNow M) - 1) 0) ((gJ Mi 11 (f_at (nI i) ((f_yearNow M) - 1) 0)) - (gJ Mi 11 (f_at (nI i) ((f_yearNow M) - 1) 1)))) 11 (f_at (nI i) ((f_yearNow M) - 1) 1) 0) 11 (f_at (nI i) (((f_yearNow M) - 1) + 1) 0)) + (gJ Mi 11 (f_at (nI i) ((f_yearNow M) - 1) 1)))) 11 (f_at (nI i) (((f_yearNow M) - 1) + 1) 1)) + (gJ Mi 11 (f_at (nI i) ((f_yearNow M) - 1) 1)))) 11 (f_at (nI i) ((f_yearNow M) - 1) 0) ((gJ (rJ (rJ (rJ (rJ Mi 11 (f_at (nI i) ((f_yearNow M) - 1) 0) ((gJ Mi 11 (f_at (nI i) ((f_yearNow M) - 1) 0)) - (gJ Mi 11 (f_at (nI i) ((f_yearNow M) - 1) 1)))) 11 (f_at (nI i) ((f_yearNow M) - 1) 1) 0) 11 (f_at (nI i) (((f_yearNow M) - 1) + 1) 0) ((gJ (rJ (rJ Mi 11 (f_at (nI i) ((f_yearNow M) - 1) 0) ((gJ Mi 11 (f_at (nI i) ((f_yearNow M) - 1) 0)) - (gJ Mi 11 (f_at (nI i) ((f_yearNow M) - 1) 1)))) 11 (f_at (nI i) ((f_yearNow M) - 1) 1) 0) 11 (f_at (nI i) (((f_yearNow M) - 1) + 1) 0)) + (gJ Mi 11 (f_at (nI i) ((f_yearNow M) - 1) 1)))) 11 (f_at (nI i) (((f_yearNow M) - 1) + 1) 1) ((gJ (rJ (rJ (rJ Mi 11 (f_at (nI i) ((f_yearNow M) - 1) 0) ((gJ Mi 11 (f_at (nI i) ((f_yearNow M) - 1) 0)) - (gJ Mi 11 (f_at (nI i) ((f_yearNow M) - 1) 1)))) 11 (f_at (nI i) ((f_yearNow M) - 1) 1) 0) 11 (f_at (nI i) (((f_yearNow M) - 1) + 1) 0) ((gJ (rJ (rJ Mi 11 (f_at (nI i) ((f_yearNow M) - 1) 0) ((gJ Mi 11 (f_at (nI i) ((f_yearNow M) - 1) 0)) - (gJ Mi 11 (f_at (nI i) ((f_yearNow M) - 1) 1)))) 11 (f_at (nI i) ((f_yearNow M) - 1) 1) 0) 11 (f_at (nI i) (((f_yearNow M) - 1) + 1) 0)) + (gJ Mi 11 (f_at (nI i) ((f_yearNow M) - 1) 1)))) 11 (f_at (nI i) (((f_yearNow M) - 1) + 1) 1)) + (gJ Mi 11 (f_at (nI i) ((f_yearNow M) - 1) 1)))) 11 (f_at (nI i) ((f_yearNow M) - 1) 0)) - 0)) 11 (f_at (nI i) (((f_yearNow M) - 1) + 1) 0)) + 0)) (by omega) (by omega) (by show cl3 ((f_yearNow M) - 1) (nI i) (it_cl3 ((f_yearNow M) - 1) (it_cl2 ((f_yearNow M) - 1) (it_cl1 ((f_yearNow M) - 1) M (4 * n)) n) i) = _; rw [hit, cl3, if_pos c2]) trivial
        rw [← nI_1 i] at h9
        exact h9
      refine x_lload5 (pc := 307) G dX11_closes_307 ?_
      refine x_aload0 (pc := 309) G dX11_closes_309 ?_
      refine y_gI (pc := 310) (v := (mI Mi 13)) G g_223 mG_13 (mI_rJ.trans (mI_rJ.trans (mI_rJ.trans mI_rJ))) dX11_closes_310 ?_
      refine x_i2l (pc := 313) G dX11_closes_313 ?_
      refine x_lmul (pc := 314) G dX11_closes_314 ?_
      refine x_ldc2 (pc := 315) G q_cL_X11_234 dX11_closes_315 ?_
      refine x_ldiv (pc := 318) G dX11_closes_318 (by decide) ?_
      refine x_goto (pc := 319) (tgt := 323) G dX11_closes_319 rfl ?_
      refine x_lstore7 (pc := 323) G dX11_closes_323 (Nat.le_of_ble_eq_true rfl) rfl ?_
      refine x_aload0 (pc := 325) G dX11_closes_325 ?_
      refine y_gA (pc := 326) G g_32 mG_11 dX11_closes_326 ?_
      refine x_iload2 (pc := 329) G dX11_closes_329 ?_
      refine x_iload1 (pc := 330) G dX11_closes_330 ?_
      refine x_iconst (pc := 331) (v := 0) G dX11_closes_331 ic_0 ?_
      refine x_cS3 (pc := 332) G (c_at hl hM _) q_ml_X11_198 h_X11_at ⟨Nat.le_of_ble_eq_true rfl, Nat.le_of_ble_eq_true rfl⟩ (Nat.le_of_ble_eq_true rfl) (Nat.le_refl _) (Nat.le_refl _) dX11_closes_332 ?_
      refine x_dup2 (pc := 335) G dX11_closes_335 rfl rfl ?_
      refine y_lald (pc := 336) (v := (gJ (rJ (rJ (rJ (rJ Mi 11 (f_at (nI i) ((f_yearNow M) - 1) 0) ((gJ Mi 11 (f_at (nI i) ((f_yearNow M) - 1) 0)) - (gJ Mi 11 (f_at (nI i) ((f_yearNow M) - 1) 1)))) 11 (f_at (nI i) ((f_yearNow M) - 1) 1) 0) 11 (f_at (nI i) (((f_yearNow M) - 1) + 1) 0) ((gJ (rJ (rJ Mi 11 (f_at (nI i) ((f_yearNow M) - 1) 0) ((gJ Mi 11 (f_at (nI i) ((f_yearNow M) - 1) 0)) - (gJ Mi 11 (f_at (nI i) ((f_yearNow M) - 1) 1)))) 11 (f_at (nI i) ((f_yearNow M) - 1) 1) 0) 11 (f_at (nI i) (((f_yearNow M) - 1) + 1) 0)) + (gJ Mi 11 (f_at (nI i) ((f_yearNow M) - 1) 1)))) 11 (f_at (nI i) (((f_yearNow M) - 1) + 1) 1) ((gJ (rJ (rJ (rJ Mi 11 (f_at (nI i) ((f_yearNow M) - 1) 0) ((gJ Mi 11 (f_at (nI i) ((f_yearNow M) - 1) 0)) - (gJ Mi 11 (f_at (nI i) ((f_yearNow M) - 1) 1)))) 11 (f_at (nI i) ((f_yearNow M) - 1) 1) 0) 11 (f_at (nI i) (((f_yearNow M) - 1) + 1) 0) ((gJ (rJ (rJ Mi 11 (f_at (nI i) ((f_yearNow M) - 1) 0) ((gJ Mi 11 (f_at (nI i) ((f_yearNow M) - 1) 0)) - (gJ Mi 11 (f_at (nI i) ((f_yearNow M) - 1) 1)))) 11 (f_at (nI i) ((f_yearNow M) - 1) 1) 0) 11 (f_at (nI i) (((f_yearNow M) - 1) + 1) 0)) + (gJ Mi 11 (f_at (nI i) ((f_yearNow M) - 1) 1)))) 11 (f_at (nI i) (((f_yearNow M) - 1) + 1) 1)) + (gJ Mi 11 (f_at (nI i) ((f_yearNow M) - 1) 1)))) 11 (f_at (nI i) ((f_yearNow M) - 1) 0))) G hM a_11 (vin_at (vin9 i hlt) hyo.1 (by decide)) rfl dX11_closes_336 ?_
      refine x_lload7 (pc := 337) G dX11_closes_337 ?_
      refine x_lsub (pc := 339) G dX11_closes_339 ?_
      refine y_last (pc := 340) G hM a_11 (vin_at (vin9 i hlt) hyo.1 (by decide)) dX11_closes_340 ?_
      refine x_aload0 (pc := 341) G dX11_closes_341 ?_
      refine y_gA (pc := 342) G g_32 mG_11 dX11_closes_342 ?_
      refine x_iload2 (pc := 345) G dX11_closes_345 ?_
      refine x_iload1 (pc := 346) G dX11_closes_346 ?_
      refine x_iconst (pc := 347) (v := 1) G dX11_closes_347 ic_1 ?_
      refine x_iadd (pc := 348) G dX11_closes_348 ?_
      refine x_iconst (pc := 349) (v := 0) G dX11_closes_349 ic_0 ?_
      refine x_cS3 (pc := 350) G (c_at hl hM _) q_ml_X11_198 h_X11_at ⟨Nat.le_of_ble_eq_true rfl, Nat.le_of_ble_eq_true rfl⟩ (Nat.le_of_ble_eq_true rfl) (Nat.le_refl _) (Nat.le_refl _) dX11_closes_350 ?_
      refine x_dup2 (pc := 353) G dX11_closes_353 rfl rfl ?_
      refine y_lald (pc := 354) (v := (gJ (rJ (rJ (rJ (rJ (rJ Mi 11 (f_at (nI i) ((f_yearNow M) - 1) 0) ((gJ Mi 11 (f_at (nI i) ((f_yearNow M) - 1) 0)) - (gJ Mi 11 (f_at (nI i) ((f_yearNow M) - 1) 1)))) 11 (f_at (nI i) ((f_yearNow M) - 1) 1) 0) 11 (f_at (nI i) (((f_yearNow M) - 1) + 1) 0) ((gJ (rJ (rJ Mi 11 (f_at (nI i) ((f_yearNow M) - 1) 0) ((gJ Mi 11 (f_at (nI i) ((f_yearNow M) - 1) 0)) - (gJ Mi 11 (f_at (nI i) ((f_yearNow M) - 1) 1)))) 11 (f_at (nI i) ((f_yearNow M) - 1) 1) 0) 11 (f_at (nI i) (((f_yearNow M) - 1) + 1) 0)) + (gJ Mi 11 (f_at (nI i) ((f_yearNow M) - 1) 1)))) 11 (f_at (nI i) (((f_yearNow M) - 1) + 1) 1) ((gJ (rJ (rJ (rJ Mi 11 (f_at (nI i) ((f_yearNow M) - 1) 0) ((gJ Mi 11 (f_at (nI i) ((f_yearNow M) - 1) 0)) - (gJ Mi 11 (f_at (nI i) ((f_yearNow M) - 1) 1)))) 11 (f_at (nI i) ((f_yearNow M) - 1) 1) 0) 11 (f_at (nI i) (((f_yearNow M) - 1) + 1) 0) ((gJ (rJ (rJ Mi 11 (f_at (nI i) ((f_yearNow M) - 1) 0) ((gJ Mi 11 (f_at (nI i) ((f_yearNow M) - 1) 0)) - (gJ Mi 11 (f_at (nI i) ((f_yearNow M) - 1) 1)))) 11 (f_at (nI i) ((f_yearNow M) - 1) 1) 0) 11 (f_at (nI i) (((f_yearNow M) - 1) + 1) 0)) + (gJ Mi 11 (f_at (nI i) ((f_yearNow M) - 1) 1)))) 11 (f_at (nI i) (((f_yearNow M) - 1) + 1) 1)) + (gJ Mi 11 (f_at (nI i) ((f_yearNow M) - 1) 1)))) 11 (f_at (nI i) ((f_yearNow M) - 1) 0) ((gJ (rJ (rJ (rJ (rJ Mi 11 (f_at (nI i) ((f_yearNow M) - 1) 0) ((gJ Mi 11 (f_at (nI i) ((f_yearNow M) - 1) 0)) - (gJ Mi 11 (f_at (nI i) ((f_yearNow M) - 1) 1)))) 11 (f_at (nI i) ((f_yearNow M) - 1) 1) 0) 11 (f_at (nI i) (((f_yearNow M) - 1) + 1) 0) ((gJ (rJ (rJ Mi 11 (f_at (nI i) ((f_yearNow M) - 1) 0) ((gJ Mi 11 (f_at (nI i) ((f_yearNow M) - 1) 0)) - (gJ Mi 11 (f_at (nI i) ((f_yearNow M) - 1) 1)))) 11 (f_at (nI i) ((f_yearNow M) - 1) 1) 0) 11 (f_at (nI i) (((f_yearNow M) - 1) + 1) 0)) + (gJ Mi 11 (f_at (nI i) ((f_yearNow M) - 1) 1)))) 11 (f_at (nI i) (((f_yearNow M) - 1) + 1) 1) ((gJ (rJ (rJ (rJ Mi 11 (f_at (nI i) ((f_yearNow M) - 1) 0) ((gJ Mi 11 (f_at (nI i) ((f_yearNow M) - 1) 0)) - (gJ Mi 11 (f_at (nI i) ((f_yearNow M) - 1) 1)))) 11 (f_at (nI i) ((f_yearNow M) - 1) 1) 0) 11 (f_at (nI i) (((f_yearNow M) - 1) + 1) 0) ((gJ (rJ (rJ Mi 11 (f_at (nI i) ((f_yearNow M) - 1) 0) ((gJ Mi 11 (f_at (nI i) ((f_yearNow M) - 1) 0)) - (gJ Mi 11 (f_at (nI i) ((f_yearNow M) - 1) 1)))) 11 (f_at (nI i) ((f_yearNow M) - 1) 1) 0) 11 (f_at (nI i) (((f_yearNow M) - 1) + 1) 0)) + (gJ Mi 11 (f_at (nI i) ((f_yearNow M) - 1) 1)))) 11 (f_at (nI i) (((f_yearNow M) - 1) + 1) 1)) + (gJ Mi 11 (f_at (nI i) ((f_yearNow M) - 1) 1)))) 11 (f_at (nI i) ((f_yearNow M) - 1) 0)) - (((f_free (nI i) ((f_yearNow M) - 1) (rJ (rJ (rJ (rJ Mi 11 (f_at (nI i) ((f_yearNow M) - 1) 0) ((gJ Mi 11 (f_at (nI i) ((f_yearNow M) - 1) 0)) - (gJ Mi 11 (f_at (nI i) ((f_yearNow M) - 1) 1)))) 11 (f_at (nI i) ((f_yearNow M) - 1) 1) 0) 11 (f_at (nI i) (((f_yearNow M) - 1) + 1) 0) ((gJ (rJ (rJ Mi 11 (f_at (nI i) ((f_yearNow M) - 1) 0) ((gJ Mi 11 (f_at (nI i) ((f_yearNow M) - 1) 0)) - (gJ Mi 11 (f_at (nI i) ((f_yearNow M) - 1) 1)))) 11 (f_at (nI i) ((f_yearNow M) - 1) 1) 0) 11 (f_at (nI i) (((f_yearNow M) - 1) + 1) 0)) + (gJ Mi 11 (f_at (nI i) ((f_yearNow M) - 1) 1)))) 11 (f_at (nI i) (((f_yearNow M) - 1) + 1) 1) ((gJ (rJ (rJ (rJ Mi 11 (f_at (nI i) ((f_yearNow M) - 1) 0) ((gJ Mi 11 (f_at (nI i) ((f_yearNow M) - 1) 0)) - (gJ Mi 11 (f_at (nI i) ((f_yearNow M) - 1) 1)))) 11 (f_at (nI i) ((f_yearNow M) - 1) 1) 0) 11 (f_at (nI i) (((f_yearNow M) - 1) + 1) 0) ((gJ (rJ (rJ Mi 11 (f_at (nI i) ((f_yearNow M) - 1) 0) ((gJ Mi 11 (f_at (nI i) ((f_yearNow M) - 1) 0)) - (gJ Mi 11 (f_at (nI i) ((f_yearNow M) - 1) 1)))) 11 (f_at (nI i) ((f_yearNow M) - 1) 1) 0) 11 (f_at (nI i) (((f_yearNow M) - 1) + 1) 0)) + (gJ Mi 11 (f_at (nI i) ((f_yearNow M) - 1) 1)))) 11 (f_at (nI i) (((f_yearNow M) - 1) + 1) 1)) + (gJ Mi 11 (f_at (nI i) ((f_yearNow M) - 1) 1))))) * ((mI Mi 13).toInt64)) / 100))) 11 (f_at (nI i) (((f_yearNow M) - 1) + 1) 0))) G hM a_11 (vin_at (vin9 i hlt) hyo.2 (by decide)) rfl dX11_closes_354 ?_
      refine x_lload7 (pc := 355) G dX11_closes_355 ?_
      refine x_ladd (pc := 357) G dX11_closes_357 ?_
      refine y_last (pc := 358) G hM a_11 (vin_at (vin9 i hlt) hyo.2 (by decide)) dX11_closes_358 ?_
      refine x_iinc2 (pc := 359) (v := ((nI i) + 1)) G dX11_closes_359 (by rfl) (Nat.le_of_ble_eq_true rfl) rfl ?_
      refine x_goto (pc := 362) (tgt := 213) G dX11_closes_362 rfl ?_
      refine xdrop3 ?_
      refine xdrop5 ?_
      refine xdrop7 ?_
      have h9 := ih (i + 1) (rJ (rJ (rJ (rJ (rJ (rJ Mi 11 (f_at (nI i) ((f_yearNow M) - 1) 0) ((gJ Mi 11 (f_at (nI i) ((f_yearNow M) - 1) 0)) - (gJ Mi 11 (f_at (nI i) ((f_yearNow M) - 1) 1)))) 11 (f_at (nI i) ((f_yearNow M) - 1) 1) 0) 11 (f_at (nI i) (((f_yearNow M) - 1) + 1) 0) ((gJ (rJ (rJ Mi 11 (f_at (nI i) ((f_yearNow M) - 1) 0) ((gJ Mi 11 (f_at (nI i) ((f_yearNow M) - 1) 0)) - (gJ Mi 11 (f_at (nI i) ((f_yearNow M) - 1) 1)))) 11 (f_at (nI i) ((f_yearNow M) - 1) 1) 0) 11 (f_at (nI i) (((f_yearNow M) - 1) + 1) 0)) + (gJ Mi 11 (f_at (nI i) ((f_yearNow M) - 1) 1)))) 11 (f_at (nI i) (((f_yearNow M) - 1) + 1) 1) ((gJ (rJ (rJ (rJ Mi 11 (f_at (nI i) ((f_yearNow M) - 1) 0) ((gJ Mi 11 (f_at (nI i) ((f_yearNow M) - 1) 0)) - (gJ Mi 11 (f_at (nI i) ((f_yearNow M) - 1) 1)))) 11 (f_at (nI i) ((f_yearNow M) - 1) 1) 0) 11 (f_at (nI i) (((f_yearNow M) - 1) + 1) 0) ((gJ (rJ (rJ Mi 11 (f_at (nI i) ((f_yearNow M) - 1) 0) ((gJ Mi 11 (f_at (nI i) ((f_yearNow M) - 1) 0)) - (gJ Mi 11 (f_at (nI i) ((f_yearNow M) - 1) 1)))) 11 (f_at (nI i) ((f_yearNow M) - 1) 1) 0) 11 (f_at (nI i) (((f_yearNow M) - 1) + 1) 0)) + (gJ Mi 11 (f_at (nI i) ((f_yearNow M) - 1) 1)))) 11 (f_at (nI i) (((f_yearNow M) - 1) + 1) 1)) + (gJ Mi 11 (f_at (nI i) ((f_yearNow M) - 1) 1)))) 11 (f_at (nI i) ((f_yearNow M) - 1) 0) ((gJ (rJ (rJ (rJ (rJ Mi 11 (f_at (nI i) ((f_yearNow M) - 1) 0) ((gJ Mi 11 (f_at (nI i) ((f_yearNow M) - 1) 0)) - (gJ Mi 11 (f_at (nI i) ((f_yearNow M) - 1) 1)))) 11 (f_at (nI i) ((f_yearNow M) - 1) 1) 0) 11 (f_at (nI i) (((f_yearNow M) - 1) + 1) 0) ((gJ (rJ (rJ Mi 11 (f_at (nI i) ((f_yearNow M) - 1) 0) ((gJ Mi 11 (f_at (nI i) ((f_yearNow M) - 1) 0)) - (gJ Mi 11 (f_at (nI i) ((f_yearNow M) - 1) 1)))) 11 (f_at (nI i) ((f_yearNow M) - 1) 1) 0) 11 (f_at (nI i) (((f_yearNow M) - 1) + 1) 0)) + (gJ Mi 11 (f_at (nI i) ((f_yearNow M) - 1) 1)))) 11 (f_at (nI i) (((f_yearNow M) - 1) + 1) 1) ((gJ (rJ (rJ (rJ Mi 11 (f_at (nI i) ((f_yearNow M) - 1) 0) ((gJ Mi 11 (f_at (nI i) ((f_yearNow M) - 1) 0)) - (gJ Mi 11 (f_at (nI i) ((f_yearNow M) - 1) 1)))) 11 (f_at (nI i) ((f_yearNow M) - 1) 1) 0) 11 (f_at (nI i) (((f_yearNow M) - 1) + 1) 0) ((gJ (rJ (rJ Mi 11 (f_at (nI i) ((f_yearNow M) - 1) 0) ((gJ Mi 11 (f_at (nI i) ((f_yearNow M) - 1) 0)) - (gJ Mi 11 (f_at (nI i) ((f_yearNow M) - 1) 1)))) 11 (f_at (nI i) ((f_yearNow M) - 1) 1) 0) 11 (f_at (nI i) (((f_yearNow M) - 1) + 1) 0)) + (gJ Mi 11 (f_at (nI i) ((f_yearNow M) - 1) 1)))) 11 (f_at (nI i) (((f_yearNow M) - 1) + 1) 1)) + (gJ Mi 11 (f_at (nI i) ((f_yearNow M) - 1) 1)))) 11 (f_at (nI i) ((f_yearNow M) - 1) 0)) - (((f_free (nI i) ((f_yearNow M) - 1) (rJ (rJ (rJ (rJ Mi 11 (f_at (nI i) ((f_yearNow M) - 1) 0) ((gJ Mi 11 (f_at (nI i) ((f_yearNow M) - 1) 0)) - (gJ Mi 11 (f_at (nI i) ((f_yearNow M) - 1) 1)))) 11 (f_at (nI i) ((f_yearNow M) - 1) 1) 0) 11 (f_at (nI i) (((f_yearNow M) - 1) + 1) 0) ((gJ (rJ (rJ Mi 11 (f_at (nI i) ((f_yearNow M) - 1) 0) ((gJ Mi 11 (f_at (nI i) ((f_yearNow M) - 1) 0)) - (gJ Mi 11 (f_at (nI i) ((f_yearNow M) - 1) 1)))) 11 (f_at (nI i) ((f_yearNow M) - 1) 1) 0) 11 (f_at (nI i) (((f_yearNow M) - 1) + 1) 0)) + (gJ Mi 11 (f_at (nI i) ((f_yearNow M) - 1) 1)))) 11 (f_at (nI i) (((f_yearNow M) - 1) + 1) 1) ((gJ (rJ (rJ (rJ Mi 11 (f_at (nI i) ((f_yearNow M) - 1) 0) ((gJ Mi 11 (f_at (nI i) ((f_yearNow M) - 1) 0)) - (gJ Mi 11 (f_at (nI i) ((f_yearNow M) - 1) 1)))) 11 (f_at (nI i) ((f_yearNow M) - 1) 1) 0) 11 (f_at (nI i) (((f_yearNow M) - 1) + 1) 0) ((gJ (rJ (rJ Mi 11 (f_at (nI i) ((f_yearNow M) - 1) 0) ((gJ Mi 11 (f_at (nI i) ((f_yearNow M) - 1) 0)) - (gJ Mi 11 (f_at (nI i) ((f_yearNow M) - 1) 1)))) 11 (f_at (nI i) ((f_yearNow M) - 1) 1) 0) 11 (f_at (nI i) (((f_yearNow M) - 1) + 1) 0)) + (gJ Mi 11 (f_at (nI i) ((f_yearNow M) - 1) 1)))) 11 (f_at (nI i) (((f_yearNow M) - 1) + 1) 1)) + (gJ Mi 11 (f_at (nI i) ((f_yearNow M) - 1) 1))))) * ((mI Mi 13).toInt64)) / 100))) 11 (f_at (nI i) (((f_yearNow M) - 1) + 1) 0) ((gJ (rJ (rJ (rJ (rJ (rJ Mi 11 (f_at (nI i) ((f_yearNow M) - 1) 0) ((gJ Mi 11 (f_at (nI i) ((f_yearNow M) - 1) 0)) - (gJ Mi 11 (f_at (nI i) ((f_yearNow M) - 1) 1)))) 11 (f_at (nI i) ((f_yearNow M) - 1) 1) 0) 11 (f_at (nI i) (((f_yearNow M) - 1) + 1) 0) ((gJ (rJ (rJ Mi 11 (f_at (nI i) ((f_yearNow M) - 1) 0) ((gJ Mi 11 (f_at (nI i) ((f_yearNow M) - 1) 0)) - (gJ Mi 11 (f_at (nI i) ((f_yearNow M) - 1) 1)))) 11 (f_at (nI i) ((f_yearNow M) - 1) 1) 0) 11 (f_at (nI i) (((f_yearNow M) - 1) + 1) 0)) + (gJ Mi 11 (f_at (nI i) ((f_yearNow M) - 1) 1)))) 11 (f_at (nI i) (((f_yearNow M) - 1) + 1) 1) ((gJ (rJ (rJ (rJ Mi 11 (f_at (nI i) ((f_yearNow M) - 1) 0) ((gJ Mi 11 (f_at (nI i) ((f_yearNow M) - 1) 0)) - (gJ Mi 11 (f_at (nI i) ((f_yearNow M) - 1) 1)))) 11 (f_at (nI i) ((f_yearNow M) - 1) 1) 0) 11 (f_at (nI i) (((f_yearNow M) - 1) + 1) 0) ((gJ (rJ (rJ Mi 11 (f_at (nI i) ((f_yearNow M) - 1) 0) ((gJ Mi 11 (f_at (nI i) ((f_yearNow M) - 1) 0)) - (gJ Mi 11 (f_at (nI i) ((f_yearNow M) - 1) 1)))) 11 (f_at (nI i) ((f_yearNow M) - 1) 1) 0) 11 (f_at (nI i) (((f_yearNow M) - 1) + 1) 0)) + (gJ Mi 11 (f_at (nI i) ((f_yearNow M) - 1) 1)))) 11 (f_at (nI i) (((f_yearNow M) - 1) + 1) 1)) + (gJ Mi 11 (f_at (nI i) ((f_yearNow M) - 1) 1)))) 11 (f_at (nI i) ((f_yearNow M) - 1) 0) ((gJ (rJ (rJ (rJ (rJ Mi 11 (f_at (nI i) ((f_yearNow M) - 1) 0) ((gJ Mi 11 (f_at (nI i) ((f_yearNow M) - 1) 0)) - (gJ Mi 11 (f_at (nI i) ((f_yearNow M) - 1) 1)))) 11 (f_at (nI i) ((f_yearNow M) - 1) 1) 0) 11 (f_at (nI i) (((f_yearNow M) - 1) + 1) 0) ((gJ (rJ (rJ Mi 11 (f_at (nI i) ((f_yearNow M) - 1) 0) ((gJ Mi 11 (f_at (nI i) ((f_yearNow M) - 1) 0)) - (gJ Mi 11 (f_at (nI i) ((f_yearNow M) - 1) 1)))) 11 (f_at (nI i) ((f_yearNow M) - 1) 1) 0) 11 (f_at (nI i) (((f_yearNow M) - 1) + 1) 0)) + (gJ Mi 11 (f_at (nI i) ((f_yearNow M) - 1) 1)))) 11 (f_at (nI i) (((f_yearNow M) - 1) + 1) 1) ((gJ (rJ (rJ (rJ Mi 11 (f_at (nI i) ((f_yearNow M) - 1) 0) ((gJ Mi 11 (f_at (nI i) ((f_yearNow M) - 1) 0)) - (gJ Mi 11 (f_at (nI i) ((f_yearNow M) - 1) 1)))) 11 (f_at (nI i) ((f_yearNow M) - 1) 1) 0) 11 (f_at (nI i) (((f_yearNow M) - 1) + 1) 0) ((gJ (rJ (rJ Mi 11 (f_at (nI i) ((f_yearNow M) - 1) 0) ((gJ Mi 11 (f_at (nI i) ((f_yearNow M) - 1) 0)) - (gJ Mi 11 (f_at (nI i) ((f_yearNow M) - 1) 1)))) 11 (f_at (nI i) ((f_yearNow M) - 1) 1) 0) 11 (f_at (nI i) (((f_yearNow M) - 1) + 1) 0)) + (gJ Mi 11 (f_at (nI i) ((f_yearNow M) - 1) 1)))) 11 (f_at (nI i) (((f_yearNow M) - 1) + 1) 1)) + (gJ Mi 11 (f_at (nI i) ((f_yearNow M) - 1) 1)))) 11 (f_at (nI i) ((f_yearNow M) - 1) 0)) - (((f_free (nI i) ((f_yearNow M) - 1) (rJ (rJ (rJ (rJ Mi 11 (f_at (nI i) ((f_yearNow M) - 1) 0) ((gJ Mi 11 (f_at (nI i) ((f_yearNow M) - 1) 0)) - (gJ Mi 11 (f_at (nI i) ((f_yearNow M) - 1) 1)))) 11 (f_at (nI i) ((f_yearNow M) - 1) 1) 0) 11 (f_at (nI i) (((f_yearNow M) - 1) + 1) 0) ((gJ (rJ (rJ Mi 11 (f_at (nI i) ((f_yearNow M) - 1) 0) ((gJ Mi 11 (f_at (nI i) ((f_yearNow M) - 1) 0)) - (gJ Mi 11 (f_at (nI i) ((f_yearNow M) - 1) 1)))) 11 (f_at (nI i) ((f_yearNow M) - 1) 1) 0) 11 (f_at (nI i) (((f_yearNow M) - 1) + 1) 0)) + (gJ Mi 11 (f_at (nI i) ((f_yearNow M) - 1) 1)))) 11 (f_at (nI i) (((f_yearNow M) - 1) + 1) 1) ((gJ (rJ (rJ (rJ Mi 11 (f_at (nI i) ((f_yearNow M) - 1) 0) ((gJ Mi 11 (f_at (nI i) ((f_yearNow M) - 1) 0)) - (gJ Mi 11 (f_at (nI i) ((f_yearNow M) - 1) 1)))) 11 (f_at (nI i) ((f_yearNow M) - 1) 1) 0) 11 (f_at (nI i) (((f_yearNow M) - 1) + 1) 0) ((gJ (rJ (rJ Mi 11 (f_at (nI i) ((f_yearNow M) - 1) 0) ((gJ Mi 11 (f_at (nI i) ((f_yearNow M) - 1) 0)) - (gJ Mi 11 (f_at (nI i) ((f_yearNow M) - 1) 1)))) 11 (f_at (nI i) ((f_yearNow M) - 1) 1) 0) 11 (f_at (nI i) (((f_yearNow M) - 1) + 1) 0)) + (gJ Mi 11 (f_at (nI i) ((f_yearNow M) - 1) 1)))) 11 (f_at (nI i) (((f_yearNow M) - 1) + 1) 1)) + (gJ Mi 11 (f_at (nI i) ((f_yearNow M) - 1) 1))))) * ((mI Mi 13).toInt64)) / 100))) 11 (f_at (nI i) (((f_yearNow M) - 1) + 1) 0)) + (((f_free (nI i) ((f_yearNow M) - 1) (rJ (rJ (rJ (rJ Mi 11 (f_at (nI i) ((f_yearNow M) - 1) 0) ((gJ Mi 11 (f_at (nI i) ((f_yearNow M) - 1) 0)) - (gJ Mi 11 (f_at (nI i) ((f_yearNow M) - 1) 1)))) 11 (f_at (nI i) ((f_yearNow M) - 1) 1) 0) 11 (f_at (nI i) (((f_yearNow M) - 1) + 1) 0) ((gJ (rJ (rJ Mi 11 (f_at (nI i) ((f_yearNow M) - 1) 0) ((gJ Mi 11 (f_at (nI i) ((f_yearNow M) - 1) 0)) - (gJ Mi 11 (f_at (nI i) ((f_yearNow M) - 1) 1)))) 11 (f_at (nI i) ((f_yearNow M) - 1) 1) 0) 11 (f_at (nI i) (((f_yearNow M) - 1) + 1) 0)) + (gJ Mi 11 (f_at (nI i) ((f_yearNow M) - 1) 1)))) 11 (f_at (nI i) (((f_yearNow M) - 1) + 1) 1) ((gJ (rJ (rJ (rJ Mi 11 (f_at (nI i) ((f_yearNow M) - 1) 0) ((gJ Mi 11 (f_at (nI i) ((f_yearNow M) - 1) 0)) - (gJ Mi 11 (f_at (nI i) ((f_yearNow M) - 1) 1)))) 11 (f_at (nI i) ((f_yearNow M) - 1) 1) 0) 11 (f_at (nI i) (((f_yearNow M) - 1) + 1) 0) ((gJ (rJ (rJ Mi 11 (f_at (nI i) ((f_yearNow M) - 1) 0) ((gJ Mi 11 (f_at (nI i) ((f_yearNow M) - 1) 0)) - (gJ Mi 11 (f_at (nI i) ((f_yearNow M) - 1) 1)))) 11 (f_at (nI i) ((f_yearNow M) - 1) 1) 0) 11 (f_at (nI i) (((f_yearNow M) - 1) + 1) 0)) + (gJ Mi 11 (f_at (nI i) ((f_yearNow M) - 1) 1)))) 11 (f_at (nI i) (((f_yearNow M) - 1) + 1) 1)) + (gJ Mi 11 (f_at (nI i) ((f_yearNow M) - 1) 1))))) * ((mI Mi 13).toInt64)) / 100))) (by omega) (by omega) (by show cl3 ((f_yearNow M) - 1) (nI i) (it_cl3 ((f_yearNow M) - 1) (it_cl2 ((f_yearNow M) - 1) (it_cl1 ((f_yearNow M) - 1) M (4 * n)) n) i) = _; rw [hit, cl3, if_neg c2]) trivial
      rw [← nI_1 i] at h9
      exact h9
  have loop2 : ∀ (f i : Nat) (Mi : MS), i ≤ n → n - i < f → it_cl2 ((f_yearNow M) - 1) (it_cl1 ((f_yearNow M) - 1) M (4 * n)) i = Mi → (∀ j, mI Mi j = mI M j) → Wx p l e rm_X11_closes s m args below meth c k A 9 Q 0 0 129 [some (.ref mo), some (.int ((f_yearNow M) - 1)), some (.int (nI i)), none, none, none, none, none, none] [] (mW k mo ad Mi) := by
    intro f
    induction f with
    | zero => intro i Mi _ h9 _ _; omega
    | succ f ih =>
      intro i Mi hi hf hit hI
      refine x_iload2 (pc := 129) G dX11_closes_129 ?_
      refine x_aload0 (pc := 130) G dX11_closes_130 ?_
      refine y_gI (pc := 131) (v := (mI Mi 14)) G g_185 mG_14 rfl dX11_closes_131 ?_
      refine x_icmp_ge (pc := 134) (tgt := 211) G dX11_closes_134 rfl (fun c1 => ?_) (fun c1 => ?_)
      · have ei : i = n := lp_end ((hI 14).trans e14) c1 hi (by omega)
        refine x_iconst (pc := 211) (v := 0) G dX11_closes_211 ic_0 ?_
        refine x_istore2 (pc := 212) G dX11_closes_212 (Nat.le_of_ble_eq_true rfl) rfl ?_
        exact loop3 (6 + 1) 0 Mi (by omega) (by omega) (by show (it_cl2 ((f_yearNow M) - 1) (it_cl1 ((f_yearNow M) - 1) M (4 * n)) n) = _; rw [← hit, ei]) trivial
      have hlt := lp_lt ((hI 14).trans e14) c1 hi (by omega)
      refine x_aload0 (pc := 137) G dX11_closes_137 ?_
      refine y_gA (pc := 138) G g_45 mG_17 dX11_closes_138 ?_
      refine x_iload2 (pc := 141) G dX11_closes_141 ?_
      refine y_iald (pc := 142) (v := (gI Mi 17 (nI i))) G hM a_17 (vp_in_nI (by omega) (by decide)) rfl dX11_closes_142 ?_
      refine x_iconst (pc := 143) (v := 1) G dX11_closes_143 ic_1 ?_
      refine x_icmp_eq (pc := 144) (tgt := 167) G dX11_closes_144 rfl (fun c2 => ?_) (fun c2 => ?_)
      · refine x_iconst (pc := 167) (v := 1) G dX11_closes_167 ic_1 ?_
        refine x_goto (pc := 168) (tgt := 172) G dX11_closes_168 rfl ?_
        refine x_istore3 (pc := 172) G dX11_closes_172 (Nat.le_of_ble_eq_true rfl) rfl ?_
        refine x_aload0 (pc := 173) G dX11_closes_173 ?_
        refine y_gA (pc := 174) G g_54 mG_20 dX11_closes_174 ?_
        refine x_iload2 (pc := 177) G dX11_closes_177 ?_
        refine x_iload3 (pc := 178) G dX11_closes_178 ?_
        refine x_if_eq (pc := 179) (y := 0) (tgt := 198) G dX11_closes_179 rfl (fun q => absurd q (by decide)) (fun _ => ?_)
        refine x_aload0 (pc := 182) G dX11_closes_182 ?_
        refine y_gA (pc := 183) G g_54 mG_20 dX11_closes_183 ?_
        refine x_iload2 (pc := 186) G dX11_closes_186 ?_
        refine y_iald (pc := 187) (v := (gI Mi 20 (nI i))) G hM a_20 (vp_in_nI (by omega) (by decide)) rfl dX11_closes_187 ?_
        refine x_iload1 (pc := 188) G dX11_closes_188 ?_
        refine x_icmp_ne (pc := 189) (tgt := 198) G dX11_closes_189 rfl (fun c3 => ?_) (fun c3 => ?_)
        · refine x_aload0 (pc := 198) G dX11_closes_198 ?_
          refine y_gA (pc := 199) G g_54 mG_20 dX11_closes_199 ?_
          refine x_iload2 (pc := 202) G dX11_closes_202 ?_
          refine y_iald (pc := 203) (v := (gI Mi 20 (nI i))) G hM a_20 (vp_in_nI (by omega) (by decide)) rfl dX11_closes_203 ?_
          refine y_iast (pc := 204) G hM a_20 (vp_in_nI (by omega) (by decide)) dX11_closes_204 ?_
          refine x_iinc2 (pc := 205) (v := ((nI i) + 1)) G dX11_closes_205 (by rfl) (Nat.le_of_ble_eq_true rfl) rfl ?_
          refine x_goto (pc := 208) (tgt := 129) G dX11_closes_208 rfl ?_
          refine xdrop3 ?_
          have h9 := ih (i + 1) (rI Mi 20 (nI i) (gI Mi 20 (nI i))) (by omega) (by omega) (by show cl2 ((f_yearNow M) - 1) (nI i) (it_cl2 ((f_yearNow M) - 1) (it_cl1 ((f_yearNow M) - 1) M (4 * n)) i) = _; rw [hit, cl2, if_pos c2, if_neg c3]) (fun j => hI j)
          rw [← nI_1 i] at h9
          exact h9
        refine x_iload1 (pc := 192) G dX11_closes_192 ?_
        refine x_iconst (pc := 193) (v := 1) G dX11_closes_193 ic_1 ?_
        refine x_iadd (pc := 194) G dX11_closes_194 ?_
        refine x_goto (pc := 195) (tgt := 204) G dX11_closes_195 rfl ?_
        refine y_iast (pc := 204) G hM a_20 (vp_in_nI (by omega) (by decide)) dX11_closes_204 ?_
        refine x_iinc2 (pc := 205) (v := ((nI i) + 1)) G dX11_closes_205 (by rfl) (Nat.le_of_ble_eq_true rfl) rfl ?_
        refine x_goto (pc := 208) (tgt := 129) G dX11_closes_208 rfl ?_
        refine xdrop3 ?_
        have h9 := ih (i + 1) (rI Mi 20 (nI i) (((f_yearNow M) - 1) + 1)) (by omega) (by omega) (by show cl2 ((f_yearNow M) - 1) (nI i) (it_cl2 ((f_yearNow M) - 1) (it_cl1 ((f_yearNow M) - 1) M (4 * n)) i) = _; rw [hit, cl2, if_pos c2, if_pos c3]) (fun j => hI j)
        rw [← nI_1 i] at h9
        exact h9
      refine x_aload0 (pc := 147) G dX11_closes_147 ?_
      refine y_gA (pc := 148) G g_45 mG_17 dX11_closes_148 ?_
      refine x_iload2 (pc := 151) G dX11_closes_151 ?_
      refine y_iald (pc := 152) (v := (gI Mi 17 (nI i))) G hM a_17 (vp_in_nI (by omega) (by decide)) rfl dX11_closes_152 ?_
      refine x_iconst (pc := 153) (v := 2) G dX11_closes_153 ic_2 ?_
      refine x_icmp_eq (pc := 154) (tgt := 167) G dX11_closes_154 rfl (fun c4 => ?_) (fun c4 => ?_)
      · refine x_iconst (pc := 167) (v := 1) G dX11_closes_167 ic_1 ?_
        refine x_goto (pc := 168) (tgt := 172) G dX11_closes_168 rfl ?_
        refine x_istore3 (pc := 172) G dX11_closes_172 (Nat.le_of_ble_eq_true rfl) rfl ?_
        refine x_aload0 (pc := 173) G dX11_closes_173 ?_
        refine y_gA (pc := 174) G g_54 mG_20 dX11_closes_174 ?_
        refine x_iload2 (pc := 177) G dX11_closes_177 ?_
        refine x_iload3 (pc := 178) G dX11_closes_178 ?_
        refine x_if_eq (pc := 179) (y := 0) (tgt := 198) G dX11_closes_179 rfl (fun q => absurd q (by decide)) (fun _ => ?_)
        refine x_aload0 (pc := 182) G dX11_closes_182 ?_
        refine y_gA (pc := 183) G g_54 mG_20 dX11_closes_183 ?_
        refine x_iload2 (pc := 186) G dX11_closes_186 ?_
        refine y_iald (pc := 187) (v := (gI Mi 20 (nI i))) G hM a_20 (vp_in_nI (by omega) (by decide)) rfl dX11_closes_187 ?_
        refine x_iload1 (pc := 188) G dX11_closes_188 ?_
        refine x_icmp_ne (pc := 189) (tgt := 198) G dX11_closes_189 rfl (fun c5 => ?_) (fun c5 => ?_)
        · refine x_aload0 (pc := 198) G dX11_closes_198 ?_
          refine y_gA (pc := 199) G g_54 mG_20 dX11_closes_199 ?_
          refine x_iload2 (pc := 202) G dX11_closes_202 ?_
          refine y_iald (pc := 203) (v := (gI Mi 20 (nI i))) G hM a_20 (vp_in_nI (by omega) (by decide)) rfl dX11_closes_203 ?_
          refine y_iast (pc := 204) G hM a_20 (vp_in_nI (by omega) (by decide)) dX11_closes_204 ?_
          refine x_iinc2 (pc := 205) (v := ((nI i) + 1)) G dX11_closes_205 (by rfl) (Nat.le_of_ble_eq_true rfl) rfl ?_
          refine x_goto (pc := 208) (tgt := 129) G dX11_closes_208 rfl ?_
          refine xdrop3 ?_
          have h9 := ih (i + 1) (rI Mi 20 (nI i) (gI Mi 20 (nI i))) (by omega) (by omega) (by show cl2 ((f_yearNow M) - 1) (nI i) (it_cl2 ((f_yearNow M) - 1) (it_cl1 ((f_yearNow M) - 1) M (4 * n)) i) = _; rw [hit, cl2, if_neg c2, if_pos c4, if_neg c5]) (fun j => hI j)
          rw [← nI_1 i] at h9
          exact h9
        refine x_iload1 (pc := 192) G dX11_closes_192 ?_
        refine x_iconst (pc := 193) (v := 1) G dX11_closes_193 ic_1 ?_
        refine x_iadd (pc := 194) G dX11_closes_194 ?_
        refine x_goto (pc := 195) (tgt := 204) G dX11_closes_195 rfl ?_
        refine y_iast (pc := 204) G hM a_20 (vp_in_nI (by omega) (by decide)) dX11_closes_204 ?_
        refine x_iinc2 (pc := 205) (v := ((nI i) + 1)) G dX11_closes_205 (by rfl) (Nat.le_of_ble_eq_true rfl) rfl ?_
        refine x_goto (pc := 208) (tgt := 129) G dX11_closes_208 rfl ?_
        refine xdrop3 ?_
        have h9 := ih (i + 1) (rI Mi 20 (nI i) (((f_yearNow M) - 1) + 1)) (by omega) (by omega) (by show cl2 ((f_yearNow M) - 1) (nI i) (it_cl2 ((f_yearNow M) - 1) (it_cl1 ((f_yearNow M) - 1) M (4 * n)) i) = _; rw [hit, cl2, if_neg c2, if_pos c4, if_pos c5]) (fun j => hI j)
        rw [← nI_1 i] at h9
        exact h9
      refine x_aload0 (pc := 157) G dX11_closes_157 ?_
      refine y_gA (pc := 158) G g_45 mG_17 dX11_closes_158 ?_
      refine x_iload2 (pc := 161) G dX11_closes_161 ?_
      refine y_iald (pc := 162) (v := (gI Mi 17 (nI i))) G hM a_17 (vp_in_nI (by omega) (by decide)) rfl dX11_closes_162 ?_
      refine x_iconst (pc := 163) (v := 4) G dX11_closes_163 ic_4 ?_
      refine x_icmp_ne (pc := 164) (tgt := 171) G dX11_closes_164 rfl (fun c6 => ?_) (fun c6 => ?_)
      · refine x_iconst (pc := 171) (v := 0) G dX11_closes_171 ic_0 ?_
        refine x_istore3 (pc := 172) G dX11_closes_172 (Nat.le_of_ble_eq_true rfl) rfl ?_
        refine x_aload0 (pc := 173) G dX11_closes_173 ?_
        refine y_gA (pc := 174) G g_54 mG_20 dX11_closes_174 ?_
        refine x_iload2 (pc := 177) G dX11_closes_177 ?_
        refine x_iload3 (pc := 178) G dX11_closes_178 ?_
        refine x_if_eq (pc := 179) (y := 0) (tgt := 198) G dX11_closes_179 rfl (fun _ => ?_) (fun q => absurd q (by decide))
        refine x_aload0 (pc := 198) G dX11_closes_198 ?_
        refine y_gA (pc := 199) G g_54 mG_20 dX11_closes_199 ?_
        refine x_iload2 (pc := 202) G dX11_closes_202 ?_
        refine y_iald (pc := 203) (v := (gI Mi 20 (nI i))) G hM a_20 (vp_in_nI (by omega) (by decide)) rfl dX11_closes_203 ?_
        refine y_iast (pc := 204) G hM a_20 (vp_in_nI (by omega) (by decide)) dX11_closes_204 ?_
        refine x_iinc2 (pc := 205) (v := ((nI i) + 1)) G dX11_closes_205 (by rfl) (Nat.le_of_ble_eq_true rfl) rfl ?_
        refine x_goto (pc := 208) (tgt := 129) G dX11_closes_208 rfl ?_
        refine xdrop3 ?_
        have h9 := ih (i + 1) (rI Mi 20 (nI i) (gI Mi 20 (nI i))) (by omega) (by omega) (by show cl2 ((f_yearNow M) - 1) (nI i) (it_cl2 ((f_yearNow M) - 1) (it_cl1 ((f_yearNow M) - 1) M (4 * n)) i) = _; rw [hit, cl2, if_neg c2, if_neg c4, if_neg c6]) (fun j => hI j)
        rw [← nI_1 i] at h9
        exact h9
      refine x_iconst (pc := 167) (v := 1) G dX11_closes_167 ic_1 ?_
      refine x_goto (pc := 168) (tgt := 172) G dX11_closes_168 rfl ?_
      refine x_istore3 (pc := 172) G dX11_closes_172 (Nat.le_of_ble_eq_true rfl) rfl ?_
      refine x_aload0 (pc := 173) G dX11_closes_173 ?_
      refine y_gA (pc := 174) G g_54 mG_20 dX11_closes_174 ?_
      refine x_iload2 (pc := 177) G dX11_closes_177 ?_
      refine x_iload3 (pc := 178) G dX11_closes_178 ?_
      refine x_if_eq (pc := 179) (y := 0) (tgt := 198) G dX11_closes_179 rfl (fun q => absurd q (by decide)) (fun _ => ?_)
      refine x_aload0 (pc := 182) G dX11_closes_182 ?_
      refine y_gA (pc := 183) G g_54 mG_20 dX11_closes_183 ?_
      refine x_iload2 (pc := 186) G dX11_closes_186 ?_
      refine y_iald (pc := 187) (v := (gI Mi 20 (nI i))) G hM a_20 (vp_in_nI (by omega) (by decide)) rfl dX11_closes_187 ?_
      refine x_iload1 (pc := 188) G dX11_closes_188 ?_
      refine x_icmp_ne (pc := 189) (tgt := 198) G dX11_closes_189 rfl (fun c7 => ?_) (fun c7 => ?_)
      · refine x_aload0 (pc := 198) G dX11_closes_198 ?_
        refine y_gA (pc := 199) G g_54 mG_20 dX11_closes_199 ?_
        refine x_iload2 (pc := 202) G dX11_closes_202 ?_
        refine y_iald (pc := 203) (v := (gI Mi 20 (nI i))) G hM a_20 (vp_in_nI (by omega) (by decide)) rfl dX11_closes_203 ?_
        refine y_iast (pc := 204) G hM a_20 (vp_in_nI (by omega) (by decide)) dX11_closes_204 ?_
        refine x_iinc2 (pc := 205) (v := ((nI i) + 1)) G dX11_closes_205 (by rfl) (Nat.le_of_ble_eq_true rfl) rfl ?_
        refine x_goto (pc := 208) (tgt := 129) G dX11_closes_208 rfl ?_
        refine xdrop3 ?_
        have h9 := ih (i + 1) (rI Mi 20 (nI i) (gI Mi 20 (nI i))) (by omega) (by omega) (by show cl2 ((f_yearNow M) - 1) (nI i) (it_cl2 ((f_yearNow M) - 1) (it_cl1 ((f_yearNow M) - 1) M (4 * n)) i) = _; rw [hit, cl2, if_neg c2, if_neg c4, if_pos c6, if_neg c7]) (fun j => hI j)
        rw [← nI_1 i] at h9
        exact h9
      refine x_iload1 (pc := 192) G dX11_closes_192 ?_
      refine x_iconst (pc := 193) (v := 1) G dX11_closes_193 ic_1 ?_
      refine x_iadd (pc := 194) G dX11_closes_194 ?_
      refine x_goto (pc := 195) (tgt := 204) G dX11_closes_195 rfl ?_
      refine y_iast (pc := 204) G hM a_20 (vp_in_nI (by omega) (by decide)) dX11_closes_204 ?_
      refine x_iinc2 (pc := 205) (v := ((nI i) + 1)) G dX11_closes_205 (by rfl) (Nat.le_of_ble_eq_true rfl) rfl ?_
      refine x_goto (pc := 208) (tgt := 129) G dX11_closes_208 rfl ?_
      refine xdrop3 ?_
      have h9 := ih (i + 1) (rI Mi 20 (nI i) (((f_yearNow M) - 1) + 1)) (by omega) (by omega) (by show cl2 ((f_yearNow M) - 1) (nI i) (it_cl2 ((f_yearNow M) - 1) (it_cl1 ((f_yearNow M) - 1) M (4 * n)) i) = _; rw [hit, cl2, if_neg c2, if_neg c4, if_pos c6, if_pos c7]) (fun j => hI j)
      rw [← nI_1 i] at h9
      exact h9
  have loop1 : ∀ (f i : Nat) (Mi : MS), i ≤ 4 * n → 4 * n - i < f → it_cl1 ((f_yearNow M) - 1) M i = Mi → ((∀ j, mI Mi j = mI M j) ∧ ∀ j x, gI Mi j x = gI M j x) → Wx p l e rm_X11_closes s m args below meth c k A 9 Q 0 0 9 [some (.ref mo), some (.int ((f_yearNow M) - 1)), some (.int (nI i)), none, none, none, none, none, none] [] (mW k mo ad Mi) := by
    intro f
    induction f with
    | zero => intro i Mi _ h9 _ _; omega
    | succ f ih =>
      intro i Mi hi hf hit hI
      refine x_iload2 (pc := 9) G dX11_closes_9 ?_
      refine x_iconst (pc := 10) (v := 4) G dX11_closes_10 ic_4 ?_
      refine x_aload0 (pc := 11) G dX11_closes_11 ?_
      refine y_gI (pc := 12) (v := (mI Mi 14)) G g_185 mG_14 rfl dX11_closes_12 ?_
      refine x_imul (pc := 15) G dX11_closes_15 ?_
      refine x_icmp_ge (pc := 16) (tgt := 127) G dX11_closes_16 rfl (fun c1 => ?_) (fun c1 => ?_)
      · have ei : i = 4 * n := lp_end (by rw [hI.1, e14]; exact pk_mul 4 n) c1 hi (by omega)
        refine x_iconst (pc := 127) (v := 0) G dX11_closes_127 ic_0 ?_
        refine x_istore2 (pc := 128) G dX11_closes_128 (Nat.le_of_ble_eq_true rfl) rfl ?_
        exact loop2 (n + 1) 0 Mi (by omega) (by omega) (by show (it_cl1 ((f_yearNow M) - 1) M (4 * n)) = _; rw [← hit, ei]) hI.1
      have hlt := lp_lt (by rw [hI.1, e14]; exact pk_mul 4 n) c1 hi (by omega)
      refine x_iload2 (pc := 19) G dX11_closes_19 ?_
      refine x_iconst (pc := 20) (v := 4) G dX11_closes_20 ic_4 ?_
      refine x_idiv (pc := 21) G dX11_closes_21 (by decide) ?_
      refine x_istore3 (pc := 22) G dX11_closes_22 (Nat.le_of_ble_eq_true rfl) rfl ?_
      refine x_iload2 (pc := 23) G dX11_closes_23 ?_
      refine x_iconst (pc := 24) (v := 4) G dX11_closes_24 ic_4 ?_
      refine x_irem (pc := 25) G dX11_closes_25 (by decide) ?_
      refine x_aload0 (pc := 26) G dX11_closes_26 ?_
      refine y_gA (pc := 27) G g_48 mG_18 dX11_closes_27 ?_
      refine x_iload3 (pc := 30) G dX11_closes_30 ?_
      refine y_iald (pc := 31) (v := (gI Mi 18 ((nI i) / 4))) G hM a_18 (vin_q4 hlt hn) rfl dX11_closes_31 ?_
      refine x_icmp_ge (pc := 32) (tgt := 121) G dX11_closes_32 rfl (fun c2 => ?_) (fun c2 => ?_)
      · refine x_iinc2 (pc := 121) (v := ((nI i) + 1)) G dX11_closes_121 (by rfl) (Nat.le_of_ble_eq_true rfl) rfl ?_
        refine x_goto (pc := 124) (tgt := 9) G dX11_closes_124 rfl ?_
        refine xdrop3 ?_
        have h9 := ih (i + 1) Mi (by omega) (by omega) (by show cl1 ((f_yearNow M) - 1) (nI i) (it_cl1 ((f_yearNow M) - 1) M i) = _; rw [hit, cl1, if_pos c2]) ⟨fun j => (hI.1 j), fun j x => (hI.2 j x)⟩
        rw [← nI_1 i] at h9
        exact h9
      refine x_aload0 (pc := 35) G dX11_closes_35 ?_
      refine y_gA (pc := 36) G g_45 mG_17 dX11_closes_36 ?_
      refine x_iload3 (pc := 39) G dX11_closes_39 ?_
      refine y_iald (pc := 40) (v := (gI Mi 17 ((nI i) / 4))) G hM a_17 (vin_q4 hlt hn) rfl dX11_closes_40 ?_
      refine x_iconst (pc := 41) (v := 4) G dX11_closes_41 ic_4 ?_
      refine x_icmp_ne (pc := 42) (tgt := 121) G dX11_closes_42 rfl (fun c3 => ?_) (fun c3 => ?_)
      · refine x_iinc2 (pc := 121) (v := ((nI i) + 1)) G dX11_closes_121 (by rfl) (Nat.le_of_ble_eq_true rfl) rfl ?_
        refine x_goto (pc := 124) (tgt := 9) G dX11_closes_124 rfl ?_
        refine xdrop3 ?_
        have h9 := ih (i + 1) Mi (by omega) (by omega) (by show cl1 ((f_yearNow M) - 1) (nI i) (it_cl1 ((f_yearNow M) - 1) M i) = _; rw [hit, cl1, if_neg c2, if_neg c3]) ⟨fun j => (hI.1 j), fun j x => (hI.2 j x)⟩
        rw [← nI_1 i] at h9
        exact h9
      refine x_aload0 (pc := 45) G dX11_closes_45 ?_
      refine y_gA (pc := 46) G g_75 mG_27 dX11_closes_46 ?_
      refine x_iload2 (pc := 49) G dX11_closes_49 ?_
      refine y_zald (pc := 50) (v := (gI Mi 27 (nI i))) G hM a_27 (vp_in_nI (by omega) (by decide)) rfl dX11_closes_50 ?_
      refine x_if_ne (pc := 51) (y := 0) (tgt := 121) G dX11_closes_51 rfl (fun c4 => ?_) (fun c4 => ?_)
      · refine x_iinc2 (pc := 121) (v := ((nI i) + 1)) G dX11_closes_121 (by rfl) (Nat.le_of_ble_eq_true rfl) rfl ?_
        refine x_goto (pc := 124) (tgt := 9) G dX11_closes_124 rfl ?_
        refine xdrop3 ?_
        have h9 := ih (i + 1) Mi (by omega) (by omega) (by show cl1 ((f_yearNow M) - 1) (nI i) (it_cl1 ((f_yearNow M) - 1) M i) = _; rw [hit, cl1, if_neg c2, if_pos c3, if_neg c4]) ⟨fun j => (hI.1 j), fun j x => (hI.2 j x)⟩
        rw [← nI_1 i] at h9
        exact h9
      refine x_aload0 (pc := 54) G dX11_closes_54 ?_
      refine y_gA (pc := 55) G g_84 mG_30 dX11_closes_55 ?_
      refine x_iload2 (pc := 58) G dX11_closes_58 ?_
      refine y_iald (pc := 59) (v := (gI Mi 30 (nI i))) G hM a_30 (vp_in_nI (by omega) (by decide)) rfl dX11_closes_59 ?_
      refine x_aload0 (pc := 60) G dX11_closes_60 ?_
      refine x_iload2 (pc := 61) G dX11_closes_61 ?_
      refine y_c1 (pc := 62) G (c_bookedPieces hl hM (h39_of (hI.1 _) h39)) q_ml_X11_230 h_X11_bookedPieces rfl ⟨Nat.le_of_ble_eq_true rfl, Nat.le_of_ble_eq_true rfl⟩ (Nat.le_of_ble_eq_true rfl) (Nat.le_refl _) (Nat.le_refl _) dX11_closes_62 ?_
      refine x_isub (pc := 65) G dX11_closes_65 ?_
      refine x_i2l (pc := 66) G dX11_closes_66 ?_
      refine x_aload0 (pc := 67) G dX11_closes_67 ?_
      refine y_gA (pc := 68) G g_81 mG_29 dX11_closes_68 ?_
      refine x_iload2 (pc := 71) G dX11_closes_71 ?_
      refine y_iald (pc := 72) (v := (gI Mi 29 (nI i))) G hM a_29 (vp_in_nI (by omega) (by decide)) rfl dX11_closes_72 ?_
      refine x_i2l (pc := 73) G dX11_closes_73 ?_
      refine x_lmul (pc := 74) G dX11_closes_74 ?_
      refine x_lstore4 (pc := 75) G dX11_closes_75 (Nat.le_of_ble_eq_true rfl) rfl ?_
      refine x_aload0 (pc := 77) G dX11_closes_77 ?_
      refine y_gA (pc := 78) G g_32 mG_11 dX11_closes_78 ?_
      refine x_aload0 (pc := 81) G dX11_closes_81 ?_
      refine y_gA (pc := 82) G g_42 mG_16 dX11_closes_82 ?_
      refine x_iload3 (pc := 85) G dX11_closes_85 ?_
      refine y_iald (pc := 86) (v := (gI Mi 16 ((nI i) / 4))) G hM a_16 (vin_q4 hlt hn) rfl dX11_closes_86 ?_
      refine x_iload1 (pc := 87) G dX11_closes_87 ?_
      refine x_iconst (pc := 88) (v := 2) G dX11_closes_88 ic_2 ?_
      refine x_cS3 (pc := 89) G (c_at hl hM _) q_ml_X11_198 h_X11_at ⟨Nat.le_of_ble_eq_true rfl, Nat.le_of_ble_eq_true rfl⟩ (Nat.le_of_ble_eq_true rfl) (Nat.le_refl _) (Nat.le_refl _) dX11_closes_89 ?_
      refine x_dup2 (pc := 92) G dX11_closes_92 rfl rfl ?_
      refine y_lald (pc := 93) (v := (gJ Mi 11 (f_at (gI Mi 16 ((nI i) / 4)) ((f_yearNow M) - 1) 2))) G hM a_11 (vin_at (by rw [hI.2]; exact q4_of (P := fun r => P_isCentre (gI M 16 r)) hlt hn hr) hyo.1 (by decide)) rfl dX11_closes_93 ?_
      refine x_lload4 (pc := 94) G dX11_closes_94 ?_
      refine x_ladd (pc := 96) G dX11_closes_96 ?_
      refine y_last (pc := 97) G hM a_11 (vin_at (by rw [hI.2]; exact q4_of (P := fun r => P_isCentre (gI M 16 r)) hlt hn hr) hyo.1 (by decide)) dX11_closes_97 ?_
      refine x_aload0 (pc := 98) G dX11_closes_98 ?_
      refine y_gA (pc := 99) G g_32 mG_11 dX11_closes_99 ?_
      refine x_aload0 (pc := 102) G dX11_closes_102 ?_
      refine y_gA (pc := 103) G g_42 mG_16 dX11_closes_103 ?_
      refine x_iload3 (pc := 106) G dX11_closes_106 ?_
      refine y_iald (pc := 107) (v := (gI Mi 16 ((nI i) / 4))) G hM a_16 (vin_q4 hlt hn) gI_rJ dX11_closes_107 ?_
      refine x_iload1 (pc := 108) G dX11_closes_108 ?_
      refine x_iconst (pc := 109) (v := 1) G dX11_closes_109 ic_1 ?_
      refine x_iadd (pc := 110) G dX11_closes_110 ?_
      refine x_iconst (pc := 111) (v := 2) G dX11_closes_111 ic_2 ?_
      refine x_cS3 (pc := 112) G (c_at hl hM _) q_ml_X11_198 h_X11_at ⟨Nat.le_of_ble_eq_true rfl, Nat.le_of_ble_eq_true rfl⟩ (Nat.le_of_ble_eq_true rfl) (Nat.le_refl _) (Nat.le_refl _) dX11_closes_112 ?_
      refine x_dup2 (pc := 115) G dX11_closes_115 rfl rfl ?_
      refine y_lald (pc := 116) (v := (gJ (rJ Mi 11 (f_at (gI Mi 16 ((nI i) / 4)) ((f_yearNow M) - 1) 2) ((gJ Mi 11 (f_at (gI Mi 16 ((nI i) / 4)) ((f_yearNow M) - 1) 2)) + ((((gI Mi 30 (nI i)) - (f_bookedPieces (nI i) Mi)).toInt64) * ((gI Mi 29 (nI i)).toInt64)))) 11 (f_at (gI Mi 16 ((nI i) / 4)) (((f_yearNow M) - 1) + 1) 2))) G hM a_11 (vin_at (by rw [hI.2]; exact q4_of (P := fun r => P_isCentre (gI M 16 r)) hlt hn hr) hyo.2 (by decide)) rfl dX11_closes_116 ?_
      refine x_lload4 (pc := 117) G dX11_closes_117 ?_
      refine x_lsub (pc := 119) G dX11_closes_119 ?_
      refine y_last (pc := 120) G hM a_11 (vin_at (by rw [hI.2]; exact q4_of (P := fun r => P_isCentre (gI M 16 r)) hlt hn hr) hyo.2 (by decide)) dX11_closes_120 ?_
      refine x_iinc2 (pc := 121) (v := ((nI i) + 1)) G dX11_closes_121 (by rfl) (Nat.le_of_ble_eq_true rfl) rfl ?_
      refine x_goto (pc := 124) (tgt := 9) G dX11_closes_124 rfl ?_
      refine xdrop3 ?_
      refine xdrop4 ?_
      have h9 := ih (i + 1) (rJ (rJ Mi 11 (f_at (gI Mi 16 ((nI i) / 4)) ((f_yearNow M) - 1) 2) ((gJ Mi 11 (f_at (gI Mi 16 ((nI i) / 4)) ((f_yearNow M) - 1) 2)) + ((((gI Mi 30 (nI i)) - (f_bookedPieces (nI i) Mi)).toInt64) * ((gI Mi 29 (nI i)).toInt64)))) 11 (f_at (gI Mi 16 ((nI i) / 4)) (((f_yearNow M) - 1) + 1) 2) ((gJ (rJ Mi 11 (f_at (gI Mi 16 ((nI i) / 4)) ((f_yearNow M) - 1) 2) ((gJ Mi 11 (f_at (gI Mi 16 ((nI i) / 4)) ((f_yearNow M) - 1) 2)) + ((((gI Mi 30 (nI i)) - (f_bookedPieces (nI i) Mi)).toInt64) * ((gI Mi 29 (nI i)).toInt64)))) 11 (f_at (gI Mi 16 ((nI i) / 4)) (((f_yearNow M) - 1) + 1) 2)) - ((((gI Mi 30 (nI i)) - (f_bookedPieces (nI i) Mi)).toInt64) * ((gI Mi 29 (nI i)).toInt64)))) (by omega) (by omega) (by show cl1 ((f_yearNow M) - 1) (nI i) (it_cl1 ((f_yearNow M) - 1) M i) = _; rw [hit, cl1, if_neg c2, if_pos c3, if_pos c4]) ⟨fun j => (hI.1 j), fun j x => (hI.2 j x)⟩
      rw [← nI_1 i] at h9
      exact h9
  refine x_aload0 (pc := 0) G dX11_closes_0 ?_
  refine y_c0 (pc := 1) G (c_yearNow hl hM ) q_ml_X11_226 h_X11_yearNow rfl ⟨Nat.le_of_ble_eq_true rfl, Nat.le_of_ble_eq_true rfl⟩ (Nat.le_of_ble_eq_true rfl) (Nat.le_refl _) (Nat.le_refl _) dX11_closes_1 ?_
  refine x_iconst (pc := 4) (v := 1) G dX11_closes_4 ic_1 ?_
  refine x_isub (pc := 5) G dX11_closes_5 ?_
  refine x_istore1 (pc := 6) G dX11_closes_6 (Nat.le_of_ble_eq_true rfl) rfl ?_
  refine x_iconst (pc := 7) (v := 0) G dX11_closes_7 ic_0 ?_
  refine x_istore2 (pc := 8) G dX11_closes_8 (Nat.le_of_ble_eq_true rfl) rfl ?_
  exact loop1 (4 * n + 1) 0 M (by omega) (by omega) rfl ⟨fun _ => rfl, fun _ _ => rfl⟩
