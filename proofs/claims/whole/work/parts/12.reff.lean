theorem mI_commits {M : MS} {a : Int32} {b : Int64} {j : Nat} : mI (f_commits a b M) j = mI M j := rfl
theorem mJ_commits {M : MS} {a : Int32} {b : Int64} {j : Nat} : mJ (f_commits a b M) j = mJ M j := rfl
theorem gI_commits {M : MS} {a : Int32} {b : Int64} {j : Nat} {x : Int32} : gI (f_commits a b M) j x = gI M j x := rfl
theorem gJ_commits {M : MS} {a : Int32} {b : Int64} {j : Nat} {x : Int32} (h1 : (j == 19) = false) (h2 : (j == 11) = false) : gJ (f_commits a b M) j x = gJ M j x := by
  unfold f_commits
  rw [gJ_rJn h2, gJ_rJn h1]
theorem mI_frees {M : MS} {a : Int32} {b : Int64} {j : Nat} : mI (f_frees a b M).2 j = mI M j := by
  unfold f_frees; split <;> split <;> rfl
theorem mJ_frees {M : MS} {a : Int32} {b : Int64} {j : Nat} : mJ (f_frees a b M).2 j = mJ M j := by
  unfold f_frees; split <;> split <;> rfl
theorem gI_frees {M : MS} {a : Int32} {b : Int64} {j : Nat} {x : Int32} : gI (f_frees a b M).2 j x = gI M j x := by
  unfold f_frees; split <;> split <;> rfl
theorem gJ_frees {M : MS} {a : Int32} {b : Int64} {j : Nat} {x : Int32} (h1 : (j == 19) = false) (h2 : (j == 11) = false) : gJ (f_frees a b M).2 j x = gJ M j x := by
  unfold f_frees; split <;> split <;> first | rfl | exact gJ_commits h1 h2
theorem dX11_books_0 : decode cX11_books 0 = .ok (.aload_n 0, 1) := by decide +kernel
theorem dX11_books_1 : decode cX11_books 1 = .ok (.getfield 112, 3) := by decide +kernel
theorem dX11_books_4 : decode cX11_books 4 = .ok (.iload_n 1, 1) := by decide +kernel
theorem dX11_books_5 : decode cX11_books 5 = .ok (.iaload, 1) := by decide +kernel
theorem dX11_books_6 : decode cX11_books 6 = .ok (.istore_n 2, 1) := by decide +kernel
theorem dX11_books_7 : decode cX11_books 7 = .ok (.iload_n 2, 1) := by decide +kernel
theorem dX11_books_8 : decode cX11_books 8 = .ok (.iconst 4, 1) := by decide +kernel
theorem dX11_books_9 : decode cX11_books 9 = .ok (.idiv, 1) := by decide +kernel
theorem dX11_books_10 : decode cX11_books 10 = .ok (.istore_n 3, 1) := by decide +kernel
theorem dX11_books_11 : decode cX11_books 11 = .ok (.aload_n 0, 1) := by decide +kernel
theorem dX11_books_12 : decode cX11_books 12 = .ok (.getfield 57, 3) := by decide +kernel
theorem dX11_books_15 : decode cX11_books 15 = .ok (.iload_n 3, 1) := by decide +kernel
theorem dX11_books_16 : decode cX11_books 16 = .ok (.iaload, 1) := by decide +kernel
theorem dX11_books_17 : decode cX11_books 17 = .ok (.istore 4, 2) := by decide +kernel
theorem dX11_books_19 : decode cX11_books 19 = .ok (.aload_n 0, 1) := by decide +kernel
theorem dX11_books_20 : decode cX11_books 20 = .ok (.getfield 121, 3) := by decide +kernel
theorem dX11_books_23 : decode cX11_books 23 = .ok (.iload_n 1, 1) := by decide +kernel
theorem dX11_books_24 : decode cX11_books 24 = .ok (.laload, 1) := by decide +kernel
theorem dX11_books_25 : decode cX11_books 25 = .ok (.lstore 5, 2) := by decide +kernel
theorem dX11_books_27 : decode cX11_books 27 = .ok (.lload 5, 2) := by decide +kernel
theorem dX11_books_29 : decode cX11_books 29 = .ok (.aload_n 0, 1) := by decide +kernel
theorem dX11_books_30 : decode cX11_books 30 = .ok (.getfield 105, 3) := by decide +kernel
theorem dX11_books_33 : decode cX11_books 33 = .ok (.i2l, 1) := by decide +kernel
theorem dX11_books_34 : decode cX11_books 34 = .ok (.lmul, 1) := by decide +kernel
theorem dX11_books_35 : decode cX11_books 35 = .ok (.ldc2_w 234, 3) := by decide +kernel
theorem dX11_books_38 : decode cX11_books 38 = .ok (.ldiv, 1) := by decide +kernel
theorem dX11_books_39 : decode cX11_books 39 = .ok (.lstore 7, 2) := by decide +kernel
theorem dX11_books_41 : decode cX11_books 41 = .ok (.lload 7, 2) := by decide +kernel
theorem dX11_books_43 : decode cX11_books 43 = .ok (.aload_n 0, 1) := by decide +kernel
theorem dX11_books_44 : decode cX11_books 44 = .ok (.getfield 109, 3) := by decide +kernel
theorem dX11_books_47 : decode cX11_books 47 = .ok (.i2l, 1) := by decide +kernel
theorem dX11_books_48 : decode cX11_books 48 = .ok (.lmul, 1) := by decide +kernel
theorem dX11_books_49 : decode cX11_books 49 = .ok (.ldc2_w 234, 3) := by decide +kernel
theorem dX11_books_52 : decode cX11_books 52 = .ok (.ldiv, 1) := by decide +kernel
theorem dX11_books_53 : decode cX11_books 53 = .ok (.lstore 9, 2) := by decide +kernel
theorem dX11_books_55 : decode cX11_books 55 = .ok (.aload_n 0, 1) := by decide +kernel
theorem dX11_books_56 : decode cX11_books 56 = .ok (.getfield 148, 3) := by decide +kernel
theorem dX11_books_59 : decode cX11_books 59 = .ok (.iload_n 1, 1) := by decide +kernel
theorem dX11_books_60 : decode cX11_books 60 = .ok (.aload_n 0, 1) := by decide +kernel
theorem dX11_books_61 : decode cX11_books 61 = .ok (.getfield 87, 3) := by decide +kernel
theorem dX11_books_64 : decode cX11_books 64 = .ok (.iload 4, 2) := by decide +kernel
theorem dX11_books_66 : decode cX11_books 66 = .ok (.iaload, 1) := by decide +kernel
theorem dX11_books_67 : decode cX11_books 67 = .ok (.ifCond .ne 7, 3) := by decide +kernel
theorem dX11_books_70 : decode cX11_books 70 = .ok (.iconst 1, 1) := by decide +kernel
theorem dX11_books_71 : decode cX11_books 71 = .ok (.goto 4, 3) := by decide +kernel
theorem dX11_books_74 : decode cX11_books 74 = .ok (.iconst 0, 1) := by decide +kernel
theorem dX11_books_75 : decode cX11_books 75 = .ok (.bastore, 1) := by decide +kernel
theorem dX11_books_76 : decode cX11_books 76 = .ok (.aload_n 0, 1) := by decide +kernel
theorem dX11_books_77 : decode cX11_books 77 = .ok (.getfield 145, 3) := by decide +kernel
theorem dX11_books_80 : decode cX11_books 80 = .ok (.iload_n 1, 1) := by decide +kernel
theorem dX11_books_81 : decode cX11_books 81 = .ok (.aload_n 0, 1) := by decide +kernel
theorem dX11_books_82 : decode cX11_books 82 = .ok (.getfield 105, 3) := by decide +kernel
theorem dX11_books_85 : decode cX11_books 85 = .ok (.iastore, 1) := by decide +kernel
theorem dX11_books_86 : decode cX11_books 86 = .ok (.aload_n 0, 1) := by decide +kernel
theorem dX11_books_87 : decode cX11_books 87 = .ok (.getfield 130, 3) := by decide +kernel
theorem dX11_books_90 : decode cX11_books 90 = .ok (.iload_n 1, 1) := by decide +kernel
theorem dX11_books_91 : decode cX11_books 91 = .ok (.lload 7, 2) := by decide +kernel
theorem dX11_books_93 : decode cX11_books 93 = .ok (.lastore, 1) := by decide +kernel
theorem dX11_books_94 : decode cX11_books 94 = .ok (.aload_n 0, 1) := by decide +kernel
theorem dX11_books_95 : decode cX11_books 95 = .ok (.getfield 133, 3) := by decide +kernel
theorem dX11_books_98 : decode cX11_books 98 = .ok (.iload_n 1, 1) := by decide +kernel
theorem dX11_books_99 : decode cX11_books 99 = .ok (.lload 5, 2) := by decide +kernel
theorem dX11_books_101 : decode cX11_books 101 = .ok (.lload 7, 2) := by decide +kernel
theorem dX11_books_103 : decode cX11_books 103 = .ok (.ladd, 1) := by decide +kernel
theorem dX11_books_104 : decode cX11_books 104 = .ok (.lload 9, 2) := by decide +kernel
theorem dX11_books_106 : decode cX11_books 106 = .ok (.lsub, 1) := by decide +kernel
theorem dX11_books_107 : decode cX11_books 107 = .ok (.lastore, 1) := by decide +kernel
theorem dX11_books_108 : decode cX11_books 108 = .ok (.aload_n 0, 1) := by decide +kernel
theorem dX11_books_109 : decode cX11_books 109 = .ok (.getfield 136, 3) := by decide +kernel
theorem dX11_books_112 : decode cX11_books 112 = .ok (.iload_n 1, 1) := by decide +kernel
theorem dX11_books_113 : decode cX11_books 113 = .ok (.aload_n 0, 1) := by decide +kernel
theorem dX11_books_114 : decode cX11_books 114 = .ok (.getfield 148, 3) := by decide +kernel
theorem dX11_books_117 : decode cX11_books 117 = .ok (.iload_n 1, 1) := by decide +kernel
theorem dX11_books_118 : decode cX11_books 118 = .ok (.baload, 1) := by decide +kernel
theorem dX11_books_119 : decode cX11_books 119 = .ok (.ifCond .eq 11, 3) := by decide +kernel
theorem dX11_books_122 : decode cX11_books 122 = .ok (.lload 5, 2) := by decide +kernel
theorem dX11_books_124 : decode cX11_books 124 = .ok (.lload 7, 2) := by decide +kernel
theorem dX11_books_126 : decode cX11_books 126 = .ok (.ladd, 1) := by decide +kernel
theorem dX11_books_127 : decode cX11_books 127 = .ok (.goto 5, 3) := by decide +kernel
theorem dX11_books_130 : decode cX11_books 130 = .ok (.lload 5, 2) := by decide +kernel
theorem dX11_books_132 : decode cX11_books 132 = .ok (.lastore, 1) := by decide +kernel
theorem dX11_books_133 : decode cX11_books 133 = .ok (.aload_n 0, 1) := by decide +kernel
theorem dX11_books_134 : decode cX11_books 134 = .ok (.getfield 139, 3) := by decide +kernel
theorem dX11_books_137 : decode cX11_books 137 = .ok (.iload_n 1, 1) := by decide +kernel
theorem dX11_books_138 : decode cX11_books 138 = .ok (.aload_n 0, 1) := by decide +kernel
theorem dX11_books_139 : decode cX11_books 139 = .ok (.getfield 195, 3) := by decide +kernel
theorem dX11_books_142 : decode cX11_books 142 = .ok (.iastore, 1) := by decide +kernel
theorem dX11_books_143 : decode cX11_books 143 = .ok (.aload_n 0, 1) := by decide +kernel
theorem dX11_books_144 : decode cX11_books 144 = .ok (.getfield 142, 3) := by decide +kernel
theorem dX11_books_147 : decode cX11_books 147 = .ok (.iload_n 1, 1) := by decide +kernel
theorem dX11_books_148 : decode cX11_books 148 = .ok (.aload_n 0, 1) := by decide +kernel
theorem dX11_books_149 : decode cX11_books 149 = .ok (.getfield 195, 3) := by decide +kernel
theorem dX11_books_152 : decode cX11_books 152 = .ok (.aload_n 0, 1) := by decide +kernel
theorem dX11_books_153 : decode cX11_books 153 = .ok (.getfield 93, 3) := by decide +kernel
theorem dX11_books_156 : decode cX11_books 156 = .ok (.iload 4, 2) := by decide +kernel
theorem dX11_books_158 : decode cX11_books 158 = .ok (.iaload, 1) := by decide +kernel
theorem dX11_books_159 : decode cX11_books 159 = .ok (.iadd, 1) := by decide +kernel
theorem dX11_books_160 : decode cX11_books 160 = .ok (.iastore, 1) := by decide +kernel
theorem dX11_books_161 : decode cX11_books 161 = .ok (.aload_n 0, 1) := by decide +kernel
theorem dX11_books_162 : decode cX11_books 162 = .ok (.getfield 124, 3) := by decide +kernel
theorem dX11_books_165 : decode cX11_books 165 = .ok (.iload_n 1, 1) := by decide +kernel
theorem dX11_books_166 : decode cX11_books 166 = .ok (.iconst 1, 1) := by decide +kernel
theorem dX11_books_167 : decode cX11_books 167 = .ok (.iastore, 1) := by decide +kernel
theorem dX11_books_168 : decode cX11_books 168 = .ok (.aload_n 0, 1) := by decide +kernel
theorem dX11_books_169 : decode cX11_books 169 = .ok (.getfield 32, 3) := by decide +kernel
theorem dX11_books_172 : decode cX11_books 172 = .ok (.aload_n 0, 1) := by decide +kernel
theorem dX11_books_173 : decode cX11_books 173 = .ok (.getfield 42, 3) := by decide +kernel
theorem dX11_books_176 : decode cX11_books 176 = .ok (.iload_n 3, 1) := by decide +kernel
theorem dX11_books_177 : decode cX11_books 177 = .ok (.iaload, 1) := by decide +kernel
theorem dX11_books_178 : decode cX11_books 178 = .ok (.aload_n 0, 1) := by decide +kernel
theorem dX11_books_179 : decode cX11_books 179 = .ok (.invokevirtual 226, 3) := by decide +kernel
theorem dX11_books_182 : decode cX11_books 182 = .ok (.iconst 2, 1) := by decide +kernel
theorem dX11_books_183 : decode cX11_books 183 = .ok (.invokestatic 198, 3) := by decide +kernel
theorem dX11_books_186 : decode cX11_books 186 = .ok (.dup2, 1) := by decide +kernel
theorem dX11_books_187 : decode cX11_books 187 = .ok (.laload, 1) := by decide +kernel
theorem dX11_books_188 : decode cX11_books 188 = .ok (.aload_n 0, 1) := by decide +kernel
theorem dX11_books_189 : decode cX11_books 189 = .ok (.getfield 133, 3) := by decide +kernel
theorem dX11_books_192 : decode cX11_books 192 = .ok (.iload_n 1, 1) := by decide +kernel
theorem dX11_books_193 : decode cX11_books 193 = .ok (.laload, 1) := by decide +kernel
theorem dX11_books_194 : decode cX11_books 194 = .ok (.ladd, 1) := by decide +kernel
theorem dX11_books_195 : decode cX11_books 195 = .ok (.lastore, 1) := by decide +kernel
theorem dX11_books_196 : decode cX11_books 196 = .ok (.aload_n 0, 1) := by decide +kernel
theorem dX11_books_197 : decode cX11_books 197 = .ok (.iload_n 3, 1) := by decide +kernel
theorem dX11_books_198 : decode cX11_books 198 = .ok (.aload_n 0, 1) := by decide +kernel
theorem dX11_books_199 : decode cX11_books 199 = .ok (.getfield 115, 3) := by decide +kernel
theorem dX11_books_202 : decode cX11_books 202 = .ok (.iload_n 1, 1) := by decide +kernel
theorem dX11_books_203 : decode cX11_books 203 = .ok (.iaload, 1) := by decide +kernel
theorem dX11_books_204 : decode cX11_books 204 = .ok (.i2l, 1) := by decide +kernel
theorem dX11_books_205 : decode cX11_books 205 = .ok (.aload_n 0, 1) := by decide +kernel
theorem dX11_books_206 : decode cX11_books 206 = .ok (.getfield 81, 3) := by decide +kernel
theorem dX11_books_209 : decode cX11_books 209 = .ok (.iload_n 2, 1) := by decide +kernel
theorem dX11_books_210 : decode cX11_books 210 = .ok (.iaload, 1) := by decide +kernel
theorem dX11_books_211 : decode cX11_books 211 = .ok (.i2l, 1) := by decide +kernel
theorem dX11_books_212 : decode cX11_books 212 = .ok (.lmul, 1) := by decide +kernel
theorem dX11_books_213 : decode cX11_books 213 = .ok (.invokevirtual 274, 3) := by decide +kernel
theorem dX11_books_216 : decode cX11_books 216 = .ok (.lstore 11, 2) := by decide +kernel
theorem dX11_books_218 : decode cX11_books 218 = .ok (.aload_n 0, 1) := by decide +kernel
theorem dX11_books_219 : decode cX11_books 219 = .ok (.getfield 7, 3) := by decide +kernel
theorem dX11_books_222 : decode cX11_books 222 = .ok (.iconst 0, 1) := by decide +kernel
theorem dX11_books_223 : decode cX11_books 223 = .ok (.dup2, 1) := by decide +kernel
theorem dX11_books_224 : decode cX11_books 224 = .ok (.laload, 1) := by decide +kernel
theorem dX11_books_225 : decode cX11_books 225 = .ok (.aload_n 0, 1) := by decide +kernel
theorem dX11_books_226 : decode cX11_books 226 = .ok (.getfield 133, 3) := by decide +kernel
theorem dX11_books_229 : decode cX11_books 229 = .ok (.iload_n 1, 1) := by decide +kernel
theorem dX11_books_230 : decode cX11_books 230 = .ok (.laload, 1) := by decide +kernel
theorem dX11_books_231 : decode cX11_books 231 = .ok (.ladd, 1) := by decide +kernel
theorem dX11_books_232 : decode cX11_books 232 = .ok (.lastore, 1) := by decide +kernel
theorem dX11_books_233 : decode cX11_books 233 = .ok (.aload_n 0, 1) := by decide +kernel
theorem dX11_books_234 : decode cX11_books 234 = .ok (.getfield 7, 3) := by decide +kernel
theorem dX11_books_237 : decode cX11_books 237 = .ok (.iconst 3, 1) := by decide +kernel
theorem dX11_books_238 : decode cX11_books 238 = .ok (.dup2, 1) := by decide +kernel
theorem dX11_books_239 : decode cX11_books 239 = .ok (.laload, 1) := by decide +kernel
theorem dX11_books_240 : decode cX11_books 240 = .ok (.lload 9, 2) := by decide +kernel
theorem dX11_books_242 : decode cX11_books 242 = .ok (.aload_n 0, 1) := by decide +kernel
theorem dX11_books_243 : decode cX11_books 243 = .ok (.getfield 148, 3) := by decide +kernel
theorem dX11_books_246 : decode cX11_books 246 = .ok (.iload_n 1, 1) := by decide +kernel
theorem dX11_books_247 : decode cX11_books 247 = .ok (.baload, 1) := by decide +kernel
theorem dX11_books_248 : decode cX11_books 248 = .ok (.ifCond .eq 7, 3) := by decide +kernel
theorem dX11_books_251 : decode cX11_books 251 = .ok (.lconst 0, 1) := by decide +kernel
theorem dX11_books_252 : decode cX11_books 252 = .ok (.goto 5, 3) := by decide +kernel
theorem dX11_books_255 : decode cX11_books 255 = .ok (.lload 7, 2) := by decide +kernel
theorem dX11_books_257 : decode cX11_books 257 = .ok (.lsub, 1) := by decide +kernel
theorem dX11_books_258 : decode cX11_books 258 = .ok (.ladd, 1) := by decide +kernel
theorem dX11_books_259 : decode cX11_books 259 = .ok (.lastore, 1) := by decide +kernel
theorem dX11_books_260 : decode cX11_books 260 = .ok (.aload_n 0, 1) := by decide +kernel
theorem dX11_books_261 : decode cX11_books 261 = .ok (.getfield 7, 3) := by decide +kernel
theorem dX11_books_264 : decode cX11_books 264 = .ok (.iconst 1, 1) := by decide +kernel
theorem dX11_books_265 : decode cX11_books 265 = .ok (.dup2, 1) := by decide +kernel
theorem dX11_books_266 : decode cX11_books 266 = .ok (.laload, 1) := by decide +kernel
theorem dX11_books_267 : decode cX11_books 267 = .ok (.aload_n 0, 1) := by decide +kernel
theorem dX11_books_268 : decode cX11_books 268 = .ok (.getfield 136, 3) := by decide +kernel
theorem dX11_books_271 : decode cX11_books 271 = .ok (.iload_n 1, 1) := by decide +kernel
theorem dX11_books_272 : decode cX11_books 272 = .ok (.laload, 1) := by decide +kernel
theorem dX11_books_273 : decode cX11_books 273 = .ok (.lsub, 1) := by decide +kernel
theorem dX11_books_274 : decode cX11_books 274 = .ok (.lastore, 1) := by decide +kernel
theorem dX11_books_275 : decode cX11_books 275 = .ok (.return_, 1) := by decide +kernel
def f_books (p1 : Int32) (M : MS) : MS :=
    if (gI M 31 (gI M 21 ((gI M 40 p1) / 4))) = 0 then
      (rJ (rJ (rJ (f_frees ((gI M 40 p1) / 4) (((gI M 41 p1).toInt64) * ((gI M 29 (gI M 40 p1)).toInt64)) (rJ (rI (rI (rI (rJ (rJ (rJ (rI (rI M 52 p1 1) 51 p1 (mI M 37)) 46 p1 (((gJ M 43 p1) * ((mI M 37).toInt64)) / 100)) 47 p1 (((gJ M 43 p1) + (((gJ M 43 p1) * ((mI M 37).toInt64)) / 100)) - (((((gJ M 43 p1) * ((mI M 37).toInt64)) / 100) * ((mI M 38).toInt64)) / 100))) 48 p1 ((gJ M 43 p1) + (((gJ M 43 p1) * ((mI M 37).toInt64)) / 100))) 49 p1 (mI M 1)) 50 p1 ((mI M 1) + (gI M 33 (gI M 21 ((gI M 40 p1) / 4))))) 44 p1 1) 11 (f_at (gI M 16 ((gI M 40 p1) / 4)) (f_yearNow (rI (rI (rI (rJ (rJ (rJ (rI (rI M 52 p1 1) 51 p1 (mI M 37)) 46 p1 (((gJ M 43 p1) * ((mI M 37).toInt64)) / 100)) 47 p1 (((gJ M 43 p1) + (((gJ M 43 p1) * ((mI M 37).toInt64)) / 100)) - (((((gJ M 43 p1) * ((mI M 37).toInt64)) / 100) * ((mI M 38).toInt64)) / 100))) 48 p1 ((gJ M 43 p1) + (((gJ M 43 p1) * ((mI M 37).toInt64)) / 100))) 49 p1 (mI M 1)) 50 p1 ((mI M 1) + (gI M 33 (gI M 21 ((gI M 40 p1) / 4))))) 44 p1 1)) 2) ((gJ M 11 (f_at (gI M 16 ((gI M 40 p1) / 4)) (f_yearNow (rI (rI (rI (rJ (rJ (rJ (rI (rI M 52 p1 1) 51 p1 (mI M 37)) 46 p1 (((gJ M 43 p1) * ((mI M 37).toInt64)) / 100)) 47 p1 (((gJ M 43 p1) + (((gJ M 43 p1) * ((mI M 37).toInt64)) / 100)) - (((((gJ M 43 p1) * ((mI M 37).toInt64)) / 100) * ((mI M 38).toInt64)) / 100))) 48 p1 ((gJ M 43 p1) + (((gJ M 43 p1) * ((mI M 37).toInt64)) / 100))) 49 p1 (mI M 1)) 50 p1 ((mI M 1) + (gI M 33 (gI M 21 ((gI M 40 p1) / 4))))) 44 p1 1)) 2)) + (((gJ M 43 p1) + (((gJ M 43 p1) * ((mI M 37).toInt64)) / 100)) - (((((gJ M 43 p1) * ((mI M 37).toInt64)) / 100) * ((mI M 38).toInt64)) / 100))))).2 2 0 ((gJ M 2 0) + (((gJ M 43 p1) + (((gJ M 43 p1) * ((mI M 37).toInt64)) / 100)) - (((((gJ M 43 p1) * ((mI M 37).toInt64)) / 100) * ((mI M 38).toInt64)) / 100)))) 2 3 ((gJ M 2 3) + ((((((gJ M 43 p1) * ((mI M 37).toInt64)) / 100) * ((mI M 38).toInt64)) / 100) - 0))) 2 1 ((gJ M 2 1) - ((gJ M 43 p1) + (((gJ M 43 p1) * ((mI M 37).toInt64)) / 100))))
    else
    (rJ (rJ (rJ (f_frees ((gI M 40 p1) / 4) (((gI M 41 p1).toInt64) * ((gI M 29 (gI M 40 p1)).toInt64)) (rJ (rI (rI (rI (rJ (rJ (rJ (rI (rI M 52 p1 0) 51 p1 (mI M 37)) 46 p1 (((gJ M 43 p1) * ((mI M 37).toInt64)) / 100)) 47 p1 (((gJ M 43 p1) + (((gJ M 43 p1) * ((mI M 37).toInt64)) / 100)) - (((((gJ M 43 p1) * ((mI M 37).toInt64)) / 100) * ((mI M 38).toInt64)) / 100))) 48 p1 (gJ M 43 p1)) 49 p1 (mI M 1)) 50 p1 ((mI M 1) + (gI M 33 (gI M 21 ((gI M 40 p1) / 4))))) 44 p1 1) 11 (f_at (gI M 16 ((gI M 40 p1) / 4)) (f_yearNow (rI (rI (rI (rJ (rJ (rJ (rI (rI M 52 p1 0) 51 p1 (mI M 37)) 46 p1 (((gJ M 43 p1) * ((mI M 37).toInt64)) / 100)) 47 p1 (((gJ M 43 p1) + (((gJ M 43 p1) * ((mI M 37).toInt64)) / 100)) - (((((gJ M 43 p1) * ((mI M 37).toInt64)) / 100) * ((mI M 38).toInt64)) / 100))) 48 p1 (gJ M 43 p1)) 49 p1 (mI M 1)) 50 p1 ((mI M 1) + (gI M 33 (gI M 21 ((gI M 40 p1) / 4))))) 44 p1 1)) 2) ((gJ M 11 (f_at (gI M 16 ((gI M 40 p1) / 4)) (f_yearNow (rI (rI (rI (rJ (rJ (rJ (rI (rI M 52 p1 0) 51 p1 (mI M 37)) 46 p1 (((gJ M 43 p1) * ((mI M 37).toInt64)) / 100)) 47 p1 (((gJ M 43 p1) + (((gJ M 43 p1) * ((mI M 37).toInt64)) / 100)) - (((((gJ M 43 p1) * ((mI M 37).toInt64)) / 100) * ((mI M 38).toInt64)) / 100))) 48 p1 (gJ M 43 p1)) 49 p1 (mI M 1)) 50 p1 ((mI M 1) + (gI M 33 (gI M 21 ((gI M 40 p1) / 4))))) 44 p1 1)) 2)) + (((gJ M 43 p1) + (((gJ M 43 p1) * ((mI M 37).toInt64)) / 100)) - (((((gJ M 43 p1) * ((mI M 37).toInt64)) / 100) * ((mI M 38).toInt64)) / 100))))).2 2 0 ((gJ M 2 0) + (((gJ M 43 p1) + (((gJ M 43 p1) * ((mI M 37).toInt64)) / 100)) - (((((gJ M 43 p1) * ((mI M 37).toInt64)) / 100) * ((mI M 38).toInt64)) / 100)))) 2 3 ((gJ M 2 3) + ((((((gJ M 43 p1) * ((mI M 37).toInt64)) / 100) * ((mI M 38).toInt64)) / 100) - (((gJ M 43 p1) * ((mI M 37).toInt64)) / 100)))) 2 1 ((gJ M 2 1) - (gJ M 43 p1)))
abbrev rm_X11_books : Room := { frames := 3, cells := 0, slots := 0, locals := 70 }
set_option maxRecDepth 100000 in
set_option maxHeartbeats 4000000 in
theorem c_books {l : Launch} {k : KC} {mo : Nat} {ad : Nat → Nat} (hl : l.stackTraces = false) (hM : HM mo ad) {M : MS} {p1 : Int32} (hi : IvOK M p1) (hy : P_isYear (f_yearNow M)) : CM l k mo ad yX11_books (.code yX11_books cX11_books 13 none) rm_X11_books [.int p1] M none (f_books p1 M) := by
  refine MC.of 11 hl (by decide) (Nat.le_of_ble_eq_true rfl) ?_
  intro p e s m args below meth c A Q G B _ _
  show Wx p l e rm_X11_books s m args below meth c k A 13 Q 0 0 0 [some (.ref mo), some (.int p1), none, none, none, none, none, none, none, none, none, none, none] [] (mW k mo ad M)
  refine x_aload0 (pc := 0) G dX11_books_0 ?_
  refine y_gA (pc := 1) G g_112 mG_40 dX11_books_1 ?_
  refine x_iload1 (pc := 4) G dX11_books_4 ?_
  refine y_iald (pc := 5) (v := (gI M 40 p1)) G hM a_40 (hi.1) rfl dX11_books_5 ?_
  refine x_istore2 (pc := 6) G dX11_books_6 (Nat.le_of_ble_eq_true rfl) rfl ?_
  refine x_iload2 (pc := 7) G dX11_books_7 ?_
  refine x_iconst (pc := 8) (v := 4) G dX11_books_8 ic_4 ?_
  refine x_idiv (pc := 9) G dX11_books_9 (by decide) ?_
  refine x_istore3 (pc := 10) G dX11_books_10 (Nat.le_of_ble_eq_true rfl) rfl ?_
  refine x_aload0 (pc := 11) G dX11_books_11 ?_
  refine y_gA (pc := 12) G g_57 mG_21 dX11_books_12 ?_
  refine x_iload3 (pc := 15) G dX11_books_15 ?_
  refine y_iald (pc := 16) (v := (gI M 21 ((gI M 40 p1) / 4))) G hM a_21 (hi.2.2.1) rfl dX11_books_16 ?_
  refine x_istore4 (pc := 17) G dX11_books_17 (Nat.le_of_ble_eq_true rfl) rfl ?_
  refine x_aload0 (pc := 19) G dX11_books_19 ?_
  refine y_gA (pc := 20) G g_121 mG_43 dX11_books_20 ?_
  refine x_iload1 (pc := 23) G dX11_books_23 ?_
  refine y_lald (pc := 24) (v := (gJ M 43 p1)) G hM a_43 (hi.1) rfl dX11_books_24 ?_
  refine x_lstore5 (pc := 25) G dX11_books_25 (Nat.le_of_ble_eq_true rfl) rfl ?_
  refine x_lload5 (pc := 27) G dX11_books_27 ?_
  refine x_aload0 (pc := 29) G dX11_books_29 ?_
  refine y_gI (pc := 30) (v := (mI M 37)) G g_105 mG_37 rfl dX11_books_30 ?_
  refine x_i2l (pc := 33) G dX11_books_33 ?_
  refine x_lmul (pc := 34) G dX11_books_34 ?_
  refine x_ldc2 (pc := 35) G q_cL_X11_234 dX11_books_35 ?_
  refine x_ldiv (pc := 38) G dX11_books_38 (by decide) ?_
  refine x_lstore7 (pc := 39) G dX11_books_39 (Nat.le_of_ble_eq_true rfl) rfl ?_
  refine x_lload7 (pc := 41) G dX11_books_41 ?_
  refine x_aload0 (pc := 43) G dX11_books_43 ?_
  refine y_gI (pc := 44) (v := (mI M 38)) G g_109 mG_38 rfl dX11_books_44 ?_
  refine x_i2l (pc := 47) G dX11_books_47 ?_
  refine x_lmul (pc := 48) G dX11_books_48 ?_
  refine x_ldc2 (pc := 49) G q_cL_X11_234 dX11_books_49 ?_
  refine x_ldiv (pc := 52) G dX11_books_52 (by decide) ?_
  refine x_lstore9 (pc := 53) G dX11_books_53 (Nat.le_of_ble_eq_true rfl) rfl ?_
  refine x_aload0 (pc := 55) G dX11_books_55 ?_
  refine y_gA (pc := 56) G g_148 mG_52 dX11_books_56 ?_
  refine x_iload1 (pc := 59) G dX11_books_59 ?_
  refine x_aload0 (pc := 60) G dX11_books_60 ?_
  refine y_gA (pc := 61) G g_87 mG_31 dX11_books_61 ?_
  refine x_iload4 (pc := 64) G dX11_books_64 ?_
  refine y_iald (pc := 66) (v := (gI M 31 (gI M 21 ((gI M 40 p1) / 4)))) G hM a_31 (hi.2.2.2.2.1) rfl dX11_books_66 ?_
  refine x_if_ne (pc := 67) (y := 0) (tgt := 74) G dX11_books_67 rfl (fun c1 => ?_) (fun c1 => ?_)
  · refine x_iconst (pc := 74) (v := 0) G dX11_books_74 ic_0 ?_
    refine y_zast (pc := 75) G hM a_52 (hi.1) (by decide) dX11_books_75 ?_
    refine x_aload0 (pc := 76) G dX11_books_76 ?_
    refine y_gA (pc := 77) G g_145 mG_51 dX11_books_77 ?_
    refine x_iload1 (pc := 80) G dX11_books_80 ?_
    refine x_aload0 (pc := 81) G dX11_books_81 ?_
    refine y_gI (pc := 82) (v := (mI M 37)) G g_105 mG_37 mI_rI dX11_books_82 ?_
    refine y_iast (pc := 85) G hM a_51 (hi.1) dX11_books_85 ?_
    refine x_aload0 (pc := 86) G dX11_books_86 ?_
    refine y_gA (pc := 87) G g_130 mG_46 dX11_books_87 ?_
    refine x_iload1 (pc := 90) G dX11_books_90 ?_
    refine x_lload7 (pc := 91) G dX11_books_91 ?_
    refine y_last (pc := 93) G hM a_46 (hi.1) dX11_books_93 ?_
    refine x_aload0 (pc := 94) G dX11_books_94 ?_
    refine y_gA (pc := 95) G g_133 mG_47 dX11_books_95 ?_
    refine x_iload1 (pc := 98) G dX11_books_98 ?_
    refine x_lload5 (pc := 99) G dX11_books_99 ?_
    refine x_lload7 (pc := 101) G dX11_books_101 ?_
    refine x_ladd (pc := 103) G dX11_books_103 ?_
    refine x_lload9 (pc := 104) G dX11_books_104 ?_
    refine x_lsub (pc := 106) G dX11_books_106 ?_
    refine y_last (pc := 107) G hM a_47 (hi.1) dX11_books_107 ?_
    refine x_aload0 (pc := 108) G dX11_books_108 ?_
    refine y_gA (pc := 109) G g_136 mG_48 dX11_books_109 ?_
    refine x_iload1 (pc := 112) G dX11_books_112 ?_
    refine x_aload0 (pc := 113) G dX11_books_113 ?_
    refine y_gA (pc := 114) G g_148 mG_52 dX11_books_114 ?_
    refine x_iload1 (pc := 117) G dX11_books_117 ?_
    refine y_zald (pc := 118) (v := 0) G hM a_52 (hi.1) (gI_rJ.trans (gI_rJ.trans ((gI_rIn rfl).trans gI_rIs))) dX11_books_118 ?_
    refine x_if_eq (pc := 119) (y := 0) (tgt := 130) G dX11_books_119 rfl (fun _ => ?_) (fun q => absurd q (by decide))
    refine x_lload5 (pc := 130) G dX11_books_130 ?_
    refine y_last (pc := 132) G hM a_48 (hi.1) dX11_books_132 ?_
    refine x_aload0 (pc := 133) G dX11_books_133 ?_
    refine y_gA (pc := 134) G g_139 mG_49 dX11_books_134 ?_
    refine x_iload1 (pc := 137) G dX11_books_137 ?_
    refine x_aload0 (pc := 138) G dX11_books_138 ?_
    refine y_gI (pc := 139) (v := (mI M 1)) G g_195 mG_1 (mI_rJ.trans (mI_rJ.trans (mI_rJ.trans (mI_rI.trans mI_rI)))) dX11_books_139 ?_
    refine y_iast (pc := 142) G hM a_49 (hi.1) dX11_books_142 ?_
    refine x_aload0 (pc := 143) G dX11_books_143 ?_
    refine y_gA (pc := 144) G g_142 mG_50 dX11_books_144 ?_
    refine x_iload1 (pc := 147) G dX11_books_147 ?_
    refine x_aload0 (pc := 148) G dX11_books_148 ?_
    refine y_gI (pc := 149) (v := (mI M 1)) G g_195 mG_1 (mI_rI.trans (mI_rJ.trans (mI_rJ.trans (mI_rJ.trans (mI_rI.trans mI_rI))))) dX11_books_149 ?_
    refine x_aload0 (pc := 152) G dX11_books_152 ?_
    refine y_gA (pc := 153) G g_93 mG_33 dX11_books_153 ?_
    refine x_iload4 (pc := 156) G dX11_books_156 ?_
    refine y_iald (pc := 158) (v := (gI M 33 (gI M 21 ((gI M 40 p1) / 4)))) G hM a_33 (hi.2.2.2.2.1) ((gI_rIn rfl).trans (gI_rJ.trans (gI_rJ.trans (gI_rJ.trans ((gI_rIn rfl).trans (gI_rIn rfl)))))) dX11_books_158 ?_
    refine x_iadd (pc := 159) G dX11_books_159 ?_
    refine y_iast (pc := 160) G hM a_50 (hi.1) dX11_books_160 ?_
    refine x_aload0 (pc := 161) G dX11_books_161 ?_
    refine y_gA (pc := 162) G g_124 mG_44 dX11_books_162 ?_
    refine x_iload1 (pc := 165) G dX11_books_165 ?_
    refine x_iconst (pc := 166) (v := 1) G dX11_books_166 ic_1 ?_
    refine y_iast (pc := 167) G hM a_44 (hi.1) dX11_books_167 ?_
    refine x_aload0 (pc := 168) G dX11_books_168 ?_
    refine y_gA (pc := 169) G g_32 mG_11 dX11_books_169 ?_
    refine x_aload0 (pc := 172) G dX11_books_172 ?_
    refine y_gA (pc := 173) G g_42 mG_16 dX11_books_173 ?_
    refine x_iload3 (pc := 176) G dX11_books_176 ?_
    refine y_iald (pc := 177) (v := (gI M 16 ((gI M 40 p1) / 4))) G hM a_16 (hi.2.2.1) ((gI_rIn rfl).trans ((gI_rIn rfl).trans ((gI_rIn rfl).trans (gI_rJ.trans (gI_rJ.trans (gI_rJ.trans ((gI_rIn rfl).trans (gI_rIn rfl)))))))) dX11_books_177 ?_
    refine x_aload0 (pc := 178) G dX11_books_178 ?_
    refine y_c0 (pc := 179) G (c_yearNow hl hM ) q_ml_X11_226 h_X11_yearNow rfl ⟨Nat.le_of_ble_eq_true rfl, Nat.le_of_ble_eq_true rfl⟩ (Nat.le_of_ble_eq_true rfl) (Nat.le_refl _) (Nat.le_refl _) dX11_books_179 ?_
    refine x_iconst (pc := 182) (v := 2) G dX11_books_182 ic_2 ?_
    refine x_cS3 (pc := 183) G (c_at hl hM _) q_ml_X11_198 h_X11_at ⟨Nat.le_of_ble_eq_true rfl, Nat.le_of_ble_eq_true rfl⟩ (Nat.le_of_ble_eq_true rfl) (Nat.le_refl _) (Nat.le_refl _) dX11_books_183 ?_
    refine x_dup2 (pc := 186) G dX11_books_186 rfl rfl ?_
    refine y_lald (pc := 187) (v := (gJ M 11 (f_at (gI M 16 ((gI M 40 p1) / 4)) (f_yearNow (rI (rI (rI (rJ (rJ (rJ (rI (rI M 52 p1 0) 51 p1 (mI M 37)) 46 p1 (((gJ M 43 p1) * ((mI M 37).toInt64)) / 100)) 47 p1 (((gJ M 43 p1) + (((gJ M 43 p1) * ((mI M 37).toInt64)) / 100)) - (((((gJ M 43 p1) * ((mI M 37).toInt64)) / 100) * ((mI M 38).toInt64)) / 100))) 48 p1 (gJ M 43 p1)) 49 p1 (mI M 1)) 50 p1 ((mI M 1) + (gI M 33 (gI M 21 ((gI M 40 p1) / 4))))) 44 p1 1)) 2))) G hM a_11 (vin_at hi.2.2.2.1.2.2.1 hy (by decide)) (gJ_rI.trans (gJ_rI.trans (gJ_rI.trans ((gJ_rJn rfl).trans ((gJ_rJn rfl).trans ((gJ_rJn rfl).trans (gJ_rI.trans gJ_rI))))))) dX11_books_187 ?_
    refine x_aload0 (pc := 188) G dX11_books_188 ?_
    refine y_gA (pc := 189) G g_133 mG_47 dX11_books_189 ?_
    refine x_iload1 (pc := 192) G dX11_books_192 ?_
    refine y_lald (pc := 193) (v := (((gJ M 43 p1) + (((gJ M 43 p1) * ((mI M 37).toInt64)) / 100)) - (((((gJ M 43 p1) * ((mI M 37).toInt64)) / 100) * ((mI M 38).toInt64)) / 100))) G hM a_47 (hi.1) (gJ_rI.trans (gJ_rI.trans (gJ_rI.trans ((gJ_rJn rfl).trans gJ_rJs)))) dX11_books_193 ?_
    refine x_ladd (pc := 194) G dX11_books_194 ?_
    refine y_last (pc := 195) G hM a_11 (vin_at hi.2.2.2.1.2.2.1 hy (by decide)) dX11_books_195 ?_
    refine x_aload0 (pc := 196) G dX11_books_196 ?_
    refine x_iload3 (pc := 197) G dX11_books_197 ?_
    refine x_aload0 (pc := 198) G dX11_books_198 ?_
    refine y_gA (pc := 199) G g_115 mG_41 dX11_books_199 ?_
    refine x_iload1 (pc := 202) G dX11_books_202 ?_
    refine y_iald (pc := 203) (v := (gI M 41 p1)) G hM a_41 (hi.1) (gI_rJ.trans ((gI_rIn rfl).trans ((gI_rIn rfl).trans ((gI_rIn rfl).trans (gI_rJ.trans (gI_rJ.trans (gI_rJ.trans ((gI_rIn rfl).trans (gI_rIn rfl))))))))) dX11_books_203 ?_
    refine x_i2l (pc := 204) G dX11_books_204 ?_
    refine x_aload0 (pc := 205) G dX11_books_205 ?_
    refine y_gA (pc := 206) G g_81 mG_29 dX11_books_206 ?_
    refine x_iload2 (pc := 209) G dX11_books_209 ?_
    refine y_iald (pc := 210) (v := (gI M 29 (gI M 40 p1))) G hM a_29 (hi.2.1) (gI_rJ.trans ((gI_rIn rfl).trans ((gI_rIn rfl).trans ((gI_rIn rfl).trans (gI_rJ.trans (gI_rJ.trans (gI_rJ.trans ((gI_rIn rfl).trans (gI_rIn rfl))))))))) dX11_books_210 ?_
    refine x_i2l (pc := 211) G dX11_books_211 ?_
    refine x_lmul (pc := 212) G dX11_books_212 ?_
    refine y_c2 (pc := 213) G (c_frees hl hM hi.2.2.1 (by simp only [gJ_rJn, gJ_rI, gJ_sI, gI_rJ, gI_rIn, gI_sI, beq_iff_eq, reduceCtorEq, Nat.reduceEqDiff, Nat.reduceBEq]; exact RqOK.fr hi.2.2.2.1)) q_ml_X11_274 h_X11_frees rfl ⟨Nat.le_of_ble_eq_true rfl, Nat.le_of_ble_eq_true rfl⟩ (Nat.le_of_ble_eq_true rfl) (Nat.le_refl _) (Nat.le_refl _) dX11_books_213 ?_
    refine x_lstore11 (pc := 216) G dX11_books_216 (Nat.le_of_ble_eq_true rfl) rfl ?_
    refine x_aload0 (pc := 218) G dX11_books_218 ?_
    refine y_gA (pc := 219) G g_7 mG_2 dX11_books_219 ?_
    refine x_iconst (pc := 222) (v := 0) G dX11_books_222 ic_0 ?_
    refine x_dup2 (pc := 223) G dX11_books_223 rfl rfl ?_
    refine y_lald (pc := 224) (v := (gJ M 2 0)) G hM a_2 vk9_0 ((gJ_frees rfl rfl).trans ((gJ_rJn rfl).trans (gJ_rI.trans (gJ_rI.trans (gJ_rI.trans ((gJ_rJn rfl).trans ((gJ_rJn rfl).trans ((gJ_rJn rfl).trans (gJ_rI.trans gJ_rI))))))))) dX11_books_224 ?_
    refine x_aload0 (pc := 225) G dX11_books_225 ?_
    refine y_gA (pc := 226) G g_133 mG_47 dX11_books_226 ?_
    refine x_iload1 (pc := 229) G dX11_books_229 ?_
    refine y_lald (pc := 230) (v := (((gJ M 43 p1) + (((gJ M 43 p1) * ((mI M 37).toInt64)) / 100)) - (((((gJ M 43 p1) * ((mI M 37).toInt64)) / 100) * ((mI M 38).toInt64)) / 100))) G hM a_47 (hi.1) ((gJ_frees rfl rfl).trans ((gJ_rJn rfl).trans (gJ_rI.trans (gJ_rI.trans (gJ_rI.trans ((gJ_rJn rfl).trans gJ_rJs)))))) dX11_books_230 ?_
    refine x_ladd (pc := 231) G dX11_books_231 ?_
    refine y_last (pc := 232) G hM a_2 vk9_0 dX11_books_232 ?_
    refine x_aload0 (pc := 233) G dX11_books_233 ?_
    refine y_gA (pc := 234) G g_7 mG_2 dX11_books_234 ?_
    refine x_iconst (pc := 237) (v := 3) G dX11_books_237 ic_3 ?_
    refine x_dup2 (pc := 238) G dX11_books_238 rfl rfl ?_
    refine y_lald (pc := 239) (v := (gJ M 2 3)) G hM a_2 vk9_3 ((gJ_rJc (by decide)).trans ((gJ_frees rfl rfl).trans ((gJ_rJn rfl).trans (gJ_rI.trans (gJ_rI.trans (gJ_rI.trans ((gJ_rJn rfl).trans ((gJ_rJn rfl).trans ((gJ_rJn rfl).trans (gJ_rI.trans gJ_rI)))))))))) dX11_books_239 ?_
    refine x_lload9 (pc := 240) G dX11_books_240 ?_
    refine x_aload0 (pc := 242) G dX11_books_242 ?_
    refine y_gA (pc := 243) G g_148 mG_52 dX11_books_243 ?_
    refine x_iload1 (pc := 246) G dX11_books_246 ?_
    refine y_zald (pc := 247) (v := 0) G hM a_52 (hi.1) (gI_rJ.trans ((gI_frees).trans (gI_rJ.trans ((gI_rIn rfl).trans ((gI_rIn rfl).trans ((gI_rIn rfl).trans (gI_rJ.trans (gI_rJ.trans (gI_rJ.trans ((gI_rIn rfl).trans gI_rIs)))))))))) dX11_books_247 ?_
    refine x_if_eq (pc := 248) (y := 0) (tgt := 255) G dX11_books_248 rfl (fun _ => ?_) (fun q => absurd q (by decide))
    refine x_lload7 (pc := 255) G dX11_books_255 ?_
    refine x_lsub (pc := 257) G dX11_books_257 ?_
    refine x_ladd (pc := 258) G dX11_books_258 ?_
    refine y_last (pc := 259) G hM a_2 vk9_3 dX11_books_259 ?_
    refine x_aload0 (pc := 260) G dX11_books_260 ?_
    refine y_gA (pc := 261) G g_7 mG_2 dX11_books_261 ?_
    refine x_iconst (pc := 264) (v := 1) G dX11_books_264 ic_1 ?_
    refine x_dup2 (pc := 265) G dX11_books_265 rfl rfl ?_
    refine y_lald (pc := 266) (v := (gJ M 2 1)) G hM a_2 vk9_1 ((gJ_rJc (by decide)).trans ((gJ_rJc (by decide)).trans ((gJ_frees rfl rfl).trans ((gJ_rJn rfl).trans (gJ_rI.trans (gJ_rI.trans (gJ_rI.trans ((gJ_rJn rfl).trans ((gJ_rJn rfl).trans ((gJ_rJn rfl).trans (gJ_rI.trans gJ_rI))))))))))) dX11_books_266 ?_
    refine x_aload0 (pc := 267) G dX11_books_267 ?_
    refine y_gA (pc := 268) G g_136 mG_48 dX11_books_268 ?_
    refine x_iload1 (pc := 271) G dX11_books_271 ?_
    refine y_lald (pc := 272) (v := (gJ M 43 p1)) G hM a_48 (hi.1) ((gJ_rJn rfl).trans ((gJ_rJn rfl).trans ((gJ_frees rfl rfl).trans ((gJ_rJn rfl).trans (gJ_rI.trans (gJ_rI.trans (gJ_rI.trans gJ_rJs))))))) dX11_books_272 ?_
    refine x_lsub (pc := 273) G dX11_books_273 ?_
    refine y_last (pc := 274) G hM a_2 vk9_1 dX11_books_274 ?_
    exact x_vret (pc := 275) G B rfl dX11_books_275 ⟨rfl, by rw [f_books, if_neg c1]⟩
  refine x_iconst (pc := 70) (v := 1) G dX11_books_70 ic_1 ?_
  refine x_goto (pc := 71) (tgt := 75) G dX11_books_71 rfl ?_
  refine y_zast (pc := 75) G hM a_52 (hi.1) (by decide) dX11_books_75 ?_
  refine x_aload0 (pc := 76) G dX11_books_76 ?_
  refine y_gA (pc := 77) G g_145 mG_51 dX11_books_77 ?_
  refine x_iload1 (pc := 80) G dX11_books_80 ?_
  refine x_aload0 (pc := 81) G dX11_books_81 ?_
  refine y_gI (pc := 82) (v := (mI M 37)) G g_105 mG_37 mI_rI dX11_books_82 ?_
  refine y_iast (pc := 85) G hM a_51 (hi.1) dX11_books_85 ?_
  refine x_aload0 (pc := 86) G dX11_books_86 ?_
  refine y_gA (pc := 87) G g_130 mG_46 dX11_books_87 ?_
  refine x_iload1 (pc := 90) G dX11_books_90 ?_
  refine x_lload7 (pc := 91) G dX11_books_91 ?_
  refine y_last (pc := 93) G hM a_46 (hi.1) dX11_books_93 ?_
  refine x_aload0 (pc := 94) G dX11_books_94 ?_
  refine y_gA (pc := 95) G g_133 mG_47 dX11_books_95 ?_
  refine x_iload1 (pc := 98) G dX11_books_98 ?_
  refine x_lload5 (pc := 99) G dX11_books_99 ?_
  refine x_lload7 (pc := 101) G dX11_books_101 ?_
  refine x_ladd (pc := 103) G dX11_books_103 ?_
  refine x_lload9 (pc := 104) G dX11_books_104 ?_
  refine x_lsub (pc := 106) G dX11_books_106 ?_
  refine y_last (pc := 107) G hM a_47 (hi.1) dX11_books_107 ?_
  refine x_aload0 (pc := 108) G dX11_books_108 ?_
  refine y_gA (pc := 109) G g_136 mG_48 dX11_books_109 ?_
  refine x_iload1 (pc := 112) G dX11_books_112 ?_
  refine x_aload0 (pc := 113) G dX11_books_113 ?_
  refine y_gA (pc := 114) G g_148 mG_52 dX11_books_114 ?_
  refine x_iload1 (pc := 117) G dX11_books_117 ?_
  refine y_zald (pc := 118) (v := 1) G hM a_52 (hi.1) (gI_rJ.trans (gI_rJ.trans ((gI_rIn rfl).trans gI_rIs))) dX11_books_118 ?_
  refine x_if_eq (pc := 119) (y := 0) (tgt := 130) G dX11_books_119 rfl (fun q => absurd q (by decide)) (fun _ => ?_)
  refine x_lload5 (pc := 122) G dX11_books_122 ?_
  refine x_lload7 (pc := 124) G dX11_books_124 ?_
  refine x_ladd (pc := 126) G dX11_books_126 ?_
  refine x_goto (pc := 127) (tgt := 132) G dX11_books_127 rfl ?_
  refine y_last (pc := 132) G hM a_48 (hi.1) dX11_books_132 ?_
  refine x_aload0 (pc := 133) G dX11_books_133 ?_
  refine y_gA (pc := 134) G g_139 mG_49 dX11_books_134 ?_
  refine x_iload1 (pc := 137) G dX11_books_137 ?_
  refine x_aload0 (pc := 138) G dX11_books_138 ?_
  refine y_gI (pc := 139) (v := (mI M 1)) G g_195 mG_1 (mI_rJ.trans (mI_rJ.trans (mI_rJ.trans (mI_rI.trans mI_rI)))) dX11_books_139 ?_
  refine y_iast (pc := 142) G hM a_49 (hi.1) dX11_books_142 ?_
  refine x_aload0 (pc := 143) G dX11_books_143 ?_
  refine y_gA (pc := 144) G g_142 mG_50 dX11_books_144 ?_
  refine x_iload1 (pc := 147) G dX11_books_147 ?_
  refine x_aload0 (pc := 148) G dX11_books_148 ?_
  refine y_gI (pc := 149) (v := (mI M 1)) G g_195 mG_1 (mI_rI.trans (mI_rJ.trans (mI_rJ.trans (mI_rJ.trans (mI_rI.trans mI_rI))))) dX11_books_149 ?_
  refine x_aload0 (pc := 152) G dX11_books_152 ?_
  refine y_gA (pc := 153) G g_93 mG_33 dX11_books_153 ?_
  refine x_iload4 (pc := 156) G dX11_books_156 ?_
  refine y_iald (pc := 158) (v := (gI M 33 (gI M 21 ((gI M 40 p1) / 4)))) G hM a_33 (hi.2.2.2.2.1) ((gI_rIn rfl).trans (gI_rJ.trans (gI_rJ.trans (gI_rJ.trans ((gI_rIn rfl).trans (gI_rIn rfl)))))) dX11_books_158 ?_
  refine x_iadd (pc := 159) G dX11_books_159 ?_
  refine y_iast (pc := 160) G hM a_50 (hi.1) dX11_books_160 ?_
  refine x_aload0 (pc := 161) G dX11_books_161 ?_
  refine y_gA (pc := 162) G g_124 mG_44 dX11_books_162 ?_
  refine x_iload1 (pc := 165) G dX11_books_165 ?_
  refine x_iconst (pc := 166) (v := 1) G dX11_books_166 ic_1 ?_
  refine y_iast (pc := 167) G hM a_44 (hi.1) dX11_books_167 ?_
  refine x_aload0 (pc := 168) G dX11_books_168 ?_
  refine y_gA (pc := 169) G g_32 mG_11 dX11_books_169 ?_
  refine x_aload0 (pc := 172) G dX11_books_172 ?_
  refine y_gA (pc := 173) G g_42 mG_16 dX11_books_173 ?_
  refine x_iload3 (pc := 176) G dX11_books_176 ?_
  refine y_iald (pc := 177) (v := (gI M 16 ((gI M 40 p1) / 4))) G hM a_16 (hi.2.2.1) ((gI_rIn rfl).trans ((gI_rIn rfl).trans ((gI_rIn rfl).trans (gI_rJ.trans (gI_rJ.trans (gI_rJ.trans ((gI_rIn rfl).trans (gI_rIn rfl)))))))) dX11_books_177 ?_
  refine x_aload0 (pc := 178) G dX11_books_178 ?_
  refine y_c0 (pc := 179) G (c_yearNow hl hM ) q_ml_X11_226 h_X11_yearNow rfl ⟨Nat.le_of_ble_eq_true rfl, Nat.le_of_ble_eq_true rfl⟩ (Nat.le_of_ble_eq_true rfl) (Nat.le_refl _) (Nat.le_refl _) dX11_books_179 ?_
  refine x_iconst (pc := 182) (v := 2) G dX11_books_182 ic_2 ?_
  refine x_cS3 (pc := 183) G (c_at hl hM _) q_ml_X11_198 h_X11_at ⟨Nat.le_of_ble_eq_true rfl, Nat.le_of_ble_eq_true rfl⟩ (Nat.le_of_ble_eq_true rfl) (Nat.le_refl _) (Nat.le_refl _) dX11_books_183 ?_
  refine x_dup2 (pc := 186) G dX11_books_186 rfl rfl ?_
  refine y_lald (pc := 187) (v := (gJ M 11 (f_at (gI M 16 ((gI M 40 p1) / 4)) (f_yearNow (rI (rI (rI (rJ (rJ (rJ (rI (rI M 52 p1 1) 51 p1 (mI M 37)) 46 p1 (((gJ M 43 p1) * ((mI M 37).toInt64)) / 100)) 47 p1 (((gJ M 43 p1) + (((gJ M 43 p1) * ((mI M 37).toInt64)) / 100)) - (((((gJ M 43 p1) * ((mI M 37).toInt64)) / 100) * ((mI M 38).toInt64)) / 100))) 48 p1 ((gJ M 43 p1) + (((gJ M 43 p1) * ((mI M 37).toInt64)) / 100))) 49 p1 (mI M 1)) 50 p1 ((mI M 1) + (gI M 33 (gI M 21 ((gI M 40 p1) / 4))))) 44 p1 1)) 2))) G hM a_11 (vin_at hi.2.2.2.1.2.2.1 hy (by decide)) (gJ_rI.trans (gJ_rI.trans (gJ_rI.trans ((gJ_rJn rfl).trans ((gJ_rJn rfl).trans ((gJ_rJn rfl).trans (gJ_rI.trans gJ_rI))))))) dX11_books_187 ?_
  refine x_aload0 (pc := 188) G dX11_books_188 ?_
  refine y_gA (pc := 189) G g_133 mG_47 dX11_books_189 ?_
  refine x_iload1 (pc := 192) G dX11_books_192 ?_
  refine y_lald (pc := 193) (v := (((gJ M 43 p1) + (((gJ M 43 p1) * ((mI M 37).toInt64)) / 100)) - (((((gJ M 43 p1) * ((mI M 37).toInt64)) / 100) * ((mI M 38).toInt64)) / 100))) G hM a_47 (hi.1) (gJ_rI.trans (gJ_rI.trans (gJ_rI.trans ((gJ_rJn rfl).trans gJ_rJs)))) dX11_books_193 ?_
  refine x_ladd (pc := 194) G dX11_books_194 ?_
  refine y_last (pc := 195) G hM a_11 (vin_at hi.2.2.2.1.2.2.1 hy (by decide)) dX11_books_195 ?_
  refine x_aload0 (pc := 196) G dX11_books_196 ?_
  refine x_iload3 (pc := 197) G dX11_books_197 ?_
  refine x_aload0 (pc := 198) G dX11_books_198 ?_
  refine y_gA (pc := 199) G g_115 mG_41 dX11_books_199 ?_
  refine x_iload1 (pc := 202) G dX11_books_202 ?_
  refine y_iald (pc := 203) (v := (gI M 41 p1)) G hM a_41 (hi.1) (gI_rJ.trans ((gI_rIn rfl).trans ((gI_rIn rfl).trans ((gI_rIn rfl).trans (gI_rJ.trans (gI_rJ.trans (gI_rJ.trans ((gI_rIn rfl).trans (gI_rIn rfl))))))))) dX11_books_203 ?_
  refine x_i2l (pc := 204) G dX11_books_204 ?_
  refine x_aload0 (pc := 205) G dX11_books_205 ?_
  refine y_gA (pc := 206) G g_81 mG_29 dX11_books_206 ?_
  refine x_iload2 (pc := 209) G dX11_books_209 ?_
  refine y_iald (pc := 210) (v := (gI M 29 (gI M 40 p1))) G hM a_29 (hi.2.1) (gI_rJ.trans ((gI_rIn rfl).trans ((gI_rIn rfl).trans ((gI_rIn rfl).trans (gI_rJ.trans (gI_rJ.trans (gI_rJ.trans ((gI_rIn rfl).trans (gI_rIn rfl))))))))) dX11_books_210 ?_
  refine x_i2l (pc := 211) G dX11_books_211 ?_
  refine x_lmul (pc := 212) G dX11_books_212 ?_
  refine y_c2 (pc := 213) G (c_frees hl hM hi.2.2.1 (by simp only [gJ_rJn, gJ_rI, gJ_sI, gI_rJ, gI_rIn, gI_sI, beq_iff_eq, reduceCtorEq, Nat.reduceEqDiff, Nat.reduceBEq]; exact RqOK.fr hi.2.2.2.1)) q_ml_X11_274 h_X11_frees rfl ⟨Nat.le_of_ble_eq_true rfl, Nat.le_of_ble_eq_true rfl⟩ (Nat.le_of_ble_eq_true rfl) (Nat.le_refl _) (Nat.le_refl _) dX11_books_213 ?_
  refine x_lstore11 (pc := 216) G dX11_books_216 (Nat.le_of_ble_eq_true rfl) rfl ?_
  refine x_aload0 (pc := 218) G dX11_books_218 ?_
  refine y_gA (pc := 219) G g_7 mG_2 dX11_books_219 ?_
  refine x_iconst (pc := 222) (v := 0) G dX11_books_222 ic_0 ?_
  refine x_dup2 (pc := 223) G dX11_books_223 rfl rfl ?_
  refine y_lald (pc := 224) (v := (gJ M 2 0)) G hM a_2 vk9_0 ((gJ_frees rfl rfl).trans ((gJ_rJn rfl).trans (gJ_rI.trans (gJ_rI.trans (gJ_rI.trans ((gJ_rJn rfl).trans ((gJ_rJn rfl).trans ((gJ_rJn rfl).trans (gJ_rI.trans gJ_rI))))))))) dX11_books_224 ?_
  refine x_aload0 (pc := 225) G dX11_books_225 ?_
  refine y_gA (pc := 226) G g_133 mG_47 dX11_books_226 ?_
  refine x_iload1 (pc := 229) G dX11_books_229 ?_
  refine y_lald (pc := 230) (v := (((gJ M 43 p1) + (((gJ M 43 p1) * ((mI M 37).toInt64)) / 100)) - (((((gJ M 43 p1) * ((mI M 37).toInt64)) / 100) * ((mI M 38).toInt64)) / 100))) G hM a_47 (hi.1) ((gJ_frees rfl rfl).trans ((gJ_rJn rfl).trans (gJ_rI.trans (gJ_rI.trans (gJ_rI.trans ((gJ_rJn rfl).trans gJ_rJs)))))) dX11_books_230 ?_
  refine x_ladd (pc := 231) G dX11_books_231 ?_
  refine y_last (pc := 232) G hM a_2 vk9_0 dX11_books_232 ?_
  refine x_aload0 (pc := 233) G dX11_books_233 ?_
  refine y_gA (pc := 234) G g_7 mG_2 dX11_books_234 ?_
  refine x_iconst (pc := 237) (v := 3) G dX11_books_237 ic_3 ?_
  refine x_dup2 (pc := 238) G dX11_books_238 rfl rfl ?_
  refine y_lald (pc := 239) (v := (gJ M 2 3)) G hM a_2 vk9_3 ((gJ_rJc (by decide)).trans ((gJ_frees rfl rfl).trans ((gJ_rJn rfl).trans (gJ_rI.trans (gJ_rI.trans (gJ_rI.trans ((gJ_rJn rfl).trans ((gJ_rJn rfl).trans ((gJ_rJn rfl).trans (gJ_rI.trans gJ_rI)))))))))) dX11_books_239 ?_
  refine x_lload9 (pc := 240) G dX11_books_240 ?_
  refine x_aload0 (pc := 242) G dX11_books_242 ?_
  refine y_gA (pc := 243) G g_148 mG_52 dX11_books_243 ?_
  refine x_iload1 (pc := 246) G dX11_books_246 ?_
  refine y_zald (pc := 247) (v := 1) G hM a_52 (hi.1) (gI_rJ.trans ((gI_frees).trans (gI_rJ.trans ((gI_rIn rfl).trans ((gI_rIn rfl).trans ((gI_rIn rfl).trans (gI_rJ.trans (gI_rJ.trans (gI_rJ.trans ((gI_rIn rfl).trans gI_rIs)))))))))) dX11_books_247 ?_
  refine x_if_eq (pc := 248) (y := 0) (tgt := 255) G dX11_books_248 rfl (fun q => absurd q (by decide)) (fun _ => ?_)
  refine x_lconst (pc := 251) (v := 0) G dX11_books_251 lc_0 ?_
  refine x_goto (pc := 252) (tgt := 257) G dX11_books_252 rfl ?_
  refine x_lsub (pc := 257) G dX11_books_257 ?_
  refine x_ladd (pc := 258) G dX11_books_258 ?_
  refine y_last (pc := 259) G hM a_2 vk9_3 dX11_books_259 ?_
  refine x_aload0 (pc := 260) G dX11_books_260 ?_
  refine y_gA (pc := 261) G g_7 mG_2 dX11_books_261 ?_
  refine x_iconst (pc := 264) (v := 1) G dX11_books_264 ic_1 ?_
  refine x_dup2 (pc := 265) G dX11_books_265 rfl rfl ?_
  refine y_lald (pc := 266) (v := (gJ M 2 1)) G hM a_2 vk9_1 ((gJ_rJc (by decide)).trans ((gJ_rJc (by decide)).trans ((gJ_frees rfl rfl).trans ((gJ_rJn rfl).trans (gJ_rI.trans (gJ_rI.trans (gJ_rI.trans ((gJ_rJn rfl).trans ((gJ_rJn rfl).trans ((gJ_rJn rfl).trans (gJ_rI.trans gJ_rI))))))))))) dX11_books_266 ?_
  refine x_aload0 (pc := 267) G dX11_books_267 ?_
  refine y_gA (pc := 268) G g_136 mG_48 dX11_books_268 ?_
  refine x_iload1 (pc := 271) G dX11_books_271 ?_
  refine y_lald (pc := 272) (v := ((gJ M 43 p1) + (((gJ M 43 p1) * ((mI M 37).toInt64)) / 100))) G hM a_48 (hi.1) ((gJ_rJn rfl).trans ((gJ_rJn rfl).trans ((gJ_frees rfl rfl).trans ((gJ_rJn rfl).trans (gJ_rI.trans (gJ_rI.trans (gJ_rI.trans gJ_rJs))))))) dX11_books_272 ?_
  refine x_lsub (pc := 273) G dX11_books_273 ?_
  refine y_last (pc := 274) G hM a_2 vk9_1 dX11_books_274 ?_
  exact x_vret (pc := 275) G B rfl dX11_books_275 ⟨rfl, by rw [f_books, if_pos c1]⟩
theorem dX11_isIn_0 : decode cX11_isIn 0 = .ok (.ldc_w 338, 3) := by decide +kernel
theorem dX11_isIn_3 : decode cX11_isIn 3 = .ok (.bipush 100, 2) := by decide +kernel
theorem dX11_isIn_5 : decode cX11_isIn 5 = .ok (.iload_n 1, 1) := by decide +kernel
theorem dX11_isIn_6 : decode cX11_isIn 6 = .ok (.imul, 1) := by decide +kernel
theorem dX11_isIn_7 : decode cX11_isIn 7 = .ok (.iload_n 2, 1) := by decide +kernel
theorem dX11_isIn_8 : decode cX11_isIn 8 = .ok (.iadd, 1) := by decide +kernel
theorem dX11_isIn_9 : decode cX11_isIn 9 = .ok (.imul, 1) := by decide +kernel
theorem dX11_isIn_10 : decode cX11_isIn 10 = .ok (.aload_n 0, 1) := by decide +kernel
theorem dX11_isIn_11 : decode cX11_isIn 11 = .ok (.getfield 330, 3) := by decide +kernel
theorem dX11_isIn_14 : decode cX11_isIn 14 = .ok (.iadd, 1) := by decide +kernel
theorem dX11_isIn_15 : decode cX11_isIn 15 = .ok (.istore_n 3, 1) := by decide +kernel
theorem dX11_isIn_16 : decode cX11_isIn 16 = .ok (.iload_n 3, 1) := by decide +kernel
theorem dX11_isIn_17 : decode cX11_isIn 17 = .ok (.bipush 16, 2) := by decide +kernel
theorem dX11_isIn_19 : decode cX11_isIn 19 = .ok (.iushr, 1) := by decide +kernel
theorem dX11_isIn_20 : decode cX11_isIn 20 = .ok (.bipush 100, 2) := by decide +kernel
theorem dX11_isIn_22 : decode cX11_isIn 22 = .ok (.irem, 1) := by decide +kernel
theorem dX11_isIn_23 : decode cX11_isIn 23 = .ok (.aload_n 0, 1) := by decide +kernel
theorem dX11_isIn_24 : decode cX11_isIn 24 = .ok (.getfield 333, 3) := by decide +kernel
theorem dX11_isIn_27 : decode cX11_isIn 27 = .ok (.if_icmp .ge 7, 3) := by decide +kernel
theorem dX11_isIn_30 : decode cX11_isIn 30 = .ok (.iconst 1, 1) := by decide +kernel
theorem dX11_isIn_31 : decode cX11_isIn 31 = .ok (.goto 4, 3) := by decide +kernel
theorem dX11_isIn_34 : decode cX11_isIn 34 = .ok (.iconst 0, 1) := by decide +kernel
theorem dX11_isIn_35 : decode cX11_isIn 35 = .ok (.ireturn, 1) := by decide +kernel
def f_isIn (p1 : Int32) (p2 : Int32) (M : MS) : Int32 :=
    if (mI M 65) ≤ (((((1103515245 * ((100 * p1) + p2)) + (mI M 64)).toUInt32 >>> ((16 : Int32).toUInt32 &&& Int32.toUInt32 31)).toInt32) - ((((1103515245 * ((100 * p1) + p2)) + (mI M 64)).toUInt32 >>> ((16 : Int32).toUInt32 &&& Int32.toUInt32 31)).toInt32) / 100 * 100) then
      0
    else
    1
abbrev rm_X11_isIn : Room := { frames := 0, cells := 0, slots := 0, locals := 0 }
set_option maxRecDepth 100000 in
set_option maxHeartbeats 4000000 in
theorem c_isIn {l : Launch} {k : KC} {mo : Nat} {ad : Nat → Nat} (hl : l.stackTraces = false) (hM : HM mo ad) {M : MS} {p1 : Int32} {p2 : Int32}  : CM l k mo ad yX11_isIn (.code yX11_isIn cX11_isIn 4 (some .boolean)) rm_X11_isIn [.int p1, .int p2] M (some (.int (f_isIn p1 p2 M))) M := by
  refine MC.of 1 hl (by decide) (Nat.le_of_ble_eq_true rfl) ?_
  intro p e s m args below meth c A Q G B _ _
  show Wx p l e rm_X11_isIn s m args below meth c k A 4 Q 0 0 0 [some (.ref mo), some (.int p1), some (.int p2), none] [] (mW k mo ad M)
  refine x_ldcw (pc := 0) G q_cs_X11_338 dX11_isIn_0 ?_
  refine x_bipush (pc := 3) (v := 100) G dX11_isIn_3 bp_100 ?_
  refine x_iload1 (pc := 5) G dX11_isIn_5 ?_
  refine x_imul (pc := 6) G dX11_isIn_6 ?_
  refine x_iload2 (pc := 7) G dX11_isIn_7 ?_
  refine x_iadd (pc := 8) G dX11_isIn_8 ?_
  refine x_imul (pc := 9) G dX11_isIn_9 ?_
  refine x_aload0 (pc := 10) G dX11_isIn_10 ?_
  refine y_gI (pc := 11) (v := (mI M 64)) G g_330 mG_64 rfl dX11_isIn_11 ?_
  refine x_iadd (pc := 14) G dX11_isIn_14 ?_
  refine x_istore3 (pc := 15) G dX11_isIn_15 (Nat.le_of_ble_eq_true rfl) rfl ?_
  refine x_iload3 (pc := 16) G dX11_isIn_16 ?_
  refine x_bipush (pc := 17) (v := 16) G dX11_isIn_17 bp_16 ?_
  refine x_iushr (pc := 19) (v := ((((1103515245 * ((100 * p1) + p2)) + (mI M 64)).toUInt32 >>> ((16 : Int32).toUInt32 &&& Int32.toUInt32 31)).toInt32)) G dX11_isIn_19 rfl ?_
  refine x_bipush (pc := 20) (v := 100) G dX11_isIn_20 bp_100 ?_
  refine x_irem (pc := 22) G dX11_isIn_22 (by decide) ?_
  refine x_aload0 (pc := 23) G dX11_isIn_23 ?_
  refine y_gI (pc := 24) (v := (mI M 65)) G g_333 mG_65 rfl dX11_isIn_24 ?_
  refine x_icmp_ge (pc := 27) (tgt := 34) G dX11_isIn_27 rfl (fun c1 => ?_) (fun c1 => ?_)
  · refine x_iconst (pc := 34) (v := 0) G dX11_isIn_34 ic_0 ?_
    exact x_zret (pc := 35) G B rfl (by decide) dX11_isIn_35 ⟨by rw [f_isIn, if_pos c1], rfl⟩
  refine x_iconst (pc := 30) (v := 1) G dX11_isIn_30 ic_1 ?_
  refine x_goto (pc := 31) (tgt := 35) G dX11_isIn_31 rfl ?_
  exact x_zret (pc := 35) G B rfl (by decide) dX11_isIn_35 ⟨by rw [f_isIn, if_neg c1], rfl⟩
theorem dX11_isSampled_0 : decode cX11_isSampled 0 = .ok (.iload_n 1, 1) := by decide +kernel
theorem dX11_isSampled_1 : decode cX11_isSampled 1 = .ok (.iconst 0, 1) := by decide +kernel
theorem dX11_isSampled_2 : decode cX11_isSampled 2 = .ok (.iconst 2, 1) := by decide +kernel
theorem dX11_isSampled_3 : decode cX11_isSampled 3 = .ok (.invokestatic 181, 3) := by decide +kernel
theorem dX11_isSampled_6 : decode cX11_isSampled 6 = .ok (.istore_n 3, 1) := by decide +kernel
theorem dX11_isSampled_7 : decode cX11_isSampled 7 = .ok (.iload_n 1, 1) := by decide +kernel
theorem dX11_isSampled_8 : decode cX11_isSampled 8 = .ok (.ifCond .ne 10, 3) := by decide +kernel
theorem dX11_isSampled_11 : decode cX11_isSampled 11 = .ok (.aload_n 0, 1) := by decide +kernel
theorem dX11_isSampled_12 : decode cX11_isSampled 12 = .ok (.getfield 192, 3) := by decide +kernel
theorem dX11_isSampled_15 : decode cX11_isSampled 15 = .ok (.goto 19, 3) := by decide +kernel
theorem dX11_isSampled_18 : decode cX11_isSampled 18 = .ok (.iload_n 1, 1) := by decide +kernel
theorem dX11_isSampled_19 : decode cX11_isSampled 19 = .ok (.iconst 1, 1) := by decide +kernel
theorem dX11_isSampled_20 : decode cX11_isSampled 20 = .ok (.if_icmp .ne 10, 3) := by decide +kernel
theorem dX11_isSampled_23 : decode cX11_isSampled 23 = .ok (.aload_n 0, 1) := by decide +kernel
theorem dX11_isSampled_24 : decode cX11_isSampled 24 = .ok (.getfield 319, 3) := by decide +kernel
theorem dX11_isSampled_27 : decode cX11_isSampled 27 = .ok (.goto 7, 3) := by decide +kernel
theorem dX11_isSampled_30 : decode cX11_isSampled 30 = .ok (.aload_n 0, 1) := by decide +kernel
theorem dX11_isSampled_31 : decode cX11_isSampled 31 = .ok (.getfield 323, 3) := by decide +kernel
theorem dX11_isSampled_34 : decode cX11_isSampled 34 = .ok (.istore 4, 2) := by decide +kernel
theorem dX11_isSampled_36 : decode cX11_isSampled 36 = .ok (.aload_n 0, 1) := by decide +kernel
theorem dX11_isSampled_37 : decode cX11_isSampled 37 = .ok (.iload_n 3, 1) := by decide +kernel
theorem dX11_isSampled_38 : decode cX11_isSampled 38 = .ok (.ifCond .ne 7, 3) := by decide +kernel
theorem dX11_isSampled_41 : decode cX11_isSampled 41 = .ok (.iconst 1, 1) := by decide +kernel
theorem dX11_isSampled_42 : decode cX11_isSampled 42 = .ok (.goto 20, 3) := by decide +kernel
theorem dX11_isSampled_45 : decode cX11_isSampled 45 = .ok (.iload_n 2, 1) := by decide +kernel
theorem dX11_isSampled_46 : decode cX11_isSampled 46 = .ok (.iconst 0, 1) := by decide +kernel
theorem dX11_isSampled_47 : decode cX11_isSampled 47 = .ok (.iload 4, 2) := by decide +kernel
theorem dX11_isSampled_49 : decode cX11_isSampled 49 = .ok (.iconst 1, 1) := by decide +kernel
theorem dX11_isSampled_50 : decode cX11_isSampled 50 = .ok (.isub, 1) := by decide +kernel
theorem dX11_isSampled_51 : decode cX11_isSampled 51 = .ok (.invokestatic 181, 3) := by decide +kernel
theorem dX11_isSampled_54 : decode cX11_isSampled 54 = .ok (.ifCond .eq 7, 3) := by decide +kernel
theorem dX11_isSampled_57 : decode cX11_isSampled 57 = .ok (.iconst 0, 1) := by decide +kernel
theorem dX11_isSampled_58 : decode cX11_isSampled 58 = .ok (.goto 4, 3) := by decide +kernel
theorem dX11_isSampled_61 : decode cX11_isSampled 61 = .ok (.iconst 2, 1) := by decide +kernel
theorem dX11_isSampled_62 : decode cX11_isSampled 62 = .ok (.invokevirtual 210, 3) := by decide +kernel
theorem dX11_isSampled_65 : decode cX11_isSampled 65 = .ok (.ifCond .eq 16, 3) := by decide +kernel
theorem dX11_isSampled_68 : decode cX11_isSampled 68 = .ok (.aload_n 0, 1) := by decide +kernel
theorem dX11_isSampled_69 : decode cX11_isSampled 69 = .ok (.iload_n 1, 1) := by decide +kernel
theorem dX11_isSampled_70 : decode cX11_isSampled 70 = .ok (.iload_n 2, 1) := by decide +kernel
theorem dX11_isSampled_71 : decode cX11_isSampled 71 = .ok (.invokevirtual 339, 3) := by decide +kernel
theorem dX11_isSampled_74 : decode cX11_isSampled 74 = .ok (.ifCond .eq 7, 3) := by decide +kernel
theorem dX11_isSampled_77 : decode cX11_isSampled 77 = .ok (.iconst 1, 1) := by decide +kernel
theorem dX11_isSampled_78 : decode cX11_isSampled 78 = .ok (.goto 4, 3) := by decide +kernel
theorem dX11_isSampled_81 : decode cX11_isSampled 81 = .ok (.iconst 0, 1) := by decide +kernel
theorem dX11_isSampled_82 : decode cX11_isSampled 82 = .ok (.ireturn, 1) := by decide +kernel
def f_isSampled (p1 : Int32) (p2 : Int32) (M : MS) : Int32 × MS :=
    if P_in p1 0 2 then
      if p1 = 0 then
        if P_in p2 0 ((mI M 39) - 1) then
          if (f_isIn p1 p2 (sI M 0 0)) = 0 then
            (0, (sI M 0 0))
          else
          (1, (sI M 0 0))
        else
        (0, (sI M 0 2))
      else
      if p1 = 1 then
        if P_in p2 0 ((mI M 57) - 1) then
          if (f_isIn p1 p2 (sI M 0 0)) = 0 then
            (0, (sI M 0 0))
          else
          (1, (sI M 0 0))
        else
        (0, (sI M 0 2))
      else
      if P_in p2 0 ((mI M 59) - 1) then
        if (f_isIn p1 p2 (sI M 0 0)) = 0 then
          (0, (sI M 0 0))
        else
        (1, (sI M 0 0))
      else
      (0, (sI M 0 2))
    else
    if p1 = 0 then
      (0, (sI M 0 1))
    else
    if p1 = 1 then
      (0, (sI M 0 1))
    else
    (0, (sI M 0 1))
abbrev rm_X11_isSampled : Room := { frames := 1, cells := 0, slots := 0, locals := 23 }
set_option maxRecDepth 100000 in
set_option maxHeartbeats 4000000 in
theorem c_isSampled {l : Launch} {k : KC} {mo : Nat} {ad : Nat → Nat} (hl : l.stackTraces = false) (hM : HM mo ad) {M : MS} {p1 : Int32} {p2 : Int32}  : CM l k mo ad yX11_isSampled (.code yX11_isSampled cX11_isSampled 5 (some .boolean)) rm_X11_isSampled [.int p1, .int p2] M (some (.int (f_isSampled p1 p2 M).1)) (f_isSampled p1 p2 M).2 := by
  refine MC.of 2 hl (by decide) (Nat.le_of_ble_eq_true rfl) ?_
  intro p e s m args below meth c A Q G B _ _
  show Wx p l e rm_X11_isSampled s m args below meth c k A 5 Q 0 0 0 [some (.ref mo), some (.int p1), some (.int p2), none, none] [] (mW k mo ad M)
  refine x_iload1 (pc := 0) G dX11_isSampled_0 ?_
  refine x_iconst (pc := 1) (v := 0) G dX11_isSampled_1 ic_0 ?_
  refine x_iconst (pc := 2) (v := 2) G dX11_isSampled_2 ic_2 ?_
  refine x_cSb3 (pc := 3) G (b_in hl hM _) q_ml_X11_181 h_X11_in ⟨Nat.le_of_ble_eq_true rfl, Nat.le_of_ble_eq_true rfl⟩ (Nat.le_of_ble_eq_true rfl) (Nat.le_refl _) (Nat.le_refl _) dX11_isSampled_3 (fun c1 => ?_) (fun c1 => ?_)
  · refine x_istore3 (pc := 6) G dX11_isSampled_6 (Nat.le_of_ble_eq_true rfl) rfl ?_
    refine x_iload1 (pc := 7) G dX11_isSampled_7 ?_
    refine x_if_ne (pc := 8) (y := 0) (tgt := 18) G dX11_isSampled_8 rfl (fun c2 => ?_) (fun c2 => ?_)
    · refine x_iload1 (pc := 18) G dX11_isSampled_18 ?_
      refine x_iconst (pc := 19) (v := 1) G dX11_isSampled_19 ic_1 ?_
      refine x_icmp_ne (pc := 20) (tgt := 30) G dX11_isSampled_20 rfl (fun c3 => ?_) (fun c3 => ?_)
      · refine x_aload0 (pc := 30) G dX11_isSampled_30 ?_
        refine y_gI (pc := 31) (v := (mI M 59)) G g_323 mG_59 rfl dX11_isSampled_31 ?_
        refine x_istore4 (pc := 34) G dX11_isSampled_34 (Nat.le_of_ble_eq_true rfl) rfl ?_
        refine x_aload0 (pc := 36) G dX11_isSampled_36 ?_
        refine x_iload3 (pc := 37) G dX11_isSampled_37 ?_
        refine x_if_ne (pc := 38) (y := 0) (tgt := 45) G dX11_isSampled_38 rfl (fun _ => ?_) (fun q => absurd q (by decide))
        refine x_iload2 (pc := 45) G dX11_isSampled_45 ?_
        refine x_iconst (pc := 46) (v := 0) G dX11_isSampled_46 ic_0 ?_
        refine x_iload4 (pc := 47) G dX11_isSampled_47 ?_
        refine x_iconst (pc := 49) (v := 1) G dX11_isSampled_49 ic_1 ?_
        refine x_isub (pc := 50) G dX11_isSampled_50 ?_
        refine x_cSb3 (pc := 51) G (b_in hl hM _) q_ml_X11_181 h_X11_in ⟨Nat.le_of_ble_eq_true rfl, Nat.le_of_ble_eq_true rfl⟩ (Nat.le_of_ble_eq_true rfl) (Nat.le_refl _) (Nat.le_refl _) dX11_isSampled_51 (fun c4 => ?_) (fun c4 => ?_)
        · refine x_if_eq (pc := 54) (y := 0) (tgt := 61) G dX11_isSampled_54 rfl (fun q => absurd q (by decide)) (fun _ => ?_)
          refine x_iconst (pc := 57) (v := 0) G dX11_isSampled_57 ic_0 ?_
          refine x_goto (pc := 58) (tgt := 62) G dX11_isSampled_58 rfl ?_
          refine y_c1 (pc := 62) G (c_holds0 hl hM) q_ml_X11_210 h_X11_holds rfl ⟨Nat.le_of_ble_eq_true rfl, Nat.le_of_ble_eq_true rfl⟩ (Nat.le_of_ble_eq_true rfl) (Nat.le_refl _) (Nat.le_refl _) dX11_isSampled_62 ?_
          refine x_if_eq (pc := 65) (y := 0) (tgt := 81) G dX11_isSampled_65 rfl (fun q => absurd q (by decide)) (fun _ => ?_)
          refine x_aload0 (pc := 68) G dX11_isSampled_68 ?_
          refine x_iload1 (pc := 69) G dX11_isSampled_69 ?_
          refine x_iload2 (pc := 70) G dX11_isSampled_70 ?_
          refine y_c2 (pc := 71) G (c_isIn hl hM ) q_ml_X11_339 h_X11_isIn rfl ⟨Nat.le_of_ble_eq_true rfl, Nat.le_of_ble_eq_true rfl⟩ (Nat.le_of_ble_eq_true rfl) (Nat.le_refl _) (Nat.le_refl _) dX11_isSampled_71 ?_
          refine x_if_eq (pc := 74) (y := 0) (tgt := 81) G dX11_isSampled_74 rfl (fun c5 => ?_) (fun c5 => ?_)
          · refine x_iconst (pc := 81) (v := 0) G dX11_isSampled_81 ic_0 ?_
            exact x_zret (pc := 82) G B rfl (by decide) dX11_isSampled_82 ⟨by rw [f_isSampled, if_pos c1, if_neg c2, if_neg c3, if_pos c4, if_pos c5], by rw [f_isSampled, if_pos c1, if_neg c2, if_neg c3, if_pos c4, if_pos c5]⟩
          refine x_iconst (pc := 77) (v := 1) G dX11_isSampled_77 ic_1 ?_
          refine x_goto (pc := 78) (tgt := 82) G dX11_isSampled_78 rfl ?_
          exact x_zret (pc := 82) G B rfl (by decide) dX11_isSampled_82 ⟨by rw [f_isSampled, if_pos c1, if_neg c2, if_neg c3, if_pos c4, if_neg c5], by rw [f_isSampled, if_pos c1, if_neg c2, if_neg c3, if_pos c4, if_neg c5]⟩
        refine x_if_eq (pc := 54) (y := 0) (tgt := 61) G dX11_isSampled_54 rfl (fun _ => ?_) (fun q => absurd q (by decide))
        refine x_iconst (pc := 61) (v := 2) G dX11_isSampled_61 ic_2 ?_
        refine y_c1 (pc := 62) G (c_holdsN hl hM (by decide)) q_ml_X11_210 h_X11_holds rfl ⟨Nat.le_of_ble_eq_true rfl, Nat.le_of_ble_eq_true rfl⟩ (Nat.le_of_ble_eq_true rfl) (Nat.le_refl _) (Nat.le_refl _) dX11_isSampled_62 ?_
        refine x_if_eq (pc := 65) (y := 0) (tgt := 81) G dX11_isSampled_65 rfl (fun _ => ?_) (fun q => absurd q (by decide))
        refine x_iconst (pc := 81) (v := 0) G dX11_isSampled_81 ic_0 ?_
        exact x_zret (pc := 82) G B rfl (by decide) dX11_isSampled_82 ⟨by rw [f_isSampled, if_pos c1, if_neg c2, if_neg c3, if_neg c4], by rw [f_isSampled, if_pos c1, if_neg c2, if_neg c3, if_neg c4]⟩
      refine x_aload0 (pc := 23) G dX11_isSampled_23 ?_
      refine y_gI (pc := 24) (v := (mI M 57)) G g_319 mG_57 rfl dX11_isSampled_24 ?_
      refine x_goto (pc := 27) (tgt := 34) G dX11_isSampled_27 rfl ?_
      refine x_istore4 (pc := 34) G dX11_isSampled_34 (Nat.le_of_ble_eq_true rfl) rfl ?_
      refine x_aload0 (pc := 36) G dX11_isSampled_36 ?_
      refine x_iload3 (pc := 37) G dX11_isSampled_37 ?_
      refine x_if_ne (pc := 38) (y := 0) (tgt := 45) G dX11_isSampled_38 rfl (fun _ => ?_) (fun q => absurd q (by decide))
      refine x_iload2 (pc := 45) G dX11_isSampled_45 ?_
      refine x_iconst (pc := 46) (v := 0) G dX11_isSampled_46 ic_0 ?_
      refine x_iload4 (pc := 47) G dX11_isSampled_47 ?_
      refine x_iconst (pc := 49) (v := 1) G dX11_isSampled_49 ic_1 ?_
      refine x_isub (pc := 50) G dX11_isSampled_50 ?_
      refine x_cSb3 (pc := 51) G (b_in hl hM _) q_ml_X11_181 h_X11_in ⟨Nat.le_of_ble_eq_true rfl, Nat.le_of_ble_eq_true rfl⟩ (Nat.le_of_ble_eq_true rfl) (Nat.le_refl _) (Nat.le_refl _) dX11_isSampled_51 (fun c6 => ?_) (fun c6 => ?_)
      · refine x_if_eq (pc := 54) (y := 0) (tgt := 61) G dX11_isSampled_54 rfl (fun q => absurd q (by decide)) (fun _ => ?_)
        refine x_iconst (pc := 57) (v := 0) G dX11_isSampled_57 ic_0 ?_
        refine x_goto (pc := 58) (tgt := 62) G dX11_isSampled_58 rfl ?_
        refine y_c1 (pc := 62) G (c_holds0 hl hM) q_ml_X11_210 h_X11_holds rfl ⟨Nat.le_of_ble_eq_true rfl, Nat.le_of_ble_eq_true rfl⟩ (Nat.le_of_ble_eq_true rfl) (Nat.le_refl _) (Nat.le_refl _) dX11_isSampled_62 ?_
        refine x_if_eq (pc := 65) (y := 0) (tgt := 81) G dX11_isSampled_65 rfl (fun q => absurd q (by decide)) (fun _ => ?_)
        refine x_aload0 (pc := 68) G dX11_isSampled_68 ?_
        refine x_iload1 (pc := 69) G dX11_isSampled_69 ?_
        refine x_iload2 (pc := 70) G dX11_isSampled_70 ?_
        refine y_c2 (pc := 71) G (c_isIn hl hM ) q_ml_X11_339 h_X11_isIn rfl ⟨Nat.le_of_ble_eq_true rfl, Nat.le_of_ble_eq_true rfl⟩ (Nat.le_of_ble_eq_true rfl) (Nat.le_refl _) (Nat.le_refl _) dX11_isSampled_71 ?_
        refine x_if_eq (pc := 74) (y := 0) (tgt := 81) G dX11_isSampled_74 rfl (fun c7 => ?_) (fun c7 => ?_)
        · refine x_iconst (pc := 81) (v := 0) G dX11_isSampled_81 ic_0 ?_
          exact x_zret (pc := 82) G B rfl (by decide) dX11_isSampled_82 ⟨by rw [f_isSampled, if_pos c1, if_neg c2, if_pos c3, if_pos c6, if_pos c7], by rw [f_isSampled, if_pos c1, if_neg c2, if_pos c3, if_pos c6, if_pos c7]⟩
        refine x_iconst (pc := 77) (v := 1) G dX11_isSampled_77 ic_1 ?_
        refine x_goto (pc := 78) (tgt := 82) G dX11_isSampled_78 rfl ?_
        exact x_zret (pc := 82) G B rfl (by decide) dX11_isSampled_82 ⟨by rw [f_isSampled, if_pos c1, if_neg c2, if_pos c3, if_pos c6, if_neg c7], by rw [f_isSampled, if_pos c1, if_neg c2, if_pos c3, if_pos c6, if_neg c7]⟩
      refine x_if_eq (pc := 54) (y := 0) (tgt := 61) G dX11_isSampled_54 rfl (fun _ => ?_) (fun q => absurd q (by decide))
      refine x_iconst (pc := 61) (v := 2) G dX11_isSampled_61 ic_2 ?_
      refine y_c1 (pc := 62) G (c_holdsN hl hM (by decide)) q_ml_X11_210 h_X11_holds rfl ⟨Nat.le_of_ble_eq_true rfl, Nat.le_of_ble_eq_true rfl⟩ (Nat.le_of_ble_eq_true rfl) (Nat.le_refl _) (Nat.le_refl _) dX11_isSampled_62 ?_
      refine x_if_eq (pc := 65) (y := 0) (tgt := 81) G dX11_isSampled_65 rfl (fun _ => ?_) (fun q => absurd q (by decide))
      refine x_iconst (pc := 81) (v := 0) G dX11_isSampled_81 ic_0 ?_
      exact x_zret (pc := 82) G B rfl (by decide) dX11_isSampled_82 ⟨by rw [f_isSampled, if_pos c1, if_neg c2, if_pos c3, if_neg c6], by rw [f_isSampled, if_pos c1, if_neg c2, if_pos c3, if_neg c6]⟩
    refine x_aload0 (pc := 11) G dX11_isSampled_11 ?_
    refine y_gI (pc := 12) (v := (mI M 39)) G g_192 mG_39 rfl dX11_isSampled_12 ?_
    refine x_goto (pc := 15) (tgt := 34) G dX11_isSampled_15 rfl ?_
    refine x_istore4 (pc := 34) G dX11_isSampled_34 (Nat.le_of_ble_eq_true rfl) rfl ?_
    refine x_aload0 (pc := 36) G dX11_isSampled_36 ?_
    refine x_iload3 (pc := 37) G dX11_isSampled_37 ?_
    refine x_if_ne (pc := 38) (y := 0) (tgt := 45) G dX11_isSampled_38 rfl (fun _ => ?_) (fun q => absurd q (by decide))
    refine x_iload2 (pc := 45) G dX11_isSampled_45 ?_
    refine x_iconst (pc := 46) (v := 0) G dX11_isSampled_46 ic_0 ?_
    refine x_iload4 (pc := 47) G dX11_isSampled_47 ?_
    refine x_iconst (pc := 49) (v := 1) G dX11_isSampled_49 ic_1 ?_
    refine x_isub (pc := 50) G dX11_isSampled_50 ?_
    refine x_cSb3 (pc := 51) G (b_in hl hM _) q_ml_X11_181 h_X11_in ⟨Nat.le_of_ble_eq_true rfl, Nat.le_of_ble_eq_true rfl⟩ (Nat.le_of_ble_eq_true rfl) (Nat.le_refl _) (Nat.le_refl _) dX11_isSampled_51 (fun c8 => ?_) (fun c8 => ?_)
    · refine x_if_eq (pc := 54) (y := 0) (tgt := 61) G dX11_isSampled_54 rfl (fun q => absurd q (by decide)) (fun _ => ?_)
      refine x_iconst (pc := 57) (v := 0) G dX11_isSampled_57 ic_0 ?_
      refine x_goto (pc := 58) (tgt := 62) G dX11_isSampled_58 rfl ?_
      refine y_c1 (pc := 62) G (c_holds0 hl hM) q_ml_X11_210 h_X11_holds rfl ⟨Nat.le_of_ble_eq_true rfl, Nat.le_of_ble_eq_true rfl⟩ (Nat.le_of_ble_eq_true rfl) (Nat.le_refl _) (Nat.le_refl _) dX11_isSampled_62 ?_
      refine x_if_eq (pc := 65) (y := 0) (tgt := 81) G dX11_isSampled_65 rfl (fun q => absurd q (by decide)) (fun _ => ?_)
      refine x_aload0 (pc := 68) G dX11_isSampled_68 ?_
      refine x_iload1 (pc := 69) G dX11_isSampled_69 ?_
      refine x_iload2 (pc := 70) G dX11_isSampled_70 ?_
      refine y_c2 (pc := 71) G (c_isIn hl hM ) q_ml_X11_339 h_X11_isIn rfl ⟨Nat.le_of_ble_eq_true rfl, Nat.le_of_ble_eq_true rfl⟩ (Nat.le_of_ble_eq_true rfl) (Nat.le_refl _) (Nat.le_refl _) dX11_isSampled_71 ?_
      refine x_if_eq (pc := 74) (y := 0) (tgt := 81) G dX11_isSampled_74 rfl (fun c9 => ?_) (fun c9 => ?_)
      · refine x_iconst (pc := 81) (v := 0) G dX11_isSampled_81 ic_0 ?_
        exact x_zret (pc := 82) G B rfl (by decide) dX11_isSampled_82 ⟨by rw [f_isSampled, if_pos c1, if_pos c2, if_pos c8, if_pos c9], by rw [f_isSampled, if_pos c1, if_pos c2, if_pos c8, if_pos c9]⟩
      refine x_iconst (pc := 77) (v := 1) G dX11_isSampled_77 ic_1 ?_
      refine x_goto (pc := 78) (tgt := 82) G dX11_isSampled_78 rfl ?_
      exact x_zret (pc := 82) G B rfl (by decide) dX11_isSampled_82 ⟨by rw [f_isSampled, if_pos c1, if_pos c2, if_pos c8, if_neg c9], by rw [f_isSampled, if_pos c1, if_pos c2, if_pos c8, if_neg c9]⟩
    refine x_if_eq (pc := 54) (y := 0) (tgt := 61) G dX11_isSampled_54 rfl (fun _ => ?_) (fun q => absurd q (by decide))
    refine x_iconst (pc := 61) (v := 2) G dX11_isSampled_61 ic_2 ?_
    refine y_c1 (pc := 62) G (c_holdsN hl hM (by decide)) q_ml_X11_210 h_X11_holds rfl ⟨Nat.le_of_ble_eq_true rfl, Nat.le_of_ble_eq_true rfl⟩ (Nat.le_of_ble_eq_true rfl) (Nat.le_refl _) (Nat.le_refl _) dX11_isSampled_62 ?_
    refine x_if_eq (pc := 65) (y := 0) (tgt := 81) G dX11_isSampled_65 rfl (fun _ => ?_) (fun q => absurd q (by decide))
    refine x_iconst (pc := 81) (v := 0) G dX11_isSampled_81 ic_0 ?_
    exact x_zret (pc := 82) G B rfl (by decide) dX11_isSampled_82 ⟨by rw [f_isSampled, if_pos c1, if_pos c2, if_neg c8], by rw [f_isSampled, if_pos c1, if_pos c2, if_neg c8]⟩
  refine x_istore3 (pc := 6) G dX11_isSampled_6 (Nat.le_of_ble_eq_true rfl) rfl ?_
  refine x_iload1 (pc := 7) G dX11_isSampled_7 ?_
  refine x_if_ne (pc := 8) (y := 0) (tgt := 18) G dX11_isSampled_8 rfl (fun c10 => ?_) (fun c10 => ?_)
  · refine x_iload1 (pc := 18) G dX11_isSampled_18 ?_
    refine x_iconst (pc := 19) (v := 1) G dX11_isSampled_19 ic_1 ?_
    refine x_icmp_ne (pc := 20) (tgt := 30) G dX11_isSampled_20 rfl (fun c11 => ?_) (fun c11 => ?_)
    · refine x_aload0 (pc := 30) G dX11_isSampled_30 ?_
      refine y_gI (pc := 31) (v := (mI M 59)) G g_323 mG_59 rfl dX11_isSampled_31 ?_
      refine x_istore4 (pc := 34) G dX11_isSampled_34 (Nat.le_of_ble_eq_true rfl) rfl ?_
      refine x_aload0 (pc := 36) G dX11_isSampled_36 ?_
      refine x_iload3 (pc := 37) G dX11_isSampled_37 ?_
      refine x_if_ne (pc := 38) (y := 0) (tgt := 45) G dX11_isSampled_38 rfl (fun q => absurd q (by decide)) (fun _ => ?_)
      refine x_iconst (pc := 41) (v := 1) G dX11_isSampled_41 ic_1 ?_
      refine x_goto (pc := 42) (tgt := 62) G dX11_isSampled_42 rfl ?_
      refine y_c1 (pc := 62) G (c_holdsN hl hM (by decide)) q_ml_X11_210 h_X11_holds rfl ⟨Nat.le_of_ble_eq_true rfl, Nat.le_of_ble_eq_true rfl⟩ (Nat.le_of_ble_eq_true rfl) (Nat.le_refl _) (Nat.le_refl _) dX11_isSampled_62 ?_
      refine x_if_eq (pc := 65) (y := 0) (tgt := 81) G dX11_isSampled_65 rfl (fun _ => ?_) (fun q => absurd q (by decide))
      refine x_iconst (pc := 81) (v := 0) G dX11_isSampled_81 ic_0 ?_
      exact x_zret (pc := 82) G B rfl (by decide) dX11_isSampled_82 ⟨by rw [f_isSampled, if_neg c1, if_neg c10, if_neg c11], by rw [f_isSampled, if_neg c1, if_neg c10, if_neg c11]⟩
    refine x_aload0 (pc := 23) G dX11_isSampled_23 ?_
    refine y_gI (pc := 24) (v := (mI M 57)) G g_319 mG_57 rfl dX11_isSampled_24 ?_
    refine x_goto (pc := 27) (tgt := 34) G dX11_isSampled_27 rfl ?_
    refine x_istore4 (pc := 34) G dX11_isSampled_34 (Nat.le_of_ble_eq_true rfl) rfl ?_
    refine x_aload0 (pc := 36) G dX11_isSampled_36 ?_
    refine x_iload3 (pc := 37) G dX11_isSampled_37 ?_
    refine x_if_ne (pc := 38) (y := 0) (tgt := 45) G dX11_isSampled_38 rfl (fun q => absurd q (by decide)) (fun _ => ?_)
    refine x_iconst (pc := 41) (v := 1) G dX11_isSampled_41 ic_1 ?_
    refine x_goto (pc := 42) (tgt := 62) G dX11_isSampled_42 rfl ?_
    refine y_c1 (pc := 62) G (c_holdsN hl hM (by decide)) q_ml_X11_210 h_X11_holds rfl ⟨Nat.le_of_ble_eq_true rfl, Nat.le_of_ble_eq_true rfl⟩ (Nat.le_of_ble_eq_true rfl) (Nat.le_refl _) (Nat.le_refl _) dX11_isSampled_62 ?_
    refine x_if_eq (pc := 65) (y := 0) (tgt := 81) G dX11_isSampled_65 rfl (fun _ => ?_) (fun q => absurd q (by decide))
    refine x_iconst (pc := 81) (v := 0) G dX11_isSampled_81 ic_0 ?_
    exact x_zret (pc := 82) G B rfl (by decide) dX11_isSampled_82 ⟨by rw [f_isSampled, if_neg c1, if_neg c10, if_pos c11], by rw [f_isSampled, if_neg c1, if_neg c10, if_pos c11]⟩
  refine x_aload0 (pc := 11) G dX11_isSampled_11 ?_
  refine y_gI (pc := 12) (v := (mI M 39)) G g_192 mG_39 rfl dX11_isSampled_12 ?_
  refine x_goto (pc := 15) (tgt := 34) G dX11_isSampled_15 rfl ?_
  refine x_istore4 (pc := 34) G dX11_isSampled_34 (Nat.le_of_ble_eq_true rfl) rfl ?_
  refine x_aload0 (pc := 36) G dX11_isSampled_36 ?_
  refine x_iload3 (pc := 37) G dX11_isSampled_37 ?_
  refine x_if_ne (pc := 38) (y := 0) (tgt := 45) G dX11_isSampled_38 rfl (fun q => absurd q (by decide)) (fun _ => ?_)
  refine x_iconst (pc := 41) (v := 1) G dX11_isSampled_41 ic_1 ?_
  refine x_goto (pc := 42) (tgt := 62) G dX11_isSampled_42 rfl ?_
  refine y_c1 (pc := 62) G (c_holdsN hl hM (by decide)) q_ml_X11_210 h_X11_holds rfl ⟨Nat.le_of_ble_eq_true rfl, Nat.le_of_ble_eq_true rfl⟩ (Nat.le_of_ble_eq_true rfl) (Nat.le_refl _) (Nat.le_refl _) dX11_isSampled_62 ?_
  refine x_if_eq (pc := 65) (y := 0) (tgt := 81) G dX11_isSampled_65 rfl (fun _ => ?_) (fun q => absurd q (by decide))
  refine x_iconst (pc := 81) (v := 0) G dX11_isSampled_81 ic_0 ?_
  exact x_zret (pc := 82) G B rfl (by decide) dX11_isSampled_82 ⟨by rw [f_isSampled, if_neg c1, if_pos c10], by rw [f_isSampled, if_neg c1, if_pos c10]⟩
