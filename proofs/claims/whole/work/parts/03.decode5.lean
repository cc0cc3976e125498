theorem dX10_worked_139 : decode cX10_worked 139 = .ok (.invokevirtual 227, 3) := by decide +kernel
theorem dX10_worked_142 : decode cX10_worked 142 = .ok (.aload_n 0, 1) := by decide +kernel
theorem dX10_worked_143 : decode cX10_worked 143 = .ok (.getfield 84, 3) := by decide +kernel
theorem dX10_worked_146 : decode cX10_worked 146 = .ok (.iload_n 2, 1) := by decide +kernel
theorem dX10_worked_147 : decode cX10_worked 147 = .ok (.aload_n 0, 1) := by decide +kernel
theorem dX10_worked_148 : decode cX10_worked 148 = .ok (.getfield 90, 3) := by decide +kernel
theorem dX10_worked_151 : decode cX10_worked 151 = .ok (.iload_n 2, 1) := by decide +kernel
theorem dX10_worked_152 : decode cX10_worked 152 = .ok (.iaload, 1) := by decide +kernel
theorem dX10_worked_153 : decode cX10_worked 153 = .ok (.iastore, 1) := by decide +kernel
theorem dX10_worked_154 : decode cX10_worked 154 = .ok (.aload_n 0, 1) := by decide +kernel
theorem dX10_worked_155 : decode cX10_worked 155 = .ok (.getfield 87, 3) := by decide +kernel
theorem dX10_worked_158 : decode cX10_worked 158 = .ok (.iload_n 2, 1) := by decide +kernel
theorem dX10_worked_159 : decode cX10_worked 159 = .ok (.iload 4, 2) := by decide +kernel
theorem dX10_worked_161 : decode cX10_worked 161 = .ok (.iastore, 1) := by decide +kernel
theorem dX10_worked_162 : decode cX10_worked 162 = .ok (.aload_n 0, 1) := by decide +kernel
theorem dX10_worked_163 : decode cX10_worked 163 = .ok (.getfield 90, 3) := by decide +kernel
theorem dX10_worked_166 : decode cX10_worked 166 = .ok (.iload_n 2, 1) := by decide +kernel
theorem dX10_worked_167 : decode cX10_worked 167 = .ok (.iconst 0, 1) := by decide +kernel
theorem dX10_worked_168 : decode cX10_worked 168 = .ok (.iastore, 1) := by decide +kernel
theorem dX10_worked_169 : decode cX10_worked 169 = .ok (.aload_n 0, 1) := by decide +kernel
theorem dX10_worked_170 : decode cX10_worked 170 = .ok (.getfield 93, 3) := by decide +kernel
theorem dX10_worked_173 : decode cX10_worked 173 = .ok (.iload_n 2, 1) := by decide +kernel
theorem dX10_worked_174 : decode cX10_worked 174 = .ok (.bipush 20, 2) := by decide +kernel
theorem dX10_worked_176 : decode cX10_worked 176 = .ok (.iastore, 1) := by decide +kernel
theorem dX10_worked_177 : decode cX10_worked 177 = .ok (.goto 152, 3) := by decide +kernel
theorem dX10_worked_180 : decode cX10_worked 180 = .ok (.iload 4, 2) := by decide +kernel
theorem dX10_worked_182 : decode cX10_worked 182 = .ok (.bipush 26, 2) := by decide +kernel
theorem dX10_worked_184 : decode cX10_worked 184 = .ok (.if_icmp .eq 10, 3) := by decide +kernel
theorem dX10_worked_187 : decode cX10_worked 187 = .ok (.iload 4, 2) := by decide +kernel
theorem dX10_worked_189 : decode cX10_worked 189 = .ok (.bipush 27, 2) := by decide +kernel
theorem dX10_worked_191 : decode cX10_worked 191 = .ok (.if_icmp .ne 19, 3) := by decide +kernel
theorem dX10_worked_194 : decode cX10_worked 194 = .ok (.aload_n 0, 1) := by decide +kernel
theorem dX10_worked_195 : decode cX10_worked 195 = .ok (.iload_n 2, 1) := by decide +kernel
theorem dX10_worked_196 : decode cX10_worked 196 = .ok (.invokevirtual 233, 3) := by decide +kernel
theorem dX10_worked_199 : decode cX10_worked 199 = .ok (.aload_n 0, 1) := by decide +kernel
theorem dX10_worked_200 : decode cX10_worked 200 = .ok (.getfield 81, 3) := by decide +kernel
theorem dX10_worked_203 : decode cX10_worked 203 = .ok (.iload_n 2, 1) := by decide +kernel
theorem dX10_worked_204 : decode cX10_worked 204 = .ok (.iload 4, 2) := by decide +kernel
theorem dX10_worked_206 : decode cX10_worked 206 = .ok (.iastore, 1) := by decide +kernel
theorem dX10_worked_207 : decode cX10_worked 207 = .ok (.goto 122, 3) := by decide +kernel
theorem dX10_worked_210 : decode cX10_worked 210 = .ok (.iload 4, 2) := by decide +kernel
theorem dX10_worked_212 : decode cX10_worked 212 = .ok (.bipush 100, 2) := by decide +kernel
theorem dX10_worked_214 : decode cX10_worked 214 = .ok (.if_icmp .lt 11, 3) := by decide +kernel
theorem dX10_worked_217 : decode cX10_worked 217 = .ok (.iload 4, 2) := by decide +kernel
theorem dX10_worked_219 : decode cX10_worked 219 = .ok (.bipush 100, 2) := by decide +kernel
theorem dX10_worked_221 : decode cX10_worked 221 = .ok (.isub, 1) := by decide +kernel
theorem dX10_worked_222 : decode cX10_worked 222 = .ok (.goto 21, 3) := by decide +kernel
theorem dX10_worked_225 : decode cX10_worked 225 = .ok (.iload 4, 2) := by decide +kernel
theorem dX10_worked_227 : decode cX10_worked 227 = .ok (.bipush 20, 2) := by decide +kernel
theorem dX10_worked_229 : decode cX10_worked 229 = .ok (.if_icmp .ge 13, 3) := by decide +kernel
theorem dX10_worked_232 : decode cX10_worked 232 = .ok (.aload_n 0, 1) := by decide +kernel
theorem dX10_worked_233 : decode cX10_worked 233 = .ok (.getfield 105, 3) := by decide +kernel
theorem dX10_worked_236 : decode cX10_worked 236 = .ok (.iload 4, 2) := by decide +kernel
theorem dX10_worked_238 : decode cX10_worked 238 = .ok (.iaload, 1) := by decide +kernel
theorem dX10_worked_239 : decode cX10_worked 239 = .ok (.goto 4, 3) := by decide +kernel
theorem dX10_worked_242 : decode cX10_worked 242 = .ok (.iconst 0, 1) := by decide +kernel
theorem dX10_worked_243 : decode cX10_worked 243 = .ok (.istore 5, 2) := by decide +kernel
theorem dX10_worked_245 : decode cX10_worked 245 = .ok (.iload 4, 2) := by decide +kernel
theorem dX10_worked_247 : decode cX10_worked 247 = .ok (.bipush 29, 2) := by decide +kernel
theorem dX10_worked_249 : decode cX10_worked 249 = .ok (.if_icmp .ne 19, 3) := by decide +kernel
theorem dX10_worked_252 : decode cX10_worked 252 = .ok (.aload_n 0, 1) := by decide +kernel
theorem dX10_worked_253 : decode cX10_worked 253 = .ok (.iload_n 2, 1) := by decide +kernel
theorem dX10_worked_254 : decode cX10_worked 254 = .ok (.invokevirtual 233, 3) := by decide +kernel
theorem dX10_worked_257 : decode cX10_worked 257 = .ok (.aload_n 0, 1) := by decide +kernel
theorem dX10_worked_258 : decode cX10_worked 258 = .ok (.getfield 78, 3) := by decide +kernel
theorem dX10_worked_261 : decode cX10_worked 261 = .ok (.iload_n 2, 1) := by decide +kernel
theorem dX10_worked_262 : decode cX10_worked 262 = .ok (.iaload, 1) := by decide +kernel
theorem dX10_worked_263 : decode cX10_worked 263 = .ok (.istore 5, 2) := by decide +kernel
theorem dX10_worked_265 : decode cX10_worked 265 = .ok (.iinc 2 (-1), 3) := by decide +kernel
theorem dX10_worked_268 : decode cX10_worked 268 = .ok (.iload_n 2, 1) := by decide +kernel
theorem dX10_worked_269 : decode cX10_worked 269 = .ok (.ifCond .le 31, 3) := by decide +kernel
theorem dX10_worked_272 : decode cX10_worked 272 = .ok (.aload_n 0, 1) := by decide +kernel
theorem dX10_worked_273 : decode cX10_worked 273 = .ok (.getfield 102, 3) := by decide +kernel
theorem dX10_worked_276 : decode cX10_worked 276 = .ok (.iload_n 2, 1) := by decide +kernel
theorem dX10_worked_277 : decode cX10_worked 277 = .ok (.iaload, 1) := by decide +kernel
theorem dX10_worked_278 : decode cX10_worked 278 = .ok (.iconst 1, 1) := by decide +kernel
theorem dX10_worked_279 : decode cX10_worked 279 = .ok (.if_icmp .ne 21, 3) := by decide +kernel
theorem dX10_worked_282 : decode cX10_worked 282 = .ok (.iload 5, 2) := by decide +kernel
theorem dX10_worked_284 : decode cX10_worked 284 = .ok (.ifCond .ne 7, 3) := by decide +kernel
theorem dX10_worked_287 : decode cX10_worked 287 = .ok (.iconst 1, 1) := by decide +kernel
theorem dX10_worked_288 : decode cX10_worked 288 = .ok (.goto 4, 3) := by decide +kernel
theorem dX10_worked_291 : decode cX10_worked 291 = .ok (.iconst 0, 1) := by decide +kernel
theorem dX10_worked_292 : decode cX10_worked 292 = .ok (.istore 5, 2) := by decide +kernel
theorem dX10_worked_294 : decode cX10_worked 294 = .ok (.iinc 2 (-1), 3) := by decide +kernel
theorem dX10_worked_297 : decode cX10_worked 297 = .ok (.goto (-29), 3) := by decide +kernel
theorem dX10_worked_300 : decode cX10_worked 300 = .ok (.aload_n 0, 1) := by decide +kernel
theorem dX10_worked_301 : decode cX10_worked 301 = .ok (.getfield 96, 3) := by decide +kernel
theorem dX10_worked_304 : decode cX10_worked 304 = .ok (.iload_n 2, 1) := by decide +kernel
theorem dX10_worked_305 : decode cX10_worked 305 = .ok (.aload_n 0, 1) := by decide +kernel
theorem dX10_worked_306 : decode cX10_worked 306 = .ok (.getfield 99, 3) := by decide +kernel
theorem dX10_worked_309 : decode cX10_worked 309 = .ok (.iload_n 2, 1) := by decide +kernel
theorem dX10_worked_310 : decode cX10_worked 310 = .ok (.iaload, 1) := by decide +kernel
theorem dX10_worked_311 : decode cX10_worked 311 = .ok (.ifCond .ne 8, 3) := by decide +kernel
theorem dX10_worked_314 : decode cX10_worked 314 = .ok (.iload 5, 2) := by decide +kernel
theorem dX10_worked_316 : decode cX10_worked 316 = .ok (.goto 12, 3) := by decide +kernel
theorem dX10_worked_319 : decode cX10_worked 319 = .ok (.aload_n 0, 1) := by decide +kernel
theorem dX10_worked_320 : decode cX10_worked 320 = .ok (.getfield 96, 3) := by decide +kernel
theorem dX10_worked_323 : decode cX10_worked 323 = .ok (.iload_n 2, 1) := by decide +kernel
theorem dX10_worked_324 : decode cX10_worked 324 = .ok (.iaload, 1) := by decide +kernel
theorem dX10_worked_325 : decode cX10_worked 325 = .ok (.iload 5, 2) := by decide +kernel
theorem dX10_worked_327 : decode cX10_worked 327 = .ok (.imul, 1) := by decide +kernel
theorem dX10_worked_328 : decode cX10_worked 328 = .ok (.iastore, 1) := by decide +kernel
theorem dX10_worked_329 : decode cX10_worked 329 = .ok (.iinc 3 1, 3) := by decide +kernel
theorem dX10_worked_332 : decode cX10_worked 332 = .ok (.goto (-318), 3) := by decide +kernel
theorem dX10_worked_335 : decode cX10_worked 335 = .ok (.aload_n 0, 1) := by decide +kernel
theorem dX10_worked_336 : decode cX10_worked 336 = .ok (.iconst 0, 1) := by decide +kernel
theorem dX10_worked_337 : decode cX10_worked 337 = .ok (.invokevirtual 233, 3) := by decide +kernel
theorem dX10_worked_340 : decode cX10_worked 340 = .ok (.aload_n 0, 1) := by decide +kernel
theorem dX10_worked_341 : decode cX10_worked 341 = .ok (.getfield 78, 3) := by decide +kernel
theorem dX10_worked_344 : decode cX10_worked 344 = .ok (.iconst 0, 1) := by decide +kernel
theorem dX10_worked_345 : decode cX10_worked 345 = .ok (.iaload, 1) := by decide +kernel
theorem dX10_worked_346 : decode cX10_worked 346 = .ok (.ireturn, 1) := by decide +kernel
theorem dX10_isKept_0 : decode cX10_isKept 0 = .ok (.aload_n 0, 1) := by decide +kernel
theorem dX10_isKept_1 : decode cX10_isKept 1 = .ok (.getfield 160, 3) := by decide +kernel
theorem dX10_isKept_4 : decode cX10_isKept 4 = .ok (.iconst 1, 1) := by decide +kernel
theorem dX10_isKept_5 : decode cX10_isKept 5 = .ok (.if_icmp .eq 5, 3) := by decide +kernel
theorem dX10_isKept_8 : decode cX10_isKept 8 = .ok (.iconst 1, 1) := by decide +kernel
theorem dX10_isKept_9 : decode cX10_isKept 9 = .ok (.ireturn, 1) := by decide +kernel
theorem dX10_isKept_10 : decode cX10_isKept 10 = .ok (.aload_n 0, 1) := by decide +kernel
theorem dX10_isKept_11 : decode cX10_isKept 11 = .ok (.getfield 153, 3) := by decide +kernel
theorem dX10_isKept_14 : decode cX10_isKept 14 = .ok (.ldc2_w 236, 3) := by decide +kernel
theorem dX10_isKept_17 : decode cX10_isKept 17 = .ok (.lcmp, 1) := by decide +kernel
theorem dX10_isKept_18 : decode cX10_isKept 18 = .ok (.ifCond .eq 179, 3) := by decide +kernel
theorem dX10_isKept_21 : decode cX10_isKept 21 = .ok (.aload_n 0, 1) := by decide +kernel
theorem dX10_isKept_22 : decode cX10_isKept 22 = .ok (.getfield 153, 3) := by decide +kernel
theorem dX10_isKept_25 : decode cX10_isKept 25 = .ok (.ldc2_w 189, 3) := by decide +kernel
theorem dX10_isKept_28 : decode cX10_isKept 28 = .ok (.lcmp, 1) := by decide +kernel
theorem dX10_isKept_29 : decode cX10_isKept 29 = .ok (.ifCond .eq 168, 3) := by decide +kernel
theorem dX10_isKept_32 : decode cX10_isKept 32 = .ok (.aload_n 0, 1) := by decide +kernel
theorem dX10_isKept_33 : decode cX10_isKept 33 = .ok (.getfield 153, 3) := by decide +kernel
theorem dX10_isKept_36 : decode cX10_isKept 36 = .ok (.ldc2_w 197, 3) := by decide +kernel
theorem dX10_isKept_39 : decode cX10_isKept 39 = .ok (.lcmp, 1) := by decide +kernel
theorem dX10_isKept_40 : decode cX10_isKept 40 = .ok (.ifCond .eq 157, 3) := by decide +kernel
theorem dX10_isKept_43 : decode cX10_isKept 43 = .ok (.aload_n 0, 1) := by decide +kernel
theorem dX10_isKept_44 : decode cX10_isKept 44 = .ok (.getfield 153, 3) := by decide +kernel
theorem dX10_isKept_47 : decode cX10_isKept 47 = .ok (.ldc2_w 238, 3) := by decide +kernel
theorem dX10_isKept_50 : decode cX10_isKept 50 = .ok (.lcmp, 1) := by decide +kernel
theorem dX10_isKept_51 : decode cX10_isKept 51 = .ok (.ifCond .eq 146, 3) := by decide +kernel
theorem dX10_isKept_54 : decode cX10_isKept 54 = .ok (.aload_n 0, 1) := by decide +kernel
theorem dX10_isKept_55 : decode cX10_isKept 55 = .ok (.getfield 153, 3) := by decide +kernel
theorem dX10_isKept_58 : decode cX10_isKept 58 = .ok (.ldc2_w 183, 3) := by decide +kernel
theorem dX10_isKept_61 : decode cX10_isKept 61 = .ok (.lcmp, 1) := by decide +kernel
theorem dX10_isKept_62 : decode cX10_isKept 62 = .ok (.ifCond .eq 135, 3) := by decide +kernel
theorem dX10_isKept_65 : decode cX10_isKept 65 = .ok (.aload_n 0, 1) := by decide +kernel
theorem dX10_isKept_66 : decode cX10_isKept 66 = .ok (.getfield 153, 3) := by decide +kernel
theorem dX10_isKept_69 : decode cX10_isKept 69 = .ok (.ldc2_w 240, 3) := by decide +kernel
theorem dX10_isKept_72 : decode cX10_isKept 72 = .ok (.lcmp, 1) := by decide +kernel
theorem dX10_isKept_73 : decode cX10_isKept 73 = .ok (.ifCond .eq 124, 3) := by decide +kernel
theorem dX10_isKept_76 : decode cX10_isKept 76 = .ok (.aload_n 0, 1) := by decide +kernel
theorem dX10_isKept_77 : decode cX10_isKept 77 = .ok (.getfield 153, 3) := by decide +kernel
theorem dX10_isKept_80 : decode cX10_isKept 80 = .ok (.ldc2_w 242, 3) := by decide +kernel
theorem dX10_isKept_83 : decode cX10_isKept 83 = .ok (.lcmp, 1) := by decide +kernel
theorem dX10_isKept_84 : decode cX10_isKept 84 = .ok (.ifCond .eq 113, 3) := by decide +kernel
theorem dX10_isKept_87 : decode cX10_isKept 87 = .ok (.aload_n 0, 1) := by decide +kernel
theorem dX10_isKept_88 : decode cX10_isKept 88 = .ok (.getfield 153, 3) := by decide +kernel
theorem dX10_isKept_91 : decode cX10_isKept 91 = .ok (.ldc2_w 244, 3) := by decide +kernel
theorem dX10_isKept_94 : decode cX10_isKept 94 = .ok (.lcmp, 1) := by decide +kernel
theorem dX10_isKept_95 : decode cX10_isKept 95 = .ok (.ifCond .eq 102, 3) := by decide +kernel
theorem dX10_isKept_98 : decode cX10_isKept 98 = .ok (.aload_n 0, 1) := by decide +kernel
theorem dX10_isKept_99 : decode cX10_isKept 99 = .ok (.getfield 153, 3) := by decide +kernel
theorem dX10_isKept_102 : decode cX10_isKept 102 = .ok (.ldc2_w 246, 3) := by decide +kernel
theorem dX10_isKept_105 : decode cX10_isKept 105 = .ok (.lcmp, 1) := by decide +kernel
theorem dX10_isKept_106 : decode cX10_isKept 106 = .ok (.ifCond .eq 91, 3) := by decide +kernel
theorem dX10_isKept_109 : decode cX10_isKept 109 = .ok (.aload_n 0, 1) := by decide +kernel
theorem dX10_isKept_110 : decode cX10_isKept 110 = .ok (.getfield 153, 3) := by decide +kernel
theorem dX10_isKept_113 : decode cX10_isKept 113 = .ok (.ldc2_w 248, 3) := by decide +kernel
theorem dX10_isKept_116 : decode cX10_isKept 116 = .ok (.lcmp, 1) := by decide +kernel
theorem dX10_isKept_117 : decode cX10_isKept 117 = .ok (.ifCond .eq 80, 3) := by decide +kernel
theorem dX10_isKept_120 : decode cX10_isKept 120 = .ok (.aload_n 0, 1) := by decide +kernel
theorem dX10_isKept_121 : decode cX10_isKept 121 = .ok (.getfield 153, 3) := by decide +kernel
theorem dX10_isKept_124 : decode cX10_isKept 124 = .ok (.ldc2_w 250, 3) := by decide +kernel
theorem dX10_isKept_127 : decode cX10_isKept 127 = .ok (.lcmp, 1) := by decide +kernel
theorem dX10_isKept_128 : decode cX10_isKept 128 = .ok (.ifCond .eq 69, 3) := by decide +kernel
theorem dX10_isKept_131 : decode cX10_isKept 131 = .ok (.aload_n 0, 1) := by decide +kernel
theorem dX10_isKept_132 : decode cX10_isKept 132 = .ok (.getfield 153, 3) := by decide +kernel
theorem dX10_isKept_135 : decode cX10_isKept 135 = .ok (.ldc2_w 185, 3) := by decide +kernel
theorem dX10_isKept_138 : decode cX10_isKept 138 = .ok (.lcmp, 1) := by decide +kernel
theorem dX10_isKept_139 : decode cX10_isKept 139 = .ok (.ifCond .eq 58, 3) := by decide +kernel
theorem dX10_isKept_142 : decode cX10_isKept 142 = .ok (.aload_n 0, 1) := by decide +kernel
theorem dX10_isKept_143 : decode cX10_isKept 143 = .ok (.getfield 153, 3) := by decide +kernel
theorem dX10_isKept_146 : decode cX10_isKept 146 = .ok (.ldc2_w 252, 3) := by decide +kernel
theorem dX10_isKept_149 : decode cX10_isKept 149 = .ok (.lcmp, 1) := by decide +kernel
theorem dX10_isKept_150 : decode cX10_isKept 150 = .ok (.ifCond .eq 47, 3) := by decide +kernel
theorem dX10_isKept_153 : decode cX10_isKept 153 = .ok (.aload_n 0, 1) := by decide +kernel
theorem dX10_isKept_154 : decode cX10_isKept 154 = .ok (.getfield 153, 3) := by decide +kernel
theorem dX10_isKept_157 : decode cX10_isKept 157 = .ok (.ldc2_w 254, 3) := by decide +kernel
theorem dX10_isKept_160 : decode cX10_isKept 160 = .ok (.lcmp, 1) := by decide +kernel
theorem dX10_isKept_161 : decode cX10_isKept 161 = .ok (.ifCond .eq 36, 3) := by decide +kernel
theorem dX10_isKept_164 : decode cX10_isKept 164 = .ok (.aload_n 0, 1) := by decide +kernel
theorem dX10_isKept_165 : decode cX10_isKept 165 = .ok (.getfield 153, 3) := by decide +kernel
theorem dX10_isKept_168 : decode cX10_isKept 168 = .ok (.ldc2_w 203, 3) := by decide +kernel
theorem dX10_isKept_171 : decode cX10_isKept 171 = .ok (.lcmp, 1) := by decide +kernel
theorem dX10_isKept_172 : decode cX10_isKept 172 = .ok (.ifCond .eq 25, 3) := by decide +kernel
theorem dX10_isKept_175 : decode cX10_isKept 175 = .ok (.aload_n 0, 1) := by decide +kernel
theorem dX10_isKept_176 : decode cX10_isKept 176 = .ok (.getfield 153, 3) := by decide +kernel
theorem dX10_isKept_179 : decode cX10_isKept 179 = .ok (.ldc2_w 223, 3) := by decide +kernel
theorem dX10_isKept_182 : decode cX10_isKept 182 = .ok (.lcmp, 1) := by decide +kernel
theorem dX10_isKept_183 : decode cX10_isKept 183 = .ok (.ifCond .eq 14, 3) := by decide +kernel
theorem dX10_isKept_186 : decode cX10_isKept 186 = .ok (.aload_n 0, 1) := by decide +kernel
theorem dX10_isKept_187 : decode cX10_isKept 187 = .ok (.getfield 153, 3) := by decide +kernel
theorem dX10_isKept_190 : decode cX10_isKept 190 = .ok (.ldc2_w 225, 3) := by decide +kernel
theorem dX10_isKept_193 : decode cX10_isKept 193 = .ok (.lcmp, 1) := by decide +kernel
theorem dX10_isKept_194 : decode cX10_isKept 194 = .ok (.ifCond .ne 7, 3) := by decide +kernel
theorem dX10_isKept_197 : decode cX10_isKept 197 = .ok (.iconst 1, 1) := by decide +kernel
theorem dX10_isKept_198 : decode cX10_isKept 198 = .ok (.goto 4, 3) := by decide +kernel
theorem dX10_isKept_201 : decode cX10_isKept 201 = .ok (.iconst 0, 1) := by decide +kernel
theorem dX10_isKept_202 : decode cX10_isKept 202 = .ok (.ireturn, 1) := by decide +kernel
theorem dX10_cellNamed_0 : decode cX10_cellNamed 0 = .ok (.iconst 0, 1) := by decide +kernel
theorem dX10_cellNamed_1 : decode cX10_cellNamed 1 = .ok (.istore_n 1, 1) := by decide +kernel
theorem dX10_cellNamed_2 : decode cX10_cellNamed 2 = .ok (.iload_n 1, 1) := by decide +kernel
theorem dX10_cellNamed_3 : decode cX10_cellNamed 3 = .ok (.aload_n 0, 1) := by decide +kernel
theorem dX10_cellNamed_4 : decode cX10_cellNamed 4 = .ok (.getfield 13, 3) := by decide +kernel
theorem dX10_cellNamed_7 : decode cX10_cellNamed 7 = .ok (.iconst 1, 1) := by decide +kernel
theorem dX10_cellNamed_8 : decode cX10_cellNamed 8 = .ok (.iaload, 1) := by decide +kernel
theorem dX10_cellNamed_9 : decode cX10_cellNamed 9 = .ok (.if_icmp .ge 25, 3) := by decide +kernel
theorem dX10_cellNamed_12 : decode cX10_cellNamed 12 = .ok (.aload_n 0, 1) := by decide +kernel
theorem dX10_cellNamed_13 : decode cX10_cellNamed 13 = .ok (.getfield 28, 3) := by decide +kernel
theorem dX10_cellNamed_16 : decode cX10_cellNamed 16 = .ok (.iload_n 1, 1) := by decide +kernel
theorem dX10_cellNamed_17 : decode cX10_cellNamed 17 = .ok (.laload, 1) := by decide +kernel
theorem dX10_cellNamed_18 : decode cX10_cellNamed 18 = .ok (.aload_n 0, 1) := by decide +kernel
theorem dX10_cellNamed_19 : decode cX10_cellNamed 19 = .ok (.getfield 153, 3) := by decide +kernel
theorem dX10_cellNamed_22 : decode cX10_cellNamed 22 = .ok (.lcmp, 1) := by decide +kernel
theorem dX10_cellNamed_23 : decode cX10_cellNamed 23 = .ok (.ifCond .ne 5, 3) := by decide +kernel
theorem dX10_cellNamed_26 : decode cX10_cellNamed 26 = .ok (.iload_n 1, 1) := by decide +kernel
theorem dX10_cellNamed_27 : decode cX10_cellNamed 27 = .ok (.ireturn, 1) := by decide +kernel
theorem dX10_cellNamed_28 : decode cX10_cellNamed 28 = .ok (.iinc 1 1, 3) := by decide +kernel
theorem dX10_cellNamed_31 : decode cX10_cellNamed 31 = .ok (.goto (-29), 3) := by decide +kernel
theorem dX10_cellNamed_34 : decode cX10_cellNamed 34 = .ok (.iconst (-1), 1) := by decide +kernel
theorem dX10_cellNamed_35 : decode cX10_cellNamed 35 = .ok (.ireturn, 1) := by decide +kernel
theorem dX10_isNew_0 : decode cX10_isNew 0 = .ok (.aload_n 0, 1) := by decide +kernel
theorem dX10_isNew_1 : decode cX10_isNew 1 = .ok (.invokevirtual 256, 3) := by decide +kernel
theorem dX10_isNew_4 : decode cX10_isNew 4 = .ok (.ifCond .eq 9, 3) := by decide +kernel
theorem dX10_isNew_7 : decode cX10_isNew 7 = .ok (.aload_n 0, 1) := by decide +kernel
theorem dX10_isNew_8 : decode cX10_isNew 8 = .ok (.iconst 1, 1) := by decide +kernel
theorem dX10_isNew_9 : decode cX10_isNew 9 = .ok (.invokevirtual 213, 3) := by decide +kernel
theorem dX10_isNew_12 : decode cX10_isNew 12 = .ok (.ireturn, 1) := by decide +kernel
theorem dX10_isNew_13 : decode cX10_isNew 13 = .ok (.aload_n 0, 1) := by decide +kernel
theorem dX10_isNew_14 : decode cX10_isNew 14 = .ok (.invokevirtual 260, 3) := by decide +kernel
theorem dX10_isNew_17 : decode cX10_isNew 17 = .ok (.ifCond .ge 7, 3) := by decide +kernel
theorem dX10_isNew_20 : decode cX10_isNew 20 = .ok (.iconst 1, 1) := by decide +kernel
theorem dX10_isNew_21 : decode cX10_isNew 21 = .ok (.goto 4, 3) := by decide +kernel
theorem dX10_isNew_24 : decode cX10_isNew 24 = .ok (.iconst 0, 1) := by decide +kernel
theorem dX10_isNew_25 : decode cX10_isNew 25 = .ok (.istore_n 1, 1) := by decide +kernel
theorem dX10_isNew_26 : decode cX10_isNew 26 = .ok (.iconst 0, 1) := by decide +kernel
theorem dX10_isNew_27 : decode cX10_isNew 27 = .ok (.istore_n 2, 1) := by decide +kernel
theorem dX10_isNew_28 : decode cX10_isNew 28 = .ok (.iload_n 2, 1) := by decide +kernel
theorem dX10_isNew_29 : decode cX10_isNew 29 = .ok (.aload_n 0, 1) := by decide +kernel
theorem dX10_isNew_30 : decode cX10_isNew 30 = .ok (.getfield 19, 3) := by decide +kernel
theorem dX10_isNew_33 : decode cX10_isNew 33 = .ok (.iconst 1, 1) := by decide +kernel
theorem dX10_isNew_34 : decode cX10_isNew 34 = .ok (.iaload, 1) := by decide +kernel
theorem dX10_isNew_35 : decode cX10_isNew 35 = .ok (.if_icmp .ge 33, 3) := by decide +kernel
theorem dX10_isNew_38 : decode cX10_isNew 38 = .ok (.iload_n 1, 1) := by decide +kernel
theorem dX10_isNew_39 : decode cX10_isNew 39 = .ok (.ifCond .eq 21, 3) := by decide +kernel
theorem dX10_isNew_42 : decode cX10_isNew 42 = .ok (.aload_n 0, 1) := by decide +kernel
theorem dX10_isNew_43 : decode cX10_isNew 43 = .ok (.getfield 32, 3) := by decide +kernel
theorem dX10_isNew_46 : decode cX10_isNew 46 = .ok (.iload_n 2, 1) := by decide +kernel
theorem dX10_isNew_47 : decode cX10_isNew 47 = .ok (.laload, 1) := by decide +kernel
theorem dX10_isNew_48 : decode cX10_isNew 48 = .ok (.aload_n 0, 1) := by decide +kernel
theorem dX10_isNew_49 : decode cX10_isNew 49 = .ok (.getfield 153, 3) := by decide +kernel
theorem dX10_isNew_52 : decode cX10_isNew 52 = .ok (.lcmp, 1) := by decide +kernel
theorem dX10_isNew_53 : decode cX10_isNew 53 = .ok (.ifCond .eq 7, 3) := by decide +kernel
theorem dX10_isNew_56 : decode cX10_isNew 56 = .ok (.iconst 1, 1) := by decide +kernel
theorem dX10_isNew_57 : decode cX10_isNew 57 = .ok (.goto 4, 3) := by decide +kernel
theorem dX10_isNew_60 : decode cX10_isNew 60 = .ok (.iconst 0, 1) := by decide +kernel
theorem dX10_isNew_61 : decode cX10_isNew 61 = .ok (.istore_n 1, 1) := by decide +kernel
theorem dX10_isNew_62 : decode cX10_isNew 62 = .ok (.iinc 2 1, 3) := by decide +kernel
theorem dX10_isNew_65 : decode cX10_isNew 65 = .ok (.goto (-37), 3) := by decide +kernel
theorem dX10_isNew_68 : decode cX10_isNew 68 = .ok (.iload_n 1, 1) := by decide +kernel
theorem dX10_isNew_69 : decode cX10_isNew 69 = .ok (.ifCond .ne 11, 3) := by decide +kernel
theorem dX10_isNew_72 : decode cX10_isNew 72 = .ok (.aload_n 0, 1) := by decide +kernel
theorem dX10_isNew_73 : decode cX10_isNew 73 = .ok (.iconst 3, 1) := by decide +kernel
theorem dX10_isNew_74 : decode cX10_isNew 74 = .ok (.invokevirtual 213, 3) := by decide +kernel
theorem dX10_isNew_77 : decode cX10_isNew 77 = .ok (.ifCond .eq 7, 3) := by decide +kernel
theorem dX10_isNew_80 : decode cX10_isNew 80 = .ok (.iconst 1, 1) := by decide +kernel
theorem dX10_isNew_81 : decode cX10_isNew 81 = .ok (.goto 4, 3) := by decide +kernel
theorem dX10_isNew_84 : decode cX10_isNew 84 = .ok (.iconst 0, 1) := by decide +kernel
theorem dX10_isNew_85 : decode cX10_isNew 85 = .ok (.ireturn, 1) := by decide +kernel
theorem dX10_needsNumber_0 : decode cX10_needsNumber 0 = .ok (.aload_n 0, 1) := by decide +kernel
theorem dX10_needsNumber_1 : decode cX10_needsNumber 1 = .ok (.getfield 160, 3) := by decide +kernel
theorem dX10_needsNumber_4 : decode cX10_needsNumber 4 = .ok (.iconst 2, 1) := by decide +kernel
theorem dX10_needsNumber_5 : decode cX10_needsNumber 5 = .ok (.if_icmp .eq 9, 3) := by decide +kernel
theorem dX10_needsNumber_8 : decode cX10_needsNumber 8 = .ok (.aload_n 0, 1) := by decide +kernel
theorem dX10_needsNumber_9 : decode cX10_needsNumber 9 = .ok (.iconst 1, 1) := by decide +kernel
theorem dX10_needsNumber_10 : decode cX10_needsNumber 10 = .ok (.invokevirtual 213, 3) := by decide +kernel
theorem dX10_needsNumber_13 : decode cX10_needsNumber 13 = .ok (.ireturn, 1) := by decide +kernel
theorem dX10_needsNumber_14 : decode cX10_needsNumber 14 = .ok (.aload_n 0, 1) := by decide +kernel
theorem dX10_needsNumber_15 : decode cX10_needsNumber 15 = .ok (.getfield 157, 3) := by decide +kernel
theorem dX10_needsNumber_18 : decode cX10_needsNumber 18 = .ok (.iload_n 1, 1) := by decide +kernel
theorem dX10_needsNumber_19 : decode cX10_needsNumber 19 = .ok (.iload_n 2, 1) := by decide +kernel
theorem dX10_needsNumber_20 : decode cX10_needsNumber 20 = .ok (.invokestatic 263, 3) := by decide +kernel
theorem dX10_needsNumber_23 : decode cX10_needsNumber 23 = .ok (.ifCond .ne 9, 3) := by decide +kernel
theorem dX10_needsNumber_26 : decode cX10_needsNumber 26 = .ok (.aload_n 0, 1) := by decide +kernel
theorem dX10_needsNumber_27 : decode cX10_needsNumber 27 = .ok (.iconst 4, 1) := by decide +kernel
theorem dX10_needsNumber_28 : decode cX10_needsNumber 28 = .ok (.invokevirtual 213, 3) := by decide +kernel
theorem dX10_needsNumber_31 : decode cX10_needsNumber 31 = .ok (.ireturn, 1) := by decide +kernel
theorem dX10_needsNumber_32 : decode cX10_needsNumber 32 = .ok (.aload_n 0, 1) := by decide +kernel
theorem dX10_needsNumber_33 : decode cX10_needsNumber 33 = .ok (.aload_n 0, 1) := by decide +kernel
theorem dX10_needsNumber_34 : decode cX10_needsNumber 34 = .ok (.getfield 157, 3) := by decide +kernel
theorem dX10_needsNumber_37 : decode cX10_needsNumber 37 = .ok (.putfield 267, 3) := by decide +kernel
theorem dX10_needsNumber_40 : decode cX10_needsNumber 40 = .ok (.aload_n 0, 1) := by decide +kernel
theorem dX10_needsNumber_41 : decode cX10_needsNumber 41 = .ok (.invokevirtual 220, 3) := by decide +kernel
theorem dX10_needsNumber_44 : decode cX10_needsNumber 44 = .ok (.iconst 1, 1) := by decide +kernel
theorem dX10_needsNumber_45 : decode cX10_needsNumber 45 = .ok (.ireturn, 1) := by decide +kernel
theorem dX10_needsWord_0 : decode cX10_needsWord 0 = .ok (.aload_n 0, 1) := by decide +kernel
theorem dX10_needsWord_1 : decode cX10_needsWord 1 = .ok (.lload_n 1, 1) := by decide +kernel
theorem dX10_needsWord_2 : decode cX10_needsWord 2 = .ok (.invokevirtual 205, 3) := by decide +kernel
theorem dX10_needsWord_5 : decode cX10_needsWord 5 = .ok (.ifCond .ne 9, 3) := by decide +kernel
theorem dX10_needsWord_8 : decode cX10_needsWord 8 = .ok (.aload_n 0, 1) := by decide +kernel
theorem dX10_needsWord_9 : decode cX10_needsWord 9 = .ok (.iconst 1, 1) := by decide +kernel
theorem dX10_needsWord_10 : decode cX10_needsWord 10 = .ok (.invokevirtual 213, 3) := by decide +kernel
theorem dX10_needsWord_13 : decode cX10_needsWord 13 = .ok (.ireturn, 1) := by decide +kernel
theorem dX10_needsWord_14 : decode cX10_needsWord 14 = .ok (.aload_n 0, 1) := by decide +kernel
theorem dX10_needsWord_15 : decode cX10_needsWord 15 = .ok (.invokevirtual 220, 3) := by decide +kernel
theorem dX10_needsWord_18 : decode cX10_needsWord 18 = .ok (.iconst 1, 1) := by decide +kernel
theorem dX10_needsWord_19 : decode cX10_needsWord 19 = .ok (.ireturn, 1) := by decide +kernel
theorem dX10_needsCell_0 : decode cX10_needsCell 0 = .ok (.aload_n 0, 1) := by decide +kernel
theorem dX10_needsCell_1 : decode cX10_needsCell 1 = .ok (.invokevirtual 256, 3) := by decide +kernel
theorem dX10_needsCell_4 : decode cX10_needsCell 4 = .ok (.ifCond .eq 9, 3) := by decide +kernel
theorem dX10_needsCell_7 : decode cX10_needsCell 7 = .ok (.aload_n 0, 1) := by decide +kernel
theorem dX10_needsCell_8 : decode cX10_needsCell 8 = .ok (.iconst 1, 1) := by decide +kernel
theorem dX10_needsCell_9 : decode cX10_needsCell 9 = .ok (.invokevirtual 213, 3) := by decide +kernel
theorem dX10_needsCell_12 : decode cX10_needsCell 12 = .ok (.ireturn, 1) := by decide +kernel
theorem dX10_needsCell_13 : decode cX10_needsCell 13 = .ok (.aload_n 0, 1) := by decide +kernel
theorem dX10_needsCell_14 : decode cX10_needsCell 14 = .ok (.aload_n 0, 1) := by decide +kernel
theorem dX10_needsCell_15 : decode cX10_needsCell 15 = .ok (.invokevirtual 260, 3) := by decide +kernel
theorem dX10_needsCell_18 : decode cX10_needsCell 18 = .ok (.putfield 267, 3) := by decide +kernel
theorem dX10_needsCell_21 : decode cX10_needsCell 21 = .ok (.aload_n 0, 1) := by decide +kernel
theorem dX10_needsCell_22 : decode cX10_needsCell 22 = .ok (.getfield 267, 3) := by decide +kernel
theorem dX10_needsCell_25 : decode cX10_needsCell 25 = .ok (.ifCond .ge 9, 3) := by decide +kernel
theorem dX10_needsCell_28 : decode cX10_needsCell 28 = .ok (.aload_n 0, 1) := by decide +kernel
theorem dX10_needsCell_29 : decode cX10_needsCell 29 = .ok (.iconst 2, 1) := by decide +kernel
theorem dX10_needsCell_30 : decode cX10_needsCell 30 = .ok (.invokevirtual 213, 3) := by decide +kernel
theorem dX10_needsCell_33 : decode cX10_needsCell 33 = .ok (.ireturn, 1) := by decide +kernel
theorem dX10_needsCell_34 : decode cX10_needsCell 34 = .ok (.aload_n 0, 1) := by decide +kernel
theorem dX10_needsCell_35 : decode cX10_needsCell 35 = .ok (.invokevirtual 220, 3) := by decide +kernel
theorem dX10_needsCell_38 : decode cX10_needsCell 38 = .ok (.iconst 1, 1) := by decide +kernel
theorem dX10_needsCell_39 : decode cX10_needsCell 39 = .ok (.ireturn, 1) := by decide +kernel
theorem dX10_ends_0 : decode cX10_ends 0 = .ok (.aload_n 0, 1) := by decide +kernel
theorem dX10_ends_1 : decode cX10_ends 1 = .ok (.bipush 59, 2) := by decide +kernel
theorem dX10_ends_3 : decode cX10_ends 3 = .ok (.invokevirtual 209, 3) := by decide +kernel
theorem dX10_ends_6 : decode cX10_ends 6 = .ok (.ifCond .ne 9, 3) := by decide +kernel
theorem dX10_ends_9 : decode cX10_ends 9 = .ok (.aload_n 0, 1) := by decide +kernel
theorem dX10_ends_10 : decode cX10_ends 10 = .ok (.iconst 1, 1) := by decide +kernel
theorem dX10_ends_11 : decode cX10_ends 11 = .ok (.invokevirtual 213, 3) := by decide +kernel
theorem dX10_ends_14 : decode cX10_ends 14 = .ok (.ireturn, 1) := by decide +kernel
theorem dX10_ends_15 : decode cX10_ends 15 = .ok (.aload_n 0, 1) := by decide +kernel
theorem dX10_ends_16 : decode cX10_ends 16 = .ok (.invokevirtual 220, 3) := by decide +kernel
theorem dX10_ends_19 : decode cX10_ends 19 = .ok (.iconst 1, 1) := by decide +kernel
theorem dX10_ends_20 : decode cX10_ends 20 = .ok (.ireturn, 1) := by decide +kernel
theorem dX10_readsLaw_0 : decode cX10_readsLaw 0 = .ok (.aload_n 0, 1) := by decide +kernel
theorem dX10_readsLaw_1 : decode cX10_readsLaw 1 = .ok (.getfield 65, 3) := by decide +kernel
theorem dX10_readsLaw_4 : decode cX10_readsLaw 4 = .ok (.iconst 2, 1) := by decide +kernel
theorem dX10_readsLaw_5 : decode cX10_readsLaw 5 = .ok (.iload_n 1, 1) := by decide +kernel
theorem dX10_readsLaw_6 : decode cX10_readsLaw 6 = .ok (.iadd, 1) := by decide +kernel
theorem dX10_readsLaw_7 : decode cX10_readsLaw 7 = .ok (.iaload, 1) := by decide +kernel
theorem dX10_readsLaw_8 : decode cX10_readsLaw 8 = .ok (.aload_n 0, 1) := by decide +kernel
theorem dX10_readsLaw_9 : decode cX10_readsLaw 9 = .ok (.getfield 62, 3) := by decide +kernel
theorem dX10_readsLaw_12 : decode cX10_readsLaw 12 = .ok (.iconst 2, 1) := by decide +kernel
theorem dX10_readsLaw_13 : decode cX10_readsLaw 13 = .ok (.iload_n 1, 1) := by decide +kernel
theorem dX10_readsLaw_14 : decode cX10_readsLaw 14 = .ok (.iadd, 1) := by decide +kernel
theorem dX10_readsLaw_15 : decode cX10_readsLaw 15 = .ok (.iaload, 1) := by decide +kernel
theorem dX10_readsLaw_16 : decode cX10_readsLaw 16 = .ok (.if_icmp .le 9, 3) := by decide +kernel
theorem dX10_readsLaw_19 : decode cX10_readsLaw 19 = .ok (.aload_n 0, 1) := by decide +kernel
theorem dX10_readsLaw_20 : decode cX10_readsLaw 20 = .ok (.iconst 3, 1) := by decide +kernel
theorem dX10_readsLaw_21 : decode cX10_readsLaw 21 = .ok (.invokevirtual 213, 3) := by decide +kernel
theorem dX10_readsLaw_24 : decode cX10_readsLaw 24 = .ok (.ireturn, 1) := by decide +kernel
theorem dX10_readsLaw_25 : decode cX10_readsLaw 25 = .ok (.aload_n 0, 1) := by decide +kernel
theorem dX10_readsLaw_26 : decode cX10_readsLaw 26 = .ok (.iload_n 1, 1) := by decide +kernel
theorem dX10_readsLaw_27 : decode cX10_readsLaw 27 = .ok (.iconst 1, 1) := by decide +kernel
theorem dX10_readsLaw_28 : decode cX10_readsLaw 28 = .ok (.if_icmp .ne 7, 3) := by decide +kernel
theorem dX10_readsLaw_31 : decode cX10_readsLaw 31 = .ok (.iconst 1, 1) := by decide +kernel
theorem dX10_readsLaw_32 : decode cX10_readsLaw 32 = .ok (.goto 4, 3) := by decide +kernel
theorem dX10_readsLaw_35 : decode cX10_readsLaw 35 = .ok (.iconst 0, 1) := by decide +kernel
theorem dX10_readsLaw_36 : decode cX10_readsLaw 36 = .ok (.putfield 177, 3) := by decide +kernel
theorem dX10_readsLaw_39 : decode cX10_readsLaw 39 = .ok (.aload_n 0, 1) := by decide +kernel
theorem dX10_readsLaw_40 : decode cX10_readsLaw 40 = .ok (.invokevirtual 220, 3) := by decide +kernel
theorem dX10_readsLaw_43 : decode cX10_readsLaw 43 = .ok (.aload_n 0, 1) := by decide +kernel
theorem dX10_readsLaw_44 : decode cX10_readsLaw 44 = .ok (.getfield 62, 3) := by decide +kernel
theorem dX10_readsLaw_47 : decode cX10_readsLaw 47 = .ok (.iconst 2, 1) := by decide +kernel
theorem dX10_readsLaw_48 : decode cX10_readsLaw 48 = .ok (.iload_n 1, 1) := by decide +kernel
theorem dX10_readsLaw_49 : decode cX10_readsLaw 49 = .ok (.iadd, 1) := by decide +kernel
theorem dX10_readsLaw_50 : decode cX10_readsLaw 50 = .ok (.aload_n 0, 1) := by decide +kernel
theorem dX10_readsLaw_51 : decode cX10_readsLaw 51 = .ok (.getfield 174, 3) := by decide +kernel
theorem dX10_readsLaw_54 : decode cX10_readsLaw 54 = .ok (.iastore, 1) := by decide +kernel
theorem dX10_readsLaw_55 : decode cX10_readsLaw 55 = .ok (.aload_n 0, 1) := by decide +kernel
theorem dX10_readsLaw_56 : decode cX10_readsLaw 56 = .ok (.invokevirtual 270, 3) := by decide +kernel
theorem dX10_readsLaw_59 : decode cX10_readsLaw 59 = .ok (.ifCond .ne 5, 3) := by decide +kernel
theorem dX10_readsLaw_62 : decode cX10_readsLaw 62 = .ok (.iconst 0, 1) := by decide +kernel
theorem dX10_readsLaw_63 : decode cX10_readsLaw 63 = .ok (.ireturn, 1) := by decide +kernel
theorem dX10_readsLaw_64 : decode cX10_readsLaw 64 = .ok (.aload_n 0, 1) := by decide +kernel
theorem dX10_readsLaw_65 : decode cX10_readsLaw 65 = .ok (.getfield 65, 3) := by decide +kernel
theorem dX10_readsLaw_68 : decode cX10_readsLaw 68 = .ok (.iconst 2, 1) := by decide +kernel
theorem dX10_readsLaw_69 : decode cX10_readsLaw 69 = .ok (.iload_n 1, 1) := by decide +kernel
theorem dX10_readsLaw_70 : decode cX10_readsLaw 70 = .ok (.iadd, 1) := by decide +kernel
theorem dX10_readsLaw_71 : decode cX10_readsLaw 71 = .ok (.aload_n 0, 1) := by decide +kernel
theorem dX10_readsLaw_72 : decode cX10_readsLaw 72 = .ok (.getfield 174, 3) := by decide +kernel
theorem dX10_readsLaw_75 : decode cX10_readsLaw 75 = .ok (.iastore, 1) := by decide +kernel
theorem dX10_readsLaw_76 : decode cX10_readsLaw 76 = .ok (.iconst 1, 1) := by decide +kernel
theorem dX10_readsLaw_77 : decode cX10_readsLaw 77 = .ok (.ireturn, 1) := by decide +kernel
theorem dX10_readsMild_0 : decode cX10_readsMild 0 = .ok (.aload_n 0, 1) := by decide +kernel
theorem dX10_readsMild_1 : decode cX10_readsMild 1 = .ok (.getfield 273, 3) := by decide +kernel
theorem dX10_readsMild_4 : decode cX10_readsMild 4 = .ok (.ifCond .eq 9, 3) := by decide +kernel
theorem dX10_readsMild_7 : decode cX10_readsMild 7 = .ok (.aload_n 0, 1) := by decide +kernel
theorem dX10_readsMild_8 : decode cX10_readsMild 8 = .ok (.iconst 3, 1) := by decide +kernel
theorem dX10_readsMild_9 : decode cX10_readsMild 9 = .ok (.invokevirtual 213, 3) := by decide +kernel
theorem dX10_readsMild_12 : decode cX10_readsMild 12 = .ok (.ireturn, 1) := by decide +kernel
theorem dX10_readsMild_13 : decode cX10_readsMild 13 = .ok (.aload_n 0, 1) := by decide +kernel
theorem dX10_readsMild_14 : decode cX10_readsMild 14 = .ok (.iconst 1, 1) := by decide +kernel
theorem dX10_readsMild_15 : decode cX10_readsMild 15 = .ok (.putfield 273, 3) := by decide +kernel
theorem dX10_readsMild_18 : decode cX10_readsMild 18 = .ok (.aload_n 0, 1) := by decide +kernel
theorem dX10_readsMild_19 : decode cX10_readsMild 19 = .ok (.invokevirtual 220, 3) := by decide +kernel
theorem dX10_readsMild_22 : decode cX10_readsMild 22 = .ok (.aload_n 0, 1) := by decide +kernel
theorem dX10_readsMild_23 : decode cX10_readsMild 23 = .ok (.iconst 0, 1) := by decide +kernel
theorem dX10_readsMild_24 : decode cX10_readsMild 24 = .ok (.bipush 20, 2) := by decide +kernel
theorem dX10_readsMild_26 : decode cX10_readsMild 26 = .ok (.invokevirtual 276, 3) := by decide +kernel
theorem dX10_readsMild_29 : decode cX10_readsMild 29 = .ok (.ifCond .ne 5, 3) := by decide +kernel
theorem dX10_readsMild_32 : decode cX10_readsMild 32 = .ok (.iconst 0, 1) := by decide +kernel
theorem dX10_readsMild_33 : decode cX10_readsMild 33 = .ok (.ireturn, 1) := by decide +kernel
theorem dX10_readsMild_34 : decode cX10_readsMild 34 = .ok (.aload_n 0, 1) := by decide +kernel
theorem dX10_readsMild_35 : decode cX10_readsMild 35 = .ok (.getfield 25, 3) := by decide +kernel
theorem dX10_readsMild_38 : decode cX10_readsMild 38 = .ok (.iconst 1, 1) := by decide +kernel
theorem dX10_readsMild_39 : decode cX10_readsMild 39 = .ok (.aload_n 0, 1) := by decide +kernel
theorem dX10_readsMild_40 : decode cX10_readsMild 40 = .ok (.getfield 267, 3) := by decide +kernel
theorem dX10_readsMild_43 : decode cX10_readsMild 43 = .ok (.iastore, 1) := by decide +kernel
theorem dX10_readsMild_44 : decode cX10_readsMild 44 = .ok (.aload_n 0, 1) := by decide +kernel
theorem dX10_readsMild_45 : decode cX10_readsMild 45 = .ok (.invokevirtual 280, 3) := by decide +kernel
theorem dX10_readsMild_48 : decode cX10_readsMild 48 = .ok (.ireturn, 1) := by decide +kernel
theorem dX10_readsCell_0 : decode cX10_readsCell 0 = .ok (.aload_n 0, 1) := by decide +kernel
theorem dX10_readsCell_1 : decode cX10_readsCell 1 = .ok (.getfield 13, 3) := by decide +kernel
theorem dX10_readsCell_4 : decode cX10_readsCell 4 = .ok (.iconst 1, 1) := by decide +kernel
theorem dX10_readsCell_5 : decode cX10_readsCell 5 = .ok (.iaload, 1) := by decide +kernel
theorem dX10_readsCell_6 : decode cX10_readsCell 6 = .ok (.istore_n 1, 1) := by decide +kernel
theorem dX10_readsCell_7 : decode cX10_readsCell 7 = .ok (.iload_n 1, 1) := by decide +kernel
theorem dX10_readsCell_8 : decode cX10_readsCell 8 = .ok (.bipush 8, 2) := by decide +kernel
theorem dX10_readsCell_10 : decode cX10_readsCell 10 = .ok (.if_icmp .ne 9, 3) := by decide +kernel
theorem dX10_readsCell_13 : decode cX10_readsCell 13 = .ok (.aload_n 0, 1) := by decide +kernel
theorem dX10_readsCell_14 : decode cX10_readsCell 14 = .ok (.iconst 5, 1) := by decide +kernel
theorem dX10_readsCell_15 : decode cX10_readsCell 15 = .ok (.invokevirtual 213, 3) := by decide +kernel
theorem dX10_readsCell_18 : decode cX10_readsCell 18 = .ok (.ireturn, 1) := by decide +kernel
theorem dX10_readsCell_19 : decode cX10_readsCell 19 = .ok (.aload_n 0, 1) := by decide +kernel
theorem dX10_readsCell_20 : decode cX10_readsCell 20 = .ok (.invokevirtual 220, 3) := by decide +kernel
theorem dX10_readsCell_23 : decode cX10_readsCell 23 = .ok (.aload_n 0, 1) := by decide +kernel
theorem dX10_readsCell_24 : decode cX10_readsCell 24 = .ok (.invokevirtual 283, 3) := by decide +kernel
theorem dX10_readsCell_27 : decode cX10_readsCell 27 = .ok (.ifCond .ne 5, 3) := by decide +kernel
theorem dX10_readsCell_30 : decode cX10_readsCell 30 = .ok (.iconst 0, 1) := by decide +kernel
theorem dX10_readsCell_31 : decode cX10_readsCell 31 = .ok (.ireturn, 1) := by decide +kernel
theorem dX10_readsCell_32 : decode cX10_readsCell 32 = .ok (.aload_n 0, 1) := by decide +kernel
theorem dX10_readsCell_33 : decode cX10_readsCell 33 = .ok (.getfield 28, 3) := by decide +kernel
theorem dX10_readsCell_36 : decode cX10_readsCell 36 = .ok (.iload_n 1, 1) := by decide +kernel
theorem dX10_readsCell_37 : decode cX10_readsCell 37 = .ok (.aload_n 0, 1) := by decide +kernel
theorem dX10_readsCell_38 : decode cX10_readsCell 38 = .ok (.getfield 153, 3) := by decide +kernel
theorem dX10_readsCell_41 : decode cX10_readsCell 41 = .ok (.lastore, 1) := by decide +kernel
theorem dX10_readsCell_42 : decode cX10_readsCell 42 = .ok (.aload_n 0, 1) := by decide +kernel
theorem dX10_readsCell_43 : decode cX10_readsCell 43 = .ok (.invokevirtual 220, 3) := by decide +kernel
theorem dX10_readsCell_46 : decode cX10_readsCell 46 = .ok (.aload_n 0, 1) := by decide +kernel
theorem dX10_readsCell_47 : decode cX10_readsCell 47 = .ok (.ldc2_w 183, 3) := by decide +kernel
theorem dX10_readsCell_50 : decode cX10_readsCell 50 = .ok (.invokevirtual 286, 3) := by decide +kernel
theorem dX10_readsCell_53 : decode cX10_readsCell 53 = .ok (.ifCond .eq 13, 3) := by decide +kernel
theorem dX10_readsCell_56 : decode cX10_readsCell 56 = .ok (.aload_n 0, 1) := by decide +kernel
theorem dX10_readsCell_57 : decode cX10_readsCell 57 = .ok (.iconst 0, 1) := by decide +kernel
theorem dX10_readsCell_58 : decode cX10_readsCell 58 = .ok (.bipush 9, 2) := by decide +kernel
theorem dX10_readsCell_60 : decode cX10_readsCell 60 = .ok (.invokevirtual 276, 3) := by decide +kernel
theorem dX10_readsCell_63 : decode cX10_readsCell 63 = .ok (.ifCond .ne 5, 3) := by decide +kernel
theorem dX10_readsCell_66 : decode cX10_readsCell 66 = .ok (.iconst 0, 1) := by decide +kernel
theorem dX10_readsCell_67 : decode cX10_readsCell 67 = .ok (.ireturn, 1) := by decide +kernel
theorem dX10_readsCell_68 : decode cX10_readsCell 68 = .ok (.aload_n 0, 1) := by decide +kernel
theorem dX10_readsCell_69 : decode cX10_readsCell 69 = .ok (.getfield 35, 3) := by decide +kernel
theorem dX10_readsCell_72 : decode cX10_readsCell 72 = .ok (.bipush 8, 2) := by decide +kernel
theorem dX10_readsCell_74 : decode cX10_readsCell 74 = .ok (.iload_n 1, 1) := by decide +kernel
theorem dX10_readsCell_75 : decode cX10_readsCell 75 = .ok (.iadd, 1) := by decide +kernel
theorem dX10_readsCell_76 : decode cX10_readsCell 76 = .ok (.aload_n 0, 1) := by decide +kernel
theorem dX10_readsCell_77 : decode cX10_readsCell 77 = .ok (.getfield 267, 3) := by decide +kernel
theorem dX10_readsCell_80 : decode cX10_readsCell 80 = .ok (.iastore, 1) := by decide +kernel
theorem dX10_readsCell_81 : decode cX10_readsCell 81 = .ok (.aload_n 0, 1) := by decide +kernel
theorem dX10_readsCell_82 : decode cX10_readsCell 82 = .ok (.getfield 13, 3) := by decide +kernel
theorem dX10_readsCell_85 : decode cX10_readsCell 85 = .ok (.iconst 1, 1) := by decide +kernel
theorem dX10_readsCell_86 : decode cX10_readsCell 86 = .ok (.dup2, 1) := by decide +kernel
theorem dX10_readsCell_87 : decode cX10_readsCell 87 = .ok (.iaload, 1) := by decide +kernel
theorem dX10_readsCell_88 : decode cX10_readsCell 88 = .ok (.iconst 1, 1) := by decide +kernel
theorem dX10_readsCell_89 : decode cX10_readsCell 89 = .ok (.iadd, 1) := by decide +kernel
theorem dX10_readsCell_90 : decode cX10_readsCell 90 = .ok (.iastore, 1) := by decide +kernel
theorem dX10_readsCell_91 : decode cX10_readsCell 91 = .ok (.aload_n 0, 1) := by decide +kernel
theorem dX10_readsCell_92 : decode cX10_readsCell 92 = .ok (.invokevirtual 280, 3) := by decide +kernel
theorem dX10_readsCell_95 : decode cX10_readsCell 95 = .ok (.ireturn, 1) := by decide +kernel
theorem dX10_readsDoor_0 : decode cX10_readsDoor 0 = .ok (.bipush 10, 2) := by decide +kernel
theorem dX10_readsDoor_2 : decode cX10_readsDoor 2 = .ok (.aload_n 0, 1) := by decide +kernel
theorem dX10_readsDoor_3 : decode cX10_readsDoor 3 = .ok (.getfield 16, 3) := by decide +kernel
theorem dX10_readsDoor_6 : decode cX10_readsDoor 6 = .ok (.iconst 1, 1) := by decide +kernel
theorem dX10_readsDoor_7 : decode cX10_readsDoor 7 = .ok (.iaload, 1) := by decide +kernel
theorem dX10_readsDoor_8 : decode cX10_readsDoor 8 = .ok (.iadd, 1) := by decide +kernel
theorem dX10_readsDoor_9 : decode cX10_readsDoor 9 = .ok (.istore_n 1, 1) := by decide +kernel
theorem dX10_readsDoor_10 : decode cX10_readsDoor 10 = .ok (.aload_n 0, 1) := by decide +kernel
theorem dX10_readsDoor_11 : decode cX10_readsDoor 11 = .ok (.getfield 16, 3) := by decide +kernel
theorem dX10_readsDoor_14 : decode cX10_readsDoor 14 = .ok (.iconst 1, 1) := by decide +kernel
theorem dX10_readsDoor_15 : decode cX10_readsDoor 15 = .ok (.iaload, 1) := by decide +kernel
theorem dX10_readsDoor_16 : decode cX10_readsDoor 16 = .ok (.bipush 10, 2) := by decide +kernel
theorem dX10_readsDoor_18 : decode cX10_readsDoor 18 = .ok (.if_icmp .ne 9, 3) := by decide +kernel
theorem dX10_readsDoor_21 : decode cX10_readsDoor 21 = .ok (.aload_n 0, 1) := by decide +kernel
theorem dX10_readsDoor_22 : decode cX10_readsDoor 22 = .ok (.iconst 5, 1) := by decide +kernel
theorem dX10_readsDoor_23 : decode cX10_readsDoor 23 = .ok (.invokevirtual 213, 3) := by decide +kernel
theorem dX10_readsDoor_26 : decode cX10_readsDoor 26 = .ok (.ireturn, 1) := by decide +kernel
theorem dX10_readsDoor_27 : decode cX10_readsDoor 27 = .ok (.aload_n 0, 1) := by decide +kernel
theorem dX10_readsDoor_28 : decode cX10_readsDoor 28 = .ok (.invokevirtual 220, 3) := by decide +kernel
theorem dX10_readsDoor_31 : decode cX10_readsDoor 31 = .ok (.aload_n 0, 1) := by decide +kernel
theorem dX10_readsDoor_32 : decode cX10_readsDoor 32 = .ok (.invokevirtual 289, 3) := by decide +kernel
theorem dX10_readsDoor_35 : decode cX10_readsDoor 35 = .ok (.ifCond .ne 5, 3) := by decide +kernel
theorem dX10_readsDoor_38 : decode cX10_readsDoor 38 = .ok (.iconst 0, 1) := by decide +kernel
theorem dX10_readsDoor_39 : decode cX10_readsDoor 39 = .ok (.ireturn, 1) := by decide +kernel
theorem dX10_readsDoor_40 : decode cX10_readsDoor 40 = .ok (.aload_n 0, 1) := by decide +kernel
theorem dX10_readsDoor_41 : decode cX10_readsDoor 41 = .ok (.getfield 38, 3) := by decide +kernel
theorem dX10_readsDoor_44 : decode cX10_readsDoor 44 = .ok (.iload_n 1, 1) := by decide +kernel
theorem dX10_readsDoor_45 : decode cX10_readsDoor 45 = .ok (.aload_n 0, 1) := by decide +kernel
theorem dX10_readsDoor_46 : decode cX10_readsDoor 46 = .ok (.getfield 267, 3) := by decide +kernel
theorem dX10_readsDoor_49 : decode cX10_readsDoor 49 = .ok (.iastore, 1) := by decide +kernel
theorem dX10_readsDoor_50 : decode cX10_readsDoor 50 = .ok (.aload_n 0, 1) := by decide +kernel
theorem dX10_readsDoor_51 : decode cX10_readsDoor 51 = .ok (.ldc2_w 242, 3) := by decide +kernel
theorem dX10_readsDoor_54 : decode cX10_readsDoor 54 = .ok (.invokevirtual 286, 3) := by decide +kernel
theorem dX10_readsDoor_57 : decode cX10_readsDoor 57 = .ok (.ifCond .ne 5, 3) := by decide +kernel
theorem dX10_readsDoor_60 : decode cX10_readsDoor 60 = .ok (.iconst 0, 1) := by decide +kernel
theorem dX10_readsDoor_61 : decode cX10_readsDoor 61 = .ok (.ireturn, 1) := by decide +kernel
theorem dX10_readsDoor_62 : decode cX10_readsDoor 62 = .ok (.aload_n 0, 1) := by decide +kernel
theorem dX10_readsDoor_63 : decode cX10_readsDoor 63 = .ok (.ldc2_w 244, 3) := by decide +kernel
theorem dX10_readsDoor_66 : decode cX10_readsDoor 66 = .ok (.invokevirtual 205, 3) := by decide +kernel
theorem dX10_readsDoor_69 : decode cX10_readsDoor 69 = .ok (.ifCond .eq 17, 3) := by decide +kernel
theorem dX10_readsDoor_72 : decode cX10_readsDoor 72 = .ok (.aload_n 0, 1) := by decide +kernel
theorem dX10_readsDoor_73 : decode cX10_readsDoor 73 = .ok (.getfield 41, 3) := by decide +kernel
theorem dX10_readsDoor_76 : decode cX10_readsDoor 76 = .ok (.iload_n 1, 1) := by decide +kernel
theorem dX10_readsDoor_77 : decode cX10_readsDoor 77 = .ok (.iconst (-1), 1) := by decide +kernel
theorem dX10_readsDoor_78 : decode cX10_readsDoor 78 = .ok (.iastore, 1) := by decide +kernel
theorem dX10_readsDoor_79 : decode cX10_readsDoor 79 = .ok (.aload_n 0, 1) := by decide +kernel
theorem dX10_readsDoor_80 : decode cX10_readsDoor 80 = .ok (.invokevirtual 220, 3) := by decide +kernel
theorem dX10_readsDoor_83 : decode cX10_readsDoor 83 = .ok (.goto 48, 3) := by decide +kernel
theorem dX10_readsDoor_86 : decode cX10_readsDoor 86 = .ok (.aload_n 0, 1) := by decide +kernel
theorem dX10_readsDoor_87 : decode cX10_readsDoor 87 = .ok (.invokevirtual 256, 3) := by decide +kernel
theorem dX10_readsDoor_90 : decode cX10_readsDoor 90 = .ok (.ifCond .ne 22, 3) := by decide +kernel
theorem dX10_readsDoor_93 : decode cX10_readsDoor 93 = .ok (.aload_n 0, 1) := by decide +kernel
theorem dX10_readsDoor_94 : decode cX10_readsDoor 94 = .ok (.invokevirtual 260, 3) := by decide +kernel
theorem dX10_readsDoor_97 : decode cX10_readsDoor 97 = .ok (.aload_n 0, 1) := by decide +kernel
theorem dX10_readsDoor_98 : decode cX10_readsDoor 98 = .ok (.getfield 38, 3) := by decide +kernel
theorem dX10_readsDoor_101 : decode cX10_readsDoor 101 = .ok (.iload_n 1, 1) := by decide +kernel
theorem dX10_readsDoor_102 : decode cX10_readsDoor 102 = .ok (.iaload, 1) := by decide +kernel
theorem dX10_readsDoor_103 : decode cX10_readsDoor 103 = .ok (.if_icmp .ne 9, 3) := by decide +kernel
theorem dX10_readsDoor_106 : decode cX10_readsDoor 106 = .ok (.aload_n 0, 1) := by decide +kernel
theorem dX10_readsDoor_107 : decode cX10_readsDoor 107 = .ok (.iconst 3, 1) := by decide +kernel
theorem dX10_readsDoor_108 : decode cX10_readsDoor 108 = .ok (.invokevirtual 213, 3) := by decide +kernel
theorem dX10_readsDoor_111 : decode cX10_readsDoor 111 = .ok (.ireturn, 1) := by decide +kernel
theorem dX10_readsDoor_112 : decode cX10_readsDoor 112 = .ok (.aload_n 0, 1) := by decide +kernel
theorem dX10_readsDoor_113 : decode cX10_readsDoor 113 = .ok (.invokevirtual 289, 3) := by decide +kernel
theorem dX10_readsDoor_116 : decode cX10_readsDoor 116 = .ok (.ifCond .ne 5, 3) := by decide +kernel
theorem dX10_readsDoor_119 : decode cX10_readsDoor 119 = .ok (.iconst 0, 1) := by decide +kernel
theorem dX10_readsDoor_120 : decode cX10_readsDoor 120 = .ok (.ireturn, 1) := by decide +kernel
theorem dX10_readsDoor_121 : decode cX10_readsDoor 121 = .ok (.aload_n 0, 1) := by decide +kernel
theorem dX10_readsDoor_122 : decode cX10_readsDoor 122 = .ok (.getfield 41, 3) := by decide +kernel
theorem dX10_readsDoor_125 : decode cX10_readsDoor 125 = .ok (.iload_n 1, 1) := by decide +kernel
theorem dX10_readsDoor_126 : decode cX10_readsDoor 126 = .ok (.aload_n 0, 1) := by decide +kernel
theorem dX10_readsDoor_127 : decode cX10_readsDoor 127 = .ok (.getfield 267, 3) := by decide +kernel
theorem dX10_readsDoor_130 : decode cX10_readsDoor 130 = .ok (.iastore, 1) := by decide +kernel
theorem dX10_readsDoor_131 : decode cX10_readsDoor 131 = .ok (.aload_n 0, 1) := by decide +kernel
theorem dX10_readsDoor_132 : decode cX10_readsDoor 132 = .ok (.ldc2_w 246, 3) := by decide +kernel
theorem dX10_readsDoor_135 : decode cX10_readsDoor 135 = .ok (.invokevirtual 286, 3) := by decide +kernel
theorem dX10_readsDoor_138 : decode cX10_readsDoor 138 = .ok (.ifCond .eq 13, 3) := by decide +kernel
theorem dX10_readsDoor_141 : decode cX10_readsDoor 141 = .ok (.aload_n 0, 1) := by decide +kernel
theorem dX10_readsDoor_142 : decode cX10_readsDoor 142 = .ok (.iconst 0, 1) := by decide +kernel
theorem dX10_readsDoor_143 : decode cX10_readsDoor 143 = .ok (.bipush 99, 2) := by decide +kernel
theorem dX10_readsDoor_145 : decode cX10_readsDoor 145 = .ok (.invokevirtual 276, 3) := by decide +kernel
theorem dX10_readsDoor_148 : decode cX10_readsDoor 148 = .ok (.ifCond .ne 5, 3) := by decide +kernel
theorem dX10_readsDoor_151 : decode cX10_readsDoor 151 = .ok (.iconst 0, 1) := by decide +kernel
theorem dX10_readsDoor_152 : decode cX10_readsDoor 152 = .ok (.ireturn, 1) := by decide +kernel
theorem dX10_readsDoor_153 : decode cX10_readsDoor 153 = .ok (.aload_n 0, 1) := by decide +kernel
theorem dX10_readsDoor_154 : decode cX10_readsDoor 154 = .ok (.getfield 44, 3) := by decide +kernel
theorem dX10_readsDoor_157 : decode cX10_readsDoor 157 = .ok (.iload_n 1, 1) := by decide +kernel
theorem dX10_readsDoor_158 : decode cX10_readsDoor 158 = .ok (.aload_n 0, 1) := by decide +kernel
theorem dX10_readsDoor_159 : decode cX10_readsDoor 159 = .ok (.getfield 267, 3) := by decide +kernel
theorem dX10_readsDoor_162 : decode cX10_readsDoor 162 = .ok (.iastore, 1) := by decide +kernel
theorem dX10_readsDoor_163 : decode cX10_readsDoor 163 = .ok (.aload_n 0, 1) := by decide +kernel
theorem dX10_readsDoor_164 : decode cX10_readsDoor 164 = .ok (.getfield 16, 3) := by decide +kernel
theorem dX10_readsDoor_167 : decode cX10_readsDoor 167 = .ok (.iconst 1, 1) := by decide +kernel
theorem dX10_readsDoor_168 : decode cX10_readsDoor 168 = .ok (.dup2, 1) := by decide +kernel
theorem dX10_readsDoor_169 : decode cX10_readsDoor 169 = .ok (.iaload, 1) := by decide +kernel
theorem dX10_readsDoor_170 : decode cX10_readsDoor 170 = .ok (.iconst 1, 1) := by decide +kernel
theorem dX10_readsDoor_171 : decode cX10_readsDoor 171 = .ok (.iadd, 1) := by decide +kernel
theorem dX10_readsDoor_172 : decode cX10_readsDoor 172 = .ok (.iastore, 1) := by decide +kernel
theorem dX10_readsDoor_173 : decode cX10_readsDoor 173 = .ok (.aload_n 0, 1) := by decide +kernel
theorem dX10_readsDoor_174 : decode cX10_readsDoor 174 = .ok (.invokevirtual 280, 3) := by decide +kernel
theorem dX10_readsDoor_177 : decode cX10_readsDoor 177 = .ok (.ireturn, 1) := by decide +kernel
theorem dX10_readsMan_0 : decode cX10_readsMan 0 = .ok (.bipush 6, 2) := by decide +kernel
theorem dX10_readsMan_2 : decode cX10_readsMan 2 = .ok (.aload_n 0, 1) := by decide +kernel
theorem dX10_readsMan_3 : decode cX10_readsMan 3 = .ok (.getfield 19, 3) := by decide +kernel
theorem dX10_readsMan_6 : decode cX10_readsMan 6 = .ok (.iconst 1, 1) := by decide +kernel
theorem dX10_readsMan_7 : decode cX10_readsMan 7 = .ok (.iaload, 1) := by decide +kernel
theorem dX10_readsMan_8 : decode cX10_readsMan 8 = .ok (.iadd, 1) := by decide +kernel
theorem dX10_readsMan_9 : decode cX10_readsMan 9 = .ok (.istore_n 1, 1) := by decide +kernel
theorem dX10_readsMan_10 : decode cX10_readsMan 10 = .ok (.aload_n 0, 1) := by decide +kernel
theorem dX10_readsMan_11 : decode cX10_readsMan 11 = .ok (.getfield 19, 3) := by decide +kernel
theorem dX10_readsMan_14 : decode cX10_readsMan 14 = .ok (.iconst 1, 1) := by decide +kernel
theorem dX10_readsMan_15 : decode cX10_readsMan 15 = .ok (.iaload, 1) := by decide +kernel
theorem dX10_readsMan_16 : decode cX10_readsMan 16 = .ok (.bipush 6, 2) := by decide +kernel
theorem dX10_readsMan_18 : decode cX10_readsMan 18 = .ok (.if_icmp .ne 9, 3) := by decide +kernel
theorem dX10_readsMan_21 : decode cX10_readsMan 21 = .ok (.aload_n 0, 1) := by decide +kernel
theorem dX10_readsMan_22 : decode cX10_readsMan 22 = .ok (.iconst 5, 1) := by decide +kernel
theorem dX10_readsMan_23 : decode cX10_readsMan 23 = .ok (.invokevirtual 213, 3) := by decide +kernel
theorem dX10_readsMan_26 : decode cX10_readsMan 26 = .ok (.ireturn, 1) := by decide +kernel
theorem dX10_readsMan_27 : decode cX10_readsMan 27 = .ok (.aload_n 0, 1) := by decide +kernel
theorem dX10_readsMan_28 : decode cX10_readsMan 28 = .ok (.invokevirtual 220, 3) := by decide +kernel
theorem dX10_readsMan_31 : decode cX10_readsMan 31 = .ok (.aload_n 0, 1) := by decide +kernel
theorem dX10_readsMan_32 : decode cX10_readsMan 32 = .ok (.invokevirtual 283, 3) := by decide +kernel
theorem dX10_readsMan_35 : decode cX10_readsMan 35 = .ok (.ifCond .ne 5, 3) := by decide +kernel
theorem dX10_readsMan_38 : decode cX10_readsMan 38 = .ok (.iconst 0, 1) := by decide +kernel
theorem dX10_readsMan_39 : decode cX10_readsMan 39 = .ok (.ireturn, 1) := by decide +kernel
theorem dX10_readsMan_40 : decode cX10_readsMan 40 = .ok (.aload_n 0, 1) := by decide +kernel
theorem dX10_readsMan_41 : decode cX10_readsMan 41 = .ok (.getfield 32, 3) := by decide +kernel
theorem dX10_readsMan_44 : decode cX10_readsMan 44 = .ok (.aload_n 0, 1) := by decide +kernel
theorem dX10_readsMan_45 : decode cX10_readsMan 45 = .ok (.getfield 19, 3) := by decide +kernel
theorem dX10_readsMan_48 : decode cX10_readsMan 48 = .ok (.iconst 1, 1) := by decide +kernel
theorem dX10_readsMan_49 : decode cX10_readsMan 49 = .ok (.iaload, 1) := by decide +kernel
theorem dX10_readsMan_50 : decode cX10_readsMan 50 = .ok (.aload_n 0, 1) := by decide +kernel
theorem dX10_readsMan_51 : decode cX10_readsMan 51 = .ok (.getfield 153, 3) := by decide +kernel
theorem dX10_readsMan_54 : decode cX10_readsMan 54 = .ok (.lastore, 1) := by decide +kernel
theorem dX10_readsMan_55 : decode cX10_readsMan 55 = .ok (.aload_n 0, 1) := by decide +kernel
theorem dX10_readsMan_56 : decode cX10_readsMan 56 = .ok (.invokevirtual 220, 3) := by decide +kernel
theorem dX10_readsMan_59 : decode cX10_readsMan 59 = .ok (.aload_n 0, 1) := by decide +kernel
theorem dX10_readsMan_60 : decode cX10_readsMan 60 = .ok (.ldc2_w 250, 3) := by decide +kernel
theorem dX10_readsMan_63 : decode cX10_readsMan 63 = .ok (.invokevirtual 286, 3) := by decide +kernel
theorem dX10_readsMan_66 : decode cX10_readsMan 66 = .ok (.ifCond .eq 10, 3) := by decide +kernel
theorem dX10_readsMan_69 : decode cX10_readsMan 69 = .ok (.aload_n 0, 1) := by decide +kernel
theorem dX10_readsMan_70 : decode cX10_readsMan 70 = .ok (.invokevirtual 289, 3) := by decide +kernel
theorem dX10_readsMan_73 : decode cX10_readsMan 73 = .ok (.ifCond .ne 5, 3) := by decide +kernel
theorem dX10_readsMan_76 : decode cX10_readsMan 76 = .ok (.iconst 0, 1) := by decide +kernel
theorem dX10_readsMan_77 : decode cX10_readsMan 77 = .ok (.ireturn, 1) := by decide +kernel
theorem dX10_readsMan_78 : decode cX10_readsMan 78 = .ok (.aload_n 0, 1) := by decide +kernel
theorem dX10_readsMan_79 : decode cX10_readsMan 79 = .ok (.getfield 47, 3) := by decide +kernel
theorem dX10_readsMan_82 : decode cX10_readsMan 82 = .ok (.iload_n 1, 1) := by decide +kernel
theorem dX10_readsMan_83 : decode cX10_readsMan 83 = .ok (.aload_n 0, 1) := by decide +kernel
theorem dX10_readsMan_84 : decode cX10_readsMan 84 = .ok (.getfield 267, 3) := by decide +kernel
theorem dX10_readsMan_87 : decode cX10_readsMan 87 = .ok (.iastore, 1) := by decide +kernel
theorem dX10_readsMan_88 : decode cX10_readsMan 88 = .ok (.aload_n 0, 1) := by decide +kernel
theorem dX10_readsMan_89 : decode cX10_readsMan 89 = .ok (.ldc2_w 185, 3) := by decide +kernel
theorem dX10_readsMan_92 : decode cX10_readsMan 92 = .ok (.invokevirtual 286, 3) := by decide +kernel
theorem dX10_readsMan_95 : decode cX10_readsMan 95 = .ok (.ifCond .eq 13, 3) := by decide +kernel
theorem dX10_readsMan_98 : decode cX10_readsMan 98 = .ok (.aload_n 0, 1) := by decide +kernel
theorem dX10_readsMan_99 : decode cX10_readsMan 99 = .ok (.iconst 0, 1) := by decide +kernel
theorem dX10_readsMan_100 : decode cX10_readsMan 100 = .ok (.bipush 9, 2) := by decide +kernel
theorem dX10_readsMan_102 : decode cX10_readsMan 102 = .ok (.invokevirtual 276, 3) := by decide +kernel
theorem dX10_readsMan_105 : decode cX10_readsMan 105 = .ok (.ifCond .ne 5, 3) := by decide +kernel
theorem dX10_readsMan_108 : decode cX10_readsMan 108 = .ok (.iconst 0, 1) := by decide +kernel
theorem dX10_readsMan_109 : decode cX10_readsMan 109 = .ok (.ireturn, 1) := by decide +kernel
theorem dX10_readsMan_110 : decode cX10_readsMan 110 = .ok (.aload_n 0, 1) := by decide +kernel
theorem dX10_readsMan_111 : decode cX10_readsMan 111 = .ok (.getfield 50, 3) := by decide +kernel
theorem dX10_readsMan_114 : decode cX10_readsMan 114 = .ok (.iload_n 1, 1) := by decide +kernel
theorem dX10_readsMan_115 : decode cX10_readsMan 115 = .ok (.aload_n 0, 1) := by decide +kernel
theorem dX10_readsMan_116 : decode cX10_readsMan 116 = .ok (.getfield 267, 3) := by decide +kernel
theorem dX10_readsMan_119 : decode cX10_readsMan 119 = .ok (.iastore, 1) := by decide +kernel
theorem dX10_readsMan_120 : decode cX10_readsMan 120 = .ok (.aload_n 0, 1) := by decide +kernel
theorem dX10_readsMan_121 : decode cX10_readsMan 121 = .ok (.ldc2_w 252, 3) := by decide +kernel
theorem dX10_readsMan_124 : decode cX10_readsMan 124 = .ok (.invokevirtual 286, 3) := by decide +kernel
theorem dX10_readsMan_127 : decode cX10_readsMan 127 = .ok (.ifCond .eq 13, 3) := by decide +kernel
theorem dX10_readsMan_130 : decode cX10_readsMan 130 = .ok (.aload_n 0, 1) := by decide +kernel
theorem dX10_readsMan_131 : decode cX10_readsMan 131 = .ok (.iconst 0, 1) := by decide +kernel
theorem dX10_readsMan_132 : decode cX10_readsMan 132 = .ok (.bipush 99, 2) := by decide +kernel
theorem dX10_readsMan_134 : decode cX10_readsMan 134 = .ok (.invokevirtual 276, 3) := by decide +kernel
theorem dX10_readsMan_137 : decode cX10_readsMan 137 = .ok (.ifCond .ne 5, 3) := by decide +kernel
theorem dX10_readsMan_140 : decode cX10_readsMan 140 = .ok (.iconst 0, 1) := by decide +kernel
theorem dX10_readsMan_141 : decode cX10_readsMan 141 = .ok (.ireturn, 1) := by decide +kernel
theorem dX10_readsMan_142 : decode cX10_readsMan 142 = .ok (.aload_n 0, 1) := by decide +kernel
theorem dX10_readsMan_143 : decode cX10_readsMan 143 = .ok (.getfield 53, 3) := by decide +kernel
theorem dX10_readsMan_146 : decode cX10_readsMan 146 = .ok (.iload_n 1, 1) := by decide +kernel
theorem dX10_readsMan_147 : decode cX10_readsMan 147 = .ok (.aload_n 0, 1) := by decide +kernel
theorem dX10_readsMan_148 : decode cX10_readsMan 148 = .ok (.getfield 267, 3) := by decide +kernel
theorem dX10_readsMan_151 : decode cX10_readsMan 151 = .ok (.iastore, 1) := by decide +kernel
theorem dX10_readsMan_152 : decode cX10_readsMan 152 = .ok (.aload_n 0, 1) := by decide +kernel
theorem dX10_readsMan_153 : decode cX10_readsMan 153 = .ok (.getfield 19, 3) := by decide +kernel
theorem dX10_readsMan_156 : decode cX10_readsMan 156 = .ok (.iconst 1, 1) := by decide +kernel
theorem dX10_readsMan_157 : decode cX10_readsMan 157 = .ok (.dup2, 1) := by decide +kernel
theorem dX10_readsMan_158 : decode cX10_readsMan 158 = .ok (.iaload, 1) := by decide +kernel
theorem dX10_readsMan_159 : decode cX10_readsMan 159 = .ok (.iconst 1, 1) := by decide +kernel
theorem dX10_readsMan_160 : decode cX10_readsMan 160 = .ok (.iadd, 1) := by decide +kernel
theorem dX10_readsMan_161 : decode cX10_readsMan 161 = .ok (.iastore, 1) := by decide +kernel
theorem dX10_readsMan_162 : decode cX10_readsMan 162 = .ok (.aload_n 0, 1) := by decide +kernel
theorem dX10_readsMan_163 : decode cX10_readsMan 163 = .ok (.invokevirtual 280, 3) := by decide +kernel
theorem dX10_readsMan_166 : decode cX10_readsMan 166 = .ok (.ireturn, 1) := by decide +kernel
theorem dX10_readsGuard_0 : decode cX10_readsGuard 0 = .ok (.iconst 2, 1) := by decide +kernel
theorem dX10_readsGuard_1 : decode cX10_readsGuard 1 = .ok (.aload_n 0, 1) := by decide +kernel
theorem dX10_readsGuard_2 : decode cX10_readsGuard 2 = .ok (.getfield 22, 3) := by decide +kernel
theorem dX10_readsGuard_5 : decode cX10_readsGuard 5 = .ok (.iconst 1, 1) := by decide +kernel
theorem dX10_readsGuard_6 : decode cX10_readsGuard 6 = .ok (.iaload, 1) := by decide +kernel
theorem dX10_readsGuard_7 : decode cX10_readsGuard 7 = .ok (.iadd, 1) := by decide +kernel
theorem dX10_readsGuard_8 : decode cX10_readsGuard 8 = .ok (.istore_n 1, 1) := by decide +kernel
theorem dX10_readsGuard_9 : decode cX10_readsGuard 9 = .ok (.aload_n 0, 1) := by decide +kernel
theorem dX10_readsGuard_10 : decode cX10_readsGuard 10 = .ok (.getfield 22, 3) := by decide +kernel
theorem dX10_readsGuard_13 : decode cX10_readsGuard 13 = .ok (.iconst 1, 1) := by decide +kernel
theorem dX10_readsGuard_14 : decode cX10_readsGuard 14 = .ok (.iaload, 1) := by decide +kernel
theorem dX10_readsGuard_15 : decode cX10_readsGuard 15 = .ok (.iconst 2, 1) := by decide +kernel
theorem dX10_readsGuard_16 : decode cX10_readsGuard 16 = .ok (.if_icmp .ne 9, 3) := by decide +kernel
theorem dX10_readsGuard_19 : decode cX10_readsGuard 19 = .ok (.aload_n 0, 1) := by decide +kernel
theorem dX10_readsGuard_20 : decode cX10_readsGuard 20 = .ok (.iconst 5, 1) := by decide +kernel
theorem dX10_readsGuard_21 : decode cX10_readsGuard 21 = .ok (.invokevirtual 213, 3) := by decide +kernel
theorem dX10_readsGuard_24 : decode cX10_readsGuard 24 = .ok (.ireturn, 1) := by decide +kernel
theorem dX10_readsGuard_25 : decode cX10_readsGuard 25 = .ok (.aload_n 0, 1) := by decide +kernel
theorem dX10_readsGuard_26 : decode cX10_readsGuard 26 = .ok (.invokevirtual 220, 3) := by decide +kernel
theorem dX10_readsGuard_29 : decode cX10_readsGuard 29 = .ok (.aload_n 0, 1) := by decide +kernel
theorem dX10_readsGuard_30 : decode cX10_readsGuard 30 = .ok (.getfield 56, 3) := by decide +kernel
theorem dX10_readsGuard_33 : decode cX10_readsGuard 33 = .ok (.iload_n 1, 1) := by decide +kernel
theorem dX10_readsGuard_34 : decode cX10_readsGuard 34 = .ok (.iconst 0, 1) := by decide +kernel
theorem dX10_readsGuard_35 : decode cX10_readsGuard 35 = .ok (.iastore, 1) := by decide +kernel
theorem dX10_readsGuard_36 : decode cX10_readsGuard 36 = .ok (.aload_n 0, 1) := by decide +kernel
theorem dX10_readsGuard_37 : decode cX10_readsGuard 37 = .ok (.getfield 56, 3) := by decide +kernel
theorem dX10_readsGuard_40 : decode cX10_readsGuard 40 = .ok (.iload_n 1, 1) := by decide +kernel
theorem dX10_readsGuard_41 : decode cX10_readsGuard 41 = .ok (.iaload, 1) := by decide +kernel
theorem dX10_readsGuard_42 : decode cX10_readsGuard 42 = .ok (.ifCond .eq 11, 3) := by decide +kernel
theorem dX10_readsGuard_45 : decode cX10_readsGuard 45 = .ok (.aload_n 0, 1) := by decide +kernel
theorem dX10_readsGuard_46 : decode cX10_readsGuard 46 = .ok (.getfield 160, 3) := by decide +kernel
theorem dX10_readsGuard_49 : decode cX10_readsGuard 49 = .ok (.iconst 1, 1) := by decide +kernel
theorem dX10_readsGuard_50 : decode cX10_readsGuard 50 = .ok (.if_icmp .ne 83, 3) := by decide +kernel
theorem dX10_readsGuard_53 : decode cX10_readsGuard 53 = .ok (.aload_n 0, 1) := by decide +kernel
theorem dX10_readsGuard_54 : decode cX10_readsGuard 54 = .ok (.invokevirtual 256, 3) := by decide +kernel
theorem dX10_readsGuard_57 : decode cX10_readsGuard 57 = .ok (.ifCond .eq 9, 3) := by decide +kernel
theorem dX10_readsGuard_60 : decode cX10_readsGuard 60 = .ok (.aload_n 0, 1) := by decide +kernel
theorem dX10_readsGuard_61 : decode cX10_readsGuard 61 = .ok (.iconst 1, 1) := by decide +kernel
theorem dX10_readsGuard_62 : decode cX10_readsGuard 62 = .ok (.invokevirtual 213, 3) := by decide +kernel
theorem dX10_readsGuard_65 : decode cX10_readsGuard 65 = .ok (.ireturn, 1) := by decide +kernel
theorem dX10_readsGuard_66 : decode cX10_readsGuard 66 = .ok (.aload_n 0, 1) := by decide +kernel
theorem dX10_readsGuard_67 : decode cX10_readsGuard 67 = .ok (.invokevirtual 260, 3) := by decide +kernel
theorem dX10_readsGuard_70 : decode cX10_readsGuard 70 = .ok (.ifCond .ge 9, 3) := by decide +kernel
theorem dX10_readsGuard_73 : decode cX10_readsGuard 73 = .ok (.aload_n 0, 1) := by decide +kernel
theorem dX10_readsGuard_74 : decode cX10_readsGuard 74 = .ok (.iconst 2, 1) := by decide +kernel
theorem dX10_readsGuard_75 : decode cX10_readsGuard 75 = .ok (.invokevirtual 213, 3) := by decide +kernel
theorem dX10_readsGuard_78 : decode cX10_readsGuard 78 = .ok (.ireturn, 1) := by decide +kernel
theorem dX10_readsGuard_79 : decode cX10_readsGuard 79 = .ok (.aload_n 0, 1) := by decide +kernel
theorem dX10_readsGuard_80 : decode cX10_readsGuard 80 = .ok (.getfield 56, 3) := by decide +kernel
theorem dX10_readsGuard_83 : decode cX10_readsGuard 83 = .ok (.iload_n 1, 1) := by decide +kernel
theorem dX10_readsGuard_84 : decode cX10_readsGuard 84 = .ok (.iaload, 1) := by decide +kernel
theorem dX10_readsGuard_85 : decode cX10_readsGuard 85 = .ok (.bipush 8, 2) := by decide +kernel
theorem dX10_readsGuard_87 : decode cX10_readsGuard 87 = .ok (.if_icmp .ne 9, 3) := by decide +kernel
theorem dX10_readsGuard_90 : decode cX10_readsGuard 90 = .ok (.aload_n 0, 1) := by decide +kernel
theorem dX10_readsGuard_91 : decode cX10_readsGuard 91 = .ok (.iconst 5, 1) := by decide +kernel
theorem dX10_readsGuard_92 : decode cX10_readsGuard 92 = .ok (.invokevirtual 213, 3) := by decide +kernel
theorem dX10_readsGuard_95 : decode cX10_readsGuard 95 = .ok (.ireturn, 1) := by decide +kernel
theorem dX10_readsGuard_96 : decode cX10_readsGuard 96 = .ok (.aload_n 0, 1) := by decide +kernel
theorem dX10_readsGuard_97 : decode cX10_readsGuard 97 = .ok (.getfield 59, 3) := by decide +kernel
theorem dX10_readsGuard_100 : decode cX10_readsGuard 100 = .ok (.bipush 8, 2) := by decide +kernel
theorem dX10_readsGuard_102 : decode cX10_readsGuard 102 = .ok (.iload_n 1, 1) := by decide +kernel
theorem dX10_readsGuard_103 : decode cX10_readsGuard 103 = .ok (.imul, 1) := by decide +kernel
theorem dX10_readsGuard_104 : decode cX10_readsGuard 104 = .ok (.aload_n 0, 1) := by decide +kernel
theorem dX10_readsGuard_105 : decode cX10_readsGuard 105 = .ok (.getfield 56, 3) := by decide +kernel
theorem dX10_readsGuard_108 : decode cX10_readsGuard 108 = .ok (.iload_n 1, 1) := by decide +kernel
theorem dX10_readsGuard_109 : decode cX10_readsGuard 109 = .ok (.iaload, 1) := by decide +kernel
theorem dX10_readsGuard_110 : decode cX10_readsGuard 110 = .ok (.iadd, 1) := by decide +kernel
theorem dX10_readsGuard_111 : decode cX10_readsGuard 111 = .ok (.aload_n 0, 1) := by decide +kernel
theorem dX10_readsGuard_112 : decode cX10_readsGuard 112 = .ok (.invokevirtual 260, 3) := by decide +kernel
theorem dX10_readsGuard_115 : decode cX10_readsGuard 115 = .ok (.iastore, 1) := by decide +kernel
theorem dX10_readsGuard_116 : decode cX10_readsGuard 116 = .ok (.aload_n 0, 1) := by decide +kernel
theorem dX10_readsGuard_117 : decode cX10_readsGuard 117 = .ok (.getfield 56, 3) := by decide +kernel
theorem dX10_readsGuard_120 : decode cX10_readsGuard 120 = .ok (.iload_n 1, 1) := by decide +kernel
theorem dX10_readsGuard_121 : decode cX10_readsGuard 121 = .ok (.dup2, 1) := by decide +kernel
theorem dX10_readsGuard_122 : decode cX10_readsGuard 122 = .ok (.iaload, 1) := by decide +kernel
theorem dX10_readsGuard_123 : decode cX10_readsGuard 123 = .ok (.iconst 1, 1) := by decide +kernel
theorem dX10_readsGuard_124 : decode cX10_readsGuard 124 = .ok (.iadd, 1) := by decide +kernel
theorem dX10_readsGuard_125 : decode cX10_readsGuard 125 = .ok (.iastore, 1) := by decide +kernel
theorem dX10_readsGuard_126 : decode cX10_readsGuard 126 = .ok (.aload_n 0, 1) := by decide +kernel
theorem dX10_readsGuard_127 : decode cX10_readsGuard 127 = .ok (.invokevirtual 220, 3) := by decide +kernel
theorem dX10_readsGuard_130 : decode cX10_readsGuard 130 = .ok (.goto (-94), 3) := by decide +kernel
theorem dX10_readsGuard_133 : decode cX10_readsGuard 133 = .ok (.aload_n 0, 1) := by decide +kernel
theorem dX10_readsGuard_134 : decode cX10_readsGuard 134 = .ok (.getfield 22, 3) := by decide +kernel
theorem dX10_readsGuard_137 : decode cX10_readsGuard 137 = .ok (.iconst 1, 1) := by decide +kernel
theorem dX10_readsGuard_138 : decode cX10_readsGuard 138 = .ok (.dup2, 1) := by decide +kernel
theorem dX10_readsGuard_139 : decode cX10_readsGuard 139 = .ok (.iaload, 1) := by decide +kernel
theorem dX10_readsGuard_140 : decode cX10_readsGuard 140 = .ok (.iconst 1, 1) := by decide +kernel
theorem dX10_readsGuard_141 : decode cX10_readsGuard 141 = .ok (.iadd, 1) := by decide +kernel
theorem dX10_readsGuard_142 : decode cX10_readsGuard 142 = .ok (.iastore, 1) := by decide +kernel
theorem dX10_readsGuard_143 : decode cX10_readsGuard 143 = .ok (.aload_n 0, 1) := by decide +kernel
theorem dX10_readsGuard_144 : decode cX10_readsGuard 144 = .ok (.invokevirtual 280, 3) := by decide +kernel
theorem dX10_readsGuard_147 : decode cX10_readsGuard 147 = .ok (.ireturn, 1) := by decide +kernel
theorem dX10_readsAll_0 : decode cX10_readsAll 0 = .ok (.aload_n 0, 1) := by decide +kernel
theorem dX10_readsAll_1 : decode cX10_readsAll 1 = .ok (.getfield 13, 3) := by decide +kernel
theorem dX10_readsAll_4 : decode cX10_readsAll 4 = .ok (.iconst 1, 1) := by decide +kernel
theorem dX10_readsAll_5 : decode cX10_readsAll 5 = .ok (.iconst 0, 1) := by decide +kernel
theorem dX10_readsAll_6 : decode cX10_readsAll 6 = .ok (.iastore, 1) := by decide +kernel
theorem dX10_readsAll_7 : decode cX10_readsAll 7 = .ok (.aload_n 0, 1) := by decide +kernel
theorem dX10_readsAll_8 : decode cX10_readsAll 8 = .ok (.getfield 16, 3) := by decide +kernel
theorem dX10_readsAll_11 : decode cX10_readsAll 11 = .ok (.iconst 1, 1) := by decide +kernel
theorem dX10_readsAll_12 : decode cX10_readsAll 12 = .ok (.iconst 0, 1) := by decide +kernel
theorem dX10_readsAll_13 : decode cX10_readsAll 13 = .ok (.iastore, 1) := by decide +kernel
theorem dX10_readsAll_14 : decode cX10_readsAll 14 = .ok (.aload_n 0, 1) := by decide +kernel
theorem dX10_readsAll_15 : decode cX10_readsAll 15 = .ok (.getfield 19, 3) := by decide +kernel
theorem dX10_readsAll_18 : decode cX10_readsAll 18 = .ok (.iconst 1, 1) := by decide +kernel
theorem dX10_readsAll_19 : decode cX10_readsAll 19 = .ok (.iconst 0, 1) := by decide +kernel
theorem dX10_readsAll_20 : decode cX10_readsAll 20 = .ok (.iastore, 1) := by decide +kernel
theorem dX10_readsAll_21 : decode cX10_readsAll 21 = .ok (.aload_n 0, 1) := by decide +kernel
theorem dX10_readsAll_22 : decode cX10_readsAll 22 = .ok (.getfield 22, 3) := by decide +kernel
theorem dX10_readsAll_25 : decode cX10_readsAll 25 = .ok (.iconst 1, 1) := by decide +kernel
theorem dX10_readsAll_26 : decode cX10_readsAll 26 = .ok (.iconst 0, 1) := by decide +kernel
theorem dX10_readsAll_27 : decode cX10_readsAll 27 = .ok (.iastore, 1) := by decide +kernel
theorem dX10_readsAll_28 : decode cX10_readsAll 28 = .ok (.aload_n 0, 1) := by decide +kernel
theorem dX10_readsAll_29 : decode cX10_readsAll 29 = .ok (.getfield 25, 3) := by decide +kernel
theorem dX10_readsAll_32 : decode cX10_readsAll 32 = .ok (.iconst 1, 1) := by decide +kernel
theorem dX10_readsAll_33 : decode cX10_readsAll 33 = .ok (.iconst 0, 1) := by decide +kernel
theorem dX10_readsAll_34 : decode cX10_readsAll 34 = .ok (.iastore, 1) := by decide +kernel
theorem dX10_readsAll_35 : decode cX10_readsAll 35 = .ok (.aload_n 0, 1) := by decide +kernel
theorem dX10_readsAll_36 : decode cX10_readsAll 36 = .ok (.iconst 0, 1) := by decide +kernel
theorem dX10_readsAll_37 : decode cX10_readsAll 37 = .ok (.putfield 273, 3) := by decide +kernel
theorem dX10_readsAll_40 : decode cX10_readsAll 40 = .ok (.aload_n 0, 1) := by decide +kernel
theorem dX10_readsAll_41 : decode cX10_readsAll 41 = .ok (.sipush 1000, 3) := by decide +kernel
theorem dX10_readsAll_44 : decode cX10_readsAll 44 = .ok (.putfield 174, 3) := by decide +kernel
theorem dX10_readsAll_47 : decode cX10_readsAll 47 = .ok (.iconst 2, 1) := by decide +kernel
theorem dX10_readsAll_48 : decode cX10_readsAll 48 = .ok (.istore_n 1, 1) := by decide +kernel
theorem dX10_readsAll_49 : decode cX10_readsAll 49 = .ok (.iload_n 1, 1) := by decide +kernel
theorem dX10_readsAll_50 : decode cX10_readsAll 50 = .ok (.iconst 4, 1) := by decide +kernel
theorem dX10_readsAll_51 : decode cX10_readsAll 51 = .ok (.if_icmp .ge 27, 3) := by decide +kernel
theorem dX10_readsAll_54 : decode cX10_readsAll 54 = .ok (.aload_n 0, 1) := by decide +kernel
theorem dX10_readsAll_55 : decode cX10_readsAll 55 = .ok (.getfield 62, 3) := by decide +kernel
theorem dX10_readsAll_58 : decode cX10_readsAll 58 = .ok (.iload_n 1, 1) := by decide +kernel
theorem dX10_readsAll_59 : decode cX10_readsAll 59 = .ok (.sipush 1000, 3) := by decide +kernel
theorem dX10_readsAll_62 : decode cX10_readsAll 62 = .ok (.iastore, 1) := by decide +kernel
theorem dX10_readsAll_63 : decode cX10_readsAll 63 = .ok (.aload_n 0, 1) := by decide +kernel
theorem dX10_readsAll_64 : decode cX10_readsAll 64 = .ok (.getfield 65, 3) := by decide +kernel
theorem dX10_readsAll_67 : decode cX10_readsAll 67 = .ok (.iload_n 1, 1) := by decide +kernel
theorem dX10_readsAll_68 : decode cX10_readsAll 68 = .ok (.sipush 1000, 3) := by decide +kernel
theorem dX10_readsAll_71 : decode cX10_readsAll 71 = .ok (.iastore, 1) := by decide +kernel
theorem dX10_readsAll_72 : decode cX10_readsAll 72 = .ok (.iinc 1 1, 3) := by decide +kernel
theorem dX10_readsAll_75 : decode cX10_readsAll 75 = .ok (.goto (-26), 3) := by decide +kernel
theorem dX10_readsAll_78 : decode cX10_readsAll 78 = .ok (.aload_n 0, 1) := by decide +kernel
theorem dX10_readsAll_79 : decode cX10_readsAll 79 = .ok (.aload_n 0, 1) := by decide +kernel
theorem dX10_readsAll_80 : decode cX10_readsAll 80 = .ok (.getfield 141, 3) := by decide +kernel
theorem dX10_readsAll_83 : decode cX10_readsAll 83 = .ok (.putfield 144, 3) := by decide +kernel
theorem dX10_readsAll_86 : decode cX10_readsAll 86 = .ok (.aload_n 0, 1) := by decide +kernel
theorem dX10_readsAll_87 : decode cX10_readsAll 87 = .ok (.iconst 0, 1) := by decide +kernel
theorem dX10_readsAll_88 : decode cX10_readsAll 88 = .ok (.putfield 141, 3) := by decide +kernel
theorem dX10_readsAll_91 : decode cX10_readsAll 91 = .ok (.aload_n 0, 1) := by decide +kernel
theorem dX10_readsAll_92 : decode cX10_readsAll 92 = .ok (.iconst 0, 1) := by decide +kernel
theorem dX10_readsAll_93 : decode cX10_readsAll 93 = .ok (.putfield 147, 3) := by decide +kernel
theorem dX10_readsAll_96 : decode cX10_readsAll 96 = .ok (.aload_n 0, 1) := by decide +kernel
theorem dX10_readsAll_97 : decode cX10_readsAll 97 = .ok (.invokevirtual 220, 3) := by decide +kernel
theorem dX10_readsAll_100 : decode cX10_readsAll 100 = .ok (.aload_n 0, 1) := by decide +kernel
theorem dX10_readsAll_101 : decode cX10_readsAll 101 = .ok (.getfield 160, 3) := by decide +kernel
theorem dX10_readsAll_104 : decode cX10_readsAll 104 = .ok (.ifCond .eq 139, 3) := by decide +kernel
theorem dX10_readsAll_107 : decode cX10_readsAll 107 = .ok (.aload_n 0, 1) := by decide +kernel
theorem dX10_readsAll_108 : decode cX10_readsAll 108 = .ok (.ldc2_w 236, 3) := by decide +kernel
theorem dX10_readsAll_111 : decode cX10_readsAll 111 = .ok (.invokevirtual 205, 3) := by decide +kernel
theorem dX10_readsAll_114 : decode cX10_readsAll 114 = .ok (.ifCond .eq 11, 3) := by decide +kernel
theorem dX10_readsAll_117 : decode cX10_readsAll 117 = .ok (.aload_n 0, 1) := by decide +kernel
theorem dX10_readsAll_118 : decode cX10_readsAll 118 = .ok (.iconst 0, 1) := by decide +kernel
theorem dX10_readsAll_119 : decode cX10_readsAll 119 = .ok (.invokevirtual 292, 3) := by decide +kernel
theorem dX10_readsAll_122 : decode cX10_readsAll 122 = .ok (.goto 111, 3) := by decide +kernel
theorem dX10_readsAll_125 : decode cX10_readsAll 125 = .ok (.aload_n 0, 1) := by decide +kernel
theorem dX10_readsAll_126 : decode cX10_readsAll 126 = .ok (.ldc2_w 189, 3) := by decide +kernel
theorem dX10_readsAll_129 : decode cX10_readsAll 129 = .ok (.invokevirtual 205, 3) := by decide +kernel
theorem dX10_readsAll_132 : decode cX10_readsAll 132 = .ok (.ifCond .eq 11, 3) := by decide +kernel
theorem dX10_readsAll_135 : decode cX10_readsAll 135 = .ok (.aload_n 0, 1) := by decide +kernel
theorem dX10_readsAll_136 : decode cX10_readsAll 136 = .ok (.iconst 1, 1) := by decide +kernel
theorem dX10_readsAll_137 : decode cX10_readsAll 137 = .ok (.invokevirtual 292, 3) := by decide +kernel
theorem dX10_readsAll_140 : decode cX10_readsAll 140 = .ok (.goto 93, 3) := by decide +kernel
theorem dX10_readsAll_143 : decode cX10_readsAll 143 = .ok (.aload_n 0, 1) := by decide +kernel
theorem dX10_readsAll_144 : decode cX10_readsAll 144 = .ok (.ldc2_w 197, 3) := by decide +kernel
theorem dX10_readsAll_147 : decode cX10_readsAll 147 = .ok (.invokevirtual 205, 3) := by decide +kernel
theorem dX10_readsAll_150 : decode cX10_readsAll 150 = .ok (.ifCond .eq 10, 3) := by decide +kernel
theorem dX10_readsAll_153 : decode cX10_readsAll 153 = .ok (.aload_n 0, 1) := by decide +kernel
theorem dX10_readsAll_154 : decode cX10_readsAll 154 = .ok (.invokevirtual 295, 3) := by decide +kernel
theorem dX10_readsAll_157 : decode cX10_readsAll 157 = .ok (.goto 76, 3) := by decide +kernel
theorem dX10_readsAll_160 : decode cX10_readsAll 160 = .ok (.aload_n 0, 1) := by decide +kernel
theorem dX10_readsAll_161 : decode cX10_readsAll 161 = .ok (.ldc2_w 238, 3) := by decide +kernel
theorem dX10_readsAll_164 : decode cX10_readsAll 164 = .ok (.invokevirtual 205, 3) := by decide +kernel
theorem dX10_readsAll_167 : decode cX10_readsAll 167 = .ok (.ifCond .eq 10, 3) := by decide +kernel
theorem dX10_readsAll_170 : decode cX10_readsAll 170 = .ok (.aload_n 0, 1) := by decide +kernel
theorem dX10_readsAll_171 : decode cX10_readsAll 171 = .ok (.invokevirtual 298, 3) := by decide +kernel
theorem dX10_readsAll_174 : decode cX10_readsAll 174 = .ok (.goto 59, 3) := by decide +kernel
theorem dX10_readsAll_177 : decode cX10_readsAll 177 = .ok (.aload_n 0, 1) := by decide +kernel
theorem dX10_readsAll_178 : decode cX10_readsAll 178 = .ok (.ldc2_w 240, 3) := by decide +kernel
theorem dX10_readsAll_181 : decode cX10_readsAll 181 = .ok (.invokevirtual 205, 3) := by decide +kernel
theorem dX10_readsAll_184 : decode cX10_readsAll 184 = .ok (.ifCond .eq 10, 3) := by decide +kernel
theorem dX10_readsAll_187 : decode cX10_readsAll 187 = .ok (.aload_n 0, 1) := by decide +kernel
theorem dX10_readsAll_188 : decode cX10_readsAll 188 = .ok (.invokevirtual 301, 3) := by decide +kernel
theorem dX10_readsAll_191 : decode cX10_readsAll 191 = .ok (.goto 42, 3) := by decide +kernel
theorem dX10_readsAll_194 : decode cX10_readsAll 194 = .ok (.aload_n 0, 1) := by decide +kernel
theorem dX10_readsAll_195 : decode cX10_readsAll 195 = .ok (.ldc2_w 248, 3) := by decide +kernel
theorem dX10_readsAll_198 : decode cX10_readsAll 198 = .ok (.invokevirtual 205, 3) := by decide +kernel
theorem dX10_readsAll_201 : decode cX10_readsAll 201 = .ok (.ifCond .eq 10, 3) := by decide +kernel
theorem dX10_readsAll_204 : decode cX10_readsAll 204 = .ok (.aload_n 0, 1) := by decide +kernel
theorem dX10_readsAll_205 : decode cX10_readsAll 205 = .ok (.invokevirtual 304, 3) := by decide +kernel
theorem dX10_readsAll_208 : decode cX10_readsAll 208 = .ok (.goto 25, 3) := by decide +kernel
theorem dX10_readsAll_211 : decode cX10_readsAll 211 = .ok (.aload_n 0, 1) := by decide +kernel
theorem dX10_readsAll_212 : decode cX10_readsAll 212 = .ok (.ldc2_w 254, 3) := by decide +kernel
theorem dX10_readsAll_215 : decode cX10_readsAll 215 = .ok (.invokevirtual 205, 3) := by decide +kernel
theorem dX10_readsAll_218 : decode cX10_readsAll 218 = .ok (.ifCond .eq 10, 3) := by decide +kernel
theorem dX10_readsAll_221 : decode cX10_readsAll 221 = .ok (.aload_n 0, 1) := by decide +kernel
theorem dX10_readsAll_222 : decode cX10_readsAll 222 = .ok (.invokevirtual 307, 3) := by decide +kernel
theorem dX10_readsAll_225 : decode cX10_readsAll 225 = .ok (.goto 8, 3) := by decide +kernel
theorem dX10_readsAll_228 : decode cX10_readsAll 228 = .ok (.aload_n 0, 1) := by decide +kernel
theorem dX10_readsAll_229 : decode cX10_readsAll 229 = .ok (.iconst 1, 1) := by decide +kernel
theorem dX10_readsAll_230 : decode cX10_readsAll 230 = .ok (.invokevirtual 213, 3) := by decide +kernel
theorem dX10_readsAll_233 : decode cX10_readsAll 233 = .ok (.istore_n 1, 1) := by decide +kernel
theorem dX10_readsAll_234 : decode cX10_readsAll 234 = .ok (.iload_n 1, 1) := by decide +kernel
theorem dX10_readsAll_235 : decode cX10_readsAll 235 = .ok (.ifCond .ne 5, 3) := by decide +kernel
theorem dX10_readsAll_238 : decode cX10_readsAll 238 = .ok (.iconst 0, 1) := by decide +kernel
theorem dX10_readsAll_239 : decode cX10_readsAll 239 = .ok (.ireturn, 1) := by decide +kernel
theorem dX10_readsAll_240 : decode cX10_readsAll 240 = .ok (.goto (-140), 3) := by decide +kernel
theorem dX10_readsAll_243 : decode cX10_readsAll 243 = .ok (.iconst 1, 1) := by decide +kernel
theorem dX10_readsAll_244 : decode cX10_readsAll 244 = .ok (.ireturn, 1) := by decide +kernel
theorem dX10_moves_0 : decode cX10_moves 0 = .ok (.iconst 0, 1) := by decide +kernel
theorem dX10_moves_1 : decode cX10_moves 1 = .ok (.istore 4, 2) := by decide +kernel
theorem dX10_moves_3 : decode cX10_moves 3 = .ok (.iload 4, 2) := by decide +kernel
theorem dX10_moves_5 : decode cX10_moves 5 = .ok (.iload_n 1, 1) := by decide +kernel
theorem dX10_moves_6 : decode cX10_moves 6 = .ok (.if_icmp .ge 25, 3) := by decide +kernel
theorem dX10_moves_9 : decode cX10_moves 9 = .ok (.aload_n 0, 1) := by decide +kernel
theorem dX10_moves_10 : decode cX10_moves 10 = .ok (.iload_n 1, 1) := by decide +kernel
theorem dX10_moves_11 : decode cX10_moves 11 = .ok (.iload_n 3, 1) := by decide +kernel
theorem dX10_moves_12 : decode cX10_moves 12 = .ok (.imul, 1) := by decide +kernel
theorem dX10_moves_13 : decode cX10_moves 13 = .ok (.iload 4, 2) := by decide +kernel
theorem dX10_moves_15 : decode cX10_moves 15 = .ok (.iadd, 1) := by decide +kernel
theorem dX10_moves_16 : decode cX10_moves 16 = .ok (.aload_n 0, 1) := by decide +kernel
theorem dX10_moves_17 : decode cX10_moves 17 = .ok (.iload_n 1, 1) := by decide +kernel
theorem dX10_moves_18 : decode cX10_moves 18 = .ok (.iload_n 2, 1) := by decide +kernel
theorem dX10_moves_19 : decode cX10_moves 19 = .ok (.imul, 1) := by decide +kernel
theorem dX10_moves_20 : decode cX10_moves 20 = .ok (.iload 4, 2) := by decide +kernel
theorem dX10_moves_22 : decode cX10_moves 22 = .ok (.iadd, 1) := by decide +kernel
theorem dX10_moves_23 : decode cX10_moves 23 = .ok (.iaload, 1) := by decide +kernel
theorem dX10_moves_24 : decode cX10_moves 24 = .ok (.iastore, 1) := by decide +kernel
theorem dX10_moves_25 : decode cX10_moves 25 = .ok (.iinc 4 1, 3) := by decide +kernel
theorem dX10_moves_28 : decode cX10_moves 28 = .ok (.goto (-25), 3) := by decide +kernel
theorem dX10_moves_31 : decode cX10_moves 31 = .ok (.return_, 1) := by decide +kernel
theorem dX10_lays_0 : decode cX10_lays 0 = .ok (.aload_n 0, 1) := by decide +kernel
theorem dX10_lays_1 : decode cX10_lays 1 = .ok (.getfield 13, 3) := by decide +kernel
theorem dX10_lays_4 : decode cX10_lays 4 = .ok (.iconst 1, 1) := by decide +kernel
theorem dX10_lays_5 : decode cX10_lays 5 = .ok (.iload_n 1, 1) := by decide +kernel
theorem dX10_lays_6 : decode cX10_lays 6 = .ok (.iload_n 2, 1) := by decide +kernel
theorem dX10_lays_7 : decode cX10_lays 7 = .ok (.invokestatic 310, 3) := by decide +kernel
theorem dX10_lays_10 : decode cX10_lays 10 = .ok (.aload_n 0, 1) := by decide +kernel
theorem dX10_lays_11 : decode cX10_lays 11 = .ok (.getfield 16, 3) := by decide +kernel
theorem dX10_lays_14 : decode cX10_lays 14 = .ok (.iconst 1, 1) := by decide +kernel
theorem dX10_lays_15 : decode cX10_lays 15 = .ok (.iload_n 1, 1) := by decide +kernel
theorem dX10_lays_16 : decode cX10_lays 16 = .ok (.iload_n 2, 1) := by decide +kernel
theorem dX10_lays_17 : decode cX10_lays 17 = .ok (.invokestatic 310, 3) := by decide +kernel
theorem dX10_lays_20 : decode cX10_lays 20 = .ok (.aload_n 0, 1) := by decide +kernel
theorem dX10_lays_21 : decode cX10_lays 21 = .ok (.getfield 19, 3) := by decide +kernel
theorem dX10_lays_24 : decode cX10_lays 24 = .ok (.iconst 1, 1) := by decide +kernel
theorem dX10_lays_25 : decode cX10_lays 25 = .ok (.iload_n 1, 1) := by decide +kernel
theorem dX10_lays_26 : decode cX10_lays 26 = .ok (.iload_n 2, 1) := by decide +kernel
theorem dX10_lays_27 : decode cX10_lays 27 = .ok (.invokestatic 310, 3) := by decide +kernel
theorem dX10_lays_30 : decode cX10_lays 30 = .ok (.aload_n 0, 1) := by decide +kernel
theorem dX10_lays_31 : decode cX10_lays 31 = .ok (.getfield 22, 3) := by decide +kernel
theorem dX10_lays_34 : decode cX10_lays 34 = .ok (.iconst 1, 1) := by decide +kernel
theorem dX10_lays_35 : decode cX10_lays 35 = .ok (.iload_n 1, 1) := by decide +kernel
theorem dX10_lays_36 : decode cX10_lays 36 = .ok (.iload_n 2, 1) := by decide +kernel
theorem dX10_lays_37 : decode cX10_lays 37 = .ok (.invokestatic 310, 3) := by decide +kernel
theorem dX10_lays_40 : decode cX10_lays 40 = .ok (.aload_n 0, 1) := by decide +kernel
theorem dX10_lays_41 : decode cX10_lays 41 = .ok (.getfield 25, 3) := by decide +kernel
theorem dX10_lays_44 : decode cX10_lays 44 = .ok (.iconst 1, 1) := by decide +kernel
theorem dX10_lays_45 : decode cX10_lays 45 = .ok (.iload_n 1, 1) := by decide +kernel
theorem dX10_lays_46 : decode cX10_lays 46 = .ok (.iload_n 2, 1) := by decide +kernel
theorem dX10_lays_47 : decode cX10_lays 47 = .ok (.invokestatic 310, 3) := by decide +kernel
theorem dX10_lays_50 : decode cX10_lays 50 = .ok (.aload_n 0, 1) := by decide +kernel
theorem dX10_lays_51 : decode cX10_lays 51 = .ok (.getfield 35, 3) := by decide +kernel
theorem dX10_lays_54 : decode cX10_lays 54 = .ok (.bipush 8, 2) := by decide +kernel
theorem dX10_lays_56 : decode cX10_lays 56 = .ok (.iload_n 1, 1) := by decide +kernel
theorem dX10_lays_57 : decode cX10_lays 57 = .ok (.iload_n 2, 1) := by decide +kernel
theorem dX10_lays_58 : decode cX10_lays 58 = .ok (.invokestatic 310, 3) := by decide +kernel
theorem dX10_lays_61 : decode cX10_lays 61 = .ok (.aload_n 0, 1) := by decide +kernel
theorem dX10_lays_62 : decode cX10_lays 62 = .ok (.getfield 38, 3) := by decide +kernel
theorem dX10_lays_65 : decode cX10_lays 65 = .ok (.bipush 10, 2) := by decide +kernel
theorem dX10_lays_67 : decode cX10_lays 67 = .ok (.iload_n 1, 1) := by decide +kernel
theorem dX10_lays_68 : decode cX10_lays 68 = .ok (.iload_n 2, 1) := by decide +kernel
theorem dX10_lays_69 : decode cX10_lays 69 = .ok (.invokestatic 310, 3) := by decide +kernel
theorem dX10_lays_72 : decode cX10_lays 72 = .ok (.aload_n 0, 1) := by decide +kernel
theorem dX10_lays_73 : decode cX10_lays 73 = .ok (.getfield 41, 3) := by decide +kernel
theorem dX10_lays_76 : decode cX10_lays 76 = .ok (.bipush 10, 2) := by decide +kernel
theorem dX10_lays_78 : decode cX10_lays 78 = .ok (.iload_n 1, 1) := by decide +kernel
theorem dX10_lays_79 : decode cX10_lays 79 = .ok (.iload_n 2, 1) := by decide +kernel
theorem dX10_lays_80 : decode cX10_lays 80 = .ok (.invokestatic 310, 3) := by decide +kernel
theorem dX10_lays_83 : decode cX10_lays 83 = .ok (.aload_n 0, 1) := by decide +kernel
theorem dX10_lays_84 : decode cX10_lays 84 = .ok (.getfield 44, 3) := by decide +kernel
theorem dX10_lays_87 : decode cX10_lays 87 = .ok (.bipush 10, 2) := by decide +kernel
theorem dX10_lays_89 : decode cX10_lays 89 = .ok (.iload_n 1, 1) := by decide +kernel
theorem dX10_lays_90 : decode cX10_lays 90 = .ok (.iload_n 2, 1) := by decide +kernel
theorem dX10_lays_91 : decode cX10_lays 91 = .ok (.invokestatic 310, 3) := by decide +kernel
theorem dX10_lays_94 : decode cX10_lays 94 = .ok (.aload_n 0, 1) := by decide +kernel
theorem dX10_lays_95 : decode cX10_lays 95 = .ok (.getfield 47, 3) := by decide +kernel
theorem dX10_lays_98 : decode cX10_lays 98 = .ok (.bipush 6, 2) := by decide +kernel
theorem dX10_lays_100 : decode cX10_lays 100 = .ok (.iload_n 1, 1) := by decide +kernel
theorem dX10_lays_101 : decode cX10_lays 101 = .ok (.iload_n 2, 1) := by decide +kernel
theorem dX10_lays_102 : decode cX10_lays 102 = .ok (.invokestatic 310, 3) := by decide +kernel
theorem dX10_lays_105 : decode cX10_lays 105 = .ok (.aload_n 0, 1) := by decide +kernel
theorem dX10_lays_106 : decode cX10_lays 106 = .ok (.getfield 50, 3) := by decide +kernel
theorem dX10_lays_109 : decode cX10_lays 109 = .ok (.bipush 6, 2) := by decide +kernel
theorem dX10_lays_111 : decode cX10_lays 111 = .ok (.iload_n 1, 1) := by decide +kernel
theorem dX10_lays_112 : decode cX10_lays 112 = .ok (.iload_n 2, 1) := by decide +kernel
theorem dX10_lays_113 : decode cX10_lays 113 = .ok (.invokestatic 310, 3) := by decide +kernel
theorem dX10_lays_116 : decode cX10_lays 116 = .ok (.aload_n 0, 1) := by decide +kernel
theorem dX10_lays_117 : decode cX10_lays 117 = .ok (.getfield 53, 3) := by decide +kernel
theorem dX10_lays_120 : decode cX10_lays 120 = .ok (.bipush 6, 2) := by decide +kernel
theorem dX10_lays_122 : decode cX10_lays 122 = .ok (.iload_n 1, 1) := by decide +kernel
theorem dX10_lays_123 : decode cX10_lays 123 = .ok (.iload_n 2, 1) := by decide +kernel
theorem dX10_lays_124 : decode cX10_lays 124 = .ok (.invokestatic 310, 3) := by decide +kernel
theorem dX10_lays_127 : decode cX10_lays 127 = .ok (.aload_n 0, 1) := by decide +kernel
theorem dX10_lays_128 : decode cX10_lays 128 = .ok (.getfield 56, 3) := by decide +kernel
theorem dX10_lays_131 : decode cX10_lays 131 = .ok (.iconst 2, 1) := by decide +kernel
theorem dX10_lays_132 : decode cX10_lays 132 = .ok (.iload_n 1, 1) := by decide +kernel
theorem dX10_lays_133 : decode cX10_lays 133 = .ok (.iload_n 2, 1) := by decide +kernel
theorem dX10_lays_134 : decode cX10_lays 134 = .ok (.invokestatic 310, 3) := by decide +kernel
theorem dX10_lays_137 : decode cX10_lays 137 = .ok (.aload_n 0, 1) := by decide +kernel
theorem dX10_lays_138 : decode cX10_lays 138 = .ok (.getfield 59, 3) := by decide +kernel
theorem dX10_lays_141 : decode cX10_lays 141 = .ok (.bipush 16, 2) := by decide +kernel
theorem dX10_lays_143 : decode cX10_lays 143 = .ok (.iload_n 1, 1) := by decide +kernel
theorem dX10_lays_144 : decode cX10_lays 144 = .ok (.iload_n 2, 1) := by decide +kernel
theorem dX10_lays_145 : decode cX10_lays 145 = .ok (.invokestatic 310, 3) := by decide +kernel
theorem dX10_lays_148 : decode cX10_lays 148 = .ok (.aload_n 0, 1) := by decide +kernel
theorem dX10_lays_149 : decode cX10_lays 149 = .ok (.getfield 68, 3) := by decide +kernel
theorem dX10_lays_152 : decode cX10_lays 152 = .ok (.sipush 1000, 3) := by decide +kernel
theorem dX10_lays_155 : decode cX10_lays 155 = .ok (.iload_n 1, 1) := by decide +kernel
theorem dX10_lays_156 : decode cX10_lays 156 = .ok (.iload_n 2, 1) := by decide +kernel
theorem dX10_lays_157 : decode cX10_lays 157 = .ok (.invokestatic 310, 3) := by decide +kernel
theorem dX10_lays_160 : decode cX10_lays 160 = .ok (.iconst 0, 1) := by decide +kernel
theorem dX10_lays_161 : decode cX10_lays 161 = .ok (.istore_n 3, 1) := by decide +kernel
theorem dX10_lays_162 : decode cX10_lays 162 = .ok (.iload_n 3, 1) := by decide +kernel
theorem dX10_lays_163 : decode cX10_lays 163 = .ok (.iconst 2, 1) := by decide +kernel
theorem dX10_lays_164 : decode cX10_lays 164 = .ok (.if_icmp .ge 65, 3) := by decide +kernel
theorem dX10_lays_167 : decode cX10_lays 167 = .ok (.aload_n 0, 1) := by decide +kernel
theorem dX10_lays_168 : decode cX10_lays 168 = .ok (.getfield 62, 3) := by decide +kernel
theorem dX10_lays_171 : decode cX10_lays 171 = .ok (.iconst 2, 1) := by decide +kernel
theorem dX10_lays_172 : decode cX10_lays 172 = .ok (.iload_n 2, 1) := by decide +kernel
theorem dX10_lays_173 : decode cX10_lays 173 = .ok (.imul, 1) := by decide +kernel
theorem dX10_lays_174 : decode cX10_lays 174 = .ok (.iload_n 3, 1) := by decide +kernel
theorem dX10_lays_175 : decode cX10_lays 175 = .ok (.iadd, 1) := by decide +kernel
theorem dX10_lays_176 : decode cX10_lays 176 = .ok (.aload_n 0, 1) := by decide +kernel
theorem dX10_lays_177 : decode cX10_lays 177 = .ok (.getfield 62, 3) := by decide +kernel
theorem dX10_lays_180 : decode cX10_lays 180 = .ok (.iconst 2, 1) := by decide +kernel
theorem dX10_lays_181 : decode cX10_lays 181 = .ok (.iload_n 1, 1) := by decide +kernel
theorem dX10_lays_182 : decode cX10_lays 182 = .ok (.imul, 1) := by decide +kernel
theorem dX10_lays_183 : decode cX10_lays 183 = .ok (.iload_n 3, 1) := by decide +kernel
theorem dX10_lays_184 : decode cX10_lays 184 = .ok (.iadd, 1) := by decide +kernel
theorem dX10_lays_185 : decode cX10_lays 185 = .ok (.iaload, 1) := by decide +kernel
theorem dX10_lays_186 : decode cX10_lays 186 = .ok (.sipush 1000, 3) := by decide +kernel
theorem dX10_lays_189 : decode cX10_lays 189 = .ok (.iload_n 2, 1) := by decide +kernel
theorem dX10_lays_190 : decode cX10_lays 190 = .ok (.iload_n 1, 1) := by decide +kernel
theorem dX10_lays_191 : decode cX10_lays 191 = .ok (.isub, 1) := by decide +kernel
theorem dX10_lays_192 : decode cX10_lays 192 = .ok (.imul, 1) := by decide +kernel
theorem dX10_lays_193 : decode cX10_lays 193 = .ok (.iadd, 1) := by decide +kernel
theorem dX10_lays_194 : decode cX10_lays 194 = .ok (.iastore, 1) := by decide +kernel
theorem dX10_lays_195 : decode cX10_lays 195 = .ok (.aload_n 0, 1) := by decide +kernel
theorem dX10_lays_196 : decode cX10_lays 196 = .ok (.getfield 65, 3) := by decide +kernel
theorem dX10_lays_199 : decode cX10_lays 199 = .ok (.iconst 2, 1) := by decide +kernel
theorem dX10_lays_200 : decode cX10_lays 200 = .ok (.iload_n 2, 1) := by decide +kernel
theorem dX10_lays_201 : decode cX10_lays 201 = .ok (.imul, 1) := by decide +kernel
theorem dX10_lays_202 : decode cX10_lays 202 = .ok (.iload_n 3, 1) := by decide +kernel
theorem dX10_lays_203 : decode cX10_lays 203 = .ok (.iadd, 1) := by decide +kernel
theorem dX10_lays_204 : decode cX10_lays 204 = .ok (.aload_n 0, 1) := by decide +kernel
theorem dX10_lays_205 : decode cX10_lays 205 = .ok (.getfield 65, 3) := by decide +kernel
theorem dX10_lays_208 : decode cX10_lays 208 = .ok (.iconst 2, 1) := by decide +kernel
theorem dX10_lays_209 : decode cX10_lays 209 = .ok (.iload_n 1, 1) := by decide +kernel
theorem dX10_lays_210 : decode cX10_lays 210 = .ok (.imul, 1) := by decide +kernel
theorem dX10_lays_211 : decode cX10_lays 211 = .ok (.iload_n 3, 1) := by decide +kernel
theorem dX10_lays_212 : decode cX10_lays 212 = .ok (.iadd, 1) := by decide +kernel
theorem dX10_lays_213 : decode cX10_lays 213 = .ok (.iaload, 1) := by decide +kernel
theorem dX10_lays_214 : decode cX10_lays 214 = .ok (.sipush 1000, 3) := by decide +kernel
theorem dX10_lays_217 : decode cX10_lays 217 = .ok (.iload_n 2, 1) := by decide +kernel
theorem dX10_lays_218 : decode cX10_lays 218 = .ok (.iload_n 1, 1) := by decide +kernel
theorem dX10_lays_219 : decode cX10_lays 219 = .ok (.isub, 1) := by decide +kernel
theorem dX10_lays_220 : decode cX10_lays 220 = .ok (.imul, 1) := by decide +kernel
theorem dX10_lays_221 : decode cX10_lays 221 = .ok (.iadd, 1) := by decide +kernel
theorem dX10_lays_222 : decode cX10_lays 222 = .ok (.iastore, 1) := by decide +kernel
theorem dX10_lays_223 : decode cX10_lays 223 = .ok (.iinc 3 1, 3) := by decide +kernel
theorem dX10_lays_226 : decode cX10_lays 226 = .ok (.goto (-64), 3) := by decide +kernel
theorem dX10_lays_229 : decode cX10_lays 229 = .ok (.return_, 1) := by decide +kernel
theorem dX10_copies_0 : decode cX10_copies 0 = .ok (.iconst 0, 1) := by decide +kernel
theorem dX10_copies_1 : decode cX10_copies 1 = .ok (.istore 4, 2) := by decide +kernel
theorem dX10_copies_3 : decode cX10_copies 3 = .ok (.iload 4, 2) := by decide +kernel
theorem dX10_copies_5 : decode cX10_copies 5 = .ok (.bipush 96, 2) := by decide +kernel
theorem dX10_copies_7 : decode cX10_copies 7 = .ok (.if_icmp .ge 21, 3) := by decide +kernel
theorem dX10_copies_10 : decode cX10_copies 10 = .ok (.aload_n 2, 1) := by decide +kernel
theorem dX10_copies_11 : decode cX10_copies 11 = .ok (.iload_n 3, 1) := by decide +kernel
theorem dX10_copies_12 : decode cX10_copies 12 = .ok (.iload 4, 2) := by decide +kernel
theorem dX10_copies_14 : decode cX10_copies 14 = .ok (.iadd, 1) := by decide +kernel
theorem dX10_copies_15 : decode cX10_copies 15 = .ok (.aload_n 0, 1) := by decide +kernel
theorem dX10_copies_16 : decode cX10_copies 16 = .ok (.iload_n 1, 1) := by decide +kernel
theorem dX10_copies_17 : decode cX10_copies 17 = .ok (.iload 4, 2) := by decide +kernel
theorem dX10_copies_19 : decode cX10_copies 19 = .ok (.iadd, 1) := by decide +kernel
theorem dX10_copies_20 : decode cX10_copies 20 = .ok (.iaload, 1) := by decide +kernel
theorem dX10_copies_21 : decode cX10_copies 21 = .ok (.iastore, 1) := by decide +kernel
theorem dX10_copies_22 : decode cX10_copies 22 = .ok (.iinc 4 1, 3) := by decide +kernel
theorem dX10_copies_25 : decode cX10_copies 25 = .ok (.goto (-22), 3) := by decide +kernel
theorem dX10_copies_28 : decode cX10_copies 28 = .ok (.return_, 1) := by decide +kernel
theorem dX10_prison_0 : decode cX10_prison 0 = .ok (.aload_n 0, 1) := by decide +kernel
theorem dX10_prison_1 : decode cX10_prison 1 = .ok (.iconst 0, 1) := by decide +kernel
theorem dX10_prison_2 : decode cX10_prison 2 = .ok (.putfield 135, 3) := by decide +kernel
theorem dX10_prison_5 : decode cX10_prison 5 = .ok (.aload_n 0, 1) := by decide +kernel
theorem dX10_prison_6 : decode cX10_prison 6 = .ok (.invokevirtual 314, 3) := by decide +kernel
theorem dX10_prison_9 : decode cX10_prison 9 = .ok (.ifCond .ne 8, 3) := by decide +kernel
theorem dX10_prison_12 : decode cX10_prison 12 = .ok (.aload_n 0, 1) := by decide +kernel
theorem dX10_prison_13 : decode cX10_prison 13 = .ok (.getfield 171, 3) := by decide +kernel
theorem dX10_prison_16 : decode cX10_prison 16 = .ok (.ireturn, 1) := by decide +kernel
theorem dX10_prison_17 : decode cX10_prison 17 = .ok (.aload_n 0, 1) := by decide +kernel
theorem dX10_prison_18 : decode cX10_prison 18 = .ok (.iconst 1, 1) := by decide +kernel
theorem dX10_prison_19 : decode cX10_prison 19 = .ok (.iconst 0, 1) := by decide +kernel
theorem dX10_prison_20 : decode cX10_prison 20 = .ok (.invokevirtual 317, 3) := by decide +kernel
theorem dX10_prison_23 : decode cX10_prison 23 = .ok (.iconst 0, 1) := by decide +kernel
theorem dX10_prison_24 : decode cX10_prison 24 = .ok (.istore_n 1, 1) := by decide +kernel
theorem dX10_prison_25 : decode cX10_prison 25 = .ok (.iload_n 1, 1) := by decide +kernel
theorem dX10_prison_26 : decode cX10_prison 26 = .ok (.bipush 96, 2) := by decide +kernel
theorem dX10_prison_28 : decode cX10_prison 28 = .ok (.if_icmp .ge 16, 3) := by decide +kernel
theorem dX10_prison_31 : decode cX10_prison 31 = .ok (.aload_n 0, 1) := by decide +kernel
theorem dX10_prison_32 : decode cX10_prison 32 = .ok (.getfield 108, 3) := by decide +kernel
theorem dX10_prison_35 : decode cX10_prison 35 = .ok (.iload_n 1, 1) := by decide +kernel
theorem dX10_prison_36 : decode cX10_prison 36 = .ok (.iconst 0, 1) := by decide +kernel
theorem dX10_prison_37 : decode cX10_prison 37 = .ok (.iastore, 1) := by decide +kernel
theorem dX10_prison_38 : decode cX10_prison 38 = .ok (.iinc 1 1, 3) := by decide +kernel
theorem dX10_prison_41 : decode cX10_prison 41 = .ok (.goto (-16), 3) := by decide +kernel
theorem dX10_prison_44 : decode cX10_prison 44 = .ok (.iconst 0, 1) := by decide +kernel
theorem dX10_prison_45 : decode cX10_prison 45 = .ok (.istore_n 1, 1) := by decide +kernel
theorem dX10_prison_46 : decode cX10_prison 46 = .ok (.iload_n 1, 1) := by decide +kernel
theorem dX10_prison_47 : decode cX10_prison 47 = .ok (.aload_n 0, 1) := by decide +kernel
theorem dX10_prison_48 : decode cX10_prison 48 = .ok (.getfield 16, 3) := by decide +kernel
theorem dX10_prison_51 : decode cX10_prison 51 = .ok (.iconst 0, 1) := by decide +kernel
theorem dX10_prison_52 : decode cX10_prison 52 = .ok (.iaload, 1) := by decide +kernel
theorem dX10_prison_53 : decode cX10_prison 53 = .ok (.if_icmp .ge 36, 3) := by decide +kernel
theorem dX10_prison_56 : decode cX10_prison 56 = .ok (.aload_n 0, 1) := by decide +kernel
theorem dX10_prison_57 : decode cX10_prison 57 = .ok (.getfield 108, 3) := by decide +kernel
theorem dX10_prison_60 : decode cX10_prison 60 = .ok (.iload_n 1, 1) := by decide +kernel
theorem dX10_prison_61 : decode cX10_prison 61 = .ok (.aload_n 0, 1) := by decide +kernel
theorem dX10_prison_62 : decode cX10_prison 62 = .ok (.getfield 44, 3) := by decide +kernel
theorem dX10_prison_65 : decode cX10_prison 65 = .ok (.iload_n 1, 1) := by decide +kernel
theorem dX10_prison_66 : decode cX10_prison 66 = .ok (.iaload, 1) := by decide +kernel
theorem dX10_prison_67 : decode cX10_prison 67 = .ok (.iastore, 1) := by decide +kernel
theorem dX10_prison_68 : decode cX10_prison 68 = .ok (.aload_n 0, 1) := by decide +kernel
theorem dX10_prison_69 : decode cX10_prison 69 = .ok (.getfield 108, 3) := by decide +kernel
theorem dX10_prison_72 : decode cX10_prison 72 = .ok (.bipush 30, 2) := by decide +kernel
theorem dX10_prison_74 : decode cX10_prison 74 = .ok (.iload_n 1, 1) := by decide +kernel
theorem dX10_prison_75 : decode cX10_prison 75 = .ok (.iadd, 1) := by decide +kernel
theorem dX10_prison_76 : decode cX10_prison 76 = .ok (.aload_n 0, 1) := by decide +kernel
theorem dX10_prison_77 : decode cX10_prison 77 = .ok (.getfield 44, 3) := by decide +kernel
theorem dX10_prison_80 : decode cX10_prison 80 = .ok (.iload_n 1, 1) := by decide +kernel
theorem dX10_prison_81 : decode cX10_prison 81 = .ok (.iaload, 1) := by decide +kernel
theorem dX10_prison_82 : decode cX10_prison 82 = .ok (.iastore, 1) := by decide +kernel
theorem dX10_prison_83 : decode cX10_prison 83 = .ok (.iinc 1 1, 3) := by decide +kernel
theorem dX10_prison_86 : decode cX10_prison 86 = .ok (.goto (-40), 3) := by decide +kernel
theorem dX10_prison_89 : decode cX10_prison 89 = .ok (.iconst 0, 1) := by decide +kernel
theorem dX10_prison_90 : decode cX10_prison 90 = .ok (.istore_n 1, 1) := by decide +kernel
theorem dX10_prison_91 : decode cX10_prison 91 = .ok (.iload_n 1, 1) := by decide +kernel
theorem dX10_prison_92 : decode cX10_prison 92 = .ok (.aload_n 0, 1) := by decide +kernel
theorem dX10_prison_93 : decode cX10_prison 93 = .ok (.getfield 13, 3) := by decide +kernel
theorem dX10_prison_96 : decode cX10_prison 96 = .ok (.iconst 0, 1) := by decide +kernel
theorem dX10_prison_97 : decode cX10_prison 97 = .ok (.iaload, 1) := by decide +kernel
theorem dX10_prison_98 : decode cX10_prison 98 = .ok (.if_icmp .ge 24, 3) := by decide +kernel
theorem dX10_prison_101 : decode cX10_prison 101 = .ok (.aload_n 0, 1) := by decide +kernel
theorem dX10_prison_102 : decode cX10_prison 102 = .ok (.getfield 108, 3) := by decide +kernel
theorem dX10_prison_105 : decode cX10_prison 105 = .ok (.bipush 60, 2) := by decide +kernel
theorem dX10_prison_107 : decode cX10_prison 107 = .ok (.iload_n 1, 1) := by decide +kernel
theorem dX10_prison_108 : decode cX10_prison 108 = .ok (.iadd, 1) := by decide +kernel
theorem dX10_prison_109 : decode cX10_prison 109 = .ok (.aload_n 0, 1) := by decide +kernel
theorem dX10_prison_110 : decode cX10_prison 110 = .ok (.getfield 35, 3) := by decide +kernel
theorem dX10_prison_113 : decode cX10_prison 113 = .ok (.iload_n 1, 1) := by decide +kernel
theorem dX10_prison_114 : decode cX10_prison 114 = .ok (.iaload, 1) := by decide +kernel
theorem dX10_prison_115 : decode cX10_prison 115 = .ok (.iastore, 1) := by decide +kernel
theorem dX10_prison_116 : decode cX10_prison 116 = .ok (.iinc 1 1, 3) := by decide +kernel
theorem dX10_prison_119 : decode cX10_prison 119 = .ok (.goto (-28), 3) := by decide +kernel
theorem dX10_prison_122 : decode cX10_prison 122 = .ok (.iconst 0, 1) := by decide +kernel
theorem dX10_prison_123 : decode cX10_prison 123 = .ok (.istore_n 1, 1) := by decide +kernel
theorem dX10_prison_124 : decode cX10_prison 124 = .ok (.iload_n 1, 1) := by decide +kernel
theorem dX10_prison_125 : decode cX10_prison 125 = .ok (.aload_n 0, 1) := by decide +kernel
theorem dX10_prison_126 : decode cX10_prison 126 = .ok (.getfield 19, 3) := by decide +kernel
theorem dX10_prison_129 : decode cX10_prison 129 = .ok (.iconst 0, 1) := by decide +kernel
theorem dX10_prison_130 : decode cX10_prison 130 = .ok (.iaload, 1) := by decide +kernel
theorem dX10_prison_131 : decode cX10_prison 131 = .ok (.if_icmp .ge 39, 3) := by decide +kernel
theorem dX10_prison_134 : decode cX10_prison 134 = .ok (.aload_n 0, 1) := by decide +kernel
theorem dX10_prison_135 : decode cX10_prison 135 = .ok (.getfield 108, 3) := by decide +kernel
theorem dX10_prison_138 : decode cX10_prison 138 = .ok (.bipush 68, 2) := by decide +kernel
theorem dX10_prison_140 : decode cX10_prison 140 = .ok (.iload_n 1, 1) := by decide +kernel
theorem dX10_prison_141 : decode cX10_prison 141 = .ok (.iadd, 1) := by decide +kernel
theorem dX10_prison_142 : decode cX10_prison 142 = .ok (.aload_n 0, 1) := by decide +kernel
theorem dX10_prison_143 : decode cX10_prison 143 = .ok (.getfield 47, 3) := by decide +kernel
theorem dX10_prison_146 : decode cX10_prison 146 = .ok (.iload_n 1, 1) := by decide +kernel
theorem dX10_prison_147 : decode cX10_prison 147 = .ok (.iaload, 1) := by decide +kernel
theorem dX10_prison_148 : decode cX10_prison 148 = .ok (.iastore, 1) := by decide +kernel
theorem dX10_prison_149 : decode cX10_prison 149 = .ok (.aload_n 0, 1) := by decide +kernel
theorem dX10_prison_150 : decode cX10_prison 150 = .ok (.getfield 108, 3) := by decide +kernel
theorem dX10_prison_153 : decode cX10_prison 153 = .ok (.bipush 74, 2) := by decide +kernel
theorem dX10_prison_155 : decode cX10_prison 155 = .ok (.iload_n 1, 1) := by decide +kernel
theorem dX10_prison_156 : decode cX10_prison 156 = .ok (.iadd, 1) := by decide +kernel
theorem dX10_prison_157 : decode cX10_prison 157 = .ok (.aload_n 0, 1) := by decide +kernel
theorem dX10_prison_158 : decode cX10_prison 158 = .ok (.getfield 50, 3) := by decide +kernel
theorem dX10_prison_161 : decode cX10_prison 161 = .ok (.iload_n 1, 1) := by decide +kernel
theorem dX10_prison_162 : decode cX10_prison 162 = .ok (.iaload, 1) := by decide +kernel
theorem dX10_prison_163 : decode cX10_prison 163 = .ok (.iastore, 1) := by decide +kernel
theorem dX10_prison_164 : decode cX10_prison 164 = .ok (.iinc 1 1, 3) := by decide +kernel
theorem dX10_prison_167 : decode cX10_prison 167 = .ok (.goto (-43), 3) := by decide +kernel
theorem dX10_prison_170 : decode cX10_prison 170 = .ok (.aload_n 0, 1) := by decide +kernel
theorem dX10_prison_171 : decode cX10_prison 171 = .ok (.invokevirtual 321, 3) := by decide +kernel
theorem dX10_prison_174 : decode cX10_prison 174 = .ok (.iconst 0, 1) := by decide +kernel
theorem dX10_prison_175 : decode cX10_prison 175 = .ok (.ireturn, 1) := by decide +kernel
theorem dX10_isCell_0 : decode cX10_isCell 0 = .ok (.iload_n 1, 1) := by decide +kernel
theorem dX10_isCell_1 : decode cX10_isCell 1 = .ok (.ifCond .lt 17, 3) := by decide +kernel
theorem dX10_isCell_4 : decode cX10_isCell 4 = .ok (.iload_n 1, 1) := by decide +kernel
theorem dX10_isCell_5 : decode cX10_isCell 5 = .ok (.aload_n 0, 1) := by decide +kernel
theorem dX10_isCell_6 : decode cX10_isCell 6 = .ok (.getfield 13, 3) := by decide +kernel
theorem dX10_isCell_9 : decode cX10_isCell 9 = .ok (.iconst 0, 1) := by decide +kernel
theorem dX10_isCell_10 : decode cX10_isCell 10 = .ok (.iaload, 1) := by decide +kernel
theorem dX10_isCell_11 : decode cX10_isCell 11 = .ok (.if_icmp .ge 7, 3) := by decide +kernel
theorem dX10_isCell_14 : decode cX10_isCell 14 = .ok (.iconst 1, 1) := by decide +kernel
theorem dX10_isCell_15 : decode cX10_isCell 15 = .ok (.goto 4, 3) := by decide +kernel
theorem dX10_isCell_18 : decode cX10_isCell 18 = .ok (.iconst 0, 1) := by decide +kernel
theorem dX10_isCell_19 : decode cX10_isCell 19 = .ok (.ireturn, 1) := by decide +kernel
theorem dX10_isDoor_0 : decode cX10_isDoor 0 = .ok (.iload_n 1, 1) := by decide +kernel
theorem dX10_isDoor_1 : decode cX10_isDoor 1 = .ok (.ifCond .lt 17, 3) := by decide +kernel
