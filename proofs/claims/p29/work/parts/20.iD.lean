section
variable {L : Nat} {xs : Nat → Int32}
theorem dL_act_0 : decode cL_act 0 = .ok (.aload_n 0, 1) := by decide +kernel
theorem dL_act_1 : decode cL_act 1 = .ok (.iconst 2, 1) := by decide +kernel
theorem dL_act_2 : decode cL_act 2 = .ok (.invokevirtual 8, 3) := by decide +kernel
theorem dL_act_5 : decode cL_act 5 = .ok (.istore_n 3, 1) := by decide +kernel
theorem dL_act_6 : decode cL_act 6 = .ok (.aload_n 0, 1) := by decide +kernel
theorem dL_act_7 : decode cL_act 7 = .ok (.iconst 1, 1) := by decide +kernel
theorem dL_act_8 : decode cL_act 8 = .ok (.invokevirtual 8, 3) := by decide +kernel
theorem dL_act_11 : decode cL_act 11 = .ok (.istore 4, 2) := by decide +kernel
theorem dL_act_13 : decode cL_act 13 = .ok (.iconst 2, 1) := by decide +kernel
theorem dL_act_14 : decode cL_act 14 = .ok (.aload_n 0, 1) := by decide +kernel
theorem dL_act_15 : decode cL_act 15 = .ok (.iconst 3, 1) := by decide +kernel
theorem dL_act_16 : decode cL_act 16 = .ok (.invokevirtual 8, 3) := by decide +kernel
theorem dL_act_19 : decode cL_act 19 = .ok (.imul, 1) := by decide +kernel
theorem dL_act_20 : decode cL_act 20 = .ok (.aload_n 0, 1) := by decide +kernel
theorem dL_act_21 : decode cL_act 21 = .ok (.iconst 4, 1) := by decide +kernel
theorem dL_act_22 : decode cL_act 22 = .ok (.invokevirtual 8, 3) := by decide +kernel
theorem dL_act_25 : decode cL_act 25 = .ok (.iadd, 1) := by decide +kernel
theorem dL_act_26 : decode cL_act 26 = .ok (.istore 5, 2) := by decide +kernel
theorem dL_act_28 : decode cL_act 28 = .ok (.iload_n 1, 1) := by decide +kernel
theorem dL_act_29 : decode cL_act 29 = .ok (.iconst 4, 1) := by decide +kernel
theorem dL_act_30 : decode cL_act 30 = .ok (.ishr, 1) := by decide +kernel
theorem dL_act_31 : decode cL_act 31 = .ok (.iload 4, 2) := by decide +kernel
theorem dL_act_33 : decode cL_act 33 = .ok (.invokestatic 47, 3) := by decide +kernel
theorem dL_act_36 : decode cL_act 36 = .ok (.istore 6, 2) := by decide +kernel
theorem dL_act_38 : decode cL_act 38 = .ok (.iload_n 1, 1) := by decide +kernel
theorem dL_act_39 : decode cL_act 39 = .ok (.iconst 4, 1) := by decide +kernel
theorem dL_act_40 : decode cL_act 40 = .ok (.ishr, 1) := by decide +kernel
theorem dL_act_41 : decode cL_act 41 = .ok (.iload_n 3, 1) := by decide +kernel
theorem dL_act_42 : decode cL_act 42 = .ok (.invokestatic 47, 3) := by decide +kernel
theorem dL_act_45 : decode cL_act 45 = .ok (.istore 7, 2) := by decide +kernel
theorem dL_act_47 : decode cL_act 47 = .ok (.iload_n 1, 1) := by decide +kernel
theorem dL_act_48 : decode cL_act 48 = .ok (.bipush 15, 2) := by decide +kernel
theorem dL_act_50 : decode cL_act 50 = .ok (.iand, 1) := by decide +kernel
theorem dL_act_51 : decode cL_act 51 = .ok (.tableswitch 329 0 12 #[65, 98, 130, 179, 199, 199, 253, 253, 272, 272, 272, 321, 321], 65) := by decide +kernel
theorem dL_act_116 : decode cL_act 116 = .ok (.iload 4, 2) := by decide +kernel
theorem dL_act_118 : decode cL_act 118 = .ok (.bipush 6, 2) := by decide +kernel
theorem dL_act_120 : decode cL_act 120 = .ok (.if_icmp .ge 275, 3) := by decide +kernel
theorem dL_act_123 : decode cL_act 123 = .ok (.aload_n 0, 1) := by decide +kernel
theorem dL_act_124 : decode cL_act 124 = .ok (.iload_n 1, 1) := by decide +kernel
theorem dL_act_125 : decode cL_act 125 = .ok (.iconst 4, 1) := by decide +kernel
theorem dL_act_126 : decode cL_act 126 = .ok (.ishr, 1) := by decide +kernel
theorem dL_act_127 : decode cL_act 127 = .ok (.bipush 100, 2) := by decide +kernel
theorem dL_act_129 : decode cL_act 129 = .ok (.invokestatic 47, 3) := by decide +kernel
theorem dL_act_132 : decode cL_act 132 = .ok (.iload_n 1, 1) := by decide +kernel
theorem dL_act_133 : decode cL_act 133 = .ok (.bipush 11, 2) := by decide +kernel
theorem dL_act_135 : decode cL_act 135 = .ok (.ishr, 1) := by decide +kernel
theorem dL_act_136 : decode cL_act 136 = .ok (.sipush 1024, 3) := by decide +kernel
theorem dL_act_139 : decode cL_act 139 = .ok (.invokestatic 47, 3) := by decide +kernel
theorem dL_act_142 : decode cL_act 142 = .ok (.invokevirtual 50, 3) := by decide +kernel
theorem dL_act_145 : decode cL_act 145 = .ok (.pop, 1) := by decide +kernel
theorem dL_act_146 : decode cL_act 146 = .ok (.goto 249, 3) := by decide +kernel
theorem dL_act_149 : decode cL_act 149 = .ok (.iload_n 3, 1) := by decide +kernel
theorem dL_act_150 : decode cL_act 150 = .ok (.bipush 8, 2) := by decide +kernel
theorem dL_act_152 : decode cL_act 152 = .ok (.if_icmp .ge 243, 3) := by decide +kernel
theorem dL_act_155 : decode cL_act 155 = .ok (.aload_n 0, 1) := by decide +kernel
theorem dL_act_156 : decode cL_act 156 = .ok (.iload_n 1, 1) := by decide +kernel
theorem dL_act_157 : decode cL_act 157 = .ok (.iconst 4, 1) := by decide +kernel
theorem dL_act_158 : decode cL_act 158 = .ok (.ishr, 1) := by decide +kernel
theorem dL_act_159 : decode cL_act 159 = .ok (.bipush 100, 2) := by decide +kernel
theorem dL_act_161 : decode cL_act 161 = .ok (.invokestatic 47, 3) := by decide +kernel
theorem dL_act_164 : decode cL_act 164 = .ok (.iload_n 1, 1) := by decide +kernel
theorem dL_act_165 : decode cL_act 165 = .ok (.bipush 11, 2) := by decide +kernel
theorem dL_act_167 : decode cL_act 167 = .ok (.ishr, 1) := by decide +kernel
theorem dL_act_168 : decode cL_act 168 = .ok (.bipush 60, 2) := by decide +kernel
theorem dL_act_170 : decode cL_act 170 = .ok (.invokestatic 47, 3) := by decide +kernel
theorem dL_act_173 : decode cL_act 173 = .ok (.iconst (-1), 1) := by decide +kernel
theorem dL_act_174 : decode cL_act 174 = .ok (.invokevirtual 53, 3) := by decide +kernel
theorem dL_act_177 : decode cL_act 177 = .ok (.pop, 1) := by decide +kernel
theorem dL_act_178 : decode cL_act 178 = .ok (.goto 217, 3) := by decide +kernel
theorem dL_act_181 : decode cL_act 181 = .ok (.aload_n 0, 1) := by decide +kernel
theorem dL_act_182 : decode cL_act 182 = .ok (.iconst 0, 1) := by decide +kernel
theorem dL_act_183 : decode cL_act 183 = .ok (.invokevirtual 8, 3) := by decide +kernel
theorem dL_act_186 : decode cL_act 186 = .ok (.bipush 6, 2) := by decide +kernel
theorem dL_act_188 : decode cL_act 188 = .ok (.if_icmp .ge 207, 3) := by decide +kernel
theorem dL_act_191 : decode cL_act 191 = .ok (.aload_n 0, 1) := by decide +kernel
theorem dL_act_192 : decode cL_act 192 = .ok (.aload_n 0, 1) := by decide +kernel
theorem dL_act_193 : decode cL_act 193 = .ok (.iconst 3, 1) := by decide +kernel
theorem dL_act_194 : decode cL_act 194 = .ok (.invokevirtual 8, 3) := by decide +kernel
theorem dL_act_197 : decode cL_act 197 = .ok (.iload_n 1, 1) := by decide +kernel
theorem dL_act_198 : decode cL_act 198 = .ok (.iconst 4, 1) := by decide +kernel
theorem dL_act_199 : decode cL_act 199 = .ok (.ishr, 1) := by decide +kernel
theorem dL_act_200 : decode cL_act 200 = .ok (.bipush 9, 2) := by decide +kernel
theorem dL_act_202 : decode cL_act 202 = .ok (.invokestatic 47, 3) := by decide +kernel
theorem dL_act_205 : decode cL_act 205 = .ok (.iadd, 1) := by decide +kernel
theorem dL_act_206 : decode cL_act 206 = .ok (.aload_n 0, 1) := by decide +kernel
theorem dL_act_207 : decode cL_act 207 = .ok (.iconst 3, 1) := by decide +kernel
theorem dL_act_208 : decode cL_act 208 = .ok (.invokevirtual 8, 3) := by decide +kernel
theorem dL_act_211 : decode cL_act 211 = .ok (.bipush 9, 2) := by decide +kernel
theorem dL_act_213 : decode cL_act 213 = .ok (.iadd, 1) := by decide +kernel
theorem dL_act_214 : decode cL_act 214 = .ok (.iload_n 1, 1) := by decide +kernel
theorem dL_act_215 : decode cL_act 215 = .ok (.bipush 8, 2) := by decide +kernel
theorem dL_act_217 : decode cL_act 217 = .ok (.ishr, 1) := by decide +kernel
theorem dL_act_218 : decode cL_act 218 = .ok (.iconst 3, 1) := by decide +kernel
theorem dL_act_219 : decode cL_act 219 = .ok (.invokestatic 47, 3) := by decide +kernel
theorem dL_act_222 : decode cL_act 222 = .ok (.iadd, 1) := by decide +kernel
theorem dL_act_223 : decode cL_act 223 = .ok (.invokevirtual 56, 3) := by decide +kernel
theorem dL_act_226 : decode cL_act 226 = .ok (.pop, 1) := by decide +kernel
theorem dL_act_227 : decode cL_act 227 = .ok (.goto 168, 3) := by decide +kernel
theorem dL_act_230 : decode cL_act 230 = .ok (.aload_n 0, 1) := by decide +kernel
theorem dL_act_231 : decode cL_act 231 = .ok (.iload 6, 2) := by decide +kernel
theorem dL_act_233 : decode cL_act 233 = .ok (.iload_n 1, 1) := by decide +kernel
theorem dL_act_234 : decode cL_act 234 = .ok (.bipush 8, 2) := by decide +kernel
theorem dL_act_236 : decode cL_act 236 = .ok (.ishr, 1) := by decide +kernel
theorem dL_act_237 : decode cL_act 237 = .ok (.sipush 1024, 3) := by decide +kernel
theorem dL_act_240 : decode cL_act 240 = .ok (.invokestatic 47, 3) := by decide +kernel
theorem dL_act_243 : decode cL_act 243 = .ok (.invokevirtual 59, 3) := by decide +kernel
theorem dL_act_246 : decode cL_act 246 = .ok (.pop, 1) := by decide +kernel
theorem dL_act_247 : decode cL_act 247 = .ok (.goto 148, 3) := by decide +kernel
theorem dL_act_250 : decode cL_act 250 = .ok (.iload_n 1, 1) := by decide +kernel
theorem dL_act_251 : decode cL_act 251 = .ok (.bipush 9, 2) := by decide +kernel
theorem dL_act_253 : decode cL_act 253 = .ok (.ishr, 1) := by decide +kernel
theorem dL_act_254 : decode cL_act 254 = .ok (.iload 4, 2) := by decide +kernel
theorem dL_act_256 : decode cL_act 256 = .ok (.iconst 1, 1) := by decide +kernel
theorem dL_act_257 : decode cL_act 257 = .ok (.iadd, 1) := by decide +kernel
theorem dL_act_258 : decode cL_act 258 = .ok (.invokestatic 47, 3) := by decide +kernel
theorem dL_act_261 : decode cL_act 261 = .ok (.iconst 1, 1) := by decide +kernel
theorem dL_act_262 : decode cL_act 262 = .ok (.isub, 1) := by decide +kernel
theorem dL_act_263 : decode cL_act 263 = .ok (.istore 8, 2) := by decide +kernel
theorem dL_act_265 : decode cL_act 265 = .ok (.iload 8, 2) := by decide +kernel
theorem dL_act_267 : decode cL_act 267 = .ok (.ifCond .lt 25, 3) := by decide +kernel
theorem dL_act_270 : decode cL_act 270 = .ok (.aload_n 0, 1) := by decide +kernel
theorem dL_act_271 : decode cL_act 271 = .ok (.iload 8, 2) := by decide +kernel
theorem dL_act_273 : decode cL_act 273 = .ok (.iconst 2, 1) := by decide +kernel
theorem dL_act_274 : decode cL_act 274 = .ok (.invokevirtual 14, 3) := by decide +kernel
theorem dL_act_277 : decode cL_act 277 = .ok (.ifCond .lt 15, 3) := by decide +kernel
theorem dL_act_280 : decode cL_act 280 = .ok (.aload_n 0, 1) := by decide +kernel
theorem dL_act_281 : decode cL_act 281 = .ok (.iload 8, 2) := by decide +kernel
theorem dL_act_283 : decode cL_act 283 = .ok (.iconst 2, 1) := by decide +kernel
theorem dL_act_284 : decode cL_act 284 = .ok (.invokevirtual 14, 3) := by decide +kernel
theorem dL_act_287 : decode cL_act 287 = .ok (.iload 7, 2) := by decide +kernel
theorem dL_act_289 : decode cL_act 289 = .ok (.if_icmp .ne 106, 3) := by decide +kernel
theorem dL_act_292 : decode cL_act 292 = .ok (.aload_n 0, 1) := by decide +kernel
theorem dL_act_293 : decode cL_act 293 = .ok (.iload 7, 2) := by decide +kernel
theorem dL_act_295 : decode cL_act 295 = .ok (.iload 8, 2) := by decide +kernel
theorem dL_act_297 : decode cL_act 297 = .ok (.invokevirtual 62, 3) := by decide +kernel
theorem dL_act_300 : decode cL_act 300 = .ok (.pop, 1) := by decide +kernel
theorem dL_act_301 : decode cL_act 301 = .ok (.goto 94, 3) := by decide +kernel
theorem dL_act_304 : decode cL_act 304 = .ok (.aload_n 0, 1) := by decide +kernel
theorem dL_act_305 : decode cL_act 305 = .ok (.iload 7, 2) := by decide +kernel
theorem dL_act_307 : decode cL_act 307 = .ok (.iload_n 1, 1) := by decide +kernel
theorem dL_act_308 : decode cL_act 308 = .ok (.bipush 9, 2) := by decide +kernel
theorem dL_act_310 : decode cL_act 310 = .ok (.ishr, 1) := by decide +kernel
theorem dL_act_311 : decode cL_act 311 = .ok (.bipush 7, 2) := by decide +kernel
theorem dL_act_313 : decode cL_act 313 = .ok (.invokestatic 47, 3) := by decide +kernel
theorem dL_act_316 : decode cL_act 316 = .ok (.invokevirtual 65, 3) := by decide +kernel
theorem dL_act_319 : decode cL_act 319 = .ok (.pop, 1) := by decide +kernel
theorem dL_act_320 : decode cL_act 320 = .ok (.goto 75, 3) := by decide +kernel
theorem dL_act_323 : decode cL_act 323 = .ok (.aload_n 0, 1) := by decide +kernel
theorem dL_act_324 : decode cL_act 324 = .ok (.iload 6, 2) := by decide +kernel
theorem dL_act_326 : decode cL_act 326 = .ok (.iconst 5, 1) := by decide +kernel
theorem dL_act_327 : decode cL_act 327 = .ok (.invokevirtual 14, 3) := by decide +kernel
theorem dL_act_330 : decode cL_act 330 = .ok (.istore 9, 2) := by decide +kernel
theorem dL_act_332 : decode cL_act 332 = .ok (.iload 9, 2) := by decide +kernel
theorem dL_act_334 : decode cL_act 334 = .ok (.ifCond .lt 61, 3) := by decide +kernel
theorem dL_act_337 : decode cL_act 337 = .ok (.iload 9, 2) := by decide +kernel
theorem dL_act_339 : decode cL_act 339 = .ok (.iload 5, 2) := by decide +kernel
theorem dL_act_341 : decode cL_act 341 = .ok (.bipush 10, 2) := by decide +kernel
theorem dL_act_343 : decode cL_act 343 = .ok (.isub, 1) := by decide +kernel
theorem dL_act_344 : decode cL_act 344 = .ok (.if_icmp .lt 51, 3) := by decide +kernel
theorem dL_act_347 : decode cL_act 347 = .ok (.aload_n 2, 1) := by decide +kernel
theorem dL_act_348 : decode cL_act 348 = .ok (.iload 6, 2) := by decide +kernel
theorem dL_act_350 : decode cL_act 350 = .ok (.iaload, 1) := by decide +kernel
theorem dL_act_351 : decode cL_act 351 = .ok (.iload 9, 2) := by decide +kernel
theorem dL_act_353 : decode cL_act 353 = .ok (.if_icmp .gt 42, 3) := by decide +kernel
theorem dL_act_356 : decode cL_act 356 = .ok (.aload_n 0, 1) := by decide +kernel
theorem dL_act_357 : decode cL_act 357 = .ok (.iload 6, 2) := by decide +kernel
theorem dL_act_359 : decode cL_act 359 = .ok (.invokevirtual 68, 3) := by decide +kernel
theorem dL_act_362 : decode cL_act 362 = .ok (.pop, 1) := by decide +kernel
theorem dL_act_363 : decode cL_act 363 = .ok (.aload_n 2, 1) := by decide +kernel
theorem dL_act_364 : decode cL_act 364 = .ok (.iload 6, 2) := by decide +kernel
theorem dL_act_366 : decode cL_act 366 = .ok (.iload 5, 2) := by decide +kernel
theorem dL_act_368 : decode cL_act 368 = .ok (.iastore, 1) := by decide +kernel
theorem dL_act_369 : decode cL_act 369 = .ok (.goto 26, 3) := by decide +kernel
theorem dL_act_372 : decode cL_act 372 = .ok (.aload_n 0, 1) := by decide +kernel
theorem dL_act_373 : decode cL_act 373 = .ok (.invokevirtual 43, 3) := by decide +kernel
theorem dL_act_376 : decode cL_act 376 = .ok (.pop, 1) := by decide +kernel
theorem dL_act_377 : decode cL_act 377 = .ok (.goto 18, 3) := by decide +kernel
theorem dL_act_380 : decode cL_act 380 = .ok (.aload_n 0, 1) := by decide +kernel
theorem dL_act_381 : decode cL_act 381 = .ok (.iconst 1, 1) := by decide +kernel
theorem dL_act_382 : decode cL_act 382 = .ok (.iload_n 1, 1) := by decide +kernel
theorem dL_act_383 : decode cL_act 383 = .ok (.iconst 4, 1) := by decide +kernel
theorem dL_act_384 : decode cL_act 384 = .ok (.ishr, 1) := by decide +kernel
theorem dL_act_385 : decode cL_act 385 = .ok (.bipush 12, 2) := by decide +kernel
theorem dL_act_387 : decode cL_act 387 = .ok (.invokestatic 47, 3) := by decide +kernel
theorem dL_act_390 : decode cL_act 390 = .ok (.iadd, 1) := by decide +kernel
theorem dL_act_391 : decode cL_act 391 = .ok (.invokevirtual 71, 3) := by decide +kernel
theorem dL_act_394 : decode cL_act 394 = .ok (.pop, 1) := by decide +kernel
theorem dL_act_395 : decode cL_act 395 = .ok (.return_, 1) := by decide +kernel
theorem iL_act_0 {x : Nat} {Ls st : List Value} {h : AH} : ev L xs mdL_act 0 (.ref x :: Ls) (st) h = ev L xs mdL_act 1 (.ref x :: Ls) (.ref x :: st) (h) := e_aload_n dL_act_0 rfl
theorem iL_act_1  {Ls st : List Value} {h : AH} : ev L xs mdL_act 1 (Ls) (st) h = ev L xs mdL_act 2 (Ls) (.int (nI 2) :: st) (h) := e_iconst dL_act_1 (by decide)
theorem iL_act_2 {a : Nat} {p0 : Int32} {Ls st : List Value} {h : AH} (hk : hK h a = 6) (hw : wds st ≤ 8) : ev L xs mdL_act 2 Ls (.int p0 :: .ref a :: st) h = kn L xs mdL_act 2 5 Ls st (ev L xs mdX6_value 0 [.ref a, .int p0] [] h) := e_callV (as := [.int p0]) dL_act_2 mr_8_8 (by decide) (by decide) rfl (by simp [wds, Value.category]; decide) rfl (by decide) hk hw
theorem iL_act_5 {v0 : Value} {v1 : Value} {v2 : Value} {v3 : Value} {x : Int32} {Ls st : List Value} {h : AH} (hc9 : v2.category = 1) : ev L xs mdL_act 5 (v0 :: v1 :: v2 :: v3 :: Ls) (.int x :: st) h = ev L xs mdL_act 6 (v0 :: v1 :: v2 :: .int x :: Ls) (st) (h) := e_istore_n dL_act_5 rfl (by decide) (by unfold catOK; show (_ || (v2.category == 1)) = true; rw [hc9]; rfl)
theorem iL_act_6 {x : Nat} {Ls st : List Value} {h : AH} : ev L xs mdL_act 6 (.ref x :: Ls) (st) h = ev L xs mdL_act 7 (.ref x :: Ls) (.ref x :: st) (h) := e_aload_n dL_act_6 rfl
theorem iL_act_7  {Ls st : List Value} {h : AH} : ev L xs mdL_act 7 (Ls) (st) h = ev L xs mdL_act 8 (Ls) (.int (nI 1) :: st) (h) := e_iconst dL_act_7 (by decide)
theorem iL_act_8 {a : Nat} {p0 : Int32} {Ls st : List Value} {h : AH} (hk : hK h a = 6) (hw : wds st ≤ 8) : ev L xs mdL_act 8 Ls (.int p0 :: .ref a :: st) h = kn L xs mdL_act 8 11 Ls st (ev L xs mdX6_value 0 [.ref a, .int p0] [] h) := e_callV (as := [.int p0]) dL_act_8 mr_8_8 (by decide) (by decide) rfl (by simp [wds, Value.category]; decide) rfl (by decide) hk hw
theorem iL_act_11 {v0 : Value} {v1 : Value} {v2 : Value} {v3 : Value} {v4 : Value} {x : Int32} {Ls st : List Value} {h : AH} (hc9 : v3.category = 1) : ev L xs mdL_act 11 (v0 :: v1 :: v2 :: v3 :: v4 :: Ls) (.int x :: st) h = ev L xs mdL_act 13 (v0 :: v1 :: v2 :: v3 :: .int x :: Ls) (st) (h) := e_istore dL_act_11 rfl (by decide) (by unfold catOK; show (_ || (v3.category == 1)) = true; rw [hc9]; rfl)
theorem iL_act_13  {Ls st : List Value} {h : AH} : ev L xs mdL_act 13 (Ls) (st) h = ev L xs mdL_act 14 (Ls) (.int (nI 2) :: st) (h) := e_iconst dL_act_13 (by decide)
theorem iL_act_14 {x : Nat} {Ls st : List Value} {h : AH} : ev L xs mdL_act 14 (.ref x :: Ls) (st) h = ev L xs mdL_act 15 (.ref x :: Ls) (.ref x :: st) (h) := e_aload_n dL_act_14 rfl
theorem iL_act_15  {Ls st : List Value} {h : AH} : ev L xs mdL_act 15 (Ls) (st) h = ev L xs mdL_act 16 (Ls) (.int (nI 3) :: st) (h) := e_iconst dL_act_15 (by decide)
theorem iL_act_16 {a : Nat} {p0 : Int32} {Ls st : List Value} {h : AH} (hk : hK h a = 6) (hw : wds st ≤ 8) : ev L xs mdL_act 16 Ls (.int p0 :: .ref a :: st) h = kn L xs mdL_act 16 19 Ls st (ev L xs mdX6_value 0 [.ref a, .int p0] [] h) := e_callV (as := [.int p0]) dL_act_16 mr_8_8 (by decide) (by decide) rfl (by simp [wds, Value.category]; decide) rfl (by decide) hk hw
theorem iL_act_19 {x z : Int32} {Ls st : List Value} {h : AH} : ev L xs mdL_act 19 (Ls) (.int z :: .int x :: st) h = ev L xs mdL_act 20 (Ls) (.int (x * z) :: st) (h) := e_imul dL_act_19
theorem iL_act_20 {x : Nat} {Ls st : List Value} {h : AH} : ev L xs mdL_act 20 (.ref x :: Ls) (st) h = ev L xs mdL_act 21 (.ref x :: Ls) (.ref x :: st) (h) := e_aload_n dL_act_20 rfl
theorem iL_act_21  {Ls st : List Value} {h : AH} : ev L xs mdL_act 21 (Ls) (st) h = ev L xs mdL_act 22 (Ls) (.int (nI 4) :: st) (h) := e_iconst dL_act_21 (by decide)
theorem iL_act_22 {a : Nat} {p0 : Int32} {Ls st : List Value} {h : AH} (hk : hK h a = 6) (hw : wds st ≤ 8) : ev L xs mdL_act 22 Ls (.int p0 :: .ref a :: st) h = kn L xs mdL_act 22 25 Ls st (ev L xs mdX6_value 0 [.ref a, .int p0] [] h) := e_callV (as := [.int p0]) dL_act_22 mr_8_8 (by decide) (by decide) rfl (by simp [wds, Value.category]; decide) rfl (by decide) hk hw
theorem iL_act_25 {x z : Int32} {Ls st : List Value} {h : AH} : ev L xs mdL_act 25 (Ls) (.int z :: .int x :: st) h = ev L xs mdL_act 26 (Ls) (.int (x + z) :: st) (h) := e_iadd dL_act_25
theorem iL_act_26 {v0 : Value} {v1 : Value} {v2 : Value} {v3 : Value} {v4 : Value} {v5 : Value} {x : Int32} {Ls st : List Value} {h : AH} (hc9 : v4.category = 1) : ev L xs mdL_act 26 (v0 :: v1 :: v2 :: v3 :: v4 :: v5 :: Ls) (.int x :: st) h = ev L xs mdL_act 28 (v0 :: v1 :: v2 :: v3 :: v4 :: .int x :: Ls) (st) (h) := e_istore dL_act_26 rfl (by decide) (by unfold catOK; show (_ || (v4.category == 1)) = true; rw [hc9]; rfl)
theorem iL_act_28 {v0 : Value} {x : Int32} {Ls st : List Value} {h : AH} : ev L xs mdL_act 28 (v0 :: .int x :: Ls) (st) h = ev L xs mdL_act 29 (v0 :: .int x :: Ls) (.int x :: st) (h) := e_iload_n dL_act_28 rfl
theorem iL_act_29  {Ls st : List Value} {h : AH} : ev L xs mdL_act 29 (Ls) (st) h = ev L xs mdL_act 30 (Ls) (.int (nI 4) :: st) (h) := e_iconst dL_act_29 (by decide)
theorem iL_act_30 {x z : Int32} {Ls st : List Value} {h : AH} : ev L xs mdL_act 30 (Ls) (.int z :: .int x :: st) h = ev L xs mdL_act 31 (Ls) (.int (x >>> (z &&& nI 31)) :: st) (h) := e_ishr dL_act_30
theorem iL_act_31 {v0 : Value} {v1 : Value} {v2 : Value} {v3 : Value} {x : Int32} {Ls st : List Value} {h : AH} : ev L xs mdL_act 31 (v0 :: v1 :: v2 :: v3 :: .int x :: Ls) (st) h = ev L xs mdL_act 33 (v0 :: v1 :: v2 :: v3 :: .int x :: Ls) (.int x :: st) (h) := e_iload dL_act_31 rfl
theorem iL_act_33 {p0 : Int32} {p1 : Int32} {Ls st : List Value} {h : AH} (hw : wds st ≤ 8) : ev L xs mdL_act 33 Ls (.int p1 :: .int p0 :: st) h = kn L xs mdL_act 33 36 Ls st (ev L xs mdL_low 0 [.int p0, .int p1] [] h) := e_callS (as := [.int p1, .int p0]) dL_act_33 mr_8_47 (by decide) (by decide) rfl (by simp [wds, Value.category]; decide) rfl hw
theorem iL_act_36 {v0 : Value} {v1 : Value} {v2 : Value} {v3 : Value} {v4 : Value} {v5 : Value} {v6 : Value} {x : Int32} {Ls st : List Value} {h : AH} (hc9 : v5.category = 1) : ev L xs mdL_act 36 (v0 :: v1 :: v2 :: v3 :: v4 :: v5 :: v6 :: Ls) (.int x :: st) h = ev L xs mdL_act 38 (v0 :: v1 :: v2 :: v3 :: v4 :: v5 :: .int x :: Ls) (st) (h) := e_istore dL_act_36 rfl (by decide) (by unfold catOK; show (_ || (v5.category == 1)) = true; rw [hc9]; rfl)
theorem iL_act_38 {v0 : Value} {x : Int32} {Ls st : List Value} {h : AH} : ev L xs mdL_act 38 (v0 :: .int x :: Ls) (st) h = ev L xs mdL_act 39 (v0 :: .int x :: Ls) (.int x :: st) (h) := e_iload_n dL_act_38 rfl
theorem iL_act_39  {Ls st : List Value} {h : AH} : ev L xs mdL_act 39 (Ls) (st) h = ev L xs mdL_act 40 (Ls) (.int (nI 4) :: st) (h) := e_iconst dL_act_39 (by decide)
theorem iL_act_40 {x z : Int32} {Ls st : List Value} {h : AH} : ev L xs mdL_act 40 (Ls) (.int z :: .int x :: st) h = ev L xs mdL_act 41 (Ls) (.int (x >>> (z &&& nI 31)) :: st) (h) := e_ishr dL_act_40
theorem iL_act_41 {v0 : Value} {v1 : Value} {v2 : Value} {x : Int32} {Ls st : List Value} {h : AH} : ev L xs mdL_act 41 (v0 :: v1 :: v2 :: .int x :: Ls) (st) h = ev L xs mdL_act 42 (v0 :: v1 :: v2 :: .int x :: Ls) (.int x :: st) (h) := e_iload_n dL_act_41 rfl
theorem iL_act_42 {p0 : Int32} {p1 : Int32} {Ls st : List Value} {h : AH} (hw : wds st ≤ 8) : ev L xs mdL_act 42 Ls (.int p1 :: .int p0 :: st) h = kn L xs mdL_act 42 45 Ls st (ev L xs mdL_low 0 [.int p0, .int p1] [] h) := e_callS (as := [.int p1, .int p0]) dL_act_42 mr_8_47 (by decide) (by decide) rfl (by simp [wds, Value.category]; decide) rfl hw
theorem iL_act_45 {v0 : Value} {v1 : Value} {v2 : Value} {v3 : Value} {v4 : Value} {v5 : Value} {v6 : Value} {v7 : Value} {x : Int32} {Ls st : List Value} {h : AH} (hc9 : v6.category = 1) : ev L xs mdL_act 45 (v0 :: v1 :: v2 :: v3 :: v4 :: v5 :: v6 :: v7 :: Ls) (.int x :: st) h = ev L xs mdL_act 47 (v0 :: v1 :: v2 :: v3 :: v4 :: v5 :: v6 :: .int x :: Ls) (st) (h) := e_istore dL_act_45 rfl (by decide) (by unfold catOK; show (_ || (v6.category == 1)) = true; rw [hc9]; rfl)
theorem iL_act_47 {v0 : Value} {x : Int32} {Ls st : List Value} {h : AH} : ev L xs mdL_act 47 (v0 :: .int x :: Ls) (st) h = ev L xs mdL_act 48 (v0 :: .int x :: Ls) (.int x :: st) (h) := e_iload_n dL_act_47 rfl
theorem iL_act_48  {Ls st : List Value} {h : AH} : ev L xs mdL_act 48 (Ls) (st) h = ev L xs mdL_act 50 (Ls) (.int (nI 15) :: st) (h) := e_bipush dL_act_48 (by decide)
theorem iL_act_50 {x z : Int32} {Ls st : List Value} {h : AH} : ev L xs mdL_act 50 (Ls) (.int z :: .int x :: st) h = ev L xs mdL_act 51 (Ls) (.int (x &&& z) :: st) (h) := e_iand dL_act_50
theorem iL_act_51_0 {Ls st : List Value} {h : AH} : ev L xs mdL_act 51 Ls (.int (nI 0) :: st) h = ev L xs mdL_act 116 Ls st h := e_tsw dL_act_51 rfl (by decide)
theorem iL_act_51_1 {Ls st : List Value} {h : AH} : ev L xs mdL_act 51 Ls (.int (nI 1) :: st) h = ev L xs mdL_act 149 Ls st h := e_tsw dL_act_51 rfl (by decide)
theorem iL_act_51_2 {Ls st : List Value} {h : AH} : ev L xs mdL_act 51 Ls (.int (nI 2) :: st) h = ev L xs mdL_act 181 Ls st h := e_tsw dL_act_51 rfl (by decide)
theorem iL_act_51_3 {Ls st : List Value} {h : AH} : ev L xs mdL_act 51 Ls (.int (nI 3) :: st) h = ev L xs mdL_act 230 Ls st h := e_tsw dL_act_51 rfl (by decide)
theorem iL_act_51_4 {Ls st : List Value} {h : AH} : ev L xs mdL_act 51 Ls (.int (nI 4) :: st) h = ev L xs mdL_act 250 Ls st h := e_tsw dL_act_51 rfl (by decide)
theorem iL_act_51_5 {Ls st : List Value} {h : AH} : ev L xs mdL_act 51 Ls (.int (nI 5) :: st) h = ev L xs mdL_act 250 Ls st h := e_tsw dL_act_51 rfl (by decide)
theorem iL_act_51_6 {Ls st : List Value} {h : AH} : ev L xs mdL_act 51 Ls (.int (nI 6) :: st) h = ev L xs mdL_act 304 Ls st h := e_tsw dL_act_51 rfl (by decide)
theorem iL_act_51_7 {Ls st : List Value} {h : AH} : ev L xs mdL_act 51 Ls (.int (nI 7) :: st) h = ev L xs mdL_act 304 Ls st h := e_tsw dL_act_51 rfl (by decide)
theorem iL_act_51_8 {Ls st : List Value} {h : AH} : ev L xs mdL_act 51 Ls (.int (nI 8) :: st) h = ev L xs mdL_act 323 Ls st h := e_tsw dL_act_51 rfl (by decide)
theorem iL_act_51_9 {Ls st : List Value} {h : AH} : ev L xs mdL_act 51 Ls (.int (nI 9) :: st) h = ev L xs mdL_act 323 Ls st h := e_tsw dL_act_51 rfl (by decide)
theorem iL_act_51_10 {Ls st : List Value} {h : AH} : ev L xs mdL_act 51 Ls (.int (nI 10) :: st) h = ev L xs mdL_act 323 Ls st h := e_tsw dL_act_51 rfl (by decide)
theorem iL_act_51_11 {Ls st : List Value} {h : AH} : ev L xs mdL_act 51 Ls (.int (nI 11) :: st) h = ev L xs mdL_act 372 Ls st h := e_tsw dL_act_51 rfl (by decide)
theorem iL_act_51_12 {Ls st : List Value} {h : AH} : ev L xs mdL_act 51 Ls (.int (nI 12) :: st) h = ev L xs mdL_act 372 Ls st h := e_tsw dL_act_51 rfl (by decide)
theorem iL_act_51_d {x : Int32} {Ls st : List Value} {h : AH} (hx : x.toInt < 0 ∨ 12 < x.toInt) : ev L xs mdL_act 51 Ls (.int x :: st) h = ev L xs mdL_act 380 Ls st h := e_tsw (o := 329) dL_act_51 (if_pos hx) (by decide)
theorem iL_act_116 {v0 : Value} {v1 : Value} {v2 : Value} {v3 : Value} {x : Int32} {Ls st : List Value} {h : AH} : ev L xs mdL_act 116 (v0 :: v1 :: v2 :: v3 :: .int x :: Ls) (st) h = ev L xs mdL_act 118 (v0 :: v1 :: v2 :: v3 :: .int x :: Ls) (.int x :: st) (h) := e_iload dL_act_116 rfl
theorem iL_act_118  {Ls st : List Value} {h : AH} : ev L xs mdL_act 118 (Ls) (st) h = ev L xs mdL_act 120 (Ls) (.int (nI 6) :: st) (h) := e_bipush dL_act_118 (by decide)
theorem iL_act_120 {x z : Int32} {Ls st : List Value} {h : AH} : ev L xs mdL_act 120 Ls (.int z :: .int x :: st) h = if z ≤ x then ev L xs mdL_act 395 Ls st h else ev L xs mdL_act 123 Ls st h := e_ic_ge dL_act_120 (by decide)
theorem iL_act_123 {x : Nat} {Ls st : List Value} {h : AH} : ev L xs mdL_act 123 (.ref x :: Ls) (st) h = ev L xs mdL_act 124 (.ref x :: Ls) (.ref x :: st) (h) := e_aload_n dL_act_123 rfl
theorem iL_act_124 {v0 : Value} {x : Int32} {Ls st : List Value} {h : AH} : ev L xs mdL_act 124 (v0 :: .int x :: Ls) (st) h = ev L xs mdL_act 125 (v0 :: .int x :: Ls) (.int x :: st) (h) := e_iload_n dL_act_124 rfl
theorem iL_act_125  {Ls st : List Value} {h : AH} : ev L xs mdL_act 125 (Ls) (st) h = ev L xs mdL_act 126 (Ls) (.int (nI 4) :: st) (h) := e_iconst dL_act_125 (by decide)
theorem iL_act_126 {x z : Int32} {Ls st : List Value} {h : AH} : ev L xs mdL_act 126 (Ls) (.int z :: .int x :: st) h = ev L xs mdL_act 127 (Ls) (.int (x >>> (z &&& nI 31)) :: st) (h) := e_ishr dL_act_126
theorem iL_act_127  {Ls st : List Value} {h : AH} : ev L xs mdL_act 127 (Ls) (st) h = ev L xs mdL_act 129 (Ls) (.int (nI 100) :: st) (h) := e_bipush dL_act_127 (by decide)
theorem iL_act_129 {p0 : Int32} {p1 : Int32} {Ls st : List Value} {h : AH} (hw : wds st ≤ 8) : ev L xs mdL_act 129 Ls (.int p1 :: .int p0 :: st) h = kn L xs mdL_act 129 132 Ls st (ev L xs mdL_low 0 [.int p0, .int p1] [] h) := e_callS (as := [.int p1, .int p0]) dL_act_129 mr_8_47 (by decide) (by decide) rfl (by simp [wds, Value.category]; decide) rfl hw
theorem iL_act_132 {v0 : Value} {x : Int32} {Ls st : List Value} {h : AH} : ev L xs mdL_act 132 (v0 :: .int x :: Ls) (st) h = ev L xs mdL_act 133 (v0 :: .int x :: Ls) (.int x :: st) (h) := e_iload_n dL_act_132 rfl
theorem iL_act_133  {Ls st : List Value} {h : AH} : ev L xs mdL_act 133 (Ls) (st) h = ev L xs mdL_act 135 (Ls) (.int (nI 11) :: st) (h) := e_bipush dL_act_133 (by decide)
theorem iL_act_135 {x z : Int32} {Ls st : List Value} {h : AH} : ev L xs mdL_act 135 (Ls) (.int z :: .int x :: st) h = ev L xs mdL_act 136 (Ls) (.int (x >>> (z &&& nI 31)) :: st) (h) := e_ishr dL_act_135
theorem iL_act_136  {Ls st : List Value} {h : AH} : ev L xs mdL_act 136 (Ls) (st) h = ev L xs mdL_act 139 (Ls) (.int (nI 1024) :: st) (h) := e_sipush dL_act_136 (by decide)
theorem iL_act_139 {p0 : Int32} {p1 : Int32} {Ls st : List Value} {h : AH} (hw : wds st ≤ 8) : ev L xs mdL_act 139 Ls (.int p1 :: .int p0 :: st) h = kn L xs mdL_act 139 142 Ls st (ev L xs mdL_low 0 [.int p0, .int p1] [] h) := e_callS (as := [.int p1, .int p0]) dL_act_139 mr_8_47 (by decide) (by decide) rfl (by simp [wds, Value.category]; decide) rfl hw
theorem iL_act_142 {a : Nat} {p0 : Int32} {p1 : Int32} {Ls st : List Value} {h : AH} (hk : hK h a = 6) (hw : wds st ≤ 8) : ev L xs mdL_act 142 Ls (.int p1 :: .int p0 :: .ref a :: st) h = kn L xs mdL_act 142 145 Ls st (ev L xs mdX6_addPost 0 [.ref a, .int p0, .int p1] [] h) := e_callV (as := [.int p1, .int p0]) dL_act_142 mr_8_50 (by decide) (by decide) rfl (by simp [wds, Value.category]; decide) rfl (by decide) hk hw
theorem iL_act_145 {a : Int32} {Ls st : List Value} {h : AH} : ev L xs mdL_act 145 (Ls) (.int a :: st) h = ev L xs mdL_act 146 (Ls) (st) (h) := e_pop dL_act_145 rfl
theorem iL_act_146  {Ls st : List Value} {h : AH} : ev L xs mdL_act 146 (Ls) (st) h = ev L xs mdL_act 395 (Ls) (st) (h) := e_goto dL_act_146 (by decide)
theorem iL_act_149 {v0 : Value} {v1 : Value} {v2 : Value} {x : Int32} {Ls st : List Value} {h : AH} : ev L xs mdL_act 149 (v0 :: v1 :: v2 :: .int x :: Ls) (st) h = ev L xs mdL_act 150 (v0 :: v1 :: v2 :: .int x :: Ls) (.int x :: st) (h) := e_iload_n dL_act_149 rfl
theorem iL_act_150  {Ls st : List Value} {h : AH} : ev L xs mdL_act 150 (Ls) (st) h = ev L xs mdL_act 152 (Ls) (.int (nI 8) :: st) (h) := e_bipush dL_act_150 (by decide)
theorem iL_act_152 {x z : Int32} {Ls st : List Value} {h : AH} : ev L xs mdL_act 152 Ls (.int z :: .int x :: st) h = if z ≤ x then ev L xs mdL_act 395 Ls st h else ev L xs mdL_act 155 Ls st h := e_ic_ge dL_act_152 (by decide)
theorem iL_act_155 {x : Nat} {Ls st : List Value} {h : AH} : ev L xs mdL_act 155 (.ref x :: Ls) (st) h = ev L xs mdL_act 156 (.ref x :: Ls) (.ref x :: st) (h) := e_aload_n dL_act_155 rfl
theorem iL_act_156 {v0 : Value} {x : Int32} {Ls st : List Value} {h : AH} : ev L xs mdL_act 156 (v0 :: .int x :: Ls) (st) h = ev L xs mdL_act 157 (v0 :: .int x :: Ls) (.int x :: st) (h) := e_iload_n dL_act_156 rfl
theorem iL_act_157  {Ls st : List Value} {h : AH} : ev L xs mdL_act 157 (Ls) (st) h = ev L xs mdL_act 158 (Ls) (.int (nI 4) :: st) (h) := e_iconst dL_act_157 (by decide)
theorem iL_act_158 {x z : Int32} {Ls st : List Value} {h : AH} : ev L xs mdL_act 158 (Ls) (.int z :: .int x :: st) h = ev L xs mdL_act 159 (Ls) (.int (x >>> (z &&& nI 31)) :: st) (h) := e_ishr dL_act_158
theorem iL_act_159  {Ls st : List Value} {h : AH} : ev L xs mdL_act 159 (Ls) (st) h = ev L xs mdL_act 161 (Ls) (.int (nI 100) :: st) (h) := e_bipush dL_act_159 (by decide)
theorem iL_act_161 {p0 : Int32} {p1 : Int32} {Ls st : List Value} {h : AH} (hw : wds st ≤ 8) : ev L xs mdL_act 161 Ls (.int p1 :: .int p0 :: st) h = kn L xs mdL_act 161 164 Ls st (ev L xs mdL_low 0 [.int p0, .int p1] [] h) := e_callS (as := [.int p1, .int p0]) dL_act_161 mr_8_47 (by decide) (by decide) rfl (by simp [wds, Value.category]; decide) rfl hw
theorem iL_act_164 {v0 : Value} {x : Int32} {Ls st : List Value} {h : AH} : ev L xs mdL_act 164 (v0 :: .int x :: Ls) (st) h = ev L xs mdL_act 165 (v0 :: .int x :: Ls) (.int x :: st) (h) := e_iload_n dL_act_164 rfl
theorem iL_act_165  {Ls st : List Value} {h : AH} : ev L xs mdL_act 165 (Ls) (st) h = ev L xs mdL_act 167 (Ls) (.int (nI 11) :: st) (h) := e_bipush dL_act_165 (by decide)
theorem iL_act_167 {x z : Int32} {Ls st : List Value} {h : AH} : ev L xs mdL_act 167 (Ls) (.int z :: .int x :: st) h = ev L xs mdL_act 168 (Ls) (.int (x >>> (z &&& nI 31)) :: st) (h) := e_ishr dL_act_167
theorem iL_act_168  {Ls st : List Value} {h : AH} : ev L xs mdL_act 168 (Ls) (st) h = ev L xs mdL_act 170 (Ls) (.int (nI 60) :: st) (h) := e_bipush dL_act_168 (by decide)
theorem iL_act_170 {p0 : Int32} {p1 : Int32} {Ls st : List Value} {h : AH} (hw : wds st ≤ 8) : ev L xs mdL_act 170 Ls (.int p1 :: .int p0 :: st) h = kn L xs mdL_act 170 173 Ls st (ev L xs mdL_low 0 [.int p0, .int p1] [] h) := e_callS (as := [.int p1, .int p0]) dL_act_170 mr_8_47 (by decide) (by decide) rfl (by simp [wds, Value.category]; decide) rfl hw
theorem iL_act_173  {Ls st : List Value} {h : AH} : ev L xs mdL_act 173 (Ls) (st) h = ev L xs mdL_act 174 (Ls) (.int (-1) :: st) (h) := e_iconst dL_act_173 (by decide)
theorem iL_act_174 {a : Nat} {p0 : Int32} {p1 : Int32} {p2 : Int32} {Ls st : List Value} {h : AH} (hk : hK h a = 6) (hw : wds st ≤ 8) : ev L xs mdL_act 174 Ls (.int p2 :: .int p1 :: .int p0 :: .ref a :: st) h = kn L xs mdL_act 174 177 Ls st (ev L xs mdX6_addGuard 0 [.ref a, .int p0, .int p1, .int p2] [] h) := e_callV (as := [.int p2, .int p1, .int p0]) dL_act_174 mr_8_53 (by decide) (by decide) rfl (by simp [wds, Value.category]; decide) rfl (by decide) hk hw
theorem iL_act_177 {a : Int32} {Ls st : List Value} {h : AH} : ev L xs mdL_act 177 (Ls) (.int a :: st) h = ev L xs mdL_act 178 (Ls) (st) (h) := e_pop dL_act_177 rfl
theorem iL_act_178  {Ls st : List Value} {h : AH} : ev L xs mdL_act 178 (Ls) (st) h = ev L xs mdL_act 395 (Ls) (st) (h) := e_goto dL_act_178 (by decide)
theorem iL_act_181 {x : Nat} {Ls st : List Value} {h : AH} : ev L xs mdL_act 181 (.ref x :: Ls) (st) h = ev L xs mdL_act 182 (.ref x :: Ls) (.ref x :: st) (h) := e_aload_n dL_act_181 rfl
theorem iL_act_182  {Ls st : List Value} {h : AH} : ev L xs mdL_act 182 (Ls) (st) h = ev L xs mdL_act 183 (Ls) (.int (nI 0) :: st) (h) := e_iconst dL_act_182 (by decide)
theorem iL_act_183 {a : Nat} {p0 : Int32} {Ls st : List Value} {h : AH} (hk : hK h a = 6) (hw : wds st ≤ 8) : ev L xs mdL_act 183 Ls (.int p0 :: .ref a :: st) h = kn L xs mdL_act 183 186 Ls st (ev L xs mdX6_value 0 [.ref a, .int p0] [] h) := e_callV (as := [.int p0]) dL_act_183 mr_8_8 (by decide) (by decide) rfl (by simp [wds, Value.category]; decide) rfl (by decide) hk hw
theorem iL_act_186  {Ls st : List Value} {h : AH} : ev L xs mdL_act 186 (Ls) (st) h = ev L xs mdL_act 188 (Ls) (.int (nI 6) :: st) (h) := e_bipush dL_act_186 (by decide)
theorem iL_act_188 {x z : Int32} {Ls st : List Value} {h : AH} : ev L xs mdL_act 188 Ls (.int z :: .int x :: st) h = if z ≤ x then ev L xs mdL_act 395 Ls st h else ev L xs mdL_act 191 Ls st h := e_ic_ge dL_act_188 (by decide)
theorem iL_act_191 {x : Nat} {Ls st : List Value} {h : AH} : ev L xs mdL_act 191 (.ref x :: Ls) (st) h = ev L xs mdL_act 192 (.ref x :: Ls) (.ref x :: st) (h) := e_aload_n dL_act_191 rfl
theorem iL_act_192 {x : Nat} {Ls st : List Value} {h : AH} : ev L xs mdL_act 192 (.ref x :: Ls) (st) h = ev L xs mdL_act 193 (.ref x :: Ls) (.ref x :: st) (h) := e_aload_n dL_act_192 rfl
theorem iL_act_193  {Ls st : List Value} {h : AH} : ev L xs mdL_act 193 (Ls) (st) h = ev L xs mdL_act 194 (Ls) (.int (nI 3) :: st) (h) := e_iconst dL_act_193 (by decide)
theorem iL_act_194 {a : Nat} {p0 : Int32} {Ls st : List Value} {h : AH} (hk : hK h a = 6) (hw : wds st ≤ 8) : ev L xs mdL_act 194 Ls (.int p0 :: .ref a :: st) h = kn L xs mdL_act 194 197 Ls st (ev L xs mdX6_value 0 [.ref a, .int p0] [] h) := e_callV (as := [.int p0]) dL_act_194 mr_8_8 (by decide) (by decide) rfl (by simp [wds, Value.category]; decide) rfl (by decide) hk hw
theorem iL_act_197 {v0 : Value} {x : Int32} {Ls st : List Value} {h : AH} : ev L xs mdL_act 197 (v0 :: .int x :: Ls) (st) h = ev L xs mdL_act 198 (v0 :: .int x :: Ls) (.int x :: st) (h) := e_iload_n dL_act_197 rfl
theorem iL_act_198  {Ls st : List Value} {h : AH} : ev L xs mdL_act 198 (Ls) (st) h = ev L xs mdL_act 199 (Ls) (.int (nI 4) :: st) (h) := e_iconst dL_act_198 (by decide)
theorem iL_act_199 {x z : Int32} {Ls st : List Value} {h : AH} : ev L xs mdL_act 199 (Ls) (.int z :: .int x :: st) h = ev L xs mdL_act 200 (Ls) (.int (x >>> (z &&& nI 31)) :: st) (h) := e_ishr dL_act_199
theorem iL_act_200  {Ls st : List Value} {h : AH} : ev L xs mdL_act 200 (Ls) (st) h = ev L xs mdL_act 202 (Ls) (.int (nI 9) :: st) (h) := e_bipush dL_act_200 (by decide)
theorem iL_act_202 {p0 : Int32} {p1 : Int32} {Ls st : List Value} {h : AH} (hw : wds st ≤ 8) : ev L xs mdL_act 202 Ls (.int p1 :: .int p0 :: st) h = kn L xs mdL_act 202 205 Ls st (ev L xs mdL_low 0 [.int p0, .int p1] [] h) := e_callS (as := [.int p1, .int p0]) dL_act_202 mr_8_47 (by decide) (by decide) rfl (by simp [wds, Value.category]; decide) rfl hw
theorem iL_act_205 {x z : Int32} {Ls st : List Value} {h : AH} : ev L xs mdL_act 205 (Ls) (.int z :: .int x :: st) h = ev L xs mdL_act 206 (Ls) (.int (x + z) :: st) (h) := e_iadd dL_act_205
theorem iL_act_206 {x : Nat} {Ls st : List Value} {h : AH} : ev L xs mdL_act 206 (.ref x :: Ls) (st) h = ev L xs mdL_act 207 (.ref x :: Ls) (.ref x :: st) (h) := e_aload_n dL_act_206 rfl
theorem iL_act_207  {Ls st : List Value} {h : AH} : ev L xs mdL_act 207 (Ls) (st) h = ev L xs mdL_act 208 (Ls) (.int (nI 3) :: st) (h) := e_iconst dL_act_207 (by decide)
theorem iL_act_208 {a : Nat} {p0 : Int32} {Ls st : List Value} {h : AH} (hk : hK h a = 6) (hw : wds st ≤ 8) : ev L xs mdL_act 208 Ls (.int p0 :: .ref a :: st) h = kn L xs mdL_act 208 211 Ls st (ev L xs mdX6_value 0 [.ref a, .int p0] [] h) := e_callV (as := [.int p0]) dL_act_208 mr_8_8 (by decide) (by decide) rfl (by simp [wds, Value.category]; decide) rfl (by decide) hk hw
theorem iL_act_211  {Ls st : List Value} {h : AH} : ev L xs mdL_act 211 (Ls) (st) h = ev L xs mdL_act 213 (Ls) (.int (nI 9) :: st) (h) := e_bipush dL_act_211 (by decide)
theorem iL_act_213 {x z : Int32} {Ls st : List Value} {h : AH} : ev L xs mdL_act 213 (Ls) (.int z :: .int x :: st) h = ev L xs mdL_act 214 (Ls) (.int (x + z) :: st) (h) := e_iadd dL_act_213
theorem iL_act_214 {v0 : Value} {x : Int32} {Ls st : List Value} {h : AH} : ev L xs mdL_act 214 (v0 :: .int x :: Ls) (st) h = ev L xs mdL_act 215 (v0 :: .int x :: Ls) (.int x :: st) (h) := e_iload_n dL_act_214 rfl
theorem iL_act_215  {Ls st : List Value} {h : AH} : ev L xs mdL_act 215 (Ls) (st) h = ev L xs mdL_act 217 (Ls) (.int (nI 8) :: st) (h) := e_bipush dL_act_215 (by decide)
theorem iL_act_217 {x z : Int32} {Ls st : List Value} {h : AH} : ev L xs mdL_act 217 (Ls) (.int z :: .int x :: st) h = ev L xs mdL_act 218 (Ls) (.int (x >>> (z &&& nI 31)) :: st) (h) := e_ishr dL_act_217
theorem iL_act_218  {Ls st : List Value} {h : AH} : ev L xs mdL_act 218 (Ls) (st) h = ev L xs mdL_act 219 (Ls) (.int (nI 3) :: st) (h) := e_iconst dL_act_218 (by decide)
theorem iL_act_219 {p0 : Int32} {p1 : Int32} {Ls st : List Value} {h : AH} (hw : wds st ≤ 8) : ev L xs mdL_act 219 Ls (.int p1 :: .int p0 :: st) h = kn L xs mdL_act 219 222 Ls st (ev L xs mdL_low 0 [.int p0, .int p1] [] h) := e_callS (as := [.int p1, .int p0]) dL_act_219 mr_8_47 (by decide) (by decide) rfl (by simp [wds, Value.category]; decide) rfl hw
theorem iL_act_222 {x z : Int32} {Ls st : List Value} {h : AH} : ev L xs mdL_act 222 (Ls) (.int z :: .int x :: st) h = ev L xs mdL_act 223 (Ls) (.int (x + z) :: st) (h) := e_iadd dL_act_222
theorem iL_act_223 {a : Nat} {p0 : Int32} {p1 : Int32} {Ls st : List Value} {h : AH} (hk : hK h a = 6) (hw : wds st ≤ 8) : ev L xs mdL_act 223 Ls (.int p1 :: .int p0 :: .ref a :: st) h = kn L xs mdL_act 223 226 Ls st (ev L xs mdX6_addHoliday 0 [.ref a, .int p0, .int p1] [] h) := e_callV (as := [.int p1, .int p0]) dL_act_223 mr_8_56 (by decide) (by decide) rfl (by simp [wds, Value.category]; decide) rfl (by decide) hk hw
theorem iL_act_226 {a : Int32} {Ls st : List Value} {h : AH} : ev L xs mdL_act 226 (Ls) (.int a :: st) h = ev L xs mdL_act 227 (Ls) (st) (h) := e_pop dL_act_226 rfl
theorem iL_act_227  {Ls st : List Value} {h : AH} : ev L xs mdL_act 227 (Ls) (st) h = ev L xs mdL_act 395 (Ls) (st) (h) := e_goto dL_act_227 (by decide)
theorem iL_act_230 {x : Nat} {Ls st : List Value} {h : AH} : ev L xs mdL_act 230 (.ref x :: Ls) (st) h = ev L xs mdL_act 231 (.ref x :: Ls) (.ref x :: st) (h) := e_aload_n dL_act_230 rfl
theorem iL_act_231 {v0 : Value} {v1 : Value} {v2 : Value} {v3 : Value} {v4 : Value} {v5 : Value} {x : Int32} {Ls st : List Value} {h : AH} : ev L xs mdL_act 231 (v0 :: v1 :: v2 :: v3 :: v4 :: v5 :: .int x :: Ls) (st) h = ev L xs mdL_act 233 (v0 :: v1 :: v2 :: v3 :: v4 :: v5 :: .int x :: Ls) (.int x :: st) (h) := e_iload dL_act_231 rfl
theorem iL_act_233 {v0 : Value} {x : Int32} {Ls st : List Value} {h : AH} : ev L xs mdL_act 233 (v0 :: .int x :: Ls) (st) h = ev L xs mdL_act 234 (v0 :: .int x :: Ls) (.int x :: st) (h) := e_iload_n dL_act_233 rfl
theorem iL_act_234  {Ls st : List Value} {h : AH} : ev L xs mdL_act 234 (Ls) (st) h = ev L xs mdL_act 236 (Ls) (.int (nI 8) :: st) (h) := e_bipush dL_act_234 (by decide)
theorem iL_act_236 {x z : Int32} {Ls st : List Value} {h : AH} : ev L xs mdL_act 236 (Ls) (.int z :: .int x :: st) h = ev L xs mdL_act 237 (Ls) (.int (x >>> (z &&& nI 31)) :: st) (h) := e_ishr dL_act_236
theorem iL_act_237  {Ls st : List Value} {h : AH} : ev L xs mdL_act 237 (Ls) (st) h = ev L xs mdL_act 240 (Ls) (.int (nI 1024) :: st) (h) := e_sipush dL_act_237 (by decide)
theorem iL_act_240 {p0 : Int32} {p1 : Int32} {Ls st : List Value} {h : AH} (hw : wds st ≤ 8) : ev L xs mdL_act 240 Ls (.int p1 :: .int p0 :: st) h = kn L xs mdL_act 240 243 Ls st (ev L xs mdL_low 0 [.int p0, .int p1] [] h) := e_callS (as := [.int p1, .int p0]) dL_act_240 mr_8_47 (by decide) (by decide) rfl (by simp [wds, Value.category]; decide) rfl hw
theorem iL_act_243 {a : Nat} {p0 : Int32} {p1 : Int32} {Ls st : List Value} {h : AH} (hk : hK h a = 6) (hw : wds st ≤ 8) : ev L xs mdL_act 243 Ls (.int p1 :: .int p0 :: .ref a :: st) h = kn L xs mdL_act 243 246 Ls st (ev L xs mdX6_setNeeds 0 [.ref a, .int p0, .int p1, .null] [] h) := e_callV (as := [.int p1, .int p0]) dL_act_243 mr_8_59 (by decide) (by decide) rfl (by simp [wds, Value.category]; decide) rfl (by decide) hk hw
theorem iL_act_246 {a : Int32} {Ls st : List Value} {h : AH} : ev L xs mdL_act 246 (Ls) (.int a :: st) h = ev L xs mdL_act 247 (Ls) (st) (h) := e_pop dL_act_246 rfl
theorem iL_act_247  {Ls st : List Value} {h : AH} : ev L xs mdL_act 247 (Ls) (st) h = ev L xs mdL_act 395 (Ls) (st) (h) := e_goto dL_act_247 (by decide)
theorem iL_act_250 {v0 : Value} {x : Int32} {Ls st : List Value} {h : AH} : ev L xs mdL_act 250 (v0 :: .int x :: Ls) (st) h = ev L xs mdL_act 251 (v0 :: .int x :: Ls) (.int x :: st) (h) := e_iload_n dL_act_250 rfl
theorem iL_act_251  {Ls st : List Value} {h : AH} : ev L xs mdL_act 251 (Ls) (st) h = ev L xs mdL_act 253 (Ls) (.int (nI 9) :: st) (h) := e_bipush dL_act_251 (by decide)
theorem iL_act_253 {x z : Int32} {Ls st : List Value} {h : AH} : ev L xs mdL_act 253 (Ls) (.int z :: .int x :: st) h = ev L xs mdL_act 254 (Ls) (.int (x >>> (z &&& nI 31)) :: st) (h) := e_ishr dL_act_253
theorem iL_act_254 {v0 : Value} {v1 : Value} {v2 : Value} {v3 : Value} {x : Int32} {Ls st : List Value} {h : AH} : ev L xs mdL_act 254 (v0 :: v1 :: v2 :: v3 :: .int x :: Ls) (st) h = ev L xs mdL_act 256 (v0 :: v1 :: v2 :: v3 :: .int x :: Ls) (.int x :: st) (h) := e_iload dL_act_254 rfl
theorem iL_act_256  {Ls st : List Value} {h : AH} : ev L xs mdL_act 256 (Ls) (st) h = ev L xs mdL_act 257 (Ls) (.int (nI 1) :: st) (h) := e_iconst dL_act_256 (by decide)
theorem iL_act_257 {x z : Int32} {Ls st : List Value} {h : AH} : ev L xs mdL_act 257 (Ls) (.int z :: .int x :: st) h = ev L xs mdL_act 258 (Ls) (.int (x + z) :: st) (h) := e_iadd dL_act_257
theorem iL_act_258 {p0 : Int32} {p1 : Int32} {Ls st : List Value} {h : AH} (hw : wds st ≤ 8) : ev L xs mdL_act 258 Ls (.int p1 :: .int p0 :: st) h = kn L xs mdL_act 258 261 Ls st (ev L xs mdL_low 0 [.int p0, .int p1] [] h) := e_callS (as := [.int p1, .int p0]) dL_act_258 mr_8_47 (by decide) (by decide) rfl (by simp [wds, Value.category]; decide) rfl hw
theorem iL_act_261  {Ls st : List Value} {h : AH} : ev L xs mdL_act 261 (Ls) (st) h = ev L xs mdL_act 262 (Ls) (.int (nI 1) :: st) (h) := e_iconst dL_act_261 (by decide)
theorem iL_act_262 {x z : Int32} {Ls st : List Value} {h : AH} : ev L xs mdL_act 262 (Ls) (.int z :: .int x :: st) h = ev L xs mdL_act 263 (Ls) (.int (x - z) :: st) (h) := e_isub dL_act_262
theorem iL_act_263 {v0 : Value} {v1 : Value} {v2 : Value} {v3 : Value} {v4 : Value} {v5 : Value} {v6 : Value} {v7 : Value} {v8 : Value} {x : Int32} {Ls st : List Value} {h : AH} (hc9 : v7.category = 1) : ev L xs mdL_act 263 (v0 :: v1 :: v2 :: v3 :: v4 :: v5 :: v6 :: v7 :: v8 :: Ls) (.int x :: st) h = ev L xs mdL_act 265 (v0 :: v1 :: v2 :: v3 :: v4 :: v5 :: v6 :: v7 :: .int x :: Ls) (st) (h) := e_istore dL_act_263 rfl (by decide) (by unfold catOK; show (_ || (v7.category == 1)) = true; rw [hc9]; rfl)
theorem iL_act_265 {v0 : Value} {v1 : Value} {v2 : Value} {v3 : Value} {v4 : Value} {v5 : Value} {v6 : Value} {v7 : Value} {x : Int32} {Ls st : List Value} {h : AH} : ev L xs mdL_act 265 (v0 :: v1 :: v2 :: v3 :: v4 :: v5 :: v6 :: v7 :: .int x :: Ls) (st) h = ev L xs mdL_act 267 (v0 :: v1 :: v2 :: v3 :: v4 :: v5 :: v6 :: v7 :: .int x :: Ls) (.int x :: st) (h) := e_iload dL_act_265 rfl
theorem iL_act_267 {x : Int32} {Ls st : List Value} {h : AH} : ev L xs mdL_act 267 Ls (.int x :: st) h = if x < nI 0 then ev L xs mdL_act 292 Ls st h else ev L xs mdL_act 270 Ls st h := e_if_lt dL_act_267 (by decide)
theorem iL_act_270 {x : Nat} {Ls st : List Value} {h : AH} : ev L xs mdL_act 270 (.ref x :: Ls) (st) h = ev L xs mdL_act 271 (.ref x :: Ls) (.ref x :: st) (h) := e_aload_n dL_act_270 rfl
theorem iL_act_271 {v0 : Value} {v1 : Value} {v2 : Value} {v3 : Value} {v4 : Value} {v5 : Value} {v6 : Value} {v7 : Value} {x : Int32} {Ls st : List Value} {h : AH} : ev L xs mdL_act 271 (v0 :: v1 :: v2 :: v3 :: v4 :: v5 :: v6 :: v7 :: .int x :: Ls) (st) h = ev L xs mdL_act 273 (v0 :: v1 :: v2 :: v3 :: v4 :: v5 :: v6 :: v7 :: .int x :: Ls) (.int x :: st) (h) := e_iload dL_act_271 rfl
theorem iL_act_273  {Ls st : List Value} {h : AH} : ev L xs mdL_act 273 (Ls) (st) h = ev L xs mdL_act 274 (Ls) (.int (nI 2) :: st) (h) := e_iconst dL_act_273 (by decide)
theorem iL_act_274 {a : Nat} {p0 : Int32} {p1 : Int32} {Ls st : List Value} {h : AH} (hk : hK h a = 6) (hw : wds st ≤ 8) : ev L xs mdL_act 274 Ls (.int p1 :: .int p0 :: .ref a :: st) h = kn L xs mdL_act 274 277 Ls st (ev L xs mdX6_post 0 [.ref a, .int p0, .int p1] [] h) := e_callV (as := [.int p1, .int p0]) dL_act_274 mr_8_14 (by decide) (by decide) rfl (by simp [wds, Value.category]; decide) rfl (by decide) hk hw
theorem iL_act_277 {x : Int32} {Ls st : List Value} {h : AH} : ev L xs mdL_act 277 Ls (.int x :: st) h = if x < nI 0 then ev L xs mdL_act 292 Ls st h else ev L xs mdL_act 280 Ls st h := e_if_lt dL_act_277 (by decide)
theorem iL_act_280 {x : Nat} {Ls st : List Value} {h : AH} : ev L xs mdL_act 280 (.ref x :: Ls) (st) h = ev L xs mdL_act 281 (.ref x :: Ls) (.ref x :: st) (h) := e_aload_n dL_act_280 rfl
theorem iL_act_281 {v0 : Value} {v1 : Value} {v2 : Value} {v3 : Value} {v4 : Value} {v5 : Value} {v6 : Value} {v7 : Value} {x : Int32} {Ls st : List Value} {h : AH} : ev L xs mdL_act 281 (v0 :: v1 :: v2 :: v3 :: v4 :: v5 :: v6 :: v7 :: .int x :: Ls) (st) h = ev L xs mdL_act 283 (v0 :: v1 :: v2 :: v3 :: v4 :: v5 :: v6 :: v7 :: .int x :: Ls) (.int x :: st) (h) := e_iload dL_act_281 rfl
theorem iL_act_283  {Ls st : List Value} {h : AH} : ev L xs mdL_act 283 (Ls) (st) h = ev L xs mdL_act 284 (Ls) (.int (nI 2) :: st) (h) := e_iconst dL_act_283 (by decide)
theorem iL_act_284 {a : Nat} {p0 : Int32} {p1 : Int32} {Ls st : List Value} {h : AH} (hk : hK h a = 6) (hw : wds st ≤ 8) : ev L xs mdL_act 284 Ls (.int p1 :: .int p0 :: .ref a :: st) h = kn L xs mdL_act 284 287 Ls st (ev L xs mdX6_post 0 [.ref a, .int p0, .int p1] [] h) := e_callV (as := [.int p1, .int p0]) dL_act_284 mr_8_14 (by decide) (by decide) rfl (by simp [wds, Value.category]; decide) rfl (by decide) hk hw
theorem iL_act_287 {v0 : Value} {v1 : Value} {v2 : Value} {v3 : Value} {v4 : Value} {v5 : Value} {v6 : Value} {x : Int32} {Ls st : List Value} {h : AH} : ev L xs mdL_act 287 (v0 :: v1 :: v2 :: v3 :: v4 :: v5 :: v6 :: .int x :: Ls) (st) h = ev L xs mdL_act 289 (v0 :: v1 :: v2 :: v3 :: v4 :: v5 :: v6 :: .int x :: Ls) (.int x :: st) (h) := e_iload dL_act_287 rfl
theorem iL_act_289 {x z : Int32} {Ls st : List Value} {h : AH} : ev L xs mdL_act 289 Ls (.int z :: .int x :: st) h = if x = z then ev L xs mdL_act 292 Ls st h else ev L xs mdL_act 395 Ls st h := e_ic_ne dL_act_289 (by decide)
theorem iL_act_292 {x : Nat} {Ls st : List Value} {h : AH} : ev L xs mdL_act 292 (.ref x :: Ls) (st) h = ev L xs mdL_act 293 (.ref x :: Ls) (.ref x :: st) (h) := e_aload_n dL_act_292 rfl
theorem iL_act_293 {v0 : Value} {v1 : Value} {v2 : Value} {v3 : Value} {v4 : Value} {v5 : Value} {v6 : Value} {x : Int32} {Ls st : List Value} {h : AH} : ev L xs mdL_act 293 (v0 :: v1 :: v2 :: v3 :: v4 :: v5 :: v6 :: .int x :: Ls) (st) h = ev L xs mdL_act 295 (v0 :: v1 :: v2 :: v3 :: v4 :: v5 :: v6 :: .int x :: Ls) (.int x :: st) (h) := e_iload dL_act_293 rfl
theorem iL_act_295 {v0 : Value} {v1 : Value} {v2 : Value} {v3 : Value} {v4 : Value} {v5 : Value} {v6 : Value} {v7 : Value} {x : Int32} {Ls st : List Value} {h : AH} : ev L xs mdL_act 295 (v0 :: v1 :: v2 :: v3 :: v4 :: v5 :: v6 :: v7 :: .int x :: Ls) (st) h = ev L xs mdL_act 297 (v0 :: v1 :: v2 :: v3 :: v4 :: v5 :: v6 :: v7 :: .int x :: Ls) (.int x :: st) (h) := e_iload dL_act_295 rfl
theorem iL_act_297 {a : Nat} {p0 : Int32} {p1 : Int32} {Ls st : List Value} {h : AH} (hk : hK h a = 6) (hw : wds st ≤ 8) : ev L xs mdL_act 297 Ls (.int p1 :: .int p0 :: .ref a :: st) h = kn L xs mdL_act 297 300 Ls st (ev L xs mdX6_setPost 0 [.ref a, .int p0, .int p1, .null] [] h) := e_callV (as := [.int p1, .int p0]) dL_act_297 mr_8_62 (by decide) (by decide) rfl (by simp [wds, Value.category]; decide) rfl (by decide) hk hw
theorem iL_act_300 {a : Int32} {Ls st : List Value} {h : AH} : ev L xs mdL_act 300 (Ls) (.int a :: st) h = ev L xs mdL_act 301 (Ls) (st) (h) := e_pop dL_act_300 rfl
theorem iL_act_301  {Ls st : List Value} {h : AH} : ev L xs mdL_act 301 (Ls) (st) h = ev L xs mdL_act 395 (Ls) (st) (h) := e_goto dL_act_301 (by decide)
theorem iL_act_304 {x : Nat} {Ls st : List Value} {h : AH} : ev L xs mdL_act 304 (.ref x :: Ls) (st) h = ev L xs mdL_act 305 (.ref x :: Ls) (.ref x :: st) (h) := e_aload_n dL_act_304 rfl
theorem iL_act_305 {v0 : Value} {v1 : Value} {v2 : Value} {v3 : Value} {v4 : Value} {v5 : Value} {v6 : Value} {x : Int32} {Ls st : List Value} {h : AH} : ev L xs mdL_act 305 (v0 :: v1 :: v2 :: v3 :: v4 :: v5 :: v6 :: .int x :: Ls) (st) h = ev L xs mdL_act 307 (v0 :: v1 :: v2 :: v3 :: v4 :: v5 :: v6 :: .int x :: Ls) (.int x :: st) (h) := e_iload dL_act_305 rfl
theorem iL_act_307 {v0 : Value} {x : Int32} {Ls st : List Value} {h : AH} : ev L xs mdL_act 307 (v0 :: .int x :: Ls) (st) h = ev L xs mdL_act 308 (v0 :: .int x :: Ls) (.int x :: st) (h) := e_iload_n dL_act_307 rfl
theorem iL_act_308  {Ls st : List Value} {h : AH} : ev L xs mdL_act 308 (Ls) (st) h = ev L xs mdL_act 310 (Ls) (.int (nI 9) :: st) (h) := e_bipush dL_act_308 (by decide)
theorem iL_act_310 {x z : Int32} {Ls st : List Value} {h : AH} : ev L xs mdL_act 310 (Ls) (.int z :: .int x :: st) h = ev L xs mdL_act 311 (Ls) (.int (x >>> (z &&& nI 31)) :: st) (h) := e_ishr dL_act_310
theorem iL_act_311  {Ls st : List Value} {h : AH} : ev L xs mdL_act 311 (Ls) (st) h = ev L xs mdL_act 313 (Ls) (.int (nI 7) :: st) (h) := e_bipush dL_act_311 (by decide)
theorem iL_act_313 {p0 : Int32} {p1 : Int32} {Ls st : List Value} {h : AH} (hw : wds st ≤ 8) : ev L xs mdL_act 313 Ls (.int p1 :: .int p0 :: st) h = kn L xs mdL_act 313 316 Ls st (ev L xs mdL_low 0 [.int p0, .int p1] [] h) := e_callS (as := [.int p1, .int p0]) dL_act_313 mr_8_47 (by decide) (by decide) rfl (by simp [wds, Value.category]; decide) rfl hw
theorem iL_act_316 {a : Nat} {p0 : Int32} {p1 : Int32} {Ls st : List Value} {h : AH} (hk : hK h a = 6) (hw : wds st ≤ 8) : ev L xs mdL_act 316 Ls (.int p1 :: .int p0 :: .ref a :: st) h = kn L xs mdL_act 316 319 Ls st (ev L xs mdX6_sick 0 [.ref a, .int p0, .int p1] [] h) := e_callV (as := [.int p1, .int p0]) dL_act_316 mr_8_65 (by decide) (by decide) rfl (by simp [wds, Value.category]; decide) rfl (by decide) hk hw
theorem iL_act_319 {a : Int32} {Ls st : List Value} {h : AH} : ev L xs mdL_act 319 (Ls) (.int a :: st) h = ev L xs mdL_act 320 (Ls) (st) (h) := e_pop dL_act_319 rfl
theorem iL_act_320  {Ls st : List Value} {h : AH} : ev L xs mdL_act 320 (Ls) (st) h = ev L xs mdL_act 395 (Ls) (st) (h) := e_goto dL_act_320 (by decide)
theorem iL_act_323 {x : Nat} {Ls st : List Value} {h : AH} : ev L xs mdL_act 323 (.ref x :: Ls) (st) h = ev L xs mdL_act 324 (.ref x :: Ls) (.ref x :: st) (h) := e_aload_n dL_act_323 rfl
theorem iL_act_324 {v0 : Value} {v1 : Value} {v2 : Value} {v3 : Value} {v4 : Value} {v5 : Value} {x : Int32} {Ls st : List Value} {h : AH} : ev L xs mdL_act 324 (v0 :: v1 :: v2 :: v3 :: v4 :: v5 :: .int x :: Ls) (st) h = ev L xs mdL_act 326 (v0 :: v1 :: v2 :: v3 :: v4 :: v5 :: .int x :: Ls) (.int x :: st) (h) := e_iload dL_act_324 rfl
theorem iL_act_326  {Ls st : List Value} {h : AH} : ev L xs mdL_act 326 (Ls) (st) h = ev L xs mdL_act 327 (Ls) (.int (nI 5) :: st) (h) := e_iconst dL_act_326 (by decide)
theorem iL_act_327 {a : Nat} {p0 : Int32} {p1 : Int32} {Ls st : List Value} {h : AH} (hk : hK h a = 6) (hw : wds st ≤ 8) : ev L xs mdL_act 327 Ls (.int p1 :: .int p0 :: .ref a :: st) h = kn L xs mdL_act 327 330 Ls st (ev L xs mdX6_post 0 [.ref a, .int p0, .int p1] [] h) := e_callV (as := [.int p1, .int p0]) dL_act_327 mr_8_14 (by decide) (by decide) rfl (by simp [wds, Value.category]; decide) rfl (by decide) hk hw
theorem iL_act_330 {v0 : Value} {v1 : Value} {v2 : Value} {v3 : Value} {v4 : Value} {v5 : Value} {v6 : Value} {v7 : Value} {v8 : Value} {v9 : Value} {x : Int32} {Ls st : List Value} {h : AH} (hc9 : v8.category = 1) : ev L xs mdL_act 330 (v0 :: v1 :: v2 :: v3 :: v4 :: v5 :: v6 :: v7 :: v8 :: v9 :: Ls) (.int x :: st) h = ev L xs mdL_act 332 (v0 :: v1 :: v2 :: v3 :: v4 :: v5 :: v6 :: v7 :: v8 :: .int x :: Ls) (st) (h) := e_istore dL_act_330 rfl (by decide) (by unfold catOK; show (_ || (v8.category == 1)) = true; rw [hc9]; rfl)
theorem iL_act_332 {v0 : Value} {v1 : Value} {v2 : Value} {v3 : Value} {v4 : Value} {v5 : Value} {v6 : Value} {v7 : Value} {v8 : Value} {x : Int32} {Ls st : List Value} {h : AH} : ev L xs mdL_act 332 (v0 :: v1 :: v2 :: v3 :: v4 :: v5 :: v6 :: v7 :: v8 :: .int x :: Ls) (st) h = ev L xs mdL_act 334 (v0 :: v1 :: v2 :: v3 :: v4 :: v5 :: v6 :: v7 :: v8 :: .int x :: Ls) (.int x :: st) (h) := e_iload dL_act_332 rfl
theorem iL_act_334 {x : Int32} {Ls st : List Value} {h : AH} : ev L xs mdL_act 334 Ls (.int x :: st) h = if x < nI 0 then ev L xs mdL_act 395 Ls st h else ev L xs mdL_act 337 Ls st h := e_if_lt dL_act_334 (by decide)
theorem iL_act_337 {v0 : Value} {v1 : Value} {v2 : Value} {v3 : Value} {v4 : Value} {v5 : Value} {v6 : Value} {v7 : Value} {v8 : Value} {x : Int32} {Ls st : List Value} {h : AH} : ev L xs mdL_act 337 (v0 :: v1 :: v2 :: v3 :: v4 :: v5 :: v6 :: v7 :: v8 :: .int x :: Ls) (st) h = ev L xs mdL_act 339 (v0 :: v1 :: v2 :: v3 :: v4 :: v5 :: v6 :: v7 :: v8 :: .int x :: Ls) (.int x :: st) (h) := e_iload dL_act_337 rfl
theorem iL_act_339 {v0 : Value} {v1 : Value} {v2 : Value} {v3 : Value} {v4 : Value} {x : Int32} {Ls st : List Value} {h : AH} : ev L xs mdL_act 339 (v0 :: v1 :: v2 :: v3 :: v4 :: .int x :: Ls) (st) h = ev L xs mdL_act 341 (v0 :: v1 :: v2 :: v3 :: v4 :: .int x :: Ls) (.int x :: st) (h) := e_iload dL_act_339 rfl
theorem iL_act_341  {Ls st : List Value} {h : AH} : ev L xs mdL_act 341 (Ls) (st) h = ev L xs mdL_act 343 (Ls) (.int (nI 10) :: st) (h) := e_bipush dL_act_341 (by decide)
theorem iL_act_343 {x z : Int32} {Ls st : List Value} {h : AH} : ev L xs mdL_act 343 (Ls) (.int z :: .int x :: st) h = ev L xs mdL_act 344 (Ls) (.int (x - z) :: st) (h) := e_isub dL_act_343
theorem iL_act_344 {x z : Int32} {Ls st : List Value} {h : AH} : ev L xs mdL_act 344 Ls (.int z :: .int x :: st) h = if x < z then ev L xs mdL_act 395 Ls st h else ev L xs mdL_act 347 Ls st h := e_ic_lt dL_act_344 (by decide)
theorem iL_act_347 {v0 : Value} {v1 : Value} {x : Nat} {Ls st : List Value} {h : AH} : ev L xs mdL_act 347 (v0 :: v1 :: .ref x :: Ls) (st) h = ev L xs mdL_act 348 (v0 :: v1 :: .ref x :: Ls) (.ref x :: st) (h) := e_aload_n dL_act_347 rfl
theorem iL_act_348 {v0 : Value} {v1 : Value} {v2 : Value} {v3 : Value} {v4 : Value} {v5 : Value} {x : Int32} {Ls st : List Value} {h : AH} : ev L xs mdL_act 348 (v0 :: v1 :: v2 :: v3 :: v4 :: v5 :: .int x :: Ls) (st) h = ev L xs mdL_act 350 (v0 :: v1 :: v2 :: v3 :: v4 :: v5 :: .int x :: Ls) (.int x :: st) (h) := e_iload dL_act_348 rfl
theorem iL_act_350 {a : Nat} {j : Int32} {Ls st : List Value} {h : AH} (hk : hK h a = 8) (hi : inA j (hN h a) = true) : ev L xs mdL_act 350 (Ls) (.int j :: .ref a :: st) h = ev L xs mdL_act 351 (Ls) (.int (hA h a j.toNatClampNeg) :: st) (h) := e_iald dL_act_350 hk hi
theorem iL_act_351 {v0 : Value} {v1 : Value} {v2 : Value} {v3 : Value} {v4 : Value} {v5 : Value} {v6 : Value} {v7 : Value} {v8 : Value} {x : Int32} {Ls st : List Value} {h : AH} : ev L xs mdL_act 351 (v0 :: v1 :: v2 :: v3 :: v4 :: v5 :: v6 :: v7 :: v8 :: .int x :: Ls) (st) h = ev L xs mdL_act 353 (v0 :: v1 :: v2 :: v3 :: v4 :: v5 :: v6 :: v7 :: v8 :: .int x :: Ls) (.int x :: st) (h) := e_iload dL_act_351 rfl
theorem iL_act_353 {x z : Int32} {Ls st : List Value} {h : AH} : ev L xs mdL_act 353 Ls (.int z :: .int x :: st) h = if z < x then ev L xs mdL_act 395 Ls st h else ev L xs mdL_act 356 Ls st h := e_ic_gt dL_act_353 (by decide)
theorem iL_act_356 {x : Nat} {Ls st : List Value} {h : AH} : ev L xs mdL_act 356 (.ref x :: Ls) (st) h = ev L xs mdL_act 357 (.ref x :: Ls) (.ref x :: st) (h) := e_aload_n dL_act_356 rfl
theorem iL_act_357 {v0 : Value} {v1 : Value} {v2 : Value} {v3 : Value} {v4 : Value} {v5 : Value} {x : Int32} {Ls st : List Value} {h : AH} : ev L xs mdL_act 357 (v0 :: v1 :: v2 :: v3 :: v4 :: v5 :: .int x :: Ls) (st) h = ev L xs mdL_act 359 (v0 :: v1 :: v2 :: v3 :: v4 :: v5 :: .int x :: Ls) (.int x :: st) (h) := e_iload dL_act_357 rfl
theorem iL_act_359 {a : Nat} {p0 : Int32} {Ls st : List Value} {h : AH} (hk : hK h a = 6) (hw : wds st ≤ 8) : ev L xs mdL_act 359 Ls (.int p0 :: .ref a :: st) h = kn L xs mdL_act 359 362 Ls st (ev L xs mdX6_complain 0 [.ref a, .int p0] [] h) := e_callV (as := [.int p0]) dL_act_359 mr_8_68 (by decide) (by decide) rfl (by simp [wds, Value.category]; decide) rfl (by decide) hk hw
theorem iL_act_362 {a : Int32} {Ls st : List Value} {h : AH} : ev L xs mdL_act 362 (Ls) (.int a :: st) h = ev L xs mdL_act 363 (Ls) (st) (h) := e_pop dL_act_362 rfl
theorem iL_act_363 {v0 : Value} {v1 : Value} {x : Nat} {Ls st : List Value} {h : AH} : ev L xs mdL_act 363 (v0 :: v1 :: .ref x :: Ls) (st) h = ev L xs mdL_act 364 (v0 :: v1 :: .ref x :: Ls) (.ref x :: st) (h) := e_aload_n dL_act_363 rfl
theorem iL_act_364 {v0 : Value} {v1 : Value} {v2 : Value} {v3 : Value} {v4 : Value} {v5 : Value} {x : Int32} {Ls st : List Value} {h : AH} : ev L xs mdL_act 364 (v0 :: v1 :: v2 :: v3 :: v4 :: v5 :: .int x :: Ls) (st) h = ev L xs mdL_act 366 (v0 :: v1 :: v2 :: v3 :: v4 :: v5 :: .int x :: Ls) (.int x :: st) (h) := e_iload dL_act_364 rfl
theorem iL_act_366 {v0 : Value} {v1 : Value} {v2 : Value} {v3 : Value} {v4 : Value} {x : Int32} {Ls st : List Value} {h : AH} : ev L xs mdL_act 366 (v0 :: v1 :: v2 :: v3 :: v4 :: .int x :: Ls) (st) h = ev L xs mdL_act 368 (v0 :: v1 :: v2 :: v3 :: v4 :: .int x :: Ls) (.int x :: st) (h) := e_iload dL_act_366 rfl
theorem iL_act_368 {a : Nat} {j : Int32} {v : Int32} {Ls st : List Value} {h : AH} (hk : hK h a = 8) (hi : inA j (hN h a) = true) : ev L xs mdL_act 368 (Ls) (.int v :: .int j :: .ref a :: st) h = ev L xs mdL_act 369 (Ls) (st) (sA h a j.toNatClampNeg v) := e_iast dL_act_368 hk hi
theorem iL_act_369  {Ls st : List Value} {h : AH} : ev L xs mdL_act 369 (Ls) (st) h = ev L xs mdL_act 395 (Ls) (st) (h) := e_goto dL_act_369 (by decide)
theorem iL_act_372 {x : Nat} {Ls st : List Value} {h : AH} : ev L xs mdL_act 372 (.ref x :: Ls) (st) h = ev L xs mdL_act 373 (.ref x :: Ls) (.ref x :: st) (h) := e_aload_n dL_act_372 rfl
theorem iL_act_373 {a : Nat} {Ls st : List Value} {h : AH} (hk : hK h a = 6) (hw : wds st ≤ 8) : ev L xs mdL_act 373 Ls (.ref a :: st) h = kn L xs mdL_act 373 376 Ls st (ev L xs mdX6_step 0 [.ref a] [] h) := e_callV (as := []) dL_act_373 mr_8_43 (by decide) (by decide) rfl (by simp [wds, Value.category]; decide) rfl (by decide) hk hw
theorem iL_act_376 {a : Int32} {Ls st : List Value} {h : AH} : ev L xs mdL_act 376 (Ls) (.int a :: st) h = ev L xs mdL_act 377 (Ls) (st) (h) := e_pop dL_act_376 rfl
theorem iL_act_377  {Ls st : List Value} {h : AH} : ev L xs mdL_act 377 (Ls) (st) h = ev L xs mdL_act 395 (Ls) (st) (h) := e_goto dL_act_377 (by decide)
theorem iL_act_380 {x : Nat} {Ls st : List Value} {h : AH} : ev L xs mdL_act 380 (.ref x :: Ls) (st) h = ev L xs mdL_act 381 (.ref x :: Ls) (.ref x :: st) (h) := e_aload_n dL_act_380 rfl
theorem iL_act_381  {Ls st : List Value} {h : AH} : ev L xs mdL_act 381 (Ls) (st) h = ev L xs mdL_act 382 (Ls) (.int (nI 1) :: st) (h) := e_iconst dL_act_381 (by decide)
theorem iL_act_382 {v0 : Value} {x : Int32} {Ls st : List Value} {h : AH} : ev L xs mdL_act 382 (v0 :: .int x :: Ls) (st) h = ev L xs mdL_act 383 (v0 :: .int x :: Ls) (.int x :: st) (h) := e_iload_n dL_act_382 rfl
theorem iL_act_383  {Ls st : List Value} {h : AH} : ev L xs mdL_act 383 (Ls) (st) h = ev L xs mdL_act 384 (Ls) (.int (nI 4) :: st) (h) := e_iconst dL_act_383 (by decide)
theorem iL_act_384 {x z : Int32} {Ls st : List Value} {h : AH} : ev L xs mdL_act 384 (Ls) (.int z :: .int x :: st) h = ev L xs mdL_act 385 (Ls) (.int (x >>> (z &&& nI 31)) :: st) (h) := e_ishr dL_act_384
theorem iL_act_385  {Ls st : List Value} {h : AH} : ev L xs mdL_act 385 (Ls) (st) h = ev L xs mdL_act 387 (Ls) (.int (nI 12) :: st) (h) := e_bipush dL_act_385 (by decide)
theorem iL_act_387 {p0 : Int32} {p1 : Int32} {Ls st : List Value} {h : AH} (hw : wds st ≤ 8) : ev L xs mdL_act 387 Ls (.int p1 :: .int p0 :: st) h = kn L xs mdL_act 387 390 Ls st (ev L xs mdL_low 0 [.int p0, .int p1] [] h) := e_callS (as := [.int p1, .int p0]) dL_act_387 mr_8_47 (by decide) (by decide) rfl (by simp [wds, Value.category]; decide) rfl hw
theorem iL_act_390 {x z : Int32} {Ls st : List Value} {h : AH} : ev L xs mdL_act 390 (Ls) (.int z :: .int x :: st) h = ev L xs mdL_act 391 (Ls) (.int (x + z) :: st) (h) := e_iadd dL_act_390
theorem iL_act_391 {a : Nat} {p0 : Int32} {Ls st : List Value} {h : AH} (hk : hK h a = 6) (hw : wds st ≤ 8) : ev L xs mdL_act 391 Ls (.int p0 :: .ref a :: st) h = kn L xs mdL_act 391 394 Ls st (ev L xs mdX6_pass 0 [.ref a, .int p0] [] h) := e_callV (as := [.int p0]) dL_act_391 mr_8_71 (by decide) (by decide) rfl (by simp [wds, Value.category]; decide) rfl (by decide) hk hw
theorem iL_act_394 {a : Int32} {Ls st : List Value} {h : AH} : ev L xs mdL_act 394 (Ls) (.int a :: st) h = ev L xs mdL_act 395 (Ls) (st) (h) := e_pop dL_act_394 rfl
theorem iL_act_395 {Ls : List Value} {h : AH} : ev L xs mdL_act 395 Ls [] h = some (.inl (none, h)) := e_vret dL_act_395 rfl
theorem dL_addsUp_0 : decode cL_addsUp 0 = .ok (.iconst 0, 1) := by decide +kernel
theorem dL_addsUp_1 : decode cL_addsUp 1 = .ok (.istore_n 1, 1) := by decide +kernel
theorem dL_addsUp_2 : decode cL_addsUp 2 = .ok (.iconst 0, 1) := by decide +kernel
theorem dL_addsUp_3 : decode cL_addsUp 3 = .ok (.istore_n 2, 1) := by decide +kernel
theorem dL_addsUp_4 : decode cL_addsUp 4 = .ok (.iconst 0, 1) := by decide +kernel
theorem dL_addsUp_5 : decode cL_addsUp 5 = .ok (.istore_n 3, 1) := by decide +kernel
theorem dL_addsUp_6 : decode cL_addsUp 6 = .ok (.iconst 0, 1) := by decide +kernel
theorem dL_addsUp_7 : decode cL_addsUp 7 = .ok (.istore 4, 2) := by decide +kernel
theorem dL_addsUp_9 : decode cL_addsUp 9 = .ok (.iload 4, 2) := by decide +kernel
theorem dL_addsUp_11 : decode cL_addsUp 11 = .ok (.aload_n 0, 1) := by decide +kernel
theorem dL_addsUp_12 : decode cL_addsUp 12 = .ok (.iconst 1, 1) := by decide +kernel
theorem dL_addsUp_13 : decode cL_addsUp 13 = .ok (.invokevirtual 8, 3) := by decide +kernel
theorem dL_addsUp_16 : decode cL_addsUp 16 = .ok (.if_icmp .ge 92, 3) := by decide +kernel
theorem dL_addsUp_19 : decode cL_addsUp 19 = .ok (.iload_n 1, 1) := by decide +kernel
theorem dL_addsUp_20 : decode cL_addsUp 20 = .ok (.aload_n 0, 1) := by decide +kernel
theorem dL_addsUp_21 : decode cL_addsUp 21 = .ok (.iload 4, 2) := by decide +kernel
theorem dL_addsUp_23 : decode cL_addsUp 23 = .ok (.iconst 3, 1) := by decide +kernel
theorem dL_addsUp_24 : decode cL_addsUp 24 = .ok (.invokevirtual 14, 3) := by decide +kernel
theorem dL_addsUp_27 : decode cL_addsUp 27 = .ok (.iadd, 1) := by decide +kernel
theorem dL_addsUp_28 : decode cL_addsUp 28 = .ok (.istore_n 1, 1) := by decide +kernel
theorem dL_addsUp_29 : decode cL_addsUp 29 = .ok (.iload_n 2, 1) := by decide +kernel
theorem dL_addsUp_30 : decode cL_addsUp 30 = .ok (.aload_n 0, 1) := by decide +kernel
theorem dL_addsUp_31 : decode cL_addsUp 31 = .ok (.iload 4, 2) := by decide +kernel
theorem dL_addsUp_33 : decode cL_addsUp 33 = .ok (.iconst 4, 1) := by decide +kernel
theorem dL_addsUp_34 : decode cL_addsUp 34 = .ok (.invokevirtual 14, 3) := by decide +kernel
theorem dL_addsUp_37 : decode cL_addsUp 37 = .ok (.iadd, 1) := by decide +kernel
theorem dL_addsUp_38 : decode cL_addsUp 38 = .ok (.istore_n 2, 1) := by decide +kernel
theorem dL_addsUp_39 : decode cL_addsUp 39 = .ok (.aload_n 0, 1) := by decide +kernel
theorem dL_addsUp_40 : decode cL_addsUp 40 = .ok (.iload 4, 2) := by decide +kernel
theorem dL_addsUp_42 : decode cL_addsUp 42 = .ok (.iconst 2, 1) := by decide +kernel
theorem dL_addsUp_43 : decode cL_addsUp 43 = .ok (.invokevirtual 14, 3) := by decide +kernel
theorem dL_addsUp_46 : decode cL_addsUp 46 = .ok (.istore 5, 2) := by decide +kernel
theorem dL_addsUp_48 : decode cL_addsUp 48 = .ok (.iload 5, 2) := by decide +kernel
theorem dL_addsUp_50 : decode cL_addsUp 50 = .ok (.ifCond .lt 15, 3) := by decide +kernel
theorem dL_addsUp_53 : decode cL_addsUp 53 = .ok (.aload_n 0, 1) := by decide +kernel
theorem dL_addsUp_54 : decode cL_addsUp 54 = .ok (.iload 5, 2) := by decide +kernel
theorem dL_addsUp_56 : decode cL_addsUp 56 = .ok (.iconst 2, 1) := by decide +kernel
theorem dL_addsUp_57 : decode cL_addsUp 57 = .ok (.invokevirtual 18, 3) := by decide +kernel
theorem dL_addsUp_60 : decode cL_addsUp 60 = .ok (.iload 4, 2) := by decide +kernel
theorem dL_addsUp_62 : decode cL_addsUp 62 = .ok (.if_icmp .ne 25, 3) := by decide +kernel
theorem dL_addsUp_65 : decode cL_addsUp 65 = .ok (.aload_n 0, 1) := by decide +kernel
theorem dL_addsUp_66 : decode cL_addsUp 66 = .ok (.iload 4, 2) := by decide +kernel
theorem dL_addsUp_68 : decode cL_addsUp 68 = .ok (.bipush 8, 2) := by decide +kernel
theorem dL_addsUp_70 : decode cL_addsUp 70 = .ok (.invokevirtual 14, 3) := by decide +kernel
theorem dL_addsUp_73 : decode cL_addsUp 73 = .ok (.ifCond .le 16, 3) := by decide +kernel
theorem dL_addsUp_76 : decode cL_addsUp 76 = .ok (.aload_n 0, 1) := by decide +kernel
theorem dL_addsUp_77 : decode cL_addsUp 77 = .ok (.iload 4, 2) := by decide +kernel
theorem dL_addsUp_79 : decode cL_addsUp 79 = .ok (.bipush 7, 2) := by decide +kernel
theorem dL_addsUp_81 : decode cL_addsUp 81 = .ok (.invokevirtual 14, 3) := by decide +kernel
theorem dL_addsUp_84 : decode cL_addsUp 84 = .ok (.ifCond .lt 5, 3) := by decide +kernel
theorem dL_addsUp_87 : decode cL_addsUp 87 = .ok (.iconst 0, 1) := by decide +kernel
theorem dL_addsUp_88 : decode cL_addsUp 88 = .ok (.ireturn, 1) := by decide +kernel
theorem dL_addsUp_89 : decode cL_addsUp 89 = .ok (.iload_n 3, 1) := by decide +kernel
theorem dL_addsUp_90 : decode cL_addsUp 90 = .ok (.iload 5, 2) := by decide +kernel
theorem dL_addsUp_92 : decode cL_addsUp 92 = .ok (.ifCond .lt 7, 3) := by decide +kernel
theorem dL_addsUp_95 : decode cL_addsUp 95 = .ok (.iconst 1, 1) := by decide +kernel
theorem dL_addsUp_96 : decode cL_addsUp 96 = .ok (.goto 4, 3) := by decide +kernel
theorem dL_addsUp_99 : decode cL_addsUp 99 = .ok (.iconst 0, 1) := by decide +kernel
theorem dL_addsUp_100 : decode cL_addsUp 100 = .ok (.iadd, 1) := by decide +kernel
theorem dL_addsUp_101 : decode cL_addsUp 101 = .ok (.istore_n 3, 1) := by decide +kernel
theorem dL_addsUp_102 : decode cL_addsUp 102 = .ok (.iinc 4 1, 3) := by decide +kernel
theorem dL_addsUp_105 : decode cL_addsUp 105 = .ok (.goto (-96), 3) := by decide +kernel
theorem dL_addsUp_108 : decode cL_addsUp 108 = .ok (.iconst 0, 1) := by decide +kernel
theorem dL_addsUp_109 : decode cL_addsUp 109 = .ok (.istore 4, 2) := by decide +kernel
theorem dL_addsUp_111 : decode cL_addsUp 111 = .ok (.iconst 0, 1) := by decide +kernel
theorem dL_addsUp_112 : decode cL_addsUp 112 = .ok (.istore 5, 2) := by decide +kernel
theorem dL_addsUp_114 : decode cL_addsUp 114 = .ok (.iconst 0, 1) := by decide +kernel
theorem dL_addsUp_115 : decode cL_addsUp 115 = .ok (.istore 6, 2) := by decide +kernel
theorem dL_addsUp_117 : decode cL_addsUp 117 = .ok (.iconst 0, 1) := by decide +kernel
theorem dL_addsUp_118 : decode cL_addsUp 118 = .ok (.istore 7, 2) := by decide +kernel
theorem dL_addsUp_120 : decode cL_addsUp 120 = .ok (.iload 7, 2) := by decide +kernel
theorem dL_addsUp_122 : decode cL_addsUp 122 = .ok (.aload_n 0, 1) := by decide +kernel
theorem dL_addsUp_123 : decode cL_addsUp 123 = .ok (.iconst 2, 1) := by decide +kernel
theorem dL_addsUp_124 : decode cL_addsUp 124 = .ok (.invokevirtual 8, 3) := by decide +kernel
theorem dL_addsUp_127 : decode cL_addsUp 127 = .ok (.if_icmp .ge 250, 3) := by decide +kernel
theorem dL_addsUp_130 : decode cL_addsUp 130 = .ok (.aload_n 0, 1) := by decide +kernel
theorem dL_addsUp_131 : decode cL_addsUp 131 = .ok (.iload 7, 2) := by decide +kernel
theorem dL_addsUp_133 : decode cL_addsUp 133 = .ok (.iconst 3, 1) := by decide +kernel
theorem dL_addsUp_134 : decode cL_addsUp 134 = .ok (.invokevirtual 18, 3) := by decide +kernel
theorem dL_addsUp_137 : decode cL_addsUp 137 = .ok (.istore 8, 2) := by decide +kernel
theorem dL_addsUp_139 : decode cL_addsUp 139 = .ok (.aload_n 0, 1) := by decide +kernel
theorem dL_addsUp_140 : decode cL_addsUp 140 = .ok (.iload 7, 2) := by decide +kernel
theorem dL_addsUp_142 : decode cL_addsUp 142 = .ok (.iconst 4, 1) := by decide +kernel
theorem dL_addsUp_143 : decode cL_addsUp 143 = .ok (.invokevirtual 18, 3) := by decide +kernel
theorem dL_addsUp_146 : decode cL_addsUp 146 = .ok (.istore 9, 2) := by decide +kernel
theorem dL_addsUp_148 : decode cL_addsUp 148 = .ok (.iload 4, 2) := by decide +kernel
theorem dL_addsUp_150 : decode cL_addsUp 150 = .ok (.aload_n 0, 1) := by decide +kernel
theorem dL_addsUp_151 : decode cL_addsUp 151 = .ok (.iload 7, 2) := by decide +kernel
theorem dL_addsUp_153 : decode cL_addsUp 153 = .ok (.bipush 8, 2) := by decide +kernel
theorem dL_addsUp_155 : decode cL_addsUp 155 = .ok (.invokevirtual 18, 3) := by decide +kernel
theorem dL_addsUp_158 : decode cL_addsUp 158 = .ok (.aload_n 0, 1) := by decide +kernel
theorem dL_addsUp_159 : decode cL_addsUp 159 = .ok (.iload 7, 2) := by decide +kernel
theorem dL_addsUp_161 : decode cL_addsUp 161 = .ok (.bipush 9, 2) := by decide +kernel
theorem dL_addsUp_163 : decode cL_addsUp 163 = .ok (.invokevirtual 18, 3) := by decide +kernel
theorem dL_addsUp_166 : decode cL_addsUp 166 = .ok (.iadd, 1) := by decide +kernel
theorem dL_addsUp_167 : decode cL_addsUp 167 = .ok (.iadd, 1) := by decide +kernel
theorem dL_addsUp_168 : decode cL_addsUp 168 = .ok (.istore 4, 2) := by decide +kernel
theorem dL_addsUp_170 : decode cL_addsUp 170 = .ok (.iload 5, 2) := by decide +kernel
theorem dL_addsUp_172 : decode cL_addsUp 172 = .ok (.aload_n 0, 1) := by decide +kernel
theorem dL_addsUp_173 : decode cL_addsUp 173 = .ok (.iload 7, 2) := by decide +kernel
theorem dL_addsUp_175 : decode cL_addsUp 175 = .ok (.iconst 5, 1) := by decide +kernel
theorem dL_addsUp_176 : decode cL_addsUp 176 = .ok (.invokevirtual 18, 3) := by decide +kernel
theorem dL_addsUp_179 : decode cL_addsUp 179 = .ok (.iadd, 1) := by decide +kernel
theorem dL_addsUp_180 : decode cL_addsUp 180 = .ok (.istore 5, 2) := by decide +kernel
theorem dL_addsUp_182 : decode cL_addsUp 182 = .ok (.iload 6, 2) := by decide +kernel
theorem dL_addsUp_184 : decode cL_addsUp 184 = .ok (.aload_n 0, 1) := by decide +kernel
theorem dL_addsUp_185 : decode cL_addsUp 185 = .ok (.iload 7, 2) := by decide +kernel
theorem dL_addsUp_187 : decode cL_addsUp 187 = .ok (.bipush 6, 2) := by decide +kernel
theorem dL_addsUp_189 : decode cL_addsUp 189 = .ok (.invokevirtual 18, 3) := by decide +kernel
theorem dL_addsUp_192 : decode cL_addsUp 192 = .ok (.iadd, 1) := by decide +kernel
theorem dL_addsUp_193 : decode cL_addsUp 193 = .ok (.istore 6, 2) := by decide +kernel
theorem dL_addsUp_195 : decode cL_addsUp 195 = .ok (.iload_n 3, 1) := by decide +kernel
theorem dL_addsUp_196 : decode cL_addsUp 196 = .ok (.aload_n 0, 1) := by decide +kernel
theorem dL_addsUp_197 : decode cL_addsUp 197 = .ok (.iload 7, 2) := by decide +kernel
theorem dL_addsUp_199 : decode cL_addsUp 199 = .ok (.iconst 2, 1) := by decide +kernel
theorem dL_addsUp_200 : decode cL_addsUp 200 = .ok (.invokevirtual 18, 3) := by decide +kernel
theorem dL_addsUp_203 : decode cL_addsUp 203 = .ok (.ifCond .lt 7, 3) := by decide +kernel
theorem dL_addsUp_206 : decode cL_addsUp 206 = .ok (.iconst 1, 1) := by decide +kernel
theorem dL_addsUp_207 : decode cL_addsUp 207 = .ok (.goto 4, 3) := by decide +kernel
theorem dL_addsUp_210 : decode cL_addsUp 210 = .ok (.iconst 0, 1) := by decide +kernel
theorem dL_addsUp_211 : decode cL_addsUp 211 = .ok (.isub, 1) := by decide +kernel
theorem dL_addsUp_212 : decode cL_addsUp 212 = .ok (.istore_n 3, 1) := by decide +kernel
theorem dL_addsUp_213 : decode cL_addsUp 213 = .ok (.iload 8, 2) := by decide +kernel
theorem dL_addsUp_215 : decode cL_addsUp 215 = .ok (.ifCond .lt 88, 3) := by decide +kernel
theorem dL_addsUp_218 : decode cL_addsUp 218 = .ok (.iload 8, 2) := by decide +kernel
theorem dL_addsUp_220 : decode cL_addsUp 220 = .ok (.iconst 5, 1) := by decide +kernel
theorem dL_addsUp_221 : decode cL_addsUp 221 = .ok (.if_icmp .gt 82, 3) := by decide +kernel
theorem dL_addsUp_224 : decode cL_addsUp 224 = .ok (.iload 9, 2) := by decide +kernel
theorem dL_addsUp_226 : decode cL_addsUp 226 = .ok (.ifCond .lt 77, 3) := by decide +kernel
theorem dL_addsUp_229 : decode cL_addsUp 229 = .ok (.iload 9, 2) := by decide +kernel
theorem dL_addsUp_231 : decode cL_addsUp 231 = .ok (.bipush 19, 2) := by decide +kernel
theorem dL_addsUp_233 : decode cL_addsUp 233 = .ok (.if_icmp .gt 70, 3) := by decide +kernel
theorem dL_addsUp_236 : decode cL_addsUp 236 = .ok (.aload_n 0, 1) := by decide +kernel
theorem dL_addsUp_237 : decode cL_addsUp 237 = .ok (.iload 7, 2) := by decide +kernel
theorem dL_addsUp_239 : decode cL_addsUp 239 = .ok (.bipush 10, 2) := by decide +kernel
theorem dL_addsUp_241 : decode cL_addsUp 241 = .ok (.invokevirtual 18, 3) := by decide +kernel
theorem dL_addsUp_244 : decode cL_addsUp 244 = .ok (.iload 8, 2) := by decide +kernel
theorem dL_addsUp_246 : decode cL_addsUp 246 = .ok (.iconst 5, 1) := by decide +kernel
theorem dL_addsUp_247 : decode cL_addsUp 247 = .ok (.if_icmp .ne 7, 3) := by decide +kernel
theorem dL_addsUp_250 : decode cL_addsUp 250 = .ok (.iconst (-1), 1) := by decide +kernel
theorem dL_addsUp_251 : decode cL_addsUp 251 = .ok (.goto 8, 3) := by decide +kernel
theorem dL_addsUp_254 : decode cL_addsUp 254 = .ok (.bipush 20, 2) := by decide +kernel
theorem dL_addsUp_256 : decode cL_addsUp 256 = .ok (.iload 9, 2) := by decide +kernel
theorem dL_addsUp_258 : decode cL_addsUp 258 = .ok (.isub, 1) := by decide +kernel
theorem dL_addsUp_259 : decode cL_addsUp 259 = .ok (.if_icmp .ne 44, 3) := by decide +kernel
theorem dL_addsUp_262 : decode cL_addsUp 262 = .ok (.aload_n 0, 1) := by decide +kernel
theorem dL_addsUp_263 : decode cL_addsUp 263 = .ok (.iload 7, 2) := by decide +kernel
theorem dL_addsUp_265 : decode cL_addsUp 265 = .ok (.bipush 6, 2) := by decide +kernel
theorem dL_addsUp_267 : decode cL_addsUp 267 = .ok (.invokevirtual 18, 3) := by decide +kernel
theorem dL_addsUp_270 : decode cL_addsUp 270 = .ok (.iconst 1, 1) := by decide +kernel
theorem dL_addsUp_271 : decode cL_addsUp 271 = .ok (.if_icmp .ne 7, 3) := by decide +kernel
theorem dL_addsUp_274 : decode cL_addsUp 274 = .ok (.iconst 1, 1) := by decide +kernel
theorem dL_addsUp_275 : decode cL_addsUp 275 = .ok (.goto 4, 3) := by decide +kernel
theorem dL_addsUp_278 : decode cL_addsUp 278 = .ok (.iconst 0, 1) := by decide +kernel
theorem dL_addsUp_279 : decode cL_addsUp 279 = .ok (.aload_n 0, 1) := by decide +kernel
theorem dL_addsUp_280 : decode cL_addsUp 280 = .ok (.iconst 3, 1) := by decide +kernel
theorem dL_addsUp_281 : decode cL_addsUp 281 = .ok (.invokevirtual 8, 3) := by decide +kernel
theorem dL_addsUp_284 : decode cL_addsUp 284 = .ok (.aload_n 0, 1) := by decide +kernel
theorem dL_addsUp_285 : decode cL_addsUp 285 = .ok (.iload 7, 2) := by decide +kernel
theorem dL_addsUp_287 : decode cL_addsUp 287 = .ok (.bipush 7, 2) := by decide +kernel
theorem dL_addsUp_289 : decode cL_addsUp 289 = .ok (.invokevirtual 18, 3) := by decide +kernel
theorem dL_addsUp_292 : decode cL_addsUp 292 = .ok (.if_icmp .ge 7, 3) := by decide +kernel
theorem dL_addsUp_295 : decode cL_addsUp 295 = .ok (.iconst 1, 1) := by decide +kernel
theorem dL_addsUp_296 : decode cL_addsUp 296 = .ok (.goto 4, 3) := by decide +kernel
theorem dL_addsUp_299 : decode cL_addsUp 299 = .ok (.iconst 0, 1) := by decide +kernel
theorem dL_addsUp_300 : decode cL_addsUp 300 = .ok (.if_icmp .eq 5, 3) := by decide +kernel
theorem dL_addsUp_303 : decode cL_addsUp 303 = .ok (.iconst 0, 1) := by decide +kernel
theorem dL_addsUp_304 : decode cL_addsUp 304 = .ok (.ireturn, 1) := by decide +kernel
theorem dL_addsUp_305 : decode cL_addsUp 305 = .ok (.iload 8, 2) := by decide +kernel
theorem dL_addsUp_307 : decode cL_addsUp 307 = .ok (.iconst 5, 1) := by decide +kernel
theorem dL_addsUp_308 : decode cL_addsUp 308 = .ok (.if_icmp .ge 31, 3) := by decide +kernel
theorem dL_addsUp_311 : decode cL_addsUp 311 = .ok (.bipush 20, 2) := by decide +kernel
theorem dL_addsUp_313 : decode cL_addsUp 313 = .ok (.iload 8, 2) := by decide +kernel
theorem dL_addsUp_315 : decode cL_addsUp 315 = .ok (.imul, 1) := by decide +kernel
theorem dL_addsUp_316 : decode cL_addsUp 316 = .ok (.iload 9, 2) := by decide +kernel
theorem dL_addsUp_318 : decode cL_addsUp 318 = .ok (.iadd, 1) := by decide +kernel
theorem dL_addsUp_319 : decode cL_addsUp 319 = .ok (.aload_n 0, 1) := by decide +kernel
theorem dL_addsUp_320 : decode cL_addsUp 320 = .ok (.iload 7, 2) := by decide +kernel
theorem dL_addsUp_322 : decode cL_addsUp 322 = .ok (.bipush 8, 2) := by decide +kernel
theorem dL_addsUp_324 : decode cL_addsUp 324 = .ok (.invokevirtual 18, 3) := by decide +kernel
theorem dL_addsUp_327 : decode cL_addsUp 327 = .ok (.aload_n 0, 1) := by decide +kernel
theorem dL_addsUp_328 : decode cL_addsUp 328 = .ok (.iload 7, 2) := by decide +kernel
theorem dL_addsUp_330 : decode cL_addsUp 330 = .ok (.bipush 9, 2) := by decide +kernel
theorem dL_addsUp_332 : decode cL_addsUp 332 = .ok (.invokevirtual 18, 3) := by decide +kernel
theorem dL_addsUp_335 : decode cL_addsUp 335 = .ok (.iadd, 1) := by decide +kernel
theorem dL_addsUp_336 : decode cL_addsUp 336 = .ok (.if_icmp .ne 33, 3) := by decide +kernel
theorem dL_addsUp_339 : decode cL_addsUp 339 = .ok (.aload_n 0, 1) := by decide +kernel
theorem dL_addsUp_340 : decode cL_addsUp 340 = .ok (.iload 7, 2) := by decide +kernel
theorem dL_addsUp_342 : decode cL_addsUp 342 = .ok (.iconst 5, 1) := by decide +kernel
theorem dL_addsUp_343 : decode cL_addsUp 343 = .ok (.invokevirtual 18, 3) := by decide +kernel
theorem dL_addsUp_346 : decode cL_addsUp 346 = .ok (.bipush 10, 2) := by decide +kernel
theorem dL_addsUp_348 : decode cL_addsUp 348 = .ok (.aload_n 0, 1) := by decide +kernel
theorem dL_addsUp_349 : decode cL_addsUp 349 = .ok (.iload 7, 2) := by decide +kernel
theorem dL_addsUp_351 : decode cL_addsUp 351 = .ok (.bipush 8, 2) := by decide +kernel
theorem dL_addsUp_353 : decode cL_addsUp 353 = .ok (.invokevirtual 18, 3) := by decide +kernel
theorem dL_addsUp_356 : decode cL_addsUp 356 = .ok (.aload_n 0, 1) := by decide +kernel
theorem dL_addsUp_357 : decode cL_addsUp 357 = .ok (.iload 7, 2) := by decide +kernel
theorem dL_addsUp_359 : decode cL_addsUp 359 = .ok (.bipush 9, 2) := by decide +kernel
theorem dL_addsUp_361 : decode cL_addsUp 361 = .ok (.invokevirtual 18, 3) := by decide +kernel
theorem dL_addsUp_364 : decode cL_addsUp 364 = .ok (.iadd, 1) := by decide +kernel
theorem dL_addsUp_365 : decode cL_addsUp 365 = .ok (.imul, 1) := by decide +kernel
theorem dL_addsUp_366 : decode cL_addsUp 366 = .ok (.if_icmp .ge 5, 3) := by decide +kernel
theorem dL_addsUp_369 : decode cL_addsUp 369 = .ok (.iconst 0, 1) := by decide +kernel
theorem dL_addsUp_370 : decode cL_addsUp 370 = .ok (.ireturn, 1) := by decide +kernel
theorem dL_addsUp_371 : decode cL_addsUp 371 = .ok (.iinc 7 1, 3) := by decide +kernel
theorem dL_addsUp_374 : decode cL_addsUp 374 = .ok (.goto (-254), 3) := by decide +kernel
theorem dL_addsUp_377 : decode cL_addsUp 377 = .ok (.iload_n 3, 1) := by decide +kernel
theorem dL_addsUp_378 : decode cL_addsUp 378 = .ok (.ifCond .ne 121, 3) := by decide +kernel
theorem dL_addsUp_381 : decode cL_addsUp 381 = .ok (.iload_n 1, 1) := by decide +kernel
theorem dL_addsUp_382 : decode cL_addsUp 382 = .ok (.aload_n 0, 1) := by decide +kernel
theorem dL_addsUp_383 : decode cL_addsUp 383 = .ok (.bipush 7, 2) := by decide +kernel
theorem dL_addsUp_385 : decode cL_addsUp 385 = .ok (.invokevirtual 8, 3) := by decide +kernel
theorem dL_addsUp_388 : decode cL_addsUp 388 = .ok (.if_icmp .ne 111, 3) := by decide +kernel
theorem dL_addsUp_391 : decode cL_addsUp 391 = .ok (.aload_n 0, 1) := by decide +kernel
theorem dL_addsUp_392 : decode cL_addsUp 392 = .ok (.bipush 7, 2) := by decide +kernel
theorem dL_addsUp_394 : decode cL_addsUp 394 = .ok (.invokevirtual 8, 3) := by decide +kernel
theorem dL_addsUp_397 : decode cL_addsUp 397 = .ok (.aload_n 0, 1) := by decide +kernel
theorem dL_addsUp_398 : decode cL_addsUp 398 = .ok (.bipush 6, 2) := by decide +kernel
theorem dL_addsUp_400 : decode cL_addsUp 400 = .ok (.invokevirtual 8, 3) := by decide +kernel
theorem dL_addsUp_403 : decode cL_addsUp 403 = .ok (.if_icmp .gt 96, 3) := by decide +kernel
theorem dL_addsUp_406 : decode cL_addsUp 406 = .ok (.iload_n 2, 1) := by decide +kernel
theorem dL_addsUp_407 : decode cL_addsUp 407 = .ok (.aload_n 0, 1) := by decide +kernel
theorem dL_addsUp_408 : decode cL_addsUp 408 = .ok (.bipush 8, 2) := by decide +kernel
theorem dL_addsUp_410 : decode cL_addsUp 410 = .ok (.invokevirtual 8, 3) := by decide +kernel
theorem dL_addsUp_413 : decode cL_addsUp 413 = .ok (.if_icmp .ne 86, 3) := by decide +kernel
theorem dL_addsUp_416 : decode cL_addsUp 416 = .ok (.iload 4, 2) := by decide +kernel
theorem dL_addsUp_418 : decode cL_addsUp 418 = .ok (.aload_n 0, 1) := by decide +kernel
theorem dL_addsUp_419 : decode cL_addsUp 419 = .ok (.bipush 6, 2) := by decide +kernel
theorem dL_addsUp_421 : decode cL_addsUp 421 = .ok (.invokevirtual 8, 3) := by decide +kernel
theorem dL_addsUp_424 : decode cL_addsUp 424 = .ok (.aload_n 0, 1) := by decide +kernel
theorem dL_addsUp_425 : decode cL_addsUp 425 = .ok (.bipush 7, 2) := by decide +kernel
theorem dL_addsUp_427 : decode cL_addsUp 427 = .ok (.invokevirtual 8, 3) := by decide +kernel
theorem dL_addsUp_430 : decode cL_addsUp 430 = .ok (.isub, 1) := by decide +kernel
theorem dL_addsUp_431 : decode cL_addsUp 431 = .ok (.if_icmp .ne 68, 3) := by decide +kernel
theorem dL_addsUp_434 : decode cL_addsUp 434 = .ok (.iload 5, 2) := by decide +kernel
theorem dL_addsUp_436 : decode cL_addsUp 436 = .ok (.aload_n 0, 1) := by decide +kernel
theorem dL_addsUp_437 : decode cL_addsUp 437 = .ok (.bipush 9, 2) := by decide +kernel
theorem dL_addsUp_439 : decode cL_addsUp 439 = .ok (.invokevirtual 8, 3) := by decide +kernel
theorem dL_addsUp_442 : decode cL_addsUp 442 = .ok (.if_icmp .ne 57, 3) := by decide +kernel
theorem dL_addsUp_445 : decode cL_addsUp 445 = .ok (.iload 6, 2) := by decide +kernel
theorem dL_addsUp_447 : decode cL_addsUp 447 = .ok (.aload_n 0, 1) := by decide +kernel
theorem dL_addsUp_448 : decode cL_addsUp 448 = .ok (.bipush 10, 2) := by decide +kernel
theorem dL_addsUp_450 : decode cL_addsUp 450 = .ok (.invokevirtual 8, 3) := by decide +kernel
theorem dL_addsUp_453 : decode cL_addsUp 453 = .ok (.if_icmp .ne 46, 3) := by decide +kernel
theorem dL_addsUp_456 : decode cL_addsUp 456 = .ok (.aload_n 0, 1) := by decide +kernel
theorem dL_addsUp_457 : decode cL_addsUp 457 = .ok (.iconst 5, 1) := by decide +kernel
theorem dL_addsUp_458 : decode cL_addsUp 458 = .ok (.invokevirtual 8, 3) := by decide +kernel
theorem dL_addsUp_461 : decode cL_addsUp 461 = .ok (.iconst 2, 1) := by decide +kernel
theorem dL_addsUp_462 : decode cL_addsUp 462 = .ok (.aload_n 0, 1) := by decide +kernel
theorem dL_addsUp_463 : decode cL_addsUp 463 = .ok (.iconst 3, 1) := by decide +kernel
theorem dL_addsUp_464 : decode cL_addsUp 464 = .ok (.invokevirtual 8, 3) := by decide +kernel
theorem dL_addsUp_467 : decode cL_addsUp 467 = .ok (.imul, 1) := by decide +kernel
theorem dL_addsUp_468 : decode cL_addsUp 468 = .ok (.aload_n 0, 1) := by decide +kernel
theorem dL_addsUp_469 : decode cL_addsUp 469 = .ok (.iconst 4, 1) := by decide +kernel
theorem dL_addsUp_470 : decode cL_addsUp 470 = .ok (.invokevirtual 8, 3) := by decide +kernel
theorem dL_addsUp_473 : decode cL_addsUp 473 = .ok (.iadd, 1) := by decide +kernel
theorem dL_addsUp_474 : decode cL_addsUp 474 = .ok (.if_icmp .gt 25, 3) := by decide +kernel
theorem dL_addsUp_477 : decode cL_addsUp 477 = .ok (.aload_n 0, 1) := by decide +kernel
theorem dL_addsUp_478 : decode cL_addsUp 478 = .ok (.invokevirtual 21, 3) := by decide +kernel
theorem dL_addsUp_481 : decode cL_addsUp 481 = .ok (.dconst 0, 1) := by decide +kernel
theorem dL_addsUp_482 : decode cL_addsUp 482 = .ok (.dcmp .l, 1) := by decide +kernel
theorem dL_addsUp_483 : decode cL_addsUp 483 = .ok (.ifCond .lt 16, 3) := by decide +kernel
theorem dL_addsUp_486 : decode cL_addsUp 486 = .ok (.aload_n 0, 1) := by decide +kernel
theorem dL_addsUp_487 : decode cL_addsUp 487 = .ok (.invokevirtual 21, 3) := by decide +kernel
theorem dL_addsUp_490 : decode cL_addsUp 490 = .ok (.dconst 1, 1) := by decide +kernel
theorem dL_addsUp_491 : decode cL_addsUp 491 = .ok (.dcmp .g, 1) := by decide +kernel
theorem dL_addsUp_492 : decode cL_addsUp 492 = .ok (.ifCond .gt 7, 3) := by decide +kernel
theorem dL_addsUp_495 : decode cL_addsUp 495 = .ok (.iconst 1, 1) := by decide +kernel
theorem dL_addsUp_496 : decode cL_addsUp 496 = .ok (.goto 4, 3) := by decide +kernel
theorem dL_addsUp_499 : decode cL_addsUp 499 = .ok (.iconst 0, 1) := by decide +kernel
theorem dL_addsUp_500 : decode cL_addsUp 500 = .ok (.ireturn, 1) := by decide +kernel
theorem iL_addsUp_0  {Ls st : List Value} {h : AH} : ev L xs mdL_addsUp 0 (Ls) (st) h = ev L xs mdL_addsUp 1 (Ls) (.int (nI 0) :: st) (h) := e_iconst dL_addsUp_0 (by decide)
theorem iL_addsUp_1 {v0 : Value} {v1 : Value} {x : Int32} {Ls st : List Value} {h : AH} (hc9 : v0.category = 1) : ev L xs mdL_addsUp 1 (v0 :: v1 :: Ls) (.int x :: st) h = ev L xs mdL_addsUp 2 (v0 :: .int x :: Ls) (st) (h) := e_istore_n dL_addsUp_1 rfl (by decide) (by unfold catOK; show (_ || (v0.category == 1)) = true; rw [hc9]; rfl)
theorem iL_addsUp_2  {Ls st : List Value} {h : AH} : ev L xs mdL_addsUp 2 (Ls) (st) h = ev L xs mdL_addsUp 3 (Ls) (.int (nI 0) :: st) (h) := e_iconst dL_addsUp_2 (by decide)
theorem iL_addsUp_3 {v0 : Value} {v1 : Value} {v2 : Value} {x : Int32} {Ls st : List Value} {h : AH} (hc9 : v1.category = 1) : ev L xs mdL_addsUp 3 (v0 :: v1 :: v2 :: Ls) (.int x :: st) h = ev L xs mdL_addsUp 4 (v0 :: v1 :: .int x :: Ls) (st) (h) := e_istore_n dL_addsUp_3 rfl (by decide) (by unfold catOK; show (_ || (v1.category == 1)) = true; rw [hc9]; rfl)
theorem iL_addsUp_4  {Ls st : List Value} {h : AH} : ev L xs mdL_addsUp 4 (Ls) (st) h = ev L xs mdL_addsUp 5 (Ls) (.int (nI 0) :: st) (h) := e_iconst dL_addsUp_4 (by decide)
theorem iL_addsUp_5 {v0 : Value} {v1 : Value} {v2 : Value} {v3 : Value} {x : Int32} {Ls st : List Value} {h : AH} (hc9 : v2.category = 1) : ev L xs mdL_addsUp 5 (v0 :: v1 :: v2 :: v3 :: Ls) (.int x :: st) h = ev L xs mdL_addsUp 6 (v0 :: v1 :: v2 :: .int x :: Ls) (st) (h) := e_istore_n dL_addsUp_5 rfl (by decide) (by unfold catOK; show (_ || (v2.category == 1)) = true; rw [hc9]; rfl)
theorem iL_addsUp_6  {Ls st : List Value} {h : AH} : ev L xs mdL_addsUp 6 (Ls) (st) h = ev L xs mdL_addsUp 7 (Ls) (.int (nI 0) :: st) (h) := e_iconst dL_addsUp_6 (by decide)
theorem iL_addsUp_7 {v0 : Value} {v1 : Value} {v2 : Value} {v3 : Value} {v4 : Value} {x : Int32} {Ls st : List Value} {h : AH} (hc9 : v3.category = 1) : ev L xs mdL_addsUp 7 (v0 :: v1 :: v2 :: v3 :: v4 :: Ls) (.int x :: st) h = ev L xs mdL_addsUp 9 (v0 :: v1 :: v2 :: v3 :: .int x :: Ls) (st) (h) := e_istore dL_addsUp_7 rfl (by decide) (by unfold catOK; show (_ || (v3.category == 1)) = true; rw [hc9]; rfl)
theorem iL_addsUp_9 {v0 : Value} {v1 : Value} {v2 : Value} {v3 : Value} {x : Int32} {Ls st : List Value} {h : AH} : ev L xs mdL_addsUp 9 (v0 :: v1 :: v2 :: v3 :: .int x :: Ls) (st) h = ev L xs mdL_addsUp 11 (v0 :: v1 :: v2 :: v3 :: .int x :: Ls) (.int x :: st) (h) := e_iload dL_addsUp_9 rfl
theorem iL_addsUp_11 {x : Nat} {Ls st : List Value} {h : AH} : ev L xs mdL_addsUp 11 (.ref x :: Ls) (st) h = ev L xs mdL_addsUp 12 (.ref x :: Ls) (.ref x :: st) (h) := e_aload_n dL_addsUp_11 rfl
theorem iL_addsUp_12  {Ls st : List Value} {h : AH} : ev L xs mdL_addsUp 12 (Ls) (st) h = ev L xs mdL_addsUp 13 (Ls) (.int (nI 1) :: st) (h) := e_iconst dL_addsUp_12 (by decide)
theorem iL_addsUp_13 {a : Nat} {p0 : Int32} {Ls st : List Value} {h : AH} (hk : hK h a = 6) (hw : wds st ≤ 8) : ev L xs mdL_addsUp 13 Ls (.int p0 :: .ref a :: st) h = kn L xs mdL_addsUp 13 16 Ls st (ev L xs mdX6_value 0 [.ref a, .int p0] [] h) := e_callV (as := [.int p0]) dL_addsUp_13 mr_8_8 (by decide) (by decide) rfl (by simp [wds, Value.category]; decide) rfl (by decide) hk hw
theorem iL_addsUp_16 {x z : Int32} {Ls st : List Value} {h : AH} : ev L xs mdL_addsUp 16 Ls (.int z :: .int x :: st) h = if z ≤ x then ev L xs mdL_addsUp 108 Ls st h else ev L xs mdL_addsUp 19 Ls st h := e_ic_ge dL_addsUp_16 (by decide)
theorem iL_addsUp_19 {v0 : Value} {x : Int32} {Ls st : List Value} {h : AH} : ev L xs mdL_addsUp 19 (v0 :: .int x :: Ls) (st) h = ev L xs mdL_addsUp 20 (v0 :: .int x :: Ls) (.int x :: st) (h) := e_iload_n dL_addsUp_19 rfl
theorem iL_addsUp_20 {x : Nat} {Ls st : List Value} {h : AH} : ev L xs mdL_addsUp 20 (.ref x :: Ls) (st) h = ev L xs mdL_addsUp 21 (.ref x :: Ls) (.ref x :: st) (h) := e_aload_n dL_addsUp_20 rfl
theorem iL_addsUp_21 {v0 : Value} {v1 : Value} {v2 : Value} {v3 : Value} {x : Int32} {Ls st : List Value} {h : AH} : ev L xs mdL_addsUp 21 (v0 :: v1 :: v2 :: v3 :: .int x :: Ls) (st) h = ev L xs mdL_addsUp 23 (v0 :: v1 :: v2 :: v3 :: .int x :: Ls) (.int x :: st) (h) := e_iload dL_addsUp_21 rfl
theorem iL_addsUp_23  {Ls st : List Value} {h : AH} : ev L xs mdL_addsUp 23 (Ls) (st) h = ev L xs mdL_addsUp 24 (Ls) (.int (nI 3) :: st) (h) := e_iconst dL_addsUp_23 (by decide)
theorem iL_addsUp_24 {a : Nat} {p0 : Int32} {p1 : Int32} {Ls st : List Value} {h : AH} (hk : hK h a = 6) (hw : wds st ≤ 8) : ev L xs mdL_addsUp 24 Ls (.int p1 :: .int p0 :: .ref a :: st) h = kn L xs mdL_addsUp 24 27 Ls st (ev L xs mdX6_post 0 [.ref a, .int p0, .int p1] [] h) := e_callV (as := [.int p1, .int p0]) dL_addsUp_24 mr_8_14 (by decide) (by decide) rfl (by simp [wds, Value.category]; decide) rfl (by decide) hk hw
theorem iL_addsUp_27 {x z : Int32} {Ls st : List Value} {h : AH} : ev L xs mdL_addsUp 27 (Ls) (.int z :: .int x :: st) h = ev L xs mdL_addsUp 28 (Ls) (.int (x + z) :: st) (h) := e_iadd dL_addsUp_27
theorem iL_addsUp_28 {v0 : Value} {v1 : Value} {x : Int32} {Ls st : List Value} {h : AH} (hc9 : v0.category = 1) : ev L xs mdL_addsUp 28 (v0 :: v1 :: Ls) (.int x :: st) h = ev L xs mdL_addsUp 29 (v0 :: .int x :: Ls) (st) (h) := e_istore_n dL_addsUp_28 rfl (by decide) (by unfold catOK; show (_ || (v0.category == 1)) = true; rw [hc9]; rfl)
theorem iL_addsUp_29 {v0 : Value} {v1 : Value} {x : Int32} {Ls st : List Value} {h : AH} : ev L xs mdL_addsUp 29 (v0 :: v1 :: .int x :: Ls) (st) h = ev L xs mdL_addsUp 30 (v0 :: v1 :: .int x :: Ls) (.int x :: st) (h) := e_iload_n dL_addsUp_29 rfl
theorem iL_addsUp_30 {x : Nat} {Ls st : List Value} {h : AH} : ev L xs mdL_addsUp 30 (.ref x :: Ls) (st) h = ev L xs mdL_addsUp 31 (.ref x :: Ls) (.ref x :: st) (h) := e_aload_n dL_addsUp_30 rfl
theorem iL_addsUp_31 {v0 : Value} {v1 : Value} {v2 : Value} {v3 : Value} {x : Int32} {Ls st : List Value} {h : AH} : ev L xs mdL_addsUp 31 (v0 :: v1 :: v2 :: v3 :: .int x :: Ls) (st) h = ev L xs mdL_addsUp 33 (v0 :: v1 :: v2 :: v3 :: .int x :: Ls) (.int x :: st) (h) := e_iload dL_addsUp_31 rfl
theorem iL_addsUp_33  {Ls st : List Value} {h : AH} : ev L xs mdL_addsUp 33 (Ls) (st) h = ev L xs mdL_addsUp 34 (Ls) (.int (nI 4) :: st) (h) := e_iconst dL_addsUp_33 (by decide)
theorem iL_addsUp_34 {a : Nat} {p0 : Int32} {p1 : Int32} {Ls st : List Value} {h : AH} (hk : hK h a = 6) (hw : wds st ≤ 8) : ev L xs mdL_addsUp 34 Ls (.int p1 :: .int p0 :: .ref a :: st) h = kn L xs mdL_addsUp 34 37 Ls st (ev L xs mdX6_post 0 [.ref a, .int p0, .int p1] [] h) := e_callV (as := [.int p1, .int p0]) dL_addsUp_34 mr_8_14 (by decide) (by decide) rfl (by simp [wds, Value.category]; decide) rfl (by decide) hk hw
theorem iL_addsUp_37 {x z : Int32} {Ls st : List Value} {h : AH} : ev L xs mdL_addsUp 37 (Ls) (.int z :: .int x :: st) h = ev L xs mdL_addsUp 38 (Ls) (.int (x + z) :: st) (h) := e_iadd dL_addsUp_37
theorem iL_addsUp_38 {v0 : Value} {v1 : Value} {v2 : Value} {x : Int32} {Ls st : List Value} {h : AH} (hc9 : v1.category = 1) : ev L xs mdL_addsUp 38 (v0 :: v1 :: v2 :: Ls) (.int x :: st) h = ev L xs mdL_addsUp 39 (v0 :: v1 :: .int x :: Ls) (st) (h) := e_istore_n dL_addsUp_38 rfl (by decide) (by unfold catOK; show (_ || (v1.category == 1)) = true; rw [hc9]; rfl)
theorem iL_addsUp_39 {x : Nat} {Ls st : List Value} {h : AH} : ev L xs mdL_addsUp 39 (.ref x :: Ls) (st) h = ev L xs mdL_addsUp 40 (.ref x :: Ls) (.ref x :: st) (h) := e_aload_n dL_addsUp_39 rfl
theorem iL_addsUp_40 {v0 : Value} {v1 : Value} {v2 : Value} {v3 : Value} {x : Int32} {Ls st : List Value} {h : AH} : ev L xs mdL_addsUp 40 (v0 :: v1 :: v2 :: v3 :: .int x :: Ls) (st) h = ev L xs mdL_addsUp 42 (v0 :: v1 :: v2 :: v3 :: .int x :: Ls) (.int x :: st) (h) := e_iload dL_addsUp_40 rfl
theorem iL_addsUp_42  {Ls st : List Value} {h : AH} : ev L xs mdL_addsUp 42 (Ls) (st) h = ev L xs mdL_addsUp 43 (Ls) (.int (nI 2) :: st) (h) := e_iconst dL_addsUp_42 (by decide)
theorem iL_addsUp_43 {a : Nat} {p0 : Int32} {p1 : Int32} {Ls st : List Value} {h : AH} (hk : hK h a = 6) (hw : wds st ≤ 8) : ev L xs mdL_addsUp 43 Ls (.int p1 :: .int p0 :: .ref a :: st) h = kn L xs mdL_addsUp 43 46 Ls st (ev L xs mdX6_post 0 [.ref a, .int p0, .int p1] [] h) := e_callV (as := [.int p1, .int p0]) dL_addsUp_43 mr_8_14 (by decide) (by decide) rfl (by simp [wds, Value.category]; decide) rfl (by decide) hk hw
theorem iL_addsUp_46 {v0 : Value} {v1 : Value} {v2 : Value} {v3 : Value} {v4 : Value} {v5 : Value} {x : Int32} {Ls st : List Value} {h : AH} (hc9 : v4.category = 1) : ev L xs mdL_addsUp 46 (v0 :: v1 :: v2 :: v3 :: v4 :: v5 :: Ls) (.int x :: st) h = ev L xs mdL_addsUp 48 (v0 :: v1 :: v2 :: v3 :: v4 :: .int x :: Ls) (st) (h) := e_istore dL_addsUp_46 rfl (by decide) (by unfold catOK; show (_ || (v4.category == 1)) = true; rw [hc9]; rfl)
theorem iL_addsUp_48 {v0 : Value} {v1 : Value} {v2 : Value} {v3 : Value} {v4 : Value} {x : Int32} {Ls st : List Value} {h : AH} : ev L xs mdL_addsUp 48 (v0 :: v1 :: v2 :: v3 :: v4 :: .int x :: Ls) (st) h = ev L xs mdL_addsUp 50 (v0 :: v1 :: v2 :: v3 :: v4 :: .int x :: Ls) (.int x :: st) (h) := e_iload dL_addsUp_48 rfl
theorem iL_addsUp_50 {x : Int32} {Ls st : List Value} {h : AH} : ev L xs mdL_addsUp 50 Ls (.int x :: st) h = if x < nI 0 then ev L xs mdL_addsUp 65 Ls st h else ev L xs mdL_addsUp 53 Ls st h := e_if_lt dL_addsUp_50 (by decide)
theorem iL_addsUp_53 {x : Nat} {Ls st : List Value} {h : AH} : ev L xs mdL_addsUp 53 (.ref x :: Ls) (st) h = ev L xs mdL_addsUp 54 (.ref x :: Ls) (.ref x :: st) (h) := e_aload_n dL_addsUp_53 rfl
theorem iL_addsUp_54 {v0 : Value} {v1 : Value} {v2 : Value} {v3 : Value} {v4 : Value} {x : Int32} {Ls st : List Value} {h : AH} : ev L xs mdL_addsUp 54 (v0 :: v1 :: v2 :: v3 :: v4 :: .int x :: Ls) (st) h = ev L xs mdL_addsUp 56 (v0 :: v1 :: v2 :: v3 :: v4 :: .int x :: Ls) (.int x :: st) (h) := e_iload dL_addsUp_54 rfl
theorem iL_addsUp_56  {Ls st : List Value} {h : AH} : ev L xs mdL_addsUp 56 (Ls) (st) h = ev L xs mdL_addsUp 57 (Ls) (.int (nI 2) :: st) (h) := e_iconst dL_addsUp_56 (by decide)
theorem iL_addsUp_57 {a : Nat} {p0 : Int32} {p1 : Int32} {Ls st : List Value} {h : AH} (hk : hK h a = 6) (hw : wds st ≤ 8) : ev L xs mdL_addsUp 57 Ls (.int p1 :: .int p0 :: .ref a :: st) h = kn L xs mdL_addsUp 57 60 Ls st (ev L xs mdX6_guard 0 [.ref a, .int p0, .int p1] [] h) := e_callV (as := [.int p1, .int p0]) dL_addsUp_57 mr_8_18 (by decide) (by decide) rfl (by simp [wds, Value.category]; decide) rfl (by decide) hk hw
theorem iL_addsUp_60 {v0 : Value} {v1 : Value} {v2 : Value} {v3 : Value} {x : Int32} {Ls st : List Value} {h : AH} : ev L xs mdL_addsUp 60 (v0 :: v1 :: v2 :: v3 :: .int x :: Ls) (st) h = ev L xs mdL_addsUp 62 (v0 :: v1 :: v2 :: v3 :: .int x :: Ls) (.int x :: st) (h) := e_iload dL_addsUp_60 rfl
theorem iL_addsUp_62 {x z : Int32} {Ls st : List Value} {h : AH} : ev L xs mdL_addsUp 62 Ls (.int z :: .int x :: st) h = if x = z then ev L xs mdL_addsUp 65 Ls st h else ev L xs mdL_addsUp 87 Ls st h := e_ic_ne dL_addsUp_62 (by decide)
theorem iL_addsUp_65 {x : Nat} {Ls st : List Value} {h : AH} : ev L xs mdL_addsUp 65 (.ref x :: Ls) (st) h = ev L xs mdL_addsUp 66 (.ref x :: Ls) (.ref x :: st) (h) := e_aload_n dL_addsUp_65 rfl
theorem iL_addsUp_66 {v0 : Value} {v1 : Value} {v2 : Value} {v3 : Value} {x : Int32} {Ls st : List Value} {h : AH} : ev L xs mdL_addsUp 66 (v0 :: v1 :: v2 :: v3 :: .int x :: Ls) (st) h = ev L xs mdL_addsUp 68 (v0 :: v1 :: v2 :: v3 :: .int x :: Ls) (.int x :: st) (h) := e_iload dL_addsUp_66 rfl
theorem iL_addsUp_68  {Ls st : List Value} {h : AH} : ev L xs mdL_addsUp 68 (Ls) (st) h = ev L xs mdL_addsUp 70 (Ls) (.int (nI 8) :: st) (h) := e_bipush dL_addsUp_68 (by decide)
theorem iL_addsUp_70 {a : Nat} {p0 : Int32} {p1 : Int32} {Ls st : List Value} {h : AH} (hk : hK h a = 6) (hw : wds st ≤ 8) : ev L xs mdL_addsUp 70 Ls (.int p1 :: .int p0 :: .ref a :: st) h = kn L xs mdL_addsUp 70 73 Ls st (ev L xs mdX6_post 0 [.ref a, .int p0, .int p1] [] h) := e_callV (as := [.int p1, .int p0]) dL_addsUp_70 mr_8_14 (by decide) (by decide) rfl (by simp [wds, Value.category]; decide) rfl (by decide) hk hw
theorem iL_addsUp_73 {x : Int32} {Ls st : List Value} {h : AH} : ev L xs mdL_addsUp 73 Ls (.int x :: st) h = if x ≤ nI 0 then ev L xs mdL_addsUp 89 Ls st h else ev L xs mdL_addsUp 76 Ls st h := e_if_le dL_addsUp_73 (by decide)
theorem iL_addsUp_76 {x : Nat} {Ls st : List Value} {h : AH} : ev L xs mdL_addsUp 76 (.ref x :: Ls) (st) h = ev L xs mdL_addsUp 77 (.ref x :: Ls) (.ref x :: st) (h) := e_aload_n dL_addsUp_76 rfl
theorem iL_addsUp_77 {v0 : Value} {v1 : Value} {v2 : Value} {v3 : Value} {x : Int32} {Ls st : List Value} {h : AH} : ev L xs mdL_addsUp 77 (v0 :: v1 :: v2 :: v3 :: .int x :: Ls) (st) h = ev L xs mdL_addsUp 79 (v0 :: v1 :: v2 :: v3 :: .int x :: Ls) (.int x :: st) (h) := e_iload dL_addsUp_77 rfl
theorem iL_addsUp_79  {Ls st : List Value} {h : AH} : ev L xs mdL_addsUp 79 (Ls) (st) h = ev L xs mdL_addsUp 81 (Ls) (.int (nI 7) :: st) (h) := e_bipush dL_addsUp_79 (by decide)
theorem iL_addsUp_81 {a : Nat} {p0 : Int32} {p1 : Int32} {Ls st : List Value} {h : AH} (hk : hK h a = 6) (hw : wds st ≤ 8) : ev L xs mdL_addsUp 81 Ls (.int p1 :: .int p0 :: .ref a :: st) h = kn L xs mdL_addsUp 81 84 Ls st (ev L xs mdX6_post 0 [.ref a, .int p0, .int p1] [] h) := e_callV (as := [.int p1, .int p0]) dL_addsUp_81 mr_8_14 (by decide) (by decide) rfl (by simp [wds, Value.category]; decide) rfl (by decide) hk hw
theorem iL_addsUp_84 {x : Int32} {Ls st : List Value} {h : AH} : ev L xs mdL_addsUp 84 Ls (.int x :: st) h = if x < nI 0 then ev L xs mdL_addsUp 89 Ls st h else ev L xs mdL_addsUp 87 Ls st h := e_if_lt dL_addsUp_84 (by decide)
theorem iL_addsUp_87  {Ls st : List Value} {h : AH} : ev L xs mdL_addsUp 87 (Ls) (st) h = ev L xs mdL_addsUp 88 (Ls) (.int (nI 0) :: st) (h) := e_iconst dL_addsUp_87 (by decide)
theorem iL_addsUp_88 {v : Int32} {Ls : List Value} {h : AH} (hv : v = nI 0 ∨ v = nI 1) : ev L xs mdL_addsUp 88 Ls [.int v] h = some (.inl (some (.int v), h)) := e_zret dL_addsUp_88 rfl hv
theorem iL_addsUp_89 {v0 : Value} {v1 : Value} {v2 : Value} {x : Int32} {Ls st : List Value} {h : AH} : ev L xs mdL_addsUp 89 (v0 :: v1 :: v2 :: .int x :: Ls) (st) h = ev L xs mdL_addsUp 90 (v0 :: v1 :: v2 :: .int x :: Ls) (.int x :: st) (h) := e_iload_n dL_addsUp_89 rfl
theorem iL_addsUp_90 {v0 : Value} {v1 : Value} {v2 : Value} {v3 : Value} {v4 : Value} {x : Int32} {Ls st : List Value} {h : AH} : ev L xs mdL_addsUp 90 (v0 :: v1 :: v2 :: v3 :: v4 :: .int x :: Ls) (st) h = ev L xs mdL_addsUp 92 (v0 :: v1 :: v2 :: v3 :: v4 :: .int x :: Ls) (.int x :: st) (h) := e_iload dL_addsUp_90 rfl
theorem iL_addsUp_92 {x : Int32} {Ls st : List Value} {h : AH} : ev L xs mdL_addsUp 92 Ls (.int x :: st) h = if x < nI 0 then ev L xs mdL_addsUp 99 Ls st h else ev L xs mdL_addsUp 95 Ls st h := e_if_lt dL_addsUp_92 (by decide)
theorem iL_addsUp_95  {Ls st : List Value} {h : AH} : ev L xs mdL_addsUp 95 (Ls) (st) h = ev L xs mdL_addsUp 96 (Ls) (.int (nI 1) :: st) (h) := e_iconst dL_addsUp_95 (by decide)
theorem iL_addsUp_96  {Ls st : List Value} {h : AH} : ev L xs mdL_addsUp 96 (Ls) (st) h = ev L xs mdL_addsUp 100 (Ls) (st) (h) := e_goto dL_addsUp_96 (by decide)
theorem iL_addsUp_99  {Ls st : List Value} {h : AH} : ev L xs mdL_addsUp 99 (Ls) (st) h = ev L xs mdL_addsUp 100 (Ls) (.int (nI 0) :: st) (h) := e_iconst dL_addsUp_99 (by decide)
theorem iL_addsUp_100 {x z : Int32} {Ls st : List Value} {h : AH} : ev L xs mdL_addsUp 100 (Ls) (.int z :: .int x :: st) h = ev L xs mdL_addsUp 101 (Ls) (.int (x + z) :: st) (h) := e_iadd dL_addsUp_100
theorem iL_addsUp_101 {v0 : Value} {v1 : Value} {v2 : Value} {v3 : Value} {x : Int32} {Ls st : List Value} {h : AH} (hc9 : v2.category = 1) : ev L xs mdL_addsUp 101 (v0 :: v1 :: v2 :: v3 :: Ls) (.int x :: st) h = ev L xs mdL_addsUp 102 (v0 :: v1 :: v2 :: .int x :: Ls) (st) (h) := e_istore_n dL_addsUp_101 rfl (by decide) (by unfold catOK; show (_ || (v2.category == 1)) = true; rw [hc9]; rfl)
theorem iL_addsUp_102 {v0 : Value} {v1 : Value} {v2 : Value} {v3 : Value} {x : Int32} {Ls st : List Value} {h : AH} (hc9 : v3.category = 1) : ev L xs mdL_addsUp 102 (v0 :: v1 :: v2 :: v3 :: .int x :: Ls) (st) h = ev L xs mdL_addsUp 105 (v0 :: v1 :: v2 :: v3 :: .int (x + (nI 1)) :: Ls) (st) (h) := e_iinc dL_addsUp_102 rfl rfl rfl (by decide) (by unfold catOK; show (_ || (v3.category == 1)) = true; rw [hc9]; rfl)
theorem iL_addsUp_105  {Ls st : List Value} {h : AH} : ev L xs mdL_addsUp 105 (Ls) (st) h = ev L xs mdL_addsUp 9 (Ls) (st) (h) := e_goto dL_addsUp_105 (by decide)
theorem iL_addsUp_108  {Ls st : List Value} {h : AH} : ev L xs mdL_addsUp 108 (Ls) (st) h = ev L xs mdL_addsUp 109 (Ls) (.int (nI 0) :: st) (h) := e_iconst dL_addsUp_108 (by decide)
theorem iL_addsUp_109 {v0 : Value} {v1 : Value} {v2 : Value} {v3 : Value} {v4 : Value} {x : Int32} {Ls st : List Value} {h : AH} (hc9 : v3.category = 1) : ev L xs mdL_addsUp 109 (v0 :: v1 :: v2 :: v3 :: v4 :: Ls) (.int x :: st) h = ev L xs mdL_addsUp 111 (v0 :: v1 :: v2 :: v3 :: .int x :: Ls) (st) (h) := e_istore dL_addsUp_109 rfl (by decide) (by unfold catOK; show (_ || (v3.category == 1)) = true; rw [hc9]; rfl)
theorem iL_addsUp_111  {Ls st : List Value} {h : AH} : ev L xs mdL_addsUp 111 (Ls) (st) h = ev L xs mdL_addsUp 112 (Ls) (.int (nI 0) :: st) (h) := e_iconst dL_addsUp_111 (by decide)
theorem iL_addsUp_112 {v0 : Value} {v1 : Value} {v2 : Value} {v3 : Value} {v4 : Value} {v5 : Value} {x : Int32} {Ls st : List Value} {h : AH} (hc9 : v4.category = 1) : ev L xs mdL_addsUp 112 (v0 :: v1 :: v2 :: v3 :: v4 :: v5 :: Ls) (.int x :: st) h = ev L xs mdL_addsUp 114 (v0 :: v1 :: v2 :: v3 :: v4 :: .int x :: Ls) (st) (h) := e_istore dL_addsUp_112 rfl (by decide) (by unfold catOK; show (_ || (v4.category == 1)) = true; rw [hc9]; rfl)
theorem iL_addsUp_114  {Ls st : List Value} {h : AH} : ev L xs mdL_addsUp 114 (Ls) (st) h = ev L xs mdL_addsUp 115 (Ls) (.int (nI 0) :: st) (h) := e_iconst dL_addsUp_114 (by decide)
theorem iL_addsUp_115 {v0 : Value} {v1 : Value} {v2 : Value} {v3 : Value} {v4 : Value} {v5 : Value} {v6 : Value} {x : Int32} {Ls st : List Value} {h : AH} (hc9 : v5.category = 1) : ev L xs mdL_addsUp 115 (v0 :: v1 :: v2 :: v3 :: v4 :: v5 :: v6 :: Ls) (.int x :: st) h = ev L xs mdL_addsUp 117 (v0 :: v1 :: v2 :: v3 :: v4 :: v5 :: .int x :: Ls) (st) (h) := e_istore dL_addsUp_115 rfl (by decide) (by unfold catOK; show (_ || (v5.category == 1)) = true; rw [hc9]; rfl)
theorem iL_addsUp_117  {Ls st : List Value} {h : AH} : ev L xs mdL_addsUp 117 (Ls) (st) h = ev L xs mdL_addsUp 118 (Ls) (.int (nI 0) :: st) (h) := e_iconst dL_addsUp_117 (by decide)
theorem iL_addsUp_118 {v0 : Value} {v1 : Value} {v2 : Value} {v3 : Value} {v4 : Value} {v5 : Value} {v6 : Value} {v7 : Value} {x : Int32} {Ls st : List Value} {h : AH} (hc9 : v6.category = 1) : ev L xs mdL_addsUp 118 (v0 :: v1 :: v2 :: v3 :: v4 :: v5 :: v6 :: v7 :: Ls) (.int x :: st) h = ev L xs mdL_addsUp 120 (v0 :: v1 :: v2 :: v3 :: v4 :: v5 :: v6 :: .int x :: Ls) (st) (h) := e_istore dL_addsUp_118 rfl (by decide) (by unfold catOK; show (_ || (v6.category == 1)) = true; rw [hc9]; rfl)
theorem iL_addsUp_120 {v0 : Value} {v1 : Value} {v2 : Value} {v3 : Value} {v4 : Value} {v5 : Value} {v6 : Value} {x : Int32} {Ls st : List Value} {h : AH} : ev L xs mdL_addsUp 120 (v0 :: v1 :: v2 :: v3 :: v4 :: v5 :: v6 :: .int x :: Ls) (st) h = ev L xs mdL_addsUp 122 (v0 :: v1 :: v2 :: v3 :: v4 :: v5 :: v6 :: .int x :: Ls) (.int x :: st) (h) := e_iload dL_addsUp_120 rfl
theorem iL_addsUp_122 {x : Nat} {Ls st : List Value} {h : AH} : ev L xs mdL_addsUp 122 (.ref x :: Ls) (st) h = ev L xs mdL_addsUp 123 (.ref x :: Ls) (.ref x :: st) (h) := e_aload_n dL_addsUp_122 rfl
theorem iL_addsUp_123  {Ls st : List Value} {h : AH} : ev L xs mdL_addsUp 123 (Ls) (st) h = ev L xs mdL_addsUp 124 (Ls) (.int (nI 2) :: st) (h) := e_iconst dL_addsUp_123 (by decide)
theorem iL_addsUp_124 {a : Nat} {p0 : Int32} {Ls st : List Value} {h : AH} (hk : hK h a = 6) (hw : wds st ≤ 8) : ev L xs mdL_addsUp 124 Ls (.int p0 :: .ref a :: st) h = kn L xs mdL_addsUp 124 127 Ls st (ev L xs mdX6_value 0 [.ref a, .int p0] [] h) := e_callV (as := [.int p0]) dL_addsUp_124 mr_8_8 (by decide) (by decide) rfl (by simp [wds, Value.category]; decide) rfl (by decide) hk hw
theorem iL_addsUp_127 {x z : Int32} {Ls st : List Value} {h : AH} : ev L xs mdL_addsUp 127 Ls (.int z :: .int x :: st) h = if z ≤ x then ev L xs mdL_addsUp 377 Ls st h else ev L xs mdL_addsUp 130 Ls st h := e_ic_ge dL_addsUp_127 (by decide)
theorem iL_addsUp_130 {x : Nat} {Ls st : List Value} {h : AH} : ev L xs mdL_addsUp 130 (.ref x :: Ls) (st) h = ev L xs mdL_addsUp 131 (.ref x :: Ls) (.ref x :: st) (h) := e_aload_n dL_addsUp_130 rfl
theorem iL_addsUp_131 {v0 : Value} {v1 : Value} {v2 : Value} {v3 : Value} {v4 : Value} {v5 : Value} {v6 : Value} {x : Int32} {Ls st : List Value} {h : AH} : ev L xs mdL_addsUp 131 (v0 :: v1 :: v2 :: v3 :: v4 :: v5 :: v6 :: .int x :: Ls) (st) h = ev L xs mdL_addsUp 133 (v0 :: v1 :: v2 :: v3 :: v4 :: v5 :: v6 :: .int x :: Ls) (.int x :: st) (h) := e_iload dL_addsUp_131 rfl
theorem iL_addsUp_133  {Ls st : List Value} {h : AH} : ev L xs mdL_addsUp 133 (Ls) (st) h = ev L xs mdL_addsUp 134 (Ls) (.int (nI 3) :: st) (h) := e_iconst dL_addsUp_133 (by decide)
theorem iL_addsUp_134 {a : Nat} {p0 : Int32} {p1 : Int32} {Ls st : List Value} {h : AH} (hk : hK h a = 6) (hw : wds st ≤ 8) : ev L xs mdL_addsUp 134 Ls (.int p1 :: .int p0 :: .ref a :: st) h = kn L xs mdL_addsUp 134 137 Ls st (ev L xs mdX6_guard 0 [.ref a, .int p0, .int p1] [] h) := e_callV (as := [.int p1, .int p0]) dL_addsUp_134 mr_8_18 (by decide) (by decide) rfl (by simp [wds, Value.category]; decide) rfl (by decide) hk hw
theorem iL_addsUp_137 {v0 : Value} {v1 : Value} {v2 : Value} {v3 : Value} {v4 : Value} {v5 : Value} {v6 : Value} {v7 : Value} {v8 : Value} {x : Int32} {Ls st : List Value} {h : AH} (hc9 : v7.category = 1) : ev L xs mdL_addsUp 137 (v0 :: v1 :: v2 :: v3 :: v4 :: v5 :: v6 :: v7 :: v8 :: Ls) (.int x :: st) h = ev L xs mdL_addsUp 139 (v0 :: v1 :: v2 :: v3 :: v4 :: v5 :: v6 :: v7 :: .int x :: Ls) (st) (h) := e_istore dL_addsUp_137 rfl (by decide) (by unfold catOK; show (_ || (v7.category == 1)) = true; rw [hc9]; rfl)
theorem iL_addsUp_139 {x : Nat} {Ls st : List Value} {h : AH} : ev L xs mdL_addsUp 139 (.ref x :: Ls) (st) h = ev L xs mdL_addsUp 140 (.ref x :: Ls) (.ref x :: st) (h) := e_aload_n dL_addsUp_139 rfl
theorem iL_addsUp_140 {v0 : Value} {v1 : Value} {v2 : Value} {v3 : Value} {v4 : Value} {v5 : Value} {v6 : Value} {x : Int32} {Ls st : List Value} {h : AH} : ev L xs mdL_addsUp 140 (v0 :: v1 :: v2 :: v3 :: v4 :: v5 :: v6 :: .int x :: Ls) (st) h = ev L xs mdL_addsUp 142 (v0 :: v1 :: v2 :: v3 :: v4 :: v5 :: v6 :: .int x :: Ls) (.int x :: st) (h) := e_iload dL_addsUp_140 rfl
theorem iL_addsUp_142  {Ls st : List Value} {h : AH} : ev L xs mdL_addsUp 142 (Ls) (st) h = ev L xs mdL_addsUp 143 (Ls) (.int (nI 4) :: st) (h) := e_iconst dL_addsUp_142 (by decide)
theorem iL_addsUp_143 {a : Nat} {p0 : Int32} {p1 : Int32} {Ls st : List Value} {h : AH} (hk : hK h a = 6) (hw : wds st ≤ 8) : ev L xs mdL_addsUp 143 Ls (.int p1 :: .int p0 :: .ref a :: st) h = kn L xs mdL_addsUp 143 146 Ls st (ev L xs mdX6_guard 0 [.ref a, .int p0, .int p1] [] h) := e_callV (as := [.int p1, .int p0]) dL_addsUp_143 mr_8_18 (by decide) (by decide) rfl (by simp [wds, Value.category]; decide) rfl (by decide) hk hw
theorem iL_addsUp_146 {v0 : Value} {v1 : Value} {v2 : Value} {v3 : Value} {v4 : Value} {v5 : Value} {v6 : Value} {v7 : Value} {v8 : Value} {v9 : Value} {x : Int32} {Ls st : List Value} {h : AH} (hc9 : v8.category = 1) : ev L xs mdL_addsUp 146 (v0 :: v1 :: v2 :: v3 :: v4 :: v5 :: v6 :: v7 :: v8 :: v9 :: Ls) (.int x :: st) h = ev L xs mdL_addsUp 148 (v0 :: v1 :: v2 :: v3 :: v4 :: v5 :: v6 :: v7 :: v8 :: .int x :: Ls) (st) (h) := e_istore dL_addsUp_146 rfl (by decide) (by unfold catOK; show (_ || (v8.category == 1)) = true; rw [hc9]; rfl)
theorem iL_addsUp_148 {v0 : Value} {v1 : Value} {v2 : Value} {v3 : Value} {x : Int32} {Ls st : List Value} {h : AH} : ev L xs mdL_addsUp 148 (v0 :: v1 :: v2 :: v3 :: .int x :: Ls) (st) h = ev L xs mdL_addsUp 150 (v0 :: v1 :: v2 :: v3 :: .int x :: Ls) (.int x :: st) (h) := e_iload dL_addsUp_148 rfl
theorem iL_addsUp_150 {x : Nat} {Ls st : List Value} {h : AH} : ev L xs mdL_addsUp 150 (.ref x :: Ls) (st) h = ev L xs mdL_addsUp 151 (.ref x :: Ls) (.ref x :: st) (h) := e_aload_n dL_addsUp_150 rfl
theorem iL_addsUp_151 {v0 : Value} {v1 : Value} {v2 : Value} {v3 : Value} {v4 : Value} {v5 : Value} {v6 : Value} {x : Int32} {Ls st : List Value} {h : AH} : ev L xs mdL_addsUp 151 (v0 :: v1 :: v2 :: v3 :: v4 :: v5 :: v6 :: .int x :: Ls) (st) h = ev L xs mdL_addsUp 153 (v0 :: v1 :: v2 :: v3 :: v4 :: v5 :: v6 :: .int x :: Ls) (.int x :: st) (h) := e_iload dL_addsUp_151 rfl
theorem iL_addsUp_153  {Ls st : List Value} {h : AH} : ev L xs mdL_addsUp 153 (Ls) (st) h = ev L xs mdL_addsUp 155 (Ls) (.int (nI 8) :: st) (h) := e_bipush dL_addsUp_153 (by decide)
theorem iL_addsUp_155 {a : Nat} {p0 : Int32} {p1 : Int32} {Ls st : List Value} {h : AH} (hk : hK h a = 6) (hw : wds st ≤ 8) : ev L xs mdL_addsUp 155 Ls (.int p1 :: .int p0 :: .ref a :: st) h = kn L xs mdL_addsUp 155 158 Ls st (ev L xs mdX6_guard 0 [.ref a, .int p0, .int p1] [] h) := e_callV (as := [.int p1, .int p0]) dL_addsUp_155 mr_8_18 (by decide) (by decide) rfl (by simp [wds, Value.category]; decide) rfl (by decide) hk hw
theorem iL_addsUp_158 {x : Nat} {Ls st : List Value} {h : AH} : ev L xs mdL_addsUp 158 (.ref x :: Ls) (st) h = ev L xs mdL_addsUp 159 (.ref x :: Ls) (.ref x :: st) (h) := e_aload_n dL_addsUp_158 rfl
theorem iL_addsUp_159 {v0 : Value} {v1 : Value} {v2 : Value} {v3 : Value} {v4 : Value} {v5 : Value} {v6 : Value} {x : Int32} {Ls st : List Value} {h : AH} : ev L xs mdL_addsUp 159 (v0 :: v1 :: v2 :: v3 :: v4 :: v5 :: v6 :: .int x :: Ls) (st) h = ev L xs mdL_addsUp 161 (v0 :: v1 :: v2 :: v3 :: v4 :: v5 :: v6 :: .int x :: Ls) (.int x :: st) (h) := e_iload dL_addsUp_159 rfl
theorem iL_addsUp_161  {Ls st : List Value} {h : AH} : ev L xs mdL_addsUp 161 (Ls) (st) h = ev L xs mdL_addsUp 163 (Ls) (.int (nI 9) :: st) (h) := e_bipush dL_addsUp_161 (by decide)
theorem iL_addsUp_163 {a : Nat} {p0 : Int32} {p1 : Int32} {Ls st : List Value} {h : AH} (hk : hK h a = 6) (hw : wds st ≤ 8) : ev L xs mdL_addsUp 163 Ls (.int p1 :: .int p0 :: .ref a :: st) h = kn L xs mdL_addsUp 163 166 Ls st (ev L xs mdX6_guard 0 [.ref a, .int p0, .int p1] [] h) := e_callV (as := [.int p1, .int p0]) dL_addsUp_163 mr_8_18 (by decide) (by decide) rfl (by simp [wds, Value.category]; decide) rfl (by decide) hk hw
theorem iL_addsUp_166 {x z : Int32} {Ls st : List Value} {h : AH} : ev L xs mdL_addsUp 166 (Ls) (.int z :: .int x :: st) h = ev L xs mdL_addsUp 167 (Ls) (.int (x + z) :: st) (h) := e_iadd dL_addsUp_166
theorem iL_addsUp_167 {x z : Int32} {Ls st : List Value} {h : AH} : ev L xs mdL_addsUp 167 (Ls) (.int z :: .int x :: st) h = ev L xs mdL_addsUp 168 (Ls) (.int (x + z) :: st) (h) := e_iadd dL_addsUp_167
theorem iL_addsUp_168 {v0 : Value} {v1 : Value} {v2 : Value} {v3 : Value} {v4 : Value} {x : Int32} {Ls st : List Value} {h : AH} (hc9 : v3.category = 1) : ev L xs mdL_addsUp 168 (v0 :: v1 :: v2 :: v3 :: v4 :: Ls) (.int x :: st) h = ev L xs mdL_addsUp 170 (v0 :: v1 :: v2 :: v3 :: .int x :: Ls) (st) (h) := e_istore dL_addsUp_168 rfl (by decide) (by unfold catOK; show (_ || (v3.category == 1)) = true; rw [hc9]; rfl)
theorem iL_addsUp_170 {v0 : Value} {v1 : Value} {v2 : Value} {v3 : Value} {v4 : Value} {x : Int32} {Ls st : List Value} {h : AH} : ev L xs mdL_addsUp 170 (v0 :: v1 :: v2 :: v3 :: v4 :: .int x :: Ls) (st) h = ev L xs mdL_addsUp 172 (v0 :: v1 :: v2 :: v3 :: v4 :: .int x :: Ls) (.int x :: st) (h) := e_iload dL_addsUp_170 rfl
theorem iL_addsUp_172 {x : Nat} {Ls st : List Value} {h : AH} : ev L xs mdL_addsUp 172 (.ref x :: Ls) (st) h = ev L xs mdL_addsUp 173 (.ref x :: Ls) (.ref x :: st) (h) := e_aload_n dL_addsUp_172 rfl
theorem iL_addsUp_173 {v0 : Value} {v1 : Value} {v2 : Value} {v3 : Value} {v4 : Value} {v5 : Value} {v6 : Value} {x : Int32} {Ls st : List Value} {h : AH} : ev L xs mdL_addsUp 173 (v0 :: v1 :: v2 :: v3 :: v4 :: v5 :: v6 :: .int x :: Ls) (st) h = ev L xs mdL_addsUp 175 (v0 :: v1 :: v2 :: v3 :: v4 :: v5 :: v6 :: .int x :: Ls) (.int x :: st) (h) := e_iload dL_addsUp_173 rfl
theorem iL_addsUp_175  {Ls st : List Value} {h : AH} : ev L xs mdL_addsUp 175 (Ls) (st) h = ev L xs mdL_addsUp 176 (Ls) (.int (nI 5) :: st) (h) := e_iconst dL_addsUp_175 (by decide)
theorem iL_addsUp_176 {a : Nat} {p0 : Int32} {p1 : Int32} {Ls st : List Value} {h : AH} (hk : hK h a = 6) (hw : wds st ≤ 8) : ev L xs mdL_addsUp 176 Ls (.int p1 :: .int p0 :: .ref a :: st) h = kn L xs mdL_addsUp 176 179 Ls st (ev L xs mdX6_guard 0 [.ref a, .int p0, .int p1] [] h) := e_callV (as := [.int p1, .int p0]) dL_addsUp_176 mr_8_18 (by decide) (by decide) rfl (by simp [wds, Value.category]; decide) rfl (by decide) hk hw
theorem iL_addsUp_179 {x z : Int32} {Ls st : List Value} {h : AH} : ev L xs mdL_addsUp 179 (Ls) (.int z :: .int x :: st) h = ev L xs mdL_addsUp 180 (Ls) (.int (x + z) :: st) (h) := e_iadd dL_addsUp_179
theorem iL_addsUp_180 {v0 : Value} {v1 : Value} {v2 : Value} {v3 : Value} {v4 : Value} {v5 : Value} {x : Int32} {Ls st : List Value} {h : AH} (hc9 : v4.category = 1) : ev L xs mdL_addsUp 180 (v0 :: v1 :: v2 :: v3 :: v4 :: v5 :: Ls) (.int x :: st) h = ev L xs mdL_addsUp 182 (v0 :: v1 :: v2 :: v3 :: v4 :: .int x :: Ls) (st) (h) := e_istore dL_addsUp_180 rfl (by decide) (by unfold catOK; show (_ || (v4.category == 1)) = true; rw [hc9]; rfl)
theorem iL_addsUp_182 {v0 : Value} {v1 : Value} {v2 : Value} {v3 : Value} {v4 : Value} {v5 : Value} {x : Int32} {Ls st : List Value} {h : AH} : ev L xs mdL_addsUp 182 (v0 :: v1 :: v2 :: v3 :: v4 :: v5 :: .int x :: Ls) (st) h = ev L xs mdL_addsUp 184 (v0 :: v1 :: v2 :: v3 :: v4 :: v5 :: .int x :: Ls) (.int x :: st) (h) := e_iload dL_addsUp_182 rfl
theorem iL_addsUp_184 {x : Nat} {Ls st : List Value} {h : AH} : ev L xs mdL_addsUp 184 (.ref x :: Ls) (st) h = ev L xs mdL_addsUp 185 (.ref x :: Ls) (.ref x :: st) (h) := e_aload_n dL_addsUp_184 rfl
theorem iL_addsUp_185 {v0 : Value} {v1 : Value} {v2 : Value} {v3 : Value} {v4 : Value} {v5 : Value} {v6 : Value} {x : Int32} {Ls st : List Value} {h : AH} : ev L xs mdL_addsUp 185 (v0 :: v1 :: v2 :: v3 :: v4 :: v5 :: v6 :: .int x :: Ls) (st) h = ev L xs mdL_addsUp 187 (v0 :: v1 :: v2 :: v3 :: v4 :: v5 :: v6 :: .int x :: Ls) (.int x :: st) (h) := e_iload dL_addsUp_185 rfl
theorem iL_addsUp_187  {Ls st : List Value} {h : AH} : ev L xs mdL_addsUp 187 (Ls) (st) h = ev L xs mdL_addsUp 189 (Ls) (.int (nI 6) :: st) (h) := e_bipush dL_addsUp_187 (by decide)
theorem iL_addsUp_189 {a : Nat} {p0 : Int32} {p1 : Int32} {Ls st : List Value} {h : AH} (hk : hK h a = 6) (hw : wds st ≤ 8) : ev L xs mdL_addsUp 189 Ls (.int p1 :: .int p0 :: .ref a :: st) h = kn L xs mdL_addsUp 189 192 Ls st (ev L xs mdX6_guard 0 [.ref a, .int p0, .int p1] [] h) := e_callV (as := [.int p1, .int p0]) dL_addsUp_189 mr_8_18 (by decide) (by decide) rfl (by simp [wds, Value.category]; decide) rfl (by decide) hk hw
theorem iL_addsUp_192 {x z : Int32} {Ls st : List Value} {h : AH} : ev L xs mdL_addsUp 192 (Ls) (.int z :: .int x :: st) h = ev L xs mdL_addsUp 193 (Ls) (.int (x + z) :: st) (h) := e_iadd dL_addsUp_192
theorem iL_addsUp_193 {v0 : Value} {v1 : Value} {v2 : Value} {v3 : Value} {v4 : Value} {v5 : Value} {v6 : Value} {x : Int32} {Ls st : List Value} {h : AH} (hc9 : v5.category = 1) : ev L xs mdL_addsUp 193 (v0 :: v1 :: v2 :: v3 :: v4 :: v5 :: v6 :: Ls) (.int x :: st) h = ev L xs mdL_addsUp 195 (v0 :: v1 :: v2 :: v3 :: v4 :: v5 :: .int x :: Ls) (st) (h) := e_istore dL_addsUp_193 rfl (by decide) (by unfold catOK; show (_ || (v5.category == 1)) = true; rw [hc9]; rfl)
theorem iL_addsUp_195 {v0 : Value} {v1 : Value} {v2 : Value} {x : Int32} {Ls st : List Value} {h : AH} : ev L xs mdL_addsUp 195 (v0 :: v1 :: v2 :: .int x :: Ls) (st) h = ev L xs mdL_addsUp 196 (v0 :: v1 :: v2 :: .int x :: Ls) (.int x :: st) (h) := e_iload_n dL_addsUp_195 rfl
theorem iL_addsUp_196 {x : Nat} {Ls st : List Value} {h : AH} : ev L xs mdL_addsUp 196 (.ref x :: Ls) (st) h = ev L xs mdL_addsUp 197 (.ref x :: Ls) (.ref x :: st) (h) := e_aload_n dL_addsUp_196 rfl
theorem iL_addsUp_197 {v0 : Value} {v1 : Value} {v2 : Value} {v3 : Value} {v4 : Value} {v5 : Value} {v6 : Value} {x : Int32} {Ls st : List Value} {h : AH} : ev L xs mdL_addsUp 197 (v0 :: v1 :: v2 :: v3 :: v4 :: v5 :: v6 :: .int x :: Ls) (st) h = ev L xs mdL_addsUp 199 (v0 :: v1 :: v2 :: v3 :: v4 :: v5 :: v6 :: .int x :: Ls) (.int x :: st) (h) := e_iload dL_addsUp_197 rfl
theorem iL_addsUp_199  {Ls st : List Value} {h : AH} : ev L xs mdL_addsUp 199 (Ls) (st) h = ev L xs mdL_addsUp 200 (Ls) (.int (nI 2) :: st) (h) := e_iconst dL_addsUp_199 (by decide)
theorem iL_addsUp_200 {a : Nat} {p0 : Int32} {p1 : Int32} {Ls st : List Value} {h : AH} (hk : hK h a = 6) (hw : wds st ≤ 8) : ev L xs mdL_addsUp 200 Ls (.int p1 :: .int p0 :: .ref a :: st) h = kn L xs mdL_addsUp 200 203 Ls st (ev L xs mdX6_guard 0 [.ref a, .int p0, .int p1] [] h) := e_callV (as := [.int p1, .int p0]) dL_addsUp_200 mr_8_18 (by decide) (by decide) rfl (by simp [wds, Value.category]; decide) rfl (by decide) hk hw
theorem iL_addsUp_203 {x : Int32} {Ls st : List Value} {h : AH} : ev L xs mdL_addsUp 203 Ls (.int x :: st) h = if x < nI 0 then ev L xs mdL_addsUp 210 Ls st h else ev L xs mdL_addsUp 206 Ls st h := e_if_lt dL_addsUp_203 (by decide)
theorem iL_addsUp_206  {Ls st : List Value} {h : AH} : ev L xs mdL_addsUp 206 (Ls) (st) h = ev L xs mdL_addsUp 207 (Ls) (.int (nI 1) :: st) (h) := e_iconst dL_addsUp_206 (by decide)
theorem iL_addsUp_207  {Ls st : List Value} {h : AH} : ev L xs mdL_addsUp 207 (Ls) (st) h = ev L xs mdL_addsUp 211 (Ls) (st) (h) := e_goto dL_addsUp_207 (by decide)
theorem iL_addsUp_210  {Ls st : List Value} {h : AH} : ev L xs mdL_addsUp 210 (Ls) (st) h = ev L xs mdL_addsUp 211 (Ls) (.int (nI 0) :: st) (h) := e_iconst dL_addsUp_210 (by decide)
theorem iL_addsUp_211 {x z : Int32} {Ls st : List Value} {h : AH} : ev L xs mdL_addsUp 211 (Ls) (.int z :: .int x :: st) h = ev L xs mdL_addsUp 212 (Ls) (.int (x - z) :: st) (h) := e_isub dL_addsUp_211
theorem iL_addsUp_212 {v0 : Value} {v1 : Value} {v2 : Value} {v3 : Value} {x : Int32} {Ls st : List Value} {h : AH} (hc9 : v2.category = 1) : ev L xs mdL_addsUp 212 (v0 :: v1 :: v2 :: v3 :: Ls) (.int x :: st) h = ev L xs mdL_addsUp 213 (v0 :: v1 :: v2 :: .int x :: Ls) (st) (h) := e_istore_n dL_addsUp_212 rfl (by decide) (by unfold catOK; show (_ || (v2.category == 1)) = true; rw [hc9]; rfl)
theorem iL_addsUp_213 {v0 : Value} {v1 : Value} {v2 : Value} {v3 : Value} {v4 : Value} {v5 : Value} {v6 : Value} {v7 : Value} {x : Int32} {Ls st : List Value} {h : AH} : ev L xs mdL_addsUp 213 (v0 :: v1 :: v2 :: v3 :: v4 :: v5 :: v6 :: v7 :: .int x :: Ls) (st) h = ev L xs mdL_addsUp 215 (v0 :: v1 :: v2 :: v3 :: v4 :: v5 :: v6 :: v7 :: .int x :: Ls) (.int x :: st) (h) := e_iload dL_addsUp_213 rfl
theorem iL_addsUp_215 {x : Int32} {Ls st : List Value} {h : AH} : ev L xs mdL_addsUp 215 Ls (.int x :: st) h = if x < nI 0 then ev L xs mdL_addsUp 303 Ls st h else ev L xs mdL_addsUp 218 Ls st h := e_if_lt dL_addsUp_215 (by decide)
theorem iL_addsUp_218 {v0 : Value} {v1 : Value} {v2 : Value} {v3 : Value} {v4 : Value} {v5 : Value} {v6 : Value} {v7 : Value} {x : Int32} {Ls st : List Value} {h : AH} : ev L xs mdL_addsUp 218 (v0 :: v1 :: v2 :: v3 :: v4 :: v5 :: v6 :: v7 :: .int x :: Ls) (st) h = ev L xs mdL_addsUp 220 (v0 :: v1 :: v2 :: v3 :: v4 :: v5 :: v6 :: v7 :: .int x :: Ls) (.int x :: st) (h) := e_iload dL_addsUp_218 rfl
theorem iL_addsUp_220  {Ls st : List Value} {h : AH} : ev L xs mdL_addsUp 220 (Ls) (st) h = ev L xs mdL_addsUp 221 (Ls) (.int (nI 5) :: st) (h) := e_iconst dL_addsUp_220 (by decide)
theorem iL_addsUp_221 {x z : Int32} {Ls st : List Value} {h : AH} : ev L xs mdL_addsUp 221 Ls (.int z :: .int x :: st) h = if z < x then ev L xs mdL_addsUp 303 Ls st h else ev L xs mdL_addsUp 224 Ls st h := e_ic_gt dL_addsUp_221 (by decide)
theorem iL_addsUp_224 {v0 : Value} {v1 : Value} {v2 : Value} {v3 : Value} {v4 : Value} {v5 : Value} {v6 : Value} {v7 : Value} {v8 : Value} {x : Int32} {Ls st : List Value} {h : AH} : ev L xs mdL_addsUp 224 (v0 :: v1 :: v2 :: v3 :: v4 :: v5 :: v6 :: v7 :: v8 :: .int x :: Ls) (st) h = ev L xs mdL_addsUp 226 (v0 :: v1 :: v2 :: v3 :: v4 :: v5 :: v6 :: v7 :: v8 :: .int x :: Ls) (.int x :: st) (h) := e_iload dL_addsUp_224 rfl
theorem iL_addsUp_226 {x : Int32} {Ls st : List Value} {h : AH} : ev L xs mdL_addsUp 226 Ls (.int x :: st) h = if x < nI 0 then ev L xs mdL_addsUp 303 Ls st h else ev L xs mdL_addsUp 229 Ls st h := e_if_lt dL_addsUp_226 (by decide)
theorem iL_addsUp_229 {v0 : Value} {v1 : Value} {v2 : Value} {v3 : Value} {v4 : Value} {v5 : Value} {v6 : Value} {v7 : Value} {v8 : Value} {x : Int32} {Ls st : List Value} {h : AH} : ev L xs mdL_addsUp 229 (v0 :: v1 :: v2 :: v3 :: v4 :: v5 :: v6 :: v7 :: v8 :: .int x :: Ls) (st) h = ev L xs mdL_addsUp 231 (v0 :: v1 :: v2 :: v3 :: v4 :: v5 :: v6 :: v7 :: v8 :: .int x :: Ls) (.int x :: st) (h) := e_iload dL_addsUp_229 rfl
theorem iL_addsUp_231  {Ls st : List Value} {h : AH} : ev L xs mdL_addsUp 231 (Ls) (st) h = ev L xs mdL_addsUp 233 (Ls) (.int (nI 19) :: st) (h) := e_bipush dL_addsUp_231 (by decide)
theorem iL_addsUp_233 {x z : Int32} {Ls st : List Value} {h : AH} : ev L xs mdL_addsUp 233 Ls (.int z :: .int x :: st) h = if z < x then ev L xs mdL_addsUp 303 Ls st h else ev L xs mdL_addsUp 236 Ls st h := e_ic_gt dL_addsUp_233 (by decide)
theorem iL_addsUp_236 {x : Nat} {Ls st : List Value} {h : AH} : ev L xs mdL_addsUp 236 (.ref x :: Ls) (st) h = ev L xs mdL_addsUp 237 (.ref x :: Ls) (.ref x :: st) (h) := e_aload_n dL_addsUp_236 rfl
theorem iL_addsUp_237 {v0 : Value} {v1 : Value} {v2 : Value} {v3 : Value} {v4 : Value} {v5 : Value} {v6 : Value} {x : Int32} {Ls st : List Value} {h : AH} : ev L xs mdL_addsUp 237 (v0 :: v1 :: v2 :: v3 :: v4 :: v5 :: v6 :: .int x :: Ls) (st) h = ev L xs mdL_addsUp 239 (v0 :: v1 :: v2 :: v3 :: v4 :: v5 :: v6 :: .int x :: Ls) (.int x :: st) (h) := e_iload dL_addsUp_237 rfl
theorem iL_addsUp_239  {Ls st : List Value} {h : AH} : ev L xs mdL_addsUp 239 (Ls) (st) h = ev L xs mdL_addsUp 241 (Ls) (.int (nI 10) :: st) (h) := e_bipush dL_addsUp_239 (by decide)
theorem iL_addsUp_241 {a : Nat} {p0 : Int32} {p1 : Int32} {Ls st : List Value} {h : AH} (hk : hK h a = 6) (hw : wds st ≤ 8) : ev L xs mdL_addsUp 241 Ls (.int p1 :: .int p0 :: .ref a :: st) h = kn L xs mdL_addsUp 241 244 Ls st (ev L xs mdX6_guard 0 [.ref a, .int p0, .int p1] [] h) := e_callV (as := [.int p1, .int p0]) dL_addsUp_241 mr_8_18 (by decide) (by decide) rfl (by simp [wds, Value.category]; decide) rfl (by decide) hk hw
theorem iL_addsUp_244 {v0 : Value} {v1 : Value} {v2 : Value} {v3 : Value} {v4 : Value} {v5 : Value} {v6 : Value} {v7 : Value} {x : Int32} {Ls st : List Value} {h : AH} : ev L xs mdL_addsUp 244 (v0 :: v1 :: v2 :: v3 :: v4 :: v5 :: v6 :: v7 :: .int x :: Ls) (st) h = ev L xs mdL_addsUp 246 (v0 :: v1 :: v2 :: v3 :: v4 :: v5 :: v6 :: v7 :: .int x :: Ls) (.int x :: st) (h) := e_iload dL_addsUp_244 rfl
theorem iL_addsUp_246  {Ls st : List Value} {h : AH} : ev L xs mdL_addsUp 246 (Ls) (st) h = ev L xs mdL_addsUp 247 (Ls) (.int (nI 5) :: st) (h) := e_iconst dL_addsUp_246 (by decide)
theorem iL_addsUp_247 {x z : Int32} {Ls st : List Value} {h : AH} : ev L xs mdL_addsUp 247 Ls (.int z :: .int x :: st) h = if x = z then ev L xs mdL_addsUp 250 Ls st h else ev L xs mdL_addsUp 254 Ls st h := e_ic_ne dL_addsUp_247 (by decide)
theorem iL_addsUp_250  {Ls st : List Value} {h : AH} : ev L xs mdL_addsUp 250 (Ls) (st) h = ev L xs mdL_addsUp 251 (Ls) (.int (-1) :: st) (h) := e_iconst dL_addsUp_250 (by decide)
theorem iL_addsUp_251  {Ls st : List Value} {h : AH} : ev L xs mdL_addsUp 251 (Ls) (st) h = ev L xs mdL_addsUp 259 (Ls) (st) (h) := e_goto dL_addsUp_251 (by decide)
theorem iL_addsUp_254  {Ls st : List Value} {h : AH} : ev L xs mdL_addsUp 254 (Ls) (st) h = ev L xs mdL_addsUp 256 (Ls) (.int (nI 20) :: st) (h) := e_bipush dL_addsUp_254 (by decide)
theorem iL_addsUp_256 {v0 : Value} {v1 : Value} {v2 : Value} {v3 : Value} {v4 : Value} {v5 : Value} {v6 : Value} {v7 : Value} {v8 : Value} {x : Int32} {Ls st : List Value} {h : AH} : ev L xs mdL_addsUp 256 (v0 :: v1 :: v2 :: v3 :: v4 :: v5 :: v6 :: v7 :: v8 :: .int x :: Ls) (st) h = ev L xs mdL_addsUp 258 (v0 :: v1 :: v2 :: v3 :: v4 :: v5 :: v6 :: v7 :: v8 :: .int x :: Ls) (.int x :: st) (h) := e_iload dL_addsUp_256 rfl
theorem iL_addsUp_258 {x z : Int32} {Ls st : List Value} {h : AH} : ev L xs mdL_addsUp 258 (Ls) (.int z :: .int x :: st) h = ev L xs mdL_addsUp 259 (Ls) (.int (x - z) :: st) (h) := e_isub dL_addsUp_258
theorem iL_addsUp_259 {x z : Int32} {Ls st : List Value} {h : AH} : ev L xs mdL_addsUp 259 Ls (.int z :: .int x :: st) h = if x = z then ev L xs mdL_addsUp 262 Ls st h else ev L xs mdL_addsUp 303 Ls st h := e_ic_ne dL_addsUp_259 (by decide)
theorem iL_addsUp_262 {x : Nat} {Ls st : List Value} {h : AH} : ev L xs mdL_addsUp 262 (.ref x :: Ls) (st) h = ev L xs mdL_addsUp 263 (.ref x :: Ls) (.ref x :: st) (h) := e_aload_n dL_addsUp_262 rfl
theorem iL_addsUp_263 {v0 : Value} {v1 : Value} {v2 : Value} {v3 : Value} {v4 : Value} {v5 : Value} {v6 : Value} {x : Int32} {Ls st : List Value} {h : AH} : ev L xs mdL_addsUp 263 (v0 :: v1 :: v2 :: v3 :: v4 :: v5 :: v6 :: .int x :: Ls) (st) h = ev L xs mdL_addsUp 265 (v0 :: v1 :: v2 :: v3 :: v4 :: v5 :: v6 :: .int x :: Ls) (.int x :: st) (h) := e_iload dL_addsUp_263 rfl
theorem iL_addsUp_265  {Ls st : List Value} {h : AH} : ev L xs mdL_addsUp 265 (Ls) (st) h = ev L xs mdL_addsUp 267 (Ls) (.int (nI 6) :: st) (h) := e_bipush dL_addsUp_265 (by decide)
theorem iL_addsUp_267 {a : Nat} {p0 : Int32} {p1 : Int32} {Ls st : List Value} {h : AH} (hk : hK h a = 6) (hw : wds st ≤ 8) : ev L xs mdL_addsUp 267 Ls (.int p1 :: .int p0 :: .ref a :: st) h = kn L xs mdL_addsUp 267 270 Ls st (ev L xs mdX6_guard 0 [.ref a, .int p0, .int p1] [] h) := e_callV (as := [.int p1, .int p0]) dL_addsUp_267 mr_8_18 (by decide) (by decide) rfl (by simp [wds, Value.category]; decide) rfl (by decide) hk hw
theorem iL_addsUp_270  {Ls st : List Value} {h : AH} : ev L xs mdL_addsUp 270 (Ls) (st) h = ev L xs mdL_addsUp 271 (Ls) (.int (nI 1) :: st) (h) := e_iconst dL_addsUp_270 (by decide)
theorem iL_addsUp_271 {x z : Int32} {Ls st : List Value} {h : AH} : ev L xs mdL_addsUp 271 Ls (.int z :: .int x :: st) h = if x = z then ev L xs mdL_addsUp 274 Ls st h else ev L xs mdL_addsUp 278 Ls st h := e_ic_ne dL_addsUp_271 (by decide)
theorem iL_addsUp_274  {Ls st : List Value} {h : AH} : ev L xs mdL_addsUp 274 (Ls) (st) h = ev L xs mdL_addsUp 275 (Ls) (.int (nI 1) :: st) (h) := e_iconst dL_addsUp_274 (by decide)
theorem iL_addsUp_275  {Ls st : List Value} {h : AH} : ev L xs mdL_addsUp 275 (Ls) (st) h = ev L xs mdL_addsUp 279 (Ls) (st) (h) := e_goto dL_addsUp_275 (by decide)
theorem iL_addsUp_278  {Ls st : List Value} {h : AH} : ev L xs mdL_addsUp 278 (Ls) (st) h = ev L xs mdL_addsUp 279 (Ls) (.int (nI 0) :: st) (h) := e_iconst dL_addsUp_278 (by decide)
theorem iL_addsUp_279 {x : Nat} {Ls st : List Value} {h : AH} : ev L xs mdL_addsUp 279 (.ref x :: Ls) (st) h = ev L xs mdL_addsUp 280 (.ref x :: Ls) (.ref x :: st) (h) := e_aload_n dL_addsUp_279 rfl
theorem iL_addsUp_280  {Ls st : List Value} {h : AH} : ev L xs mdL_addsUp 280 (Ls) (st) h = ev L xs mdL_addsUp 281 (Ls) (.int (nI 3) :: st) (h) := e_iconst dL_addsUp_280 (by decide)
theorem iL_addsUp_281 {a : Nat} {p0 : Int32} {Ls st : List Value} {h : AH} (hk : hK h a = 6) (hw : wds st ≤ 8) : ev L xs mdL_addsUp 281 Ls (.int p0 :: .ref a :: st) h = kn L xs mdL_addsUp 281 284 Ls st (ev L xs mdX6_value 0 [.ref a, .int p0] [] h) := e_callV (as := [.int p0]) dL_addsUp_281 mr_8_8 (by decide) (by decide) rfl (by simp [wds, Value.category]; decide) rfl (by decide) hk hw
theorem iL_addsUp_284 {x : Nat} {Ls st : List Value} {h : AH} : ev L xs mdL_addsUp 284 (.ref x :: Ls) (st) h = ev L xs mdL_addsUp 285 (.ref x :: Ls) (.ref x :: st) (h) := e_aload_n dL_addsUp_284 rfl
theorem iL_addsUp_285 {v0 : Value} {v1 : Value} {v2 : Value} {v3 : Value} {v4 : Value} {v5 : Value} {v6 : Value} {x : Int32} {Ls st : List Value} {h : AH} : ev L xs mdL_addsUp 285 (v0 :: v1 :: v2 :: v3 :: v4 :: v5 :: v6 :: .int x :: Ls) (st) h = ev L xs mdL_addsUp 287 (v0 :: v1 :: v2 :: v3 :: v4 :: v5 :: v6 :: .int x :: Ls) (.int x :: st) (h) := e_iload dL_addsUp_285 rfl
theorem iL_addsUp_287  {Ls st : List Value} {h : AH} : ev L xs mdL_addsUp 287 (Ls) (st) h = ev L xs mdL_addsUp 289 (Ls) (.int (nI 7) :: st) (h) := e_bipush dL_addsUp_287 (by decide)
theorem iL_addsUp_289 {a : Nat} {p0 : Int32} {p1 : Int32} {Ls st : List Value} {h : AH} (hk : hK h a = 6) (hw : wds st ≤ 8) : ev L xs mdL_addsUp 289 Ls (.int p1 :: .int p0 :: .ref a :: st) h = kn L xs mdL_addsUp 289 292 Ls st (ev L xs mdX6_guard 0 [.ref a, .int p0, .int p1] [] h) := e_callV (as := [.int p1, .int p0]) dL_addsUp_289 mr_8_18 (by decide) (by decide) rfl (by simp [wds, Value.category]; decide) rfl (by decide) hk hw
theorem iL_addsUp_292 {x z : Int32} {Ls st : List Value} {h : AH} : ev L xs mdL_addsUp 292 Ls (.int z :: .int x :: st) h = if z ≤ x then ev L xs mdL_addsUp 299 Ls st h else ev L xs mdL_addsUp 295 Ls st h := e_ic_ge dL_addsUp_292 (by decide)
theorem iL_addsUp_295  {Ls st : List Value} {h : AH} : ev L xs mdL_addsUp 295 (Ls) (st) h = ev L xs mdL_addsUp 296 (Ls) (.int (nI 1) :: st) (h) := e_iconst dL_addsUp_295 (by decide)
theorem iL_addsUp_296  {Ls st : List Value} {h : AH} : ev L xs mdL_addsUp 296 (Ls) (st) h = ev L xs mdL_addsUp 300 (Ls) (st) (h) := e_goto dL_addsUp_296 (by decide)
theorem iL_addsUp_299  {Ls st : List Value} {h : AH} : ev L xs mdL_addsUp 299 (Ls) (st) h = ev L xs mdL_addsUp 300 (Ls) (.int (nI 0) :: st) (h) := e_iconst dL_addsUp_299 (by decide)
theorem iL_addsUp_300 {x z : Int32} {Ls st : List Value} {h : AH} : ev L xs mdL_addsUp 300 Ls (.int z :: .int x :: st) h = if x = z then ev L xs mdL_addsUp 305 Ls st h else ev L xs mdL_addsUp 303 Ls st h := e_ic_eq dL_addsUp_300 (by decide)
theorem iL_addsUp_303  {Ls st : List Value} {h : AH} : ev L xs mdL_addsUp 303 (Ls) (st) h = ev L xs mdL_addsUp 304 (Ls) (.int (nI 0) :: st) (h) := e_iconst dL_addsUp_303 (by decide)
theorem iL_addsUp_304 {v : Int32} {Ls : List Value} {h : AH} (hv : v = nI 0 ∨ v = nI 1) : ev L xs mdL_addsUp 304 Ls [.int v] h = some (.inl (some (.int v), h)) := e_zret dL_addsUp_304 rfl hv
theorem iL_addsUp_305 {v0 : Value} {v1 : Value} {v2 : Value} {v3 : Value} {v4 : Value} {v5 : Value} {v6 : Value} {v7 : Value} {x : Int32} {Ls st : List Value} {h : AH} : ev L xs mdL_addsUp 305 (v0 :: v1 :: v2 :: v3 :: v4 :: v5 :: v6 :: v7 :: .int x :: Ls) (st) h = ev L xs mdL_addsUp 307 (v0 :: v1 :: v2 :: v3 :: v4 :: v5 :: v6 :: v7 :: .int x :: Ls) (.int x :: st) (h) := e_iload dL_addsUp_305 rfl
theorem iL_addsUp_307  {Ls st : List Value} {h : AH} : ev L xs mdL_addsUp 307 (Ls) (st) h = ev L xs mdL_addsUp 308 (Ls) (.int (nI 5) :: st) (h) := e_iconst dL_addsUp_307 (by decide)
theorem iL_addsUp_308 {x z : Int32} {Ls st : List Value} {h : AH} : ev L xs mdL_addsUp 308 Ls (.int z :: .int x :: st) h = if z ≤ x then ev L xs mdL_addsUp 339 Ls st h else ev L xs mdL_addsUp 311 Ls st h := e_ic_ge dL_addsUp_308 (by decide)
theorem iL_addsUp_311  {Ls st : List Value} {h : AH} : ev L xs mdL_addsUp 311 (Ls) (st) h = ev L xs mdL_addsUp 313 (Ls) (.int (nI 20) :: st) (h) := e_bipush dL_addsUp_311 (by decide)
theorem iL_addsUp_313 {v0 : Value} {v1 : Value} {v2 : Value} {v3 : Value} {v4 : Value} {v5 : Value} {v6 : Value} {v7 : Value} {x : Int32} {Ls st : List Value} {h : AH} : ev L xs mdL_addsUp 313 (v0 :: v1 :: v2 :: v3 :: v4 :: v5 :: v6 :: v7 :: .int x :: Ls) (st) h = ev L xs mdL_addsUp 315 (v0 :: v1 :: v2 :: v3 :: v4 :: v5 :: v6 :: v7 :: .int x :: Ls) (.int x :: st) (h) := e_iload dL_addsUp_313 rfl
theorem iL_addsUp_315 {x z : Int32} {Ls st : List Value} {h : AH} : ev L xs mdL_addsUp 315 (Ls) (.int z :: .int x :: st) h = ev L xs mdL_addsUp 316 (Ls) (.int (x * z) :: st) (h) := e_imul dL_addsUp_315
theorem iL_addsUp_316 {v0 : Value} {v1 : Value} {v2 : Value} {v3 : Value} {v4 : Value} {v5 : Value} {v6 : Value} {v7 : Value} {v8 : Value} {x : Int32} {Ls st : List Value} {h : AH} : ev L xs mdL_addsUp 316 (v0 :: v1 :: v2 :: v3 :: v4 :: v5 :: v6 :: v7 :: v8 :: .int x :: Ls) (st) h = ev L xs mdL_addsUp 318 (v0 :: v1 :: v2 :: v3 :: v4 :: v5 :: v6 :: v7 :: v8 :: .int x :: Ls) (.int x :: st) (h) := e_iload dL_addsUp_316 rfl
theorem iL_addsUp_318 {x z : Int32} {Ls st : List Value} {h : AH} : ev L xs mdL_addsUp 318 (Ls) (.int z :: .int x :: st) h = ev L xs mdL_addsUp 319 (Ls) (.int (x + z) :: st) (h) := e_iadd dL_addsUp_318
theorem iL_addsUp_319 {x : Nat} {Ls st : List Value} {h : AH} : ev L xs mdL_addsUp 319 (.ref x :: Ls) (st) h = ev L xs mdL_addsUp 320 (.ref x :: Ls) (.ref x :: st) (h) := e_aload_n dL_addsUp_319 rfl
theorem iL_addsUp_320 {v0 : Value} {v1 : Value} {v2 : Value} {v3 : Value} {v4 : Value} {v5 : Value} {v6 : Value} {x : Int32} {Ls st : List Value} {h : AH} : ev L xs mdL_addsUp 320 (v0 :: v1 :: v2 :: v3 :: v4 :: v5 :: v6 :: .int x :: Ls) (st) h = ev L xs mdL_addsUp 322 (v0 :: v1 :: v2 :: v3 :: v4 :: v5 :: v6 :: .int x :: Ls) (.int x :: st) (h) := e_iload dL_addsUp_320 rfl
theorem iL_addsUp_322  {Ls st : List Value} {h : AH} : ev L xs mdL_addsUp 322 (Ls) (st) h = ev L xs mdL_addsUp 324 (Ls) (.int (nI 8) :: st) (h) := e_bipush dL_addsUp_322 (by decide)
theorem iL_addsUp_324 {a : Nat} {p0 : Int32} {p1 : Int32} {Ls st : List Value} {h : AH} (hk : hK h a = 6) (hw : wds st ≤ 8) : ev L xs mdL_addsUp 324 Ls (.int p1 :: .int p0 :: .ref a :: st) h = kn L xs mdL_addsUp 324 327 Ls st (ev L xs mdX6_guard 0 [.ref a, .int p0, .int p1] [] h) := e_callV (as := [.int p1, .int p0]) dL_addsUp_324 mr_8_18 (by decide) (by decide) rfl (by simp [wds, Value.category]; decide) rfl (by decide) hk hw
theorem iL_addsUp_327 {x : Nat} {Ls st : List Value} {h : AH} : ev L xs mdL_addsUp 327 (.ref x :: Ls) (st) h = ev L xs mdL_addsUp 328 (.ref x :: Ls) (.ref x :: st) (h) := e_aload_n dL_addsUp_327 rfl
theorem iL_addsUp_328 {v0 : Value} {v1 : Value} {v2 : Value} {v3 : Value} {v4 : Value} {v5 : Value} {v6 : Value} {x : Int32} {Ls st : List Value} {h : AH} : ev L xs mdL_addsUp 328 (v0 :: v1 :: v2 :: v3 :: v4 :: v5 :: v6 :: .int x :: Ls) (st) h = ev L xs mdL_addsUp 330 (v0 :: v1 :: v2 :: v3 :: v4 :: v5 :: v6 :: .int x :: Ls) (.int x :: st) (h) := e_iload dL_addsUp_328 rfl
theorem iL_addsUp_330  {Ls st : List Value} {h : AH} : ev L xs mdL_addsUp 330 (Ls) (st) h = ev L xs mdL_addsUp 332 (Ls) (.int (nI 9) :: st) (h) := e_bipush dL_addsUp_330 (by decide)
theorem iL_addsUp_332 {a : Nat} {p0 : Int32} {p1 : Int32} {Ls st : List Value} {h : AH} (hk : hK h a = 6) (hw : wds st ≤ 8) : ev L xs mdL_addsUp 332 Ls (.int p1 :: .int p0 :: .ref a :: st) h = kn L xs mdL_addsUp 332 335 Ls st (ev L xs mdX6_guard 0 [.ref a, .int p0, .int p1] [] h) := e_callV (as := [.int p1, .int p0]) dL_addsUp_332 mr_8_18 (by decide) (by decide) rfl (by simp [wds, Value.category]; decide) rfl (by decide) hk hw
theorem iL_addsUp_335 {x z : Int32} {Ls st : List Value} {h : AH} : ev L xs mdL_addsUp 335 (Ls) (.int z :: .int x :: st) h = ev L xs mdL_addsUp 336 (Ls) (.int (x + z) :: st) (h) := e_iadd dL_addsUp_335
theorem iL_addsUp_336 {x z : Int32} {Ls st : List Value} {h : AH} : ev L xs mdL_addsUp 336 Ls (.int z :: .int x :: st) h = if x = z then ev L xs mdL_addsUp 339 Ls st h else ev L xs mdL_addsUp 369 Ls st h := e_ic_ne dL_addsUp_336 (by decide)
theorem iL_addsUp_339 {x : Nat} {Ls st : List Value} {h : AH} : ev L xs mdL_addsUp 339 (.ref x :: Ls) (st) h = ev L xs mdL_addsUp 340 (.ref x :: Ls) (.ref x :: st) (h) := e_aload_n dL_addsUp_339 rfl
theorem iL_addsUp_340 {v0 : Value} {v1 : Value} {v2 : Value} {v3 : Value} {v4 : Value} {v5 : Value} {v6 : Value} {x : Int32} {Ls st : List Value} {h : AH} : ev L xs mdL_addsUp 340 (v0 :: v1 :: v2 :: v3 :: v4 :: v5 :: v6 :: .int x :: Ls) (st) h = ev L xs mdL_addsUp 342 (v0 :: v1 :: v2 :: v3 :: v4 :: v5 :: v6 :: .int x :: Ls) (.int x :: st) (h) := e_iload dL_addsUp_340 rfl
theorem iL_addsUp_342  {Ls st : List Value} {h : AH} : ev L xs mdL_addsUp 342 (Ls) (st) h = ev L xs mdL_addsUp 343 (Ls) (.int (nI 5) :: st) (h) := e_iconst dL_addsUp_342 (by decide)
theorem iL_addsUp_343 {a : Nat} {p0 : Int32} {p1 : Int32} {Ls st : List Value} {h : AH} (hk : hK h a = 6) (hw : wds st ≤ 8) : ev L xs mdL_addsUp 343 Ls (.int p1 :: .int p0 :: .ref a :: st) h = kn L xs mdL_addsUp 343 346 Ls st (ev L xs mdX6_guard 0 [.ref a, .int p0, .int p1] [] h) := e_callV (as := [.int p1, .int p0]) dL_addsUp_343 mr_8_18 (by decide) (by decide) rfl (by simp [wds, Value.category]; decide) rfl (by decide) hk hw
theorem iL_addsUp_346  {Ls st : List Value} {h : AH} : ev L xs mdL_addsUp 346 (Ls) (st) h = ev L xs mdL_addsUp 348 (Ls) (.int (nI 10) :: st) (h) := e_bipush dL_addsUp_346 (by decide)
theorem iL_addsUp_348 {x : Nat} {Ls st : List Value} {h : AH} : ev L xs mdL_addsUp 348 (.ref x :: Ls) (st) h = ev L xs mdL_addsUp 349 (.ref x :: Ls) (.ref x :: st) (h) := e_aload_n dL_addsUp_348 rfl
theorem iL_addsUp_349 {v0 : Value} {v1 : Value} {v2 : Value} {v3 : Value} {v4 : Value} {v5 : Value} {v6 : Value} {x : Int32} {Ls st : List Value} {h : AH} : ev L xs mdL_addsUp 349 (v0 :: v1 :: v2 :: v3 :: v4 :: v5 :: v6 :: .int x :: Ls) (st) h = ev L xs mdL_addsUp 351 (v0 :: v1 :: v2 :: v3 :: v4 :: v5 :: v6 :: .int x :: Ls) (.int x :: st) (h) := e_iload dL_addsUp_349 rfl
theorem iL_addsUp_351  {Ls st : List Value} {h : AH} : ev L xs mdL_addsUp 351 (Ls) (st) h = ev L xs mdL_addsUp 353 (Ls) (.int (nI 8) :: st) (h) := e_bipush dL_addsUp_351 (by decide)
theorem iL_addsUp_353 {a : Nat} {p0 : Int32} {p1 : Int32} {Ls st : List Value} {h : AH} (hk : hK h a = 6) (hw : wds st ≤ 8) : ev L xs mdL_addsUp 353 Ls (.int p1 :: .int p0 :: .ref a :: st) h = kn L xs mdL_addsUp 353 356 Ls st (ev L xs mdX6_guard 0 [.ref a, .int p0, .int p1] [] h) := e_callV (as := [.int p1, .int p0]) dL_addsUp_353 mr_8_18 (by decide) (by decide) rfl (by simp [wds, Value.category]; decide) rfl (by decide) hk hw
theorem iL_addsUp_356 {x : Nat} {Ls st : List Value} {h : AH} : ev L xs mdL_addsUp 356 (.ref x :: Ls) (st) h = ev L xs mdL_addsUp 357 (.ref x :: Ls) (.ref x :: st) (h) := e_aload_n dL_addsUp_356 rfl
theorem iL_addsUp_357 {v0 : Value} {v1 : Value} {v2 : Value} {v3 : Value} {v4 : Value} {v5 : Value} {v6 : Value} {x : Int32} {Ls st : List Value} {h : AH} : ev L xs mdL_addsUp 357 (v0 :: v1 :: v2 :: v3 :: v4 :: v5 :: v6 :: .int x :: Ls) (st) h = ev L xs mdL_addsUp 359 (v0 :: v1 :: v2 :: v3 :: v4 :: v5 :: v6 :: .int x :: Ls) (.int x :: st) (h) := e_iload dL_addsUp_357 rfl
theorem iL_addsUp_359  {Ls st : List Value} {h : AH} : ev L xs mdL_addsUp 359 (Ls) (st) h = ev L xs mdL_addsUp 361 (Ls) (.int (nI 9) :: st) (h) := e_bipush dL_addsUp_359 (by decide)
theorem iL_addsUp_361 {a : Nat} {p0 : Int32} {p1 : Int32} {Ls st : List Value} {h : AH} (hk : hK h a = 6) (hw : wds st ≤ 8) : ev L xs mdL_addsUp 361 Ls (.int p1 :: .int p0 :: .ref a :: st) h = kn L xs mdL_addsUp 361 364 Ls st (ev L xs mdX6_guard 0 [.ref a, .int p0, .int p1] [] h) := e_callV (as := [.int p1, .int p0]) dL_addsUp_361 mr_8_18 (by decide) (by decide) rfl (by simp [wds, Value.category]; decide) rfl (by decide) hk hw
theorem iL_addsUp_364 {x z : Int32} {Ls st : List Value} {h : AH} : ev L xs mdL_addsUp 364 (Ls) (.int z :: .int x :: st) h = ev L xs mdL_addsUp 365 (Ls) (.int (x + z) :: st) (h) := e_iadd dL_addsUp_364
theorem iL_addsUp_365 {x z : Int32} {Ls st : List Value} {h : AH} : ev L xs mdL_addsUp 365 (Ls) (.int z :: .int x :: st) h = ev L xs mdL_addsUp 366 (Ls) (.int (x * z) :: st) (h) := e_imul dL_addsUp_365
theorem iL_addsUp_366 {x z : Int32} {Ls st : List Value} {h : AH} : ev L xs mdL_addsUp 366 Ls (.int z :: .int x :: st) h = if z ≤ x then ev L xs mdL_addsUp 371 Ls st h else ev L xs mdL_addsUp 369 Ls st h := e_ic_ge dL_addsUp_366 (by decide)
theorem iL_addsUp_369  {Ls st : List Value} {h : AH} : ev L xs mdL_addsUp 369 (Ls) (st) h = ev L xs mdL_addsUp 370 (Ls) (.int (nI 0) :: st) (h) := e_iconst dL_addsUp_369 (by decide)
theorem iL_addsUp_370 {v : Int32} {Ls : List Value} {h : AH} (hv : v = nI 0 ∨ v = nI 1) : ev L xs mdL_addsUp 370 Ls [.int v] h = some (.inl (some (.int v), h)) := e_zret dL_addsUp_370 rfl hv
theorem iL_addsUp_371 {v0 : Value} {v1 : Value} {v2 : Value} {v3 : Value} {v4 : Value} {v5 : Value} {v6 : Value} {x : Int32} {Ls st : List Value} {h : AH} (hc9 : v6.category = 1) : ev L xs mdL_addsUp 371 (v0 :: v1 :: v2 :: v3 :: v4 :: v5 :: v6 :: .int x :: Ls) (st) h = ev L xs mdL_addsUp 374 (v0 :: v1 :: v2 :: v3 :: v4 :: v5 :: v6 :: .int (x + (nI 1)) :: Ls) (st) (h) := e_iinc dL_addsUp_371 rfl rfl rfl (by decide) (by unfold catOK; show (_ || (v6.category == 1)) = true; rw [hc9]; rfl)
theorem iL_addsUp_374  {Ls st : List Value} {h : AH} : ev L xs mdL_addsUp 374 (Ls) (st) h = ev L xs mdL_addsUp 120 (Ls) (st) (h) := e_goto dL_addsUp_374 (by decide)
theorem iL_addsUp_377 {v0 : Value} {v1 : Value} {v2 : Value} {x : Int32} {Ls st : List Value} {h : AH} : ev L xs mdL_addsUp 377 (v0 :: v1 :: v2 :: .int x :: Ls) (st) h = ev L xs mdL_addsUp 378 (v0 :: v1 :: v2 :: .int x :: Ls) (.int x :: st) (h) := e_iload_n dL_addsUp_377 rfl
theorem iL_addsUp_378 {x : Int32} {Ls st : List Value} {h : AH} : ev L xs mdL_addsUp 378 Ls (.int x :: st) h = if x = nI 0 then ev L xs mdL_addsUp 381 Ls st h else ev L xs mdL_addsUp 499 Ls st h := e_if_ne dL_addsUp_378 (by decide)
theorem iL_addsUp_381 {v0 : Value} {x : Int32} {Ls st : List Value} {h : AH} : ev L xs mdL_addsUp 381 (v0 :: .int x :: Ls) (st) h = ev L xs mdL_addsUp 382 (v0 :: .int x :: Ls) (.int x :: st) (h) := e_iload_n dL_addsUp_381 rfl
theorem iL_addsUp_382 {x : Nat} {Ls st : List Value} {h : AH} : ev L xs mdL_addsUp 382 (.ref x :: Ls) (st) h = ev L xs mdL_addsUp 383 (.ref x :: Ls) (.ref x :: st) (h) := e_aload_n dL_addsUp_382 rfl
theorem iL_addsUp_383  {Ls st : List Value} {h : AH} : ev L xs mdL_addsUp 383 (Ls) (st) h = ev L xs mdL_addsUp 385 (Ls) (.int (nI 7) :: st) (h) := e_bipush dL_addsUp_383 (by decide)
theorem iL_addsUp_385 {a : Nat} {p0 : Int32} {Ls st : List Value} {h : AH} (hk : hK h a = 6) (hw : wds st ≤ 8) : ev L xs mdL_addsUp 385 Ls (.int p0 :: .ref a :: st) h = kn L xs mdL_addsUp 385 388 Ls st (ev L xs mdX6_value 0 [.ref a, .int p0] [] h) := e_callV (as := [.int p0]) dL_addsUp_385 mr_8_8 (by decide) (by decide) rfl (by simp [wds, Value.category]; decide) rfl (by decide) hk hw
theorem iL_addsUp_388 {x z : Int32} {Ls st : List Value} {h : AH} : ev L xs mdL_addsUp 388 Ls (.int z :: .int x :: st) h = if x = z then ev L xs mdL_addsUp 391 Ls st h else ev L xs mdL_addsUp 499 Ls st h := e_ic_ne dL_addsUp_388 (by decide)
theorem iL_addsUp_391 {x : Nat} {Ls st : List Value} {h : AH} : ev L xs mdL_addsUp 391 (.ref x :: Ls) (st) h = ev L xs mdL_addsUp 392 (.ref x :: Ls) (.ref x :: st) (h) := e_aload_n dL_addsUp_391 rfl
theorem iL_addsUp_392  {Ls st : List Value} {h : AH} : ev L xs mdL_addsUp 392 (Ls) (st) h = ev L xs mdL_addsUp 394 (Ls) (.int (nI 7) :: st) (h) := e_bipush dL_addsUp_392 (by decide)
theorem iL_addsUp_394 {a : Nat} {p0 : Int32} {Ls st : List Value} {h : AH} (hk : hK h a = 6) (hw : wds st ≤ 8) : ev L xs mdL_addsUp 394 Ls (.int p0 :: .ref a :: st) h = kn L xs mdL_addsUp 394 397 Ls st (ev L xs mdX6_value 0 [.ref a, .int p0] [] h) := e_callV (as := [.int p0]) dL_addsUp_394 mr_8_8 (by decide) (by decide) rfl (by simp [wds, Value.category]; decide) rfl (by decide) hk hw
theorem iL_addsUp_397 {x : Nat} {Ls st : List Value} {h : AH} : ev L xs mdL_addsUp 397 (.ref x :: Ls) (st) h = ev L xs mdL_addsUp 398 (.ref x :: Ls) (.ref x :: st) (h) := e_aload_n dL_addsUp_397 rfl
theorem iL_addsUp_398  {Ls st : List Value} {h : AH} : ev L xs mdL_addsUp 398 (Ls) (st) h = ev L xs mdL_addsUp 400 (Ls) (.int (nI 6) :: st) (h) := e_bipush dL_addsUp_398 (by decide)
theorem iL_addsUp_400 {a : Nat} {p0 : Int32} {Ls st : List Value} {h : AH} (hk : hK h a = 6) (hw : wds st ≤ 8) : ev L xs mdL_addsUp 400 Ls (.int p0 :: .ref a :: st) h = kn L xs mdL_addsUp 400 403 Ls st (ev L xs mdX6_value 0 [.ref a, .int p0] [] h) := e_callV (as := [.int p0]) dL_addsUp_400 mr_8_8 (by decide) (by decide) rfl (by simp [wds, Value.category]; decide) rfl (by decide) hk hw
theorem iL_addsUp_403 {x z : Int32} {Ls st : List Value} {h : AH} : ev L xs mdL_addsUp 403 Ls (.int z :: .int x :: st) h = if z < x then ev L xs mdL_addsUp 499 Ls st h else ev L xs mdL_addsUp 406 Ls st h := e_ic_gt dL_addsUp_403 (by decide)
theorem iL_addsUp_406 {v0 : Value} {v1 : Value} {x : Int32} {Ls st : List Value} {h : AH} : ev L xs mdL_addsUp 406 (v0 :: v1 :: .int x :: Ls) (st) h = ev L xs mdL_addsUp 407 (v0 :: v1 :: .int x :: Ls) (.int x :: st) (h) := e_iload_n dL_addsUp_406 rfl
theorem iL_addsUp_407 {x : Nat} {Ls st : List Value} {h : AH} : ev L xs mdL_addsUp 407 (.ref x :: Ls) (st) h = ev L xs mdL_addsUp 408 (.ref x :: Ls) (.ref x :: st) (h) := e_aload_n dL_addsUp_407 rfl
theorem iL_addsUp_408  {Ls st : List Value} {h : AH} : ev L xs mdL_addsUp 408 (Ls) (st) h = ev L xs mdL_addsUp 410 (Ls) (.int (nI 8) :: st) (h) := e_bipush dL_addsUp_408 (by decide)
theorem iL_addsUp_410 {a : Nat} {p0 : Int32} {Ls st : List Value} {h : AH} (hk : hK h a = 6) (hw : wds st ≤ 8) : ev L xs mdL_addsUp 410 Ls (.int p0 :: .ref a :: st) h = kn L xs mdL_addsUp 410 413 Ls st (ev L xs mdX6_value 0 [.ref a, .int p0] [] h) := e_callV (as := [.int p0]) dL_addsUp_410 mr_8_8 (by decide) (by decide) rfl (by simp [wds, Value.category]; decide) rfl (by decide) hk hw
theorem iL_addsUp_413 {x z : Int32} {Ls st : List Value} {h : AH} : ev L xs mdL_addsUp 413 Ls (.int z :: .int x :: st) h = if x = z then ev L xs mdL_addsUp 416 Ls st h else ev L xs mdL_addsUp 499 Ls st h := e_ic_ne dL_addsUp_413 (by decide)
theorem iL_addsUp_416 {v0 : Value} {v1 : Value} {v2 : Value} {v3 : Value} {x : Int32} {Ls st : List Value} {h : AH} : ev L xs mdL_addsUp 416 (v0 :: v1 :: v2 :: v3 :: .int x :: Ls) (st) h = ev L xs mdL_addsUp 418 (v0 :: v1 :: v2 :: v3 :: .int x :: Ls) (.int x :: st) (h) := e_iload dL_addsUp_416 rfl
theorem iL_addsUp_418 {x : Nat} {Ls st : List Value} {h : AH} : ev L xs mdL_addsUp 418 (.ref x :: Ls) (st) h = ev L xs mdL_addsUp 419 (.ref x :: Ls) (.ref x :: st) (h) := e_aload_n dL_addsUp_418 rfl
theorem iL_addsUp_419  {Ls st : List Value} {h : AH} : ev L xs mdL_addsUp 419 (Ls) (st) h = ev L xs mdL_addsUp 421 (Ls) (.int (nI 6) :: st) (h) := e_bipush dL_addsUp_419 (by decide)
theorem iL_addsUp_421 {a : Nat} {p0 : Int32} {Ls st : List Value} {h : AH} (hk : hK h a = 6) (hw : wds st ≤ 8) : ev L xs mdL_addsUp 421 Ls (.int p0 :: .ref a :: st) h = kn L xs mdL_addsUp 421 424 Ls st (ev L xs mdX6_value 0 [.ref a, .int p0] [] h) := e_callV (as := [.int p0]) dL_addsUp_421 mr_8_8 (by decide) (by decide) rfl (by simp [wds, Value.category]; decide) rfl (by decide) hk hw
theorem iL_addsUp_424 {x : Nat} {Ls st : List Value} {h : AH} : ev L xs mdL_addsUp 424 (.ref x :: Ls) (st) h = ev L xs mdL_addsUp 425 (.ref x :: Ls) (.ref x :: st) (h) := e_aload_n dL_addsUp_424 rfl
theorem iL_addsUp_425  {Ls st : List Value} {h : AH} : ev L xs mdL_addsUp 425 (Ls) (st) h = ev L xs mdL_addsUp 427 (Ls) (.int (nI 7) :: st) (h) := e_bipush dL_addsUp_425 (by decide)
theorem iL_addsUp_427 {a : Nat} {p0 : Int32} {Ls st : List Value} {h : AH} (hk : hK h a = 6) (hw : wds st ≤ 8) : ev L xs mdL_addsUp 427 Ls (.int p0 :: .ref a :: st) h = kn L xs mdL_addsUp 427 430 Ls st (ev L xs mdX6_value 0 [.ref a, .int p0] [] h) := e_callV (as := [.int p0]) dL_addsUp_427 mr_8_8 (by decide) (by decide) rfl (by simp [wds, Value.category]; decide) rfl (by decide) hk hw
theorem iL_addsUp_430 {x z : Int32} {Ls st : List Value} {h : AH} : ev L xs mdL_addsUp 430 (Ls) (.int z :: .int x :: st) h = ev L xs mdL_addsUp 431 (Ls) (.int (x - z) :: st) (h) := e_isub dL_addsUp_430
theorem iL_addsUp_431 {x z : Int32} {Ls st : List Value} {h : AH} : ev L xs mdL_addsUp 431 Ls (.int z :: .int x :: st) h = if x = z then ev L xs mdL_addsUp 434 Ls st h else ev L xs mdL_addsUp 499 Ls st h := e_ic_ne dL_addsUp_431 (by decide)
theorem iL_addsUp_434 {v0 : Value} {v1 : Value} {v2 : Value} {v3 : Value} {v4 : Value} {x : Int32} {Ls st : List Value} {h : AH} : ev L xs mdL_addsUp 434 (v0 :: v1 :: v2 :: v3 :: v4 :: .int x :: Ls) (st) h = ev L xs mdL_addsUp 436 (v0 :: v1 :: v2 :: v3 :: v4 :: .int x :: Ls) (.int x :: st) (h) := e_iload dL_addsUp_434 rfl
theorem iL_addsUp_436 {x : Nat} {Ls st : List Value} {h : AH} : ev L xs mdL_addsUp 436 (.ref x :: Ls) (st) h = ev L xs mdL_addsUp 437 (.ref x :: Ls) (.ref x :: st) (h) := e_aload_n dL_addsUp_436 rfl
theorem iL_addsUp_437  {Ls st : List Value} {h : AH} : ev L xs mdL_addsUp 437 (Ls) (st) h = ev L xs mdL_addsUp 439 (Ls) (.int (nI 9) :: st) (h) := e_bipush dL_addsUp_437 (by decide)
theorem iL_addsUp_439 {a : Nat} {p0 : Int32} {Ls st : List Value} {h : AH} (hk : hK h a = 6) (hw : wds st ≤ 8) : ev L xs mdL_addsUp 439 Ls (.int p0 :: .ref a :: st) h = kn L xs mdL_addsUp 439 442 Ls st (ev L xs mdX6_value 0 [.ref a, .int p0] [] h) := e_callV (as := [.int p0]) dL_addsUp_439 mr_8_8 (by decide) (by decide) rfl (by simp [wds, Value.category]; decide) rfl (by decide) hk hw
theorem iL_addsUp_442 {x z : Int32} {Ls st : List Value} {h : AH} : ev L xs mdL_addsUp 442 Ls (.int z :: .int x :: st) h = if x = z then ev L xs mdL_addsUp 445 Ls st h else ev L xs mdL_addsUp 499 Ls st h := e_ic_ne dL_addsUp_442 (by decide)
theorem iL_addsUp_445 {v0 : Value} {v1 : Value} {v2 : Value} {v3 : Value} {v4 : Value} {v5 : Value} {x : Int32} {Ls st : List Value} {h : AH} : ev L xs mdL_addsUp 445 (v0 :: v1 :: v2 :: v3 :: v4 :: v5 :: .int x :: Ls) (st) h = ev L xs mdL_addsUp 447 (v0 :: v1 :: v2 :: v3 :: v4 :: v5 :: .int x :: Ls) (.int x :: st) (h) := e_iload dL_addsUp_445 rfl
theorem iL_addsUp_447 {x : Nat} {Ls st : List Value} {h : AH} : ev L xs mdL_addsUp 447 (.ref x :: Ls) (st) h = ev L xs mdL_addsUp 448 (.ref x :: Ls) (.ref x :: st) (h) := e_aload_n dL_addsUp_447 rfl
theorem iL_addsUp_448  {Ls st : List Value} {h : AH} : ev L xs mdL_addsUp 448 (Ls) (st) h = ev L xs mdL_addsUp 450 (Ls) (.int (nI 10) :: st) (h) := e_bipush dL_addsUp_448 (by decide)
theorem iL_addsUp_450 {a : Nat} {p0 : Int32} {Ls st : List Value} {h : AH} (hk : hK h a = 6) (hw : wds st ≤ 8) : ev L xs mdL_addsUp 450 Ls (.int p0 :: .ref a :: st) h = kn L xs mdL_addsUp 450 453 Ls st (ev L xs mdX6_value 0 [.ref a, .int p0] [] h) := e_callV (as := [.int p0]) dL_addsUp_450 mr_8_8 (by decide) (by decide) rfl (by simp [wds, Value.category]; decide) rfl (by decide) hk hw
theorem iL_addsUp_453 {x z : Int32} {Ls st : List Value} {h : AH} : ev L xs mdL_addsUp 453 Ls (.int z :: .int x :: st) h = if x = z then ev L xs mdL_addsUp 456 Ls st h else ev L xs mdL_addsUp 499 Ls st h := e_ic_ne dL_addsUp_453 (by decide)
theorem iL_addsUp_456 {x : Nat} {Ls st : List Value} {h : AH} : ev L xs mdL_addsUp 456 (.ref x :: Ls) (st) h = ev L xs mdL_addsUp 457 (.ref x :: Ls) (.ref x :: st) (h) := e_aload_n dL_addsUp_456 rfl
theorem iL_addsUp_457  {Ls st : List Value} {h : AH} : ev L xs mdL_addsUp 457 (Ls) (st) h = ev L xs mdL_addsUp 458 (Ls) (.int (nI 5) :: st) (h) := e_iconst dL_addsUp_457 (by decide)
theorem iL_addsUp_458 {a : Nat} {p0 : Int32} {Ls st : List Value} {h : AH} (hk : hK h a = 6) (hw : wds st ≤ 8) : ev L xs mdL_addsUp 458 Ls (.int p0 :: .ref a :: st) h = kn L xs mdL_addsUp 458 461 Ls st (ev L xs mdX6_value 0 [.ref a, .int p0] [] h) := e_callV (as := [.int p0]) dL_addsUp_458 mr_8_8 (by decide) (by decide) rfl (by simp [wds, Value.category]; decide) rfl (by decide) hk hw
theorem iL_addsUp_461  {Ls st : List Value} {h : AH} : ev L xs mdL_addsUp 461 (Ls) (st) h = ev L xs mdL_addsUp 462 (Ls) (.int (nI 2) :: st) (h) := e_iconst dL_addsUp_461 (by decide)
theorem iL_addsUp_462 {x : Nat} {Ls st : List Value} {h : AH} : ev L xs mdL_addsUp 462 (.ref x :: Ls) (st) h = ev L xs mdL_addsUp 463 (.ref x :: Ls) (.ref x :: st) (h) := e_aload_n dL_addsUp_462 rfl
theorem iL_addsUp_463  {Ls st : List Value} {h : AH} : ev L xs mdL_addsUp 463 (Ls) (st) h = ev L xs mdL_addsUp 464 (Ls) (.int (nI 3) :: st) (h) := e_iconst dL_addsUp_463 (by decide)
theorem iL_addsUp_464 {a : Nat} {p0 : Int32} {Ls st : List Value} {h : AH} (hk : hK h a = 6) (hw : wds st ≤ 8) : ev L xs mdL_addsUp 464 Ls (.int p0 :: .ref a :: st) h = kn L xs mdL_addsUp 464 467 Ls st (ev L xs mdX6_value 0 [.ref a, .int p0] [] h) := e_callV (as := [.int p0]) dL_addsUp_464 mr_8_8 (by decide) (by decide) rfl (by simp [wds, Value.category]; decide) rfl (by decide) hk hw
theorem iL_addsUp_467 {x z : Int32} {Ls st : List Value} {h : AH} : ev L xs mdL_addsUp 467 (Ls) (.int z :: .int x :: st) h = ev L xs mdL_addsUp 468 (Ls) (.int (x * z) :: st) (h) := e_imul dL_addsUp_467
theorem iL_addsUp_468 {x : Nat} {Ls st : List Value} {h : AH} : ev L xs mdL_addsUp 468 (.ref x :: Ls) (st) h = ev L xs mdL_addsUp 469 (.ref x :: Ls) (.ref x :: st) (h) := e_aload_n dL_addsUp_468 rfl
theorem iL_addsUp_469  {Ls st : List Value} {h : AH} : ev L xs mdL_addsUp 469 (Ls) (st) h = ev L xs mdL_addsUp 470 (Ls) (.int (nI 4) :: st) (h) := e_iconst dL_addsUp_469 (by decide)
theorem iL_addsUp_470 {a : Nat} {p0 : Int32} {Ls st : List Value} {h : AH} (hk : hK h a = 6) (hw : wds st ≤ 8) : ev L xs mdL_addsUp 470 Ls (.int p0 :: .ref a :: st) h = kn L xs mdL_addsUp 470 473 Ls st (ev L xs mdX6_value 0 [.ref a, .int p0] [] h) := e_callV (as := [.int p0]) dL_addsUp_470 mr_8_8 (by decide) (by decide) rfl (by simp [wds, Value.category]; decide) rfl (by decide) hk hw
theorem iL_addsUp_473 {x z : Int32} {Ls st : List Value} {h : AH} : ev L xs mdL_addsUp 473 (Ls) (.int z :: .int x :: st) h = ev L xs mdL_addsUp 474 (Ls) (.int (x + z) :: st) (h) := e_iadd dL_addsUp_473
theorem iL_addsUp_474 {x z : Int32} {Ls st : List Value} {h : AH} : ev L xs mdL_addsUp 474 Ls (.int z :: .int x :: st) h = if z < x then ev L xs mdL_addsUp 499 Ls st h else ev L xs mdL_addsUp 477 Ls st h := e_ic_gt dL_addsUp_474 (by decide)
theorem iL_addsUp_477 {x : Nat} {Ls st : List Value} {h : AH} : ev L xs mdL_addsUp 477 (.ref x :: Ls) (st) h = ev L xs mdL_addsUp 478 (.ref x :: Ls) (.ref x :: st) (h) := e_aload_n dL_addsUp_477 rfl
theorem iL_addsUp_478 {a : Nat} {Ls st : List Value} {h : AH} (hk : hK h a = 6) (hw : wds st ≤ 8) : ev L xs mdL_addsUp 478 Ls (.ref a :: st) h = kn L xs mdL_addsUp 478 481 Ls st (ev L xs mdX6_filled 0 [.ref a, .null] [] h) := e_callV (as := []) dL_addsUp_478 mr_8_21 (by decide) (by decide) rfl (by simp [wds, Value.category]; decide) rfl (by decide) hk hw
theorem iL_addsUp_481  {Ls st : List Value} {h : AH} : ev L xs mdL_addsUp 481 (Ls) (st) h = ev L xs mdL_addsUp 482 (Ls) (.double FP.dconst0 :: st) (h) := e_dconst0 dL_addsUp_481
theorem iL_addsUp_482 {x z : UInt64} {Ls st : List Value} {h : AH} : ev L xs mdL_addsUp 482 (Ls) (.double z :: .double x :: st) h = ev L xs mdL_addsUp 483 (Ls) (.int (Op.cmpValue (FP.dcmp x z) .l) :: st) (h) := e_dcmp dL_addsUp_482
theorem iL_addsUp_483 {x : Int32} {Ls st : List Value} {h : AH} : ev L xs mdL_addsUp 483 Ls (.int x :: st) h = if x < nI 0 then ev L xs mdL_addsUp 499 Ls st h else ev L xs mdL_addsUp 486 Ls st h := e_if_lt dL_addsUp_483 (by decide)
theorem iL_addsUp_486 {x : Nat} {Ls st : List Value} {h : AH} : ev L xs mdL_addsUp 486 (.ref x :: Ls) (st) h = ev L xs mdL_addsUp 487 (.ref x :: Ls) (.ref x :: st) (h) := e_aload_n dL_addsUp_486 rfl
theorem iL_addsUp_487 {a : Nat} {Ls st : List Value} {h : AH} (hk : hK h a = 6) (hw : wds st ≤ 8) : ev L xs mdL_addsUp 487 Ls (.ref a :: st) h = kn L xs mdL_addsUp 487 490 Ls st (ev L xs mdX6_filled 0 [.ref a, .null] [] h) := e_callV (as := []) dL_addsUp_487 mr_8_21 (by decide) (by decide) rfl (by simp [wds, Value.category]; decide) rfl (by decide) hk hw
theorem iL_addsUp_490  {Ls st : List Value} {h : AH} : ev L xs mdL_addsUp 490 (Ls) (st) h = ev L xs mdL_addsUp 491 (Ls) (.double FP.dconst1 :: st) (h) := e_dconst1 dL_addsUp_490
theorem iL_addsUp_491 {x z : UInt64} {Ls st : List Value} {h : AH} : ev L xs mdL_addsUp 491 (Ls) (.double z :: .double x :: st) h = ev L xs mdL_addsUp 492 (Ls) (.int (Op.cmpValue (FP.dcmp x z) .g) :: st) (h) := e_dcmp dL_addsUp_491
theorem iL_addsUp_492 {x : Int32} {Ls st : List Value} {h : AH} : ev L xs mdL_addsUp 492 Ls (.int x :: st) h = if nI 0 < x then ev L xs mdL_addsUp 499 Ls st h else ev L xs mdL_addsUp 495 Ls st h := e_if_gt dL_addsUp_492 (by decide)
theorem iL_addsUp_495  {Ls st : List Value} {h : AH} : ev L xs mdL_addsUp 495 (Ls) (st) h = ev L xs mdL_addsUp 496 (Ls) (.int (nI 1) :: st) (h) := e_iconst dL_addsUp_495 (by decide)
theorem iL_addsUp_496  {Ls st : List Value} {h : AH} : ev L xs mdL_addsUp 496 (Ls) (st) h = ev L xs mdL_addsUp 500 (Ls) (st) (h) := e_goto dL_addsUp_496 (by decide)
theorem iL_addsUp_499  {Ls st : List Value} {h : AH} : ev L xs mdL_addsUp 499 (Ls) (st) h = ev L xs mdL_addsUp 500 (Ls) (.int (nI 0) :: st) (h) := e_iconst dL_addsUp_499 (by decide)
theorem iL_addsUp_500 {v : Int32} {Ls : List Value} {h : AH} (hv : v = nI 0 ∨ v = nI 1) : ev L xs mdL_addsUp 500 Ls [.int v] h = some (.inl (some (.int v), h)) := e_zret dL_addsUp_500 rfl hv
theorem dL_cell_0 : decode cL_cell 0 = .ok (.iload_n 1, 1) := by decide +kernel
theorem dL_cell_1 : decode cL_cell 1 = .ok (.aload_n 0, 1) := by decide +kernel
theorem dL_cell_2 : decode cL_cell 2 = .ok (.arraylength, 1) := by decide +kernel
theorem dL_cell_3 : decode cL_cell 3 = .ok (.if_icmp .ge 9, 3) := by decide +kernel
theorem dL_cell_6 : decode cL_cell 6 = .ok (.aload_n 0, 1) := by decide +kernel
theorem dL_cell_7 : decode cL_cell 7 = .ok (.iload_n 1, 1) := by decide +kernel
theorem dL_cell_8 : decode cL_cell 8 = .ok (.iaload, 1) := by decide +kernel
theorem dL_cell_9 : decode cL_cell 9 = .ok (.goto 15, 3) := by decide +kernel
theorem dL_cell_12 : decode cL_cell 12 = .ok (.sipush 7919, 3) := by decide +kernel
theorem dL_cell_15 : decode cL_cell 15 = .ok (.iload_n 1, 1) := by decide +kernel
theorem dL_cell_16 : decode cL_cell 16 = .ok (.iconst 3, 1) := by decide +kernel
theorem dL_cell_17 : decode cL_cell 17 = .ok (.iadd, 1) := by decide +kernel
theorem dL_cell_18 : decode cL_cell 18 = .ok (.imul, 1) := by decide +kernel
theorem dL_cell_19 : decode cL_cell 19 = .ok (.iload_n 1, 1) := by decide +kernel
theorem dL_cell_20 : decode cL_cell 20 = .ok (.bipush 11, 2) := by decide +kernel
theorem dL_cell_22 : decode cL_cell 22 = .ok (.iadd, 1) := by decide +kernel
theorem dL_cell_23 : decode cL_cell 23 = .ok (.imul, 1) := by decide +kernel
theorem dL_cell_24 : decode cL_cell 24 = .ok (.ireturn, 1) := by decide +kernel
theorem iL_cell_0 {v0 : Value} {x : Int32} {Ls st : List Value} {h : AH} : ev L xs mdL_cell 0 (v0 :: .int x :: Ls) (st) h = ev L xs mdL_cell 1 (v0 :: .int x :: Ls) (.int x :: st) (h) := e_iload_n dL_cell_0 rfl
theorem iL_cell_1 {x : Nat} {Ls st : List Value} {h : AH} : ev L xs mdL_cell 1 (.retAddr x :: Ls) (st) h = ev L xs mdL_cell 2 (.retAddr x :: Ls) (.retAddr x :: st) (h) := e_sload_n dL_cell_1 rfl
theorem iL_cell_2 {z : Nat} {Ls st : List Value} {h : AH} : ev L xs mdL_cell 2 (Ls) (.retAddr z :: st) h = ev L xs mdL_cell 3 (Ls) (.int (Int32.ofNat L) :: st) (h) := e_slen dL_cell_2 rfl
theorem iL_cell_3 {x z : Int32} {Ls st : List Value} {h : AH} : ev L xs mdL_cell 3 Ls (.int z :: .int x :: st) h = if z ≤ x then ev L xs mdL_cell 12 Ls st h else ev L xs mdL_cell 6 Ls st h := e_ic_ge dL_cell_3 (by decide)
theorem iL_cell_6 {x : Nat} {Ls st : List Value} {h : AH} : ev L xs mdL_cell 6 (.retAddr x :: Ls) (st) h = ev L xs mdL_cell 7 (.retAddr x :: Ls) (.retAddr x :: st) (h) := e_sload_n dL_cell_6 rfl
theorem iL_cell_7 {v0 : Value} {x : Int32} {Ls st : List Value} {h : AH} : ev L xs mdL_cell 7 (v0 :: .int x :: Ls) (st) h = ev L xs mdL_cell 8 (v0 :: .int x :: Ls) (.int x :: st) (h) := e_iload_n dL_cell_7 rfl
theorem iL_cell_8 {z : Nat} {j : Int32} {Ls st : List Value} {h : AH} (hi : inA j L = true) : ev L xs mdL_cell 8 (Ls) (.int j :: .retAddr z :: st) h = ev L xs mdL_cell 9 (Ls) (.int (xs j.toNatClampNeg) :: st) (h) := e_sald dL_cell_8 rfl hi
theorem iL_cell_9  {Ls st : List Value} {h : AH} : ev L xs mdL_cell 9 (Ls) (st) h = ev L xs mdL_cell 24 (Ls) (st) (h) := e_goto dL_cell_9 (by decide)
theorem iL_cell_12  {Ls st : List Value} {h : AH} : ev L xs mdL_cell 12 (Ls) (st) h = ev L xs mdL_cell 15 (Ls) (.int (nI 7919) :: st) (h) := e_sipush dL_cell_12 (by decide)
theorem iL_cell_15 {v0 : Value} {x : Int32} {Ls st : List Value} {h : AH} : ev L xs mdL_cell 15 (v0 :: .int x :: Ls) (st) h = ev L xs mdL_cell 16 (v0 :: .int x :: Ls) (.int x :: st) (h) := e_iload_n dL_cell_15 rfl
theorem iL_cell_16  {Ls st : List Value} {h : AH} : ev L xs mdL_cell 16 (Ls) (st) h = ev L xs mdL_cell 17 (Ls) (.int (nI 3) :: st) (h) := e_iconst dL_cell_16 (by decide)
theorem iL_cell_17 {x z : Int32} {Ls st : List Value} {h : AH} : ev L xs mdL_cell 17 (Ls) (.int z :: .int x :: st) h = ev L xs mdL_cell 18 (Ls) (.int (x + z) :: st) (h) := e_iadd dL_cell_17
theorem iL_cell_18 {x z : Int32} {Ls st : List Value} {h : AH} : ev L xs mdL_cell 18 (Ls) (.int z :: .int x :: st) h = ev L xs mdL_cell 19 (Ls) (.int (x * z) :: st) (h) := e_imul dL_cell_18
theorem iL_cell_19 {v0 : Value} {x : Int32} {Ls st : List Value} {h : AH} : ev L xs mdL_cell 19 (v0 :: .int x :: Ls) (st) h = ev L xs mdL_cell 20 (v0 :: .int x :: Ls) (.int x :: st) (h) := e_iload_n dL_cell_19 rfl
theorem iL_cell_20  {Ls st : List Value} {h : AH} : ev L xs mdL_cell 20 (Ls) (st) h = ev L xs mdL_cell 22 (Ls) (.int (nI 11) :: st) (h) := e_bipush dL_cell_20 (by decide)
theorem iL_cell_22 {x z : Int32} {Ls st : List Value} {h : AH} : ev L xs mdL_cell 22 (Ls) (.int z :: .int x :: st) h = ev L xs mdL_cell 23 (Ls) (.int (x + z) :: st) (h) := e_iadd dL_cell_22
theorem iL_cell_23 {x z : Int32} {Ls st : List Value} {h : AH} : ev L xs mdL_cell 23 (Ls) (.int z :: .int x :: st) h = ev L xs mdL_cell 24 (Ls) (.int (x * z) :: st) (h) := e_imul dL_cell_23
theorem iL_cell_24 {v : Int32} {Ls : List Value} {h : AH} : ev L xs mdL_cell 24 Ls [.int v] h = some (.inl (some (.int v), h)) := e_iret dL_cell_24 rfl
theorem dL_isLooked_0 : decode cL_isLooked 0 = .ok (.aload_n 0, 1) := by decide +kernel
theorem dL_isLooked_1 : decode cL_isLooked 1 = .ok (.iload_n 1, 1) := by decide +kernel
theorem dL_isLooked_2 : decode cL_isLooked 2 = .ok (.iload_n 2, 1) := by decide +kernel
theorem dL_isLooked_3 : decode cL_isLooked 3 = .ok (.invokevirtual 25, 3) := by decide +kernel
theorem dL_isLooked_6 : decode cL_isLooked 6 = .ok (.istore_n 3, 1) := by decide +kernel
theorem dL_isLooked_7 : decode cL_isLooked 7 = .ok (.aload_n 0, 1) := by decide +kernel
theorem dL_isLooked_8 : decode cL_isLooked 8 = .ok (.iload_n 1, 1) := by decide +kernel
theorem dL_isLooked_9 : decode cL_isLooked 9 = .ok (.iload_n 2, 1) := by decide +kernel
theorem dL_isLooked_10 : decode cL_isLooked 10 = .ok (.invokevirtual 28, 3) := by decide +kernel
theorem dL_isLooked_13 : decode cL_isLooked 13 = .ok (.istore 4, 2) := by decide +kernel
theorem dL_isLooked_15 : decode cL_isLooked 15 = .ok (.iconst 0, 1) := by decide +kernel
theorem dL_isLooked_16 : decode cL_isLooked 16 = .ok (.istore 5, 2) := by decide +kernel
theorem dL_isLooked_18 : decode cL_isLooked 18 = .ok (.iconst 0, 1) := by decide +kernel
theorem dL_isLooked_19 : decode cL_isLooked 19 = .ok (.istore 6, 2) := by decide +kernel
theorem dL_isLooked_21 : decode cL_isLooked 21 = .ok (.iload 6, 2) := by decide +kernel
theorem dL_isLooked_23 : decode cL_isLooked 23 = .ok (.aload_n 0, 1) := by decide +kernel
theorem dL_isLooked_24 : decode cL_isLooked 24 = .ok (.iconst 1, 1) := by decide +kernel
theorem dL_isLooked_25 : decode cL_isLooked 25 = .ok (.invokevirtual 8, 3) := by decide +kernel
theorem dL_isLooked_28 : decode cL_isLooked 28 = .ok (.if_icmp .ge 102, 3) := by decide +kernel
theorem dL_isLooked_31 : decode cL_isLooked 31 = .ok (.aload_n 0, 1) := by decide +kernel
theorem dL_isLooked_32 : decode cL_isLooked 32 = .ok (.iload 6, 2) := by decide +kernel
theorem dL_isLooked_34 : decode cL_isLooked 34 = .ok (.iload_n 1, 1) := by decide +kernel
theorem dL_isLooked_35 : decode cL_isLooked 35 = .ok (.iload_n 2, 1) := by decide +kernel
theorem dL_isLooked_36 : decode cL_isLooked 36 = .ok (.invokevirtual 31, 3) := by decide +kernel
theorem dL_isLooked_39 : decode cL_isLooked 39 = .ok (.istore 7, 2) := by decide +kernel
theorem dL_isLooked_41 : decode cL_isLooked 41 = .ok (.iload_n 3, 1) := by decide +kernel
theorem dL_isLooked_42 : decode cL_isLooked 42 = .ok (.iload 6, 2) := by decide +kernel
theorem dL_isLooked_44 : decode cL_isLooked 44 = .ok (.ishr, 1) := by decide +kernel
theorem dL_isLooked_45 : decode cL_isLooked 45 = .ok (.iconst 1, 1) := by decide +kernel
theorem dL_isLooked_46 : decode cL_isLooked 46 = .ok (.iand, 1) := by decide +kernel
theorem dL_isLooked_47 : decode cL_isLooked 47 = .ok (.iconst 1, 1) := by decide +kernel
theorem dL_isLooked_48 : decode cL_isLooked 48 = .ok (.if_icmp .ne 17, 3) := by decide +kernel
theorem dL_isLooked_51 : decode cL_isLooked 51 = .ok (.iload 4, 2) := by decide +kernel
theorem dL_isLooked_53 : decode cL_isLooked 53 = .ok (.iload 6, 2) := by decide +kernel
theorem dL_isLooked_55 : decode cL_isLooked 55 = .ok (.ishr, 1) := by decide +kernel
theorem dL_isLooked_56 : decode cL_isLooked 56 = .ok (.iconst 1, 1) := by decide +kernel
theorem dL_isLooked_57 : decode cL_isLooked 57 = .ok (.iand, 1) := by decide +kernel
theorem dL_isLooked_58 : decode cL_isLooked 58 = .ok (.ifCond .ne 7, 3) := by decide +kernel
theorem dL_isLooked_61 : decode cL_isLooked 61 = .ok (.iconst 1, 1) := by decide +kernel
theorem dL_isLooked_62 : decode cL_isLooked 62 = .ok (.goto 4, 3) := by decide +kernel
theorem dL_isLooked_65 : decode cL_isLooked 65 = .ok (.iconst 0, 1) := by decide +kernel
theorem dL_isLooked_66 : decode cL_isLooked 66 = .ok (.istore 8, 2) := by decide +kernel
theorem dL_isLooked_68 : decode cL_isLooked 68 = .ok (.iload 8, 2) := by decide +kernel
theorem dL_isLooked_70 : decode cL_isLooked 70 = .ok (.iload 7, 2) := by decide +kernel
theorem dL_isLooked_72 : decode cL_isLooked 72 = .ok (.ifCond .lt 7, 3) := by decide +kernel
theorem dL_isLooked_75 : decode cL_isLooked 75 = .ok (.iconst 1, 1) := by decide +kernel
theorem dL_isLooked_76 : decode cL_isLooked 76 = .ok (.goto 4, 3) := by decide +kernel
theorem dL_isLooked_79 : decode cL_isLooked 79 = .ok (.iconst 0, 1) := by decide +kernel
theorem dL_isLooked_80 : decode cL_isLooked 80 = .ok (.if_icmp .eq 5, 3) := by decide +kernel
theorem dL_isLooked_83 : decode cL_isLooked 83 = .ok (.iconst 0, 1) := by decide +kernel
theorem dL_isLooked_84 : decode cL_isLooked 84 = .ok (.ireturn, 1) := by decide +kernel
theorem dL_isLooked_85 : decode cL_isLooked 85 = .ok (.iload 8, 2) := by decide +kernel
theorem dL_isLooked_87 : decode cL_isLooked 87 = .ok (.ifCond .eq 37, 3) := by decide +kernel
theorem dL_isLooked_90 : decode cL_isLooked 90 = .ok (.iload 5, 2) := by decide +kernel
theorem dL_isLooked_92 : decode cL_isLooked 92 = .ok (.iload 7, 2) := by decide +kernel
theorem dL_isLooked_94 : decode cL_isLooked 94 = .ok (.ishr, 1) := by decide +kernel
theorem dL_isLooked_95 : decode cL_isLooked 95 = .ok (.iconst 1, 1) := by decide +kernel
theorem dL_isLooked_96 : decode cL_isLooked 96 = .ok (.iand, 1) := by decide +kernel
theorem dL_isLooked_97 : decode cL_isLooked 97 = .ok (.iconst 1, 1) := by decide +kernel
theorem dL_isLooked_98 : decode cL_isLooked 98 = .ok (.if_icmp .eq 15, 3) := by decide +kernel
theorem dL_isLooked_101 : decode cL_isLooked 101 = .ok (.iload_n 1, 1) := by decide +kernel
theorem dL_isLooked_102 : decode cL_isLooked 102 = .ok (.aload_n 0, 1) := by decide +kernel
theorem dL_isLooked_103 : decode cL_isLooked 103 = .ok (.iload 7, 2) := by decide +kernel
theorem dL_isLooked_105 : decode cL_isLooked 105 = .ok (.bipush 7, 2) := by decide +kernel
theorem dL_isLooked_107 : decode cL_isLooked 107 = .ok (.invokevirtual 18, 3) := by decide +kernel
theorem dL_isLooked_110 : decode cL_isLooked 110 = .ok (.if_icmp .ge 5, 3) := by decide +kernel
theorem dL_isLooked_113 : decode cL_isLooked 113 = .ok (.iconst 0, 1) := by decide +kernel
theorem dL_isLooked_114 : decode cL_isLooked 114 = .ok (.ireturn, 1) := by decide +kernel
theorem dL_isLooked_115 : decode cL_isLooked 115 = .ok (.iload 5, 2) := by decide +kernel
theorem dL_isLooked_117 : decode cL_isLooked 117 = .ok (.iconst 1, 1) := by decide +kernel
theorem dL_isLooked_118 : decode cL_isLooked 118 = .ok (.iload 7, 2) := by decide +kernel
theorem dL_isLooked_120 : decode cL_isLooked 120 = .ok (.ishl, 1) := by decide +kernel
theorem dL_isLooked_121 : decode cL_isLooked 121 = .ok (.ior, 1) := by decide +kernel
theorem dL_isLooked_122 : decode cL_isLooked 122 = .ok (.istore 5, 2) := by decide +kernel
theorem dL_isLooked_124 : decode cL_isLooked 124 = .ok (.iinc 6 1, 3) := by decide +kernel
theorem dL_isLooked_127 : decode cL_isLooked 127 = .ok (.goto (-106), 3) := by decide +kernel
theorem dL_isLooked_130 : decode cL_isLooked 130 = .ok (.iload 4, 2) := by decide +kernel
theorem dL_isLooked_132 : decode cL_isLooked 132 = .ok (.iload_n 3, 1) := by decide +kernel
theorem dL_isLooked_133 : decode cL_isLooked 133 = .ok (.iconst (-1), 1) := by decide +kernel
theorem dL_isLooked_134 : decode cL_isLooked 134 = .ok (.ixor, 1) := by decide +kernel
theorem dL_isLooked_135 : decode cL_isLooked 135 = .ok (.iand, 1) := by decide +kernel
theorem dL_isLooked_136 : decode cL_isLooked 136 = .ok (.ifCond .ne 35, 3) := by decide +kernel
theorem dL_isLooked_139 : decode cL_isLooked 139 = .ok (.aload_n 0, 1) := by decide +kernel
theorem dL_isLooked_140 : decode cL_isLooked 140 = .ok (.iload_n 1, 1) := by decide +kernel
theorem dL_isLooked_141 : decode cL_isLooked 141 = .ok (.iload_n 2, 1) := by decide +kernel
theorem dL_isLooked_142 : decode cL_isLooked 142 = .ok (.iconst 0, 1) := by decide +kernel
theorem dL_isLooked_143 : decode cL_isLooked 143 = .ok (.invokevirtual 35, 3) := by decide +kernel
theorem dL_isLooked_146 : decode cL_isLooked 146 = .ok (.iload 4, 2) := by decide +kernel
theorem dL_isLooked_148 : decode cL_isLooked 148 = .ok (.invokestatic 38, 3) := by decide +kernel
theorem dL_isLooked_151 : decode cL_isLooked 151 = .ok (.if_icmp .gt 20, 3) := by decide +kernel
theorem dL_isLooked_154 : decode cL_isLooked 154 = .ok (.aload_n 0, 1) := by decide +kernel
theorem dL_isLooked_155 : decode cL_isLooked 155 = .ok (.iload_n 1, 1) := by decide +kernel
theorem dL_isLooked_156 : decode cL_isLooked 156 = .ok (.iload_n 2, 1) := by decide +kernel
theorem dL_isLooked_157 : decode cL_isLooked 157 = .ok (.iconst 1, 1) := by decide +kernel
theorem dL_isLooked_158 : decode cL_isLooked 158 = .ok (.invokevirtual 35, 3) := by decide +kernel
theorem dL_isLooked_161 : decode cL_isLooked 161 = .ok (.sipush 792, 3) := by decide +kernel
theorem dL_isLooked_164 : decode cL_isLooked 164 = .ok (.if_icmp .gt 7, 3) := by decide +kernel
theorem dL_isLooked_167 : decode cL_isLooked 167 = .ok (.iconst 1, 1) := by decide +kernel
theorem dL_isLooked_168 : decode cL_isLooked 168 = .ok (.goto 4, 3) := by decide +kernel
theorem dL_isLooked_171 : decode cL_isLooked 171 = .ok (.iconst 0, 1) := by decide +kernel
theorem dL_isLooked_172 : decode cL_isLooked 172 = .ok (.ireturn, 1) := by decide +kernel
theorem iL_isLooked_0 {x : Nat} {Ls st : List Value} {h : AH} : ev L xs mdL_isLooked 0 (.ref x :: Ls) (st) h = ev L xs mdL_isLooked 1 (.ref x :: Ls) (.ref x :: st) (h) := e_aload_n dL_isLooked_0 rfl
theorem iL_isLooked_1 {v0 : Value} {x : Int32} {Ls st : List Value} {h : AH} : ev L xs mdL_isLooked 1 (v0 :: .int x :: Ls) (st) h = ev L xs mdL_isLooked 2 (v0 :: .int x :: Ls) (.int x :: st) (h) := e_iload_n dL_isLooked_1 rfl
theorem iL_isLooked_2 {v0 : Value} {v1 : Value} {x : Int32} {Ls st : List Value} {h : AH} : ev L xs mdL_isLooked 2 (v0 :: v1 :: .int x :: Ls) (st) h = ev L xs mdL_isLooked 3 (v0 :: v1 :: .int x :: Ls) (.int x :: st) (h) := e_iload_n dL_isLooked_2 rfl
theorem iL_isLooked_3 {a : Nat} {p0 : Int32} {p1 : Int32} {Ls st : List Value} {h : AH} (hk : hK h a = 6) (hw : wds st ≤ 8) : ev L xs mdL_isLooked 3 Ls (.int p1 :: .int p0 :: .ref a :: st) h = kn L xs mdL_isLooked 3 6 Ls st (ev L xs mdX6_needed 0 [.ref a, .int p0, .int p1] [] h) := e_callV (as := [.int p1, .int p0]) dL_isLooked_3 mr_8_25 (by decide) (by decide) rfl (by simp [wds, Value.category]; decide) rfl (by decide) hk hw
theorem iL_isLooked_6 {v0 : Value} {v1 : Value} {v2 : Value} {v3 : Value} {x : Int32} {Ls st : List Value} {h : AH} (hc9 : v2.category = 1) : ev L xs mdL_isLooked 6 (v0 :: v1 :: v2 :: v3 :: Ls) (.int x :: st) h = ev L xs mdL_isLooked 7 (v0 :: v1 :: v2 :: .int x :: Ls) (st) (h) := e_istore_n dL_isLooked_6 rfl (by decide) (by unfold catOK; show (_ || (v2.category == 1)) = true; rw [hc9]; rfl)
theorem iL_isLooked_7 {x : Nat} {Ls st : List Value} {h : AH} : ev L xs mdL_isLooked 7 (.ref x :: Ls) (st) h = ev L xs mdL_isLooked 8 (.ref x :: Ls) (.ref x :: st) (h) := e_aload_n dL_isLooked_7 rfl
theorem iL_isLooked_8 {v0 : Value} {x : Int32} {Ls st : List Value} {h : AH} : ev L xs mdL_isLooked 8 (v0 :: .int x :: Ls) (st) h = ev L xs mdL_isLooked 9 (v0 :: .int x :: Ls) (.int x :: st) (h) := e_iload_n dL_isLooked_8 rfl
theorem iL_isLooked_9 {v0 : Value} {v1 : Value} {x : Int32} {Ls st : List Value} {h : AH} : ev L xs mdL_isLooked 9 (v0 :: v1 :: .int x :: Ls) (st) h = ev L xs mdL_isLooked 10 (v0 :: v1 :: .int x :: Ls) (.int x :: st) (h) := e_iload_n dL_isLooked_9 rfl
theorem iL_isLooked_10 {a : Nat} {p0 : Int32} {p1 : Int32} {Ls st : List Value} {h : AH} (hk : hK h a = 6) (hw : wds st ≤ 8) : ev L xs mdL_isLooked 10 Ls (.int p1 :: .int p0 :: .ref a :: st) h = kn L xs mdL_isLooked 10 13 Ls st (ev L xs mdX6_open 0 [.ref a, .int p0, .int p1] [] h) := e_callV (as := [.int p1, .int p0]) dL_isLooked_10 mr_8_28 (by decide) (by decide) rfl (by simp [wds, Value.category]; decide) rfl (by decide) hk hw
theorem iL_isLooked_13 {v0 : Value} {v1 : Value} {v2 : Value} {v3 : Value} {v4 : Value} {x : Int32} {Ls st : List Value} {h : AH} (hc9 : v3.category = 1) : ev L xs mdL_isLooked 13 (v0 :: v1 :: v2 :: v3 :: v4 :: Ls) (.int x :: st) h = ev L xs mdL_isLooked 15 (v0 :: v1 :: v2 :: v3 :: .int x :: Ls) (st) (h) := e_istore dL_isLooked_13 rfl (by decide) (by unfold catOK; show (_ || (v3.category == 1)) = true; rw [hc9]; rfl)
theorem iL_isLooked_15  {Ls st : List Value} {h : AH} : ev L xs mdL_isLooked 15 (Ls) (st) h = ev L xs mdL_isLooked 16 (Ls) (.int (nI 0) :: st) (h) := e_iconst dL_isLooked_15 (by decide)
theorem iL_isLooked_16 {v0 : Value} {v1 : Value} {v2 : Value} {v3 : Value} {v4 : Value} {v5 : Value} {x : Int32} {Ls st : List Value} {h : AH} (hc9 : v4.category = 1) : ev L xs mdL_isLooked 16 (v0 :: v1 :: v2 :: v3 :: v4 :: v5 :: Ls) (.int x :: st) h = ev L xs mdL_isLooked 18 (v0 :: v1 :: v2 :: v3 :: v4 :: .int x :: Ls) (st) (h) := e_istore dL_isLooked_16 rfl (by decide) (by unfold catOK; show (_ || (v4.category == 1)) = true; rw [hc9]; rfl)
theorem iL_isLooked_18  {Ls st : List Value} {h : AH} : ev L xs mdL_isLooked 18 (Ls) (st) h = ev L xs mdL_isLooked 19 (Ls) (.int (nI 0) :: st) (h) := e_iconst dL_isLooked_18 (by decide)
theorem iL_isLooked_19 {v0 : Value} {v1 : Value} {v2 : Value} {v3 : Value} {v4 : Value} {v5 : Value} {v6 : Value} {x : Int32} {Ls st : List Value} {h : AH} (hc9 : v5.category = 1) : ev L xs mdL_isLooked 19 (v0 :: v1 :: v2 :: v3 :: v4 :: v5 :: v6 :: Ls) (.int x :: st) h = ev L xs mdL_isLooked 21 (v0 :: v1 :: v2 :: v3 :: v4 :: v5 :: .int x :: Ls) (st) (h) := e_istore dL_isLooked_19 rfl (by decide) (by unfold catOK; show (_ || (v5.category == 1)) = true; rw [hc9]; rfl)
theorem iL_isLooked_21 {v0 : Value} {v1 : Value} {v2 : Value} {v3 : Value} {v4 : Value} {v5 : Value} {x : Int32} {Ls st : List Value} {h : AH} : ev L xs mdL_isLooked 21 (v0 :: v1 :: v2 :: v3 :: v4 :: v5 :: .int x :: Ls) (st) h = ev L xs mdL_isLooked 23 (v0 :: v1 :: v2 :: v3 :: v4 :: v5 :: .int x :: Ls) (.int x :: st) (h) := e_iload dL_isLooked_21 rfl
theorem iL_isLooked_23 {x : Nat} {Ls st : List Value} {h : AH} : ev L xs mdL_isLooked 23 (.ref x :: Ls) (st) h = ev L xs mdL_isLooked 24 (.ref x :: Ls) (.ref x :: st) (h) := e_aload_n dL_isLooked_23 rfl
theorem iL_isLooked_24  {Ls st : List Value} {h : AH} : ev L xs mdL_isLooked 24 (Ls) (st) h = ev L xs mdL_isLooked 25 (Ls) (.int (nI 1) :: st) (h) := e_iconst dL_isLooked_24 (by decide)
theorem iL_isLooked_25 {a : Nat} {p0 : Int32} {Ls st : List Value} {h : AH} (hk : hK h a = 6) (hw : wds st ≤ 8) : ev L xs mdL_isLooked 25 Ls (.int p0 :: .ref a :: st) h = kn L xs mdL_isLooked 25 28 Ls st (ev L xs mdX6_value 0 [.ref a, .int p0] [] h) := e_callV (as := [.int p0]) dL_isLooked_25 mr_8_8 (by decide) (by decide) rfl (by simp [wds, Value.category]; decide) rfl (by decide) hk hw
theorem iL_isLooked_28 {x z : Int32} {Ls st : List Value} {h : AH} : ev L xs mdL_isLooked 28 Ls (.int z :: .int x :: st) h = if z ≤ x then ev L xs mdL_isLooked 130 Ls st h else ev L xs mdL_isLooked 31 Ls st h := e_ic_ge dL_isLooked_28 (by decide)
theorem iL_isLooked_31 {x : Nat} {Ls st : List Value} {h : AH} : ev L xs mdL_isLooked 31 (.ref x :: Ls) (st) h = ev L xs mdL_isLooked 32 (.ref x :: Ls) (.ref x :: st) (h) := e_aload_n dL_isLooked_31 rfl
theorem iL_isLooked_32 {v0 : Value} {v1 : Value} {v2 : Value} {v3 : Value} {v4 : Value} {v5 : Value} {x : Int32} {Ls st : List Value} {h : AH} : ev L xs mdL_isLooked 32 (v0 :: v1 :: v2 :: v3 :: v4 :: v5 :: .int x :: Ls) (st) h = ev L xs mdL_isLooked 34 (v0 :: v1 :: v2 :: v3 :: v4 :: v5 :: .int x :: Ls) (.int x :: st) (h) := e_iload dL_isLooked_32 rfl
theorem iL_isLooked_34 {v0 : Value} {x : Int32} {Ls st : List Value} {h : AH} : ev L xs mdL_isLooked 34 (v0 :: .int x :: Ls) (st) h = ev L xs mdL_isLooked 35 (v0 :: .int x :: Ls) (.int x :: st) (h) := e_iload_n dL_isLooked_34 rfl
theorem iL_isLooked_35 {v0 : Value} {v1 : Value} {x : Int32} {Ls st : List Value} {h : AH} : ev L xs mdL_isLooked 35 (v0 :: v1 :: .int x :: Ls) (st) h = ev L xs mdL_isLooked 36 (v0 :: v1 :: .int x :: Ls) (.int x :: st) (h) := e_iload_n dL_isLooked_35 rfl
theorem iL_isLooked_36 {a : Nat} {p0 : Int32} {p1 : Int32} {p2 : Int32} {Ls st : List Value} {h : AH} (hk : hK h a = 6) (hw : wds st ≤ 8) : ev L xs mdL_isLooked 36 Ls (.int p2 :: .int p1 :: .int p0 :: .ref a :: st) h = kn L xs mdL_isLooked 36 39 Ls st (ev L xs mdX6_standing 0 [.ref a, .int p0, .int p1, .int p2] [] h) := e_callV (as := [.int p2, .int p1, .int p0]) dL_isLooked_36 mr_8_31 (by decide) (by decide) rfl (by simp [wds, Value.category]; decide) rfl (by decide) hk hw
theorem iL_isLooked_39 {v0 : Value} {v1 : Value} {v2 : Value} {v3 : Value} {v4 : Value} {v5 : Value} {v6 : Value} {v7 : Value} {x : Int32} {Ls st : List Value} {h : AH} (hc9 : v6.category = 1) : ev L xs mdL_isLooked 39 (v0 :: v1 :: v2 :: v3 :: v4 :: v5 :: v6 :: v7 :: Ls) (.int x :: st) h = ev L xs mdL_isLooked 41 (v0 :: v1 :: v2 :: v3 :: v4 :: v5 :: v6 :: .int x :: Ls) (st) (h) := e_istore dL_isLooked_39 rfl (by decide) (by unfold catOK; show (_ || (v6.category == 1)) = true; rw [hc9]; rfl)
theorem iL_isLooked_41 {v0 : Value} {v1 : Value} {v2 : Value} {x : Int32} {Ls st : List Value} {h : AH} : ev L xs mdL_isLooked 41 (v0 :: v1 :: v2 :: .int x :: Ls) (st) h = ev L xs mdL_isLooked 42 (v0 :: v1 :: v2 :: .int x :: Ls) (.int x :: st) (h) := e_iload_n dL_isLooked_41 rfl
theorem iL_isLooked_42 {v0 : Value} {v1 : Value} {v2 : Value} {v3 : Value} {v4 : Value} {v5 : Value} {x : Int32} {Ls st : List Value} {h : AH} : ev L xs mdL_isLooked 42 (v0 :: v1 :: v2 :: v3 :: v4 :: v5 :: .int x :: Ls) (st) h = ev L xs mdL_isLooked 44 (v0 :: v1 :: v2 :: v3 :: v4 :: v5 :: .int x :: Ls) (.int x :: st) (h) := e_iload dL_isLooked_42 rfl
theorem iL_isLooked_44 {x z : Int32} {Ls st : List Value} {h : AH} : ev L xs mdL_isLooked 44 (Ls) (.int z :: .int x :: st) h = ev L xs mdL_isLooked 45 (Ls) (.int (x >>> (z &&& nI 31)) :: st) (h) := e_ishr dL_isLooked_44
theorem iL_isLooked_45  {Ls st : List Value} {h : AH} : ev L xs mdL_isLooked 45 (Ls) (st) h = ev L xs mdL_isLooked 46 (Ls) (.int (nI 1) :: st) (h) := e_iconst dL_isLooked_45 (by decide)
theorem iL_isLooked_46 {x z : Int32} {Ls st : List Value} {h : AH} : ev L xs mdL_isLooked 46 (Ls) (.int z :: .int x :: st) h = ev L xs mdL_isLooked 47 (Ls) (.int (x &&& z) :: st) (h) := e_iand dL_isLooked_46
theorem iL_isLooked_47  {Ls st : List Value} {h : AH} : ev L xs mdL_isLooked 47 (Ls) (st) h = ev L xs mdL_isLooked 48 (Ls) (.int (nI 1) :: st) (h) := e_iconst dL_isLooked_47 (by decide)
theorem iL_isLooked_48 {x z : Int32} {Ls st : List Value} {h : AH} : ev L xs mdL_isLooked 48 Ls (.int z :: .int x :: st) h = if x = z then ev L xs mdL_isLooked 51 Ls st h else ev L xs mdL_isLooked 65 Ls st h := e_ic_ne dL_isLooked_48 (by decide)
theorem iL_isLooked_51 {v0 : Value} {v1 : Value} {v2 : Value} {v3 : Value} {x : Int32} {Ls st : List Value} {h : AH} : ev L xs mdL_isLooked 51 (v0 :: v1 :: v2 :: v3 :: .int x :: Ls) (st) h = ev L xs mdL_isLooked 53 (v0 :: v1 :: v2 :: v3 :: .int x :: Ls) (.int x :: st) (h) := e_iload dL_isLooked_51 rfl
theorem iL_isLooked_53 {v0 : Value} {v1 : Value} {v2 : Value} {v3 : Value} {v4 : Value} {v5 : Value} {x : Int32} {Ls st : List Value} {h : AH} : ev L xs mdL_isLooked 53 (v0 :: v1 :: v2 :: v3 :: v4 :: v5 :: .int x :: Ls) (st) h = ev L xs mdL_isLooked 55 (v0 :: v1 :: v2 :: v3 :: v4 :: v5 :: .int x :: Ls) (.int x :: st) (h) := e_iload dL_isLooked_53 rfl
theorem iL_isLooked_55 {x z : Int32} {Ls st : List Value} {h : AH} : ev L xs mdL_isLooked 55 (Ls) (.int z :: .int x :: st) h = ev L xs mdL_isLooked 56 (Ls) (.int (x >>> (z &&& nI 31)) :: st) (h) := e_ishr dL_isLooked_55
theorem iL_isLooked_56  {Ls st : List Value} {h : AH} : ev L xs mdL_isLooked 56 (Ls) (st) h = ev L xs mdL_isLooked 57 (Ls) (.int (nI 1) :: st) (h) := e_iconst dL_isLooked_56 (by decide)
theorem iL_isLooked_57 {x z : Int32} {Ls st : List Value} {h : AH} : ev L xs mdL_isLooked 57 (Ls) (.int z :: .int x :: st) h = ev L xs mdL_isLooked 58 (Ls) (.int (x &&& z) :: st) (h) := e_iand dL_isLooked_57
theorem iL_isLooked_58 {x : Int32} {Ls st : List Value} {h : AH} : ev L xs mdL_isLooked 58 Ls (.int x :: st) h = if x = nI 0 then ev L xs mdL_isLooked 61 Ls st h else ev L xs mdL_isLooked 65 Ls st h := e_if_ne dL_isLooked_58 (by decide)
theorem iL_isLooked_61  {Ls st : List Value} {h : AH} : ev L xs mdL_isLooked 61 (Ls) (st) h = ev L xs mdL_isLooked 62 (Ls) (.int (nI 1) :: st) (h) := e_iconst dL_isLooked_61 (by decide)
theorem iL_isLooked_62  {Ls st : List Value} {h : AH} : ev L xs mdL_isLooked 62 (Ls) (st) h = ev L xs mdL_isLooked 66 (Ls) (st) (h) := e_goto dL_isLooked_62 (by decide)
theorem iL_isLooked_65  {Ls st : List Value} {h : AH} : ev L xs mdL_isLooked 65 (Ls) (st) h = ev L xs mdL_isLooked 66 (Ls) (.int (nI 0) :: st) (h) := e_iconst dL_isLooked_65 (by decide)
theorem iL_isLooked_66 {v0 : Value} {v1 : Value} {v2 : Value} {v3 : Value} {v4 : Value} {v5 : Value} {v6 : Value} {v7 : Value} {v8 : Value} {x : Int32} {Ls st : List Value} {h : AH} (hc9 : v7.category = 1) : ev L xs mdL_isLooked 66 (v0 :: v1 :: v2 :: v3 :: v4 :: v5 :: v6 :: v7 :: v8 :: Ls) (.int x :: st) h = ev L xs mdL_isLooked 68 (v0 :: v1 :: v2 :: v3 :: v4 :: v5 :: v6 :: v7 :: .int x :: Ls) (st) (h) := e_istore dL_isLooked_66 rfl (by decide) (by unfold catOK; show (_ || (v7.category == 1)) = true; rw [hc9]; rfl)
theorem iL_isLooked_68 {v0 : Value} {v1 : Value} {v2 : Value} {v3 : Value} {v4 : Value} {v5 : Value} {v6 : Value} {v7 : Value} {x : Int32} {Ls st : List Value} {h : AH} : ev L xs mdL_isLooked 68 (v0 :: v1 :: v2 :: v3 :: v4 :: v5 :: v6 :: v7 :: .int x :: Ls) (st) h = ev L xs mdL_isLooked 70 (v0 :: v1 :: v2 :: v3 :: v4 :: v5 :: v6 :: v7 :: .int x :: Ls) (.int x :: st) (h) := e_iload dL_isLooked_68 rfl
theorem iL_isLooked_70 {v0 : Value} {v1 : Value} {v2 : Value} {v3 : Value} {v4 : Value} {v5 : Value} {v6 : Value} {x : Int32} {Ls st : List Value} {h : AH} : ev L xs mdL_isLooked 70 (v0 :: v1 :: v2 :: v3 :: v4 :: v5 :: v6 :: .int x :: Ls) (st) h = ev L xs mdL_isLooked 72 (v0 :: v1 :: v2 :: v3 :: v4 :: v5 :: v6 :: .int x :: Ls) (.int x :: st) (h) := e_iload dL_isLooked_70 rfl
theorem iL_isLooked_72 {x : Int32} {Ls st : List Value} {h : AH} : ev L xs mdL_isLooked 72 Ls (.int x :: st) h = if x < nI 0 then ev L xs mdL_isLooked 79 Ls st h else ev L xs mdL_isLooked 75 Ls st h := e_if_lt dL_isLooked_72 (by decide)
theorem iL_isLooked_75  {Ls st : List Value} {h : AH} : ev L xs mdL_isLooked 75 (Ls) (st) h = ev L xs mdL_isLooked 76 (Ls) (.int (nI 1) :: st) (h) := e_iconst dL_isLooked_75 (by decide)
theorem iL_isLooked_76  {Ls st : List Value} {h : AH} : ev L xs mdL_isLooked 76 (Ls) (st) h = ev L xs mdL_isLooked 80 (Ls) (st) (h) := e_goto dL_isLooked_76 (by decide)
theorem iL_isLooked_79  {Ls st : List Value} {h : AH} : ev L xs mdL_isLooked 79 (Ls) (st) h = ev L xs mdL_isLooked 80 (Ls) (.int (nI 0) :: st) (h) := e_iconst dL_isLooked_79 (by decide)
theorem iL_isLooked_80 {x z : Int32} {Ls st : List Value} {h : AH} : ev L xs mdL_isLooked 80 Ls (.int z :: .int x :: st) h = if x = z then ev L xs mdL_isLooked 85 Ls st h else ev L xs mdL_isLooked 83 Ls st h := e_ic_eq dL_isLooked_80 (by decide)
theorem iL_isLooked_83  {Ls st : List Value} {h : AH} : ev L xs mdL_isLooked 83 (Ls) (st) h = ev L xs mdL_isLooked 84 (Ls) (.int (nI 0) :: st) (h) := e_iconst dL_isLooked_83 (by decide)
theorem iL_isLooked_84 {v : Int32} {Ls : List Value} {h : AH} (hv : v = nI 0 ∨ v = nI 1) : ev L xs mdL_isLooked 84 Ls [.int v] h = some (.inl (some (.int v), h)) := e_zret dL_isLooked_84 rfl hv
theorem iL_isLooked_85 {v0 : Value} {v1 : Value} {v2 : Value} {v3 : Value} {v4 : Value} {v5 : Value} {v6 : Value} {v7 : Value} {x : Int32} {Ls st : List Value} {h : AH} : ev L xs mdL_isLooked 85 (v0 :: v1 :: v2 :: v3 :: v4 :: v5 :: v6 :: v7 :: .int x :: Ls) (st) h = ev L xs mdL_isLooked 87 (v0 :: v1 :: v2 :: v3 :: v4 :: v5 :: v6 :: v7 :: .int x :: Ls) (.int x :: st) (h) := e_iload dL_isLooked_85 rfl
theorem iL_isLooked_87 {x : Int32} {Ls st : List Value} {h : AH} : ev L xs mdL_isLooked 87 Ls (.int x :: st) h = if x = nI 0 then ev L xs mdL_isLooked 124 Ls st h else ev L xs mdL_isLooked 90 Ls st h := e_if_eq dL_isLooked_87 (by decide)
theorem iL_isLooked_90 {v0 : Value} {v1 : Value} {v2 : Value} {v3 : Value} {v4 : Value} {x : Int32} {Ls st : List Value} {h : AH} : ev L xs mdL_isLooked 90 (v0 :: v1 :: v2 :: v3 :: v4 :: .int x :: Ls) (st) h = ev L xs mdL_isLooked 92 (v0 :: v1 :: v2 :: v3 :: v4 :: .int x :: Ls) (.int x :: st) (h) := e_iload dL_isLooked_90 rfl
theorem iL_isLooked_92 {v0 : Value} {v1 : Value} {v2 : Value} {v3 : Value} {v4 : Value} {v5 : Value} {v6 : Value} {x : Int32} {Ls st : List Value} {h : AH} : ev L xs mdL_isLooked 92 (v0 :: v1 :: v2 :: v3 :: v4 :: v5 :: v6 :: .int x :: Ls) (st) h = ev L xs mdL_isLooked 94 (v0 :: v1 :: v2 :: v3 :: v4 :: v5 :: v6 :: .int x :: Ls) (.int x :: st) (h) := e_iload dL_isLooked_92 rfl
theorem iL_isLooked_94 {x z : Int32} {Ls st : List Value} {h : AH} : ev L xs mdL_isLooked 94 (Ls) (.int z :: .int x :: st) h = ev L xs mdL_isLooked 95 (Ls) (.int (x >>> (z &&& nI 31)) :: st) (h) := e_ishr dL_isLooked_94
theorem iL_isLooked_95  {Ls st : List Value} {h : AH} : ev L xs mdL_isLooked 95 (Ls) (st) h = ev L xs mdL_isLooked 96 (Ls) (.int (nI 1) :: st) (h) := e_iconst dL_isLooked_95 (by decide)
theorem iL_isLooked_96 {x z : Int32} {Ls st : List Value} {h : AH} : ev L xs mdL_isLooked 96 (Ls) (.int z :: .int x :: st) h = ev L xs mdL_isLooked 97 (Ls) (.int (x &&& z) :: st) (h) := e_iand dL_isLooked_96
theorem iL_isLooked_97  {Ls st : List Value} {h : AH} : ev L xs mdL_isLooked 97 (Ls) (st) h = ev L xs mdL_isLooked 98 (Ls) (.int (nI 1) :: st) (h) := e_iconst dL_isLooked_97 (by decide)
theorem iL_isLooked_98 {x z : Int32} {Ls st : List Value} {h : AH} : ev L xs mdL_isLooked 98 Ls (.int z :: .int x :: st) h = if x = z then ev L xs mdL_isLooked 113 Ls st h else ev L xs mdL_isLooked 101 Ls st h := e_ic_eq dL_isLooked_98 (by decide)
theorem iL_isLooked_101 {v0 : Value} {x : Int32} {Ls st : List Value} {h : AH} : ev L xs mdL_isLooked 101 (v0 :: .int x :: Ls) (st) h = ev L xs mdL_isLooked 102 (v0 :: .int x :: Ls) (.int x :: st) (h) := e_iload_n dL_isLooked_101 rfl
theorem iL_isLooked_102 {x : Nat} {Ls st : List Value} {h : AH} : ev L xs mdL_isLooked 102 (.ref x :: Ls) (st) h = ev L xs mdL_isLooked 103 (.ref x :: Ls) (.ref x :: st) (h) := e_aload_n dL_isLooked_102 rfl
theorem iL_isLooked_103 {v0 : Value} {v1 : Value} {v2 : Value} {v3 : Value} {v4 : Value} {v5 : Value} {v6 : Value} {x : Int32} {Ls st : List Value} {h : AH} : ev L xs mdL_isLooked 103 (v0 :: v1 :: v2 :: v3 :: v4 :: v5 :: v6 :: .int x :: Ls) (st) h = ev L xs mdL_isLooked 105 (v0 :: v1 :: v2 :: v3 :: v4 :: v5 :: v6 :: .int x :: Ls) (.int x :: st) (h) := e_iload dL_isLooked_103 rfl
theorem iL_isLooked_105  {Ls st : List Value} {h : AH} : ev L xs mdL_isLooked 105 (Ls) (st) h = ev L xs mdL_isLooked 107 (Ls) (.int (nI 7) :: st) (h) := e_bipush dL_isLooked_105 (by decide)
theorem iL_isLooked_107 {a : Nat} {p0 : Int32} {p1 : Int32} {Ls st : List Value} {h : AH} (hk : hK h a = 6) (hw : wds st ≤ 8) : ev L xs mdL_isLooked 107 Ls (.int p1 :: .int p0 :: .ref a :: st) h = kn L xs mdL_isLooked 107 110 Ls st (ev L xs mdX6_guard 0 [.ref a, .int p0, .int p1] [] h) := e_callV (as := [.int p1, .int p0]) dL_isLooked_107 mr_8_18 (by decide) (by decide) rfl (by simp [wds, Value.category]; decide) rfl (by decide) hk hw
theorem iL_isLooked_110 {x z : Int32} {Ls st : List Value} {h : AH} : ev L xs mdL_isLooked 110 Ls (.int z :: .int x :: st) h = if z ≤ x then ev L xs mdL_isLooked 115 Ls st h else ev L xs mdL_isLooked 113 Ls st h := e_ic_ge dL_isLooked_110 (by decide)
theorem iL_isLooked_113  {Ls st : List Value} {h : AH} : ev L xs mdL_isLooked 113 (Ls) (st) h = ev L xs mdL_isLooked 114 (Ls) (.int (nI 0) :: st) (h) := e_iconst dL_isLooked_113 (by decide)
theorem iL_isLooked_114 {v : Int32} {Ls : List Value} {h : AH} (hv : v = nI 0 ∨ v = nI 1) : ev L xs mdL_isLooked 114 Ls [.int v] h = some (.inl (some (.int v), h)) := e_zret dL_isLooked_114 rfl hv
theorem iL_isLooked_115 {v0 : Value} {v1 : Value} {v2 : Value} {v3 : Value} {v4 : Value} {x : Int32} {Ls st : List Value} {h : AH} : ev L xs mdL_isLooked 115 (v0 :: v1 :: v2 :: v3 :: v4 :: .int x :: Ls) (st) h = ev L xs mdL_isLooked 117 (v0 :: v1 :: v2 :: v3 :: v4 :: .int x :: Ls) (.int x :: st) (h) := e_iload dL_isLooked_115 rfl
theorem iL_isLooked_117  {Ls st : List Value} {h : AH} : ev L xs mdL_isLooked 117 (Ls) (st) h = ev L xs mdL_isLooked 118 (Ls) (.int (nI 1) :: st) (h) := e_iconst dL_isLooked_117 (by decide)
theorem iL_isLooked_118 {v0 : Value} {v1 : Value} {v2 : Value} {v3 : Value} {v4 : Value} {v5 : Value} {v6 : Value} {x : Int32} {Ls st : List Value} {h : AH} : ev L xs mdL_isLooked 118 (v0 :: v1 :: v2 :: v3 :: v4 :: v5 :: v6 :: .int x :: Ls) (st) h = ev L xs mdL_isLooked 120 (v0 :: v1 :: v2 :: v3 :: v4 :: v5 :: v6 :: .int x :: Ls) (.int x :: st) (h) := e_iload dL_isLooked_118 rfl
theorem iL_isLooked_120 {x z : Int32} {Ls st : List Value} {h : AH} : ev L xs mdL_isLooked 120 (Ls) (.int z :: .int x :: st) h = ev L xs mdL_isLooked 121 (Ls) (.int (x <<< (z &&& nI 31)) :: st) (h) := e_ishl dL_isLooked_120
theorem iL_isLooked_121 {x z : Int32} {Ls st : List Value} {h : AH} : ev L xs mdL_isLooked 121 (Ls) (.int z :: .int x :: st) h = ev L xs mdL_isLooked 122 (Ls) (.int (x ||| z) :: st) (h) := e_ior dL_isLooked_121
theorem iL_isLooked_122 {v0 : Value} {v1 : Value} {v2 : Value} {v3 : Value} {v4 : Value} {v5 : Value} {x : Int32} {Ls st : List Value} {h : AH} (hc9 : v4.category = 1) : ev L xs mdL_isLooked 122 (v0 :: v1 :: v2 :: v3 :: v4 :: v5 :: Ls) (.int x :: st) h = ev L xs mdL_isLooked 124 (v0 :: v1 :: v2 :: v3 :: v4 :: .int x :: Ls) (st) (h) := e_istore dL_isLooked_122 rfl (by decide) (by unfold catOK; show (_ || (v4.category == 1)) = true; rw [hc9]; rfl)
theorem iL_isLooked_124 {v0 : Value} {v1 : Value} {v2 : Value} {v3 : Value} {v4 : Value} {v5 : Value} {x : Int32} {Ls st : List Value} {h : AH} (hc9 : v5.category = 1) : ev L xs mdL_isLooked 124 (v0 :: v1 :: v2 :: v3 :: v4 :: v5 :: .int x :: Ls) (st) h = ev L xs mdL_isLooked 127 (v0 :: v1 :: v2 :: v3 :: v4 :: v5 :: .int (x + (nI 1)) :: Ls) (st) (h) := e_iinc dL_isLooked_124 rfl rfl rfl (by decide) (by unfold catOK; show (_ || (v5.category == 1)) = true; rw [hc9]; rfl)
theorem iL_isLooked_127  {Ls st : List Value} {h : AH} : ev L xs mdL_isLooked 127 (Ls) (st) h = ev L xs mdL_isLooked 21 (Ls) (st) (h) := e_goto dL_isLooked_127 (by decide)
theorem iL_isLooked_130 {v0 : Value} {v1 : Value} {v2 : Value} {v3 : Value} {x : Int32} {Ls st : List Value} {h : AH} : ev L xs mdL_isLooked 130 (v0 :: v1 :: v2 :: v3 :: .int x :: Ls) (st) h = ev L xs mdL_isLooked 132 (v0 :: v1 :: v2 :: v3 :: .int x :: Ls) (.int x :: st) (h) := e_iload dL_isLooked_130 rfl
theorem iL_isLooked_132 {v0 : Value} {v1 : Value} {v2 : Value} {x : Int32} {Ls st : List Value} {h : AH} : ev L xs mdL_isLooked 132 (v0 :: v1 :: v2 :: .int x :: Ls) (st) h = ev L xs mdL_isLooked 133 (v0 :: v1 :: v2 :: .int x :: Ls) (.int x :: st) (h) := e_iload_n dL_isLooked_132 rfl
theorem iL_isLooked_133  {Ls st : List Value} {h : AH} : ev L xs mdL_isLooked 133 (Ls) (st) h = ev L xs mdL_isLooked 134 (Ls) (.int (-1) :: st) (h) := e_iconst dL_isLooked_133 (by decide)
theorem iL_isLooked_134 {x z : Int32} {Ls st : List Value} {h : AH} : ev L xs mdL_isLooked 134 (Ls) (.int z :: .int x :: st) h = ev L xs mdL_isLooked 135 (Ls) (.int (x ^^^ z) :: st) (h) := e_ixor dL_isLooked_134
theorem iL_isLooked_135 {x z : Int32} {Ls st : List Value} {h : AH} : ev L xs mdL_isLooked 135 (Ls) (.int z :: .int x :: st) h = ev L xs mdL_isLooked 136 (Ls) (.int (x &&& z) :: st) (h) := e_iand dL_isLooked_135
theorem iL_isLooked_136 {x : Int32} {Ls st : List Value} {h : AH} : ev L xs mdL_isLooked 136 Ls (.int x :: st) h = if x = nI 0 then ev L xs mdL_isLooked 139 Ls st h else ev L xs mdL_isLooked 171 Ls st h := e_if_ne dL_isLooked_136 (by decide)
theorem iL_isLooked_139 {x : Nat} {Ls st : List Value} {h : AH} : ev L xs mdL_isLooked 139 (.ref x :: Ls) (st) h = ev L xs mdL_isLooked 140 (.ref x :: Ls) (.ref x :: st) (h) := e_aload_n dL_isLooked_139 rfl
theorem iL_isLooked_140 {v0 : Value} {x : Int32} {Ls st : List Value} {h : AH} : ev L xs mdL_isLooked 140 (v0 :: .int x :: Ls) (st) h = ev L xs mdL_isLooked 141 (v0 :: .int x :: Ls) (.int x :: st) (h) := e_iload_n dL_isLooked_140 rfl
theorem iL_isLooked_141 {v0 : Value} {v1 : Value} {x : Int32} {Ls st : List Value} {h : AH} : ev L xs mdL_isLooked 141 (v0 :: v1 :: .int x :: Ls) (st) h = ev L xs mdL_isLooked 142 (v0 :: v1 :: .int x :: Ls) (.int x :: st) (h) := e_iload_n dL_isLooked_141 rfl
theorem iL_isLooked_142  {Ls st : List Value} {h : AH} : ev L xs mdL_isLooked 142 (Ls) (st) h = ev L xs mdL_isLooked 143 (Ls) (.int (nI 0) :: st) (h) := e_iconst dL_isLooked_142 (by decide)
theorem iL_isLooked_143 {a : Nat} {p0 : Int32} {p1 : Int32} {p2 : Int32} {Ls st : List Value} {h : AH} (hk : hK h a = 6) (hw : wds st ≤ 8) : ev L xs mdL_isLooked 143 Ls (.int p2 :: .int p1 :: .int p0 :: .ref a :: st) h = kn L xs mdL_isLooked 143 146 Ls st (ev L xs mdX6_best 0 [.ref a, .int p0, .int p1, .int p2] [] h) := e_callV (as := [.int p2, .int p1, .int p0]) dL_isLooked_143 mr_8_35 (by decide) (by decide) rfl (by simp [wds, Value.category]; decide) rfl (by decide) hk hw
theorem iL_isLooked_146 {v0 : Value} {v1 : Value} {v2 : Value} {v3 : Value} {x : Int32} {Ls st : List Value} {h : AH} : ev L xs mdL_isLooked 146 (v0 :: v1 :: v2 :: v3 :: .int x :: Ls) (st) h = ev L xs mdL_isLooked 148 (v0 :: v1 :: v2 :: v3 :: .int x :: Ls) (.int x :: st) (h) := e_iload dL_isLooked_146 rfl
theorem iL_isLooked_148 {p0 : Int32} {Ls st : List Value} {h : AH} (hw : wds st ≤ 8) : ev L xs mdL_isLooked 148 Ls (.int p0 :: st) h = kn L xs mdL_isLooked 148 151 Ls st (ev L xs mdL_many 0 [.int p0, .null, .null] [] h) := e_callS (as := [.int p0]) dL_isLooked_148 mr_8_38 (by decide) (by decide) rfl (by simp [wds, Value.category]; decide) rfl hw
theorem iL_isLooked_151 {x z : Int32} {Ls st : List Value} {h : AH} : ev L xs mdL_isLooked 151 Ls (.int z :: .int x :: st) h = if z < x then ev L xs mdL_isLooked 171 Ls st h else ev L xs mdL_isLooked 154 Ls st h := e_ic_gt dL_isLooked_151 (by decide)
theorem iL_isLooked_154 {x : Nat} {Ls st : List Value} {h : AH} : ev L xs mdL_isLooked 154 (.ref x :: Ls) (st) h = ev L xs mdL_isLooked 155 (.ref x :: Ls) (.ref x :: st) (h) := e_aload_n dL_isLooked_154 rfl
theorem iL_isLooked_155 {v0 : Value} {x : Int32} {Ls st : List Value} {h : AH} : ev L xs mdL_isLooked 155 (v0 :: .int x :: Ls) (st) h = ev L xs mdL_isLooked 156 (v0 :: .int x :: Ls) (.int x :: st) (h) := e_iload_n dL_isLooked_155 rfl
theorem iL_isLooked_156 {v0 : Value} {v1 : Value} {x : Int32} {Ls st : List Value} {h : AH} : ev L xs mdL_isLooked 156 (v0 :: v1 :: .int x :: Ls) (st) h = ev L xs mdL_isLooked 157 (v0 :: v1 :: .int x :: Ls) (.int x :: st) (h) := e_iload_n dL_isLooked_156 rfl
theorem iL_isLooked_157  {Ls st : List Value} {h : AH} : ev L xs mdL_isLooked 157 (Ls) (st) h = ev L xs mdL_isLooked 158 (Ls) (.int (nI 1) :: st) (h) := e_iconst dL_isLooked_157 (by decide)
theorem iL_isLooked_158 {a : Nat} {p0 : Int32} {p1 : Int32} {p2 : Int32} {Ls st : List Value} {h : AH} (hk : hK h a = 6) (hw : wds st ≤ 8) : ev L xs mdL_isLooked 158 Ls (.int p2 :: .int p1 :: .int p0 :: .ref a :: st) h = kn L xs mdL_isLooked 158 161 Ls st (ev L xs mdX6_best 0 [.ref a, .int p0, .int p1, .int p2] [] h) := e_callV (as := [.int p2, .int p1, .int p0]) dL_isLooked_158 mr_8_35 (by decide) (by decide) rfl (by simp [wds, Value.category]; decide) rfl (by decide) hk hw
theorem iL_isLooked_161  {Ls st : List Value} {h : AH} : ev L xs mdL_isLooked 161 (Ls) (st) h = ev L xs mdL_isLooked 164 (Ls) (.int (nI 792) :: st) (h) := e_sipush dL_isLooked_161 (by decide)
theorem iL_isLooked_164 {x z : Int32} {Ls st : List Value} {h : AH} : ev L xs mdL_isLooked 164 Ls (.int z :: .int x :: st) h = if z < x then ev L xs mdL_isLooked 171 Ls st h else ev L xs mdL_isLooked 167 Ls st h := e_ic_gt dL_isLooked_164 (by decide)
theorem iL_isLooked_167  {Ls st : List Value} {h : AH} : ev L xs mdL_isLooked 167 (Ls) (st) h = ev L xs mdL_isLooked 168 (Ls) (.int (nI 1) :: st) (h) := e_iconst dL_isLooked_167 (by decide)
theorem iL_isLooked_168  {Ls st : List Value} {h : AH} : ev L xs mdL_isLooked 168 (Ls) (st) h = ev L xs mdL_isLooked 172 (Ls) (st) (h) := e_goto dL_isLooked_168 (by decide)
theorem iL_isLooked_171  {Ls st : List Value} {h : AH} : ev L xs mdL_isLooked 171 (Ls) (st) h = ev L xs mdL_isLooked 172 (Ls) (.int (nI 0) :: st) (h) := e_iconst dL_isLooked_171 (by decide)
theorem iL_isLooked_172 {v : Int32} {Ls : List Value} {h : AH} (hv : v = nI 0 ∨ v = nI 1) : ev L xs mdL_isLooked 172 Ls [.int v] h = some (.inl (some (.int v), h)) := e_zret dL_isLooked_172 rfl hv
theorem dL_isStepped_0 : decode cL_isStepped 0 = .ok (.aload_n 0, 1) := by decide +kernel
theorem dL_isStepped_1 : decode cL_isStepped 1 = .ok (.iconst 3, 1) := by decide +kernel
theorem dL_isStepped_2 : decode cL_isStepped 2 = .ok (.invokevirtual 8, 3) := by decide +kernel
theorem dL_isStepped_5 : decode cL_isStepped 5 = .ok (.istore_n 1, 1) := by decide +kernel
theorem dL_isStepped_6 : decode cL_isStepped 6 = .ok (.aload_n 0, 1) := by decide +kernel
theorem dL_isStepped_7 : decode cL_isStepped 7 = .ok (.iconst 4, 1) := by decide +kernel
theorem dL_isStepped_8 : decode cL_isStepped 8 = .ok (.invokevirtual 8, 3) := by decide +kernel
theorem dL_isStepped_11 : decode cL_isStepped 11 = .ok (.istore_n 2, 1) := by decide +kernel
theorem dL_isStepped_12 : decode cL_isStepped 12 = .ok (.aload_n 0, 1) := by decide +kernel
theorem dL_isStepped_13 : decode cL_isStepped 13 = .ok (.iload_n 1, 1) := by decide +kernel
theorem dL_isStepped_14 : decode cL_isStepped 14 = .ok (.iload_n 2, 1) := by decide +kernel
theorem dL_isStepped_15 : decode cL_isStepped 15 = .ok (.invokevirtual 28, 3) := by decide +kernel
theorem dL_isStepped_18 : decode cL_isStepped 18 = .ok (.istore_n 3, 1) := by decide +kernel
theorem dL_isStepped_19 : decode cL_isStepped 19 = .ok (.iconst 0, 1) := by decide +kernel
theorem dL_isStepped_20 : decode cL_isStepped 20 = .ok (.istore 4, 2) := by decide +kernel
theorem dL_isStepped_22 : decode cL_isStepped 22 = .ok (.iconst 0, 1) := by decide +kernel
theorem dL_isStepped_23 : decode cL_isStepped 23 = .ok (.istore 5, 2) := by decide +kernel
theorem dL_isStepped_25 : decode cL_isStepped 25 = .ok (.iload 5, 2) := by decide +kernel
theorem dL_isStepped_27 : decode cL_isStepped 27 = .ok (.aload_n 0, 1) := by decide +kernel
theorem dL_isStepped_28 : decode cL_isStepped 28 = .ok (.iconst 1, 1) := by decide +kernel
theorem dL_isStepped_29 : decode cL_isStepped 29 = .ok (.invokevirtual 8, 3) := by decide +kernel
theorem dL_isStepped_32 : decode cL_isStepped 32 = .ok (.if_icmp .ge 27, 3) := by decide +kernel
theorem dL_isStepped_35 : decode cL_isStepped 35 = .ok (.bipush 16, 2) := by decide +kernel
theorem dL_isStepped_37 : decode cL_isStepped 37 = .ok (.iload 4, 2) := by decide +kernel
theorem dL_isStepped_39 : decode cL_isStepped 39 = .ok (.imul, 1) := by decide +kernel
theorem dL_isStepped_40 : decode cL_isStepped 40 = .ok (.aload_n 0, 1) := by decide +kernel
theorem dL_isStepped_41 : decode cL_isStepped 41 = .ok (.iload 5, 2) := by decide +kernel
theorem dL_isStepped_43 : decode cL_isStepped 43 = .ok (.iload_n 1, 1) := by decide +kernel
theorem dL_isStepped_44 : decode cL_isStepped 44 = .ok (.iload_n 2, 1) := by decide +kernel
theorem dL_isStepped_45 : decode cL_isStepped 45 = .ok (.invokevirtual 31, 3) := by decide +kernel
theorem dL_isStepped_48 : decode cL_isStepped 48 = .ok (.iadd, 1) := by decide +kernel
theorem dL_isStepped_49 : decode cL_isStepped 49 = .ok (.iconst 1, 1) := by decide +kernel
theorem dL_isStepped_50 : decode cL_isStepped 50 = .ok (.iadd, 1) := by decide +kernel
theorem dL_isStepped_51 : decode cL_isStepped 51 = .ok (.istore 4, 2) := by decide +kernel
theorem dL_isStepped_53 : decode cL_isStepped 53 = .ok (.iinc 5 1, 3) := by decide +kernel
theorem dL_isStepped_56 : decode cL_isStepped 56 = .ok (.goto (-31), 3) := by decide +kernel
theorem dL_isStepped_59 : decode cL_isStepped 59 = .ok (.aload_n 0, 1) := by decide +kernel
theorem dL_isStepped_60 : decode cL_isStepped 60 = .ok (.bipush 7, 2) := by decide +kernel
theorem dL_isStepped_62 : decode cL_isStepped 62 = .ok (.invokevirtual 8, 3) := by decide +kernel
theorem dL_isStepped_65 : decode cL_isStepped 65 = .ok (.istore 5, 2) := by decide +kernel
theorem dL_isStepped_67 : decode cL_isStepped 67 = .ok (.aload_n 0, 1) := by decide +kernel
theorem dL_isStepped_68 : decode cL_isStepped 68 = .ok (.bipush 6, 2) := by decide +kernel
theorem dL_isStepped_70 : decode cL_isStepped 70 = .ok (.invokevirtual 8, 3) := by decide +kernel
theorem dL_isStepped_73 : decode cL_isStepped 73 = .ok (.aload_n 0, 1) := by decide +kernel
theorem dL_isStepped_74 : decode cL_isStepped 74 = .ok (.iload_n 1, 1) := by decide +kernel
theorem dL_isStepped_75 : decode cL_isStepped 75 = .ok (.iload_n 2, 1) := by decide +kernel
theorem dL_isStepped_76 : decode cL_isStepped 76 = .ok (.invokevirtual 25, 3) := by decide +kernel
theorem dL_isStepped_79 : decode cL_isStepped 79 = .ok (.invokestatic 38, 3) := by decide +kernel
theorem dL_isStepped_82 : decode cL_isStepped 82 = .ok (.iadd, 1) := by decide +kernel
theorem dL_isStepped_83 : decode cL_isStepped 83 = .ok (.istore 6, 2) := by decide +kernel
theorem dL_isStepped_85 : decode cL_isStepped 85 = .ok (.aload_n 0, 1) := by decide +kernel
theorem dL_isStepped_86 : decode cL_isStepped 86 = .ok (.invokevirtual 43, 3) := by decide +kernel
theorem dL_isStepped_89 : decode cL_isStepped 89 = .ok (.iload_n 3, 1) := by decide +kernel
theorem dL_isStepped_90 : decode cL_isStepped 90 = .ok (.if_icmp .ne 53, 3) := by decide +kernel
theorem dL_isStepped_93 : decode cL_isStepped 93 = .ok (.aload_n 0, 1) := by decide +kernel
theorem dL_isStepped_94 : decode cL_isStepped 94 = .ok (.bipush 7, 2) := by decide +kernel
theorem dL_isStepped_96 : decode cL_isStepped 96 = .ok (.invokevirtual 8, 3) := by decide +kernel
theorem dL_isStepped_99 : decode cL_isStepped 99 = .ok (.iload 5, 2) := by decide +kernel
theorem dL_isStepped_101 : decode cL_isStepped 101 = .ok (.iload_n 3, 1) := by decide +kernel
theorem dL_isStepped_102 : decode cL_isStepped 102 = .ok (.invokestatic 38, 3) := by decide +kernel
theorem dL_isStepped_105 : decode cL_isStepped 105 = .ok (.iadd, 1) := by decide +kernel
theorem dL_isStepped_106 : decode cL_isStepped 106 = .ok (.if_icmp .ne 37, 3) := by decide +kernel
theorem dL_isStepped_109 : decode cL_isStepped 109 = .ok (.aload_n 0, 1) := by decide +kernel
theorem dL_isStepped_110 : decode cL_isStepped 110 = .ok (.bipush 6, 2) := by decide +kernel
theorem dL_isStepped_112 : decode cL_isStepped 112 = .ok (.invokevirtual 8, 3) := by decide +kernel
theorem dL_isStepped_115 : decode cL_isStepped 115 = .ok (.iload 6, 2) := by decide +kernel
theorem dL_isStepped_117 : decode cL_isStepped 117 = .ok (.if_icmp .ne 26, 3) := by decide +kernel
theorem dL_isStepped_120 : decode cL_isStepped 120 = .ok (.iconst 2, 1) := by decide +kernel
theorem dL_isStepped_121 : decode cL_isStepped 121 = .ok (.aload_n 0, 1) := by decide +kernel
theorem dL_isStepped_122 : decode cL_isStepped 122 = .ok (.iconst 3, 1) := by decide +kernel
theorem dL_isStepped_123 : decode cL_isStepped 123 = .ok (.invokevirtual 8, 3) := by decide +kernel
theorem dL_isStepped_126 : decode cL_isStepped 126 = .ok (.imul, 1) := by decide +kernel
theorem dL_isStepped_127 : decode cL_isStepped 127 = .ok (.aload_n 0, 1) := by decide +kernel
theorem dL_isStepped_128 : decode cL_isStepped 128 = .ok (.iconst 4, 1) := by decide +kernel
theorem dL_isStepped_129 : decode cL_isStepped 129 = .ok (.invokevirtual 8, 3) := by decide +kernel
theorem dL_isStepped_132 : decode cL_isStepped 132 = .ok (.iadd, 1) := by decide +kernel
theorem dL_isStepped_133 : decode cL_isStepped 133 = .ok (.iconst 2, 1) := by decide +kernel
theorem dL_isStepped_134 : decode cL_isStepped 134 = .ok (.iload_n 1, 1) := by decide +kernel
theorem dL_isStepped_135 : decode cL_isStepped 135 = .ok (.imul, 1) := by decide +kernel
theorem dL_isStepped_136 : decode cL_isStepped 136 = .ok (.iload_n 2, 1) := by decide +kernel
theorem dL_isStepped_137 : decode cL_isStepped 137 = .ok (.iadd, 1) := by decide +kernel
theorem dL_isStepped_138 : decode cL_isStepped 138 = .ok (.iconst 1, 1) := by decide +kernel
theorem dL_isStepped_139 : decode cL_isStepped 139 = .ok (.iadd, 1) := by decide +kernel
theorem dL_isStepped_140 : decode cL_isStepped 140 = .ok (.if_icmp .eq 5, 3) := by decide +kernel
theorem dL_isStepped_143 : decode cL_isStepped 143 = .ok (.iconst 0, 1) := by decide +kernel
theorem dL_isStepped_144 : decode cL_isStepped 144 = .ok (.ireturn, 1) := by decide +kernel
theorem dL_isStepped_145 : decode cL_isStepped 145 = .ok (.iconst 0, 1) := by decide +kernel
theorem dL_isStepped_146 : decode cL_isStepped 146 = .ok (.istore 7, 2) := by decide +kernel
theorem dL_isStepped_148 : decode cL_isStepped 148 = .ok (.iconst 0, 1) := by decide +kernel
theorem dL_isStepped_149 : decode cL_isStepped 149 = .ok (.istore 8, 2) := by decide +kernel
theorem dL_isStepped_151 : decode cL_isStepped 151 = .ok (.iload 8, 2) := by decide +kernel
theorem dL_isStepped_153 : decode cL_isStepped 153 = .ok (.aload_n 0, 1) := by decide +kernel
theorem dL_isStepped_154 : decode cL_isStepped 154 = .ok (.iconst 1, 1) := by decide +kernel
theorem dL_isStepped_155 : decode cL_isStepped 155 = .ok (.invokevirtual 8, 3) := by decide +kernel
theorem dL_isStepped_158 : decode cL_isStepped 158 = .ok (.if_icmp .ge 88, 3) := by decide +kernel
theorem dL_isStepped_161 : decode cL_isStepped 161 = .ok (.bipush 16, 2) := by decide +kernel
theorem dL_isStepped_163 : decode cL_isStepped 163 = .ok (.iload 7, 2) := by decide +kernel
theorem dL_isStepped_165 : decode cL_isStepped 165 = .ok (.imul, 1) := by decide +kernel
theorem dL_isStepped_166 : decode cL_isStepped 166 = .ok (.aload_n 0, 1) := by decide +kernel
theorem dL_isStepped_167 : decode cL_isStepped 167 = .ok (.iload 8, 2) := by decide +kernel
theorem dL_isStepped_169 : decode cL_isStepped 169 = .ok (.bipush 7, 2) := by decide +kernel
theorem dL_isStepped_171 : decode cL_isStepped 171 = .ok (.invokevirtual 14, 3) := by decide +kernel
theorem dL_isStepped_174 : decode cL_isStepped 174 = .ok (.iadd, 1) := by decide +kernel
theorem dL_isStepped_175 : decode cL_isStepped 175 = .ok (.iconst 1, 1) := by decide +kernel
theorem dL_isStepped_176 : decode cL_isStepped 176 = .ok (.iadd, 1) := by decide +kernel
theorem dL_isStepped_177 : decode cL_isStepped 177 = .ok (.istore 7, 2) := by decide +kernel
theorem dL_isStepped_179 : decode cL_isStepped 179 = .ok (.aload_n 0, 1) := by decide +kernel
theorem dL_isStepped_180 : decode cL_isStepped 180 = .ok (.iload 8, 2) := by decide +kernel
theorem dL_isStepped_182 : decode cL_isStepped 182 = .ok (.bipush 8, 2) := by decide +kernel
theorem dL_isStepped_184 : decode cL_isStepped 184 = .ok (.invokevirtual 14, 3) := by decide +kernel
theorem dL_isStepped_187 : decode cL_isStepped 187 = .ok (.ifCond .le 7, 3) := by decide +kernel
theorem dL_isStepped_190 : decode cL_isStepped 190 = .ok (.iconst 1, 1) := by decide +kernel
theorem dL_isStepped_191 : decode cL_isStepped 191 = .ok (.goto 4, 3) := by decide +kernel
theorem dL_isStepped_194 : decode cL_isStepped 194 = .ok (.iconst 0, 1) := by decide +kernel
theorem dL_isStepped_195 : decode cL_isStepped 195 = .ok (.iload_n 3, 1) := by decide +kernel
theorem dL_isStepped_196 : decode cL_isStepped 196 = .ok (.iload 8, 2) := by decide +kernel
theorem dL_isStepped_198 : decode cL_isStepped 198 = .ok (.ishr, 1) := by decide +kernel
theorem dL_isStepped_199 : decode cL_isStepped 199 = .ok (.iconst 1, 1) := by decide +kernel
theorem dL_isStepped_200 : decode cL_isStepped 200 = .ok (.iand, 1) := by decide +kernel
theorem dL_isStepped_201 : decode cL_isStepped 201 = .ok (.iconst 1, 1) := by decide +kernel
theorem dL_isStepped_202 : decode cL_isStepped 202 = .ok (.if_icmp .ne 7, 3) := by decide +kernel
theorem dL_isStepped_205 : decode cL_isStepped 205 = .ok (.iconst 1, 1) := by decide +kernel
theorem dL_isStepped_206 : decode cL_isStepped 206 = .ok (.goto 4, 3) := by decide +kernel
theorem dL_isStepped_209 : decode cL_isStepped 209 = .ok (.iconst 0, 1) := by decide +kernel
theorem dL_isStepped_210 : decode cL_isStepped 210 = .ok (.if_icmp .ne 28, 3) := by decide +kernel
theorem dL_isStepped_213 : decode cL_isStepped 213 = .ok (.iload_n 3, 1) := by decide +kernel
theorem dL_isStepped_214 : decode cL_isStepped 214 = .ok (.iload 8, 2) := by decide +kernel
theorem dL_isStepped_216 : decode cL_isStepped 216 = .ok (.ishr, 1) := by decide +kernel
theorem dL_isStepped_217 : decode cL_isStepped 217 = .ok (.iconst 1, 1) := by decide +kernel
theorem dL_isStepped_218 : decode cL_isStepped 218 = .ok (.iand, 1) := by decide +kernel
theorem dL_isStepped_219 : decode cL_isStepped 219 = .ok (.iconst 1, 1) := by decide +kernel
theorem dL_isStepped_220 : decode cL_isStepped 220 = .ok (.if_icmp .ne 20, 3) := by decide +kernel
theorem dL_isStepped_223 : decode cL_isStepped 223 = .ok (.aload_n 0, 1) := by decide +kernel
theorem dL_isStepped_224 : decode cL_isStepped 224 = .ok (.iload 8, 2) := by decide +kernel
theorem dL_isStepped_226 : decode cL_isStepped 226 = .ok (.iconst 5, 1) := by decide +kernel
theorem dL_isStepped_227 : decode cL_isStepped 227 = .ok (.invokevirtual 14, 3) := by decide +kernel
theorem dL_isStepped_230 : decode cL_isStepped 230 = .ok (.iconst 2, 1) := by decide +kernel
theorem dL_isStepped_231 : decode cL_isStepped 231 = .ok (.iload_n 1, 1) := by decide +kernel
theorem dL_isStepped_232 : decode cL_isStepped 232 = .ok (.imul, 1) := by decide +kernel
theorem dL_isStepped_233 : decode cL_isStepped 233 = .ok (.iload_n 2, 1) := by decide +kernel
theorem dL_isStepped_234 : decode cL_isStepped 234 = .ok (.iadd, 1) := by decide +kernel
theorem dL_isStepped_235 : decode cL_isStepped 235 = .ok (.if_icmp .eq 5, 3) := by decide +kernel
theorem dL_isStepped_238 : decode cL_isStepped 238 = .ok (.iconst 0, 1) := by decide +kernel
theorem dL_isStepped_239 : decode cL_isStepped 239 = .ok (.ireturn, 1) := by decide +kernel
theorem dL_isStepped_240 : decode cL_isStepped 240 = .ok (.iinc 8 1, 3) := by decide +kernel
theorem dL_isStepped_243 : decode cL_isStepped 243 = .ok (.goto (-92), 3) := by decide +kernel
theorem dL_isStepped_246 : decode cL_isStepped 246 = .ok (.iload 7, 2) := by decide +kernel
theorem dL_isStepped_248 : decode cL_isStepped 248 = .ok (.iload 4, 2) := by decide +kernel
theorem dL_isStepped_250 : decode cL_isStepped 250 = .ok (.if_icmp .ne 7, 3) := by decide +kernel
theorem dL_isStepped_253 : decode cL_isStepped 253 = .ok (.iconst 1, 1) := by decide +kernel
theorem dL_isStepped_254 : decode cL_isStepped 254 = .ok (.goto 4, 3) := by decide +kernel
theorem dL_isStepped_257 : decode cL_isStepped 257 = .ok (.iconst 0, 1) := by decide +kernel
theorem dL_isStepped_258 : decode cL_isStepped 258 = .ok (.ireturn, 1) := by decide +kernel
theorem iL_isStepped_0 {x : Nat} {Ls st : List Value} {h : AH} : ev L xs mdL_isStepped 0 (.ref x :: Ls) (st) h = ev L xs mdL_isStepped 1 (.ref x :: Ls) (.ref x :: st) (h) := e_aload_n dL_isStepped_0 rfl
theorem iL_isStepped_1  {Ls st : List Value} {h : AH} : ev L xs mdL_isStepped 1 (Ls) (st) h = ev L xs mdL_isStepped 2 (Ls) (.int (nI 3) :: st) (h) := e_iconst dL_isStepped_1 (by decide)
theorem iL_isStepped_2 {a : Nat} {p0 : Int32} {Ls st : List Value} {h : AH} (hk : hK h a = 6) (hw : wds st ≤ 8) : ev L xs mdL_isStepped 2 Ls (.int p0 :: .ref a :: st) h = kn L xs mdL_isStepped 2 5 Ls st (ev L xs mdX6_value 0 [.ref a, .int p0] [] h) := e_callV (as := [.int p0]) dL_isStepped_2 mr_8_8 (by decide) (by decide) rfl (by simp [wds, Value.category]; decide) rfl (by decide) hk hw
theorem iL_isStepped_5 {v0 : Value} {v1 : Value} {x : Int32} {Ls st : List Value} {h : AH} (hc9 : v0.category = 1) : ev L xs mdL_isStepped 5 (v0 :: v1 :: Ls) (.int x :: st) h = ev L xs mdL_isStepped 6 (v0 :: .int x :: Ls) (st) (h) := e_istore_n dL_isStepped_5 rfl (by decide) (by unfold catOK; show (_ || (v0.category == 1)) = true; rw [hc9]; rfl)
theorem iL_isStepped_6 {x : Nat} {Ls st : List Value} {h : AH} : ev L xs mdL_isStepped 6 (.ref x :: Ls) (st) h = ev L xs mdL_isStepped 7 (.ref x :: Ls) (.ref x :: st) (h) := e_aload_n dL_isStepped_6 rfl
theorem iL_isStepped_7  {Ls st : List Value} {h : AH} : ev L xs mdL_isStepped 7 (Ls) (st) h = ev L xs mdL_isStepped 8 (Ls) (.int (nI 4) :: st) (h) := e_iconst dL_isStepped_7 (by decide)
theorem iL_isStepped_8 {a : Nat} {p0 : Int32} {Ls st : List Value} {h : AH} (hk : hK h a = 6) (hw : wds st ≤ 8) : ev L xs mdL_isStepped 8 Ls (.int p0 :: .ref a :: st) h = kn L xs mdL_isStepped 8 11 Ls st (ev L xs mdX6_value 0 [.ref a, .int p0] [] h) := e_callV (as := [.int p0]) dL_isStepped_8 mr_8_8 (by decide) (by decide) rfl (by simp [wds, Value.category]; decide) rfl (by decide) hk hw
theorem iL_isStepped_11 {v0 : Value} {v1 : Value} {v2 : Value} {x : Int32} {Ls st : List Value} {h : AH} (hc9 : v1.category = 1) : ev L xs mdL_isStepped 11 (v0 :: v1 :: v2 :: Ls) (.int x :: st) h = ev L xs mdL_isStepped 12 (v0 :: v1 :: .int x :: Ls) (st) (h) := e_istore_n dL_isStepped_11 rfl (by decide) (by unfold catOK; show (_ || (v1.category == 1)) = true; rw [hc9]; rfl)
theorem iL_isStepped_12 {x : Nat} {Ls st : List Value} {h : AH} : ev L xs mdL_isStepped 12 (.ref x :: Ls) (st) h = ev L xs mdL_isStepped 13 (.ref x :: Ls) (.ref x :: st) (h) := e_aload_n dL_isStepped_12 rfl
theorem iL_isStepped_13 {v0 : Value} {x : Int32} {Ls st : List Value} {h : AH} : ev L xs mdL_isStepped 13 (v0 :: .int x :: Ls) (st) h = ev L xs mdL_isStepped 14 (v0 :: .int x :: Ls) (.int x :: st) (h) := e_iload_n dL_isStepped_13 rfl
theorem iL_isStepped_14 {v0 : Value} {v1 : Value} {x : Int32} {Ls st : List Value} {h : AH} : ev L xs mdL_isStepped 14 (v0 :: v1 :: .int x :: Ls) (st) h = ev L xs mdL_isStepped 15 (v0 :: v1 :: .int x :: Ls) (.int x :: st) (h) := e_iload_n dL_isStepped_14 rfl
theorem iL_isStepped_15 {a : Nat} {p0 : Int32} {p1 : Int32} {Ls st : List Value} {h : AH} (hk : hK h a = 6) (hw : wds st ≤ 8) : ev L xs mdL_isStepped 15 Ls (.int p1 :: .int p0 :: .ref a :: st) h = kn L xs mdL_isStepped 15 18 Ls st (ev L xs mdX6_open 0 [.ref a, .int p0, .int p1] [] h) := e_callV (as := [.int p1, .int p0]) dL_isStepped_15 mr_8_28 (by decide) (by decide) rfl (by simp [wds, Value.category]; decide) rfl (by decide) hk hw
theorem iL_isStepped_18 {v0 : Value} {v1 : Value} {v2 : Value} {v3 : Value} {x : Int32} {Ls st : List Value} {h : AH} (hc9 : v2.category = 1) : ev L xs mdL_isStepped 18 (v0 :: v1 :: v2 :: v3 :: Ls) (.int x :: st) h = ev L xs mdL_isStepped 19 (v0 :: v1 :: v2 :: .int x :: Ls) (st) (h) := e_istore_n dL_isStepped_18 rfl (by decide) (by unfold catOK; show (_ || (v2.category == 1)) = true; rw [hc9]; rfl)
theorem iL_isStepped_19  {Ls st : List Value} {h : AH} : ev L xs mdL_isStepped 19 (Ls) (st) h = ev L xs mdL_isStepped 20 (Ls) (.int (nI 0) :: st) (h) := e_iconst dL_isStepped_19 (by decide)
theorem iL_isStepped_20 {v0 : Value} {v1 : Value} {v2 : Value} {v3 : Value} {v4 : Value} {x : Int32} {Ls st : List Value} {h : AH} (hc9 : v3.category = 1) : ev L xs mdL_isStepped 20 (v0 :: v1 :: v2 :: v3 :: v4 :: Ls) (.int x :: st) h = ev L xs mdL_isStepped 22 (v0 :: v1 :: v2 :: v3 :: .int x :: Ls) (st) (h) := e_istore dL_isStepped_20 rfl (by decide) (by unfold catOK; show (_ || (v3.category == 1)) = true; rw [hc9]; rfl)
theorem iL_isStepped_22  {Ls st : List Value} {h : AH} : ev L xs mdL_isStepped 22 (Ls) (st) h = ev L xs mdL_isStepped 23 (Ls) (.int (nI 0) :: st) (h) := e_iconst dL_isStepped_22 (by decide)
theorem iL_isStepped_23 {v0 : Value} {v1 : Value} {v2 : Value} {v3 : Value} {v4 : Value} {v5 : Value} {x : Int32} {Ls st : List Value} {h : AH} (hc9 : v4.category = 1) : ev L xs mdL_isStepped 23 (v0 :: v1 :: v2 :: v3 :: v4 :: v5 :: Ls) (.int x :: st) h = ev L xs mdL_isStepped 25 (v0 :: v1 :: v2 :: v3 :: v4 :: .int x :: Ls) (st) (h) := e_istore dL_isStepped_23 rfl (by decide) (by unfold catOK; show (_ || (v4.category == 1)) = true; rw [hc9]; rfl)
theorem iL_isStepped_25 {v0 : Value} {v1 : Value} {v2 : Value} {v3 : Value} {v4 : Value} {x : Int32} {Ls st : List Value} {h : AH} : ev L xs mdL_isStepped 25 (v0 :: v1 :: v2 :: v3 :: v4 :: .int x :: Ls) (st) h = ev L xs mdL_isStepped 27 (v0 :: v1 :: v2 :: v3 :: v4 :: .int x :: Ls) (.int x :: st) (h) := e_iload dL_isStepped_25 rfl
theorem iL_isStepped_27 {x : Nat} {Ls st : List Value} {h : AH} : ev L xs mdL_isStepped 27 (.ref x :: Ls) (st) h = ev L xs mdL_isStepped 28 (.ref x :: Ls) (.ref x :: st) (h) := e_aload_n dL_isStepped_27 rfl
theorem iL_isStepped_28  {Ls st : List Value} {h : AH} : ev L xs mdL_isStepped 28 (Ls) (st) h = ev L xs mdL_isStepped 29 (Ls) (.int (nI 1) :: st) (h) := e_iconst dL_isStepped_28 (by decide)
theorem iL_isStepped_29 {a : Nat} {p0 : Int32} {Ls st : List Value} {h : AH} (hk : hK h a = 6) (hw : wds st ≤ 8) : ev L xs mdL_isStepped 29 Ls (.int p0 :: .ref a :: st) h = kn L xs mdL_isStepped 29 32 Ls st (ev L xs mdX6_value 0 [.ref a, .int p0] [] h) := e_callV (as := [.int p0]) dL_isStepped_29 mr_8_8 (by decide) (by decide) rfl (by simp [wds, Value.category]; decide) rfl (by decide) hk hw
theorem iL_isStepped_32 {x z : Int32} {Ls st : List Value} {h : AH} : ev L xs mdL_isStepped 32 Ls (.int z :: .int x :: st) h = if z ≤ x then ev L xs mdL_isStepped 59 Ls st h else ev L xs mdL_isStepped 35 Ls st h := e_ic_ge dL_isStepped_32 (by decide)
theorem iL_isStepped_35  {Ls st : List Value} {h : AH} : ev L xs mdL_isStepped 35 (Ls) (st) h = ev L xs mdL_isStepped 37 (Ls) (.int (nI 16) :: st) (h) := e_bipush dL_isStepped_35 (by decide)
theorem iL_isStepped_37 {v0 : Value} {v1 : Value} {v2 : Value} {v3 : Value} {x : Int32} {Ls st : List Value} {h : AH} : ev L xs mdL_isStepped 37 (v0 :: v1 :: v2 :: v3 :: .int x :: Ls) (st) h = ev L xs mdL_isStepped 39 (v0 :: v1 :: v2 :: v3 :: .int x :: Ls) (.int x :: st) (h) := e_iload dL_isStepped_37 rfl
theorem iL_isStepped_39 {x z : Int32} {Ls st : List Value} {h : AH} : ev L xs mdL_isStepped 39 (Ls) (.int z :: .int x :: st) h = ev L xs mdL_isStepped 40 (Ls) (.int (x * z) :: st) (h) := e_imul dL_isStepped_39
theorem iL_isStepped_40 {x : Nat} {Ls st : List Value} {h : AH} : ev L xs mdL_isStepped 40 (.ref x :: Ls) (st) h = ev L xs mdL_isStepped 41 (.ref x :: Ls) (.ref x :: st) (h) := e_aload_n dL_isStepped_40 rfl
theorem iL_isStepped_41 {v0 : Value} {v1 : Value} {v2 : Value} {v3 : Value} {v4 : Value} {x : Int32} {Ls st : List Value} {h : AH} : ev L xs mdL_isStepped 41 (v0 :: v1 :: v2 :: v3 :: v4 :: .int x :: Ls) (st) h = ev L xs mdL_isStepped 43 (v0 :: v1 :: v2 :: v3 :: v4 :: .int x :: Ls) (.int x :: st) (h) := e_iload dL_isStepped_41 rfl
theorem iL_isStepped_43 {v0 : Value} {x : Int32} {Ls st : List Value} {h : AH} : ev L xs mdL_isStepped 43 (v0 :: .int x :: Ls) (st) h = ev L xs mdL_isStepped 44 (v0 :: .int x :: Ls) (.int x :: st) (h) := e_iload_n dL_isStepped_43 rfl
theorem iL_isStepped_44 {v0 : Value} {v1 : Value} {x : Int32} {Ls st : List Value} {h : AH} : ev L xs mdL_isStepped 44 (v0 :: v1 :: .int x :: Ls) (st) h = ev L xs mdL_isStepped 45 (v0 :: v1 :: .int x :: Ls) (.int x :: st) (h) := e_iload_n dL_isStepped_44 rfl
theorem iL_isStepped_45 {a : Nat} {p0 : Int32} {p1 : Int32} {p2 : Int32} {Ls st : List Value} {h : AH} (hk : hK h a = 6) (hw : wds st ≤ 8) : ev L xs mdL_isStepped 45 Ls (.int p2 :: .int p1 :: .int p0 :: .ref a :: st) h = kn L xs mdL_isStepped 45 48 Ls st (ev L xs mdX6_standing 0 [.ref a, .int p0, .int p1, .int p2] [] h) := e_callV (as := [.int p2, .int p1, .int p0]) dL_isStepped_45 mr_8_31 (by decide) (by decide) rfl (by simp [wds, Value.category]; decide) rfl (by decide) hk hw
theorem iL_isStepped_48 {x z : Int32} {Ls st : List Value} {h : AH} : ev L xs mdL_isStepped 48 (Ls) (.int z :: .int x :: st) h = ev L xs mdL_isStepped 49 (Ls) (.int (x + z) :: st) (h) := e_iadd dL_isStepped_48
theorem iL_isStepped_49  {Ls st : List Value} {h : AH} : ev L xs mdL_isStepped 49 (Ls) (st) h = ev L xs mdL_isStepped 50 (Ls) (.int (nI 1) :: st) (h) := e_iconst dL_isStepped_49 (by decide)
theorem iL_isStepped_50 {x z : Int32} {Ls st : List Value} {h : AH} : ev L xs mdL_isStepped 50 (Ls) (.int z :: .int x :: st) h = ev L xs mdL_isStepped 51 (Ls) (.int (x + z) :: st) (h) := e_iadd dL_isStepped_50
theorem iL_isStepped_51 {v0 : Value} {v1 : Value} {v2 : Value} {v3 : Value} {v4 : Value} {x : Int32} {Ls st : List Value} {h : AH} (hc9 : v3.category = 1) : ev L xs mdL_isStepped 51 (v0 :: v1 :: v2 :: v3 :: v4 :: Ls) (.int x :: st) h = ev L xs mdL_isStepped 53 (v0 :: v1 :: v2 :: v3 :: .int x :: Ls) (st) (h) := e_istore dL_isStepped_51 rfl (by decide) (by unfold catOK; show (_ || (v3.category == 1)) = true; rw [hc9]; rfl)
theorem iL_isStepped_53 {v0 : Value} {v1 : Value} {v2 : Value} {v3 : Value} {v4 : Value} {x : Int32} {Ls st : List Value} {h : AH} (hc9 : v4.category = 1) : ev L xs mdL_isStepped 53 (v0 :: v1 :: v2 :: v3 :: v4 :: .int x :: Ls) (st) h = ev L xs mdL_isStepped 56 (v0 :: v1 :: v2 :: v3 :: v4 :: .int (x + (nI 1)) :: Ls) (st) (h) := e_iinc dL_isStepped_53 rfl rfl rfl (by decide) (by unfold catOK; show (_ || (v4.category == 1)) = true; rw [hc9]; rfl)
theorem iL_isStepped_56  {Ls st : List Value} {h : AH} : ev L xs mdL_isStepped 56 (Ls) (st) h = ev L xs mdL_isStepped 25 (Ls) (st) (h) := e_goto dL_isStepped_56 (by decide)
theorem iL_isStepped_59 {x : Nat} {Ls st : List Value} {h : AH} : ev L xs mdL_isStepped 59 (.ref x :: Ls) (st) h = ev L xs mdL_isStepped 60 (.ref x :: Ls) (.ref x :: st) (h) := e_aload_n dL_isStepped_59 rfl
theorem iL_isStepped_60  {Ls st : List Value} {h : AH} : ev L xs mdL_isStepped 60 (Ls) (st) h = ev L xs mdL_isStepped 62 (Ls) (.int (nI 7) :: st) (h) := e_bipush dL_isStepped_60 (by decide)
theorem iL_isStepped_62 {a : Nat} {p0 : Int32} {Ls st : List Value} {h : AH} (hk : hK h a = 6) (hw : wds st ≤ 8) : ev L xs mdL_isStepped 62 Ls (.int p0 :: .ref a :: st) h = kn L xs mdL_isStepped 62 65 Ls st (ev L xs mdX6_value 0 [.ref a, .int p0] [] h) := e_callV (as := [.int p0]) dL_isStepped_62 mr_8_8 (by decide) (by decide) rfl (by simp [wds, Value.category]; decide) rfl (by decide) hk hw
theorem iL_isStepped_65 {v0 : Value} {v1 : Value} {v2 : Value} {v3 : Value} {v4 : Value} {v5 : Value} {x : Int32} {Ls st : List Value} {h : AH} (hc9 : v4.category = 1) : ev L xs mdL_isStepped 65 (v0 :: v1 :: v2 :: v3 :: v4 :: v5 :: Ls) (.int x :: st) h = ev L xs mdL_isStepped 67 (v0 :: v1 :: v2 :: v3 :: v4 :: .int x :: Ls) (st) (h) := e_istore dL_isStepped_65 rfl (by decide) (by unfold catOK; show (_ || (v4.category == 1)) = true; rw [hc9]; rfl)
theorem iL_isStepped_67 {x : Nat} {Ls st : List Value} {h : AH} : ev L xs mdL_isStepped 67 (.ref x :: Ls) (st) h = ev L xs mdL_isStepped 68 (.ref x :: Ls) (.ref x :: st) (h) := e_aload_n dL_isStepped_67 rfl
theorem iL_isStepped_68  {Ls st : List Value} {h : AH} : ev L xs mdL_isStepped 68 (Ls) (st) h = ev L xs mdL_isStepped 70 (Ls) (.int (nI 6) :: st) (h) := e_bipush dL_isStepped_68 (by decide)
theorem iL_isStepped_70 {a : Nat} {p0 : Int32} {Ls st : List Value} {h : AH} (hk : hK h a = 6) (hw : wds st ≤ 8) : ev L xs mdL_isStepped 70 Ls (.int p0 :: .ref a :: st) h = kn L xs mdL_isStepped 70 73 Ls st (ev L xs mdX6_value 0 [.ref a, .int p0] [] h) := e_callV (as := [.int p0]) dL_isStepped_70 mr_8_8 (by decide) (by decide) rfl (by simp [wds, Value.category]; decide) rfl (by decide) hk hw
theorem iL_isStepped_73 {x : Nat} {Ls st : List Value} {h : AH} : ev L xs mdL_isStepped 73 (.ref x :: Ls) (st) h = ev L xs mdL_isStepped 74 (.ref x :: Ls) (.ref x :: st) (h) := e_aload_n dL_isStepped_73 rfl
theorem iL_isStepped_74 {v0 : Value} {x : Int32} {Ls st : List Value} {h : AH} : ev L xs mdL_isStepped 74 (v0 :: .int x :: Ls) (st) h = ev L xs mdL_isStepped 75 (v0 :: .int x :: Ls) (.int x :: st) (h) := e_iload_n dL_isStepped_74 rfl
theorem iL_isStepped_75 {v0 : Value} {v1 : Value} {x : Int32} {Ls st : List Value} {h : AH} : ev L xs mdL_isStepped 75 (v0 :: v1 :: .int x :: Ls) (st) h = ev L xs mdL_isStepped 76 (v0 :: v1 :: .int x :: Ls) (.int x :: st) (h) := e_iload_n dL_isStepped_75 rfl
theorem iL_isStepped_76 {a : Nat} {p0 : Int32} {p1 : Int32} {Ls st : List Value} {h : AH} (hk : hK h a = 6) (hw : wds st ≤ 8) : ev L xs mdL_isStepped 76 Ls (.int p1 :: .int p0 :: .ref a :: st) h = kn L xs mdL_isStepped 76 79 Ls st (ev L xs mdX6_needed 0 [.ref a, .int p0, .int p1] [] h) := e_callV (as := [.int p1, .int p0]) dL_isStepped_76 mr_8_25 (by decide) (by decide) rfl (by simp [wds, Value.category]; decide) rfl (by decide) hk hw
theorem iL_isStepped_79 {p0 : Int32} {Ls st : List Value} {h : AH} (hw : wds st ≤ 8) : ev L xs mdL_isStepped 79 Ls (.int p0 :: st) h = kn L xs mdL_isStepped 79 82 Ls st (ev L xs mdL_many 0 [.int p0, .null, .null] [] h) := e_callS (as := [.int p0]) dL_isStepped_79 mr_8_38 (by decide) (by decide) rfl (by simp [wds, Value.category]; decide) rfl hw
theorem iL_isStepped_82 {x z : Int32} {Ls st : List Value} {h : AH} : ev L xs mdL_isStepped 82 (Ls) (.int z :: .int x :: st) h = ev L xs mdL_isStepped 83 (Ls) (.int (x + z) :: st) (h) := e_iadd dL_isStepped_82
theorem iL_isStepped_83 {v0 : Value} {v1 : Value} {v2 : Value} {v3 : Value} {v4 : Value} {v5 : Value} {v6 : Value} {x : Int32} {Ls st : List Value} {h : AH} (hc9 : v5.category = 1) : ev L xs mdL_isStepped 83 (v0 :: v1 :: v2 :: v3 :: v4 :: v5 :: v6 :: Ls) (.int x :: st) h = ev L xs mdL_isStepped 85 (v0 :: v1 :: v2 :: v3 :: v4 :: v5 :: .int x :: Ls) (st) (h) := e_istore dL_isStepped_83 rfl (by decide) (by unfold catOK; show (_ || (v5.category == 1)) = true; rw [hc9]; rfl)
theorem iL_isStepped_85 {x : Nat} {Ls st : List Value} {h : AH} : ev L xs mdL_isStepped 85 (.ref x :: Ls) (st) h = ev L xs mdL_isStepped 86 (.ref x :: Ls) (.ref x :: st) (h) := e_aload_n dL_isStepped_85 rfl
theorem iL_isStepped_86 {a : Nat} {Ls st : List Value} {h : AH} (hk : hK h a = 6) (hw : wds st ≤ 8) : ev L xs mdL_isStepped 86 Ls (.ref a :: st) h = kn L xs mdL_isStepped 86 89 Ls st (ev L xs mdX6_step 0 [.ref a] [] h) := e_callV (as := []) dL_isStepped_86 mr_8_43 (by decide) (by decide) rfl (by simp [wds, Value.category]; decide) rfl (by decide) hk hw
theorem iL_isStepped_89 {v0 : Value} {v1 : Value} {v2 : Value} {x : Int32} {Ls st : List Value} {h : AH} : ev L xs mdL_isStepped 89 (v0 :: v1 :: v2 :: .int x :: Ls) (st) h = ev L xs mdL_isStepped 90 (v0 :: v1 :: v2 :: .int x :: Ls) (.int x :: st) (h) := e_iload_n dL_isStepped_89 rfl
theorem iL_isStepped_90 {x z : Int32} {Ls st : List Value} {h : AH} : ev L xs mdL_isStepped 90 Ls (.int z :: .int x :: st) h = if x = z then ev L xs mdL_isStepped 93 Ls st h else ev L xs mdL_isStepped 143 Ls st h := e_ic_ne dL_isStepped_90 (by decide)
theorem iL_isStepped_93 {x : Nat} {Ls st : List Value} {h : AH} : ev L xs mdL_isStepped 93 (.ref x :: Ls) (st) h = ev L xs mdL_isStepped 94 (.ref x :: Ls) (.ref x :: st) (h) := e_aload_n dL_isStepped_93 rfl
theorem iL_isStepped_94  {Ls st : List Value} {h : AH} : ev L xs mdL_isStepped 94 (Ls) (st) h = ev L xs mdL_isStepped 96 (Ls) (.int (nI 7) :: st) (h) := e_bipush dL_isStepped_94 (by decide)
theorem iL_isStepped_96 {a : Nat} {p0 : Int32} {Ls st : List Value} {h : AH} (hk : hK h a = 6) (hw : wds st ≤ 8) : ev L xs mdL_isStepped 96 Ls (.int p0 :: .ref a :: st) h = kn L xs mdL_isStepped 96 99 Ls st (ev L xs mdX6_value 0 [.ref a, .int p0] [] h) := e_callV (as := [.int p0]) dL_isStepped_96 mr_8_8 (by decide) (by decide) rfl (by simp [wds, Value.category]; decide) rfl (by decide) hk hw
theorem iL_isStepped_99 {v0 : Value} {v1 : Value} {v2 : Value} {v3 : Value} {v4 : Value} {x : Int32} {Ls st : List Value} {h : AH} : ev L xs mdL_isStepped 99 (v0 :: v1 :: v2 :: v3 :: v4 :: .int x :: Ls) (st) h = ev L xs mdL_isStepped 101 (v0 :: v1 :: v2 :: v3 :: v4 :: .int x :: Ls) (.int x :: st) (h) := e_iload dL_isStepped_99 rfl
theorem iL_isStepped_101 {v0 : Value} {v1 : Value} {v2 : Value} {x : Int32} {Ls st : List Value} {h : AH} : ev L xs mdL_isStepped 101 (v0 :: v1 :: v2 :: .int x :: Ls) (st) h = ev L xs mdL_isStepped 102 (v0 :: v1 :: v2 :: .int x :: Ls) (.int x :: st) (h) := e_iload_n dL_isStepped_101 rfl
theorem iL_isStepped_102 {p0 : Int32} {Ls st : List Value} {h : AH} (hw : wds st ≤ 8) : ev L xs mdL_isStepped 102 Ls (.int p0 :: st) h = kn L xs mdL_isStepped 102 105 Ls st (ev L xs mdL_many 0 [.int p0, .null, .null] [] h) := e_callS (as := [.int p0]) dL_isStepped_102 mr_8_38 (by decide) (by decide) rfl (by simp [wds, Value.category]; decide) rfl hw
theorem iL_isStepped_105 {x z : Int32} {Ls st : List Value} {h : AH} : ev L xs mdL_isStepped 105 (Ls) (.int z :: .int x :: st) h = ev L xs mdL_isStepped 106 (Ls) (.int (x + z) :: st) (h) := e_iadd dL_isStepped_105
theorem iL_isStepped_106 {x z : Int32} {Ls st : List Value} {h : AH} : ev L xs mdL_isStepped 106 Ls (.int z :: .int x :: st) h = if x = z then ev L xs mdL_isStepped 109 Ls st h else ev L xs mdL_isStepped 143 Ls st h := e_ic_ne dL_isStepped_106 (by decide)
theorem iL_isStepped_109 {x : Nat} {Ls st : List Value} {h : AH} : ev L xs mdL_isStepped 109 (.ref x :: Ls) (st) h = ev L xs mdL_isStepped 110 (.ref x :: Ls) (.ref x :: st) (h) := e_aload_n dL_isStepped_109 rfl
theorem iL_isStepped_110  {Ls st : List Value} {h : AH} : ev L xs mdL_isStepped 110 (Ls) (st) h = ev L xs mdL_isStepped 112 (Ls) (.int (nI 6) :: st) (h) := e_bipush dL_isStepped_110 (by decide)
theorem iL_isStepped_112 {a : Nat} {p0 : Int32} {Ls st : List Value} {h : AH} (hk : hK h a = 6) (hw : wds st ≤ 8) : ev L xs mdL_isStepped 112 Ls (.int p0 :: .ref a :: st) h = kn L xs mdL_isStepped 112 115 Ls st (ev L xs mdX6_value 0 [.ref a, .int p0] [] h) := e_callV (as := [.int p0]) dL_isStepped_112 mr_8_8 (by decide) (by decide) rfl (by simp [wds, Value.category]; decide) rfl (by decide) hk hw
theorem iL_isStepped_115 {v0 : Value} {v1 : Value} {v2 : Value} {v3 : Value} {v4 : Value} {v5 : Value} {x : Int32} {Ls st : List Value} {h : AH} : ev L xs mdL_isStepped 115 (v0 :: v1 :: v2 :: v3 :: v4 :: v5 :: .int x :: Ls) (st) h = ev L xs mdL_isStepped 117 (v0 :: v1 :: v2 :: v3 :: v4 :: v5 :: .int x :: Ls) (.int x :: st) (h) := e_iload dL_isStepped_115 rfl
theorem iL_isStepped_117 {x z : Int32} {Ls st : List Value} {h : AH} : ev L xs mdL_isStepped 117 Ls (.int z :: .int x :: st) h = if x = z then ev L xs mdL_isStepped 120 Ls st h else ev L xs mdL_isStepped 143 Ls st h := e_ic_ne dL_isStepped_117 (by decide)
theorem iL_isStepped_120  {Ls st : List Value} {h : AH} : ev L xs mdL_isStepped 120 (Ls) (st) h = ev L xs mdL_isStepped 121 (Ls) (.int (nI 2) :: st) (h) := e_iconst dL_isStepped_120 (by decide)
theorem iL_isStepped_121 {x : Nat} {Ls st : List Value} {h : AH} : ev L xs mdL_isStepped 121 (.ref x :: Ls) (st) h = ev L xs mdL_isStepped 122 (.ref x :: Ls) (.ref x :: st) (h) := e_aload_n dL_isStepped_121 rfl
theorem iL_isStepped_122  {Ls st : List Value} {h : AH} : ev L xs mdL_isStepped 122 (Ls) (st) h = ev L xs mdL_isStepped 123 (Ls) (.int (nI 3) :: st) (h) := e_iconst dL_isStepped_122 (by decide)
theorem iL_isStepped_123 {a : Nat} {p0 : Int32} {Ls st : List Value} {h : AH} (hk : hK h a = 6) (hw : wds st ≤ 8) : ev L xs mdL_isStepped 123 Ls (.int p0 :: .ref a :: st) h = kn L xs mdL_isStepped 123 126 Ls st (ev L xs mdX6_value 0 [.ref a, .int p0] [] h) := e_callV (as := [.int p0]) dL_isStepped_123 mr_8_8 (by decide) (by decide) rfl (by simp [wds, Value.category]; decide) rfl (by decide) hk hw
theorem iL_isStepped_126 {x z : Int32} {Ls st : List Value} {h : AH} : ev L xs mdL_isStepped 126 (Ls) (.int z :: .int x :: st) h = ev L xs mdL_isStepped 127 (Ls) (.int (x * z) :: st) (h) := e_imul dL_isStepped_126
theorem iL_isStepped_127 {x : Nat} {Ls st : List Value} {h : AH} : ev L xs mdL_isStepped 127 (.ref x :: Ls) (st) h = ev L xs mdL_isStepped 128 (.ref x :: Ls) (.ref x :: st) (h) := e_aload_n dL_isStepped_127 rfl
theorem iL_isStepped_128  {Ls st : List Value} {h : AH} : ev L xs mdL_isStepped 128 (Ls) (st) h = ev L xs mdL_isStepped 129 (Ls) (.int (nI 4) :: st) (h) := e_iconst dL_isStepped_128 (by decide)
theorem iL_isStepped_129 {a : Nat} {p0 : Int32} {Ls st : List Value} {h : AH} (hk : hK h a = 6) (hw : wds st ≤ 8) : ev L xs mdL_isStepped 129 Ls (.int p0 :: .ref a :: st) h = kn L xs mdL_isStepped 129 132 Ls st (ev L xs mdX6_value 0 [.ref a, .int p0] [] h) := e_callV (as := [.int p0]) dL_isStepped_129 mr_8_8 (by decide) (by decide) rfl (by simp [wds, Value.category]; decide) rfl (by decide) hk hw
theorem iL_isStepped_132 {x z : Int32} {Ls st : List Value} {h : AH} : ev L xs mdL_isStepped 132 (Ls) (.int z :: .int x :: st) h = ev L xs mdL_isStepped 133 (Ls) (.int (x + z) :: st) (h) := e_iadd dL_isStepped_132
theorem iL_isStepped_133  {Ls st : List Value} {h : AH} : ev L xs mdL_isStepped 133 (Ls) (st) h = ev L xs mdL_isStepped 134 (Ls) (.int (nI 2) :: st) (h) := e_iconst dL_isStepped_133 (by decide)
theorem iL_isStepped_134 {v0 : Value} {x : Int32} {Ls st : List Value} {h : AH} : ev L xs mdL_isStepped 134 (v0 :: .int x :: Ls) (st) h = ev L xs mdL_isStepped 135 (v0 :: .int x :: Ls) (.int x :: st) (h) := e_iload_n dL_isStepped_134 rfl
theorem iL_isStepped_135 {x z : Int32} {Ls st : List Value} {h : AH} : ev L xs mdL_isStepped 135 (Ls) (.int z :: .int x :: st) h = ev L xs mdL_isStepped 136 (Ls) (.int (x * z) :: st) (h) := e_imul dL_isStepped_135
theorem iL_isStepped_136 {v0 : Value} {v1 : Value} {x : Int32} {Ls st : List Value} {h : AH} : ev L xs mdL_isStepped 136 (v0 :: v1 :: .int x :: Ls) (st) h = ev L xs mdL_isStepped 137 (v0 :: v1 :: .int x :: Ls) (.int x :: st) (h) := e_iload_n dL_isStepped_136 rfl
theorem iL_isStepped_137 {x z : Int32} {Ls st : List Value} {h : AH} : ev L xs mdL_isStepped 137 (Ls) (.int z :: .int x :: st) h = ev L xs mdL_isStepped 138 (Ls) (.int (x + z) :: st) (h) := e_iadd dL_isStepped_137
theorem iL_isStepped_138  {Ls st : List Value} {h : AH} : ev L xs mdL_isStepped 138 (Ls) (st) h = ev L xs mdL_isStepped 139 (Ls) (.int (nI 1) :: st) (h) := e_iconst dL_isStepped_138 (by decide)
theorem iL_isStepped_139 {x z : Int32} {Ls st : List Value} {h : AH} : ev L xs mdL_isStepped 139 (Ls) (.int z :: .int x :: st) h = ev L xs mdL_isStepped 140 (Ls) (.int (x + z) :: st) (h) := e_iadd dL_isStepped_139
theorem iL_isStepped_140 {x z : Int32} {Ls st : List Value} {h : AH} : ev L xs mdL_isStepped 140 Ls (.int z :: .int x :: st) h = if x = z then ev L xs mdL_isStepped 145 Ls st h else ev L xs mdL_isStepped 143 Ls st h := e_ic_eq dL_isStepped_140 (by decide)
theorem iL_isStepped_143  {Ls st : List Value} {h : AH} : ev L xs mdL_isStepped 143 (Ls) (st) h = ev L xs mdL_isStepped 144 (Ls) (.int (nI 0) :: st) (h) := e_iconst dL_isStepped_143 (by decide)
theorem iL_isStepped_144 {v : Int32} {Ls : List Value} {h : AH} (hv : v = nI 0 ∨ v = nI 1) : ev L xs mdL_isStepped 144 Ls [.int v] h = some (.inl (some (.int v), h)) := e_zret dL_isStepped_144 rfl hv
theorem iL_isStepped_145  {Ls st : List Value} {h : AH} : ev L xs mdL_isStepped 145 (Ls) (st) h = ev L xs mdL_isStepped 146 (Ls) (.int (nI 0) :: st) (h) := e_iconst dL_isStepped_145 (by decide)
theorem iL_isStepped_146 {v0 : Value} {v1 : Value} {v2 : Value} {v3 : Value} {v4 : Value} {v5 : Value} {v6 : Value} {v7 : Value} {x : Int32} {Ls st : List Value} {h : AH} (hc9 : v6.category = 1) : ev L xs mdL_isStepped 146 (v0 :: v1 :: v2 :: v3 :: v4 :: v5 :: v6 :: v7 :: Ls) (.int x :: st) h = ev L xs mdL_isStepped 148 (v0 :: v1 :: v2 :: v3 :: v4 :: v5 :: v6 :: .int x :: Ls) (st) (h) := e_istore dL_isStepped_146 rfl (by decide) (by unfold catOK; show (_ || (v6.category == 1)) = true; rw [hc9]; rfl)
theorem iL_isStepped_148  {Ls st : List Value} {h : AH} : ev L xs mdL_isStepped 148 (Ls) (st) h = ev L xs mdL_isStepped 149 (Ls) (.int (nI 0) :: st) (h) := e_iconst dL_isStepped_148 (by decide)
theorem iL_isStepped_149 {v0 : Value} {v1 : Value} {v2 : Value} {v3 : Value} {v4 : Value} {v5 : Value} {v6 : Value} {v7 : Value} {v8 : Value} {x : Int32} {Ls st : List Value} {h : AH} (hc9 : v7.category = 1) : ev L xs mdL_isStepped 149 (v0 :: v1 :: v2 :: v3 :: v4 :: v5 :: v6 :: v7 :: v8 :: Ls) (.int x :: st) h = ev L xs mdL_isStepped 151 (v0 :: v1 :: v2 :: v3 :: v4 :: v5 :: v6 :: v7 :: .int x :: Ls) (st) (h) := e_istore dL_isStepped_149 rfl (by decide) (by unfold catOK; show (_ || (v7.category == 1)) = true; rw [hc9]; rfl)
theorem iL_isStepped_151 {v0 : Value} {v1 : Value} {v2 : Value} {v3 : Value} {v4 : Value} {v5 : Value} {v6 : Value} {v7 : Value} {x : Int32} {Ls st : List Value} {h : AH} : ev L xs mdL_isStepped 151 (v0 :: v1 :: v2 :: v3 :: v4 :: v5 :: v6 :: v7 :: .int x :: Ls) (st) h = ev L xs mdL_isStepped 153 (v0 :: v1 :: v2 :: v3 :: v4 :: v5 :: v6 :: v7 :: .int x :: Ls) (.int x :: st) (h) := e_iload dL_isStepped_151 rfl
theorem iL_isStepped_153 {x : Nat} {Ls st : List Value} {h : AH} : ev L xs mdL_isStepped 153 (.ref x :: Ls) (st) h = ev L xs mdL_isStepped 154 (.ref x :: Ls) (.ref x :: st) (h) := e_aload_n dL_isStepped_153 rfl
theorem iL_isStepped_154  {Ls st : List Value} {h : AH} : ev L xs mdL_isStepped 154 (Ls) (st) h = ev L xs mdL_isStepped 155 (Ls) (.int (nI 1) :: st) (h) := e_iconst dL_isStepped_154 (by decide)
theorem iL_isStepped_155 {a : Nat} {p0 : Int32} {Ls st : List Value} {h : AH} (hk : hK h a = 6) (hw : wds st ≤ 8) : ev L xs mdL_isStepped 155 Ls (.int p0 :: .ref a :: st) h = kn L xs mdL_isStepped 155 158 Ls st (ev L xs mdX6_value 0 [.ref a, .int p0] [] h) := e_callV (as := [.int p0]) dL_isStepped_155 mr_8_8 (by decide) (by decide) rfl (by simp [wds, Value.category]; decide) rfl (by decide) hk hw
theorem iL_isStepped_158 {x z : Int32} {Ls st : List Value} {h : AH} : ev L xs mdL_isStepped 158 Ls (.int z :: .int x :: st) h = if z ≤ x then ev L xs mdL_isStepped 246 Ls st h else ev L xs mdL_isStepped 161 Ls st h := e_ic_ge dL_isStepped_158 (by decide)
theorem iL_isStepped_161  {Ls st : List Value} {h : AH} : ev L xs mdL_isStepped 161 (Ls) (st) h = ev L xs mdL_isStepped 163 (Ls) (.int (nI 16) :: st) (h) := e_bipush dL_isStepped_161 (by decide)
theorem iL_isStepped_163 {v0 : Value} {v1 : Value} {v2 : Value} {v3 : Value} {v4 : Value} {v5 : Value} {v6 : Value} {x : Int32} {Ls st : List Value} {h : AH} : ev L xs mdL_isStepped 163 (v0 :: v1 :: v2 :: v3 :: v4 :: v5 :: v6 :: .int x :: Ls) (st) h = ev L xs mdL_isStepped 165 (v0 :: v1 :: v2 :: v3 :: v4 :: v5 :: v6 :: .int x :: Ls) (.int x :: st) (h) := e_iload dL_isStepped_163 rfl
theorem iL_isStepped_165 {x z : Int32} {Ls st : List Value} {h : AH} : ev L xs mdL_isStepped 165 (Ls) (.int z :: .int x :: st) h = ev L xs mdL_isStepped 166 (Ls) (.int (x * z) :: st) (h) := e_imul dL_isStepped_165
theorem iL_isStepped_166 {x : Nat} {Ls st : List Value} {h : AH} : ev L xs mdL_isStepped 166 (.ref x :: Ls) (st) h = ev L xs mdL_isStepped 167 (.ref x :: Ls) (.ref x :: st) (h) := e_aload_n dL_isStepped_166 rfl
theorem iL_isStepped_167 {v0 : Value} {v1 : Value} {v2 : Value} {v3 : Value} {v4 : Value} {v5 : Value} {v6 : Value} {v7 : Value} {x : Int32} {Ls st : List Value} {h : AH} : ev L xs mdL_isStepped 167 (v0 :: v1 :: v2 :: v3 :: v4 :: v5 :: v6 :: v7 :: .int x :: Ls) (st) h = ev L xs mdL_isStepped 169 (v0 :: v1 :: v2 :: v3 :: v4 :: v5 :: v6 :: v7 :: .int x :: Ls) (.int x :: st) (h) := e_iload dL_isStepped_167 rfl
theorem iL_isStepped_169  {Ls st : List Value} {h : AH} : ev L xs mdL_isStepped 169 (Ls) (st) h = ev L xs mdL_isStepped 171 (Ls) (.int (nI 7) :: st) (h) := e_bipush dL_isStepped_169 (by decide)
theorem iL_isStepped_171 {a : Nat} {p0 : Int32} {p1 : Int32} {Ls st : List Value} {h : AH} (hk : hK h a = 6) (hw : wds st ≤ 8) : ev L xs mdL_isStepped 171 Ls (.int p1 :: .int p0 :: .ref a :: st) h = kn L xs mdL_isStepped 171 174 Ls st (ev L xs mdX6_post 0 [.ref a, .int p0, .int p1] [] h) := e_callV (as := [.int p1, .int p0]) dL_isStepped_171 mr_8_14 (by decide) (by decide) rfl (by simp [wds, Value.category]; decide) rfl (by decide) hk hw
theorem iL_isStepped_174 {x z : Int32} {Ls st : List Value} {h : AH} : ev L xs mdL_isStepped 174 (Ls) (.int z :: .int x :: st) h = ev L xs mdL_isStepped 175 (Ls) (.int (x + z) :: st) (h) := e_iadd dL_isStepped_174
theorem iL_isStepped_175  {Ls st : List Value} {h : AH} : ev L xs mdL_isStepped 175 (Ls) (st) h = ev L xs mdL_isStepped 176 (Ls) (.int (nI 1) :: st) (h) := e_iconst dL_isStepped_175 (by decide)
theorem iL_isStepped_176 {x z : Int32} {Ls st : List Value} {h : AH} : ev L xs mdL_isStepped 176 (Ls) (.int z :: .int x :: st) h = ev L xs mdL_isStepped 177 (Ls) (.int (x + z) :: st) (h) := e_iadd dL_isStepped_176
theorem iL_isStepped_177 {v0 : Value} {v1 : Value} {v2 : Value} {v3 : Value} {v4 : Value} {v5 : Value} {v6 : Value} {v7 : Value} {x : Int32} {Ls st : List Value} {h : AH} (hc9 : v6.category = 1) : ev L xs mdL_isStepped 177 (v0 :: v1 :: v2 :: v3 :: v4 :: v5 :: v6 :: v7 :: Ls) (.int x :: st) h = ev L xs mdL_isStepped 179 (v0 :: v1 :: v2 :: v3 :: v4 :: v5 :: v6 :: .int x :: Ls) (st) (h) := e_istore dL_isStepped_177 rfl (by decide) (by unfold catOK; show (_ || (v6.category == 1)) = true; rw [hc9]; rfl)
theorem iL_isStepped_179 {x : Nat} {Ls st : List Value} {h : AH} : ev L xs mdL_isStepped 179 (.ref x :: Ls) (st) h = ev L xs mdL_isStepped 180 (.ref x :: Ls) (.ref x :: st) (h) := e_aload_n dL_isStepped_179 rfl
theorem iL_isStepped_180 {v0 : Value} {v1 : Value} {v2 : Value} {v3 : Value} {v4 : Value} {v5 : Value} {v6 : Value} {v7 : Value} {x : Int32} {Ls st : List Value} {h : AH} : ev L xs mdL_isStepped 180 (v0 :: v1 :: v2 :: v3 :: v4 :: v5 :: v6 :: v7 :: .int x :: Ls) (st) h = ev L xs mdL_isStepped 182 (v0 :: v1 :: v2 :: v3 :: v4 :: v5 :: v6 :: v7 :: .int x :: Ls) (.int x :: st) (h) := e_iload dL_isStepped_180 rfl
theorem iL_isStepped_182  {Ls st : List Value} {h : AH} : ev L xs mdL_isStepped 182 (Ls) (st) h = ev L xs mdL_isStepped 184 (Ls) (.int (nI 8) :: st) (h) := e_bipush dL_isStepped_182 (by decide)
theorem iL_isStepped_184 {a : Nat} {p0 : Int32} {p1 : Int32} {Ls st : List Value} {h : AH} (hk : hK h a = 6) (hw : wds st ≤ 8) : ev L xs mdL_isStepped 184 Ls (.int p1 :: .int p0 :: .ref a :: st) h = kn L xs mdL_isStepped 184 187 Ls st (ev L xs mdX6_post 0 [.ref a, .int p0, .int p1] [] h) := e_callV (as := [.int p1, .int p0]) dL_isStepped_184 mr_8_14 (by decide) (by decide) rfl (by simp [wds, Value.category]; decide) rfl (by decide) hk hw
theorem iL_isStepped_187 {x : Int32} {Ls st : List Value} {h : AH} : ev L xs mdL_isStepped 187 Ls (.int x :: st) h = if x ≤ nI 0 then ev L xs mdL_isStepped 194 Ls st h else ev L xs mdL_isStepped 190 Ls st h := e_if_le dL_isStepped_187 (by decide)
theorem iL_isStepped_190  {Ls st : List Value} {h : AH} : ev L xs mdL_isStepped 190 (Ls) (st) h = ev L xs mdL_isStepped 191 (Ls) (.int (nI 1) :: st) (h) := e_iconst dL_isStepped_190 (by decide)
theorem iL_isStepped_191  {Ls st : List Value} {h : AH} : ev L xs mdL_isStepped 191 (Ls) (st) h = ev L xs mdL_isStepped 195 (Ls) (st) (h) := e_goto dL_isStepped_191 (by decide)
theorem iL_isStepped_194  {Ls st : List Value} {h : AH} : ev L xs mdL_isStepped 194 (Ls) (st) h = ev L xs mdL_isStepped 195 (Ls) (.int (nI 0) :: st) (h) := e_iconst dL_isStepped_194 (by decide)
theorem iL_isStepped_195 {v0 : Value} {v1 : Value} {v2 : Value} {x : Int32} {Ls st : List Value} {h : AH} : ev L xs mdL_isStepped 195 (v0 :: v1 :: v2 :: .int x :: Ls) (st) h = ev L xs mdL_isStepped 196 (v0 :: v1 :: v2 :: .int x :: Ls) (.int x :: st) (h) := e_iload_n dL_isStepped_195 rfl
theorem iL_isStepped_196 {v0 : Value} {v1 : Value} {v2 : Value} {v3 : Value} {v4 : Value} {v5 : Value} {v6 : Value} {v7 : Value} {x : Int32} {Ls st : List Value} {h : AH} : ev L xs mdL_isStepped 196 (v0 :: v1 :: v2 :: v3 :: v4 :: v5 :: v6 :: v7 :: .int x :: Ls) (st) h = ev L xs mdL_isStepped 198 (v0 :: v1 :: v2 :: v3 :: v4 :: v5 :: v6 :: v7 :: .int x :: Ls) (.int x :: st) (h) := e_iload dL_isStepped_196 rfl
theorem iL_isStepped_198 {x z : Int32} {Ls st : List Value} {h : AH} : ev L xs mdL_isStepped 198 (Ls) (.int z :: .int x :: st) h = ev L xs mdL_isStepped 199 (Ls) (.int (x >>> (z &&& nI 31)) :: st) (h) := e_ishr dL_isStepped_198
theorem iL_isStepped_199  {Ls st : List Value} {h : AH} : ev L xs mdL_isStepped 199 (Ls) (st) h = ev L xs mdL_isStepped 200 (Ls) (.int (nI 1) :: st) (h) := e_iconst dL_isStepped_199 (by decide)
theorem iL_isStepped_200 {x z : Int32} {Ls st : List Value} {h : AH} : ev L xs mdL_isStepped 200 (Ls) (.int z :: .int x :: st) h = ev L xs mdL_isStepped 201 (Ls) (.int (x &&& z) :: st) (h) := e_iand dL_isStepped_200
theorem iL_isStepped_201  {Ls st : List Value} {h : AH} : ev L xs mdL_isStepped 201 (Ls) (st) h = ev L xs mdL_isStepped 202 (Ls) (.int (nI 1) :: st) (h) := e_iconst dL_isStepped_201 (by decide)
theorem iL_isStepped_202 {x z : Int32} {Ls st : List Value} {h : AH} : ev L xs mdL_isStepped 202 Ls (.int z :: .int x :: st) h = if x = z then ev L xs mdL_isStepped 205 Ls st h else ev L xs mdL_isStepped 209 Ls st h := e_ic_ne dL_isStepped_202 (by decide)
theorem iL_isStepped_205  {Ls st : List Value} {h : AH} : ev L xs mdL_isStepped 205 (Ls) (st) h = ev L xs mdL_isStepped 206 (Ls) (.int (nI 1) :: st) (h) := e_iconst dL_isStepped_205 (by decide)
theorem iL_isStepped_206  {Ls st : List Value} {h : AH} : ev L xs mdL_isStepped 206 (Ls) (st) h = ev L xs mdL_isStepped 210 (Ls) (st) (h) := e_goto dL_isStepped_206 (by decide)
theorem iL_isStepped_209  {Ls st : List Value} {h : AH} : ev L xs mdL_isStepped 209 (Ls) (st) h = ev L xs mdL_isStepped 210 (Ls) (.int (nI 0) :: st) (h) := e_iconst dL_isStepped_209 (by decide)
theorem iL_isStepped_210 {x z : Int32} {Ls st : List Value} {h : AH} : ev L xs mdL_isStepped 210 Ls (.int z :: .int x :: st) h = if x = z then ev L xs mdL_isStepped 213 Ls st h else ev L xs mdL_isStepped 238 Ls st h := e_ic_ne dL_isStepped_210 (by decide)
theorem iL_isStepped_213 {v0 : Value} {v1 : Value} {v2 : Value} {x : Int32} {Ls st : List Value} {h : AH} : ev L xs mdL_isStepped 213 (v0 :: v1 :: v2 :: .int x :: Ls) (st) h = ev L xs mdL_isStepped 214 (v0 :: v1 :: v2 :: .int x :: Ls) (.int x :: st) (h) := e_iload_n dL_isStepped_213 rfl
theorem iL_isStepped_214 {v0 : Value} {v1 : Value} {v2 : Value} {v3 : Value} {v4 : Value} {v5 : Value} {v6 : Value} {v7 : Value} {x : Int32} {Ls st : List Value} {h : AH} : ev L xs mdL_isStepped 214 (v0 :: v1 :: v2 :: v3 :: v4 :: v5 :: v6 :: v7 :: .int x :: Ls) (st) h = ev L xs mdL_isStepped 216 (v0 :: v1 :: v2 :: v3 :: v4 :: v5 :: v6 :: v7 :: .int x :: Ls) (.int x :: st) (h) := e_iload dL_isStepped_214 rfl
theorem iL_isStepped_216 {x z : Int32} {Ls st : List Value} {h : AH} : ev L xs mdL_isStepped 216 (Ls) (.int z :: .int x :: st) h = ev L xs mdL_isStepped 217 (Ls) (.int (x >>> (z &&& nI 31)) :: st) (h) := e_ishr dL_isStepped_216
theorem iL_isStepped_217  {Ls st : List Value} {h : AH} : ev L xs mdL_isStepped 217 (Ls) (st) h = ev L xs mdL_isStepped 218 (Ls) (.int (nI 1) :: st) (h) := e_iconst dL_isStepped_217 (by decide)
theorem iL_isStepped_218 {x z : Int32} {Ls st : List Value} {h : AH} : ev L xs mdL_isStepped 218 (Ls) (.int z :: .int x :: st) h = ev L xs mdL_isStepped 219 (Ls) (.int (x &&& z) :: st) (h) := e_iand dL_isStepped_218
theorem iL_isStepped_219  {Ls st : List Value} {h : AH} : ev L xs mdL_isStepped 219 (Ls) (st) h = ev L xs mdL_isStepped 220 (Ls) (.int (nI 1) :: st) (h) := e_iconst dL_isStepped_219 (by decide)
theorem iL_isStepped_220 {x z : Int32} {Ls st : List Value} {h : AH} : ev L xs mdL_isStepped 220 Ls (.int z :: .int x :: st) h = if x = z then ev L xs mdL_isStepped 223 Ls st h else ev L xs mdL_isStepped 240 Ls st h := e_ic_ne dL_isStepped_220 (by decide)
theorem iL_isStepped_223 {x : Nat} {Ls st : List Value} {h : AH} : ev L xs mdL_isStepped 223 (.ref x :: Ls) (st) h = ev L xs mdL_isStepped 224 (.ref x :: Ls) (.ref x :: st) (h) := e_aload_n dL_isStepped_223 rfl
theorem iL_isStepped_224 {v0 : Value} {v1 : Value} {v2 : Value} {v3 : Value} {v4 : Value} {v5 : Value} {v6 : Value} {v7 : Value} {x : Int32} {Ls st : List Value} {h : AH} : ev L xs mdL_isStepped 224 (v0 :: v1 :: v2 :: v3 :: v4 :: v5 :: v6 :: v7 :: .int x :: Ls) (st) h = ev L xs mdL_isStepped 226 (v0 :: v1 :: v2 :: v3 :: v4 :: v5 :: v6 :: v7 :: .int x :: Ls) (.int x :: st) (h) := e_iload dL_isStepped_224 rfl
theorem iL_isStepped_226  {Ls st : List Value} {h : AH} : ev L xs mdL_isStepped 226 (Ls) (st) h = ev L xs mdL_isStepped 227 (Ls) (.int (nI 5) :: st) (h) := e_iconst dL_isStepped_226 (by decide)
theorem iL_isStepped_227 {a : Nat} {p0 : Int32} {p1 : Int32} {Ls st : List Value} {h : AH} (hk : hK h a = 6) (hw : wds st ≤ 8) : ev L xs mdL_isStepped 227 Ls (.int p1 :: .int p0 :: .ref a :: st) h = kn L xs mdL_isStepped 227 230 Ls st (ev L xs mdX6_post 0 [.ref a, .int p0, .int p1] [] h) := e_callV (as := [.int p1, .int p0]) dL_isStepped_227 mr_8_14 (by decide) (by decide) rfl (by simp [wds, Value.category]; decide) rfl (by decide) hk hw
theorem iL_isStepped_230  {Ls st : List Value} {h : AH} : ev L xs mdL_isStepped 230 (Ls) (st) h = ev L xs mdL_isStepped 231 (Ls) (.int (nI 2) :: st) (h) := e_iconst dL_isStepped_230 (by decide)
theorem iL_isStepped_231 {v0 : Value} {x : Int32} {Ls st : List Value} {h : AH} : ev L xs mdL_isStepped 231 (v0 :: .int x :: Ls) (st) h = ev L xs mdL_isStepped 232 (v0 :: .int x :: Ls) (.int x :: st) (h) := e_iload_n dL_isStepped_231 rfl
theorem iL_isStepped_232 {x z : Int32} {Ls st : List Value} {h : AH} : ev L xs mdL_isStepped 232 (Ls) (.int z :: .int x :: st) h = ev L xs mdL_isStepped 233 (Ls) (.int (x * z) :: st) (h) := e_imul dL_isStepped_232
theorem iL_isStepped_233 {v0 : Value} {v1 : Value} {x : Int32} {Ls st : List Value} {h : AH} : ev L xs mdL_isStepped 233 (v0 :: v1 :: .int x :: Ls) (st) h = ev L xs mdL_isStepped 234 (v0 :: v1 :: .int x :: Ls) (.int x :: st) (h) := e_iload_n dL_isStepped_233 rfl
theorem iL_isStepped_234 {x z : Int32} {Ls st : List Value} {h : AH} : ev L xs mdL_isStepped 234 (Ls) (.int z :: .int x :: st) h = ev L xs mdL_isStepped 235 (Ls) (.int (x + z) :: st) (h) := e_iadd dL_isStepped_234
theorem iL_isStepped_235 {x z : Int32} {Ls st : List Value} {h : AH} : ev L xs mdL_isStepped 235 Ls (.int z :: .int x :: st) h = if x = z then ev L xs mdL_isStepped 240 Ls st h else ev L xs mdL_isStepped 238 Ls st h := e_ic_eq dL_isStepped_235 (by decide)
theorem iL_isStepped_238  {Ls st : List Value} {h : AH} : ev L xs mdL_isStepped 238 (Ls) (st) h = ev L xs mdL_isStepped 239 (Ls) (.int (nI 0) :: st) (h) := e_iconst dL_isStepped_238 (by decide)
theorem iL_isStepped_239 {v : Int32} {Ls : List Value} {h : AH} (hv : v = nI 0 ∨ v = nI 1) : ev L xs mdL_isStepped 239 Ls [.int v] h = some (.inl (some (.int v), h)) := e_zret dL_isStepped_239 rfl hv
theorem iL_isStepped_240 {v0 : Value} {v1 : Value} {v2 : Value} {v3 : Value} {v4 : Value} {v5 : Value} {v6 : Value} {v7 : Value} {x : Int32} {Ls st : List Value} {h : AH} (hc9 : v7.category = 1) : ev L xs mdL_isStepped 240 (v0 :: v1 :: v2 :: v3 :: v4 :: v5 :: v6 :: v7 :: .int x :: Ls) (st) h = ev L xs mdL_isStepped 243 (v0 :: v1 :: v2 :: v3 :: v4 :: v5 :: v6 :: v7 :: .int (x + (nI 1)) :: Ls) (st) (h) := e_iinc dL_isStepped_240 rfl rfl rfl (by decide) (by unfold catOK; show (_ || (v7.category == 1)) = true; rw [hc9]; rfl)
theorem iL_isStepped_243  {Ls st : List Value} {h : AH} : ev L xs mdL_isStepped 243 (Ls) (st) h = ev L xs mdL_isStepped 151 (Ls) (st) (h) := e_goto dL_isStepped_243 (by decide)
theorem iL_isStepped_246 {v0 : Value} {v1 : Value} {v2 : Value} {v3 : Value} {v4 : Value} {v5 : Value} {v6 : Value} {x : Int32} {Ls st : List Value} {h : AH} : ev L xs mdL_isStepped 246 (v0 :: v1 :: v2 :: v3 :: v4 :: v5 :: v6 :: .int x :: Ls) (st) h = ev L xs mdL_isStepped 248 (v0 :: v1 :: v2 :: v3 :: v4 :: v5 :: v6 :: .int x :: Ls) (.int x :: st) (h) := e_iload dL_isStepped_246 rfl
theorem iL_isStepped_248 {v0 : Value} {v1 : Value} {v2 : Value} {v3 : Value} {x : Int32} {Ls st : List Value} {h : AH} : ev L xs mdL_isStepped 248 (v0 :: v1 :: v2 :: v3 :: .int x :: Ls) (st) h = ev L xs mdL_isStepped 250 (v0 :: v1 :: v2 :: v3 :: .int x :: Ls) (.int x :: st) (h) := e_iload dL_isStepped_248 rfl
theorem iL_isStepped_250 {x z : Int32} {Ls st : List Value} {h : AH} : ev L xs mdL_isStepped 250 Ls (.int z :: .int x :: st) h = if x = z then ev L xs mdL_isStepped 253 Ls st h else ev L xs mdL_isStepped 257 Ls st h := e_ic_ne dL_isStepped_250 (by decide)
theorem iL_isStepped_253  {Ls st : List Value} {h : AH} : ev L xs mdL_isStepped 253 (Ls) (st) h = ev L xs mdL_isStepped 254 (Ls) (.int (nI 1) :: st) (h) := e_iconst dL_isStepped_253 (by decide)
theorem iL_isStepped_254  {Ls st : List Value} {h : AH} : ev L xs mdL_isStepped 254 (Ls) (st) h = ev L xs mdL_isStepped 258 (Ls) (st) (h) := e_goto dL_isStepped_254 (by decide)
theorem iL_isStepped_257  {Ls st : List Value} {h : AH} : ev L xs mdL_isStepped 257 (Ls) (st) h = ev L xs mdL_isStepped 258 (Ls) (.int (nI 0) :: st) (h) := e_iconst dL_isStepped_257 (by decide)
theorem iL_isStepped_258 {v : Int32} {Ls : List Value} {h : AH} (hv : v = nI 0 ∨ v = nI 1) : ev L xs mdL_isStepped 258 Ls [.int v] h = some (.inl (some (.int v), h)) := e_zret dL_isStepped_258 rfl hv
theorem dL_law_0 : decode cL_law 0 = .ok (.new 9, 3) := by decide +kernel
theorem dL_law_3 : decode cL_law 3 = .ok (.dup, 1) := by decide +kernel
theorem dL_law_4 : decode cL_law 4 = .ok (.invokespecial 74, 3) := by decide +kernel
theorem dL_law_7 : decode cL_law 7 = .ok (.astore_n 1, 1) := by decide +kernel
theorem dL_law_8 : decode cL_law 8 = .ok (.bipush 8, 2) := by decide +kernel
theorem dL_law_10 : decode cL_law 10 = .ok (.newarray .int, 2) := by decide +kernel
theorem dL_law_12 : decode cL_law 12 = .ok (.astore_n 2, 1) := by decide +kernel
theorem dL_law_13 : decode cL_law 13 = .ok (.aload_n 0, 1) := by decide +kernel
theorem dL_law_14 : decode cL_law 14 = .ok (.iconst 0, 1) := by decide +kernel
theorem dL_law_15 : decode cL_law 15 = .ok (.invokestatic 75, 3) := by decide +kernel
theorem dL_law_18 : decode cL_law 18 = .ok (.istore_n 3, 1) := by decide +kernel
theorem dL_law_19 : decode cL_law 19 = .ok (.iconst 0, 1) := by decide +kernel
theorem dL_law_20 : decode cL_law 20 = .ok (.istore 4, 2) := by decide +kernel
theorem dL_law_22 : decode cL_law 22 = .ok (.iload 4, 2) := by decide +kernel
theorem dL_law_24 : decode cL_law 24 = .ok (.bipush 8, 2) := by decide +kernel
theorem dL_law_26 : decode cL_law 26 = .ok (.if_icmp .ge 14, 3) := by decide +kernel
theorem dL_law_29 : decode cL_law 29 = .ok (.aload_n 2, 1) := by decide +kernel
theorem dL_law_30 : decode cL_law 30 = .ok (.iload 4, 2) := by decide +kernel
theorem dL_law_32 : decode cL_law 32 = .ok (.iconst (-1), 1) := by decide +kernel
theorem dL_law_33 : decode cL_law 33 = .ok (.iastore, 1) := by decide +kernel
theorem dL_law_34 : decode cL_law 34 = .ok (.iinc 4 1, 3) := by decide +kernel
theorem dL_law_37 : decode cL_law 37 = .ok (.goto (-15), 3) := by decide +kernel
theorem dL_law_40 : decode cL_law 40 = .ok (.iconst 0, 1) := by decide +kernel
theorem dL_law_41 : decode cL_law 41 = .ok (.istore 4, 2) := by decide +kernel
theorem dL_law_43 : decode cL_law 43 = .ok (.iload 4, 2) := by decide +kernel
theorem dL_law_45 : decode cL_law 45 = .ok (.iconst 3, 1) := by decide +kernel
theorem dL_law_46 : decode cL_law 46 = .ok (.if_icmp .ge 44, 3) := by decide +kernel
theorem dL_law_49 : decode cL_law 49 = .ok (.aload_n 1, 1) := by decide +kernel
theorem dL_law_50 : decode cL_law 50 = .ok (.iload_n 3, 1) := by decide +kernel
theorem dL_law_51 : decode cL_law 51 = .ok (.iconst 5, 1) := by decide +kernel
theorem dL_law_52 : decode cL_law 52 = .ok (.iload 4, 2) := by decide +kernel
theorem dL_law_54 : decode cL_law 54 = .ok (.imul, 1) := by decide +kernel
theorem dL_law_55 : decode cL_law 55 = .ok (.ishr, 1) := by decide +kernel
theorem dL_law_56 : decode cL_law 56 = .ok (.bipush 100, 2) := by decide +kernel
theorem dL_law_58 : decode cL_law 58 = .ok (.invokestatic 47, 3) := by decide +kernel
theorem dL_law_61 : decode cL_law 61 = .ok (.sipush 1023, 3) := by decide +kernel
theorem dL_law_64 : decode cL_law 64 = .ok (.iconst 1, 1) := by decide +kernel
theorem dL_law_65 : decode cL_law 65 = .ok (.iload_n 3, 1) := by decide +kernel
theorem dL_law_66 : decode cL_law 66 = .ok (.iconst 3, 1) := by decide +kernel
theorem dL_law_67 : decode cL_law 67 = .ok (.iload 4, 2) := by decide +kernel
theorem dL_law_69 : decode cL_law 69 = .ok (.imul, 1) := by decide +kernel
theorem dL_law_70 : decode cL_law 70 = .ok (.ishr, 1) := by decide +kernel
theorem dL_law_71 : decode cL_law 71 = .ok (.bipush 10, 2) := by decide +kernel
theorem dL_law_73 : decode cL_law 73 = .ok (.invokestatic 47, 3) := by decide +kernel
theorem dL_law_76 : decode cL_law 76 = .ok (.ishl, 1) := by decide +kernel
theorem dL_law_77 : decode cL_law 77 = .ok (.iconst (-1), 1) := by decide +kernel
theorem dL_law_78 : decode cL_law 78 = .ok (.ixor, 1) := by decide +kernel
theorem dL_law_79 : decode cL_law 79 = .ok (.iand, 1) := by decide +kernel
theorem dL_law_80 : decode cL_law 80 = .ok (.invokevirtual 50, 3) := by decide +kernel
theorem dL_law_83 : decode cL_law 83 = .ok (.pop, 1) := by decide +kernel
theorem dL_law_84 : decode cL_law 84 = .ok (.iinc 4 1, 3) := by decide +kernel
theorem dL_law_87 : decode cL_law 87 = .ok (.goto (-44), 3) := by decide +kernel
theorem dL_law_90 : decode cL_law 90 = .ok (.aload_n 1, 1) := by decide +kernel
theorem dL_law_91 : decode cL_law 91 = .ok (.iload_n 3, 1) := by decide +kernel
theorem dL_law_92 : decode cL_law 92 = .ok (.iconst 2, 1) := by decide +kernel
theorem dL_law_93 : decode cL_law 93 = .ok (.ishr, 1) := by decide +kernel
theorem dL_law_94 : decode cL_law 94 = .ok (.bipush 100, 2) := by decide +kernel
theorem dL_law_96 : decode cL_law 96 = .ok (.invokestatic 47, 3) := by decide +kernel
theorem dL_law_99 : decode cL_law 99 = .ok (.bipush 40, 2) := by decide +kernel
theorem dL_law_101 : decode cL_law 101 = .ok (.iconst 0, 1) := by decide +kernel
theorem dL_law_102 : decode cL_law 102 = .ok (.invokevirtual 53, 3) := by decide +kernel
theorem dL_law_105 : decode cL_law 105 = .ok (.pop, 1) := by decide +kernel
theorem dL_law_106 : decode cL_law 106 = .ok (.aload_n 1, 1) := by decide +kernel
theorem dL_law_107 : decode cL_law 107 = .ok (.iload_n 3, 1) := by decide +kernel
theorem dL_law_108 : decode cL_law 108 = .ok (.bipush 9, 2) := by decide +kernel
theorem dL_law_110 : decode cL_law 110 = .ok (.ishr, 1) := by decide +kernel
theorem dL_law_111 : decode cL_law 111 = .ok (.bipush 100, 2) := by decide +kernel
theorem dL_law_113 : decode cL_law 113 = .ok (.invokestatic 47, 3) := by decide +kernel
theorem dL_law_116 : decode cL_law 116 = .ok (.iload_n 3, 1) := by decide +kernel
theorem dL_law_117 : decode cL_law 117 = .ok (.bipush 6, 2) := by decide +kernel
theorem dL_law_119 : decode cL_law 119 = .ok (.ishr, 1) := by decide +kernel
theorem dL_law_120 : decode cL_law 120 = .ok (.bipush 99, 2) := by decide +kernel
theorem dL_law_122 : decode cL_law 122 = .ok (.invokestatic 47, 3) := by decide +kernel
theorem dL_law_125 : decode cL_law 125 = .ok (.iconst (-1), 1) := by decide +kernel
theorem dL_law_126 : decode cL_law 126 = .ok (.invokevirtual 53, 3) := by decide +kernel
theorem dL_law_129 : decode cL_law 129 = .ok (.pop, 1) := by decide +kernel
theorem dL_law_130 : decode cL_law 130 = .ok (.iconst 1, 1) := by decide +kernel
theorem dL_law_131 : decode cL_law 131 = .ok (.istore 4, 2) := by decide +kernel
theorem dL_law_133 : decode cL_law 133 = .ok (.iload 4, 2) := by decide +kernel
theorem dL_law_135 : decode cL_law 135 = .ok (.bipush 16, 2) := by decide +kernel
theorem dL_law_137 : decode cL_law 137 = .ok (.if_icmp .ge 193, 3) := by decide +kernel
theorem dL_law_140 : decode cL_law 140 = .ok (.aload_n 0, 1) := by decide +kernel
theorem dL_law_141 : decode cL_law 141 = .ok (.iload 4, 2) := by decide +kernel
theorem dL_law_143 : decode cL_law 143 = .ok (.invokestatic 75, 3) := by decide +kernel
theorem dL_law_146 : decode cL_law 146 = .ok (.istore 5, 2) := by decide +kernel
theorem dL_law_148 : decode cL_law 148 = .ok (.aload_n 1, 1) := by decide +kernel
theorem dL_law_149 : decode cL_law 149 = .ok (.invokevirtual 79, 3) := by decide +kernel
theorem dL_law_152 : decode cL_law 152 = .ok (.lstore 6, 2) := by decide +kernel
theorem dL_law_154 : decode cL_law 154 = .ok (.aload_n 2, 1) := by decide +kernel
theorem dL_law_155 : decode cL_law 155 = .ok (.iload 5, 2) := by decide +kernel
theorem dL_law_157 : decode cL_law 157 = .ok (.iconst 4, 1) := by decide +kernel
theorem dL_law_158 : decode cL_law 158 = .ok (.ishr, 1) := by decide +kernel
theorem dL_law_159 : decode cL_law 159 = .ok (.aload_n 1, 1) := by decide +kernel
theorem dL_law_160 : decode cL_law 160 = .ok (.iconst 1, 1) := by decide +kernel
theorem dL_law_161 : decode cL_law 161 = .ok (.invokevirtual 8, 3) := by decide +kernel
theorem dL_law_164 : decode cL_law 164 = .ok (.invokestatic 47, 3) := by decide +kernel
theorem dL_law_167 : decode cL_law 167 = .ok (.iaload, 1) := by decide +kernel
theorem dL_law_168 : decode cL_law 168 = .ok (.istore 8, 2) := by decide +kernel
theorem dL_law_170 : decode cL_law 170 = .ok (.iload 5, 2) := by decide +kernel
theorem dL_law_172 : decode cL_law 172 = .ok (.iconst 4, 1) := by decide +kernel
theorem dL_law_173 : decode cL_law 173 = .ok (.ishr, 1) := by decide +kernel
theorem dL_law_174 : decode cL_law 174 = .ok (.aload_n 1, 1) := by decide +kernel
theorem dL_law_175 : decode cL_law 175 = .ok (.iconst 1, 1) := by decide +kernel
theorem dL_law_176 : decode cL_law 176 = .ok (.invokevirtual 8, 3) := by decide +kernel
theorem dL_law_179 : decode cL_law 179 = .ok (.invokestatic 47, 3) := by decide +kernel
theorem dL_law_182 : decode cL_law 182 = .ok (.istore 9, 2) := by decide +kernel
theorem dL_law_184 : decode cL_law 184 = .ok (.aload_n 1, 1) := by decide +kernel
theorem dL_law_185 : decode cL_law 185 = .ok (.iload 5, 2) := by decide +kernel
theorem dL_law_187 : decode cL_law 187 = .ok (.aload_n 2, 1) := by decide +kernel
theorem dL_law_188 : decode cL_law 188 = .ok (.invokestatic 83, 3) := by decide +kernel
theorem dL_law_191 : decode cL_law 191 = .ok (.aload_n 1, 1) := by decide +kernel
theorem dL_law_192 : decode cL_law 192 = .ok (.invokevirtual 79, 3) := by decide +kernel
theorem dL_law_195 : decode cL_law 195 = .ok (.lload 6, 2) := by decide +kernel
theorem dL_law_197 : decode cL_law 197 = .ok (.lcmp, 1) := by decide +kernel
theorem dL_law_198 : decode cL_law 198 = .ok (.ifCond .eq 7, 3) := by decide +kernel
theorem dL_law_201 : decode cL_law 201 = .ok (.iconst 1, 1) := by decide +kernel
theorem dL_law_202 : decode cL_law 202 = .ok (.goto 4, 3) := by decide +kernel
theorem dL_law_205 : decode cL_law 205 = .ok (.iconst 0, 1) := by decide +kernel
theorem dL_law_206 : decode cL_law 206 = .ok (.istore 10, 2) := by decide +kernel
theorem dL_law_208 : decode cL_law 208 = .ok (.iload 10, 2) := by decide +kernel
theorem dL_law_210 : decode cL_law 210 = .ok (.ifCond .eq 105, 3) := by decide +kernel
theorem dL_law_213 : decode cL_law 213 = .ok (.iload 4, 2) := by decide +kernel
theorem dL_law_215 : decode cL_law 215 = .ok (.iconst 3, 1) := by decide +kernel
theorem dL_law_216 : decode cL_law 216 = .ok (.iand, 1) := by decide +kernel
theorem dL_law_217 : decode cL_law 217 = .ok (.iconst 1, 1) := by decide +kernel
theorem dL_law_218 : decode cL_law 218 = .ok (.if_icmp .ne 97, 3) := by decide +kernel
theorem dL_law_221 : decode cL_law 221 = .ok (.aload_n 1, 1) := by decide +kernel
theorem dL_law_222 : decode cL_law 222 = .ok (.iconst 3, 1) := by decide +kernel
theorem dL_law_223 : decode cL_law 223 = .ok (.invokevirtual 8, 3) := by decide +kernel
theorem dL_law_226 : decode cL_law 226 = .ok (.istore 11, 2) := by decide +kernel
theorem dL_law_228 : decode cL_law 228 = .ok (.aload_n 1, 1) := by decide +kernel
theorem dL_law_229 : decode cL_law 229 = .ok (.bipush 7, 2) := by decide +kernel
theorem dL_law_231 : decode cL_law 231 = .ok (.invokevirtual 8, 3) := by decide +kernel
theorem dL_law_234 : decode cL_law 234 = .ok (.istore 12, 2) := by decide +kernel
theorem dL_law_236 : decode cL_law 236 = .ok (.aload_n 1, 1) := by decide +kernel
theorem dL_law_237 : decode cL_law 237 = .ok (.bipush 10, 2) := by decide +kernel
theorem dL_law_239 : decode cL_law 239 = .ok (.invokevirtual 8, 3) := by decide +kernel
theorem dL_law_242 : decode cL_law 242 = .ok (.istore 13, 2) := by decide +kernel
theorem dL_law_244 : decode cL_law 244 = .ok (.aload_n 1, 1) := by decide +kernel
theorem dL_law_245 : decode cL_law 245 = .ok (.bipush 9, 2) := by decide +kernel
theorem dL_law_247 : decode cL_law 247 = .ok (.invokevirtual 8, 3) := by decide +kernel
theorem dL_law_250 : decode cL_law 250 = .ok (.istore 14, 2) := by decide +kernel
theorem dL_law_252 : decode cL_law 252 = .ok (.aload_n 1, 1) := by decide +kernel
theorem dL_law_253 : decode cL_law 253 = .ok (.invokevirtual 87, 3) := by decide +kernel
theorem dL_law_256 : decode cL_law 256 = .ok (.pop, 1) := by decide +kernel
theorem dL_law_257 : decode cL_law 257 = .ok (.aload_n 2, 1) := by decide +kernel
theorem dL_law_258 : decode cL_law 258 = .ok (.iload 9, 2) := by decide +kernel
theorem dL_law_260 : decode cL_law 260 = .ok (.iload 8, 2) := by decide +kernel
theorem dL_law_262 : decode cL_law 262 = .ok (.iastore, 1) := by decide +kernel
theorem dL_law_263 : decode cL_law 263 = .ok (.aload_n 1, 1) := by decide +kernel
theorem dL_law_264 : decode cL_law 264 = .ok (.iload 5, 2) := by decide +kernel
theorem dL_law_266 : decode cL_law 266 = .ok (.aload_n 2, 1) := by decide +kernel
theorem dL_law_267 : decode cL_law 267 = .ok (.invokestatic 83, 3) := by decide +kernel
theorem dL_law_270 : decode cL_law 270 = .ok (.aload_n 1, 1) := by decide +kernel
theorem dL_law_271 : decode cL_law 271 = .ok (.iconst 3, 1) := by decide +kernel
theorem dL_law_272 : decode cL_law 272 = .ok (.invokevirtual 8, 3) := by decide +kernel
theorem dL_law_275 : decode cL_law 275 = .ok (.iload 11, 2) := by decide +kernel
theorem dL_law_277 : decode cL_law 277 = .ok (.if_icmp .ne 36, 3) := by decide +kernel
theorem dL_law_280 : decode cL_law 280 = .ok (.aload_n 1, 1) := by decide +kernel
theorem dL_law_281 : decode cL_law 281 = .ok (.bipush 7, 2) := by decide +kernel
theorem dL_law_283 : decode cL_law 283 = .ok (.invokevirtual 8, 3) := by decide +kernel
theorem dL_law_286 : decode cL_law 286 = .ok (.iload 12, 2) := by decide +kernel
theorem dL_law_288 : decode cL_law 288 = .ok (.if_icmp .ne 25, 3) := by decide +kernel
theorem dL_law_291 : decode cL_law 291 = .ok (.aload_n 1, 1) := by decide +kernel
theorem dL_law_292 : decode cL_law 292 = .ok (.bipush 10, 2) := by decide +kernel
theorem dL_law_294 : decode cL_law 294 = .ok (.invokevirtual 8, 3) := by decide +kernel
theorem dL_law_297 : decode cL_law 297 = .ok (.iload 13, 2) := by decide +kernel
theorem dL_law_299 : decode cL_law 299 = .ok (.if_icmp .ne 14, 3) := by decide +kernel
theorem dL_law_302 : decode cL_law 302 = .ok (.aload_n 1, 1) := by decide +kernel
theorem dL_law_303 : decode cL_law 303 = .ok (.bipush 9, 2) := by decide +kernel
theorem dL_law_305 : decode cL_law 305 = .ok (.invokevirtual 8, 3) := by decide +kernel
theorem dL_law_308 : decode cL_law 308 = .ok (.iload 14, 2) := by decide +kernel
theorem dL_law_310 : decode cL_law 310 = .ok (.if_icmp .eq 5, 3) := by decide +kernel
theorem dL_law_313 : decode cL_law 313 = .ok (.iconst 0, 1) := by decide +kernel
theorem dL_law_314 : decode cL_law 314 = .ok (.ireturn, 1) := by decide +kernel
theorem dL_law_315 : decode cL_law 315 = .ok (.aload_n 1, 1) := by decide +kernel
theorem dL_law_316 : decode cL_law 316 = .ok (.invokestatic 90, 3) := by decide +kernel
theorem dL_law_319 : decode cL_law 319 = .ok (.ifCond .ne 5, 3) := by decide +kernel
theorem dL_law_322 : decode cL_law 322 = .ok (.iconst 0, 1) := by decide +kernel
theorem dL_law_323 : decode cL_law 323 = .ok (.ireturn, 1) := by decide +kernel
theorem dL_law_324 : decode cL_law 324 = .ok (.iinc 4 1, 3) := by decide +kernel
theorem dL_law_327 : decode cL_law 327 = .ok (.goto (-194), 3) := by decide +kernel
theorem dL_law_330 : decode cL_law 330 = .ok (.aload_n 1, 1) := by decide +kernel
theorem dL_law_331 : decode cL_law 331 = .ok (.iconst 3, 1) := by decide +kernel
theorem dL_law_332 : decode cL_law 332 = .ok (.invokevirtual 8, 3) := by decide +kernel
theorem dL_law_335 : decode cL_law 335 = .ok (.iload_n 3, 1) := by decide +kernel
theorem dL_law_336 : decode cL_law 336 = .ok (.iconst 4, 1) := by decide +kernel
theorem dL_law_337 : decode cL_law 337 = .ok (.ishr, 1) := by decide +kernel
theorem dL_law_338 : decode cL_law 338 = .ok (.bipush 6, 2) := by decide +kernel
theorem dL_law_340 : decode cL_law 340 = .ok (.invokestatic 47, 3) := by decide +kernel
theorem dL_law_343 : decode cL_law 343 = .ok (.iadd, 1) := by decide +kernel
theorem dL_law_344 : decode cL_law 344 = .ok (.istore 4, 2) := by decide +kernel
theorem dL_law_346 : decode cL_law 346 = .ok (.aload_n 1, 1) := by decide +kernel
theorem dL_law_347 : decode cL_law 347 = .ok (.invokevirtual 79, 3) := by decide +kernel
theorem dL_law_350 : decode cL_law 350 = .ok (.lstore 5, 2) := by decide +kernel
theorem dL_law_352 : decode cL_law 352 = .ok (.aload_n 1, 1) := by decide +kernel
theorem dL_law_353 : decode cL_law 353 = .ok (.iload 4, 2) := by decide +kernel
theorem dL_law_355 : decode cL_law 355 = .ok (.iload_n 3, 1) := by decide +kernel
theorem dL_law_356 : decode cL_law 356 = .ok (.iconst 3, 1) := by decide +kernel
theorem dL_law_357 : decode cL_law 357 = .ok (.ishr, 1) := by decide +kernel
theorem dL_law_358 : decode cL_law 358 = .ok (.iconst 1, 1) := by decide +kernel
theorem dL_law_359 : decode cL_law 359 = .ok (.iand, 1) := by decide +kernel
theorem dL_law_360 : decode cL_law 360 = .ok (.invokestatic 94, 3) := by decide +kernel
theorem dL_law_363 : decode cL_law 363 = .ok (.ifCond .eq 77, 3) := by decide +kernel
theorem dL_law_366 : decode cL_law 366 = .ok (.aload_n 1, 1) := by decide +kernel
theorem dL_law_367 : decode cL_law 367 = .ok (.aload_n 1, 1) := by decide +kernel
theorem dL_law_368 : decode cL_law 368 = .ok (.iconst 3, 1) := by decide +kernel
theorem dL_law_369 : decode cL_law 369 = .ok (.invokevirtual 8, 3) := by decide +kernel
theorem dL_law_372 : decode cL_law 372 = .ok (.aload_n 1, 1) := by decide +kernel
theorem dL_law_373 : decode cL_law 373 = .ok (.iconst 4, 1) := by decide +kernel
theorem dL_law_374 : decode cL_law 374 = .ok (.invokevirtual 8, 3) := by decide +kernel
theorem dL_law_377 : decode cL_law 377 = .ok (.invokestatic 94, 3) := by decide +kernel
theorem dL_law_380 : decode cL_law 380 = .ok (.ifCond .eq 60, 3) := by decide +kernel
theorem dL_law_383 : decode cL_law 383 = .ok (.aload_n 1, 1) := by decide +kernel
theorem dL_law_384 : decode cL_law 384 = .ok (.iload_n 3, 1) := by decide +kernel
theorem dL_law_385 : decode cL_law 385 = .ok (.aload_n 1, 1) := by decide +kernel
theorem dL_law_386 : decode cL_law 386 = .ok (.iconst 2, 1) := by decide +kernel
theorem dL_law_387 : decode cL_law 387 = .ok (.invokevirtual 8, 3) := by decide +kernel
theorem dL_law_390 : decode cL_law 390 = .ok (.invokestatic 47, 3) := by decide +kernel
theorem dL_law_393 : decode cL_law 393 = .ok (.iload 4, 2) := by decide +kernel
theorem dL_law_395 : decode cL_law 395 = .ok (.invokevirtual 98, 3) := by decide +kernel
theorem dL_law_398 : decode cL_law 398 = .ok (.ifCond .eq 23, 3) := by decide +kernel
theorem dL_law_401 : decode cL_law 401 = .ok (.iload 4, 2) := by decide +kernel
theorem dL_law_403 : decode cL_law 403 = .ok (.aload_n 1, 1) := by decide +kernel
theorem dL_law_404 : decode cL_law 404 = .ok (.iload_n 3, 1) := by decide +kernel
theorem dL_law_405 : decode cL_law 405 = .ok (.aload_n 1, 1) := by decide +kernel
theorem dL_law_406 : decode cL_law 406 = .ok (.iconst 2, 1) := by decide +kernel
theorem dL_law_407 : decode cL_law 407 = .ok (.invokevirtual 8, 3) := by decide +kernel
theorem dL_law_410 : decode cL_law 410 = .ok (.invokestatic 47, 3) := by decide +kernel
theorem dL_law_413 : decode cL_law 413 = .ok (.bipush 7, 2) := by decide +kernel
theorem dL_law_415 : decode cL_law 415 = .ok (.invokevirtual 18, 3) := by decide +kernel
theorem dL_law_418 : decode cL_law 418 = .ok (.if_icmp .lt 22, 3) := by decide +kernel
theorem dL_law_421 : decode cL_law 421 = .ok (.aload_n 1, 1) := by decide +kernel
theorem dL_law_422 : decode cL_law 422 = .ok (.iload 4, 2) := by decide +kernel
theorem dL_law_424 : decode cL_law 424 = .ok (.invokevirtual 101, 3) := by decide +kernel
theorem dL_law_427 : decode cL_law 427 = .ok (.ifCond .lt 13, 3) := by decide +kernel
theorem dL_law_430 : decode cL_law 430 = .ok (.aload_n 1, 1) := by decide +kernel
theorem dL_law_431 : decode cL_law 431 = .ok (.invokevirtual 79, 3) := by decide +kernel
theorem dL_law_434 : decode cL_law 434 = .ok (.lload 5, 2) := by decide +kernel
theorem dL_law_436 : decode cL_law 436 = .ok (.lcmp, 1) := by decide +kernel
theorem dL_law_437 : decode cL_law 437 = .ok (.ifCond .eq 5, 3) := by decide +kernel
theorem dL_law_440 : decode cL_law 440 = .ok (.iconst 0, 1) := by decide +kernel
theorem dL_law_441 : decode cL_law 441 = .ok (.ireturn, 1) := by decide +kernel
theorem dL_law_442 : decode cL_law 442 = .ok (.aload_n 1, 1) := by decide +kernel
theorem dL_law_443 : decode cL_law 443 = .ok (.invokestatic 104, 3) := by decide +kernel
theorem dL_law_446 : decode cL_law 446 = .ok (.ifCond .eq 24, 3) := by decide +kernel
theorem dL_law_449 : decode cL_law 449 = .ok (.aload_n 1, 1) := by decide +kernel
theorem dL_law_450 : decode cL_law 450 = .ok (.invokestatic 104, 3) := by decide +kernel
theorem dL_law_453 : decode cL_law 453 = .ok (.ifCond .eq 17, 3) := by decide +kernel
theorem dL_law_456 : decode cL_law 456 = .ok (.aload_n 1, 1) := by decide +kernel
theorem dL_law_457 : decode cL_law 457 = .ok (.invokestatic 104, 3) := by decide +kernel
theorem dL_law_460 : decode cL_law 460 = .ok (.ifCond .eq 10, 3) := by decide +kernel
theorem dL_law_463 : decode cL_law 463 = .ok (.aload_n 1, 1) := by decide +kernel
theorem dL_law_464 : decode cL_law 464 = .ok (.invokestatic 90, 3) := by decide +kernel
theorem dL_law_467 : decode cL_law 467 = .ok (.ifCond .ne 5, 3) := by decide +kernel
theorem dL_law_470 : decode cL_law 470 = .ok (.iconst 0, 1) := by decide +kernel
theorem dL_law_471 : decode cL_law 471 = .ok (.ireturn, 1) := by decide +kernel
theorem dL_law_472 : decode cL_law 472 = .ok (.aload_n 1, 1) := by decide +kernel
theorem dL_law_473 : decode cL_law 473 = .ok (.invokevirtual 107, 3) := by decide +kernel
theorem dL_law_476 : decode cL_law 476 = .ok (.istore 7, 2) := by decide +kernel
theorem dL_law_478 : decode cL_law 478 = .ok (.iload 7, 2) := by decide +kernel
theorem dL_law_480 : decode cL_law 480 = .ok (.ifCond .le 54, 3) := by decide +kernel
theorem dL_law_483 : decode cL_law 483 = .ok (.iload 7, 2) := by decide +kernel
theorem dL_law_485 : decode cL_law 485 = .ok (.bipush 60, 2) := by decide +kernel
theorem dL_law_487 : decode cL_law 487 = .ok (.if_icmp .ge 47, 3) := by decide +kernel
theorem dL_law_490 : decode cL_law 490 = .ok (.aload_n 1, 1) := by decide +kernel
theorem dL_law_491 : decode cL_law 491 = .ok (.iconst 3, 1) := by decide +kernel
theorem dL_law_492 : decode cL_law 492 = .ok (.invokevirtual 8, 3) := by decide +kernel
theorem dL_law_495 : decode cL_law 495 = .ok (.iload 7, 2) := by decide +kernel
theorem dL_law_497 : decode cL_law 497 = .ok (.iadd, 1) := by decide +kernel
theorem dL_law_498 : decode cL_law 498 = .ok (.sipush 3000, 3) := by decide +kernel
theorem dL_law_501 : decode cL_law 501 = .ok (.if_icmp .ge 33, 3) := by decide +kernel
theorem dL_law_504 : decode cL_law 504 = .ok (.aload_n 1, 1) := by decide +kernel
theorem dL_law_505 : decode cL_law 505 = .ok (.iload 7, 2) := by decide +kernel
theorem dL_law_507 : decode cL_law 507 = .ok (.invokevirtual 71, 3) := by decide +kernel
theorem dL_law_510 : decode cL_law 510 = .ok (.ifCond .ne 22, 3) := by decide +kernel
theorem dL_law_513 : decode cL_law 513 = .ok (.aload_n 1, 1) := by decide +kernel
theorem dL_law_514 : decode cL_law 514 = .ok (.invokevirtual 107, 3) := by decide +kernel
theorem dL_law_517 : decode cL_law 517 = .ok (.ifCond .ne 15, 3) := by decide +kernel
theorem dL_law_520 : decode cL_law 520 = .ok (.aload_n 1, 1) := by decide +kernel
theorem dL_law_521 : decode cL_law 521 = .ok (.iconst 1, 1) := by decide +kernel
theorem dL_law_522 : decode cL_law 522 = .ok (.invokevirtual 71, 3) := by decide +kernel
theorem dL_law_525 : decode cL_law 525 = .ok (.ifCond .le 7, 3) := by decide +kernel
theorem dL_law_528 : decode cL_law 528 = .ok (.iconst 1, 1) := by decide +kernel
theorem dL_law_529 : decode cL_law 529 = .ok (.goto 4, 3) := by decide +kernel
theorem dL_law_532 : decode cL_law 532 = .ok (.iconst 0, 1) := by decide +kernel
theorem dL_law_533 : decode cL_law 533 = .ok (.ireturn, 1) := by decide +kernel
theorem dL_law_534 : decode cL_law 534 = .ok (.iload 7, 2) := by decide +kernel
theorem dL_law_536 : decode cL_law 536 = .ok (.iconst (-1), 1) := by decide +kernel
theorem dL_law_537 : decode cL_law 537 = .ok (.if_icmp .lt 14, 3) := by decide +kernel
theorem dL_law_540 : decode cL_law 540 = .ok (.iload 7, 2) := by decide +kernel
theorem dL_law_542 : decode cL_law 542 = .ok (.bipush 60, 2) := by decide +kernel
theorem dL_law_544 : decode cL_law 544 = .ok (.if_icmp .gt 7, 3) := by decide +kernel
theorem dL_law_547 : decode cL_law 547 = .ok (.iconst 1, 1) := by decide +kernel
theorem dL_law_548 : decode cL_law 548 = .ok (.goto 4, 3) := by decide +kernel
theorem dL_law_551 : decode cL_law 551 = .ok (.iconst 0, 1) := by decide +kernel
theorem dL_law_552 : decode cL_law 552 = .ok (.ireturn, 1) := by decide +kernel
theorem iL_law_0  {Ls st : List Value} {h : AH} : ev L xs mdL_law 0 (Ls) (st) h = ev L xs mdL_law 3 (Ls) (.ref (hn h) :: st) (nw h 6 0 7) := e_new dL_law_0 (by decide +kernel)
theorem iL_law_3 {a : Nat} {Ls st : List Value} {h : AH} : ev L xs mdL_law 3 (Ls) (.ref a :: st) h = ev L xs mdL_law 4 (Ls) (.ref a :: .ref a :: st) (h) := e_dup dL_law_3 rfl
theorem iL_law_3i {a : Int32} {Ls st : List Value} {h : AH} : ev L xs mdL_law 3 (Ls) (.int a :: st) h = ev L xs mdL_law 4 (Ls) (.int a :: .int a :: st) (h) := e_dup dL_law_3 rfl
theorem iL_law_4 {a : Nat} {Ls st : List Value} {h : AH} (hk : hK h a = 6) (hw : wds st ≤ 8) : ev L xs mdL_law 4 Ls (.ref a :: st) h = kn L xs mdL_law 4 7 Ls st (ev L xs mdX6_init 0 [.ref a, .null] [] h) := e_callI (as := []) dL_law_4 mr_8_74 (by decide) (by decide) rfl (by simp [wds, Value.category]; decide) rfl (by decide) hk hw
theorem iL_law_7 {v0 : Value} {v1 : Value} {x : Nat} {Ls st : List Value} {h : AH} (hc9 : v0.category = 1) : ev L xs mdL_law 7 (v0 :: v1 :: Ls) (.ref x :: st) h = ev L xs mdL_law 8 (v0 :: .ref x :: Ls) (st) (h) := e_astore_n dL_law_7 rfl (by decide) (by unfold catOK; show (_ || (v0.category == 1)) = true; rw [hc9]; rfl)
theorem iL_law_8  {Ls st : List Value} {h : AH} : ev L xs mdL_law 8 (Ls) (st) h = ev L xs mdL_law 10 (Ls) (.int (nI 8) :: st) (h) := e_bipush dL_law_8 (by decide)
theorem iL_law_10 {c : Int32} {Ls st : List Value} {h : AH} (h0 : 0 ≤ c) (h1 : c ≤ 10000) : ev L xs mdL_law 10 (Ls) (.int c :: st) h = ev L xs mdL_law 12 (Ls) (.ref (hn h) :: st) (nw h 8 c.toNatClampNeg c.toNatClampNeg) := e_newI dL_law_10 h0 h1
theorem iL_law_12 {v0 : Value} {v1 : Value} {v2 : Value} {x : Nat} {Ls st : List Value} {h : AH} (hc9 : v1.category = 1) : ev L xs mdL_law 12 (v0 :: v1 :: v2 :: Ls) (.ref x :: st) h = ev L xs mdL_law 13 (v0 :: v1 :: .ref x :: Ls) (st) (h) := e_astore_n dL_law_12 rfl (by decide) (by unfold catOK; show (_ || (v1.category == 1)) = true; rw [hc9]; rfl)
theorem iL_law_13 {x : Nat} {Ls st : List Value} {h : AH} : ev L xs mdL_law 13 (.retAddr x :: Ls) (st) h = ev L xs mdL_law 14 (.retAddr x :: Ls) (.retAddr x :: st) (h) := e_sload_n dL_law_13 rfl
theorem iL_law_14  {Ls st : List Value} {h : AH} : ev L xs mdL_law 14 (Ls) (st) h = ev L xs mdL_law 15 (Ls) (.int (nI 0) :: st) (h) := e_iconst dL_law_14 (by decide)
theorem iL_law_15 {p0 : Nat} {p1 : Int32} {Ls st : List Value} {h : AH} (hw : wds st ≤ 8) : ev L xs mdL_law 15 Ls (.int p1 :: .retAddr p0 :: st) h = kn L xs mdL_law 15 18 Ls st (ev L xs mdL_cell 0 [.retAddr p0, .int p1] [] h) := e_callS (as := [.int p1, .retAddr p0]) dL_law_15 mr_8_75 (by decide) (by decide) rfl (by simp [wds, Value.category]; decide) rfl hw
theorem iL_law_18 {v0 : Value} {v1 : Value} {v2 : Value} {v3 : Value} {x : Int32} {Ls st : List Value} {h : AH} (hc9 : v2.category = 1) : ev L xs mdL_law 18 (v0 :: v1 :: v2 :: v3 :: Ls) (.int x :: st) h = ev L xs mdL_law 19 (v0 :: v1 :: v2 :: .int x :: Ls) (st) (h) := e_istore_n dL_law_18 rfl (by decide) (by unfold catOK; show (_ || (v2.category == 1)) = true; rw [hc9]; rfl)
theorem iL_law_19  {Ls st : List Value} {h : AH} : ev L xs mdL_law 19 (Ls) (st) h = ev L xs mdL_law 20 (Ls) (.int (nI 0) :: st) (h) := e_iconst dL_law_19 (by decide)
theorem iL_law_20 {v0 : Value} {v1 : Value} {v2 : Value} {v3 : Value} {v4 : Value} {x : Int32} {Ls st : List Value} {h : AH} (hc9 : v3.category = 1) : ev L xs mdL_law 20 (v0 :: v1 :: v2 :: v3 :: v4 :: Ls) (.int x :: st) h = ev L xs mdL_law 22 (v0 :: v1 :: v2 :: v3 :: .int x :: Ls) (st) (h) := e_istore dL_law_20 rfl (by decide) (by unfold catOK; show (_ || (v3.category == 1)) = true; rw [hc9]; rfl)
theorem iL_law_22 {v0 : Value} {v1 : Value} {v2 : Value} {v3 : Value} {x : Int32} {Ls st : List Value} {h : AH} : ev L xs mdL_law 22 (v0 :: v1 :: v2 :: v3 :: .int x :: Ls) (st) h = ev L xs mdL_law 24 (v0 :: v1 :: v2 :: v3 :: .int x :: Ls) (.int x :: st) (h) := e_iload dL_law_22 rfl
theorem iL_law_24  {Ls st : List Value} {h : AH} : ev L xs mdL_law 24 (Ls) (st) h = ev L xs mdL_law 26 (Ls) (.int (nI 8) :: st) (h) := e_bipush dL_law_24 (by decide)
theorem iL_law_26 {x z : Int32} {Ls st : List Value} {h : AH} : ev L xs mdL_law 26 Ls (.int z :: .int x :: st) h = if z ≤ x then ev L xs mdL_law 40 Ls st h else ev L xs mdL_law 29 Ls st h := e_ic_ge dL_law_26 (by decide)
theorem iL_law_29 {v0 : Value} {v1 : Value} {x : Nat} {Ls st : List Value} {h : AH} : ev L xs mdL_law 29 (v0 :: v1 :: .ref x :: Ls) (st) h = ev L xs mdL_law 30 (v0 :: v1 :: .ref x :: Ls) (.ref x :: st) (h) := e_aload_n dL_law_29 rfl
theorem iL_law_30 {v0 : Value} {v1 : Value} {v2 : Value} {v3 : Value} {x : Int32} {Ls st : List Value} {h : AH} : ev L xs mdL_law 30 (v0 :: v1 :: v2 :: v3 :: .int x :: Ls) (st) h = ev L xs mdL_law 32 (v0 :: v1 :: v2 :: v3 :: .int x :: Ls) (.int x :: st) (h) := e_iload dL_law_30 rfl
theorem iL_law_32  {Ls st : List Value} {h : AH} : ev L xs mdL_law 32 (Ls) (st) h = ev L xs mdL_law 33 (Ls) (.int (-1) :: st) (h) := e_iconst dL_law_32 (by decide)
theorem iL_law_33 {a : Nat} {j : Int32} {v : Int32} {Ls st : List Value} {h : AH} (hk : hK h a = 8) (hi : inA j (hN h a) = true) : ev L xs mdL_law 33 (Ls) (.int v :: .int j :: .ref a :: st) h = ev L xs mdL_law 34 (Ls) (st) (sA h a j.toNatClampNeg v) := e_iast dL_law_33 hk hi
theorem iL_law_34 {v0 : Value} {v1 : Value} {v2 : Value} {v3 : Value} {x : Int32} {Ls st : List Value} {h : AH} (hc9 : v3.category = 1) : ev L xs mdL_law 34 (v0 :: v1 :: v2 :: v3 :: .int x :: Ls) (st) h = ev L xs mdL_law 37 (v0 :: v1 :: v2 :: v3 :: .int (x + (nI 1)) :: Ls) (st) (h) := e_iinc dL_law_34 rfl rfl rfl (by decide) (by unfold catOK; show (_ || (v3.category == 1)) = true; rw [hc9]; rfl)
theorem iL_law_37  {Ls st : List Value} {h : AH} : ev L xs mdL_law 37 (Ls) (st) h = ev L xs mdL_law 22 (Ls) (st) (h) := e_goto dL_law_37 (by decide)
theorem iL_law_40  {Ls st : List Value} {h : AH} : ev L xs mdL_law 40 (Ls) (st) h = ev L xs mdL_law 41 (Ls) (.int (nI 0) :: st) (h) := e_iconst dL_law_40 (by decide)
theorem iL_law_41 {v0 : Value} {v1 : Value} {v2 : Value} {v3 : Value} {v4 : Value} {x : Int32} {Ls st : List Value} {h : AH} (hc9 : v3.category = 1) : ev L xs mdL_law 41 (v0 :: v1 :: v2 :: v3 :: v4 :: Ls) (.int x :: st) h = ev L xs mdL_law 43 (v0 :: v1 :: v2 :: v3 :: .int x :: Ls) (st) (h) := e_istore dL_law_41 rfl (by decide) (by unfold catOK; show (_ || (v3.category == 1)) = true; rw [hc9]; rfl)
theorem iL_law_43 {v0 : Value} {v1 : Value} {v2 : Value} {v3 : Value} {x : Int32} {Ls st : List Value} {h : AH} : ev L xs mdL_law 43 (v0 :: v1 :: v2 :: v3 :: .int x :: Ls) (st) h = ev L xs mdL_law 45 (v0 :: v1 :: v2 :: v3 :: .int x :: Ls) (.int x :: st) (h) := e_iload dL_law_43 rfl
theorem iL_law_45  {Ls st : List Value} {h : AH} : ev L xs mdL_law 45 (Ls) (st) h = ev L xs mdL_law 46 (Ls) (.int (nI 3) :: st) (h) := e_iconst dL_law_45 (by decide)
theorem iL_law_46 {x z : Int32} {Ls st : List Value} {h : AH} : ev L xs mdL_law 46 Ls (.int z :: .int x :: st) h = if z ≤ x then ev L xs mdL_law 90 Ls st h else ev L xs mdL_law 49 Ls st h := e_ic_ge dL_law_46 (by decide)
theorem iL_law_49 {v0 : Value} {x : Nat} {Ls st : List Value} {h : AH} : ev L xs mdL_law 49 (v0 :: .ref x :: Ls) (st) h = ev L xs mdL_law 50 (v0 :: .ref x :: Ls) (.ref x :: st) (h) := e_aload_n dL_law_49 rfl
theorem iL_law_50 {v0 : Value} {v1 : Value} {v2 : Value} {x : Int32} {Ls st : List Value} {h : AH} : ev L xs mdL_law 50 (v0 :: v1 :: v2 :: .int x :: Ls) (st) h = ev L xs mdL_law 51 (v0 :: v1 :: v2 :: .int x :: Ls) (.int x :: st) (h) := e_iload_n dL_law_50 rfl
theorem iL_law_51  {Ls st : List Value} {h : AH} : ev L xs mdL_law 51 (Ls) (st) h = ev L xs mdL_law 52 (Ls) (.int (nI 5) :: st) (h) := e_iconst dL_law_51 (by decide)
theorem iL_law_52 {v0 : Value} {v1 : Value} {v2 : Value} {v3 : Value} {x : Int32} {Ls st : List Value} {h : AH} : ev L xs mdL_law 52 (v0 :: v1 :: v2 :: v3 :: .int x :: Ls) (st) h = ev L xs mdL_law 54 (v0 :: v1 :: v2 :: v3 :: .int x :: Ls) (.int x :: st) (h) := e_iload dL_law_52 rfl
theorem iL_law_54 {x z : Int32} {Ls st : List Value} {h : AH} : ev L xs mdL_law 54 (Ls) (.int z :: .int x :: st) h = ev L xs mdL_law 55 (Ls) (.int (x * z) :: st) (h) := e_imul dL_law_54
theorem iL_law_55 {x z : Int32} {Ls st : List Value} {h : AH} : ev L xs mdL_law 55 (Ls) (.int z :: .int x :: st) h = ev L xs mdL_law 56 (Ls) (.int (x >>> (z &&& nI 31)) :: st) (h) := e_ishr dL_law_55
theorem iL_law_56  {Ls st : List Value} {h : AH} : ev L xs mdL_law 56 (Ls) (st) h = ev L xs mdL_law 58 (Ls) (.int (nI 100) :: st) (h) := e_bipush dL_law_56 (by decide)
theorem iL_law_58 {p0 : Int32} {p1 : Int32} {Ls st : List Value} {h : AH} (hw : wds st ≤ 8) : ev L xs mdL_law 58 Ls (.int p1 :: .int p0 :: st) h = kn L xs mdL_law 58 61 Ls st (ev L xs mdL_low 0 [.int p0, .int p1] [] h) := e_callS (as := [.int p1, .int p0]) dL_law_58 mr_8_47 (by decide) (by decide) rfl (by simp [wds, Value.category]; decide) rfl hw
theorem iL_law_61  {Ls st : List Value} {h : AH} : ev L xs mdL_law 61 (Ls) (st) h = ev L xs mdL_law 64 (Ls) (.int (nI 1023) :: st) (h) := e_sipush dL_law_61 (by decide)
theorem iL_law_64  {Ls st : List Value} {h : AH} : ev L xs mdL_law 64 (Ls) (st) h = ev L xs mdL_law 65 (Ls) (.int (nI 1) :: st) (h) := e_iconst dL_law_64 (by decide)
theorem iL_law_65 {v0 : Value} {v1 : Value} {v2 : Value} {x : Int32} {Ls st : List Value} {h : AH} : ev L xs mdL_law 65 (v0 :: v1 :: v2 :: .int x :: Ls) (st) h = ev L xs mdL_law 66 (v0 :: v1 :: v2 :: .int x :: Ls) (.int x :: st) (h) := e_iload_n dL_law_65 rfl
theorem iL_law_66  {Ls st : List Value} {h : AH} : ev L xs mdL_law 66 (Ls) (st) h = ev L xs mdL_law 67 (Ls) (.int (nI 3) :: st) (h) := e_iconst dL_law_66 (by decide)
theorem iL_law_67 {v0 : Value} {v1 : Value} {v2 : Value} {v3 : Value} {x : Int32} {Ls st : List Value} {h : AH} : ev L xs mdL_law 67 (v0 :: v1 :: v2 :: v3 :: .int x :: Ls) (st) h = ev L xs mdL_law 69 (v0 :: v1 :: v2 :: v3 :: .int x :: Ls) (.int x :: st) (h) := e_iload dL_law_67 rfl
theorem iL_law_69 {x z : Int32} {Ls st : List Value} {h : AH} : ev L xs mdL_law 69 (Ls) (.int z :: .int x :: st) h = ev L xs mdL_law 70 (Ls) (.int (x * z) :: st) (h) := e_imul dL_law_69
theorem iL_law_70 {x z : Int32} {Ls st : List Value} {h : AH} : ev L xs mdL_law 70 (Ls) (.int z :: .int x :: st) h = ev L xs mdL_law 71 (Ls) (.int (x >>> (z &&& nI 31)) :: st) (h) := e_ishr dL_law_70
theorem iL_law_71  {Ls st : List Value} {h : AH} : ev L xs mdL_law 71 (Ls) (st) h = ev L xs mdL_law 73 (Ls) (.int (nI 10) :: st) (h) := e_bipush dL_law_71 (by decide)
theorem iL_law_73 {p0 : Int32} {p1 : Int32} {Ls st : List Value} {h : AH} (hw : wds st ≤ 8) : ev L xs mdL_law 73 Ls (.int p1 :: .int p0 :: st) h = kn L xs mdL_law 73 76 Ls st (ev L xs mdL_low 0 [.int p0, .int p1] [] h) := e_callS (as := [.int p1, .int p0]) dL_law_73 mr_8_47 (by decide) (by decide) rfl (by simp [wds, Value.category]; decide) rfl hw
theorem iL_law_76 {x z : Int32} {Ls st : List Value} {h : AH} : ev L xs mdL_law 76 (Ls) (.int z :: .int x :: st) h = ev L xs mdL_law 77 (Ls) (.int (x <<< (z &&& nI 31)) :: st) (h) := e_ishl dL_law_76
theorem iL_law_77  {Ls st : List Value} {h : AH} : ev L xs mdL_law 77 (Ls) (st) h = ev L xs mdL_law 78 (Ls) (.int (-1) :: st) (h) := e_iconst dL_law_77 (by decide)
theorem iL_law_78 {x z : Int32} {Ls st : List Value} {h : AH} : ev L xs mdL_law 78 (Ls) (.int z :: .int x :: st) h = ev L xs mdL_law 79 (Ls) (.int (x ^^^ z) :: st) (h) := e_ixor dL_law_78
theorem iL_law_79 {x z : Int32} {Ls st : List Value} {h : AH} : ev L xs mdL_law 79 (Ls) (.int z :: .int x :: st) h = ev L xs mdL_law 80 (Ls) (.int (x &&& z) :: st) (h) := e_iand dL_law_79
theorem iL_law_80 {a : Nat} {p0 : Int32} {p1 : Int32} {Ls st : List Value} {h : AH} (hk : hK h a = 6) (hw : wds st ≤ 8) : ev L xs mdL_law 80 Ls (.int p1 :: .int p0 :: .ref a :: st) h = kn L xs mdL_law 80 83 Ls st (ev L xs mdX6_addPost 0 [.ref a, .int p0, .int p1] [] h) := e_callV (as := [.int p1, .int p0]) dL_law_80 mr_8_50 (by decide) (by decide) rfl (by simp [wds, Value.category]; decide) rfl (by decide) hk hw
theorem iL_law_83 {a : Int32} {Ls st : List Value} {h : AH} : ev L xs mdL_law 83 (Ls) (.int a :: st) h = ev L xs mdL_law 84 (Ls) (st) (h) := e_pop dL_law_83 rfl
theorem iL_law_84 {v0 : Value} {v1 : Value} {v2 : Value} {v3 : Value} {x : Int32} {Ls st : List Value} {h : AH} (hc9 : v3.category = 1) : ev L xs mdL_law 84 (v0 :: v1 :: v2 :: v3 :: .int x :: Ls) (st) h = ev L xs mdL_law 87 (v0 :: v1 :: v2 :: v3 :: .int (x + (nI 1)) :: Ls) (st) (h) := e_iinc dL_law_84 rfl rfl rfl (by decide) (by unfold catOK; show (_ || (v3.category == 1)) = true; rw [hc9]; rfl)
theorem iL_law_87  {Ls st : List Value} {h : AH} : ev L xs mdL_law 87 (Ls) (st) h = ev L xs mdL_law 43 (Ls) (st) (h) := e_goto dL_law_87 (by decide)
theorem iL_law_90 {v0 : Value} {x : Nat} {Ls st : List Value} {h : AH} : ev L xs mdL_law 90 (v0 :: .ref x :: Ls) (st) h = ev L xs mdL_law 91 (v0 :: .ref x :: Ls) (.ref x :: st) (h) := e_aload_n dL_law_90 rfl
theorem iL_law_91 {v0 : Value} {v1 : Value} {v2 : Value} {x : Int32} {Ls st : List Value} {h : AH} : ev L xs mdL_law 91 (v0 :: v1 :: v2 :: .int x :: Ls) (st) h = ev L xs mdL_law 92 (v0 :: v1 :: v2 :: .int x :: Ls) (.int x :: st) (h) := e_iload_n dL_law_91 rfl
theorem iL_law_92  {Ls st : List Value} {h : AH} : ev L xs mdL_law 92 (Ls) (st) h = ev L xs mdL_law 93 (Ls) (.int (nI 2) :: st) (h) := e_iconst dL_law_92 (by decide)
theorem iL_law_93 {x z : Int32} {Ls st : List Value} {h : AH} : ev L xs mdL_law 93 (Ls) (.int z :: .int x :: st) h = ev L xs mdL_law 94 (Ls) (.int (x >>> (z &&& nI 31)) :: st) (h) := e_ishr dL_law_93
theorem iL_law_94  {Ls st : List Value} {h : AH} : ev L xs mdL_law 94 (Ls) (st) h = ev L xs mdL_law 96 (Ls) (.int (nI 100) :: st) (h) := e_bipush dL_law_94 (by decide)
theorem iL_law_96 {p0 : Int32} {p1 : Int32} {Ls st : List Value} {h : AH} (hw : wds st ≤ 8) : ev L xs mdL_law 96 Ls (.int p1 :: .int p0 :: st) h = kn L xs mdL_law 96 99 Ls st (ev L xs mdL_low 0 [.int p0, .int p1] [] h) := e_callS (as := [.int p1, .int p0]) dL_law_96 mr_8_47 (by decide) (by decide) rfl (by simp [wds, Value.category]; decide) rfl hw
theorem iL_law_99  {Ls st : List Value} {h : AH} : ev L xs mdL_law 99 (Ls) (st) h = ev L xs mdL_law 101 (Ls) (.int (nI 40) :: st) (h) := e_bipush dL_law_99 (by decide)
theorem iL_law_101  {Ls st : List Value} {h : AH} : ev L xs mdL_law 101 (Ls) (st) h = ev L xs mdL_law 102 (Ls) (.int (nI 0) :: st) (h) := e_iconst dL_law_101 (by decide)
theorem iL_law_102 {a : Nat} {p0 : Int32} {p1 : Int32} {p2 : Int32} {Ls st : List Value} {h : AH} (hk : hK h a = 6) (hw : wds st ≤ 8) : ev L xs mdL_law 102 Ls (.int p2 :: .int p1 :: .int p0 :: .ref a :: st) h = kn L xs mdL_law 102 105 Ls st (ev L xs mdX6_addGuard 0 [.ref a, .int p0, .int p1, .int p2] [] h) := e_callV (as := [.int p2, .int p1, .int p0]) dL_law_102 mr_8_53 (by decide) (by decide) rfl (by simp [wds, Value.category]; decide) rfl (by decide) hk hw
theorem iL_law_105 {a : Int32} {Ls st : List Value} {h : AH} : ev L xs mdL_law 105 (Ls) (.int a :: st) h = ev L xs mdL_law 106 (Ls) (st) (h) := e_pop dL_law_105 rfl
theorem iL_law_106 {v0 : Value} {x : Nat} {Ls st : List Value} {h : AH} : ev L xs mdL_law 106 (v0 :: .ref x :: Ls) (st) h = ev L xs mdL_law 107 (v0 :: .ref x :: Ls) (.ref x :: st) (h) := e_aload_n dL_law_106 rfl
theorem iL_law_107 {v0 : Value} {v1 : Value} {v2 : Value} {x : Int32} {Ls st : List Value} {h : AH} : ev L xs mdL_law 107 (v0 :: v1 :: v2 :: .int x :: Ls) (st) h = ev L xs mdL_law 108 (v0 :: v1 :: v2 :: .int x :: Ls) (.int x :: st) (h) := e_iload_n dL_law_107 rfl
theorem iL_law_108  {Ls st : List Value} {h : AH} : ev L xs mdL_law 108 (Ls) (st) h = ev L xs mdL_law 110 (Ls) (.int (nI 9) :: st) (h) := e_bipush dL_law_108 (by decide)
theorem iL_law_110 {x z : Int32} {Ls st : List Value} {h : AH} : ev L xs mdL_law 110 (Ls) (.int z :: .int x :: st) h = ev L xs mdL_law 111 (Ls) (.int (x >>> (z &&& nI 31)) :: st) (h) := e_ishr dL_law_110
theorem iL_law_111  {Ls st : List Value} {h : AH} : ev L xs mdL_law 111 (Ls) (st) h = ev L xs mdL_law 113 (Ls) (.int (nI 100) :: st) (h) := e_bipush dL_law_111 (by decide)
theorem iL_law_113 {p0 : Int32} {p1 : Int32} {Ls st : List Value} {h : AH} (hw : wds st ≤ 8) : ev L xs mdL_law 113 Ls (.int p1 :: .int p0 :: st) h = kn L xs mdL_law 113 116 Ls st (ev L xs mdL_low 0 [.int p0, .int p1] [] h) := e_callS (as := [.int p1, .int p0]) dL_law_113 mr_8_47 (by decide) (by decide) rfl (by simp [wds, Value.category]; decide) rfl hw
theorem iL_law_116 {v0 : Value} {v1 : Value} {v2 : Value} {x : Int32} {Ls st : List Value} {h : AH} : ev L xs mdL_law 116 (v0 :: v1 :: v2 :: .int x :: Ls) (st) h = ev L xs mdL_law 117 (v0 :: v1 :: v2 :: .int x :: Ls) (.int x :: st) (h) := e_iload_n dL_law_116 rfl
theorem iL_law_117  {Ls st : List Value} {h : AH} : ev L xs mdL_law 117 (Ls) (st) h = ev L xs mdL_law 119 (Ls) (.int (nI 6) :: st) (h) := e_bipush dL_law_117 (by decide)
theorem iL_law_119 {x z : Int32} {Ls st : List Value} {h : AH} : ev L xs mdL_law 119 (Ls) (.int z :: .int x :: st) h = ev L xs mdL_law 120 (Ls) (.int (x >>> (z &&& nI 31)) :: st) (h) := e_ishr dL_law_119
theorem iL_law_120  {Ls st : List Value} {h : AH} : ev L xs mdL_law 120 (Ls) (st) h = ev L xs mdL_law 122 (Ls) (.int (nI 99) :: st) (h) := e_bipush dL_law_120 (by decide)
theorem iL_law_122 {p0 : Int32} {p1 : Int32} {Ls st : List Value} {h : AH} (hw : wds st ≤ 8) : ev L xs mdL_law 122 Ls (.int p1 :: .int p0 :: st) h = kn L xs mdL_law 122 125 Ls st (ev L xs mdL_low 0 [.int p0, .int p1] [] h) := e_callS (as := [.int p1, .int p0]) dL_law_122 mr_8_47 (by decide) (by decide) rfl (by simp [wds, Value.category]; decide) rfl hw
theorem iL_law_125  {Ls st : List Value} {h : AH} : ev L xs mdL_law 125 (Ls) (st) h = ev L xs mdL_law 126 (Ls) (.int (-1) :: st) (h) := e_iconst dL_law_125 (by decide)
theorem iL_law_126 {a : Nat} {p0 : Int32} {p1 : Int32} {p2 : Int32} {Ls st : List Value} {h : AH} (hk : hK h a = 6) (hw : wds st ≤ 8) : ev L xs mdL_law 126 Ls (.int p2 :: .int p1 :: .int p0 :: .ref a :: st) h = kn L xs mdL_law 126 129 Ls st (ev L xs mdX6_addGuard 0 [.ref a, .int p0, .int p1, .int p2] [] h) := e_callV (as := [.int p2, .int p1, .int p0]) dL_law_126 mr_8_53 (by decide) (by decide) rfl (by simp [wds, Value.category]; decide) rfl (by decide) hk hw
theorem iL_law_129 {a : Int32} {Ls st : List Value} {h : AH} : ev L xs mdL_law 129 (Ls) (.int a :: st) h = ev L xs mdL_law 130 (Ls) (st) (h) := e_pop dL_law_129 rfl
theorem iL_law_130  {Ls st : List Value} {h : AH} : ev L xs mdL_law 130 (Ls) (st) h = ev L xs mdL_law 131 (Ls) (.int (nI 1) :: st) (h) := e_iconst dL_law_130 (by decide)
theorem iL_law_131 {v0 : Value} {v1 : Value} {v2 : Value} {v3 : Value} {v4 : Value} {x : Int32} {Ls st : List Value} {h : AH} (hc9 : v3.category = 1) : ev L xs mdL_law 131 (v0 :: v1 :: v2 :: v3 :: v4 :: Ls) (.int x :: st) h = ev L xs mdL_law 133 (v0 :: v1 :: v2 :: v3 :: .int x :: Ls) (st) (h) := e_istore dL_law_131 rfl (by decide) (by unfold catOK; show (_ || (v3.category == 1)) = true; rw [hc9]; rfl)
theorem iL_law_133 {v0 : Value} {v1 : Value} {v2 : Value} {v3 : Value} {x : Int32} {Ls st : List Value} {h : AH} : ev L xs mdL_law 133 (v0 :: v1 :: v2 :: v3 :: .int x :: Ls) (st) h = ev L xs mdL_law 135 (v0 :: v1 :: v2 :: v3 :: .int x :: Ls) (.int x :: st) (h) := e_iload dL_law_133 rfl
theorem iL_law_135  {Ls st : List Value} {h : AH} : ev L xs mdL_law 135 (Ls) (st) h = ev L xs mdL_law 137 (Ls) (.int (nI 16) :: st) (h) := e_bipush dL_law_135 (by decide)
theorem iL_law_137 {x z : Int32} {Ls st : List Value} {h : AH} : ev L xs mdL_law 137 Ls (.int z :: .int x :: st) h = if z ≤ x then ev L xs mdL_law 330 Ls st h else ev L xs mdL_law 140 Ls st h := e_ic_ge dL_law_137 (by decide)
theorem iL_law_140 {x : Nat} {Ls st : List Value} {h : AH} : ev L xs mdL_law 140 (.retAddr x :: Ls) (st) h = ev L xs mdL_law 141 (.retAddr x :: Ls) (.retAddr x :: st) (h) := e_sload_n dL_law_140 rfl
theorem iL_law_141 {v0 : Value} {v1 : Value} {v2 : Value} {v3 : Value} {x : Int32} {Ls st : List Value} {h : AH} : ev L xs mdL_law 141 (v0 :: v1 :: v2 :: v3 :: .int x :: Ls) (st) h = ev L xs mdL_law 143 (v0 :: v1 :: v2 :: v3 :: .int x :: Ls) (.int x :: st) (h) := e_iload dL_law_141 rfl
theorem iL_law_143 {p0 : Nat} {p1 : Int32} {Ls st : List Value} {h : AH} (hw : wds st ≤ 8) : ev L xs mdL_law 143 Ls (.int p1 :: .retAddr p0 :: st) h = kn L xs mdL_law 143 146 Ls st (ev L xs mdL_cell 0 [.retAddr p0, .int p1] [] h) := e_callS (as := [.int p1, .retAddr p0]) dL_law_143 mr_8_75 (by decide) (by decide) rfl (by simp [wds, Value.category]; decide) rfl hw
theorem iL_law_146 {v0 : Value} {v1 : Value} {v2 : Value} {v3 : Value} {v4 : Value} {v5 : Value} {x : Int32} {Ls st : List Value} {h : AH} (hc9 : v4.category = 1) : ev L xs mdL_law 146 (v0 :: v1 :: v2 :: v3 :: v4 :: v5 :: Ls) (.int x :: st) h = ev L xs mdL_law 148 (v0 :: v1 :: v2 :: v3 :: v4 :: .int x :: Ls) (st) (h) := e_istore dL_law_146 rfl (by decide) (by unfold catOK; show (_ || (v4.category == 1)) = true; rw [hc9]; rfl)
theorem iL_law_148 {v0 : Value} {x : Nat} {Ls st : List Value} {h : AH} : ev L xs mdL_law 148 (v0 :: .ref x :: Ls) (st) h = ev L xs mdL_law 149 (v0 :: .ref x :: Ls) (.ref x :: st) (h) := e_aload_n dL_law_148 rfl
theorem iL_law_149 {a : Nat} {Ls st : List Value} {h : AH} (hk : hK h a = 6) (hw : wds st ≤ 8) : ev L xs mdL_law 149 Ls (.ref a :: st) h = kn L xs mdL_law 149 152 Ls st (ev L xs mdX6_digest 0 [.ref a, .null, .null, .null, .null] [] h) := e_callV (as := []) dL_law_149 mr_8_79 (by decide) (by decide) rfl (by simp [wds, Value.category]; decide) rfl (by decide) hk hw
theorem iL_law_152 {v0 : Value} {v1 : Value} {v2 : Value} {v3 : Value} {v4 : Value} {v5 : Value} {v6 : Value} {v7 : Value} {x : Int64} {Ls st : List Value} {h : AH} (hc9 : v5.category = 1) : ev L xs mdL_law 152 (v0 :: v1 :: v2 :: v3 :: v4 :: v5 :: v6 :: v7 :: Ls) (.long x :: st) h = ev L xs mdL_law 154 (v0 :: v1 :: v2 :: v3 :: v4 :: v5 :: .long x :: .null :: Ls) (st) (h) := e_lstore dL_law_152 rfl (by decide) (by unfold catOK; show (_ || (v5.category == 1)) = true; rw [hc9]; rfl)
theorem iL_law_154 {v0 : Value} {v1 : Value} {x : Nat} {Ls st : List Value} {h : AH} : ev L xs mdL_law 154 (v0 :: v1 :: .ref x :: Ls) (st) h = ev L xs mdL_law 155 (v0 :: v1 :: .ref x :: Ls) (.ref x :: st) (h) := e_aload_n dL_law_154 rfl
theorem iL_law_155 {v0 : Value} {v1 : Value} {v2 : Value} {v3 : Value} {v4 : Value} {x : Int32} {Ls st : List Value} {h : AH} : ev L xs mdL_law 155 (v0 :: v1 :: v2 :: v3 :: v4 :: .int x :: Ls) (st) h = ev L xs mdL_law 157 (v0 :: v1 :: v2 :: v3 :: v4 :: .int x :: Ls) (.int x :: st) (h) := e_iload dL_law_155 rfl
theorem iL_law_157  {Ls st : List Value} {h : AH} : ev L xs mdL_law 157 (Ls) (st) h = ev L xs mdL_law 158 (Ls) (.int (nI 4) :: st) (h) := e_iconst dL_law_157 (by decide)
theorem iL_law_158 {x z : Int32} {Ls st : List Value} {h : AH} : ev L xs mdL_law 158 (Ls) (.int z :: .int x :: st) h = ev L xs mdL_law 159 (Ls) (.int (x >>> (z &&& nI 31)) :: st) (h) := e_ishr dL_law_158
theorem iL_law_159 {v0 : Value} {x : Nat} {Ls st : List Value} {h : AH} : ev L xs mdL_law 159 (v0 :: .ref x :: Ls) (st) h = ev L xs mdL_law 160 (v0 :: .ref x :: Ls) (.ref x :: st) (h) := e_aload_n dL_law_159 rfl
theorem iL_law_160  {Ls st : List Value} {h : AH} : ev L xs mdL_law 160 (Ls) (st) h = ev L xs mdL_law 161 (Ls) (.int (nI 1) :: st) (h) := e_iconst dL_law_160 (by decide)
theorem iL_law_161 {a : Nat} {p0 : Int32} {Ls st : List Value} {h : AH} (hk : hK h a = 6) (hw : wds st ≤ 8) : ev L xs mdL_law 161 Ls (.int p0 :: .ref a :: st) h = kn L xs mdL_law 161 164 Ls st (ev L xs mdX6_value 0 [.ref a, .int p0] [] h) := e_callV (as := [.int p0]) dL_law_161 mr_8_8 (by decide) (by decide) rfl (by simp [wds, Value.category]; decide) rfl (by decide) hk hw
theorem iL_law_164 {p0 : Int32} {p1 : Int32} {Ls st : List Value} {h : AH} (hw : wds st ≤ 8) : ev L xs mdL_law 164 Ls (.int p1 :: .int p0 :: st) h = kn L xs mdL_law 164 167 Ls st (ev L xs mdL_low 0 [.int p0, .int p1] [] h) := e_callS (as := [.int p1, .int p0]) dL_law_164 mr_8_47 (by decide) (by decide) rfl (by simp [wds, Value.category]; decide) rfl hw
theorem iL_law_167 {a : Nat} {j : Int32} {Ls st : List Value} {h : AH} (hk : hK h a = 8) (hi : inA j (hN h a) = true) : ev L xs mdL_law 167 (Ls) (.int j :: .ref a :: st) h = ev L xs mdL_law 168 (Ls) (.int (hA h a j.toNatClampNeg) :: st) (h) := e_iald dL_law_167 hk hi
theorem iL_law_168 {v0 : Value} {v1 : Value} {v2 : Value} {v3 : Value} {v4 : Value} {v5 : Value} {v6 : Value} {v7 : Value} {v8 : Value} {x : Int32} {Ls st : List Value} {h : AH} (hc9 : v7.category = 1) : ev L xs mdL_law 168 (v0 :: v1 :: v2 :: v3 :: v4 :: v5 :: v6 :: v7 :: v8 :: Ls) (.int x :: st) h = ev L xs mdL_law 170 (v0 :: v1 :: v2 :: v3 :: v4 :: v5 :: v6 :: v7 :: .int x :: Ls) (st) (h) := e_istore dL_law_168 rfl (by decide) (by unfold catOK; show (_ || (v7.category == 1)) = true; rw [hc9]; rfl)
theorem iL_law_170 {v0 : Value} {v1 : Value} {v2 : Value} {v3 : Value} {v4 : Value} {x : Int32} {Ls st : List Value} {h : AH} : ev L xs mdL_law 170 (v0 :: v1 :: v2 :: v3 :: v4 :: .int x :: Ls) (st) h = ev L xs mdL_law 172 (v0 :: v1 :: v2 :: v3 :: v4 :: .int x :: Ls) (.int x :: st) (h) := e_iload dL_law_170 rfl
theorem iL_law_172  {Ls st : List Value} {h : AH} : ev L xs mdL_law 172 (Ls) (st) h = ev L xs mdL_law 173 (Ls) (.int (nI 4) :: st) (h) := e_iconst dL_law_172 (by decide)
theorem iL_law_173 {x z : Int32} {Ls st : List Value} {h : AH} : ev L xs mdL_law 173 (Ls) (.int z :: .int x :: st) h = ev L xs mdL_law 174 (Ls) (.int (x >>> (z &&& nI 31)) :: st) (h) := e_ishr dL_law_173
theorem iL_law_174 {v0 : Value} {x : Nat} {Ls st : List Value} {h : AH} : ev L xs mdL_law 174 (v0 :: .ref x :: Ls) (st) h = ev L xs mdL_law 175 (v0 :: .ref x :: Ls) (.ref x :: st) (h) := e_aload_n dL_law_174 rfl
theorem iL_law_175  {Ls st : List Value} {h : AH} : ev L xs mdL_law 175 (Ls) (st) h = ev L xs mdL_law 176 (Ls) (.int (nI 1) :: st) (h) := e_iconst dL_law_175 (by decide)
theorem iL_law_176 {a : Nat} {p0 : Int32} {Ls st : List Value} {h : AH} (hk : hK h a = 6) (hw : wds st ≤ 8) : ev L xs mdL_law 176 Ls (.int p0 :: .ref a :: st) h = kn L xs mdL_law 176 179 Ls st (ev L xs mdX6_value 0 [.ref a, .int p0] [] h) := e_callV (as := [.int p0]) dL_law_176 mr_8_8 (by decide) (by decide) rfl (by simp [wds, Value.category]; decide) rfl (by decide) hk hw
theorem iL_law_179 {p0 : Int32} {p1 : Int32} {Ls st : List Value} {h : AH} (hw : wds st ≤ 8) : ev L xs mdL_law 179 Ls (.int p1 :: .int p0 :: st) h = kn L xs mdL_law 179 182 Ls st (ev L xs mdL_low 0 [.int p0, .int p1] [] h) := e_callS (as := [.int p1, .int p0]) dL_law_179 mr_8_47 (by decide) (by decide) rfl (by simp [wds, Value.category]; decide) rfl hw
theorem iL_law_182 {v0 : Value} {v1 : Value} {v2 : Value} {v3 : Value} {v4 : Value} {v5 : Value} {v6 : Value} {v7 : Value} {v8 : Value} {v9 : Value} {x : Int32} {Ls st : List Value} {h : AH} (hc9 : v8.category = 1) : ev L xs mdL_law 182 (v0 :: v1 :: v2 :: v3 :: v4 :: v5 :: v6 :: v7 :: v8 :: v9 :: Ls) (.int x :: st) h = ev L xs mdL_law 184 (v0 :: v1 :: v2 :: v3 :: v4 :: v5 :: v6 :: v7 :: v8 :: .int x :: Ls) (st) (h) := e_istore dL_law_182 rfl (by decide) (by unfold catOK; show (_ || (v8.category == 1)) = true; rw [hc9]; rfl)
theorem iL_law_184 {v0 : Value} {x : Nat} {Ls st : List Value} {h : AH} : ev L xs mdL_law 184 (v0 :: .ref x :: Ls) (st) h = ev L xs mdL_law 185 (v0 :: .ref x :: Ls) (.ref x :: st) (h) := e_aload_n dL_law_184 rfl
theorem iL_law_185 {v0 : Value} {v1 : Value} {v2 : Value} {v3 : Value} {v4 : Value} {x : Int32} {Ls st : List Value} {h : AH} : ev L xs mdL_law 185 (v0 :: v1 :: v2 :: v3 :: v4 :: .int x :: Ls) (st) h = ev L xs mdL_law 187 (v0 :: v1 :: v2 :: v3 :: v4 :: .int x :: Ls) (.int x :: st) (h) := e_iload dL_law_185 rfl
theorem iL_law_187 {v0 : Value} {v1 : Value} {x : Nat} {Ls st : List Value} {h : AH} : ev L xs mdL_law 187 (v0 :: v1 :: .ref x :: Ls) (st) h = ev L xs mdL_law 188 (v0 :: v1 :: .ref x :: Ls) (.ref x :: st) (h) := e_aload_n dL_law_187 rfl
theorem iL_law_188 {p0 : Nat} {p1 : Int32} {p2 : Nat} {Ls st : List Value} {h : AH} (hw : wds st ≤ 8) : ev L xs mdL_law 188 Ls (.ref p2 :: .int p1 :: .ref p0 :: st) h = kn L xs mdL_law 188 191 Ls st (ev L xs mdL_act 0 [.ref p0, .int p1, .ref p2, .null, .null, .null, .null, .null, .null, .null] [] h) := e_callS (as := [.ref p2, .int p1, .ref p0]) dL_law_188 mr_8_83 (by decide) (by decide) rfl (by simp [wds, Value.category]; decide) rfl hw
theorem iL_law_191 {v0 : Value} {x : Nat} {Ls st : List Value} {h : AH} : ev L xs mdL_law 191 (v0 :: .ref x :: Ls) (st) h = ev L xs mdL_law 192 (v0 :: .ref x :: Ls) (.ref x :: st) (h) := e_aload_n dL_law_191 rfl
theorem iL_law_192 {a : Nat} {Ls st : List Value} {h : AH} (hk : hK h a = 6) (hw : wds st ≤ 8) : ev L xs mdL_law 192 Ls (.ref a :: st) h = kn L xs mdL_law 192 195 Ls st (ev L xs mdX6_digest 0 [.ref a, .null, .null, .null, .null] [] h) := e_callV (as := []) dL_law_192 mr_8_79 (by decide) (by decide) rfl (by simp [wds, Value.category]; decide) rfl (by decide) hk hw
theorem iL_law_195 {v0 : Value} {v1 : Value} {v2 : Value} {v3 : Value} {v4 : Value} {v5 : Value} {x : Int64} {Ls st : List Value} {h : AH} : ev L xs mdL_law 195 (v0 :: v1 :: v2 :: v3 :: v4 :: v5 :: .long x :: Ls) (st) h = ev L xs mdL_law 197 (v0 :: v1 :: v2 :: v3 :: v4 :: v5 :: .long x :: Ls) (.long x :: st) (h) := e_lload dL_law_195 rfl
theorem iL_law_197 {x z : Int64} {Ls st : List Value} {h : AH} : ev L xs mdL_law 197 (Ls) (.long z :: .long x :: st) h = ev L xs mdL_law 198 (Ls) (.int (lg_cmp x z) :: st) (h) := e_lcmp dL_law_197
theorem iL_law_198 {x : Int32} {Ls st : List Value} {h : AH} : ev L xs mdL_law 198 Ls (.int x :: st) h = if x = nI 0 then ev L xs mdL_law 205 Ls st h else ev L xs mdL_law 201 Ls st h := e_if_eq dL_law_198 (by decide)
theorem iL_law_201  {Ls st : List Value} {h : AH} : ev L xs mdL_law 201 (Ls) (st) h = ev L xs mdL_law 202 (Ls) (.int (nI 1) :: st) (h) := e_iconst dL_law_201 (by decide)
theorem iL_law_202  {Ls st : List Value} {h : AH} : ev L xs mdL_law 202 (Ls) (st) h = ev L xs mdL_law 206 (Ls) (st) (h) := e_goto dL_law_202 (by decide)
theorem iL_law_205  {Ls st : List Value} {h : AH} : ev L xs mdL_law 205 (Ls) (st) h = ev L xs mdL_law 206 (Ls) (.int (nI 0) :: st) (h) := e_iconst dL_law_205 (by decide)
theorem iL_law_206 {v0 : Value} {v1 : Value} {v2 : Value} {v3 : Value} {v4 : Value} {v5 : Value} {v6 : Value} {v7 : Value} {v8 : Value} {v9 : Value} {v10 : Value} {x : Int32} {Ls st : List Value} {h : AH} (hc9 : v9.category = 1) : ev L xs mdL_law 206 (v0 :: v1 :: v2 :: v3 :: v4 :: v5 :: v6 :: v7 :: v8 :: v9 :: v10 :: Ls) (.int x :: st) h = ev L xs mdL_law 208 (v0 :: v1 :: v2 :: v3 :: v4 :: v5 :: v6 :: v7 :: v8 :: v9 :: .int x :: Ls) (st) (h) := e_istore dL_law_206 rfl (by decide) (by unfold catOK; show (_ || (v9.category == 1)) = true; rw [hc9]; rfl)
theorem iL_law_208 {v0 : Value} {v1 : Value} {v2 : Value} {v3 : Value} {v4 : Value} {v5 : Value} {v6 : Value} {v7 : Value} {v8 : Value} {v9 : Value} {x : Int32} {Ls st : List Value} {h : AH} : ev L xs mdL_law 208 (v0 :: v1 :: v2 :: v3 :: v4 :: v5 :: v6 :: v7 :: v8 :: v9 :: .int x :: Ls) (st) h = ev L xs mdL_law 210 (v0 :: v1 :: v2 :: v3 :: v4 :: v5 :: v6 :: v7 :: v8 :: v9 :: .int x :: Ls) (.int x :: st) (h) := e_iload dL_law_208 rfl
theorem iL_law_210 {x : Int32} {Ls st : List Value} {h : AH} : ev L xs mdL_law 210 Ls (.int x :: st) h = if x = nI 0 then ev L xs mdL_law 315 Ls st h else ev L xs mdL_law 213 Ls st h := e_if_eq dL_law_210 (by decide)
theorem iL_law_213 {v0 : Value} {v1 : Value} {v2 : Value} {v3 : Value} {x : Int32} {Ls st : List Value} {h : AH} : ev L xs mdL_law 213 (v0 :: v1 :: v2 :: v3 :: .int x :: Ls) (st) h = ev L xs mdL_law 215 (v0 :: v1 :: v2 :: v3 :: .int x :: Ls) (.int x :: st) (h) := e_iload dL_law_213 rfl
theorem iL_law_215  {Ls st : List Value} {h : AH} : ev L xs mdL_law 215 (Ls) (st) h = ev L xs mdL_law 216 (Ls) (.int (nI 3) :: st) (h) := e_iconst dL_law_215 (by decide)
theorem iL_law_216 {x z : Int32} {Ls st : List Value} {h : AH} : ev L xs mdL_law 216 (Ls) (.int z :: .int x :: st) h = ev L xs mdL_law 217 (Ls) (.int (x &&& z) :: st) (h) := e_iand dL_law_216
theorem iL_law_217  {Ls st : List Value} {h : AH} : ev L xs mdL_law 217 (Ls) (st) h = ev L xs mdL_law 218 (Ls) (.int (nI 1) :: st) (h) := e_iconst dL_law_217 (by decide)
theorem iL_law_218 {x z : Int32} {Ls st : List Value} {h : AH} : ev L xs mdL_law 218 Ls (.int z :: .int x :: st) h = if x = z then ev L xs mdL_law 221 Ls st h else ev L xs mdL_law 315 Ls st h := e_ic_ne dL_law_218 (by decide)
theorem iL_law_221 {v0 : Value} {x : Nat} {Ls st : List Value} {h : AH} : ev L xs mdL_law 221 (v0 :: .ref x :: Ls) (st) h = ev L xs mdL_law 222 (v0 :: .ref x :: Ls) (.ref x :: st) (h) := e_aload_n dL_law_221 rfl
theorem iL_law_222  {Ls st : List Value} {h : AH} : ev L xs mdL_law 222 (Ls) (st) h = ev L xs mdL_law 223 (Ls) (.int (nI 3) :: st) (h) := e_iconst dL_law_222 (by decide)
theorem iL_law_223 {a : Nat} {p0 : Int32} {Ls st : List Value} {h : AH} (hk : hK h a = 6) (hw : wds st ≤ 8) : ev L xs mdL_law 223 Ls (.int p0 :: .ref a :: st) h = kn L xs mdL_law 223 226 Ls st (ev L xs mdX6_value 0 [.ref a, .int p0] [] h) := e_callV (as := [.int p0]) dL_law_223 mr_8_8 (by decide) (by decide) rfl (by simp [wds, Value.category]; decide) rfl (by decide) hk hw
theorem iL_law_226 {v0 : Value} {v1 : Value} {v2 : Value} {v3 : Value} {v4 : Value} {v5 : Value} {v6 : Value} {v7 : Value} {v8 : Value} {v9 : Value} {v10 : Value} {v11 : Value} {x : Int32} {Ls st : List Value} {h : AH} (hc9 : v10.category = 1) : ev L xs mdL_law 226 (v0 :: v1 :: v2 :: v3 :: v4 :: v5 :: v6 :: v7 :: v8 :: v9 :: v10 :: v11 :: Ls) (.int x :: st) h = ev L xs mdL_law 228 (v0 :: v1 :: v2 :: v3 :: v4 :: v5 :: v6 :: v7 :: v8 :: v9 :: v10 :: .int x :: Ls) (st) (h) := e_istore dL_law_226 rfl (by decide) (by unfold catOK; show (_ || (v10.category == 1)) = true; rw [hc9]; rfl)
theorem iL_law_228 {v0 : Value} {x : Nat} {Ls st : List Value} {h : AH} : ev L xs mdL_law 228 (v0 :: .ref x :: Ls) (st) h = ev L xs mdL_law 229 (v0 :: .ref x :: Ls) (.ref x :: st) (h) := e_aload_n dL_law_228 rfl
theorem iL_law_229  {Ls st : List Value} {h : AH} : ev L xs mdL_law 229 (Ls) (st) h = ev L xs mdL_law 231 (Ls) (.int (nI 7) :: st) (h) := e_bipush dL_law_229 (by decide)
theorem iL_law_231 {a : Nat} {p0 : Int32} {Ls st : List Value} {h : AH} (hk : hK h a = 6) (hw : wds st ≤ 8) : ev L xs mdL_law 231 Ls (.int p0 :: .ref a :: st) h = kn L xs mdL_law 231 234 Ls st (ev L xs mdX6_value 0 [.ref a, .int p0] [] h) := e_callV (as := [.int p0]) dL_law_231 mr_8_8 (by decide) (by decide) rfl (by simp [wds, Value.category]; decide) rfl (by decide) hk hw
theorem iL_law_234 {v0 : Value} {v1 : Value} {v2 : Value} {v3 : Value} {v4 : Value} {v5 : Value} {v6 : Value} {v7 : Value} {v8 : Value} {v9 : Value} {v10 : Value} {v11 : Value} {v12 : Value} {x : Int32} {Ls st : List Value} {h : AH} (hc9 : v11.category = 1) : ev L xs mdL_law 234 (v0 :: v1 :: v2 :: v3 :: v4 :: v5 :: v6 :: v7 :: v8 :: v9 :: v10 :: v11 :: v12 :: Ls) (.int x :: st) h = ev L xs mdL_law 236 (v0 :: v1 :: v2 :: v3 :: v4 :: v5 :: v6 :: v7 :: v8 :: v9 :: v10 :: v11 :: .int x :: Ls) (st) (h) := e_istore dL_law_234 rfl (by decide) (by unfold catOK; show (_ || (v11.category == 1)) = true; rw [hc9]; rfl)
theorem iL_law_236 {v0 : Value} {x : Nat} {Ls st : List Value} {h : AH} : ev L xs mdL_law 236 (v0 :: .ref x :: Ls) (st) h = ev L xs mdL_law 237 (v0 :: .ref x :: Ls) (.ref x :: st) (h) := e_aload_n dL_law_236 rfl
theorem iL_law_237  {Ls st : List Value} {h : AH} : ev L xs mdL_law 237 (Ls) (st) h = ev L xs mdL_law 239 (Ls) (.int (nI 10) :: st) (h) := e_bipush dL_law_237 (by decide)
theorem iL_law_239 {a : Nat} {p0 : Int32} {Ls st : List Value} {h : AH} (hk : hK h a = 6) (hw : wds st ≤ 8) : ev L xs mdL_law 239 Ls (.int p0 :: .ref a :: st) h = kn L xs mdL_law 239 242 Ls st (ev L xs mdX6_value 0 [.ref a, .int p0] [] h) := e_callV (as := [.int p0]) dL_law_239 mr_8_8 (by decide) (by decide) rfl (by simp [wds, Value.category]; decide) rfl (by decide) hk hw
theorem iL_law_242 {v0 : Value} {v1 : Value} {v2 : Value} {v3 : Value} {v4 : Value} {v5 : Value} {v6 : Value} {v7 : Value} {v8 : Value} {v9 : Value} {v10 : Value} {v11 : Value} {v12 : Value} {v13 : Value} {x : Int32} {Ls st : List Value} {h : AH} (hc9 : v12.category = 1) : ev L xs mdL_law 242 (v0 :: v1 :: v2 :: v3 :: v4 :: v5 :: v6 :: v7 :: v8 :: v9 :: v10 :: v11 :: v12 :: v13 :: Ls) (.int x :: st) h = ev L xs mdL_law 244 (v0 :: v1 :: v2 :: v3 :: v4 :: v5 :: v6 :: v7 :: v8 :: v9 :: v10 :: v11 :: v12 :: .int x :: Ls) (st) (h) := e_istore dL_law_242 rfl (by decide) (by unfold catOK; show (_ || (v12.category == 1)) = true; rw [hc9]; rfl)
theorem iL_law_244 {v0 : Value} {x : Nat} {Ls st : List Value} {h : AH} : ev L xs mdL_law 244 (v0 :: .ref x :: Ls) (st) h = ev L xs mdL_law 245 (v0 :: .ref x :: Ls) (.ref x :: st) (h) := e_aload_n dL_law_244 rfl
theorem iL_law_245  {Ls st : List Value} {h : AH} : ev L xs mdL_law 245 (Ls) (st) h = ev L xs mdL_law 247 (Ls) (.int (nI 9) :: st) (h) := e_bipush dL_law_245 (by decide)
theorem iL_law_247 {a : Nat} {p0 : Int32} {Ls st : List Value} {h : AH} (hk : hK h a = 6) (hw : wds st ≤ 8) : ev L xs mdL_law 247 Ls (.int p0 :: .ref a :: st) h = kn L xs mdL_law 247 250 Ls st (ev L xs mdX6_value 0 [.ref a, .int p0] [] h) := e_callV (as := [.int p0]) dL_law_247 mr_8_8 (by decide) (by decide) rfl (by simp [wds, Value.category]; decide) rfl (by decide) hk hw
theorem iL_law_250 {v0 : Value} {v1 : Value} {v2 : Value} {v3 : Value} {v4 : Value} {v5 : Value} {v6 : Value} {v7 : Value} {v8 : Value} {v9 : Value} {v10 : Value} {v11 : Value} {v12 : Value} {v13 : Value} {v14 : Value} {x : Int32} {Ls st : List Value} {h : AH} (hc9 : v13.category = 1) : ev L xs mdL_law 250 (v0 :: v1 :: v2 :: v3 :: v4 :: v5 :: v6 :: v7 :: v8 :: v9 :: v10 :: v11 :: v12 :: v13 :: v14 :: Ls) (.int x :: st) h = ev L xs mdL_law 252 (v0 :: v1 :: v2 :: v3 :: v4 :: v5 :: v6 :: v7 :: v8 :: v9 :: v10 :: v11 :: v12 :: v13 :: .int x :: Ls) (st) (h) := e_istore dL_law_250 rfl (by decide) (by unfold catOK; show (_ || (v13.category == 1)) = true; rw [hc9]; rfl)
theorem iL_law_252 {v0 : Value} {x : Nat} {Ls st : List Value} {h : AH} : ev L xs mdL_law 252 (v0 :: .ref x :: Ls) (st) h = ev L xs mdL_law 253 (v0 :: .ref x :: Ls) (.ref x :: st) (h) := e_aload_n dL_law_252 rfl
theorem iL_law_253 {a : Nat} {Ls st : List Value} {h : AH} (hk : hK h a = 6) (hw : wds st ≤ 8) : ev L xs mdL_law 253 Ls (.ref a :: st) h = kn L xs mdL_law 253 256 Ls st (ev L xs mdX6_undo 0 [.ref a] [] h) := e_callV (as := []) dL_law_253 mr_8_87 (by decide) (by decide) rfl (by simp [wds, Value.category]; decide) rfl (by decide) hk hw
theorem iL_law_256 {a : Int32} {Ls st : List Value} {h : AH} : ev L xs mdL_law 256 (Ls) (.int a :: st) h = ev L xs mdL_law 257 (Ls) (st) (h) := e_pop dL_law_256 rfl
theorem iL_law_257 {v0 : Value} {v1 : Value} {x : Nat} {Ls st : List Value} {h : AH} : ev L xs mdL_law 257 (v0 :: v1 :: .ref x :: Ls) (st) h = ev L xs mdL_law 258 (v0 :: v1 :: .ref x :: Ls) (.ref x :: st) (h) := e_aload_n dL_law_257 rfl
theorem iL_law_258 {v0 : Value} {v1 : Value} {v2 : Value} {v3 : Value} {v4 : Value} {v5 : Value} {v6 : Value} {v7 : Value} {v8 : Value} {x : Int32} {Ls st : List Value} {h : AH} : ev L xs mdL_law 258 (v0 :: v1 :: v2 :: v3 :: v4 :: v5 :: v6 :: v7 :: v8 :: .int x :: Ls) (st) h = ev L xs mdL_law 260 (v0 :: v1 :: v2 :: v3 :: v4 :: v5 :: v6 :: v7 :: v8 :: .int x :: Ls) (.int x :: st) (h) := e_iload dL_law_258 rfl
theorem iL_law_260 {v0 : Value} {v1 : Value} {v2 : Value} {v3 : Value} {v4 : Value} {v5 : Value} {v6 : Value} {v7 : Value} {x : Int32} {Ls st : List Value} {h : AH} : ev L xs mdL_law 260 (v0 :: v1 :: v2 :: v3 :: v4 :: v5 :: v6 :: v7 :: .int x :: Ls) (st) h = ev L xs mdL_law 262 (v0 :: v1 :: v2 :: v3 :: v4 :: v5 :: v6 :: v7 :: .int x :: Ls) (.int x :: st) (h) := e_iload dL_law_260 rfl
theorem iL_law_262 {a : Nat} {j : Int32} {v : Int32} {Ls st : List Value} {h : AH} (hk : hK h a = 8) (hi : inA j (hN h a) = true) : ev L xs mdL_law 262 (Ls) (.int v :: .int j :: .ref a :: st) h = ev L xs mdL_law 263 (Ls) (st) (sA h a j.toNatClampNeg v) := e_iast dL_law_262 hk hi
theorem iL_law_263 {v0 : Value} {x : Nat} {Ls st : List Value} {h : AH} : ev L xs mdL_law 263 (v0 :: .ref x :: Ls) (st) h = ev L xs mdL_law 264 (v0 :: .ref x :: Ls) (.ref x :: st) (h) := e_aload_n dL_law_263 rfl
theorem iL_law_264 {v0 : Value} {v1 : Value} {v2 : Value} {v3 : Value} {v4 : Value} {x : Int32} {Ls st : List Value} {h : AH} : ev L xs mdL_law 264 (v0 :: v1 :: v2 :: v3 :: v4 :: .int x :: Ls) (st) h = ev L xs mdL_law 266 (v0 :: v1 :: v2 :: v3 :: v4 :: .int x :: Ls) (.int x :: st) (h) := e_iload dL_law_264 rfl
theorem iL_law_266 {v0 : Value} {v1 : Value} {x : Nat} {Ls st : List Value} {h : AH} : ev L xs mdL_law 266 (v0 :: v1 :: .ref x :: Ls) (st) h = ev L xs mdL_law 267 (v0 :: v1 :: .ref x :: Ls) (.ref x :: st) (h) := e_aload_n dL_law_266 rfl
theorem iL_law_267 {p0 : Nat} {p1 : Int32} {p2 : Nat} {Ls st : List Value} {h : AH} (hw : wds st ≤ 8) : ev L xs mdL_law 267 Ls (.ref p2 :: .int p1 :: .ref p0 :: st) h = kn L xs mdL_law 267 270 Ls st (ev L xs mdL_act 0 [.ref p0, .int p1, .ref p2, .null, .null, .null, .null, .null, .null, .null] [] h) := e_callS (as := [.ref p2, .int p1, .ref p0]) dL_law_267 mr_8_83 (by decide) (by decide) rfl (by simp [wds, Value.category]; decide) rfl hw
theorem iL_law_270 {v0 : Value} {x : Nat} {Ls st : List Value} {h : AH} : ev L xs mdL_law 270 (v0 :: .ref x :: Ls) (st) h = ev L xs mdL_law 271 (v0 :: .ref x :: Ls) (.ref x :: st) (h) := e_aload_n dL_law_270 rfl
theorem iL_law_271  {Ls st : List Value} {h : AH} : ev L xs mdL_law 271 (Ls) (st) h = ev L xs mdL_law 272 (Ls) (.int (nI 3) :: st) (h) := e_iconst dL_law_271 (by decide)
theorem iL_law_272 {a : Nat} {p0 : Int32} {Ls st : List Value} {h : AH} (hk : hK h a = 6) (hw : wds st ≤ 8) : ev L xs mdL_law 272 Ls (.int p0 :: .ref a :: st) h = kn L xs mdL_law 272 275 Ls st (ev L xs mdX6_value 0 [.ref a, .int p0] [] h) := e_callV (as := [.int p0]) dL_law_272 mr_8_8 (by decide) (by decide) rfl (by simp [wds, Value.category]; decide) rfl (by decide) hk hw
theorem iL_law_275 {v0 : Value} {v1 : Value} {v2 : Value} {v3 : Value} {v4 : Value} {v5 : Value} {v6 : Value} {v7 : Value} {v8 : Value} {v9 : Value} {v10 : Value} {x : Int32} {Ls st : List Value} {h : AH} : ev L xs mdL_law 275 (v0 :: v1 :: v2 :: v3 :: v4 :: v5 :: v6 :: v7 :: v8 :: v9 :: v10 :: .int x :: Ls) (st) h = ev L xs mdL_law 277 (v0 :: v1 :: v2 :: v3 :: v4 :: v5 :: v6 :: v7 :: v8 :: v9 :: v10 :: .int x :: Ls) (.int x :: st) (h) := e_iload dL_law_275 rfl
theorem iL_law_277 {x z : Int32} {Ls st : List Value} {h : AH} : ev L xs mdL_law 277 Ls (.int z :: .int x :: st) h = if x = z then ev L xs mdL_law 280 Ls st h else ev L xs mdL_law 313 Ls st h := e_ic_ne dL_law_277 (by decide)
theorem iL_law_280 {v0 : Value} {x : Nat} {Ls st : List Value} {h : AH} : ev L xs mdL_law 280 (v0 :: .ref x :: Ls) (st) h = ev L xs mdL_law 281 (v0 :: .ref x :: Ls) (.ref x :: st) (h) := e_aload_n dL_law_280 rfl
theorem iL_law_281  {Ls st : List Value} {h : AH} : ev L xs mdL_law 281 (Ls) (st) h = ev L xs mdL_law 283 (Ls) (.int (nI 7) :: st) (h) := e_bipush dL_law_281 (by decide)
theorem iL_law_283 {a : Nat} {p0 : Int32} {Ls st : List Value} {h : AH} (hk : hK h a = 6) (hw : wds st ≤ 8) : ev L xs mdL_law 283 Ls (.int p0 :: .ref a :: st) h = kn L xs mdL_law 283 286 Ls st (ev L xs mdX6_value 0 [.ref a, .int p0] [] h) := e_callV (as := [.int p0]) dL_law_283 mr_8_8 (by decide) (by decide) rfl (by simp [wds, Value.category]; decide) rfl (by decide) hk hw
theorem iL_law_286 {v0 : Value} {v1 : Value} {v2 : Value} {v3 : Value} {v4 : Value} {v5 : Value} {v6 : Value} {v7 : Value} {v8 : Value} {v9 : Value} {v10 : Value} {v11 : Value} {x : Int32} {Ls st : List Value} {h : AH} : ev L xs mdL_law 286 (v0 :: v1 :: v2 :: v3 :: v4 :: v5 :: v6 :: v7 :: v8 :: v9 :: v10 :: v11 :: .int x :: Ls) (st) h = ev L xs mdL_law 288 (v0 :: v1 :: v2 :: v3 :: v4 :: v5 :: v6 :: v7 :: v8 :: v9 :: v10 :: v11 :: .int x :: Ls) (.int x :: st) (h) := e_iload dL_law_286 rfl
theorem iL_law_288 {x z : Int32} {Ls st : List Value} {h : AH} : ev L xs mdL_law 288 Ls (.int z :: .int x :: st) h = if x = z then ev L xs mdL_law 291 Ls st h else ev L xs mdL_law 313 Ls st h := e_ic_ne dL_law_288 (by decide)
theorem iL_law_291 {v0 : Value} {x : Nat} {Ls st : List Value} {h : AH} : ev L xs mdL_law 291 (v0 :: .ref x :: Ls) (st) h = ev L xs mdL_law 292 (v0 :: .ref x :: Ls) (.ref x :: st) (h) := e_aload_n dL_law_291 rfl
theorem iL_law_292  {Ls st : List Value} {h : AH} : ev L xs mdL_law 292 (Ls) (st) h = ev L xs mdL_law 294 (Ls) (.int (nI 10) :: st) (h) := e_bipush dL_law_292 (by decide)
theorem iL_law_294 {a : Nat} {p0 : Int32} {Ls st : List Value} {h : AH} (hk : hK h a = 6) (hw : wds st ≤ 8) : ev L xs mdL_law 294 Ls (.int p0 :: .ref a :: st) h = kn L xs mdL_law 294 297 Ls st (ev L xs mdX6_value 0 [.ref a, .int p0] [] h) := e_callV (as := [.int p0]) dL_law_294 mr_8_8 (by decide) (by decide) rfl (by simp [wds, Value.category]; decide) rfl (by decide) hk hw
theorem iL_law_297 {v0 : Value} {v1 : Value} {v2 : Value} {v3 : Value} {v4 : Value} {v5 : Value} {v6 : Value} {v7 : Value} {v8 : Value} {v9 : Value} {v10 : Value} {v11 : Value} {v12 : Value} {x : Int32} {Ls st : List Value} {h : AH} : ev L xs mdL_law 297 (v0 :: v1 :: v2 :: v3 :: v4 :: v5 :: v6 :: v7 :: v8 :: v9 :: v10 :: v11 :: v12 :: .int x :: Ls) (st) h = ev L xs mdL_law 299 (v0 :: v1 :: v2 :: v3 :: v4 :: v5 :: v6 :: v7 :: v8 :: v9 :: v10 :: v11 :: v12 :: .int x :: Ls) (.int x :: st) (h) := e_iload dL_law_297 rfl
theorem iL_law_299 {x z : Int32} {Ls st : List Value} {h : AH} : ev L xs mdL_law 299 Ls (.int z :: .int x :: st) h = if x = z then ev L xs mdL_law 302 Ls st h else ev L xs mdL_law 313 Ls st h := e_ic_ne dL_law_299 (by decide)
theorem iL_law_302 {v0 : Value} {x : Nat} {Ls st : List Value} {h : AH} : ev L xs mdL_law 302 (v0 :: .ref x :: Ls) (st) h = ev L xs mdL_law 303 (v0 :: .ref x :: Ls) (.ref x :: st) (h) := e_aload_n dL_law_302 rfl
theorem iL_law_303  {Ls st : List Value} {h : AH} : ev L xs mdL_law 303 (Ls) (st) h = ev L xs mdL_law 305 (Ls) (.int (nI 9) :: st) (h) := e_bipush dL_law_303 (by decide)
theorem iL_law_305 {a : Nat} {p0 : Int32} {Ls st : List Value} {h : AH} (hk : hK h a = 6) (hw : wds st ≤ 8) : ev L xs mdL_law 305 Ls (.int p0 :: .ref a :: st) h = kn L xs mdL_law 305 308 Ls st (ev L xs mdX6_value 0 [.ref a, .int p0] [] h) := e_callV (as := [.int p0]) dL_law_305 mr_8_8 (by decide) (by decide) rfl (by simp [wds, Value.category]; decide) rfl (by decide) hk hw
theorem iL_law_308 {v0 : Value} {v1 : Value} {v2 : Value} {v3 : Value} {v4 : Value} {v5 : Value} {v6 : Value} {v7 : Value} {v8 : Value} {v9 : Value} {v10 : Value} {v11 : Value} {v12 : Value} {v13 : Value} {x : Int32} {Ls st : List Value} {h : AH} : ev L xs mdL_law 308 (v0 :: v1 :: v2 :: v3 :: v4 :: v5 :: v6 :: v7 :: v8 :: v9 :: v10 :: v11 :: v12 :: v13 :: .int x :: Ls) (st) h = ev L xs mdL_law 310 (v0 :: v1 :: v2 :: v3 :: v4 :: v5 :: v6 :: v7 :: v8 :: v9 :: v10 :: v11 :: v12 :: v13 :: .int x :: Ls) (.int x :: st) (h) := e_iload dL_law_308 rfl
theorem iL_law_310 {x z : Int32} {Ls st : List Value} {h : AH} : ev L xs mdL_law 310 Ls (.int z :: .int x :: st) h = if x = z then ev L xs mdL_law 315 Ls st h else ev L xs mdL_law 313 Ls st h := e_ic_eq dL_law_310 (by decide)
theorem iL_law_313  {Ls st : List Value} {h : AH} : ev L xs mdL_law 313 (Ls) (st) h = ev L xs mdL_law 314 (Ls) (.int (nI 0) :: st) (h) := e_iconst dL_law_313 (by decide)
theorem iL_law_314 {v : Int32} {Ls : List Value} {h : AH} (hv : v = nI 0 ∨ v = nI 1) : ev L xs mdL_law 314 Ls [.int v] h = some (.inl (some (.int v), h)) := e_zret dL_law_314 rfl hv
theorem iL_law_315 {v0 : Value} {x : Nat} {Ls st : List Value} {h : AH} : ev L xs mdL_law 315 (v0 :: .ref x :: Ls) (st) h = ev L xs mdL_law 316 (v0 :: .ref x :: Ls) (.ref x :: st) (h) := e_aload_n dL_law_315 rfl
theorem iL_law_316 {p0 : Nat} {Ls st : List Value} {h : AH} (hw : wds st ≤ 8) : ev L xs mdL_law 316 Ls (.ref p0 :: st) h = kn L xs mdL_law 316 319 Ls st (ev L xs mdL_addsUp 0 [.ref p0, .null, .null, .null, .null, .null, .null, .null, .null, .null] [] h) := e_callS (as := [.ref p0]) dL_law_316 mr_8_90 (by decide) (by decide) rfl (by simp [wds, Value.category]; decide) rfl hw
theorem iL_law_319 {x : Int32} {Ls st : List Value} {h : AH} : ev L xs mdL_law 319 Ls (.int x :: st) h = if x = nI 0 then ev L xs mdL_law 322 Ls st h else ev L xs mdL_law 324 Ls st h := e_if_ne dL_law_319 (by decide)
theorem iL_law_322  {Ls st : List Value} {h : AH} : ev L xs mdL_law 322 (Ls) (st) h = ev L xs mdL_law 323 (Ls) (.int (nI 0) :: st) (h) := e_iconst dL_law_322 (by decide)
theorem iL_law_323 {v : Int32} {Ls : List Value} {h : AH} (hv : v = nI 0 ∨ v = nI 1) : ev L xs mdL_law 323 Ls [.int v] h = some (.inl (some (.int v), h)) := e_zret dL_law_323 rfl hv
theorem iL_law_324 {v0 : Value} {v1 : Value} {v2 : Value} {v3 : Value} {x : Int32} {Ls st : List Value} {h : AH} (hc9 : v3.category = 1) : ev L xs mdL_law 324 (v0 :: v1 :: v2 :: v3 :: .int x :: Ls) (st) h = ev L xs mdL_law 327 (v0 :: v1 :: v2 :: v3 :: .int (x + (nI 1)) :: Ls) (st) (h) := e_iinc dL_law_324 rfl rfl rfl (by decide) (by unfold catOK; show (_ || (v3.category == 1)) = true; rw [hc9]; rfl)
theorem iL_law_327  {Ls st : List Value} {h : AH} : ev L xs mdL_law 327 (Ls) (st) h = ev L xs mdL_law 133 (Ls) (st) (h) := e_goto dL_law_327 (by decide)
theorem iL_law_330 {v0 : Value} {x : Nat} {Ls st : List Value} {h : AH} : ev L xs mdL_law 330 (v0 :: .ref x :: Ls) (st) h = ev L xs mdL_law 331 (v0 :: .ref x :: Ls) (.ref x :: st) (h) := e_aload_n dL_law_330 rfl
theorem iL_law_331  {Ls st : List Value} {h : AH} : ev L xs mdL_law 331 (Ls) (st) h = ev L xs mdL_law 332 (Ls) (.int (nI 3) :: st) (h) := e_iconst dL_law_331 (by decide)
theorem iL_law_332 {a : Nat} {p0 : Int32} {Ls st : List Value} {h : AH} (hk : hK h a = 6) (hw : wds st ≤ 8) : ev L xs mdL_law 332 Ls (.int p0 :: .ref a :: st) h = kn L xs mdL_law 332 335 Ls st (ev L xs mdX6_value 0 [.ref a, .int p0] [] h) := e_callV (as := [.int p0]) dL_law_332 mr_8_8 (by decide) (by decide) rfl (by simp [wds, Value.category]; decide) rfl (by decide) hk hw
theorem iL_law_335 {v0 : Value} {v1 : Value} {v2 : Value} {x : Int32} {Ls st : List Value} {h : AH} : ev L xs mdL_law 335 (v0 :: v1 :: v2 :: .int x :: Ls) (st) h = ev L xs mdL_law 336 (v0 :: v1 :: v2 :: .int x :: Ls) (.int x :: st) (h) := e_iload_n dL_law_335 rfl
theorem iL_law_336  {Ls st : List Value} {h : AH} : ev L xs mdL_law 336 (Ls) (st) h = ev L xs mdL_law 337 (Ls) (.int (nI 4) :: st) (h) := e_iconst dL_law_336 (by decide)
theorem iL_law_337 {x z : Int32} {Ls st : List Value} {h : AH} : ev L xs mdL_law 337 (Ls) (.int z :: .int x :: st) h = ev L xs mdL_law 338 (Ls) (.int (x >>> (z &&& nI 31)) :: st) (h) := e_ishr dL_law_337
theorem iL_law_338  {Ls st : List Value} {h : AH} : ev L xs mdL_law 338 (Ls) (st) h = ev L xs mdL_law 340 (Ls) (.int (nI 6) :: st) (h) := e_bipush dL_law_338 (by decide)
theorem iL_law_340 {p0 : Int32} {p1 : Int32} {Ls st : List Value} {h : AH} (hw : wds st ≤ 8) : ev L xs mdL_law 340 Ls (.int p1 :: .int p0 :: st) h = kn L xs mdL_law 340 343 Ls st (ev L xs mdL_low 0 [.int p0, .int p1] [] h) := e_callS (as := [.int p1, .int p0]) dL_law_340 mr_8_47 (by decide) (by decide) rfl (by simp [wds, Value.category]; decide) rfl hw
theorem iL_law_343 {x z : Int32} {Ls st : List Value} {h : AH} : ev L xs mdL_law 343 (Ls) (.int z :: .int x :: st) h = ev L xs mdL_law 344 (Ls) (.int (x + z) :: st) (h) := e_iadd dL_law_343
theorem iL_law_344 {v0 : Value} {v1 : Value} {v2 : Value} {v3 : Value} {v4 : Value} {x : Int32} {Ls st : List Value} {h : AH} (hc9 : v3.category = 1) : ev L xs mdL_law 344 (v0 :: v1 :: v2 :: v3 :: v4 :: Ls) (.int x :: st) h = ev L xs mdL_law 346 (v0 :: v1 :: v2 :: v3 :: .int x :: Ls) (st) (h) := e_istore dL_law_344 rfl (by decide) (by unfold catOK; show (_ || (v3.category == 1)) = true; rw [hc9]; rfl)
theorem iL_law_346 {v0 : Value} {x : Nat} {Ls st : List Value} {h : AH} : ev L xs mdL_law 346 (v0 :: .ref x :: Ls) (st) h = ev L xs mdL_law 347 (v0 :: .ref x :: Ls) (.ref x :: st) (h) := e_aload_n dL_law_346 rfl
theorem iL_law_347 {a : Nat} {Ls st : List Value} {h : AH} (hk : hK h a = 6) (hw : wds st ≤ 8) : ev L xs mdL_law 347 Ls (.ref a :: st) h = kn L xs mdL_law 347 350 Ls st (ev L xs mdX6_digest 0 [.ref a, .null, .null, .null, .null] [] h) := e_callV (as := []) dL_law_347 mr_8_79 (by decide) (by decide) rfl (by simp [wds, Value.category]; decide) rfl (by decide) hk hw
theorem iL_law_350 {v0 : Value} {v1 : Value} {v2 : Value} {v3 : Value} {v4 : Value} {v5 : Value} {v6 : Value} {x : Int64} {Ls st : List Value} {h : AH} (hc9 : v4.category = 1) : ev L xs mdL_law 350 (v0 :: v1 :: v2 :: v3 :: v4 :: v5 :: v6 :: Ls) (.long x :: st) h = ev L xs mdL_law 352 (v0 :: v1 :: v2 :: v3 :: v4 :: .long x :: .null :: Ls) (st) (h) := e_lstore dL_law_350 rfl (by decide) (by unfold catOK; show (_ || (v4.category == 1)) = true; rw [hc9]; rfl)
theorem iL_law_352 {v0 : Value} {x : Nat} {Ls st : List Value} {h : AH} : ev L xs mdL_law 352 (v0 :: .ref x :: Ls) (st) h = ev L xs mdL_law 353 (v0 :: .ref x :: Ls) (.ref x :: st) (h) := e_aload_n dL_law_352 rfl
theorem iL_law_353 {v0 : Value} {v1 : Value} {v2 : Value} {v3 : Value} {x : Int32} {Ls st : List Value} {h : AH} : ev L xs mdL_law 353 (v0 :: v1 :: v2 :: v3 :: .int x :: Ls) (st) h = ev L xs mdL_law 355 (v0 :: v1 :: v2 :: v3 :: .int x :: Ls) (.int x :: st) (h) := e_iload dL_law_353 rfl
theorem iL_law_355 {v0 : Value} {v1 : Value} {v2 : Value} {x : Int32} {Ls st : List Value} {h : AH} : ev L xs mdL_law 355 (v0 :: v1 :: v2 :: .int x :: Ls) (st) h = ev L xs mdL_law 356 (v0 :: v1 :: v2 :: .int x :: Ls) (.int x :: st) (h) := e_iload_n dL_law_355 rfl
theorem iL_law_356  {Ls st : List Value} {h : AH} : ev L xs mdL_law 356 (Ls) (st) h = ev L xs mdL_law 357 (Ls) (.int (nI 3) :: st) (h) := e_iconst dL_law_356 (by decide)
theorem iL_law_357 {x z : Int32} {Ls st : List Value} {h : AH} : ev L xs mdL_law 357 (Ls) (.int z :: .int x :: st) h = ev L xs mdL_law 358 (Ls) (.int (x >>> (z &&& nI 31)) :: st) (h) := e_ishr dL_law_357
theorem iL_law_358  {Ls st : List Value} {h : AH} : ev L xs mdL_law 358 (Ls) (st) h = ev L xs mdL_law 359 (Ls) (.int (nI 1) :: st) (h) := e_iconst dL_law_358 (by decide)
theorem iL_law_359 {x z : Int32} {Ls st : List Value} {h : AH} : ev L xs mdL_law 359 (Ls) (.int z :: .int x :: st) h = ev L xs mdL_law 360 (Ls) (.int (x &&& z) :: st) (h) := e_iand dL_law_359
theorem iL_law_360 {p0 : Nat} {p1 : Int32} {p2 : Int32} {Ls st : List Value} {h : AH} (hw : wds st ≤ 8) : ev L xs mdL_law 360 Ls (.int p2 :: .int p1 :: .ref p0 :: st) h = kn L xs mdL_law 360 363 Ls st (ev L xs mdL_isLooked 0 [.ref p0, .int p1, .int p2, .null, .null, .null, .null, .null, .null] [] h) := e_callS (as := [.int p2, .int p1, .ref p0]) dL_law_360 mr_8_94 (by decide) (by decide) rfl (by simp [wds, Value.category]; decide) rfl hw
theorem iL_law_363 {x : Int32} {Ls st : List Value} {h : AH} : ev L xs mdL_law 363 Ls (.int x :: st) h = if x = nI 0 then ev L xs mdL_law 440 Ls st h else ev L xs mdL_law 366 Ls st h := e_if_eq dL_law_363 (by decide)
theorem iL_law_366 {v0 : Value} {x : Nat} {Ls st : List Value} {h : AH} : ev L xs mdL_law 366 (v0 :: .ref x :: Ls) (st) h = ev L xs mdL_law 367 (v0 :: .ref x :: Ls) (.ref x :: st) (h) := e_aload_n dL_law_366 rfl
theorem iL_law_367 {v0 : Value} {x : Nat} {Ls st : List Value} {h : AH} : ev L xs mdL_law 367 (v0 :: .ref x :: Ls) (st) h = ev L xs mdL_law 368 (v0 :: .ref x :: Ls) (.ref x :: st) (h) := e_aload_n dL_law_367 rfl
theorem iL_law_368  {Ls st : List Value} {h : AH} : ev L xs mdL_law 368 (Ls) (st) h = ev L xs mdL_law 369 (Ls) (.int (nI 3) :: st) (h) := e_iconst dL_law_368 (by decide)
theorem iL_law_369 {a : Nat} {p0 : Int32} {Ls st : List Value} {h : AH} (hk : hK h a = 6) (hw : wds st ≤ 8) : ev L xs mdL_law 369 Ls (.int p0 :: .ref a :: st) h = kn L xs mdL_law 369 372 Ls st (ev L xs mdX6_value 0 [.ref a, .int p0] [] h) := e_callV (as := [.int p0]) dL_law_369 mr_8_8 (by decide) (by decide) rfl (by simp [wds, Value.category]; decide) rfl (by decide) hk hw
theorem iL_law_372 {v0 : Value} {x : Nat} {Ls st : List Value} {h : AH} : ev L xs mdL_law 372 (v0 :: .ref x :: Ls) (st) h = ev L xs mdL_law 373 (v0 :: .ref x :: Ls) (.ref x :: st) (h) := e_aload_n dL_law_372 rfl
theorem iL_law_373  {Ls st : List Value} {h : AH} : ev L xs mdL_law 373 (Ls) (st) h = ev L xs mdL_law 374 (Ls) (.int (nI 4) :: st) (h) := e_iconst dL_law_373 (by decide)
theorem iL_law_374 {a : Nat} {p0 : Int32} {Ls st : List Value} {h : AH} (hk : hK h a = 6) (hw : wds st ≤ 8) : ev L xs mdL_law 374 Ls (.int p0 :: .ref a :: st) h = kn L xs mdL_law 374 377 Ls st (ev L xs mdX6_value 0 [.ref a, .int p0] [] h) := e_callV (as := [.int p0]) dL_law_374 mr_8_8 (by decide) (by decide) rfl (by simp [wds, Value.category]; decide) rfl (by decide) hk hw
theorem iL_law_377 {p0 : Nat} {p1 : Int32} {p2 : Int32} {Ls st : List Value} {h : AH} (hw : wds st ≤ 8) : ev L xs mdL_law 377 Ls (.int p2 :: .int p1 :: .ref p0 :: st) h = kn L xs mdL_law 377 380 Ls st (ev L xs mdL_isLooked 0 [.ref p0, .int p1, .int p2, .null, .null, .null, .null, .null, .null] [] h) := e_callS (as := [.int p2, .int p1, .ref p0]) dL_law_377 mr_8_94 (by decide) (by decide) rfl (by simp [wds, Value.category]; decide) rfl hw
theorem iL_law_380 {x : Int32} {Ls st : List Value} {h : AH} : ev L xs mdL_law 380 Ls (.int x :: st) h = if x = nI 0 then ev L xs mdL_law 440 Ls st h else ev L xs mdL_law 383 Ls st h := e_if_eq dL_law_380 (by decide)
theorem iL_law_383 {v0 : Value} {x : Nat} {Ls st : List Value} {h : AH} : ev L xs mdL_law 383 (v0 :: .ref x :: Ls) (st) h = ev L xs mdL_law 384 (v0 :: .ref x :: Ls) (.ref x :: st) (h) := e_aload_n dL_law_383 rfl
theorem iL_law_384 {v0 : Value} {v1 : Value} {v2 : Value} {x : Int32} {Ls st : List Value} {h : AH} : ev L xs mdL_law 384 (v0 :: v1 :: v2 :: .int x :: Ls) (st) h = ev L xs mdL_law 385 (v0 :: v1 :: v2 :: .int x :: Ls) (.int x :: st) (h) := e_iload_n dL_law_384 rfl
theorem iL_law_385 {v0 : Value} {x : Nat} {Ls st : List Value} {h : AH} : ev L xs mdL_law 385 (v0 :: .ref x :: Ls) (st) h = ev L xs mdL_law 386 (v0 :: .ref x :: Ls) (.ref x :: st) (h) := e_aload_n dL_law_385 rfl
theorem iL_law_386  {Ls st : List Value} {h : AH} : ev L xs mdL_law 386 (Ls) (st) h = ev L xs mdL_law 387 (Ls) (.int (nI 2) :: st) (h) := e_iconst dL_law_386 (by decide)
theorem iL_law_387 {a : Nat} {p0 : Int32} {Ls st : List Value} {h : AH} (hk : hK h a = 6) (hw : wds st ≤ 8) : ev L xs mdL_law 387 Ls (.int p0 :: .ref a :: st) h = kn L xs mdL_law 387 390 Ls st (ev L xs mdX6_value 0 [.ref a, .int p0] [] h) := e_callV (as := [.int p0]) dL_law_387 mr_8_8 (by decide) (by decide) rfl (by simp [wds, Value.category]; decide) rfl (by decide) hk hw
theorem iL_law_390 {p0 : Int32} {p1 : Int32} {Ls st : List Value} {h : AH} (hw : wds st ≤ 8) : ev L xs mdL_law 390 Ls (.int p1 :: .int p0 :: st) h = kn L xs mdL_law 390 393 Ls st (ev L xs mdL_low 0 [.int p0, .int p1] [] h) := e_callS (as := [.int p1, .int p0]) dL_law_390 mr_8_47 (by decide) (by decide) rfl (by simp [wds, Value.category]; decide) rfl hw
theorem iL_law_393 {v0 : Value} {v1 : Value} {v2 : Value} {v3 : Value} {x : Int32} {Ls st : List Value} {h : AH} : ev L xs mdL_law 393 (v0 :: v1 :: v2 :: v3 :: .int x :: Ls) (st) h = ev L xs mdL_law 395 (v0 :: v1 :: v2 :: v3 :: .int x :: Ls) (.int x :: st) (h) := e_iload dL_law_393 rfl
theorem iL_law_395 {a : Nat} {p0 : Int32} {p1 : Int32} {Ls st : List Value} {h : AH} (hk : hK h a = 6) (hw : wds st ≤ 8) : ev L xs mdL_law 395 Ls (.int p1 :: .int p0 :: .ref a :: st) h = kn L xs mdL_law 395 398 Ls st (ev L xs mdX6_missed 0 [.ref a, .int p0, .int p1] [] h) := e_callV (as := [.int p1, .int p0]) dL_law_395 mr_8_98 (by decide) (by decide) rfl (by simp [wds, Value.category]; decide) rfl (by decide) hk hw
theorem iL_law_398 {x : Int32} {Ls st : List Value} {h : AH} : ev L xs mdL_law 398 Ls (.int x :: st) h = if x = nI 0 then ev L xs mdL_law 421 Ls st h else ev L xs mdL_law 401 Ls st h := e_if_eq dL_law_398 (by decide)
theorem iL_law_401 {v0 : Value} {v1 : Value} {v2 : Value} {v3 : Value} {x : Int32} {Ls st : List Value} {h : AH} : ev L xs mdL_law 401 (v0 :: v1 :: v2 :: v3 :: .int x :: Ls) (st) h = ev L xs mdL_law 403 (v0 :: v1 :: v2 :: v3 :: .int x :: Ls) (.int x :: st) (h) := e_iload dL_law_401 rfl
theorem iL_law_403 {v0 : Value} {x : Nat} {Ls st : List Value} {h : AH} : ev L xs mdL_law 403 (v0 :: .ref x :: Ls) (st) h = ev L xs mdL_law 404 (v0 :: .ref x :: Ls) (.ref x :: st) (h) := e_aload_n dL_law_403 rfl
theorem iL_law_404 {v0 : Value} {v1 : Value} {v2 : Value} {x : Int32} {Ls st : List Value} {h : AH} : ev L xs mdL_law 404 (v0 :: v1 :: v2 :: .int x :: Ls) (st) h = ev L xs mdL_law 405 (v0 :: v1 :: v2 :: .int x :: Ls) (.int x :: st) (h) := e_iload_n dL_law_404 rfl
theorem iL_law_405 {v0 : Value} {x : Nat} {Ls st : List Value} {h : AH} : ev L xs mdL_law 405 (v0 :: .ref x :: Ls) (st) h = ev L xs mdL_law 406 (v0 :: .ref x :: Ls) (.ref x :: st) (h) := e_aload_n dL_law_405 rfl
theorem iL_law_406  {Ls st : List Value} {h : AH} : ev L xs mdL_law 406 (Ls) (st) h = ev L xs mdL_law 407 (Ls) (.int (nI 2) :: st) (h) := e_iconst dL_law_406 (by decide)
theorem iL_law_407 {a : Nat} {p0 : Int32} {Ls st : List Value} {h : AH} (hk : hK h a = 6) (hw : wds st ≤ 8) : ev L xs mdL_law 407 Ls (.int p0 :: .ref a :: st) h = kn L xs mdL_law 407 410 Ls st (ev L xs mdX6_value 0 [.ref a, .int p0] [] h) := e_callV (as := [.int p0]) dL_law_407 mr_8_8 (by decide) (by decide) rfl (by simp [wds, Value.category]; decide) rfl (by decide) hk hw
theorem iL_law_410 {p0 : Int32} {p1 : Int32} {Ls st : List Value} {h : AH} (hw : wds st ≤ 8) : ev L xs mdL_law 410 Ls (.int p1 :: .int p0 :: st) h = kn L xs mdL_law 410 413 Ls st (ev L xs mdL_low 0 [.int p0, .int p1] [] h) := e_callS (as := [.int p1, .int p0]) dL_law_410 mr_8_47 (by decide) (by decide) rfl (by simp [wds, Value.category]; decide) rfl hw
theorem iL_law_413  {Ls st : List Value} {h : AH} : ev L xs mdL_law 413 (Ls) (st) h = ev L xs mdL_law 415 (Ls) (.int (nI 7) :: st) (h) := e_bipush dL_law_413 (by decide)
theorem iL_law_415 {a : Nat} {p0 : Int32} {p1 : Int32} {Ls st : List Value} {h : AH} (hk : hK h a = 6) (hw : wds st ≤ 8) : ev L xs mdL_law 415 Ls (.int p1 :: .int p0 :: .ref a :: st) h = kn L xs mdL_law 415 418 Ls st (ev L xs mdX6_guard 0 [.ref a, .int p0, .int p1] [] h) := e_callV (as := [.int p1, .int p0]) dL_law_415 mr_8_18 (by decide) (by decide) rfl (by simp [wds, Value.category]; decide) rfl (by decide) hk hw
theorem iL_law_418 {x z : Int32} {Ls st : List Value} {h : AH} : ev L xs mdL_law 418 Ls (.int z :: .int x :: st) h = if x < z then ev L xs mdL_law 440 Ls st h else ev L xs mdL_law 421 Ls st h := e_ic_lt dL_law_418 (by decide)
theorem iL_law_421 {v0 : Value} {x : Nat} {Ls st : List Value} {h : AH} : ev L xs mdL_law 421 (v0 :: .ref x :: Ls) (st) h = ev L xs mdL_law 422 (v0 :: .ref x :: Ls) (.ref x :: st) (h) := e_aload_n dL_law_421 rfl
theorem iL_law_422 {v0 : Value} {v1 : Value} {v2 : Value} {v3 : Value} {x : Int32} {Ls st : List Value} {h : AH} : ev L xs mdL_law 422 (v0 :: v1 :: v2 :: v3 :: .int x :: Ls) (st) h = ev L xs mdL_law 424 (v0 :: v1 :: v2 :: v3 :: .int x :: Ls) (.int x :: st) (h) := e_iload dL_law_422 rfl
theorem iL_law_424 {a : Nat} {p0 : Int32} {Ls st : List Value} {h : AH} (hk : hK h a = 6) (hw : wds st ≤ 8) : ev L xs mdL_law 424 Ls (.int p0 :: .ref a :: st) h = kn L xs mdL_law 424 427 Ls st (ev L xs mdX6_bestHome 0 [.ref a, .int p0, .null, .null, .null, .null, .null] [] h) := e_callV (as := [.int p0]) dL_law_424 mr_8_101 (by decide) (by decide) rfl (by simp [wds, Value.category]; decide) rfl (by decide) hk hw
theorem iL_law_427 {x : Int32} {Ls st : List Value} {h : AH} : ev L xs mdL_law 427 Ls (.int x :: st) h = if x < nI 0 then ev L xs mdL_law 440 Ls st h else ev L xs mdL_law 430 Ls st h := e_if_lt dL_law_427 (by decide)
theorem iL_law_430 {v0 : Value} {x : Nat} {Ls st : List Value} {h : AH} : ev L xs mdL_law 430 (v0 :: .ref x :: Ls) (st) h = ev L xs mdL_law 431 (v0 :: .ref x :: Ls) (.ref x :: st) (h) := e_aload_n dL_law_430 rfl
theorem iL_law_431 {a : Nat} {Ls st : List Value} {h : AH} (hk : hK h a = 6) (hw : wds st ≤ 8) : ev L xs mdL_law 431 Ls (.ref a :: st) h = kn L xs mdL_law 431 434 Ls st (ev L xs mdX6_digest 0 [.ref a, .null, .null, .null, .null] [] h) := e_callV (as := []) dL_law_431 mr_8_79 (by decide) (by decide) rfl (by simp [wds, Value.category]; decide) rfl (by decide) hk hw
theorem iL_law_434 {v0 : Value} {v1 : Value} {v2 : Value} {v3 : Value} {v4 : Value} {x : Int64} {Ls st : List Value} {h : AH} : ev L xs mdL_law 434 (v0 :: v1 :: v2 :: v3 :: v4 :: .long x :: Ls) (st) h = ev L xs mdL_law 436 (v0 :: v1 :: v2 :: v3 :: v4 :: .long x :: Ls) (.long x :: st) (h) := e_lload dL_law_434 rfl
theorem iL_law_436 {x z : Int64} {Ls st : List Value} {h : AH} : ev L xs mdL_law 436 (Ls) (.long z :: .long x :: st) h = ev L xs mdL_law 437 (Ls) (.int (lg_cmp x z) :: st) (h) := e_lcmp dL_law_436
theorem iL_law_437 {x : Int32} {Ls st : List Value} {h : AH} : ev L xs mdL_law 437 Ls (.int x :: st) h = if x = nI 0 then ev L xs mdL_law 442 Ls st h else ev L xs mdL_law 440 Ls st h := e_if_eq dL_law_437 (by decide)
theorem iL_law_440  {Ls st : List Value} {h : AH} : ev L xs mdL_law 440 (Ls) (st) h = ev L xs mdL_law 441 (Ls) (.int (nI 0) :: st) (h) := e_iconst dL_law_440 (by decide)
theorem iL_law_441 {v : Int32} {Ls : List Value} {h : AH} (hv : v = nI 0 ∨ v = nI 1) : ev L xs mdL_law 441 Ls [.int v] h = some (.inl (some (.int v), h)) := e_zret dL_law_441 rfl hv
theorem iL_law_442 {v0 : Value} {x : Nat} {Ls st : List Value} {h : AH} : ev L xs mdL_law 442 (v0 :: .ref x :: Ls) (st) h = ev L xs mdL_law 443 (v0 :: .ref x :: Ls) (.ref x :: st) (h) := e_aload_n dL_law_442 rfl
theorem iL_law_443 {p0 : Nat} {Ls st : List Value} {h : AH} (hw : wds st ≤ 8) : ev L xs mdL_law 443 Ls (.ref p0 :: st) h = kn L xs mdL_law 443 446 Ls st (ev L xs mdL_isStepped 0 [.ref p0, .null, .null, .null, .null, .null, .null, .null, .null] [] h) := e_callS (as := [.ref p0]) dL_law_443 mr_8_104 (by decide) (by decide) rfl (by simp [wds, Value.category]; decide) rfl hw
theorem iL_law_446 {x : Int32} {Ls st : List Value} {h : AH} : ev L xs mdL_law 446 Ls (.int x :: st) h = if x = nI 0 then ev L xs mdL_law 470 Ls st h else ev L xs mdL_law 449 Ls st h := e_if_eq dL_law_446 (by decide)
theorem iL_law_449 {v0 : Value} {x : Nat} {Ls st : List Value} {h : AH} : ev L xs mdL_law 449 (v0 :: .ref x :: Ls) (st) h = ev L xs mdL_law 450 (v0 :: .ref x :: Ls) (.ref x :: st) (h) := e_aload_n dL_law_449 rfl
theorem iL_law_450 {p0 : Nat} {Ls st : List Value} {h : AH} (hw : wds st ≤ 8) : ev L xs mdL_law 450 Ls (.ref p0 :: st) h = kn L xs mdL_law 450 453 Ls st (ev L xs mdL_isStepped 0 [.ref p0, .null, .null, .null, .null, .null, .null, .null, .null] [] h) := e_callS (as := [.ref p0]) dL_law_450 mr_8_104 (by decide) (by decide) rfl (by simp [wds, Value.category]; decide) rfl hw
theorem iL_law_453 {x : Int32} {Ls st : List Value} {h : AH} : ev L xs mdL_law 453 Ls (.int x :: st) h = if x = nI 0 then ev L xs mdL_law 470 Ls st h else ev L xs mdL_law 456 Ls st h := e_if_eq dL_law_453 (by decide)
theorem iL_law_456 {v0 : Value} {x : Nat} {Ls st : List Value} {h : AH} : ev L xs mdL_law 456 (v0 :: .ref x :: Ls) (st) h = ev L xs mdL_law 457 (v0 :: .ref x :: Ls) (.ref x :: st) (h) := e_aload_n dL_law_456 rfl
theorem iL_law_457 {p0 : Nat} {Ls st : List Value} {h : AH} (hw : wds st ≤ 8) : ev L xs mdL_law 457 Ls (.ref p0 :: st) h = kn L xs mdL_law 457 460 Ls st (ev L xs mdL_isStepped 0 [.ref p0, .null, .null, .null, .null, .null, .null, .null, .null] [] h) := e_callS (as := [.ref p0]) dL_law_457 mr_8_104 (by decide) (by decide) rfl (by simp [wds, Value.category]; decide) rfl hw
theorem iL_law_460 {x : Int32} {Ls st : List Value} {h : AH} : ev L xs mdL_law 460 Ls (.int x :: st) h = if x = nI 0 then ev L xs mdL_law 470 Ls st h else ev L xs mdL_law 463 Ls st h := e_if_eq dL_law_460 (by decide)
theorem iL_law_463 {v0 : Value} {x : Nat} {Ls st : List Value} {h : AH} : ev L xs mdL_law 463 (v0 :: .ref x :: Ls) (st) h = ev L xs mdL_law 464 (v0 :: .ref x :: Ls) (.ref x :: st) (h) := e_aload_n dL_law_463 rfl
theorem iL_law_464 {p0 : Nat} {Ls st : List Value} {h : AH} (hw : wds st ≤ 8) : ev L xs mdL_law 464 Ls (.ref p0 :: st) h = kn L xs mdL_law 464 467 Ls st (ev L xs mdL_addsUp 0 [.ref p0, .null, .null, .null, .null, .null, .null, .null, .null, .null] [] h) := e_callS (as := [.ref p0]) dL_law_464 mr_8_90 (by decide) (by decide) rfl (by simp [wds, Value.category]; decide) rfl hw
theorem iL_law_467 {x : Int32} {Ls st : List Value} {h : AH} : ev L xs mdL_law 467 Ls (.int x :: st) h = if x = nI 0 then ev L xs mdL_law 470 Ls st h else ev L xs mdL_law 472 Ls st h := e_if_ne dL_law_467 (by decide)
theorem iL_law_470  {Ls st : List Value} {h : AH} : ev L xs mdL_law 470 (Ls) (st) h = ev L xs mdL_law 471 (Ls) (.int (nI 0) :: st) (h) := e_iconst dL_law_470 (by decide)
theorem iL_law_471 {v : Int32} {Ls : List Value} {h : AH} (hv : v = nI 0 ∨ v = nI 1) : ev L xs mdL_law 471 Ls [.int v] h = some (.inl (some (.int v), h)) := e_zret dL_law_471 rfl hv
theorem iL_law_472 {v0 : Value} {x : Nat} {Ls st : List Value} {h : AH} : ev L xs mdL_law 472 (v0 :: .ref x :: Ls) (st) h = ev L xs mdL_law 473 (v0 :: .ref x :: Ls) (.ref x :: st) (h) := e_aload_n dL_law_472 rfl
theorem iL_law_473 {a : Nat} {Ls st : List Value} {h : AH} (hk : hK h a = 6) (hw : wds st ≤ 8) : ev L xs mdL_law 473 Ls (.ref a :: st) h = kn L xs mdL_law 473 476 Ls st (ev L xs mdX6_daysToOpen 0 [.ref a, .null, .null, .null, .null] [] h) := e_callV (as := []) dL_law_473 mr_8_107 (by decide) (by decide) rfl (by simp [wds, Value.category]; decide) rfl (by decide) hk hw
theorem iL_law_476 {v0 : Value} {v1 : Value} {v2 : Value} {v3 : Value} {v4 : Value} {v5 : Value} {v6 : Value} {v7 : Value} {x : Int32} {Ls st : List Value} {h : AH} (hc9 : v6.category = 1) : ev L xs mdL_law 476 (v0 :: v1 :: v2 :: v3 :: v4 :: v5 :: v6 :: v7 :: Ls) (.int x :: st) h = ev L xs mdL_law 478 (v0 :: v1 :: v2 :: v3 :: v4 :: v5 :: v6 :: .int x :: Ls) (st) (h) := e_istore dL_law_476 rfl (by decide) (by unfold catOK; show (_ || (v6.category == 1)) = true; rw [hc9]; rfl)
theorem iL_law_478 {v0 : Value} {v1 : Value} {v2 : Value} {v3 : Value} {v4 : Value} {v5 : Value} {v6 : Value} {x : Int32} {Ls st : List Value} {h : AH} : ev L xs mdL_law 478 (v0 :: v1 :: v2 :: v3 :: v4 :: v5 :: v6 :: .int x :: Ls) (st) h = ev L xs mdL_law 480 (v0 :: v1 :: v2 :: v3 :: v4 :: v5 :: v6 :: .int x :: Ls) (.int x :: st) (h) := e_iload dL_law_478 rfl
theorem iL_law_480 {x : Int32} {Ls st : List Value} {h : AH} : ev L xs mdL_law 480 Ls (.int x :: st) h = if x ≤ nI 0 then ev L xs mdL_law 534 Ls st h else ev L xs mdL_law 483 Ls st h := e_if_le dL_law_480 (by decide)
theorem iL_law_483 {v0 : Value} {v1 : Value} {v2 : Value} {v3 : Value} {v4 : Value} {v5 : Value} {v6 : Value} {x : Int32} {Ls st : List Value} {h : AH} : ev L xs mdL_law 483 (v0 :: v1 :: v2 :: v3 :: v4 :: v5 :: v6 :: .int x :: Ls) (st) h = ev L xs mdL_law 485 (v0 :: v1 :: v2 :: v3 :: v4 :: v5 :: v6 :: .int x :: Ls) (.int x :: st) (h) := e_iload dL_law_483 rfl
theorem iL_law_485  {Ls st : List Value} {h : AH} : ev L xs mdL_law 485 (Ls) (st) h = ev L xs mdL_law 487 (Ls) (.int (nI 60) :: st) (h) := e_bipush dL_law_485 (by decide)
theorem iL_law_487 {x z : Int32} {Ls st : List Value} {h : AH} : ev L xs mdL_law 487 Ls (.int z :: .int x :: st) h = if z ≤ x then ev L xs mdL_law 534 Ls st h else ev L xs mdL_law 490 Ls st h := e_ic_ge dL_law_487 (by decide)
theorem iL_law_490 {v0 : Value} {x : Nat} {Ls st : List Value} {h : AH} : ev L xs mdL_law 490 (v0 :: .ref x :: Ls) (st) h = ev L xs mdL_law 491 (v0 :: .ref x :: Ls) (.ref x :: st) (h) := e_aload_n dL_law_490 rfl
theorem iL_law_491  {Ls st : List Value} {h : AH} : ev L xs mdL_law 491 (Ls) (st) h = ev L xs mdL_law 492 (Ls) (.int (nI 3) :: st) (h) := e_iconst dL_law_491 (by decide)
theorem iL_law_492 {a : Nat} {p0 : Int32} {Ls st : List Value} {h : AH} (hk : hK h a = 6) (hw : wds st ≤ 8) : ev L xs mdL_law 492 Ls (.int p0 :: .ref a :: st) h = kn L xs mdL_law 492 495 Ls st (ev L xs mdX6_value 0 [.ref a, .int p0] [] h) := e_callV (as := [.int p0]) dL_law_492 mr_8_8 (by decide) (by decide) rfl (by simp [wds, Value.category]; decide) rfl (by decide) hk hw
theorem iL_law_495 {v0 : Value} {v1 : Value} {v2 : Value} {v3 : Value} {v4 : Value} {v5 : Value} {v6 : Value} {x : Int32} {Ls st : List Value} {h : AH} : ev L xs mdL_law 495 (v0 :: v1 :: v2 :: v3 :: v4 :: v5 :: v6 :: .int x :: Ls) (st) h = ev L xs mdL_law 497 (v0 :: v1 :: v2 :: v3 :: v4 :: v5 :: v6 :: .int x :: Ls) (.int x :: st) (h) := e_iload dL_law_495 rfl
theorem iL_law_497 {x z : Int32} {Ls st : List Value} {h : AH} : ev L xs mdL_law 497 (Ls) (.int z :: .int x :: st) h = ev L xs mdL_law 498 (Ls) (.int (x + z) :: st) (h) := e_iadd dL_law_497
theorem iL_law_498  {Ls st : List Value} {h : AH} : ev L xs mdL_law 498 (Ls) (st) h = ev L xs mdL_law 501 (Ls) (.int (nI 3000) :: st) (h) := e_sipush dL_law_498 (by decide)
theorem iL_law_501 {x z : Int32} {Ls st : List Value} {h : AH} : ev L xs mdL_law 501 Ls (.int z :: .int x :: st) h = if z ≤ x then ev L xs mdL_law 534 Ls st h else ev L xs mdL_law 504 Ls st h := e_ic_ge dL_law_501 (by decide)
theorem iL_law_504 {v0 : Value} {x : Nat} {Ls st : List Value} {h : AH} : ev L xs mdL_law 504 (v0 :: .ref x :: Ls) (st) h = ev L xs mdL_law 505 (v0 :: .ref x :: Ls) (.ref x :: st) (h) := e_aload_n dL_law_504 rfl
theorem iL_law_505 {v0 : Value} {v1 : Value} {v2 : Value} {v3 : Value} {v4 : Value} {v5 : Value} {v6 : Value} {x : Int32} {Ls st : List Value} {h : AH} : ev L xs mdL_law 505 (v0 :: v1 :: v2 :: v3 :: v4 :: v5 :: v6 :: .int x :: Ls) (st) h = ev L xs mdL_law 507 (v0 :: v1 :: v2 :: v3 :: v4 :: v5 :: v6 :: .int x :: Ls) (.int x :: st) (h) := e_iload dL_law_505 rfl
theorem iL_law_507 {a : Nat} {p0 : Int32} {Ls st : List Value} {h : AH} (hk : hK h a = 6) (hw : wds st ≤ 8) : ev L xs mdL_law 507 Ls (.int p0 :: .ref a :: st) h = kn L xs mdL_law 507 510 Ls st (ev L xs mdX6_pass 0 [.ref a, .int p0] [] h) := e_callV (as := [.int p0]) dL_law_507 mr_8_71 (by decide) (by decide) rfl (by simp [wds, Value.category]; decide) rfl (by decide) hk hw
theorem iL_law_510 {x : Int32} {Ls st : List Value} {h : AH} : ev L xs mdL_law 510 Ls (.int x :: st) h = if x = nI 0 then ev L xs mdL_law 513 Ls st h else ev L xs mdL_law 532 Ls st h := e_if_ne dL_law_510 (by decide)
theorem iL_law_513 {v0 : Value} {x : Nat} {Ls st : List Value} {h : AH} : ev L xs mdL_law 513 (v0 :: .ref x :: Ls) (st) h = ev L xs mdL_law 514 (v0 :: .ref x :: Ls) (.ref x :: st) (h) := e_aload_n dL_law_513 rfl
theorem iL_law_514 {a : Nat} {Ls st : List Value} {h : AH} (hk : hK h a = 6) (hw : wds st ≤ 8) : ev L xs mdL_law 514 Ls (.ref a :: st) h = kn L xs mdL_law 514 517 Ls st (ev L xs mdX6_daysToOpen 0 [.ref a, .null, .null, .null, .null] [] h) := e_callV (as := []) dL_law_514 mr_8_107 (by decide) (by decide) rfl (by simp [wds, Value.category]; decide) rfl (by decide) hk hw
theorem iL_law_517 {x : Int32} {Ls st : List Value} {h : AH} : ev L xs mdL_law 517 Ls (.int x :: st) h = if x = nI 0 then ev L xs mdL_law 520 Ls st h else ev L xs mdL_law 532 Ls st h := e_if_ne dL_law_517 (by decide)
theorem iL_law_520 {v0 : Value} {x : Nat} {Ls st : List Value} {h : AH} : ev L xs mdL_law 520 (v0 :: .ref x :: Ls) (st) h = ev L xs mdL_law 521 (v0 :: .ref x :: Ls) (.ref x :: st) (h) := e_aload_n dL_law_520 rfl
theorem iL_law_521  {Ls st : List Value} {h : AH} : ev L xs mdL_law 521 (Ls) (st) h = ev L xs mdL_law 522 (Ls) (.int (nI 1) :: st) (h) := e_iconst dL_law_521 (by decide)
theorem iL_law_522 {a : Nat} {p0 : Int32} {Ls st : List Value} {h : AH} (hk : hK h a = 6) (hw : wds st ≤ 8) : ev L xs mdL_law 522 Ls (.int p0 :: .ref a :: st) h = kn L xs mdL_law 522 525 Ls st (ev L xs mdX6_pass 0 [.ref a, .int p0] [] h) := e_callV (as := [.int p0]) dL_law_522 mr_8_71 (by decide) (by decide) rfl (by simp [wds, Value.category]; decide) rfl (by decide) hk hw
theorem iL_law_525 {x : Int32} {Ls st : List Value} {h : AH} : ev L xs mdL_law 525 Ls (.int x :: st) h = if x ≤ nI 0 then ev L xs mdL_law 532 Ls st h else ev L xs mdL_law 528 Ls st h := e_if_le dL_law_525 (by decide)
theorem iL_law_528  {Ls st : List Value} {h : AH} : ev L xs mdL_law 528 (Ls) (st) h = ev L xs mdL_law 529 (Ls) (.int (nI 1) :: st) (h) := e_iconst dL_law_528 (by decide)
theorem iL_law_529  {Ls st : List Value} {h : AH} : ev L xs mdL_law 529 (Ls) (st) h = ev L xs mdL_law 533 (Ls) (st) (h) := e_goto dL_law_529 (by decide)
theorem iL_law_532  {Ls st : List Value} {h : AH} : ev L xs mdL_law 532 (Ls) (st) h = ev L xs mdL_law 533 (Ls) (.int (nI 0) :: st) (h) := e_iconst dL_law_532 (by decide)
theorem iL_law_533 {v : Int32} {Ls : List Value} {h : AH} (hv : v = nI 0 ∨ v = nI 1) : ev L xs mdL_law 533 Ls [.int v] h = some (.inl (some (.int v), h)) := e_zret dL_law_533 rfl hv
theorem iL_law_534 {v0 : Value} {v1 : Value} {v2 : Value} {v3 : Value} {v4 : Value} {v5 : Value} {v6 : Value} {x : Int32} {Ls st : List Value} {h : AH} : ev L xs mdL_law 534 (v0 :: v1 :: v2 :: v3 :: v4 :: v5 :: v6 :: .int x :: Ls) (st) h = ev L xs mdL_law 536 (v0 :: v1 :: v2 :: v3 :: v4 :: v5 :: v6 :: .int x :: Ls) (.int x :: st) (h) := e_iload dL_law_534 rfl
theorem iL_law_536  {Ls st : List Value} {h : AH} : ev L xs mdL_law 536 (Ls) (st) h = ev L xs mdL_law 537 (Ls) (.int (-1) :: st) (h) := e_iconst dL_law_536 (by decide)
theorem iL_law_537 {x z : Int32} {Ls st : List Value} {h : AH} : ev L xs mdL_law 537 Ls (.int z :: .int x :: st) h = if x < z then ev L xs mdL_law 551 Ls st h else ev L xs mdL_law 540 Ls st h := e_ic_lt dL_law_537 (by decide)
theorem iL_law_540 {v0 : Value} {v1 : Value} {v2 : Value} {v3 : Value} {v4 : Value} {v5 : Value} {v6 : Value} {x : Int32} {Ls st : List Value} {h : AH} : ev L xs mdL_law 540 (v0 :: v1 :: v2 :: v3 :: v4 :: v5 :: v6 :: .int x :: Ls) (st) h = ev L xs mdL_law 542 (v0 :: v1 :: v2 :: v3 :: v4 :: v5 :: v6 :: .int x :: Ls) (.int x :: st) (h) := e_iload dL_law_540 rfl
theorem iL_law_542  {Ls st : List Value} {h : AH} : ev L xs mdL_law 542 (Ls) (st) h = ev L xs mdL_law 544 (Ls) (.int (nI 60) :: st) (h) := e_bipush dL_law_542 (by decide)
theorem iL_law_544 {x z : Int32} {Ls st : List Value} {h : AH} : ev L xs mdL_law 544 Ls (.int z :: .int x :: st) h = if z < x then ev L xs mdL_law 551 Ls st h else ev L xs mdL_law 547 Ls st h := e_ic_gt dL_law_544 (by decide)
theorem iL_law_547  {Ls st : List Value} {h : AH} : ev L xs mdL_law 547 (Ls) (st) h = ev L xs mdL_law 548 (Ls) (.int (nI 1) :: st) (h) := e_iconst dL_law_547 (by decide)
theorem iL_law_548  {Ls st : List Value} {h : AH} : ev L xs mdL_law 548 (Ls) (st) h = ev L xs mdL_law 552 (Ls) (st) (h) := e_goto dL_law_548 (by decide)
theorem iL_law_551  {Ls st : List Value} {h : AH} : ev L xs mdL_law 551 (Ls) (st) h = ev L xs mdL_law 552 (Ls) (.int (nI 0) :: st) (h) := e_iconst dL_law_551 (by decide)
theorem iL_law_552 {v : Int32} {Ls : List Value} {h : AH} (hv : v = nI 0 ∨ v = nI 1) : ev L xs mdL_law 552 Ls [.int v] h = some (.inl (some (.int v), h)) := e_zret dL_law_552 rfl hv
theorem dL_low_0 : decode cL_low 0 = .ok (.iload_n 0, 1) := by decide +kernel
theorem dL_low_1 : decode cL_low 1 = .ok (.ldc 7, 2) := by decide +kernel
theorem dL_low_3 : decode cL_low 3 = .ok (.iand, 1) := by decide +kernel
theorem dL_low_4 : decode cL_low 4 = .ok (.iload_n 1, 1) := by decide +kernel
theorem dL_low_5 : decode cL_low 5 = .ok (.irem, 1) := by decide +kernel
theorem dL_low_6 : decode cL_low 6 = .ok (.ireturn, 1) := by decide +kernel
theorem iL_low_0 {x : Int32} {Ls st : List Value} {h : AH} : ev L xs mdL_low 0 (.int x :: Ls) (st) h = ev L xs mdL_low 1 (.int x :: Ls) (.int x :: st) (h) := e_iload_n dL_low_0 rfl
theorem iL_low_1  {Ls st : List Value} {h : AH} : ev L xs mdL_low 1 (Ls) (st) h = ev L xs mdL_low 3 (Ls) (.int (nI 2147483647) :: st) (h) := e_ldc dL_low_1 (by decide +kernel)
theorem iL_low_3 {x z : Int32} {Ls st : List Value} {h : AH} : ev L xs mdL_low 3 (Ls) (.int z :: .int x :: st) h = ev L xs mdL_low 4 (Ls) (.int (x &&& z) :: st) (h) := e_iand dL_low_3
theorem iL_low_4 {v0 : Value} {x : Int32} {Ls st : List Value} {h : AH} : ev L xs mdL_low 4 (v0 :: .int x :: Ls) (st) h = ev L xs mdL_low 5 (v0 :: .int x :: Ls) (.int x :: st) (h) := e_iload_n dL_low_4 rfl
theorem iL_low_5 {x z : Int32} {Ls st : List Value} {h : AH} (hz : ¬ z = 0) : ev L xs mdL_low 5 (Ls) (.int z :: .int x :: st) h = ev L xs mdL_low 6 (Ls) (.int (x - x / z * z) :: st) (h) := e_irem dL_low_5 hz
theorem iL_low_6 {v : Int32} {Ls : List Value} {h : AH} : ev L xs mdL_low 6 Ls [.int v] h = some (.inl (some (.int v), h)) := e_iret dL_low_6 rfl
theorem dL_many_0 : decode cL_many 0 = .ok (.iconst 0, 1) := by decide +kernel
theorem dL_many_1 : decode cL_many 1 = .ok (.istore_n 1, 1) := by decide +kernel
theorem dL_many_2 : decode cL_many 2 = .ok (.iconst 0, 1) := by decide +kernel
theorem dL_many_3 : decode cL_many 3 = .ok (.istore_n 2, 1) := by decide +kernel
theorem dL_many_4 : decode cL_many 4 = .ok (.iload_n 2, 1) := by decide +kernel
theorem dL_many_5 : decode cL_many 5 = .ok (.bipush 10, 2) := by decide +kernel
theorem dL_many_7 : decode cL_many 7 = .ok (.if_icmp .ge 17, 3) := by decide +kernel
theorem dL_many_10 : decode cL_many 10 = .ok (.iload_n 1, 1) := by decide +kernel
theorem dL_many_11 : decode cL_many 11 = .ok (.iload_n 0, 1) := by decide +kernel
theorem dL_many_12 : decode cL_many 12 = .ok (.iload_n 2, 1) := by decide +kernel
theorem dL_many_13 : decode cL_many 13 = .ok (.ishr, 1) := by decide +kernel
theorem dL_many_14 : decode cL_many 14 = .ok (.iconst 1, 1) := by decide +kernel
theorem dL_many_15 : decode cL_many 15 = .ok (.iand, 1) := by decide +kernel
theorem dL_many_16 : decode cL_many 16 = .ok (.iadd, 1) := by decide +kernel
theorem dL_many_17 : decode cL_many 17 = .ok (.istore_n 1, 1) := by decide +kernel
theorem dL_many_18 : decode cL_many 18 = .ok (.iinc 2 1, 3) := by decide +kernel
theorem dL_many_21 : decode cL_many 21 = .ok (.goto (-17), 3) := by decide +kernel
theorem dL_many_24 : decode cL_many 24 = .ok (.iload_n 1, 1) := by decide +kernel
theorem dL_many_25 : decode cL_many 25 = .ok (.ireturn, 1) := by decide +kernel
theorem iL_many_0  {Ls st : List Value} {h : AH} : ev L xs mdL_many 0 (Ls) (st) h = ev L xs mdL_many 1 (Ls) (.int (nI 0) :: st) (h) := e_iconst dL_many_0 (by decide)
theorem iL_many_1 {v0 : Value} {v1 : Value} {x : Int32} {Ls st : List Value} {h : AH} (hc9 : v0.category = 1) : ev L xs mdL_many 1 (v0 :: v1 :: Ls) (.int x :: st) h = ev L xs mdL_many 2 (v0 :: .int x :: Ls) (st) (h) := e_istore_n dL_many_1 rfl (by decide) (by unfold catOK; show (_ || (v0.category == 1)) = true; rw [hc9]; rfl)
theorem iL_many_2  {Ls st : List Value} {h : AH} : ev L xs mdL_many 2 (Ls) (st) h = ev L xs mdL_many 3 (Ls) (.int (nI 0) :: st) (h) := e_iconst dL_many_2 (by decide)
theorem iL_many_3 {v0 : Value} {v1 : Value} {v2 : Value} {x : Int32} {Ls st : List Value} {h : AH} (hc9 : v1.category = 1) : ev L xs mdL_many 3 (v0 :: v1 :: v2 :: Ls) (.int x :: st) h = ev L xs mdL_many 4 (v0 :: v1 :: .int x :: Ls) (st) (h) := e_istore_n dL_many_3 rfl (by decide) (by unfold catOK; show (_ || (v1.category == 1)) = true; rw [hc9]; rfl)
theorem iL_many_4 {v0 : Value} {v1 : Value} {x : Int32} {Ls st : List Value} {h : AH} : ev L xs mdL_many 4 (v0 :: v1 :: .int x :: Ls) (st) h = ev L xs mdL_many 5 (v0 :: v1 :: .int x :: Ls) (.int x :: st) (h) := e_iload_n dL_many_4 rfl
theorem iL_many_5  {Ls st : List Value} {h : AH} : ev L xs mdL_many 5 (Ls) (st) h = ev L xs mdL_many 7 (Ls) (.int (nI 10) :: st) (h) := e_bipush dL_many_5 (by decide)
theorem iL_many_7 {x z : Int32} {Ls st : List Value} {h : AH} : ev L xs mdL_many 7 Ls (.int z :: .int x :: st) h = if z ≤ x then ev L xs mdL_many 24 Ls st h else ev L xs mdL_many 10 Ls st h := e_ic_ge dL_many_7 (by decide)
theorem iL_many_10 {v0 : Value} {x : Int32} {Ls st : List Value} {h : AH} : ev L xs mdL_many 10 (v0 :: .int x :: Ls) (st) h = ev L xs mdL_many 11 (v0 :: .int x :: Ls) (.int x :: st) (h) := e_iload_n dL_many_10 rfl
theorem iL_many_11 {x : Int32} {Ls st : List Value} {h : AH} : ev L xs mdL_many 11 (.int x :: Ls) (st) h = ev L xs mdL_many 12 (.int x :: Ls) (.int x :: st) (h) := e_iload_n dL_many_11 rfl
theorem iL_many_12 {v0 : Value} {v1 : Value} {x : Int32} {Ls st : List Value} {h : AH} : ev L xs mdL_many 12 (v0 :: v1 :: .int x :: Ls) (st) h = ev L xs mdL_many 13 (v0 :: v1 :: .int x :: Ls) (.int x :: st) (h) := e_iload_n dL_many_12 rfl
theorem iL_many_13 {x z : Int32} {Ls st : List Value} {h : AH} : ev L xs mdL_many 13 (Ls) (.int z :: .int x :: st) h = ev L xs mdL_many 14 (Ls) (.int (x >>> (z &&& nI 31)) :: st) (h) := e_ishr dL_many_13
theorem iL_many_14  {Ls st : List Value} {h : AH} : ev L xs mdL_many 14 (Ls) (st) h = ev L xs mdL_many 15 (Ls) (.int (nI 1) :: st) (h) := e_iconst dL_many_14 (by decide)
theorem iL_many_15 {x z : Int32} {Ls st : List Value} {h : AH} : ev L xs mdL_many 15 (Ls) (.int z :: .int x :: st) h = ev L xs mdL_many 16 (Ls) (.int (x &&& z) :: st) (h) := e_iand dL_many_15
theorem iL_many_16 {x z : Int32} {Ls st : List Value} {h : AH} : ev L xs mdL_many 16 (Ls) (.int z :: .int x :: st) h = ev L xs mdL_many 17 (Ls) (.int (x + z) :: st) (h) := e_iadd dL_many_16
theorem iL_many_17 {v0 : Value} {v1 : Value} {x : Int32} {Ls st : List Value} {h : AH} (hc9 : v0.category = 1) : ev L xs mdL_many 17 (v0 :: v1 :: Ls) (.int x :: st) h = ev L xs mdL_many 18 (v0 :: .int x :: Ls) (st) (h) := e_istore_n dL_many_17 rfl (by decide) (by unfold catOK; show (_ || (v0.category == 1)) = true; rw [hc9]; rfl)
theorem iL_many_18 {v0 : Value} {v1 : Value} {x : Int32} {Ls st : List Value} {h : AH} (hc9 : v1.category = 1) : ev L xs mdL_many 18 (v0 :: v1 :: .int x :: Ls) (st) h = ev L xs mdL_many 21 (v0 :: v1 :: .int (x + (nI 1)) :: Ls) (st) (h) := e_iinc dL_many_18 rfl rfl rfl (by decide) (by unfold catOK; show (_ || (v1.category == 1)) = true; rw [hc9]; rfl)
theorem iL_many_21  {Ls st : List Value} {h : AH} : ev L xs mdL_many 21 (Ls) (st) h = ev L xs mdL_many 4 (Ls) (st) (h) := e_goto dL_many_21 (by decide)
theorem iL_many_24 {v0 : Value} {x : Int32} {Ls st : List Value} {h : AH} : ev L xs mdL_many 24 (v0 :: .int x :: Ls) (st) h = ev L xs mdL_many 25 (v0 :: .int x :: Ls) (.int x :: st) (h) := e_iload_n dL_many_24 rfl
theorem iL_many_25 {v : Int32} {Ls : List Value} {h : AH} : ev L xs mdL_many 25 Ls [.int v] h = some (.inl (some (.int v), h)) := e_iret dL_many_25 rfl
end
