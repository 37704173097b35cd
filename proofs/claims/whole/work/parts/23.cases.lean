abbrev b_L_law : ByteArray := code
theorem lg_same {x y : Int64} (h : x = y) : lg_cmp x y = 0 := by subst h; simp [lg_cmp]
theorem i32_tot (x : Int32) : x < 0 ∨ nI 0 ≤ x := by
  rcases Int32.lt_or_le x 0 with h | h
  · exact Or.inl h
  · exact Or.inr (by rw [nI_0]; exact h)
theorem i32_nn (x : Int32) : x < 0 ∨ ∃ v, v < 2 ^ 31 ∧ x = nI v := by
  rcases Int32.lt_or_le x 0 with h | h
  · exact Or.inl h
  · refine Or.inr ⟨x.toNatClampNeg, ?_, ?_⟩
    · have := Int32.toInt_lt x
      have h0 := Int32.le_iff_toInt_le.mp h
      show x.toInt.toNat < 2 ^ 31
      omega
    · apply Int32.toInt_inj.mp
      have h0 := Int32.le_iff_toInt_le.mp h
      have h1 := Int32.toInt_lt x
      have h2 : (0 : Int32).toInt = 0 := by decide
      rw [h2] at h0
      rw [show (nI x.toNatClampNeg).toInt = (x.toNatClampNeg : Int) from nI_toInt (by show x.toInt.toNat < 2 ^ 31; omega)]
      show x.toInt = ((x.toInt.toNat : Nat) : Int)
      omega
theorem i32_40 (x : Int32) : (x < 0 ∨ nI 40 ≤ x) ∨ ∃ k, k < 40 ∧ x = nI k := by
  rcases i32_nn x with h | ⟨v, hv, rfl⟩
  · exact Or.inl (Or.inl h)
  · by_cases h : v < 40
    · exact Or.inr ⟨v, h, rfl⟩
    · exact Or.inl (Or.inr ((nI_leI (by decide) hv).mpr (by omega)))
theorem d_L_law_116 : decode b_L_law 116 = .ok (.aload_n 1, 1) := by decide +kernel
theorem d_L_law_117 : decode b_L_law 117 = .ok (.aload_n 3, 1) := by decide +kernel
theorem d_L_law_118 : decode b_L_law 118 = .ok (.invokestatic 61, 3) := by decide +kernel
theorem d_L_law_121 : decode b_L_law 121 = .ok (.istore 5, 2) := by decide +kernel
theorem d_L_law_123 : decode b_L_law 123 = .ok (.aload_n 2, 1) := by decide +kernel
theorem d_L_law_124 : decode b_L_law 124 = .ok (.invokevirtual 64, 3) := by decide +kernel
theorem d_L_law_127 : decode b_L_law 127 = .ok (.istore 6, 2) := by decide +kernel
theorem d_L_law_129 : decode b_L_law 129 = .ok (.aload_n 2, 1) := by decide +kernel
theorem d_L_law_130 : decode b_L_law 130 = .ok (.invokevirtual 65, 3) := by decide +kernel
theorem d_L_law_133 : decode b_L_law 133 = .ok (.iload 5, 2) := by decide +kernel
theorem d_L_law_135 : decode b_L_law 135 = .ok (.if_icmp .eq 5, 3) := by decide +kernel
theorem d_L_law_140 : decode b_L_law 140 = .ok (.iload 5, 2) := by decide +kernel
theorem d_L_law_142 : decode b_L_law 142 = .ok (.ifCond .ne 15, 3) := by decide +kernel
theorem d_L_law_145 : decode b_L_law 145 = .ok (.aload_n 3, 1) := by decide +kernel
theorem d_L_law_146 : decode b_L_law 146 = .ok (.iconst 0, 1) := by decide +kernel
theorem d_L_law_147 : decode b_L_law 147 = .ok (.laload, 1) := by decide +kernel
theorem d_L_law_148 : decode b_L_law 148 = .ok (.iload 6, 2) := by decide +kernel
theorem d_L_law_150 : decode b_L_law 150 = .ok (.i2l, 1) := by decide +kernel
theorem d_L_law_151 : decode b_L_law 151 = .ok (.lcmp, 1) := by decide +kernel
theorem d_L_law_152 : decode b_L_law 152 = .ok (.ifCond .eq 5, 3) := by decide +kernel
theorem d_L_law_157 : decode b_L_law 157 = .ok (.goto 665, 3) := by decide +kernel
theorem d_L_law_160 : decode b_L_law 160 = .ok (.aload_n 1, 1) := by decide +kernel
theorem d_L_law_161 : decode b_L_law 161 = .ok (.aload_n 0, 1) := by decide +kernel
theorem d_L_law_162 : decode b_L_law 162 = .ok (.iload 4, 2) := by decide +kernel
theorem d_L_law_164 : decode b_L_law 164 = .ok (.iconst 1, 1) := by decide +kernel
theorem d_L_law_165 : decode b_L_law 165 = .ok (.iadd, 1) := by decide +kernel
theorem d_L_law_166 : decode b_L_law 166 = .ok (.iaload, 1) := by decide +kernel
theorem d_L_law_167 : decode b_L_law 167 = .ok (.aload_n 0, 1) := by decide +kernel
theorem d_L_law_168 : decode b_L_law 168 = .ok (.iload 4, 2) := by decide +kernel
theorem d_L_law_170 : decode b_L_law 170 = .ok (.iconst 2, 1) := by decide +kernel
theorem d_L_law_171 : decode b_L_law 171 = .ok (.iadd, 1) := by decide +kernel
theorem d_L_law_172 : decode b_L_law 172 = .ok (.iaload, 1) := by decide +kernel
theorem d_L_law_173 : decode b_L_law 173 = .ok (.i2l, 1) := by decide +kernel
theorem d_L_law_174 : decode b_L_law 174 = .ok (.bipush 32, 2) := by decide +kernel
theorem d_L_law_176 : decode b_L_law 176 = .ok (.lshl, 1) := by decide +kernel
theorem d_L_law_177 : decode b_L_law 177 = .ok (.aload_n 0, 1) := by decide +kernel
theorem d_L_law_178 : decode b_L_law 178 = .ok (.iload 4, 2) := by decide +kernel
theorem d_L_law_180 : decode b_L_law 180 = .ok (.iconst 3, 1) := by decide +kernel
theorem d_L_law_181 : decode b_L_law 181 = .ok (.iadd, 1) := by decide +kernel
theorem d_L_law_182 : decode b_L_law 182 = .ok (.iaload, 1) := by decide +kernel
theorem d_L_law_183 : decode b_L_law 183 = .ok (.i2l, 1) := by decide +kernel
theorem d_L_law_184 : decode b_L_law 184 = .ok (.ldc2_w 68, 3) := by decide +kernel
theorem d_L_law_187 : decode b_L_law 187 = .ok (.land, 1) := by decide +kernel
theorem d_L_law_188 : decode b_L_law 188 = .ok (.lor, 1) := by decide +kernel
theorem d_L_law_189 : decode b_L_law 189 = .ok (.aload_n 0, 1) := by decide +kernel
theorem d_L_law_190 : decode b_L_law 190 = .ok (.iload 4, 2) := by decide +kernel
theorem d_L_law_192 : decode b_L_law 192 = .ok (.iconst 4, 1) := by decide +kernel
theorem d_L_law_193 : decode b_L_law 193 = .ok (.iadd, 1) := by decide +kernel
theorem d_L_law_194 : decode b_L_law 194 = .ok (.iaload, 1) := by decide +kernel
theorem d_L_law_195 : decode b_L_law 195 = .ok (.i2l, 1) := by decide +kernel
theorem d_L_law_196 : decode b_L_law 196 = .ok (.bipush 32, 2) := by decide +kernel
theorem d_L_law_198 : decode b_L_law 198 = .ok (.lshl, 1) := by decide +kernel
theorem d_L_law_199 : decode b_L_law 199 = .ok (.aload_n 0, 1) := by decide +kernel
theorem d_L_law_200 : decode b_L_law 200 = .ok (.iload 4, 2) := by decide +kernel
theorem d_L_law_202 : decode b_L_law 202 = .ok (.iconst 5, 1) := by decide +kernel
theorem d_L_law_203 : decode b_L_law 203 = .ok (.iadd, 1) := by decide +kernel
theorem d_L_law_204 : decode b_L_law 204 = .ok (.iaload, 1) := by decide +kernel
theorem d_L_law_205 : decode b_L_law 205 = .ok (.i2l, 1) := by decide +kernel
theorem d_L_law_206 : decode b_L_law 206 = .ok (.ldc2_w 68, 3) := by decide +kernel
theorem d_L_law_209 : decode b_L_law 209 = .ok (.land, 1) := by decide +kernel
theorem d_L_law_210 : decode b_L_law 210 = .ok (.lor, 1) := by decide +kernel
theorem d_L_law_211 : decode b_L_law 211 = .ok (.aload_n 0, 1) := by decide +kernel
theorem d_L_law_212 : decode b_L_law 212 = .ok (.iload 4, 2) := by decide +kernel
theorem d_L_law_214 : decode b_L_law 214 = .ok (.bipush 6, 2) := by decide +kernel
theorem d_L_law_216 : decode b_L_law 216 = .ok (.iadd, 1) := by decide +kernel
theorem d_L_law_217 : decode b_L_law 217 = .ok (.iaload, 1) := by decide +kernel
theorem d_L_law_218 : decode b_L_law 218 = .ok (.aload_n 3, 1) := by decide +kernel
theorem d_L_law_219 : decode b_L_law 219 = .ok (.invokestatic 70, 3) := by decide +kernel
theorem d_L_law_222 : decode b_L_law 222 = .ok (.istore 5, 2) := by decide +kernel
theorem d_L_law_224 : decode b_L_law 224 = .ok (.aload_n 2, 1) := by decide +kernel
theorem d_L_law_225 : decode b_L_law 225 = .ok (.aload_n 0, 1) := by decide +kernel
theorem d_L_law_226 : decode b_L_law 226 = .ok (.iload 4, 2) := by decide +kernel
theorem d_L_law_228 : decode b_L_law 228 = .ok (.iconst 1, 1) := by decide +kernel
theorem d_L_law_229 : decode b_L_law 229 = .ok (.iadd, 1) := by decide +kernel
theorem d_L_law_230 : decode b_L_law 230 = .ok (.iaload, 1) := by decide +kernel
theorem d_L_law_231 : decode b_L_law 231 = .ok (.aload_n 0, 1) := by decide +kernel
theorem d_L_law_232 : decode b_L_law 232 = .ok (.iload 4, 2) := by decide +kernel
theorem d_L_law_234 : decode b_L_law 234 = .ok (.iconst 2, 1) := by decide +kernel
theorem d_L_law_235 : decode b_L_law 235 = .ok (.iadd, 1) := by decide +kernel
theorem d_L_law_236 : decode b_L_law 236 = .ok (.iaload, 1) := by decide +kernel
theorem d_L_law_237 : decode b_L_law 237 = .ok (.i2l, 1) := by decide +kernel
theorem d_L_law_238 : decode b_L_law 238 = .ok (.bipush 32, 2) := by decide +kernel
theorem d_L_law_240 : decode b_L_law 240 = .ok (.lshl, 1) := by decide +kernel
theorem d_L_law_241 : decode b_L_law 241 = .ok (.aload_n 0, 1) := by decide +kernel
theorem d_L_law_242 : decode b_L_law 242 = .ok (.iload 4, 2) := by decide +kernel
theorem d_L_law_244 : decode b_L_law 244 = .ok (.iconst 3, 1) := by decide +kernel
theorem d_L_law_245 : decode b_L_law 245 = .ok (.iadd, 1) := by decide +kernel
theorem d_L_law_246 : decode b_L_law 246 = .ok (.iaload, 1) := by decide +kernel
theorem d_L_law_247 : decode b_L_law 247 = .ok (.i2l, 1) := by decide +kernel
theorem d_L_law_248 : decode b_L_law 248 = .ok (.ldc2_w 68, 3) := by decide +kernel
theorem d_L_law_251 : decode b_L_law 251 = .ok (.land, 1) := by decide +kernel
theorem d_L_law_252 : decode b_L_law 252 = .ok (.lor, 1) := by decide +kernel
theorem d_L_law_253 : decode b_L_law 253 = .ok (.aload_n 0, 1) := by decide +kernel
theorem d_L_law_254 : decode b_L_law 254 = .ok (.iload 4, 2) := by decide +kernel
theorem d_L_law_256 : decode b_L_law 256 = .ok (.iconst 4, 1) := by decide +kernel
theorem d_L_law_257 : decode b_L_law 257 = .ok (.iadd, 1) := by decide +kernel
theorem d_L_law_258 : decode b_L_law 258 = .ok (.iaload, 1) := by decide +kernel
theorem d_L_law_259 : decode b_L_law 259 = .ok (.i2l, 1) := by decide +kernel
theorem d_L_law_260 : decode b_L_law 260 = .ok (.bipush 32, 2) := by decide +kernel
theorem d_L_law_262 : decode b_L_law 262 = .ok (.lshl, 1) := by decide +kernel
theorem d_L_law_263 : decode b_L_law 263 = .ok (.aload_n 0, 1) := by decide +kernel
theorem d_L_law_264 : decode b_L_law 264 = .ok (.iload 4, 2) := by decide +kernel
theorem d_L_law_266 : decode b_L_law 266 = .ok (.iconst 5, 1) := by decide +kernel
theorem d_L_law_267 : decode b_L_law 267 = .ok (.iadd, 1) := by decide +kernel
theorem d_L_law_268 : decode b_L_law 268 = .ok (.iaload, 1) := by decide +kernel
theorem d_L_law_269 : decode b_L_law 269 = .ok (.i2l, 1) := by decide +kernel
theorem d_L_law_270 : decode b_L_law 270 = .ok (.ldc2_w 68, 3) := by decide +kernel
theorem d_L_law_273 : decode b_L_law 273 = .ok (.land, 1) := by decide +kernel
theorem d_L_law_274 : decode b_L_law 274 = .ok (.lor, 1) := by decide +kernel
theorem d_L_law_275 : decode b_L_law 275 = .ok (.aload_n 0, 1) := by decide +kernel
theorem d_L_law_276 : decode b_L_law 276 = .ok (.iload 4, 2) := by decide +kernel
theorem d_L_law_278 : decode b_L_law 278 = .ok (.bipush 6, 2) := by decide +kernel
theorem d_L_law_280 : decode b_L_law 280 = .ok (.iadd, 1) := by decide +kernel
theorem d_L_law_281 : decode b_L_law 281 = .ok (.iaload, 1) := by decide +kernel
theorem d_L_law_282 : decode b_L_law 282 = .ok (.invokevirtual 73, 3) := by decide +kernel
theorem d_L_law_285 : decode b_L_law 285 = .ok (.istore 6, 2) := by decide +kernel
theorem d_L_law_287 : decode b_L_law 287 = .ok (.aload_n 2, 1) := by decide +kernel
theorem d_L_law_288 : decode b_L_law 288 = .ok (.invokevirtual 65, 3) := by decide +kernel
theorem d_L_law_291 : decode b_L_law 291 = .ok (.iload 5, 2) := by decide +kernel
theorem d_L_law_293 : decode b_L_law 293 = .ok (.if_icmp .eq 5, 3) := by decide +kernel
theorem d_L_law_298 : decode b_L_law 298 = .ok (.iload 5, 2) := by decide +kernel
theorem d_L_law_300 : decode b_L_law 300 = .ok (.ifCond .ne 22, 3) := by decide +kernel
theorem d_L_law_303 : decode b_L_law 303 = .ok (.aload_n 3, 1) := by decide +kernel
theorem d_L_law_304 : decode b_L_law 304 = .ok (.iconst 0, 1) := by decide +kernel
theorem d_L_law_305 : decode b_L_law 305 = .ok (.laload, 1) := by decide +kernel
theorem d_L_law_306 : decode b_L_law 306 = .ok (.iload 6, 2) := by decide +kernel
theorem d_L_law_308 : decode b_L_law 308 = .ok (.ifCond .eq 7, 3) := by decide +kernel
theorem d_L_law_311 : decode b_L_law 311 = .ok (.lconst 1, 1) := by decide +kernel
theorem d_L_law_312 : decode b_L_law 312 = .ok (.goto 4, 3) := by decide +kernel
theorem d_L_law_315 : decode b_L_law 315 = .ok (.lconst 0, 1) := by decide +kernel
theorem d_L_law_316 : decode b_L_law 316 = .ok (.lcmp, 1) := by decide +kernel
theorem d_L_law_317 : decode b_L_law 317 = .ok (.ifCond .eq 5, 3) := by decide +kernel
theorem d_L_law_322 : decode b_L_law 322 = .ok (.goto 500, 3) := by decide +kernel
theorem d_L_law_325 : decode b_L_law 325 = .ok (.aload_n 1, 1) := by decide +kernel
theorem d_L_law_326 : decode b_L_law 326 = .ok (.aload_n 0, 1) := by decide +kernel
theorem d_L_law_327 : decode b_L_law 327 = .ok (.iload 4, 2) := by decide +kernel
theorem d_L_law_329 : decode b_L_law 329 = .ok (.iconst 1, 1) := by decide +kernel
theorem d_L_law_330 : decode b_L_law 330 = .ok (.iadd, 1) := by decide +kernel
theorem d_L_law_331 : decode b_L_law 331 = .ok (.iaload, 1) := by decide +kernel
theorem d_L_law_332 : decode b_L_law 332 = .ok (.aload_n 3, 1) := by decide +kernel
theorem d_L_law_333 : decode b_L_law 333 = .ok (.invokestatic 74, 3) := by decide +kernel
theorem d_L_law_336 : decode b_L_law 336 = .ok (.istore 5, 2) := by decide +kernel
theorem d_L_law_338 : decode b_L_law 338 = .ok (.aload_n 2, 1) := by decide +kernel
theorem d_L_law_339 : decode b_L_law 339 = .ok (.aload_n 0, 1) := by decide +kernel
theorem d_L_law_340 : decode b_L_law 340 = .ok (.iload 4, 2) := by decide +kernel
theorem d_L_law_342 : decode b_L_law 342 = .ok (.iconst 1, 1) := by decide +kernel
theorem d_L_law_343 : decode b_L_law 343 = .ok (.iadd, 1) := by decide +kernel
theorem d_L_law_344 : decode b_L_law 344 = .ok (.iaload, 1) := by decide +kernel
theorem d_L_law_345 : decode b_L_law 345 = .ok (.invokevirtual 77, 3) := by decide +kernel
theorem d_L_law_348 : decode b_L_law 348 = .ok (.istore 6, 2) := by decide +kernel
theorem d_L_law_350 : decode b_L_law 350 = .ok (.aload_n 2, 1) := by decide +kernel
theorem d_L_law_351 : decode b_L_law 351 = .ok (.invokevirtual 65, 3) := by decide +kernel
theorem d_L_law_354 : decode b_L_law 354 = .ok (.iload 5, 2) := by decide +kernel
theorem d_L_law_356 : decode b_L_law 356 = .ok (.if_icmp .eq 5, 3) := by decide +kernel
theorem d_L_law_361 : decode b_L_law 361 = .ok (.iload 5, 2) := by decide +kernel
theorem d_L_law_363 : decode b_L_law 363 = .ok (.ifCond .ne 22, 3) := by decide +kernel
theorem d_L_law_366 : decode b_L_law 366 = .ok (.aload_n 3, 1) := by decide +kernel
theorem d_L_law_367 : decode b_L_law 367 = .ok (.iconst 0, 1) := by decide +kernel
theorem d_L_law_368 : decode b_L_law 368 = .ok (.laload, 1) := by decide +kernel
theorem d_L_law_369 : decode b_L_law 369 = .ok (.iload 6, 2) := by decide +kernel
theorem d_L_law_371 : decode b_L_law 371 = .ok (.ifCond .eq 7, 3) := by decide +kernel
theorem d_L_law_374 : decode b_L_law 374 = .ok (.lconst 1, 1) := by decide +kernel
theorem d_L_law_375 : decode b_L_law 375 = .ok (.goto 4, 3) := by decide +kernel
theorem d_L_law_379 : decode b_L_law 379 = .ok (.lcmp, 1) := by decide +kernel
theorem d_L_law_380 : decode b_L_law 380 = .ok (.ifCond .eq 5, 3) := by decide +kernel
theorem d_L_law_385 : decode b_L_law 385 = .ok (.goto 437, 3) := by decide +kernel
theorem d_L_law_388 : decode b_L_law 388 = .ok (.aload_n 1, 1) := by decide +kernel
theorem d_L_law_389 : decode b_L_law 389 = .ok (.invokevirtual 78, 3) := by decide +kernel
theorem d_L_law_392 : decode b_L_law 392 = .ok (.aload_n 2, 1) := by decide +kernel
theorem d_L_law_393 : decode b_L_law 393 = .ok (.invokevirtual 81, 3) := by decide +kernel
theorem d_L_law_396 : decode b_L_law 396 = .ok (.if_icmp .eq 426, 3) := by decide +kernel
theorem d_L_law_401 : decode b_L_law 401 = .ok (.aload_n 1, 1) := by decide +kernel
theorem d_L_law_402 : decode b_L_law 402 = .ok (.aload_n 3, 1) := by decide +kernel
theorem d_L_law_403 : decode b_L_law 403 = .ok (.invokestatic 82, 3) := by decide +kernel
theorem d_L_law_406 : decode b_L_law 406 = .ok (.istore 5, 2) := by decide +kernel
theorem d_L_law_408 : decode b_L_law 408 = .ok (.aload_n 2, 1) := by decide +kernel
theorem d_L_law_409 : decode b_L_law 409 = .ok (.invokevirtual 84, 3) := by decide +kernel
theorem d_L_law_412 : decode b_L_law 412 = .ok (.istore 6, 2) := by decide +kernel
theorem d_L_law_414 : decode b_L_law 414 = .ok (.aload_n 2, 1) := by decide +kernel
theorem d_L_law_415 : decode b_L_law 415 = .ok (.invokevirtual 65, 3) := by decide +kernel
theorem d_L_law_418 : decode b_L_law 418 = .ok (.iload 5, 2) := by decide +kernel
theorem d_L_law_420 : decode b_L_law 420 = .ok (.if_icmp .eq 5, 3) := by decide +kernel
theorem d_L_law_425 : decode b_L_law 425 = .ok (.iload 5, 2) := by decide +kernel
theorem d_L_law_427 : decode b_L_law 427 = .ok (.ifCond .ne 15, 3) := by decide +kernel
theorem d_L_law_442 : decode b_L_law 442 = .ok (.goto 380, 3) := by decide +kernel
theorem d_L_law_445 : decode b_L_law 445 = .ok (.aload_n 1, 1) := by decide +kernel
theorem d_L_law_446 : decode b_L_law 446 = .ok (.aload_n 0, 1) := by decide +kernel
theorem d_L_law_447 : decode b_L_law 447 = .ok (.iload 4, 2) := by decide +kernel
theorem d_L_law_449 : decode b_L_law 449 = .ok (.iconst 1, 1) := by decide +kernel
theorem d_L_law_450 : decode b_L_law 450 = .ok (.iadd, 1) := by decide +kernel
theorem d_L_law_451 : decode b_L_law 451 = .ok (.iaload, 1) := by decide +kernel
theorem d_L_law_452 : decode b_L_law 452 = .ok (.aload_n 3, 1) := by decide +kernel
theorem d_L_law_453 : decode b_L_law 453 = .ok (.invokestatic 85, 3) := by decide +kernel
theorem d_L_law_456 : decode b_L_law 456 = .ok (.istore 5, 2) := by decide +kernel
theorem d_L_law_458 : decode b_L_law 458 = .ok (.aload_n 2, 1) := by decide +kernel
theorem d_L_law_459 : decode b_L_law 459 = .ok (.aload_n 0, 1) := by decide +kernel
theorem d_L_law_460 : decode b_L_law 460 = .ok (.iload 4, 2) := by decide +kernel
theorem d_L_law_462 : decode b_L_law 462 = .ok (.iconst 1, 1) := by decide +kernel
theorem d_L_law_463 : decode b_L_law 463 = .ok (.iadd, 1) := by decide +kernel
theorem d_L_law_464 : decode b_L_law 464 = .ok (.iaload, 1) := by decide +kernel
theorem d_L_law_465 : decode b_L_law 465 = .ok (.invokevirtual 87, 3) := by decide +kernel
theorem d_L_law_468 : decode b_L_law 468 = .ok (.istore 6, 2) := by decide +kernel
theorem d_L_law_470 : decode b_L_law 470 = .ok (.aload_n 2, 1) := by decide +kernel
theorem d_L_law_471 : decode b_L_law 471 = .ok (.invokevirtual 65, 3) := by decide +kernel
theorem d_L_law_474 : decode b_L_law 474 = .ok (.iload 5, 2) := by decide +kernel
theorem d_L_law_476 : decode b_L_law 476 = .ok (.if_icmp .eq 5, 3) := by decide +kernel
theorem d_L_law_481 : decode b_L_law 481 = .ok (.iload 5, 2) := by decide +kernel
theorem d_L_law_483 : decode b_L_law 483 = .ok (.ifCond .ne 15, 3) := by decide +kernel
theorem d_L_law_498 : decode b_L_law 498 = .ok (.goto 324, 3) := by decide +kernel
theorem d_L_law_501 : decode b_L_law 501 = .ok (.aload_n 1, 1) := by decide +kernel
theorem d_L_law_502 : decode b_L_law 502 = .ok (.aload_n 0, 1) := by decide +kernel
theorem d_L_law_503 : decode b_L_law 503 = .ok (.iload 4, 2) := by decide +kernel
theorem d_L_law_505 : decode b_L_law 505 = .ok (.iconst 1, 1) := by decide +kernel
theorem d_L_law_506 : decode b_L_law 506 = .ok (.iadd, 1) := by decide +kernel
theorem d_L_law_507 : decode b_L_law 507 = .ok (.iaload, 1) := by decide +kernel
theorem d_L_law_508 : decode b_L_law 508 = .ok (.aload_n 0, 1) := by decide +kernel
theorem d_L_law_509 : decode b_L_law 509 = .ok (.iload 4, 2) := by decide +kernel
theorem d_L_law_511 : decode b_L_law 511 = .ok (.iconst 2, 1) := by decide +kernel
theorem d_L_law_512 : decode b_L_law 512 = .ok (.iadd, 1) := by decide +kernel
theorem d_L_law_513 : decode b_L_law 513 = .ok (.iaload, 1) := by decide +kernel
theorem d_L_law_514 : decode b_L_law 514 = .ok (.aload_n 3, 1) := by decide +kernel
theorem d_L_law_515 : decode b_L_law 515 = .ok (.invokestatic 88, 3) := by decide +kernel
theorem d_L_law_518 : decode b_L_law 518 = .ok (.istore 5, 2) := by decide +kernel
theorem d_L_law_520 : decode b_L_law 520 = .ok (.aload_n 2, 1) := by decide +kernel
theorem d_L_law_521 : decode b_L_law 521 = .ok (.aload_n 0, 1) := by decide +kernel
theorem d_L_law_522 : decode b_L_law 522 = .ok (.iload 4, 2) := by decide +kernel
theorem d_L_law_524 : decode b_L_law 524 = .ok (.iconst 1, 1) := by decide +kernel
theorem d_L_law_525 : decode b_L_law 525 = .ok (.iadd, 1) := by decide +kernel
theorem d_L_law_526 : decode b_L_law 526 = .ok (.iaload, 1) := by decide +kernel
theorem d_L_law_527 : decode b_L_law 527 = .ok (.aload_n 0, 1) := by decide +kernel
theorem d_L_law_528 : decode b_L_law 528 = .ok (.iload 4, 2) := by decide +kernel
theorem d_L_law_530 : decode b_L_law 530 = .ok (.iconst 2, 1) := by decide +kernel
theorem d_L_law_531 : decode b_L_law 531 = .ok (.iadd, 1) := by decide +kernel
theorem d_L_law_532 : decode b_L_law 532 = .ok (.iaload, 1) := by decide +kernel
theorem d_L_law_533 : decode b_L_law 533 = .ok (.invokevirtual 91, 3) := by decide +kernel
theorem d_L_law_536 : decode b_L_law 536 = .ok (.istore 6, 2) := by decide +kernel
theorem d_L_law_538 : decode b_L_law 538 = .ok (.aload_n 2, 1) := by decide +kernel
theorem d_L_law_539 : decode b_L_law 539 = .ok (.invokevirtual 65, 3) := by decide +kernel
theorem d_L_law_542 : decode b_L_law 542 = .ok (.iload 5, 2) := by decide +kernel
theorem d_L_law_544 : decode b_L_law 544 = .ok (.if_icmp .eq 5, 3) := by decide +kernel
theorem d_L_law_549 : decode b_L_law 549 = .ok (.iload 5, 2) := by decide +kernel
theorem d_L_law_551 : decode b_L_law 551 = .ok (.ifCond .ne 15, 3) := by decide +kernel
theorem d_L_law_566 : decode b_L_law 566 = .ok (.goto 256, 3) := by decide +kernel
theorem d_L_law_569 : decode b_L_law 569 = .ok (.aload_n 1, 1) := by decide +kernel
theorem d_L_law_570 : decode b_L_law 570 = .ok (.aload_n 0, 1) := by decide +kernel
theorem d_L_law_571 : decode b_L_law 571 = .ok (.iload 4, 2) := by decide +kernel
theorem d_L_law_573 : decode b_L_law 573 = .ok (.iconst 1, 1) := by decide +kernel
theorem d_L_law_574 : decode b_L_law 574 = .ok (.iadd, 1) := by decide +kernel
theorem d_L_law_575 : decode b_L_law 575 = .ok (.iaload, 1) := by decide +kernel
theorem d_L_law_576 : decode b_L_law 576 = .ok (.aload_n 3, 1) := by decide +kernel
theorem d_L_law_577 : decode b_L_law 577 = .ok (.invokestatic 92, 3) := by decide +kernel
theorem d_L_law_580 : decode b_L_law 580 = .ok (.istore 5, 2) := by decide +kernel
theorem d_L_law_582 : decode b_L_law 582 = .ok (.aload_n 2, 1) := by decide +kernel
theorem d_L_law_583 : decode b_L_law 583 = .ok (.aload_n 0, 1) := by decide +kernel
theorem d_L_law_584 : decode b_L_law 584 = .ok (.iload 4, 2) := by decide +kernel
theorem d_L_law_586 : decode b_L_law 586 = .ok (.iconst 1, 1) := by decide +kernel
theorem d_L_law_587 : decode b_L_law 587 = .ok (.iadd, 1) := by decide +kernel
theorem d_L_law_588 : decode b_L_law 588 = .ok (.iaload, 1) := by decide +kernel
theorem d_L_law_589 : decode b_L_law 589 = .ok (.invokevirtual 94, 3) := by decide +kernel
theorem d_L_law_592 : decode b_L_law 592 = .ok (.istore 6, 2) := by decide +kernel
theorem d_L_law_594 : decode b_L_law 594 = .ok (.aload_n 2, 1) := by decide +kernel
theorem d_L_law_595 : decode b_L_law 595 = .ok (.invokevirtual 65, 3) := by decide +kernel
theorem d_L_law_598 : decode b_L_law 598 = .ok (.iload 5, 2) := by decide +kernel
theorem d_L_law_600 : decode b_L_law 600 = .ok (.if_icmp .eq 5, 3) := by decide +kernel
theorem d_L_law_605 : decode b_L_law 605 = .ok (.iload 5, 2) := by decide +kernel
theorem d_L_law_607 : decode b_L_law 607 = .ok (.ifCond .ne 15, 3) := by decide +kernel
theorem d_L_law_622 : decode b_L_law 622 = .ok (.goto 200, 3) := by decide +kernel
theorem d_L_law_625 : decode b_L_law 625 = .ok (.aload_n 1, 1) := by decide +kernel
theorem d_L_law_626 : decode b_L_law 626 = .ok (.aload_n 0, 1) := by decide +kernel
theorem d_L_law_627 : decode b_L_law 627 = .ok (.iload 4, 2) := by decide +kernel
theorem d_L_law_629 : decode b_L_law 629 = .ok (.iconst 1, 1) := by decide +kernel
theorem d_L_law_630 : decode b_L_law 630 = .ok (.iadd, 1) := by decide +kernel
theorem d_L_law_631 : decode b_L_law 631 = .ok (.iaload, 1) := by decide +kernel
theorem d_L_law_632 : decode b_L_law 632 = .ok (.aload_n 0, 1) := by decide +kernel
theorem d_L_law_633 : decode b_L_law 633 = .ok (.iload 4, 2) := by decide +kernel
theorem d_L_law_635 : decode b_L_law 635 = .ok (.iconst 2, 1) := by decide +kernel
theorem d_L_law_636 : decode b_L_law 636 = .ok (.iadd, 1) := by decide +kernel
theorem d_L_law_637 : decode b_L_law 637 = .ok (.iaload, 1) := by decide +kernel
theorem d_L_law_638 : decode b_L_law 638 = .ok (.aload_n 3, 1) := by decide +kernel
theorem d_L_law_639 : decode b_L_law 639 = .ok (.invokestatic 95, 3) := by decide +kernel
theorem d_L_law_642 : decode b_L_law 642 = .ok (.istore 5, 2) := by decide +kernel
theorem d_L_law_644 : decode b_L_law 644 = .ok (.aload_n 2, 1) := by decide +kernel
theorem d_L_law_645 : decode b_L_law 645 = .ok (.aload_n 0, 1) := by decide +kernel
theorem d_L_law_646 : decode b_L_law 646 = .ok (.iload 4, 2) := by decide +kernel
theorem d_L_law_648 : decode b_L_law 648 = .ok (.iconst 1, 1) := by decide +kernel
theorem d_L_law_649 : decode b_L_law 649 = .ok (.iadd, 1) := by decide +kernel
theorem d_L_law_650 : decode b_L_law 650 = .ok (.iaload, 1) := by decide +kernel
theorem d_L_law_651 : decode b_L_law 651 = .ok (.aload_n 0, 1) := by decide +kernel
theorem d_L_law_652 : decode b_L_law 652 = .ok (.iload 4, 2) := by decide +kernel
theorem d_L_law_654 : decode b_L_law 654 = .ok (.iconst 2, 1) := by decide +kernel
theorem d_L_law_655 : decode b_L_law 655 = .ok (.iadd, 1) := by decide +kernel
theorem d_L_law_656 : decode b_L_law 656 = .ok (.iaload, 1) := by decide +kernel
theorem d_L_law_657 : decode b_L_law 657 = .ok (.invokevirtual 97, 3) := by decide +kernel
theorem d_L_law_660 : decode b_L_law 660 = .ok (.istore 6, 2) := by decide +kernel
theorem d_L_law_662 : decode b_L_law 662 = .ok (.aload_n 2, 1) := by decide +kernel
theorem d_L_law_663 : decode b_L_law 663 = .ok (.invokevirtual 65, 3) := by decide +kernel
theorem d_L_law_666 : decode b_L_law 666 = .ok (.iload 5, 2) := by decide +kernel
theorem d_L_law_668 : decode b_L_law 668 = .ok (.if_icmp .eq 5, 3) := by decide +kernel
theorem d_L_law_673 : decode b_L_law 673 = .ok (.iload 5, 2) := by decide +kernel
theorem d_L_law_675 : decode b_L_law 675 = .ok (.ifCond .ne 15, 3) := by decide +kernel
theorem d_L_law_690 : decode b_L_law 690 = .ok (.goto 132, 3) := by decide +kernel
theorem d_L_law_693 : decode b_L_law 693 = .ok (.aload_n 1, 1) := by decide +kernel
theorem d_L_law_694 : decode b_L_law 694 = .ok (.aload_n 0, 1) := by decide +kernel
theorem d_L_law_695 : decode b_L_law 695 = .ok (.iload 4, 2) := by decide +kernel
theorem d_L_law_697 : decode b_L_law 697 = .ok (.iconst 1, 1) := by decide +kernel
theorem d_L_law_698 : decode b_L_law 698 = .ok (.iadd, 1) := by decide +kernel
theorem d_L_law_699 : decode b_L_law 699 = .ok (.iaload, 1) := by decide +kernel
theorem d_L_law_700 : decode b_L_law 700 = .ok (.aload_n 0, 1) := by decide +kernel
theorem d_L_law_701 : decode b_L_law 701 = .ok (.iload 4, 2) := by decide +kernel
theorem d_L_law_703 : decode b_L_law 703 = .ok (.iconst 2, 1) := by decide +kernel
theorem d_L_law_704 : decode b_L_law 704 = .ok (.iadd, 1) := by decide +kernel
theorem d_L_law_705 : decode b_L_law 705 = .ok (.iaload, 1) := by decide +kernel
theorem d_L_law_706 : decode b_L_law 706 = .ok (.aload_n 3, 1) := by decide +kernel
theorem d_L_law_707 : decode b_L_law 707 = .ok (.invokestatic 98, 3) := by decide +kernel
theorem d_L_law_710 : decode b_L_law 710 = .ok (.istore 5, 2) := by decide +kernel
theorem d_L_law_712 : decode b_L_law 712 = .ok (.aload_n 2, 1) := by decide +kernel
theorem d_L_law_713 : decode b_L_law 713 = .ok (.aload_n 0, 1) := by decide +kernel
theorem d_L_law_714 : decode b_L_law 714 = .ok (.iload 4, 2) := by decide +kernel
theorem d_L_law_716 : decode b_L_law 716 = .ok (.iconst 1, 1) := by decide +kernel
theorem d_L_law_717 : decode b_L_law 717 = .ok (.iadd, 1) := by decide +kernel
theorem d_L_law_718 : decode b_L_law 718 = .ok (.iaload, 1) := by decide +kernel
theorem d_L_law_719 : decode b_L_law 719 = .ok (.aload_n 0, 1) := by decide +kernel
theorem d_L_law_720 : decode b_L_law 720 = .ok (.iload 4, 2) := by decide +kernel
theorem d_L_law_722 : decode b_L_law 722 = .ok (.iconst 2, 1) := by decide +kernel
theorem d_L_law_723 : decode b_L_law 723 = .ok (.iadd, 1) := by decide +kernel
theorem d_L_law_724 : decode b_L_law 724 = .ok (.iaload, 1) := by decide +kernel
theorem d_L_law_725 : decode b_L_law 725 = .ok (.invokevirtual 100, 3) := by decide +kernel
theorem d_L_law_728 : decode b_L_law 728 = .ok (.istore 6, 2) := by decide +kernel
theorem d_L_law_730 : decode b_L_law 730 = .ok (.aload_n 2, 1) := by decide +kernel
theorem d_L_law_731 : decode b_L_law 731 = .ok (.invokevirtual 65, 3) := by decide +kernel
theorem d_L_law_734 : decode b_L_law 734 = .ok (.iload 5, 2) := by decide +kernel
theorem d_L_law_736 : decode b_L_law 736 = .ok (.if_icmp .eq 5, 3) := by decide +kernel
theorem d_L_law_741 : decode b_L_law 741 = .ok (.iload 5, 2) := by decide +kernel
theorem d_L_law_743 : decode b_L_law 743 = .ok (.ifCond .ne 15, 3) := by decide +kernel
theorem d_L_law_758 : decode b_L_law 758 = .ok (.goto 64, 3) := by decide +kernel
theorem d_L_law_761 : decode b_L_law 761 = .ok (.aload_n 1, 1) := by decide +kernel
theorem d_L_law_762 : decode b_L_law 762 = .ok (.aload_n 0, 1) := by decide +kernel
theorem d_L_law_763 : decode b_L_law 763 = .ok (.iload 4, 2) := by decide +kernel
theorem d_L_law_765 : decode b_L_law 765 = .ok (.iconst 1, 1) := by decide +kernel
theorem d_L_law_766 : decode b_L_law 766 = .ok (.iadd, 1) := by decide +kernel
theorem d_L_law_767 : decode b_L_law 767 = .ok (.iaload, 1) := by decide +kernel
theorem d_L_law_768 : decode b_L_law 768 = .ok (.invokevirtual 101, 3) := by decide +kernel
theorem d_L_law_771 : decode b_L_law 771 = .ok (.aload_n 2, 1) := by decide +kernel
theorem d_L_law_772 : decode b_L_law 772 = .ok (.aload_n 0, 1) := by decide +kernel
theorem d_L_law_773 : decode b_L_law 773 = .ok (.iload 4, 2) := by decide +kernel
theorem d_L_law_775 : decode b_L_law 775 = .ok (.iconst 1, 1) := by decide +kernel
theorem d_L_law_776 : decode b_L_law 776 = .ok (.iadd, 1) := by decide +kernel
theorem d_L_law_777 : decode b_L_law 777 = .ok (.iaload, 1) := by decide +kernel
theorem d_L_law_778 : decode b_L_law 778 = .ok (.invokevirtual 104, 3) := by decide +kernel
theorem d_L_law_781 : decode b_L_law 781 = .ok (.if_icmp .eq 41, 3) := by decide +kernel
theorem d_L_law_786 : decode b_L_law 786 = .ok (.aload_n 1, 1) := by decide +kernel
theorem d_L_law_787 : decode b_L_law 787 = .ok (.invokevirtual 105, 3) := by decide +kernel
theorem d_L_law_790 : decode b_L_law 790 = .ok (.aload_n 2, 1) := by decide +kernel
theorem d_L_law_791 : decode b_L_law 791 = .ok (.invokevirtual 108, 3) := by decide +kernel
theorem d_L_law_794 : decode b_L_law 794 = .ok (.goto 28, 3) := by decide +kernel
theorem d_L_law_797 : decode b_L_law 797 = .ok (.aload_n 1, 1) := by decide +kernel
theorem d_L_law_798 : decode b_L_law 798 = .ok (.aload_n 0, 1) := by decide +kernel
theorem d_L_law_799 : decode b_L_law 799 = .ok (.iload 4, 2) := by decide +kernel
theorem d_L_law_801 : decode b_L_law 801 = .ok (.iconst 1, 1) := by decide +kernel
theorem d_L_law_802 : decode b_L_law 802 = .ok (.iadd, 1) := by decide +kernel
theorem d_L_law_803 : decode b_L_law 803 = .ok (.iaload, 1) := by decide +kernel
theorem d_L_law_804 : decode b_L_law 804 = .ok (.invokevirtual 109, 3) := by decide +kernel
theorem d_L_law_807 : decode b_L_law 807 = .ok (.aload_n 2, 1) := by decide +kernel
theorem d_L_law_808 : decode b_L_law 808 = .ok (.aload_n 0, 1) := by decide +kernel
theorem d_L_law_809 : decode b_L_law 809 = .ok (.iload 4, 2) := by decide +kernel
theorem d_L_law_811 : decode b_L_law 811 = .ok (.iconst 1, 1) := by decide +kernel
theorem d_L_law_812 : decode b_L_law 812 = .ok (.iadd, 1) := by decide +kernel
theorem d_L_law_813 : decode b_L_law 813 = .ok (.iaload, 1) := by decide +kernel
theorem d_L_law_814 : decode b_L_law 814 = .ok (.invokevirtual 112, 3) := by decide +kernel
theorem d_L_law_817 : decode b_L_law 817 = .ok (.if_icmp .eq 5, 3) := by decide +kernel
set_option maxHeartbeats 4000000 in
set_option maxRecDepth 100000 in
/-- total: nothing is known -/
theorem lc_totalU {p : Program} {l : Launch} {e : Env} {s : State} {m : MethodId} {below : List Frame} {meth : Method} {c : Code} {Q : State → Prop} {D : mp_G} {g : Nat → ClassId} {A : Nat → Prop} {b L i : Nat} {xs : Nat → Int32} {cells slots : Nat} {S : mp_M} {H : Heap} {locs : List Loc} {ls : Array Slot} (hx : p.tables.exec = Jvm.exec) (hb : c.code = b_L_law) (hml : c.maxLocals = 7) (hts : ∀ w ∈ lw_tbl, w.before #[Value.ref b] s = true) (hg : ∀ w ∈ gw, w.before #[Value.ref b] s = true) (hown : s.vm.findClass R_L = some m.cls) (hK : mp_K D classes (tys g) s) (hX : va_X b L xs D.2.1 D.2.1.heap) (hL : L ≤ 3585) (hi : i + 6 < L) (hc : cells + 1 ≤ room_1.cells) (hs : slots + 6 ≤ room_1.slots) (hl9 : l.stackTraces = false) {pa : Nat} {v0 v2 v3 v4 v5 v6 m0 m1 m2 m4 m5 m6 m7 m8 m9 m10 m11 m13 m14 m15 m16 m17 m18 m19 m20 m21 m22 m23 m24 m25 m26 m27 m28 m29 m30 : Value} {an av th : Int32} {sv : Option Nat} {of : Nat → Int64} {oa mo o : Nat} (h_o : S o = some (0, .inr (0, [v0, .ref pa, v2, v3, v4, v5, v6, .int an, .int av, (va_rf sv)]))) (h_mo : S mo = some (2000, .inr (10, [m0, m1, m2, .int th, m4, m5, m6, m7, m8, m9, m10, m11, .int 0, m13, m14, m15, m16, m17, m18, m19, m20, m21, m22, m23, m24, m25, m26, m27, m28, m29, m30]))) (h_oa : S oa = some (9, .inl ((g 4), 1, .inr (.inl of)))) (hun : an = 0 ∨ av < 0 ∨ sv = none) (hI : mp_I D classes A s.heap S H locs) (hl : lv_has ls 7 [(4, .int (nI i)), (3, .ref oa), (2, .ref mo), (1, .ref o), (0, .ref b)]) (kx : ∀ (S : mp_M) (H : Heap) (locs : List Loc) (ls : Array Slot), mp_I D classes A s.heap S H locs → lv_has ls 7 [(4, .int (nI i)), (3, .ref oa), (2, .ref mo), (1, .ref o), (0, .ref b)] → W p l e room_1 s m #[Value.ref b] below meth c H locs (cells + 1) (slots + 6) Q (F0 m 822 ls [])) : W p l e room_1 s m #[Value.ref b] below meth c H locs (cells) (slots) Q (F0 m 401 ls []) := by
  refine lv_aload_n hx hb d_L_law_401 rfl (lv_at hl 3 rfl) ?_
  refine lv_aload_n hx hb d_L_law_402 rfl (lv_at hl 1 rfl) ?_
  refine mp_calli hI (lw_runS (As := [.ref o, .ref oa]) (rest := []) ⟨hx, hb, hml, hown, hg⟩ (c_L_totalU l D g S _ o pa v0 v2 v3 v4 v5 v6 an av sv  oa of h_o h_oa hl9 hun) ⟨callBW_of 2 hg (hts _ q_734) rfl rfl (hg _ q_0) (hg _ q_732) (by decide +kernel) ⟨Nat.le_of_ble_eq_true rfl, Nat.le_of_ble_eq_true rfl⟩, hg _ q_733⟩ (mp_pre hI hK [.ref o, .ref oa]) rfl rfl hl.1 rfl (lv_room (Nat.le_of_ble_eq_true rfl)) d_L_law_403 ⟨by omega, by omega⟩) (fun r4 S1 H2 locs p_3 hI => ?_)
  obtain ⟨er4, eS5⟩ := p_3
  rw [eS5] at hI
  have er4 : r4 = nI 1 := er4
  subst er4
  refine lv_istore (lv' := [(5, .int (nI 1)), (4, .int (nI i)), (3, .ref oa), (2, .ref mo), (1, .ref o), (0, .ref b)]) hx hb d_L_law_406 hl (by decide) rfl (fun ls hl => ?_)
  refine lv_aload_n hx hb d_L_law_408 rfl (lv_at hl 3 rfl) ?_
  refine mp_calli hI (va_runV (As := []) (rest := []) ⟨hx, hb, hml, hown, hg⟩ (c_M_totalU l D g S _ mo (m0) (m1) (m2) (m4) (m5) (m6) (m7) (m8) (m9) (m10) (m11) (m13) (m14) (m15) (m16) (m17) (m18) (m19) (m20) (m21) (m22) (m23) (m24) (m25) (m26) (m27) (m28) (m29) (m30) th  h_mo) ⟨(callB_of 0 hg (wd_goodG q_1067) rfl rfl rfl (hg _ q_5) (hg _ q_1064) (by decide +kernel) ⟨Nat.le_of_ble_eq_true rfl, Nat.le_of_ble_eq_true rfl⟩), hg _ q_1065, hg _ q_1066⟩ (mp_preV (C := R_M) (T := F_M) hI hK h_mo rfl []) rfl rfl hl.1 rfl (lv_room (Nat.le_of_ble_eq_true rfl)) d_L_law_409 ⟨by omega, by omega⟩) (fun r9 S6 H7 locs p_8 hI => ?_)
  obtain ⟨hq_mo, fq⟩ := p_8
  have h_o : S6 o = some (0, .inr (0, [v0, .ref pa, v2, v3, v4, v5, v6, .int an, .int av, (va_rf sv)])) := (fq o (mp_in h_o) (mp_ne h_o h_mo (by decide))).trans h_o
  have h_oa : S6 oa = some (9, .inl ((g 4), 1, .inr (.inl of))) := (fq oa (mp_in h_oa) (mp_ne h_oa h_mo (by decide))).trans h_oa
  refine lv_istore (lv' := [(6, .int r9), (5, .int (nI 1)), (4, .int (nI i)), (3, .ref oa), (2, .ref mo), (1, .ref o), (0, .ref b)]) hx hb d_L_law_412 hl (by decide) rfl (fun ls hl => ?_)
  refine lv_aload_n hx hb d_L_law_414 rfl (lv_at hl 4 rfl) ?_
  refine mp_calli hI (va_runV (As := []) (rest := []) ⟨hx, hb, hml, hown, hg⟩ (c_M_thrown l D g S6 _ mo (m0) (m1) (m2) (m4) (m5) (m6) (m7) (m8) (m9) (m10) (m11) (.int 0) (m13) (m14) (m15) (m16) (m17) (m18) (m19) (m20) (m21) (m22) (m23) (m24) (m25) (m26) (m27) (m28) (m29) (m30) (nI 1) hq_mo) ⟨(callB_of 0 hg (wd_goodG q_902) rfl rfl rfl (hg _ q_5) (hg _ q_899) (by decide +kernel) ⟨Nat.le_of_ble_eq_true rfl, Nat.le_of_ble_eq_true rfl⟩), hg _ q_900, hg _ q_901⟩ (mp_preV (C := R_M) (T := F_M) hI hK hq_mo rfl []) rfl rfl hl.1 rfl (lv_room (Nat.le_of_ble_eq_true rfl)) d_L_law_415 ⟨by omega, by omega⟩) (fun r13 S10 H11 locs p_12 hI => ?_)
  obtain ⟨er13, eS14⟩ := p_12
  rw [eS14] at hI
  have er13 : r13 = nI 1 := er13
  subst er13
  refine lv_iload hx hb d_L_law_418 (lv_at hl 1 rfl) ?_
  refine lv_icmp_eq (tgt := 425) hx hb d_L_law_420 (by decide) (fun _ => ?_) (fun h9 => absurd (rfl) h9)
  refine lv_iload hx hb d_L_law_425 (lv_at hl 1 rfl) ?_
  refine lv_if_ne (tgt := 442) hx hb d_L_law_427 (by decide) (fun _ => ?_) (fun h9 => absurd h9 (by decide))
  refine lv_goto (tgt := 822) hx hb d_L_law_442 (by decide) ?_
  exact kx S6 _ _ ls hI (lv_sub hl [2, 3, 4, 5, 6] rfl)
set_option maxHeartbeats 4000000 in
set_option maxRecDepth 100000 in
/-- left: nothing is known -/
theorem lc_leftU {p : Program} {l : Launch} {e : Env} {s : State} {m : MethodId} {below : List Frame} {meth : Method} {c : Code} {Q : State → Prop} {D : mp_G} {g : Nat → ClassId} {A : Nat → Prop} {b L i : Nat} {xs : Nat → Int32} {cells slots : Nat} {S : mp_M} {H : Heap} {locs : List Loc} {ls : Array Slot} (hx : p.tables.exec = Jvm.exec) (hb : c.code = b_L_law) (hml : c.maxLocals = 7) (hts : ∀ w ∈ lw_tbl, w.before #[Value.ref b] s = true) (hg : ∀ w ∈ gw, w.before #[Value.ref b] s = true) (hown : s.vm.findClass R_L = some m.cls) (hK : mp_K D classes (tys g) s) (hX : va_X b L xs D.2.1 D.2.1.heap) (hL : L ≤ 3585) (hi : i + 6 < L) (hc : cells + 1 ≤ room_1.cells) (hs : slots + 6 ≤ room_1.slots) (hl9 : l.stackTraces = false) {pa : Nat} {v0 v2 v3 v4 v5 v6 m0 m1 m2 m4 m5 m6 m7 m8 m9 m10 m11 m13 m14 m15 m16 m17 m18 m19 m20 m21 m22 m23 m24 m25 m26 m27 m28 m29 m30 : Value} {an av th : Int32} {sv : Option Nat} {of : Nat → Int64} {oa mo o : Nat} (h_o : S o = some (0, .inr (0, [v0, .ref pa, v2, v3, v4, v5, v6, .int an, .int av, (va_rf sv)]))) (h_mo : S mo = some (2000, .inr (10, [m0, m1, m2, .int th, m4, m5, m6, m7, m8, m9, m10, m11, .int 0, m13, m14, m15, m16, m17, m18, m19, m20, m21, m22, m23, m24, m25, m26, m27, m28, m29, m30]))) (h_oa : S oa = some (9, .inl ((g 4), 1, .inr (.inl of)))) (hun : an = 0 ∨ av < 0 ∨ sv = none) (hI : mp_I D classes A s.heap S H locs) (hl : lv_has ls 7 [(4, .int (nI i)), (3, .ref oa), (2, .ref mo), (1, .ref o), (0, .ref b)]) (kx : ∀ (S : mp_M) (H : Heap) (locs : List Loc) (ls : Array Slot), mp_I D classes A s.heap S H locs → lv_has ls 7 [(4, .int (nI i)), (3, .ref oa), (2, .ref mo), (1, .ref o), (0, .ref b)] → W p l e room_1 s m #[Value.ref b] below meth c H locs (cells + 1) (slots + 6) Q (F0 m 822 ls [])) : W p l e room_1 s m #[Value.ref b] below meth c H locs (cells) (slots) Q (F0 m 445 ls []) := by
  refine lv_aload_n hx hb d_L_law_445 rfl (lv_at hl 3 rfl) ?_
  refine lv_aload_n hx hb d_L_law_446 rfl (lv_at hl 4 rfl) ?_
  refine lv_iload hx hb d_L_law_447 (lv_at hl 0 rfl) ?_
  refine lv_iconst (v := nI 1) hx hb d_L_law_449 (by decide) ?_
  refine lv_iadd hx hb d_L_law_450 ?_
  refine lv_topi (fun v1 ev1 => ?_)
  obtain rfl : v1 = nI (i + 1) := ev1.trans (nI_add _ _)
  refine mp_sld hx hb hX hK hI (vp_in_nI (show (i + 1) < L by omega) (by omega)) d_L_law_451 ?_
  refine lv_topi (fun v2 ev2 => ?_)
  obtain rfl : v2 = xs (i + 1) := ev2.trans (by rw [nI_clamp (by omega)])
  refine lv_aload_n hx hb d_L_law_452 rfl (lv_at hl 1 rfl) ?_
  refine mp_calli hI (lw_runS (As := [.ref o, .int (xs (i + 1)), .ref oa]) (rest := []) ⟨hx, hb, hml, hown, hg⟩ (c_L_leftU l D g S _ o pa v0 v2 v3 v4 v5 v6 an av sv (xs (i + 1)) oa of h_o h_oa hl9 hun) ⟨callBW_of 3 hg (hts _ q_746) rfl rfl (hg _ q_0) (hg _ q_744) (by decide +kernel) ⟨Nat.le_of_ble_eq_true rfl, Nat.le_of_ble_eq_true rfl⟩, hg _ q_745⟩ (mp_pre hI hK [.ref o, .int (xs (i + 1)), .ref oa]) rfl rfl hl.1 rfl (lv_room (Nat.le_of_ble_eq_true rfl)) d_L_law_453 ⟨by omega, by omega⟩) (fun r6 S3 H4 locs p_5 hI => ?_)
  obtain ⟨er6, eS7⟩ := p_5
  rw [eS7] at hI
  have er6 : r6 = nI 1 := er6
  subst er6
  refine lv_istore (lv' := [(5, .int (nI 1)), (4, .int (nI i)), (3, .ref oa), (2, .ref mo), (1, .ref o), (0, .ref b)]) hx hb d_L_law_456 hl (by decide) rfl (fun ls hl => ?_)
  refine lv_aload_n hx hb d_L_law_458 rfl (lv_at hl 3 rfl) ?_
  refine lv_aload_n hx hb d_L_law_459 rfl (lv_at hl 5 rfl) ?_
  refine lv_iload hx hb d_L_law_460 (lv_at hl 1 rfl) ?_
  refine lv_iconst (v := nI 1) hx hb d_L_law_462 (by decide) ?_
  refine lv_iadd hx hb d_L_law_463 ?_
  refine lv_topi (fun v8 ev8 => ?_)
  obtain rfl : v8 = nI (i + 1) := ev8.trans (nI_add _ _)
  refine mp_sld hx hb hX hK hI (vp_in_nI (show (i + 1) < L by omega) (by omega)) d_L_law_464 ?_
  refine lv_topi (fun v9 ev9 => ?_)
  obtain rfl : v9 = xs (i + 1) := ev9.trans (by rw [nI_clamp (by omega)])
  refine mp_calli hI (va_runV (As := [.int (xs (i + 1))]) (rest := []) ⟨hx, hb, hml, hown, hg⟩ (c_M_leftU l D g S _ mo (m0) (m1) (m2) (m4) (m5) (m6) (m7) (m8) (m9) (m10) (m11) (m13) (m14) (m15) (m16) (m17) (m18) (m19) (m20) (m21) (m22) (m23) (m24) (m25) (m26) (m27) (m28) (m29) (m30) th (xs (i + 1)) h_mo) ⟨(callB_of 1 hg (wd_goodG q_1071) rfl rfl rfl (hg _ q_5) (hg _ q_1068) (by decide +kernel) ⟨Nat.le_of_ble_eq_true rfl, Nat.le_of_ble_eq_true rfl⟩), hg _ q_1069, hg _ q_1070⟩ (mp_preV (C := R_M) (T := F_M) hI hK h_mo rfl [.int (xs (i + 1))]) rfl rfl hl.1 rfl (lv_room (Nat.le_of_ble_eq_true rfl)) d_L_law_465 ⟨by omega, by omega⟩) (fun r13 S10 H11 locs p_12 hI => ?_)
  obtain ⟨hq_mo, fq⟩ := p_12
  have h_o : S10 o = some (0, .inr (0, [v0, .ref pa, v2, v3, v4, v5, v6, .int an, .int av, (va_rf sv)])) := (fq o (mp_in h_o) (mp_ne h_o h_mo (by decide))).trans h_o
  have h_oa : S10 oa = some (9, .inl ((g 4), 1, .inr (.inl of))) := (fq oa (mp_in h_oa) (mp_ne h_oa h_mo (by decide))).trans h_oa
  refine lv_istore (lv' := [(6, .int r13), (5, .int (nI 1)), (4, .int (nI i)), (3, .ref oa), (2, .ref mo), (1, .ref o), (0, .ref b)]) hx hb d_L_law_468 hl (by decide) rfl (fun ls hl => ?_)
  refine lv_aload_n hx hb d_L_law_470 rfl (lv_at hl 4 rfl) ?_
  refine mp_calli hI (va_runV (As := []) (rest := []) ⟨hx, hb, hml, hown, hg⟩ (c_M_thrown l D g S10 _ mo (m0) (m1) (m2) (m4) (m5) (m6) (m7) (m8) (m9) (m10) (m11) (.int 0) (m13) (m14) (m15) (m16) (m17) (m18) (m19) (m20) (m21) (m22) (m23) (m24) (m25) (m26) (m27) (m28) (m29) (m30) (nI 1) hq_mo) ⟨(callB_of 0 hg (wd_goodG q_902) rfl rfl rfl (hg _ q_5) (hg _ q_899) (by decide +kernel) ⟨Nat.le_of_ble_eq_true rfl, Nat.le_of_ble_eq_true rfl⟩), hg _ q_900, hg _ q_901⟩ (mp_preV (C := R_M) (T := F_M) hI hK hq_mo rfl []) rfl rfl hl.1 rfl (lv_room (Nat.le_of_ble_eq_true rfl)) d_L_law_471 ⟨by omega, by omega⟩) (fun r17 S14 H15 locs p_16 hI => ?_)
  obtain ⟨er17, eS18⟩ := p_16
  rw [eS18] at hI
  have er17 : r17 = nI 1 := er17
  subst er17
  refine lv_iload hx hb d_L_law_474 (lv_at hl 1 rfl) ?_
  refine lv_icmp_eq (tgt := 481) hx hb d_L_law_476 (by decide) (fun _ => ?_) (fun h9 => absurd (rfl) h9)
  refine lv_iload hx hb d_L_law_481 (lv_at hl 1 rfl) ?_
  refine lv_if_ne (tgt := 498) hx hb d_L_law_483 (by decide) (fun _ => ?_) (fun h9 => absurd h9 (by decide))
  refine lv_goto (tgt := 822) hx hb d_L_law_498 (by decide) ?_
  exact kx S10 _ _ ls hI (lv_sub hl [2, 3, 4, 5, 6] rfl)
set_option maxHeartbeats 4000000 in
set_option maxRecDepth 100000 in
/-- at: nothing is known -/
theorem lc_atU {p : Program} {l : Launch} {e : Env} {s : State} {m : MethodId} {below : List Frame} {meth : Method} {c : Code} {Q : State → Prop} {D : mp_G} {g : Nat → ClassId} {A : Nat → Prop} {b L i : Nat} {xs : Nat → Int32} {cells slots : Nat} {S : mp_M} {H : Heap} {locs : List Loc} {ls : Array Slot} (hx : p.tables.exec = Jvm.exec) (hb : c.code = b_L_law) (hml : c.maxLocals = 7) (hts : ∀ w ∈ lw_tbl, w.before #[Value.ref b] s = true) (hg : ∀ w ∈ gw, w.before #[Value.ref b] s = true) (hown : s.vm.findClass R_L = some m.cls) (hK : mp_K D classes (tys g) s) (hX : va_X b L xs D.2.1 D.2.1.heap) (hL : L ≤ 3585) (hi : i + 6 < L) (hc : cells + 1 ≤ room_1.cells) (hs : slots + 6 ≤ room_1.slots) (hl9 : l.stackTraces = false) {pa : Nat} {v0 v2 v3 v4 v5 v6 m0 m1 m2 m4 m5 m6 m7 m8 m9 m10 m11 m13 m14 m15 m16 m17 m18 m19 m20 m21 m22 m23 m24 m25 m26 m27 m28 m29 m30 : Value} {an av th : Int32} {sv : Option Nat} {of : Nat → Int64} {oa mo o : Nat} (h_o : S o = some (0, .inr (0, [v0, .ref pa, v2, v3, v4, v5, v6, .int an, .int av, (va_rf sv)]))) (h_mo : S mo = some (2000, .inr (10, [m0, m1, m2, .int th, m4, m5, m6, m7, m8, m9, m10, m11, .int 0, m13, m14, m15, m16, m17, m18, m19, m20, m21, m22, m23, m24, m25, m26, m27, m28, m29, m30]))) (h_oa : S oa = some (9, .inl ((g 4), 1, .inr (.inl of)))) (hun : an = 0 ∨ av < 0 ∨ sv = none) (hI : mp_I D classes A s.heap S H locs) (hl : lv_has ls 7 [(4, .int (nI i)), (3, .ref oa), (2, .ref mo), (1, .ref o), (0, .ref b)]) (kx : ∀ (S : mp_M) (H : Heap) (locs : List Loc) (ls : Array Slot), mp_I D classes A s.heap S H locs → lv_has ls 7 [(4, .int (nI i)), (3, .ref oa), (2, .ref mo), (1, .ref o), (0, .ref b)] → W p l e room_1 s m #[Value.ref b] below meth c H locs (cells + 1) (slots + 6) Q (F0 m 822 ls [])) : W p l e room_1 s m #[Value.ref b] below meth c H locs (cells) (slots) Q (F0 m 501 ls []) := by
  refine lv_aload_n hx hb d_L_law_501 rfl (lv_at hl 3 rfl) ?_
  refine lv_aload_n hx hb d_L_law_502 rfl (lv_at hl 4 rfl) ?_
  refine lv_iload hx hb d_L_law_503 (lv_at hl 0 rfl) ?_
  refine lv_iconst (v := nI 1) hx hb d_L_law_505 (by decide) ?_
  refine lv_iadd hx hb d_L_law_506 ?_
  refine lv_topi (fun v1 ev1 => ?_)
  obtain rfl : v1 = nI (i + 1) := ev1.trans (nI_add _ _)
  refine mp_sld hx hb hX hK hI (vp_in_nI (show (i + 1) < L by omega) (by omega)) d_L_law_507 ?_
  refine lv_topi (fun v2 ev2 => ?_)
  obtain rfl : v2 = xs (i + 1) := ev2.trans (by rw [nI_clamp (by omega)])
  refine lv_aload_n hx hb d_L_law_508 rfl (lv_at hl 4 rfl) ?_
  refine lv_iload hx hb d_L_law_509 (lv_at hl 0 rfl) ?_
  refine lv_iconst (v := nI 2) hx hb d_L_law_511 (by decide) ?_
  refine lv_iadd hx hb d_L_law_512 ?_
  refine lv_topi (fun v3 ev3 => ?_)
  obtain rfl : v3 = nI (i + 2) := ev3.trans (nI_add _ _)
  refine mp_sld hx hb hX hK hI (vp_in_nI (show (i + 2) < L by omega) (by omega)) d_L_law_513 ?_
  refine lv_topi (fun v4 ev4 => ?_)
  obtain rfl : v4 = xs (i + 2) := ev4.trans (by rw [nI_clamp (by omega)])
  refine lv_aload_n hx hb d_L_law_514 rfl (lv_at hl 1 rfl) ?_
  refine mp_calli hI (lw_runS (As := [.ref o, .int (xs (i + 1)), .int (xs (i + 2)), .ref oa]) (rest := []) ⟨hx, hb, hml, hown, hg⟩ (c_L_atU l D g S _ o pa v0 v2 v3 v4 v5 v6 an av sv (xs (i + 1)) (xs (i + 2)) oa of h_o h_oa hl9 hun) ⟨callBW_of 4 hg (hts _ q_756) rfl rfl (hg _ q_0) (hg _ q_754) (by decide +kernel) ⟨Nat.le_of_ble_eq_true rfl, Nat.le_of_ble_eq_true rfl⟩, hg _ q_755⟩ (mp_pre hI hK [.ref o, .int (xs (i + 1)), .int (xs (i + 2)), .ref oa]) rfl rfl hl.1 rfl (lv_room (Nat.le_of_ble_eq_true rfl)) d_L_law_515 ⟨by omega, by omega⟩) (fun r8 S5 H6 locs p_7 hI => ?_)
  obtain ⟨er8, eS9⟩ := p_7
  rw [eS9] at hI
  have er8 : r8 = nI 1 := er8
  subst er8
  refine lv_istore (lv' := [(5, .int (nI 1)), (4, .int (nI i)), (3, .ref oa), (2, .ref mo), (1, .ref o), (0, .ref b)]) hx hb d_L_law_518 hl (by decide) rfl (fun ls hl => ?_)
  refine lv_aload_n hx hb d_L_law_520 rfl (lv_at hl 3 rfl) ?_
  refine lv_aload_n hx hb d_L_law_521 rfl (lv_at hl 5 rfl) ?_
  refine lv_iload hx hb d_L_law_522 (lv_at hl 1 rfl) ?_
  refine lv_iconst (v := nI 1) hx hb d_L_law_524 (by decide) ?_
  refine lv_iadd hx hb d_L_law_525 ?_
  refine lv_topi (fun v10 ev10 => ?_)
  obtain rfl : v10 = nI (i + 1) := ev10.trans (nI_add _ _)
  refine mp_sld hx hb hX hK hI (vp_in_nI (show (i + 1) < L by omega) (by omega)) d_L_law_526 ?_
  refine lv_topi (fun v11 ev11 => ?_)
  obtain rfl : v11 = xs (i + 1) := ev11.trans (by rw [nI_clamp (by omega)])
  refine lv_aload_n hx hb d_L_law_527 rfl (lv_at hl 5 rfl) ?_
  refine lv_iload hx hb d_L_law_528 (lv_at hl 1 rfl) ?_
  refine lv_iconst (v := nI 2) hx hb d_L_law_530 (by decide) ?_
  refine lv_iadd hx hb d_L_law_531 ?_
  refine lv_topi (fun v12 ev12 => ?_)
  obtain rfl : v12 = nI (i + 2) := ev12.trans (nI_add _ _)
  refine mp_sld hx hb hX hK hI (vp_in_nI (show (i + 2) < L by omega) (by omega)) d_L_law_532 ?_
  refine lv_topi (fun v13 ev13 => ?_)
  obtain rfl : v13 = xs (i + 2) := ev13.trans (by rw [nI_clamp (by omega)])
  refine mp_calli hI (va_runV (As := [.int (xs (i + 1)), .int (xs (i + 2))]) (rest := []) ⟨hx, hb, hml, hown, hg⟩ (c_M_atU l D g S _ mo (m0) (m1) (m2) (m4) (m5) (m6) (m7) (m8) (m9) (m10) (m11) (m13) (m14) (m15) (m16) (m17) (m18) (m19) (m20) (m21) (m22) (m23) (m24) (m25) (m26) (m27) (m28) (m29) (m30) th (xs (i + 1)) (xs (i + 2)) h_mo) ⟨(callB_of 2 hg (wd_goodG q_1078) rfl rfl rfl (hg _ q_5) (hg _ q_1075) (by decide +kernel) ⟨Nat.le_of_ble_eq_true rfl, Nat.le_of_ble_eq_true rfl⟩), hg _ q_1076, hg _ q_1077⟩ (mp_preV (C := R_M) (T := F_M) hI hK h_mo rfl [.int (xs (i + 1)), .int (xs (i + 2))]) rfl rfl hl.1 rfl (lv_room (Nat.le_of_ble_eq_true rfl)) d_L_law_533 ⟨by omega, by omega⟩) (fun r17 S14 H15 locs p_16 hI => ?_)
  obtain ⟨hq_mo, fq⟩ := p_16
  have h_o : S14 o = some (0, .inr (0, [v0, .ref pa, v2, v3, v4, v5, v6, .int an, .int av, (va_rf sv)])) := (fq o (mp_in h_o) (mp_ne h_o h_mo (by decide))).trans h_o
  have h_oa : S14 oa = some (9, .inl ((g 4), 1, .inr (.inl of))) := (fq oa (mp_in h_oa) (mp_ne h_oa h_mo (by decide))).trans h_oa
  refine lv_istore (lv' := [(6, .int r17), (5, .int (nI 1)), (4, .int (nI i)), (3, .ref oa), (2, .ref mo), (1, .ref o), (0, .ref b)]) hx hb d_L_law_536 hl (by decide) rfl (fun ls hl => ?_)
  refine lv_aload_n hx hb d_L_law_538 rfl (lv_at hl 4 rfl) ?_
  refine mp_calli hI (va_runV (As := []) (rest := []) ⟨hx, hb, hml, hown, hg⟩ (c_M_thrown l D g S14 _ mo (m0) (m1) (m2) (m4) (m5) (m6) (m7) (m8) (m9) (m10) (m11) (.int 0) (m13) (m14) (m15) (m16) (m17) (m18) (m19) (m20) (m21) (m22) (m23) (m24) (m25) (m26) (m27) (m28) (m29) (m30) (nI 1) hq_mo) ⟨(callB_of 0 hg (wd_goodG q_902) rfl rfl rfl (hg _ q_5) (hg _ q_899) (by decide +kernel) ⟨Nat.le_of_ble_eq_true rfl, Nat.le_of_ble_eq_true rfl⟩), hg _ q_900, hg _ q_901⟩ (mp_preV (C := R_M) (T := F_M) hI hK hq_mo rfl []) rfl rfl hl.1 rfl (lv_room (Nat.le_of_ble_eq_true rfl)) d_L_law_539 ⟨by omega, by omega⟩) (fun r21 S18 H19 locs p_20 hI => ?_)
  obtain ⟨er21, eS22⟩ := p_20
  rw [eS22] at hI
  have er21 : r21 = nI 1 := er21
  subst er21
  refine lv_iload hx hb d_L_law_542 (lv_at hl 1 rfl) ?_
  refine lv_icmp_eq (tgt := 549) hx hb d_L_law_544 (by decide) (fun _ => ?_) (fun h9 => absurd (rfl) h9)
  refine lv_iload hx hb d_L_law_549 (lv_at hl 1 rfl) ?_
  refine lv_if_ne (tgt := 566) hx hb d_L_law_551 (by decide) (fun _ => ?_) (fun h9 => absurd h9 (by decide))
  refine lv_goto (tgt := 822) hx hb d_L_law_566 (by decide) ?_
  exact kx S14 _ _ ls hI (lv_sub hl [2, 3, 4, 5, 6] rfl)
set_option maxHeartbeats 4000000 in
set_option maxRecDepth 100000 in
/-- multiplicity: nothing is known -/
theorem lc_multiplicityU {p : Program} {l : Launch} {e : Env} {s : State} {m : MethodId} {below : List Frame} {meth : Method} {c : Code} {Q : State → Prop} {D : mp_G} {g : Nat → ClassId} {A : Nat → Prop} {b L i : Nat} {xs : Nat → Int32} {cells slots : Nat} {S : mp_M} {H : Heap} {locs : List Loc} {ls : Array Slot} (hx : p.tables.exec = Jvm.exec) (hb : c.code = b_L_law) (hml : c.maxLocals = 7) (hts : ∀ w ∈ lw_tbl, w.before #[Value.ref b] s = true) (hg : ∀ w ∈ gw, w.before #[Value.ref b] s = true) (hown : s.vm.findClass R_L = some m.cls) (hK : mp_K D classes (tys g) s) (hX : va_X b L xs D.2.1 D.2.1.heap) (hL : L ≤ 3585) (hi : i + 6 < L) (hc : cells + 1 ≤ room_1.cells) (hs : slots + 6 ≤ room_1.slots) (hl9 : l.stackTraces = false) {pa : Nat} {v0 v2 v3 v4 v5 v6 m0 m1 m2 m4 m5 m6 m7 m8 m9 m10 m11 m13 m14 m15 m16 m17 m18 m19 m20 m21 m22 m23 m24 m25 m26 m27 m28 m29 m30 : Value} {an av th : Int32} {sv : Option Nat} {of : Nat → Int64} {oa mo o : Nat} (h_o : S o = some (0, .inr (0, [v0, .ref pa, v2, v3, v4, v5, v6, .int an, .int av, (va_rf sv)]))) (h_mo : S mo = some (2000, .inr (10, [m0, m1, m2, .int th, m4, m5, m6, m7, m8, m9, m10, m11, .int 0, m13, m14, m15, m16, m17, m18, m19, m20, m21, m22, m23, m24, m25, m26, m27, m28, m29, m30]))) (h_oa : S oa = some (9, .inl ((g 4), 1, .inr (.inl of)))) (hun : an = 0 ∨ av < 0 ∨ sv = none) (hI : mp_I D classes A s.heap S H locs) (hl : lv_has ls 7 [(4, .int (nI i)), (3, .ref oa), (2, .ref mo), (1, .ref o), (0, .ref b)]) (kx : ∀ (S : mp_M) (H : Heap) (locs : List Loc) (ls : Array Slot), mp_I D classes A s.heap S H locs → lv_has ls 7 [(4, .int (nI i)), (3, .ref oa), (2, .ref mo), (1, .ref o), (0, .ref b)] → W p l e room_1 s m #[Value.ref b] below meth c H locs (cells + 1) (slots + 6) Q (F0 m 822 ls [])) : W p l e room_1 s m #[Value.ref b] below meth c H locs (cells) (slots) Q (F0 m 569 ls []) := by
  refine lv_aload_n hx hb d_L_law_569 rfl (lv_at hl 3 rfl) ?_
  refine lv_aload_n hx hb d_L_law_570 rfl (lv_at hl 4 rfl) ?_
  refine lv_iload hx hb d_L_law_571 (lv_at hl 0 rfl) ?_
  refine lv_iconst (v := nI 1) hx hb d_L_law_573 (by decide) ?_
  refine lv_iadd hx hb d_L_law_574 ?_
  refine lv_topi (fun v1 ev1 => ?_)
  obtain rfl : v1 = nI (i + 1) := ev1.trans (nI_add _ _)
  refine mp_sld hx hb hX hK hI (vp_in_nI (show (i + 1) < L by omega) (by omega)) d_L_law_575 ?_
  refine lv_topi (fun v2 ev2 => ?_)
  obtain rfl : v2 = xs (i + 1) := ev2.trans (by rw [nI_clamp (by omega)])
  refine lv_aload_n hx hb d_L_law_576 rfl (lv_at hl 1 rfl) ?_
  refine mp_calli hI (lw_runS (As := [.ref o, .int (xs (i + 1)), .ref oa]) (rest := []) ⟨hx, hb, hml, hown, hg⟩ (c_L_multiplicityU l D g S _ o pa v0 v2 v3 v4 v5 v6 an av sv (xs (i + 1)) oa of h_o h_oa hl9 hun) ⟨callBW_of 3 hg (hts _ q_772) rfl rfl (hg _ q_0) (hg _ q_770) (by decide +kernel) ⟨Nat.le_of_ble_eq_true rfl, Nat.le_of_ble_eq_true rfl⟩, hg _ q_771⟩ (mp_pre hI hK [.ref o, .int (xs (i + 1)), .ref oa]) rfl rfl hl.1 rfl (lv_room (Nat.le_of_ble_eq_true rfl)) d_L_law_577 ⟨by omega, by omega⟩) (fun r6 S3 H4 locs p_5 hI => ?_)
  obtain ⟨er6, eS7⟩ := p_5
  rw [eS7] at hI
  have er6 : r6 = nI 1 := er6
  subst er6
  refine lv_istore (lv' := [(5, .int (nI 1)), (4, .int (nI i)), (3, .ref oa), (2, .ref mo), (1, .ref o), (0, .ref b)]) hx hb d_L_law_580 hl (by decide) rfl (fun ls hl => ?_)
  refine lv_aload_n hx hb d_L_law_582 rfl (lv_at hl 3 rfl) ?_
  refine lv_aload_n hx hb d_L_law_583 rfl (lv_at hl 5 rfl) ?_
  refine lv_iload hx hb d_L_law_584 (lv_at hl 1 rfl) ?_
  refine lv_iconst (v := nI 1) hx hb d_L_law_586 (by decide) ?_
  refine lv_iadd hx hb d_L_law_587 ?_
  refine lv_topi (fun v8 ev8 => ?_)
  obtain rfl : v8 = nI (i + 1) := ev8.trans (nI_add _ _)
  refine mp_sld hx hb hX hK hI (vp_in_nI (show (i + 1) < L by omega) (by omega)) d_L_law_588 ?_
  refine lv_topi (fun v9 ev9 => ?_)
  obtain rfl : v9 = xs (i + 1) := ev9.trans (by rw [nI_clamp (by omega)])
  refine mp_calli hI (va_runV (As := [.int (xs (i + 1))]) (rest := []) ⟨hx, hb, hml, hown, hg⟩ (c_M_multiplicityU l D g S _ mo (m0) (m1) (m2) (m4) (m5) (m6) (m7) (m8) (m9) (m10) (m11) (m13) (m14) (m15) (m16) (m17) (m18) (m19) (m20) (m21) (m22) (m23) (m24) (m25) (m26) (m27) (m28) (m29) (m30) th (xs (i + 1)) h_mo) ⟨(callB_of 1 hg (wd_goodG q_1090) rfl rfl rfl (hg _ q_5) (hg _ q_1087) (by decide +kernel) ⟨Nat.le_of_ble_eq_true rfl, Nat.le_of_ble_eq_true rfl⟩), hg _ q_1088, hg _ q_1089⟩ (mp_preV (C := R_M) (T := F_M) hI hK h_mo rfl [.int (xs (i + 1))]) rfl rfl hl.1 rfl (lv_room (Nat.le_of_ble_eq_true rfl)) d_L_law_589 ⟨by omega, by omega⟩) (fun r13 S10 H11 locs p_12 hI => ?_)
  obtain ⟨hq_mo, fq⟩ := p_12
  have h_o : S10 o = some (0, .inr (0, [v0, .ref pa, v2, v3, v4, v5, v6, .int an, .int av, (va_rf sv)])) := (fq o (mp_in h_o) (mp_ne h_o h_mo (by decide))).trans h_o
  have h_oa : S10 oa = some (9, .inl ((g 4), 1, .inr (.inl of))) := (fq oa (mp_in h_oa) (mp_ne h_oa h_mo (by decide))).trans h_oa
  refine lv_istore (lv' := [(6, .int r13), (5, .int (nI 1)), (4, .int (nI i)), (3, .ref oa), (2, .ref mo), (1, .ref o), (0, .ref b)]) hx hb d_L_law_592 hl (by decide) rfl (fun ls hl => ?_)
  refine lv_aload_n hx hb d_L_law_594 rfl (lv_at hl 4 rfl) ?_
  refine mp_calli hI (va_runV (As := []) (rest := []) ⟨hx, hb, hml, hown, hg⟩ (c_M_thrown l D g S10 _ mo (m0) (m1) (m2) (m4) (m5) (m6) (m7) (m8) (m9) (m10) (m11) (.int 0) (m13) (m14) (m15) (m16) (m17) (m18) (m19) (m20) (m21) (m22) (m23) (m24) (m25) (m26) (m27) (m28) (m29) (m30) (nI 1) hq_mo) ⟨(callB_of 0 hg (wd_goodG q_902) rfl rfl rfl (hg _ q_5) (hg _ q_899) (by decide +kernel) ⟨Nat.le_of_ble_eq_true rfl, Nat.le_of_ble_eq_true rfl⟩), hg _ q_900, hg _ q_901⟩ (mp_preV (C := R_M) (T := F_M) hI hK hq_mo rfl []) rfl rfl hl.1 rfl (lv_room (Nat.le_of_ble_eq_true rfl)) d_L_law_595 ⟨by omega, by omega⟩) (fun r17 S14 H15 locs p_16 hI => ?_)
  obtain ⟨er17, eS18⟩ := p_16
  rw [eS18] at hI
  have er17 : r17 = nI 1 := er17
  subst er17
  refine lv_iload hx hb d_L_law_598 (lv_at hl 1 rfl) ?_
  refine lv_icmp_eq (tgt := 605) hx hb d_L_law_600 (by decide) (fun _ => ?_) (fun h9 => absurd (rfl) h9)
  refine lv_iload hx hb d_L_law_605 (lv_at hl 1 rfl) ?_
  refine lv_if_ne (tgt := 622) hx hb d_L_law_607 (by decide) (fun _ => ?_) (fun h9 => absurd h9 (by decide))
  refine lv_goto (tgt := 822) hx hb d_L_law_622 (by decide) ?_
  exact kx S10 _ _ ls hI (lv_sub hl [2, 3, 4, 5, 6] rfl)
set_option maxHeartbeats 4000000 in
set_option maxRecDepth 100000 in
/-- minimal: nothing is known -/
theorem lc_minimalU {p : Program} {l : Launch} {e : Env} {s : State} {m : MethodId} {below : List Frame} {meth : Method} {c : Code} {Q : State → Prop} {D : mp_G} {g : Nat → ClassId} {A : Nat → Prop} {b L i : Nat} {xs : Nat → Int32} {cells slots : Nat} {S : mp_M} {H : Heap} {locs : List Loc} {ls : Array Slot} (hx : p.tables.exec = Jvm.exec) (hb : c.code = b_L_law) (hml : c.maxLocals = 7) (hts : ∀ w ∈ lw_tbl, w.before #[Value.ref b] s = true) (hg : ∀ w ∈ gw, w.before #[Value.ref b] s = true) (hown : s.vm.findClass R_L = some m.cls) (hK : mp_K D classes (tys g) s) (hX : va_X b L xs D.2.1 D.2.1.heap) (hL : L ≤ 3585) (hi : i + 6 < L) (hc : cells + 1 ≤ room_1.cells) (hs : slots + 6 ≤ room_1.slots) (hl9 : l.stackTraces = false) {pa : Nat} {v0 v2 v3 v4 v5 v6 m0 m1 m2 m4 m5 m6 m7 m8 m9 m10 m11 m13 m14 m15 m16 m17 m18 m19 m20 m21 m22 m23 m24 m25 m26 m27 m28 m29 m30 : Value} {an av th : Int32} {sv : Option Nat} {of : Nat → Int64} {oa mo o : Nat} (h_o : S o = some (0, .inr (0, [v0, .ref pa, v2, v3, v4, v5, v6, .int an, .int av, (va_rf sv)]))) (h_mo : S mo = some (2000, .inr (10, [m0, m1, m2, .int th, m4, m5, m6, m7, m8, m9, m10, m11, .int 0, m13, m14, m15, m16, m17, m18, m19, m20, m21, m22, m23, m24, m25, m26, m27, m28, m29, m30]))) (h_oa : S oa = some (9, .inl ((g 4), 1, .inr (.inl of)))) (hun : an = 0 ∨ av < 0 ∨ sv = none) (hI : mp_I D classes A s.heap S H locs) (hl : lv_has ls 7 [(4, .int (nI i)), (3, .ref oa), (2, .ref mo), (1, .ref o), (0, .ref b)]) (kx : ∀ (S : mp_M) (H : Heap) (locs : List Loc) (ls : Array Slot), mp_I D classes A s.heap S H locs → lv_has ls 7 [(4, .int (nI i)), (3, .ref oa), (2, .ref mo), (1, .ref o), (0, .ref b)] → W p l e room_1 s m #[Value.ref b] below meth c H locs (cells + 1) (slots + 6) Q (F0 m 822 ls [])) : W p l e room_1 s m #[Value.ref b] below meth c H locs (cells) (slots) Q (F0 m 625 ls []) := by
  refine lv_aload_n hx hb d_L_law_625 rfl (lv_at hl 3 rfl) ?_
  refine lv_aload_n hx hb d_L_law_626 rfl (lv_at hl 4 rfl) ?_
  refine lv_iload hx hb d_L_law_627 (lv_at hl 0 rfl) ?_
  refine lv_iconst (v := nI 1) hx hb d_L_law_629 (by decide) ?_
  refine lv_iadd hx hb d_L_law_630 ?_
  refine lv_topi (fun v1 ev1 => ?_)
  obtain rfl : v1 = nI (i + 1) := ev1.trans (nI_add _ _)
  refine mp_sld hx hb hX hK hI (vp_in_nI (show (i + 1) < L by omega) (by omega)) d_L_law_631 ?_
  refine lv_topi (fun v2 ev2 => ?_)
  obtain rfl : v2 = xs (i + 1) := ev2.trans (by rw [nI_clamp (by omega)])
  refine lv_aload_n hx hb d_L_law_632 rfl (lv_at hl 4 rfl) ?_
  refine lv_iload hx hb d_L_law_633 (lv_at hl 0 rfl) ?_
  refine lv_iconst (v := nI 2) hx hb d_L_law_635 (by decide) ?_
  refine lv_iadd hx hb d_L_law_636 ?_
  refine lv_topi (fun v3 ev3 => ?_)
  obtain rfl : v3 = nI (i + 2) := ev3.trans (nI_add _ _)
  refine mp_sld hx hb hX hK hI (vp_in_nI (show (i + 2) < L by omega) (by omega)) d_L_law_637 ?_
  refine lv_topi (fun v4 ev4 => ?_)
  obtain rfl : v4 = xs (i + 2) := ev4.trans (by rw [nI_clamp (by omega)])
  refine lv_aload_n hx hb d_L_law_638 rfl (lv_at hl 1 rfl) ?_
  refine mp_calli hI (lw_runS (As := [.ref o, .int (xs (i + 1)), .int (xs (i + 2)), .ref oa]) (rest := []) ⟨hx, hb, hml, hown, hg⟩ (c_L_minimalU l D g S _ o pa v0 v2 v3 v4 v5 v6 an av sv (xs (i + 1)) (xs (i + 2)) oa of h_o h_oa hl9 hun) ⟨callBW_of 4 hg (hts _ q_779) rfl rfl (hg _ q_0) (hg _ q_777) (by decide +kernel) ⟨Nat.le_of_ble_eq_true rfl, Nat.le_of_ble_eq_true rfl⟩, hg _ q_778⟩ (mp_pre hI hK [.ref o, .int (xs (i + 1)), .int (xs (i + 2)), .ref oa]) rfl rfl hl.1 rfl (lv_room (Nat.le_of_ble_eq_true rfl)) d_L_law_639 ⟨by omega, by omega⟩) (fun r8 S5 H6 locs p_7 hI => ?_)
  obtain ⟨er8, eS9⟩ := p_7
  rw [eS9] at hI
  have er8 : r8 = nI 1 := er8
  subst er8
  refine lv_istore (lv' := [(5, .int (nI 1)), (4, .int (nI i)), (3, .ref oa), (2, .ref mo), (1, .ref o), (0, .ref b)]) hx hb d_L_law_642 hl (by decide) rfl (fun ls hl => ?_)
  refine lv_aload_n hx hb d_L_law_644 rfl (lv_at hl 3 rfl) ?_
  refine lv_aload_n hx hb d_L_law_645 rfl (lv_at hl 5 rfl) ?_
  refine lv_iload hx hb d_L_law_646 (lv_at hl 1 rfl) ?_
  refine lv_iconst (v := nI 1) hx hb d_L_law_648 (by decide) ?_
  refine lv_iadd hx hb d_L_law_649 ?_
  refine lv_topi (fun v10 ev10 => ?_)
  obtain rfl : v10 = nI (i + 1) := ev10.trans (nI_add _ _)
  refine mp_sld hx hb hX hK hI (vp_in_nI (show (i + 1) < L by omega) (by omega)) d_L_law_650 ?_
  refine lv_topi (fun v11 ev11 => ?_)
  obtain rfl : v11 = xs (i + 1) := ev11.trans (by rw [nI_clamp (by omega)])
  refine lv_aload_n hx hb d_L_law_651 rfl (lv_at hl 5 rfl) ?_
  refine lv_iload hx hb d_L_law_652 (lv_at hl 1 rfl) ?_
  refine lv_iconst (v := nI 2) hx hb d_L_law_654 (by decide) ?_
  refine lv_iadd hx hb d_L_law_655 ?_
  refine lv_topi (fun v12 ev12 => ?_)
  obtain rfl : v12 = nI (i + 2) := ev12.trans (nI_add _ _)
  refine mp_sld hx hb hX hK hI (vp_in_nI (show (i + 2) < L by omega) (by omega)) d_L_law_656 ?_
  refine lv_topi (fun v13 ev13 => ?_)
  obtain rfl : v13 = xs (i + 2) := ev13.trans (by rw [nI_clamp (by omega)])
  refine mp_calli hI (va_runV (As := [.int (xs (i + 1)), .int (xs (i + 2))]) (rest := []) ⟨hx, hb, hml, hown, hg⟩ (c_M_minimalU l D g S _ mo (m0) (m1) (m2) (m4) (m5) (m6) (m7) (m8) (m9) (m10) (m11) (m13) (m14) (m15) (m16) (m17) (m18) (m19) (m20) (m21) (m22) (m23) (m24) (m25) (m26) (m27) (m28) (m29) (m30) th (xs (i + 1)) (xs (i + 2)) h_mo) ⟨(callB_of 2 hg (wd_goodG q_1094) rfl rfl rfl (hg _ q_5) (hg _ q_1091) (by decide +kernel) ⟨Nat.le_of_ble_eq_true rfl, Nat.le_of_ble_eq_true rfl⟩), hg _ q_1092, hg _ q_1093⟩ (mp_preV (C := R_M) (T := F_M) hI hK h_mo rfl [.int (xs (i + 1)), .int (xs (i + 2))]) rfl rfl hl.1 rfl (lv_room (Nat.le_of_ble_eq_true rfl)) d_L_law_657 ⟨by omega, by omega⟩) (fun r17 S14 H15 locs p_16 hI => ?_)
  obtain ⟨hq_mo, fq⟩ := p_16
  have h_o : S14 o = some (0, .inr (0, [v0, .ref pa, v2, v3, v4, v5, v6, .int an, .int av, (va_rf sv)])) := (fq o (mp_in h_o) (mp_ne h_o h_mo (by decide))).trans h_o
  have h_oa : S14 oa = some (9, .inl ((g 4), 1, .inr (.inl of))) := (fq oa (mp_in h_oa) (mp_ne h_oa h_mo (by decide))).trans h_oa
  refine lv_istore (lv' := [(6, .int r17), (5, .int (nI 1)), (4, .int (nI i)), (3, .ref oa), (2, .ref mo), (1, .ref o), (0, .ref b)]) hx hb d_L_law_660 hl (by decide) rfl (fun ls hl => ?_)
  refine lv_aload_n hx hb d_L_law_662 rfl (lv_at hl 4 rfl) ?_
  refine mp_calli hI (va_runV (As := []) (rest := []) ⟨hx, hb, hml, hown, hg⟩ (c_M_thrown l D g S14 _ mo (m0) (m1) (m2) (m4) (m5) (m6) (m7) (m8) (m9) (m10) (m11) (.int 0) (m13) (m14) (m15) (m16) (m17) (m18) (m19) (m20) (m21) (m22) (m23) (m24) (m25) (m26) (m27) (m28) (m29) (m30) (nI 1) hq_mo) ⟨(callB_of 0 hg (wd_goodG q_902) rfl rfl rfl (hg _ q_5) (hg _ q_899) (by decide +kernel) ⟨Nat.le_of_ble_eq_true rfl, Nat.le_of_ble_eq_true rfl⟩), hg _ q_900, hg _ q_901⟩ (mp_preV (C := R_M) (T := F_M) hI hK hq_mo rfl []) rfl rfl hl.1 rfl (lv_room (Nat.le_of_ble_eq_true rfl)) d_L_law_663 ⟨by omega, by omega⟩) (fun r21 S18 H19 locs p_20 hI => ?_)
  obtain ⟨er21, eS22⟩ := p_20
  rw [eS22] at hI
  have er21 : r21 = nI 1 := er21
  subst er21
  refine lv_iload hx hb d_L_law_666 (lv_at hl 1 rfl) ?_
  refine lv_icmp_eq (tgt := 673) hx hb d_L_law_668 (by decide) (fun _ => ?_) (fun h9 => absurd (rfl) h9)
  refine lv_iload hx hb d_L_law_673 (lv_at hl 1 rfl) ?_
  refine lv_if_ne (tgt := 690) hx hb d_L_law_675 (by decide) (fun _ => ?_) (fun h9 => absurd h9 (by decide))
  refine lv_goto (tgt := 822) hx hb d_L_law_690 (by decide) ?_
  exact kx S14 _ _ ls hI (lv_sub hl [2, 3, 4, 5, 6] rfl)
set_option maxHeartbeats 4000000 in
set_option maxRecDepth 100000 in
/-- value: nothing is known -/
theorem lc_valueU {p : Program} {l : Launch} {e : Env} {s : State} {m : MethodId} {below : List Frame} {meth : Method} {c : Code} {Q : State → Prop} {D : mp_G} {g : Nat → ClassId} {A : Nat → Prop} {b L i : Nat} {xs : Nat → Int32} {cells slots : Nat} {S : mp_M} {H : Heap} {locs : List Loc} {ls : Array Slot} (hx : p.tables.exec = Jvm.exec) (hb : c.code = b_L_law) (hml : c.maxLocals = 7) (hts : ∀ w ∈ lw_tbl, w.before #[Value.ref b] s = true) (hg : ∀ w ∈ gw, w.before #[Value.ref b] s = true) (hown : s.vm.findClass R_L = some m.cls) (hK : mp_K D classes (tys g) s) (hX : va_X b L xs D.2.1 D.2.1.heap) (hL : L ≤ 3585) (hi : i + 6 < L) (hc : cells + 1 ≤ room_1.cells) (hs : slots + 6 ≤ room_1.slots) (hl9 : l.stackTraces = false) {pa : Nat} {v0 v2 v3 v4 v5 v6 m0 m1 m2 m4 m5 m6 m7 m8 m9 m10 m11 m13 m14 m15 m16 m17 m18 m19 m20 m21 m22 m23 m24 m25 m26 m27 m28 m29 m30 : Value} {an av th : Int32} {sv : Option Nat} {of : Nat → Int64} {oa mo o : Nat} (h_o : S o = some (0, .inr (0, [v0, .ref pa, v2, v3, v4, v5, v6, .int an, .int av, (va_rf sv)]))) (h_mo : S mo = some (2000, .inr (10, [m0, m1, m2, .int th, m4, m5, m6, m7, m8, m9, m10, m11, .int 0, m13, m14, m15, m16, m17, m18, m19, m20, m21, m22, m23, m24, m25, m26, m27, m28, m29, m30]))) (h_oa : S oa = some (9, .inl ((g 4), 1, .inr (.inl of)))) (hun : an = 0 ∨ av < 0 ∨ sv = none) (hI : mp_I D classes A s.heap S H locs) (hl : lv_has ls 7 [(4, .int (nI i)), (3, .ref oa), (2, .ref mo), (1, .ref o), (0, .ref b)]) (kx : ∀ (S : mp_M) (H : Heap) (locs : List Loc) (ls : Array Slot), mp_I D classes A s.heap S H locs → lv_has ls 7 [(4, .int (nI i)), (3, .ref oa), (2, .ref mo), (1, .ref o), (0, .ref b)] → W p l e room_1 s m #[Value.ref b] below meth c H locs (cells + 1) (slots + 6) Q (F0 m 822 ls [])) : W p l e room_1 s m #[Value.ref b] below meth c H locs (cells) (slots) Q (F0 m 693 ls []) := by
  refine lv_aload_n hx hb d_L_law_693 rfl (lv_at hl 3 rfl) ?_
  refine lv_aload_n hx hb d_L_law_694 rfl (lv_at hl 4 rfl) ?_
  refine lv_iload hx hb d_L_law_695 (lv_at hl 0 rfl) ?_
  refine lv_iconst (v := nI 1) hx hb d_L_law_697 (by decide) ?_
  refine lv_iadd hx hb d_L_law_698 ?_
  refine lv_topi (fun v1 ev1 => ?_)
  obtain rfl : v1 = nI (i + 1) := ev1.trans (nI_add _ _)
  refine mp_sld hx hb hX hK hI (vp_in_nI (show (i + 1) < L by omega) (by omega)) d_L_law_699 ?_
  refine lv_topi (fun v2 ev2 => ?_)
  obtain rfl : v2 = xs (i + 1) := ev2.trans (by rw [nI_clamp (by omega)])
  refine lv_aload_n hx hb d_L_law_700 rfl (lv_at hl 4 rfl) ?_
  refine lv_iload hx hb d_L_law_701 (lv_at hl 0 rfl) ?_
  refine lv_iconst (v := nI 2) hx hb d_L_law_703 (by decide) ?_
  refine lv_iadd hx hb d_L_law_704 ?_
  refine lv_topi (fun v3 ev3 => ?_)
  obtain rfl : v3 = nI (i + 2) := ev3.trans (nI_add _ _)
  refine mp_sld hx hb hX hK hI (vp_in_nI (show (i + 2) < L by omega) (by omega)) d_L_law_705 ?_
  refine lv_topi (fun v4 ev4 => ?_)
  obtain rfl : v4 = xs (i + 2) := ev4.trans (by rw [nI_clamp (by omega)])
  refine lv_aload_n hx hb d_L_law_706 rfl (lv_at hl 1 rfl) ?_
  refine mp_calli hI (lw_runS (As := [.ref o, .int (xs (i + 1)), .int (xs (i + 2)), .ref oa]) (rest := []) ⟨hx, hb, hml, hown, hg⟩ (c_L_valueU l D g S _ o pa v0 v2 v3 v4 v5 v6 an av sv (xs (i + 1)) (xs (i + 2)) oa of h_o h_oa hl9 hun) ⟨callBW_of 4 hg (hts _ q_790) rfl rfl (hg _ q_0) (hg _ q_788) (by decide +kernel) ⟨Nat.le_of_ble_eq_true rfl, Nat.le_of_ble_eq_true rfl⟩, hg _ q_789⟩ (mp_pre hI hK [.ref o, .int (xs (i + 1)), .int (xs (i + 2)), .ref oa]) rfl rfl hl.1 rfl (lv_room (Nat.le_of_ble_eq_true rfl)) d_L_law_707 ⟨by omega, by omega⟩) (fun r8 S5 H6 locs p_7 hI => ?_)
  obtain ⟨er8, eS9⟩ := p_7
  rw [eS9] at hI
  have er8 : r8 = nI 1 := er8
  subst er8
  refine lv_istore (lv' := [(5, .int (nI 1)), (4, .int (nI i)), (3, .ref oa), (2, .ref mo), (1, .ref o), (0, .ref b)]) hx hb d_L_law_710 hl (by decide) rfl (fun ls hl => ?_)
  refine lv_aload_n hx hb d_L_law_712 rfl (lv_at hl 3 rfl) ?_
  refine lv_aload_n hx hb d_L_law_713 rfl (lv_at hl 5 rfl) ?_
  refine lv_iload hx hb d_L_law_714 (lv_at hl 1 rfl) ?_
  refine lv_iconst (v := nI 1) hx hb d_L_law_716 (by decide) ?_
  refine lv_iadd hx hb d_L_law_717 ?_
  refine lv_topi (fun v10 ev10 => ?_)
  obtain rfl : v10 = nI (i + 1) := ev10.trans (nI_add _ _)
  refine mp_sld hx hb hX hK hI (vp_in_nI (show (i + 1) < L by omega) (by omega)) d_L_law_718 ?_
  refine lv_topi (fun v11 ev11 => ?_)
  obtain rfl : v11 = xs (i + 1) := ev11.trans (by rw [nI_clamp (by omega)])
  refine lv_aload_n hx hb d_L_law_719 rfl (lv_at hl 5 rfl) ?_
  refine lv_iload hx hb d_L_law_720 (lv_at hl 1 rfl) ?_
  refine lv_iconst (v := nI 2) hx hb d_L_law_722 (by decide) ?_
  refine lv_iadd hx hb d_L_law_723 ?_
  refine lv_topi (fun v12 ev12 => ?_)
  obtain rfl : v12 = nI (i + 2) := ev12.trans (nI_add _ _)
  refine mp_sld hx hb hX hK hI (vp_in_nI (show (i + 2) < L by omega) (by omega)) d_L_law_724 ?_
  refine lv_topi (fun v13 ev13 => ?_)
  obtain rfl : v13 = xs (i + 2) := ev13.trans (by rw [nI_clamp (by omega)])
  refine mp_calli hI (va_runV (As := [.int (xs (i + 1)), .int (xs (i + 2))]) (rest := []) ⟨hx, hb, hml, hown, hg⟩ (c_M_valueU l D g S _ mo (m0) (m1) (m2) (m4) (m5) (m6) (m7) (m8) (m9) (m10) (m11) (m13) (m14) (m15) (m16) (m17) (m18) (m19) (m20) (m21) (m22) (m23) (m24) (m25) (m26) (m27) (m28) (m29) (m30) th (xs (i + 1)) (xs (i + 2)) h_mo) ⟨(callB_of 2 hg (wd_goodG q_1098) rfl rfl rfl (hg _ q_5) (hg _ q_1095) (by decide +kernel) ⟨Nat.le_of_ble_eq_true rfl, Nat.le_of_ble_eq_true rfl⟩), hg _ q_1096, hg _ q_1097⟩ (mp_preV (C := R_M) (T := F_M) hI hK h_mo rfl [.int (xs (i + 1)), .int (xs (i + 2))]) rfl rfl hl.1 rfl (lv_room (Nat.le_of_ble_eq_true rfl)) d_L_law_725 ⟨by omega, by omega⟩) (fun r17 S14 H15 locs p_16 hI => ?_)
  obtain ⟨hq_mo, fq⟩ := p_16
  have h_o : S14 o = some (0, .inr (0, [v0, .ref pa, v2, v3, v4, v5, v6, .int an, .int av, (va_rf sv)])) := (fq o (mp_in h_o) (mp_ne h_o h_mo (by decide))).trans h_o
  have h_oa : S14 oa = some (9, .inl ((g 4), 1, .inr (.inl of))) := (fq oa (mp_in h_oa) (mp_ne h_oa h_mo (by decide))).trans h_oa
  refine lv_istore (lv' := [(6, .int r17), (5, .int (nI 1)), (4, .int (nI i)), (3, .ref oa), (2, .ref mo), (1, .ref o), (0, .ref b)]) hx hb d_L_law_728 hl (by decide) rfl (fun ls hl => ?_)
  refine lv_aload_n hx hb d_L_law_730 rfl (lv_at hl 4 rfl) ?_
  refine mp_calli hI (va_runV (As := []) (rest := []) ⟨hx, hb, hml, hown, hg⟩ (c_M_thrown l D g S14 _ mo (m0) (m1) (m2) (m4) (m5) (m6) (m7) (m8) (m9) (m10) (m11) (.int 0) (m13) (m14) (m15) (m16) (m17) (m18) (m19) (m20) (m21) (m22) (m23) (m24) (m25) (m26) (m27) (m28) (m29) (m30) (nI 1) hq_mo) ⟨(callB_of 0 hg (wd_goodG q_902) rfl rfl rfl (hg _ q_5) (hg _ q_899) (by decide +kernel) ⟨Nat.le_of_ble_eq_true rfl, Nat.le_of_ble_eq_true rfl⟩), hg _ q_900, hg _ q_901⟩ (mp_preV (C := R_M) (T := F_M) hI hK hq_mo rfl []) rfl rfl hl.1 rfl (lv_room (Nat.le_of_ble_eq_true rfl)) d_L_law_731 ⟨by omega, by omega⟩) (fun r21 S18 H19 locs p_20 hI => ?_)
  obtain ⟨er21, eS22⟩ := p_20
  rw [eS22] at hI
  have er21 : r21 = nI 1 := er21
  subst er21
  refine lv_iload hx hb d_L_law_734 (lv_at hl 1 rfl) ?_
  refine lv_icmp_eq (tgt := 741) hx hb d_L_law_736 (by decide) (fun _ => ?_) (fun h9 => absurd (rfl) h9)
  refine lv_iload hx hb d_L_law_741 (lv_at hl 1 rfl) ?_
  refine lv_if_ne (tgt := 758) hx hb d_L_law_743 (by decide) (fun _ => ?_) (fun h9 => absurd h9 (by decide))
  refine lv_goto (tgt := 822) hx hb d_L_law_758 (by decide) ?_
  exact kx S14 _ _ ls hI (lv_sub hl [2, 3, 4, 5, 6] rfl)
set_option maxHeartbeats 4000000 in
set_option maxRecDepth 100000 in
/-- count -/
theorem lc_count {p : Program} {l : Launch} {e : Env} {s : State} {m : MethodId} {below : List Frame} {meth : Method} {c : Code} {Q : State → Prop} {D : mp_G} {g : Nat → ClassId} {A : Nat → Prop} {b L i : Nat} {xs : Nat → Int32} {cells slots : Nat} {S : mp_M} {H : Heap} {locs : List Loc} {ls : Array Slot} (hx : p.tables.exec = Jvm.exec) (hb : c.code = b_L_law) (hml : c.maxLocals = 7) (hts : ∀ w ∈ lw_tbl, w.before #[Value.ref b] s = true) (hg : ∀ w ∈ gw, w.before #[Value.ref b] s = true) (hown : s.vm.findClass R_L = some m.cls) (hK : mp_K D classes (tys g) s) (hX : va_X b L xs D.2.1 D.2.1.heap) (hL : L ≤ 3585) (hi : i + 6 < L) (hc : cells + 0 ≤ room_1.cells) (hs : slots + 0 ≤ room_1.slots) (hl9 : l.stackTraces = false) {pa : Nat} {v2 v3 v6 v7 v8 v9 m4 m5 m6 m7 m8 m9 m10 m11 m12 m13 m14 m15 m16 m17 m18 m19 m20 m21 m22 m23 m24 m25 m26 m27 m28 m29 m30 : Value} {n gv tk th : Int32} {oa mo o : Nat} (h_o : S o = some (0, .inr (0, [.int n, .ref pa, v2, v3, .int gv, .int tk, v6, v7, v8, v9]))) (h_mo : S mo = some (2000, .inr (10, [.int n, .int gv, .int tk, .int th, m4, m5, m6, m7, m8, m9, m10, m11, m12, m13, m14, m15, m16, m17, m18, m19, m20, m21, m22, m23, m24, m25, m26, m27, m28, m29, m30])))  (hI : mp_I D classes A s.heap S H locs) (hl : lv_has ls 7 [(4, .int (nI i)), (3, .ref oa), (2, .ref mo), (1, .ref o), (0, .ref b)]) (kx : ∀ (S : mp_M) (H : Heap) (locs : List Loc) (ls : Array Slot), mp_I D classes A s.heap S H locs → lv_has ls 7 [(4, .int (nI i)), (3, .ref oa), (2, .ref mo), (1, .ref o), (0, .ref b)] → W p l e room_1 s m #[Value.ref b] below meth c H locs (cells) (slots) Q (F0 m 822 ls [])) : W p l e room_1 s m #[Value.ref b] below meth c H locs (cells) (slots) Q (F0 m 797 ls []) := by
  refine lv_aload_n hx hb d_L_law_797 rfl (lv_at hl 3 rfl) ?_
  refine lv_aload_n hx hb d_L_law_798 rfl (lv_at hl 4 rfl) ?_
  refine lv_iload hx hb d_L_law_799 (lv_at hl 0 rfl) ?_
  refine lv_iconst (v := nI 1) hx hb d_L_law_801 (by decide) ?_
  refine lv_iadd hx hb d_L_law_802 ?_
  refine lv_topi (fun v1 ev1 => ?_)
  obtain rfl : v1 = nI (i + 1) := ev1.trans (nI_add _ _)
  refine mp_sld hx hb hX hK hI (vp_in_nI (show (i + 1) < L by omega) (by omega)) d_L_law_803 ?_
  refine lv_topi (fun v2 ev2 => ?_)
  obtain rfl : v2 = xs (i + 1) := ev2.trans (by rw [nI_clamp (by omega)])
  refine mp_calli hI (va_runV (As := [.int (xs (i + 1))]) (rest := []) ⟨hx, hb, hml, hown, hg⟩ (c_B_count l D g S _ o pa v2 v3 v6 v7 v8 v9 n gv tk (xs (i + 1)) h_o) ⟨(callB_of 1 hg (wd_goodG q_538) rfl rfl rfl (hg _ q_1) (hg _ q_535) (by decide +kernel) ⟨Nat.le_of_ble_eq_true rfl, Nat.le_of_ble_eq_true rfl⟩), hg _ q_536, hg _ q_537⟩ (mp_preV (C := R_B) (T := F_B) hI hK h_o rfl [.int (xs (i + 1))]) rfl rfl hl.1 rfl (lv_room (Nat.le_of_ble_eq_true rfl)) d_L_law_804 ⟨by omega, by omega⟩) (fun r6 S3 H4 locs p_5 hI => ?_)
  obtain ⟨er6, eS7⟩ := p_5
  rw [eS7] at hI
  have er6 : r6 = (if xs (i + 1) = 0 then gv else if xs (i + 1) = 1 then tk else if xs (i + 1) = 2 then n else -1) := er6
  subst er6
  refine lv_aload_n hx hb d_L_law_807 rfl (lv_at hl 2 rfl) ?_
  refine lv_aload_n hx hb d_L_law_808 rfl (lv_at hl 4 rfl) ?_
  refine lv_iload hx hb d_L_law_809 (lv_at hl 0 rfl) ?_
  refine lv_iconst (v := nI 1) hx hb d_L_law_811 (by decide) ?_
  refine lv_iadd hx hb d_L_law_812 ?_
  refine lv_topi (fun v8 ev8 => ?_)
  obtain rfl : v8 = nI (i + 1) := ev8.trans (nI_add _ _)
  refine mp_sld hx hb hX hK hI (vp_in_nI (show (i + 1) < L by omega) (by omega)) d_L_law_813 ?_
  refine lv_topi (fun v9 ev9 => ?_)
  obtain rfl : v9 = xs (i + 1) := ev9.trans (by rw [nI_clamp (by omega)])
  refine mp_calli hI (va_runV (As := [.int (xs (i + 1))]) (rest := [.int (if xs (i + 1) = 0 then gv else if xs (i + 1) = 1 then tk else if xs (i + 1) = 2 then n else -1)]) ⟨hx, hb, hml, hown, hg⟩ (c_M_count l D g S _ mo (m4) (m5) (m6) (m7) (m8) (m9) (m10) (m11) (m12) (m13) (m14) (m15) (m16) (m17) (m18) (m19) (m20) (m21) (m22) (m23) (m24) (m25) (m26) (m27) (m28) (m29) (m30) n gv tk th (xs (i + 1)) h_mo) ⟨(callB_of 1 hg (wd_goodG q_1106) rfl rfl rfl (hg _ q_5) (hg _ q_1103) (by decide +kernel) ⟨Nat.le_of_ble_eq_true rfl, Nat.le_of_ble_eq_true rfl⟩), hg _ q_1104, hg _ q_1105⟩ (mp_preV (C := R_M) (T := F_M) hI hK h_mo rfl [.int (xs (i + 1))]) rfl rfl hl.1 rfl (lv_room (Nat.le_of_ble_eq_true rfl)) d_L_law_814 ⟨by omega, by omega⟩) (fun r13 S10 H11 locs p_12 hI => ?_)
  obtain ⟨er13, hq_mo, fq⟩ := p_12
  have h_o : S10 o = some (0, .inr (0, [.int n, .ref pa, v2, v3, .int gv, .int tk, v6, v7, v8, v9])) := (fq o (mp_in h_o) (mp_ne h_o h_mo (by decide))).trans h_o
  refine lv_icmp_eq (tgt := 822) hx hb d_L_law_817 (by decide) (fun _ => ?_) (fun h9 => absurd (er13.symm) h9)
  exact kx S10 _ _ ls hI (lv_sub hl [0, 1, 2, 3, 4] rfl)
set_option maxHeartbeats 4000000 in
set_option maxRecDepth 100000 in
/-- free: run was not asked -/
theorem lc_free0 {p : Program} {l : Launch} {e : Env} {s : State} {m : MethodId} {below : List Frame} {meth : Method} {c : Code} {Q : State → Prop} {D : mp_G} {g : Nat → ClassId} {A : Nat → Prop} {b L i : Nat} {xs : Nat → Int32} {cells slots : Nat} {S : mp_M} {H : Heap} {locs : List Loc} {ls : Array Slot} (hx : p.tables.exec = Jvm.exec) (hb : c.code = b_L_law) (hml : c.maxLocals = 7) (hts : ∀ w ∈ lw_tbl, w.before #[Value.ref b] s = true) (hg : ∀ w ∈ gw, w.before #[Value.ref b] s = true) (hown : s.vm.findClass R_L = some m.cls) (hK : mp_K D classes (tys g) s) (hX : va_X b L xs D.2.1 D.2.1.heap) (hL : L ≤ 3585) (hi : i + 6 < L) (hc : cells + 0 ≤ room_1.cells) (hs : slots + 0 ≤ room_1.slots) (hl9 : l.stackTraces = false) {pa fa n : Nat} {v0 v2 v4 v5 v7 v8 v9 m1 m2 m4 m5 m6 m7 m8 m9 m10 m11 m12 m14 m15 m16 m17 m18 m19 m20 m21 m22 m23 m24 m25 m26 m27 m28 m29 m30 : Value} {th : Int32} {ff : Nat → Int32} {oa mo o : Nat} (h_o : S o = some (0, .inr (0, [v0, .ref pa, v2, .ref fa, v4, v5, .int (nI 0), v7, v8, v9]))) (h_fa : S fa = some (3, .inl ((g 0), 3, .inl ff))) (h_mo : S mo = some (2000, .inr (10, [.int (nI n), m1, m2, .int th, m4, m5, m6, m7, m8, m9, m10, m11, m12, .int 0, m14, m15, m16, m17, m18, m19, m20, m21, m22, m23, m24, m25, m26, m27, m28, m29, m30]))) (hn : n ≤ 3) (hI : mp_I D classes A s.heap S H locs) (hl : lv_has ls 7 [(4, .int (nI i)), (3, .ref oa), (2, .ref mo), (1, .ref o), (0, .ref b)]) (kx : ∀ (S : mp_M) (H : Heap) (locs : List Loc) (ls : Array Slot), mp_I D classes A s.heap S H locs → lv_has ls 7 [(4, .int (nI i)), (3, .ref oa), (2, .ref mo), (1, .ref o), (0, .ref b)] → W p l e room_1 s m #[Value.ref b] below meth c H locs (cells) (slots) Q (F0 m 822 ls [])) : W p l e room_1 s m #[Value.ref b] below meth c H locs (cells) (slots) Q (F0 m 761 ls []) := by
  refine lv_aload_n hx hb d_L_law_761 rfl (lv_at hl 3 rfl) ?_
  refine lv_aload_n hx hb d_L_law_762 rfl (lv_at hl 4 rfl) ?_
  refine lv_iload hx hb d_L_law_763 (lv_at hl 0 rfl) ?_
  refine lv_iconst (v := nI 1) hx hb d_L_law_765 (by decide) ?_
  refine lv_iadd hx hb d_L_law_766 ?_
  refine lv_topi (fun v1 ev1 => ?_)
  obtain rfl : v1 = nI (i + 1) := ev1.trans (nI_add _ _)
  refine mp_sld hx hb hX hK hI (vp_in_nI (show (i + 1) < L by omega) (by omega)) d_L_law_767 ?_
  refine lv_topi (fun v2 ev2 => ?_)
  obtain rfl : v2 = xs (i + 1) := ev2.trans (by rw [nI_clamp (by omega)])
  refine mp_calli hI (va_runV (As := [.int (xs (i + 1))]) (rest := []) ⟨hx, hb, hml, hown, hg⟩ (c_B_freeN l D g S _ o pa fa 0 v0 v2 v4 v5 v7 v8 v9 ff (xs (i + 1)) h_o h_fa (i32_tot _)) ⟨(callB_of 1 hg (wd_goodG q_526) rfl rfl rfl (hg _ q_1) (hg _ q_523) (by decide +kernel) ⟨Nat.le_of_ble_eq_true rfl, Nat.le_of_ble_eq_true rfl⟩), hg _ q_524, hg _ q_525⟩ (mp_preV (C := R_B) (T := F_B) hI hK h_o rfl [.int (xs (i + 1))]) rfl rfl hl.1 rfl (lv_room (Nat.le_of_ble_eq_true rfl)) d_L_law_768 ⟨by omega, by omega⟩) (fun r6 S3 H4 locs p_5 hI => ?_)
  obtain ⟨er6, eS7⟩ := p_5
  rw [eS7] at hI
  have er6 : r6 = (-1) := er6
  subst er6
  refine lv_aload_n hx hb d_L_law_771 rfl (lv_at hl 2 rfl) ?_
  refine lv_aload_n hx hb d_L_law_772 rfl (lv_at hl 4 rfl) ?_
  refine lv_iload hx hb d_L_law_773 (lv_at hl 0 rfl) ?_
  refine lv_iconst (v := nI 1) hx hb d_L_law_775 (by decide) ?_
  refine lv_iadd hx hb d_L_law_776 ?_
  refine lv_topi (fun v8 ev8 => ?_)
  obtain rfl : v8 = nI (i + 1) := ev8.trans (nI_add _ _)
  refine mp_sld hx hb hX hK hI (vp_in_nI (show (i + 1) < L by omega) (by omega)) d_L_law_777 ?_
  refine lv_topi (fun v9 ev9 => ?_)
  obtain rfl : v9 = xs (i + 1) := ev9.trans (by rw [nI_clamp (by omega)])
  refine mp_calli hI (va_runV (As := [.int (xs (i + 1))]) (rest := [.int (-1)]) ⟨hx, hb, hml, hown, hg⟩ (c_M_freeU l D g S _ mo n (m1) (m2) (m4) (m5) (m6) (m7) (m8) (m9) (m10) (m11) (m12) (m14) (m15) (m16) (m17) (m18) (m19) (m20) (m21) (m22) (m23) (m24) (m25) (m26) (m27) (m28) (m29) (m30) th (xs (i + 1)) h_mo hn) ⟨(callB_of 1 hg (wd_goodG q_1102) rfl rfl rfl (hg _ q_5) (hg _ q_1099) (by decide +kernel) ⟨Nat.le_of_ble_eq_true rfl, Nat.le_of_ble_eq_true rfl⟩), hg _ q_1100, hg _ q_1101⟩ (mp_preV (C := R_M) (T := F_M) hI hK h_mo rfl [.int (xs (i + 1))]) rfl rfl hl.1 rfl (lv_room (Nat.le_of_ble_eq_true rfl)) d_L_law_778 ⟨by omega, by omega⟩) (fun r13 S10 H11 locs p_12 hI => ?_)
  obtain ⟨er13, hq_mo, fq⟩ := p_12
  have h_o : S10 o = some (0, .inr (0, [v0, .ref pa, v2, .ref fa, v4, v5, .int (nI 0), v7, v8, v9])) := (fq o (mp_in h_o) (mp_ne h_o h_mo (by decide))).trans h_o
  have h_fa : S10 fa = some (3, .inl ((g 0), 3, .inl ff)) := (fq fa (mp_in h_fa) (mp_ne h_fa h_mo (by decide))).trans h_fa
  refine lv_icmp_eq (tgt := 822) hx hb d_L_law_781 (by decide) (fun _ => ?_) (fun h9 => absurd (er13.symm) h9)
  exact kx S10 _ _ ls hI (lv_sub hl [0, 1, 2, 3, 4] rfl)
set_option maxHeartbeats 4000000 in
set_option maxRecDepth 100000 in
/-- clear -/
theorem lc_clear {p : Program} {l : Launch} {e : Env} {s : State} {m : MethodId} {below : List Frame} {meth : Method} {c : Code} {Q : State → Prop} {D : mp_G} {g : Nat → ClassId} {A : Nat → Prop} {b L i : Nat} {xs : Nat → Int32} {cells slots : Nat} {S : mp_M} {H : Heap} {locs : List Loc} {ls : Array Slot} (hx : p.tables.exec = Jvm.exec) (hb : c.code = b_L_law) (hml : c.maxLocals = 7) (hts : ∀ w ∈ lw_tbl, w.before #[Value.ref b] s = true) (hg : ∀ w ∈ gw, w.before #[Value.ref b] s = true) (hown : s.vm.findClass R_L = some m.cls) (hK : mp_K D classes (tys g) s) (hX : va_X b L xs D.2.1 D.2.1.heap) (hL : L ≤ 3585) (hi : i + 6 < L) (hc : cells + 0 ≤ room_1.cells) (hs : slots + 0 ≤ room_1.slots) (hl9 : l.stackTraces = false) {pa lo mp : Nat} {v0 v3 v4 v5 v6 v7 v8 v9 u0 u1 u2 m0 m1 m2 m3 m5 m6 m7 m8 m9 m10 m11 m12 m13 m14 m15 m16 m17 m18 m19 m20 m21 m22 m23 m24 m25 m26 m27 m28 m29 m30 : Value} {eo ek en cap pz : Nat → Nat} {kf nf : Nat → Nat → Int32} {pf : Nat → Int32} {oa mo o : Nat} (h_o : S o = some (0, .inr (0, [v0, .ref pa, .ref lo, v3, v4, v5, v6, v7, v8, v9]))) (h_pa : S pa = some (1, .inl ((g 2), 40, .inr (.inr (.inr (.inr (rfs eo 40))))))) (h_lo : S lo = some (2, .inr (9, [u0, u1, u2]))) (h_mo : S mo = some (2000, .inr (10, [m0, m1, m2, m3, .ref mp, m5, m6, m7, m8, m9, m10, m11, m12, m13, m14, m15, m16, m17, m18, m19, m20, m21, m22, m23, m24, m25, m26, m27, m28, m29, m30]))) (h_mp : S mp = some (2001, .inl ((g 0), 40000, .inl pf))) (hE : yS g 100 40 eo ek en cap pz kf nf S) (hI : mp_I D classes A s.heap S H locs) (hl : lv_has ls 7 [(4, .int (nI i)), (3, .ref oa), (2, .ref mo), (1, .ref o), (0, .ref b)]) (kx : ∀ (S : mp_M) (H : Heap) (locs : List Loc) (ls : Array Slot), mp_I D classes A s.heap S H locs → lv_has ls 7 [(4, .int (nI i)), (3, .ref oa), (2, .ref mo), (1, .ref o), (0, .ref b)] → W p l e room_1 s m #[Value.ref b] below meth c H locs (cells) (slots) Q (F0 m 822 ls [])) : W p l e room_1 s m #[Value.ref b] below meth c H locs (cells) (slots) Q (F0 m 786 ls []) := by
  refine lv_aload_n hx hb d_L_law_786 rfl (lv_at hl 3 rfl) ?_
  refine mp_callv hI (va_runV (As := []) (rest := []) ⟨hx, hb, hml, hown, hg⟩ (c_B_clear l D g S _ o pa lo v0 v3 v4 v5 v6 v7 v8 v9 u0 u1 u2 eo ek en cap pz kf nf h_o h_pa h_lo hE) ⟨(callB_of 0 hg (wd_goodG q_530) rfl rfl rfl (hg _ q_1) (hg _ q_527) (by decide +kernel) ⟨Nat.le_of_ble_eq_true rfl, Nat.le_of_ble_eq_true rfl⟩), hg _ q_528, hg _ q_529⟩ (mp_preV (C := R_B) (T := F_B) hI hK h_o rfl []) rfl rfl hl.1 rfl (lv_room (Nat.le_of_ble_eq_true rfl)) d_L_law_787 ⟨by omega, by omega⟩) (fun S1 H2 locs p_3 hI => ?_)
  obtain ⟨_, _, _, fq⟩ := p_3
  have h_mo : S1 mo = some (2000, .inr (10, [m0, m1, m2, m3, .ref mp, m5, m6, m7, m8, m9, m10, m11, m12, m13, m14, m15, m16, m17, m18, m19, m20, m21, m22, m23, m24, m25, m26, m27, m28, m29, m30])) := (fq mo _ _ h_mo (by decide) (by decide) (Or.inr (by decide))).trans h_mo
  have h_mp : S1 mp = some (2001, .inl ((g 0), 40000, .inl pf)) := (fq mp _ _ h_mp (by decide) (by decide) (Or.inr (by decide))).trans h_mp
  refine lv_aload_n hx hb d_L_law_790 rfl (lv_at hl 2 rfl) ?_
  refine mp_callv hI (va_runV (As := []) (rest := []) ⟨hx, hb, hml, hown, hg⟩ (c_M_clear l D g S1 _ mo mp (m0) (m1) (m2) (m3) (m5) (m6) (m7) (m8) (m9) (m10) (m11) (m12) (m13) (m14) (m15) (m16) (m17) (m18) (m19) (m20) (m21) (m22) (m23) (m24) (m25) (m26) (m27) (m28) (m29) (m30) pf h_mo h_mp) ⟨(callB_of 0 hg (wd_goodG q_947) rfl rfl rfl (hg _ q_5) (hg _ q_944) (by decide +kernel) ⟨Nat.le_of_ble_eq_true rfl, Nat.le_of_ble_eq_true rfl⟩), hg _ q_945, hg _ q_946⟩ (mp_preV (C := R_M) (T := F_M) hI hK h_mo rfl []) rfl rfl hl.1 rfl (lv_room (Nat.le_of_ble_eq_true rfl)) d_L_law_791 ⟨by omega, by omega⟩) (fun S5 H6 locs p_7 hI => ?_)
  clear h_mo h_mp
  refine lv_goto (tgt := 822) hx hb d_L_law_794 (by decide) ?_
  exact kx S5 _ _ ls hI (lv_sub hl [0, 1, 2, 3, 4] rfl)
set_option maxHeartbeats 4000000 in
set_option maxRecDepth 100000 in
/-- run on an empty list -/
theorem lc_run0 {p : Program} {l : Launch} {e : Env} {s : State} {m : MethodId} {below : List Frame} {meth : Method} {c : Code} {Q : State → Prop} {D : mp_G} {g : Nat → ClassId} {A : Nat → Prop} {b L i : Nat} {xs : Nat → Int32} {cells slots : Nat} {S : mp_M} {H : Heap} {locs : List Loc} {ls : Array Slot} (hx : p.tables.exec = Jvm.exec) (hb : c.code = b_L_law) (hml : c.maxLocals = 7) (hts : ∀ w ∈ lw_tbl, w.before #[Value.ref b] s = true) (hg : ∀ w ∈ gw, w.before #[Value.ref b] s = true) (hown : s.vm.findClass R_L = some m.cls) (hK : mp_K D classes (tys g) s) (hX : va_X b L xs D.2.1 D.2.1.heap) (hL : L ≤ 3585) (hi : i + 6 < L) (hc : cells + 189 ≤ room_1.cells) (hs : slots + 11130 ≤ room_1.slots) (hl9 : l.stackTraces = false) {lo hd fa mfa n : Nat} {v1 v4 v5 u0 m1 m2 m4 m6 m7 m8 m9 m10 m11 m14 m15 m16 m17 m18 m19 m20 m21 m22 m23 m25 m26 m27 m28 m29 m30 : Value} {fc0 av0 th kn ak : Int32} {ff hf mff : Nat → Int32} {oa mo o : Nat} (h_o : S o = some (0, .inr (0, [.int (nI n), v1, .ref lo, .ref fa, v4, v5, .int fc0, .int 0, .int av0, .null]))) (h_lo : S lo = some (2, .inr (9, [u0, .ref hd, .int 0]))) (h_hd : S hd = some (5, .inl ((g 0), 12, .inl hf))) (h_fa : S fa = some (3, .inl ((g 0), 3, .inl ff))) (h_mo : S mo = some (2000, .inr (10, [.int (nI n), m1, m2, .int th, m4, .int 0, m6, m7, m8, m9, m10, m11, .int kn, .int ak, m14, m15, m16, m17, m18, m19, m20, m21, m22, m23, .ref mfa, m25, m26, m27, m28, m29, m30]))) (h_mfa : S mfa = some (2016, .inl ((g 5), 3, .inl mff))) (hn : n ≤ 3) (hn1 : 1 ≤ n) (hI : mp_I D classes A s.heap S H locs) (hl : lv_has ls 7 [(4, .int (nI i)), (3, .ref oa), (2, .ref mo), (1, .ref o), (0, .ref b)]) (kx : ∀ (S : mp_M) (H : Heap) (locs : List Loc) (ls : Array Slot), mp_I D classes A s.heap S H locs → lv_has ls 7 [(4, .int (nI i)), (3, .ref oa), (2, .ref mo), (1, .ref o), (0, .ref b)] → W p l e room_1 s m #[Value.ref b] below meth c H locs (cells + 189) (slots + 11130) Q (F0 m 822 ls [])) : W p l e room_1 s m #[Value.ref b] below meth c H locs (cells) (slots) Q (F0 m 388 ls []) := by
  refine lv_aload_n hx hb d_L_law_388 rfl (lv_at hl 3 rfl) ?_
  refine mp_calli hI (va_runV (As := []) (rest := []) ⟨hx, hb, hml, hown, hg⟩ (c_B_run0 l D g S _ o lo hd fa n v1 v4 v5 u0 fc0 av0 ff hf h_o h_lo h_hd h_fa hn hn1) ⟨(callB_of 0 hg (wd_goodG q_116) rfl rfl rfl (hg _ q_1) (hg _ q_113) (by decide +kernel) ⟨Nat.le_of_ble_eq_true rfl, Nat.le_of_ble_eq_true rfl⟩), hg _ q_114, hg _ q_115⟩ (mp_preV (C := R_B) (T := F_B) hI hK h_o rfl []) rfl rfl hl.1 rfl (lv_room (Nat.le_of_ble_eq_true rfl)) d_L_law_389 ⟨by omega, by omega⟩) (fun r4 S1 H2 locs p_3 hI => ?_)
  obtain ⟨er4, fq⟩ := p_3
  have er4 : r4 = -2 := er4
  subst er4
  have h_mo : S1 mo = some (2000, .inr (10, [.int (nI n), m1, m2, .int th, m4, .int 0, m6, m7, m8, m9, m10, m11, .int kn, .int ak, m14, m15, m16, m17, m18, m19, m20, m21, m22, m23, .ref mfa, m25, m26, m27, m28, m29, m30])) := (fq mo (mp_in h_mo) (mp_ne h_mo h_o (by decide)) (mp_ne h_mo h_fa (by decide))).trans h_mo
  have h_mfa : S1 mfa = some (2016, .inl ((g 5), 3, .inl mff)) := (fq mfa (mp_in h_mfa) (mp_ne h_mfa h_o (by decide)) (mp_ne h_mfa h_fa (by decide))).trans h_mfa
  refine lv_aload_n hx hb d_L_law_392 rfl (lv_at hl 2 rfl) ?_
  refine mp_calli hI (va_runV (As := []) (rest := [.int (-2)]) ⟨hx, hb, hml, hown, hg⟩ (c_M_run0 l D g S1 _ mo mfa n (m1) (m2) (m4) (m6) (m7) (m8) (m9) (m10) (m11) (m14) (m15) (m16) (m17) (m18) (m19) (m20) (m21) (m22) (m23) (m25) (m26) (m27) (m28) (m29) (m30) th kn ak mff h_mo h_mfa hn hn1) ⟨(callB_of 0 hg (wd_goodG q_951) rfl rfl rfl (hg _ q_5) (hg _ q_948) (by decide +kernel) ⟨Nat.le_of_ble_eq_true rfl, Nat.le_of_ble_eq_true rfl⟩), hg _ q_949, hg _ q_950⟩ (mp_preV (C := R_M) (T := F_M) hI hK h_mo rfl []) rfl rfl hl.1 rfl (lv_room (Nat.le_of_ble_eq_true rfl)) d_L_law_393 ⟨by omega, by omega⟩) (fun r8 S5 H6 locs p_7 hI => ?_)
  clear h_mo h_mfa
  refine lv_icmp_eq (tgt := 822) hx hb d_L_law_396 (by decide) (fun _ => ?_) (fun h9 => absurd (p_7.1.symm) h9)
  exact kx S5 _ _ ls hI (lv_sub hl [0, 1, 2, 3, 4] rfl)
set_option maxHeartbeats 4000000 in
set_option maxRecDepth 100000 in
/-- poly -/
theorem lc_poly {p : Program} {l : Launch} {e : Env} {s : State} {m : MethodId} {below : List Frame} {meth : Method} {c : Code} {Q : State → Prop} {D : mp_G} {g : Nat → ClassId} {A : Nat → Prop} {b L i : Nat} {xs : Nat → Int32} {cells slots : Nat} {S : mp_M} {H : Heap} {locs : List Loc} {ls : Array Slot} (hx : p.tables.exec = Jvm.exec) (hb : c.code = b_L_law) (hml : c.maxLocals = 7) (hts : ∀ w ∈ lw_tbl, w.before #[Value.ref b] s = true) (hg : ∀ w ∈ gw, w.before #[Value.ref b] s = true) (hown : s.vm.findClass R_L = some m.cls) (hK : mp_K D classes (tys g) s) (hX : va_X b L xs D.2.1 D.2.1.heap) (hL : L ≤ 3585) (hi : i + 6 < L) (hc : cells + 0 ≤ room_1.cells) (hs : slots + 0 ≤ room_1.slots) (hl9 : l.stackTraces = false) {pa mp gv : Nat} {v0 v2 v3 v5 v6 v7 v8 v9 m0 m2 m5 m6 m7 m8 m9 m10 m11 m12 m13 m14 m15 m16 m17 m18 m19 m20 m21 m22 m23 m24 m25 m26 m27 m28 m29 m30 : Value} {eo ek en cap pz : Nat → Nat} {kf nf : Nat → Nat → Int32} {pf : Nat → Int32} {th : Int32} {of : Nat → Int64} {oa mo o : Nat} (h_o : S o = some (0, .inr (0, [v0, .ref pa, v2, v3, .int (nI gv), v5, v6, v7, v8, v9]))) (h_pa : S pa = some (1, .inl ((g 2), 40, .inr (.inr (.inr (.inr (rfs eo 40))))))) (h_oa : S oa = some (9, .inl ((g 4), 1, .inr (.inl of)))) (h_mo : S mo = some (2000, .inr (10, [m0, .int (nI gv), m2, .int th, .ref mp, m5, m6, m7, m8, m9, m10, m11, m12, m13, m14, m15, m16, m17, m18, m19, m20, m21, m22, m23, m24, m25, m26, m27, m28, m29, m30]))) (h_mp : S mp = some (2001, .inl ((g 0), 40000, .inl pf))) (hE : yS g 100 40 eo ek en cap pz kf nf S) (hgv : gv < 40) (hI : mp_I D classes A s.heap S H locs) (hl : lv_has ls 7 [(4, .int (nI i)), (3, .ref oa), (2, .ref mo), (1, .ref o), (0, .ref b)]) (kx : ∀ (S : mp_M) (H : Heap) (locs : List Loc) (ls : Array Slot), mp_I D classes A s.heap S H locs → lv_has ls 7 [(4, .int (nI i)), (3, .ref oa), (2, .ref mo), (1, .ref o), (0, .ref b)] → W p l e room_1 s m #[Value.ref b] below meth c H locs (cells) (slots) Q (F0 m 822 ls [])) : W p l e room_1 s m #[Value.ref b] below meth c H locs (cells) (slots) Q (F0 m 116 ls []) := by
  refine lv_aload_n hx hb d_L_law_116 rfl (lv_at hl 3 rfl) ?_
  refine lv_aload_n hx hb d_L_law_117 rfl (lv_at hl 1 rfl) ?_
  refine mp_calli hI (lw_runS (As := [.ref o, .ref oa]) (rest := []) ⟨hx, hb, hml, hown, hg⟩ (c_L_poly l D g S _ o pa gv v0 v2 v3 v5 v6 v7 v8 v9 eo ek en cap pz kf nf oa of h_o h_pa h_oa hE hgv) ⟨callBW_of 2 hg (hts _ q_544) rfl rfl (hg _ q_0) (hg _ q_542) (by decide +kernel) ⟨Nat.le_of_ble_eq_true rfl, Nat.le_of_ble_eq_true rfl⟩, hg _ q_543⟩ (mp_pre hI hK [.ref o, .ref oa]) rfl rfl hl.1 rfl (lv_room (Nat.le_of_ble_eq_true rfl)) d_L_law_118 ⟨by omega, by omega⟩) (fun r4 S1 H2 locs p_3 hI => ?_)
  obtain ⟨y1, y2, y3⟩ := hE gv hgv
  obtain ⟨er4, _, _, fq, f1, hq_oa, hf1⟩ := p_3
  have er4 : r4 = nI 0 := er4
  subst er4
  have h_mo : S1 mo = some (2000, .inr (10, [m0, .int (nI gv), m2, .int th, .ref mp, m5, m6, m7, m8, m9, m10, m11, m12, m13, m14, m15, m16, m17, m18, m19, m20, m21, m22, m23, m24, m25, m26, m27, m28, m29, m30])) := (fq mo (mp_in h_mo) (mp_ne h_mo h_o (by decide)) (mp_ne h_mo y1 (by omega)) (mp_ne h_mo h_oa (by decide))).trans h_mo
  have h_mp : S1 mp = some (2001, .inl ((g 0), 40000, .inl pf)) := (fq mp (mp_in h_mp) (mp_ne h_mp h_o (by decide)) (mp_ne h_mp y1 (by omega)) (mp_ne h_mp h_oa (by decide))).trans h_mp
  refine lv_istore (lv' := [(5, .int (nI 0)), (4, .int (nI i)), (3, .ref oa), (2, .ref mo), (1, .ref o), (0, .ref b)]) hx hb d_L_law_121 hl (by decide) rfl (fun ls hl => ?_)
  refine lv_aload_n hx hb d_L_law_123 rfl (lv_at hl 3 rfl) ?_
  refine mp_calli hI (va_runV (As := []) (rest := []) ⟨hx, hb, hml, hown, hg⟩ (c_M_poly l D g S1 _ mo mp gv (m0) (m2) (m5) (m6) (m7) (m8) (m9) (m10) (m11) (m12) (m13) (m14) (m15) (m16) (m17) (m18) (m19) (m20) (m21) (m22) (m23) (m24) (m25) (m26) (m27) (m28) (m29) (m30) th pf h_mo h_mp hgv) ⟨(callB_of 0 hg (wd_goodG q_906) rfl rfl rfl (hg _ q_5) (hg _ q_903) (by decide +kernel) ⟨Nat.le_of_ble_eq_true rfl, Nat.le_of_ble_eq_true rfl⟩), hg _ q_904, hg _ q_905⟩ (mp_preV (C := R_M) (T := F_M) hI hK h_mo rfl []) rfl rfl hl.1 rfl (lv_room (Nat.le_of_ble_eq_true rfl)) d_L_law_124 ⟨by omega, by omega⟩) (fun r8 S5 H6 locs p_7 hI => ?_)
  obtain ⟨er8, hr_mo, hr_mp, fr⟩ := p_7
  have er8 : r8 = nI gv := er8
  subst er8
  have hq_oa : S5 oa = some (9, .inl ((g 4), 1, .inr (.inl f1))) := (fr oa (mp_in hq_oa) (mp_ne hq_oa h_mo (by decide)) (mp_ne hq_oa h_mp (by decide))).trans hq_oa
  refine lv_istore (lv' := [(6, .int (nI gv)), (5, .int (nI 0)), (4, .int (nI i)), (3, .ref oa), (2, .ref mo), (1, .ref o), (0, .ref b)]) hx hb d_L_law_127 hl (by decide) rfl (fun ls hl => ?_)
  refine lv_aload_n hx hb d_L_law_129 rfl (lv_at hl 4 rfl) ?_
  refine mp_calli hI (va_runV (As := []) (rest := []) ⟨hx, hb, hml, hown, hg⟩ (c_M_thrown l D g S5 _ mo (m0) (.int (nI (gv + 1))) (m2) (.ref mp) (m5) (m6) (m7) (m8) (m9) (m10) (m11) (m12) (m13) (m14) (m15) (m16) (m17) (m18) (m19) (m20) (m21) (m22) (m23) (m24) (m25) (m26) (m27) (m28) (m29) (m30) (nI 0) hr_mo) ⟨(callB_of 0 hg (wd_goodG q_902) rfl rfl rfl (hg _ q_5) (hg _ q_899) (by decide +kernel) ⟨Nat.le_of_ble_eq_true rfl, Nat.le_of_ble_eq_true rfl⟩), hg _ q_900, hg _ q_901⟩ (mp_preV (C := R_M) (T := F_M) hI hK hr_mo rfl []) rfl rfl hl.1 rfl (lv_room (Nat.le_of_ble_eq_true rfl)) d_L_law_130 ⟨by omega, by omega⟩) (fun r12 S9 H10 locs p_11 hI => ?_)
  obtain ⟨er12, eS13⟩ := p_11
  rw [eS13] at hI
  have er12 : r12 = nI 0 := er12
  subst er12
  refine lv_iload hx hb d_L_law_133 (lv_at hl 1 rfl) ?_
  refine lv_icmp_eq (tgt := 140) hx hb d_L_law_135 (by decide) (fun _ => ?_) (fun h9 => absurd (rfl) h9)
  refine lv_iload hx hb d_L_law_140 (lv_at hl 1 rfl) ?_
  refine lv_if_ne (tgt := 157) hx hb d_L_law_142 (by decide) (fun h9 => absurd h9 (by decide)) (fun _ => ?_)
  refine lv_aload_n hx hb d_L_law_145 rfl (lv_at hl 3 rfl) ?_
  refine lv_iconst (v := nI 0) hx hb d_L_law_146 (by decide) ?_
  refine mp_lald hx hb hK.va hI 4 hq_oa rfl (vp_in_nI (by decide) (by decide)) d_L_law_147 ?_
  refine lv_topl (fun v14 ev14 => ?_)
  obtain rfl : v14 = lN gv := ev14.trans (hf1)
  refine lv_iload hx hb d_L_law_148 (lv_at hl 0 rfl) ?_
  refine lv_i2l (v := lN gv) hx hb d_L_law_150 (nI_l (by omega)) ?_
  refine W.lcmp hx hb d_L_law_151 ?_
  refine lv_if_eq (tgt := 157) hx hb d_L_law_152 (by decide) (fun _ => ?_) (fun h9 => absurd (lg_same rfl) h9)
  refine lv_goto (tgt := 822) hx hb d_L_law_157 (by decide) ?_
  exact kx S5 _ _ ls hI (lv_sub hl [2, 3, 4, 5, 6] rfl)
set_option maxHeartbeats 4000000 in
set_option maxRecDepth 100000 in
/-- take: no such polynomial -/
theorem lc_takeX {p : Program} {l : Launch} {e : Env} {s : State} {m : MethodId} {below : List Frame} {meth : Method} {c : Code} {Q : State → Prop} {D : mp_G} {g : Nat → ClassId} {A : Nat → Prop} {b L i : Nat} {xs : Nat → Int32} {cells slots : Nat} {S : mp_M} {H : Heap} {locs : List Loc} {ls : Array Slot} (hx : p.tables.exec = Jvm.exec) (hb : c.code = b_L_law) (hml : c.maxLocals = 7) (hts : ∀ w ∈ lw_tbl, w.before #[Value.ref b] s = true) (hg : ∀ w ∈ gw, w.before #[Value.ref b] s = true) (hown : s.vm.findClass R_L = some m.cls) (hK : mp_K D classes (tys g) s) (hX : va_X b L xs D.2.1 D.2.1.heap) (hL : L ≤ 3585) (hi : i + 6 < L) (hc : cells + 1 ≤ room_1.cells) (hs : slots + 6 ≤ room_1.slots) (hl9 : l.stackTraces = false) {pa n : Nat} {v2 v3 v4 v5 v6 v7 v8 v9 m0 m1 m2 m4 m5 m6 m7 m8 m9 m10 m11 m12 m13 m14 m15 m16 m17 m18 m19 m20 m21 m22 m23 m24 m25 m26 m27 m28 m29 m30 : Value} {th : Int32} {of : Nat → Int64} {oa mo o : Nat} (h_o : S o = some (0, .inr (0, [.int (nI n), .ref pa, v2, v3, v4, v5, v6, v7, v8, v9]))) (h_oa : S oa = some (9, .inl ((g 4), 1, .inr (.inl of)))) (h_mo : S mo = some (2000, .inr (10, [m0, m1, m2, .int th, m4, m5, m6, m7, m8, m9, m10, m11, m12, m13, m14, m15, m16, m17, m18, m19, m20, m21, m22, m23, m24, m25, m26, m27, m28, m29, m30]))) (hx9 : xs (i + 1) < 0 ∨ nI 40 ≤ xs (i + 1)) (hI : mp_I D classes A s.heap S H locs) (hl : lv_has ls 7 [(4, .int (nI i)), (3, .ref oa), (2, .ref mo), (1, .ref o), (0, .ref b)]) (kx : ∀ (S : mp_M) (H : Heap) (locs : List Loc) (ls : Array Slot), mp_I D classes A s.heap S H locs → lv_has ls 7 [(4, .int (nI i)), (3, .ref oa), (2, .ref mo), (1, .ref o), (0, .ref b)] → W p l e room_1 s m #[Value.ref b] below meth c H locs (cells + 1) (slots + 6) Q (F0 m 822 ls [])) : W p l e room_1 s m #[Value.ref b] below meth c H locs (cells) (slots) Q (F0 m 325 ls []) := by
  refine lv_aload_n hx hb d_L_law_325 rfl (lv_at hl 3 rfl) ?_
  refine lv_aload_n hx hb d_L_law_326 rfl (lv_at hl 4 rfl) ?_
  refine lv_iload hx hb d_L_law_327 (lv_at hl 0 rfl) ?_
  refine lv_iconst (v := nI 1) hx hb d_L_law_329 (by decide) ?_
  refine lv_iadd hx hb d_L_law_330 ?_
  refine lv_topi (fun v1 ev1 => ?_)
  obtain rfl : v1 = nI (i + 1) := ev1.trans (nI_add _ _)
  refine mp_sld hx hb hX hK hI (vp_in_nI (show (i + 1) < L by omega) (by omega)) d_L_law_331 ?_
  refine lv_topi (fun v2 ev2 => ?_)
  obtain rfl : v2 = xs (i + 1) := ev2.trans (by rw [nI_clamp (by omega)])
  refine lv_aload_n hx hb d_L_law_332 rfl (lv_at hl 1 rfl) ?_
  refine mp_calli hI (lw_runS (As := [.ref o, .int (xs (i + 1)), .ref oa]) (rest := []) ⟨hx, hb, hml, hown, hg⟩ (c_L_takeX l D g S _ o pa n v2 v3 v4 v5 v6 v7 v8 v9 (xs (i + 1)) oa of h_o h_oa hl9 hx9) ⟨callBW_of 3 hg (hts _ q_718) rfl rfl (hg _ q_0) (hg _ q_716) (by decide +kernel) ⟨Nat.le_of_ble_eq_true rfl, Nat.le_of_ble_eq_true rfl⟩, hg _ q_717⟩ (mp_pre hI hK [.ref o, .int (xs (i + 1)), .ref oa]) rfl rfl hl.1 rfl (lv_room (Nat.le_of_ble_eq_true rfl)) d_L_law_333 ⟨by omega, by omega⟩) (fun r6 S3 H4 locs p_5 hI => ?_)
  obtain ⟨er6, eS7⟩ := p_5
  rw [eS7] at hI
  have er6 : r6 = nI 1 := er6
  subst er6
  refine lv_istore (lv' := [(5, .int (nI 1)), (4, .int (nI i)), (3, .ref oa), (2, .ref mo), (1, .ref o), (0, .ref b)]) hx hb d_L_law_336 hl (by decide) rfl (fun ls hl => ?_)
  refine lv_aload_n hx hb d_L_law_338 rfl (lv_at hl 3 rfl) ?_
  refine lv_aload_n hx hb d_L_law_339 rfl (lv_at hl 5 rfl) ?_
  refine lv_iload hx hb d_L_law_340 (lv_at hl 1 rfl) ?_
  refine lv_iconst (v := nI 1) hx hb d_L_law_342 (by decide) ?_
  refine lv_iadd hx hb d_L_law_343 ?_
  refine lv_topi (fun v8 ev8 => ?_)
  obtain rfl : v8 = nI (i + 1) := ev8.trans (nI_add _ _)
  refine mp_sld hx hb hX hK hI (vp_in_nI (show (i + 1) < L by omega) (by omega)) d_L_law_344 ?_
  refine lv_topi (fun v9 ev9 => ?_)
  obtain rfl : v9 = xs (i + 1) := ev9.trans (by rw [nI_clamp (by omega)])
  refine mp_calli hI (va_runV (As := [.int (xs (i + 1))]) (rest := []) ⟨hx, hb, hml, hown, hg⟩ (c_M_takeN l D g S _ mo (m0) (m1) (m2) (m4) (m5) (m6) (m7) (m8) (m9) (m10) (m11) (m12) (m13) (m14) (m15) (m16) (m17) (m18) (m19) (m20) (m21) (m22) (m23) (m24) (m25) (m26) (m27) (m28) (m29) (m30) th (xs (i + 1)) h_mo hx9) ⟨(callB_of 1 hg (wd_goodG q_934) rfl rfl rfl (hg _ q_5) (hg _ q_931) (by decide +kernel) ⟨Nat.le_of_ble_eq_true rfl, Nat.le_of_ble_eq_true rfl⟩), hg _ q_932, hg _ q_933⟩ (mp_preV (C := R_M) (T := F_M) hI hK h_mo rfl [.int (xs (i + 1))]) rfl rfl hl.1 rfl (lv_room (Nat.le_of_ble_eq_true rfl)) d_L_law_345 ⟨by omega, by omega⟩) (fun r13 S10 H11 locs p_12 hI => ?_)
  obtain ⟨hq_mo, fq⟩ := p_12
  have h_o : S10 o = some (0, .inr (0, [.int (nI n), .ref pa, v2, v3, v4, v5, v6, v7, v8, v9])) := (fq o (mp_in h_o) (mp_ne h_o h_mo (by decide))).trans h_o
  have h_oa : S10 oa = some (9, .inl ((g 4), 1, .inr (.inl of))) := (fq oa (mp_in h_oa) (mp_ne h_oa h_mo (by decide))).trans h_oa
  refine lv_istore (lv' := [(6, .int r13), (5, .int (nI 1)), (4, .int (nI i)), (3, .ref oa), (2, .ref mo), (1, .ref o), (0, .ref b)]) hx hb d_L_law_348 hl (by decide) rfl (fun ls hl => ?_)
  refine lv_aload_n hx hb d_L_law_350 rfl (lv_at hl 4 rfl) ?_
  refine mp_calli hI (va_runV (As := []) (rest := []) ⟨hx, hb, hml, hown, hg⟩ (c_M_thrown l D g S10 _ mo (m0) (m1) (m2) (m4) (m5) (m6) (m7) (m8) (m9) (m10) (m11) (m12) (m13) (m14) (m15) (m16) (m17) (m18) (m19) (m20) (m21) (m22) (m23) (m24) (m25) (m26) (m27) (m28) (m29) (m30) (nI 1) hq_mo) ⟨(callB_of 0 hg (wd_goodG q_902) rfl rfl rfl (hg _ q_5) (hg _ q_899) (by decide +kernel) ⟨Nat.le_of_ble_eq_true rfl, Nat.le_of_ble_eq_true rfl⟩), hg _ q_900, hg _ q_901⟩ (mp_preV (C := R_M) (T := F_M) hI hK hq_mo rfl []) rfl rfl hl.1 rfl (lv_room (Nat.le_of_ble_eq_true rfl)) d_L_law_351 ⟨by omega, by omega⟩) (fun r17 S14 H15 locs p_16 hI => ?_)
  obtain ⟨er17, eS18⟩ := p_16
  rw [eS18] at hI
  have er17 : r17 = nI 1 := er17
  subst er17
  refine lv_iload hx hb d_L_law_354 (lv_at hl 1 rfl) ?_
  refine lv_icmp_eq (tgt := 361) hx hb d_L_law_356 (by decide) (fun _ => ?_) (fun h9 => absurd (rfl) h9)
  refine lv_iload hx hb d_L_law_361 (lv_at hl 1 rfl) ?_
  refine lv_if_ne (tgt := 385) hx hb d_L_law_363 (by decide) (fun _ => ?_) (fun h9 => absurd h9 (by decide))
  refine lv_goto (tgt := 822) hx hb d_L_law_385 (by decide) ?_
  exact kx S10 _ _ ls hI (lv_sub hl [2, 3, 4, 5, 6] rfl)
set_option maxHeartbeats 4000000 in
set_option maxRecDepth 100000 in
/-- take of a polynomial that is 0 -/
theorem lc_take0 {p : Program} {l : Launch} {e : Env} {s : State} {m : MethodId} {below : List Frame} {meth : Method} {c : Code} {Q : State → Prop} {D : mp_G} {g : Nat → ClassId} {A : Nat → Prop} {b L i : Nat} {xs : Nat → Int32} {cells slots : Nat} {S : mp_M} {H : Heap} {locs : List Loc} {ls : Array Slot} (hx : p.tables.exec = Jvm.exec) (hb : c.code = b_L_law) (hml : c.maxLocals = 7) (hts : ∀ w ∈ lw_tbl, w.before #[Value.ref b] s = true) (hg : ∀ w ∈ gw, w.before #[Value.ref b] s = true) (hown : s.vm.findClass R_L = some m.cls) (hK : mp_K D classes (tys g) s) (hX : va_X b L xs D.2.1 D.2.1.heap) (hL : L ≤ 3585) (hi : i + 6 < L) (hc : cells + 0 ≤ room_1.cells) (hs : slots + 0 ≤ room_1.slots) (hl9 : l.stackTraces = false) {pa lo mp n tk k : Nat} {v3 v4 v6 v8 v9 u0 u1 u2 m0 m1 m5 m6 m7 m8 m9 m10 m11 m13 m14 m15 m16 m17 m18 m19 m20 m21 m22 m23 m24 m25 m26 m27 m28 m29 m30 : Value} {eo ek en cap pz : Nat → Nat} {kf nf : Nat → Nat → Int32} {pf : Nat → Int32} {an th kn : Int32} {of : Nat → Int64} {oa mo o : Nat} (h_o : S o = some (0, .inr (0, [.int (nI n), .ref pa, .ref lo, v3, v4, .int (nI tk), v6, .int an, v8, v9]))) (h_pa : S pa = some (1, .inl ((g 2), 40, .inr (.inr (.inr (.inr (rfs eo 40))))))) (h_lo : S lo = some (2, .inr (9, [u0, u1, u2]))) (h_oa : S oa = some (9, .inl ((g 4), 1, .inr (.inl of)))) (h_mo : S mo = some (2000, .inr (10, [m0, m1, .int (nI tk), .int th, .ref mp, m5, m6, m7, m8, m9, m10, m11, .int kn, m13, m14, m15, m16, m17, m18, m19, m20, m21, m22, m23, m24, m25, m26, m27, m28, m29, m30]))) (h_mp : S mp = some (2001, .inl ((g 0), 40000, .inl pf))) (hE : yS g 100 40 eo ek en cap pz kf nf S) (hxk : xs (i + 1) = nI k) (hz : pz k = 0) (hk : k < 40) (htk : tk < 12) (hpz : ∀ j, j < 1000 → pf (1000 * k + j) = 0) (hI : mp_I D classes A s.heap S H locs) (hl : lv_has ls 7 [(4, .int (nI i)), (3, .ref oa), (2, .ref mo), (1, .ref o), (0, .ref b)]) (kx : ∀ (S : mp_M) (H : Heap) (locs : List Loc) (ls : Array Slot), mp_I D classes A s.heap S H locs → lv_has ls 7 [(4, .int (nI i)), (3, .ref oa), (2, .ref mo), (1, .ref o), (0, .ref b)] → W p l e room_1 s m #[Value.ref b] below meth c H locs (cells) (slots) Q (F0 m 822 ls [])) : W p l e room_1 s m #[Value.ref b] below meth c H locs (cells) (slots) Q (F0 m 325 ls []) := by
  refine lv_aload_n hx hb d_L_law_325 rfl (lv_at hl 3 rfl) ?_
  refine lv_aload_n hx hb d_L_law_326 rfl (lv_at hl 4 rfl) ?_
  refine lv_iload hx hb d_L_law_327 (lv_at hl 0 rfl) ?_
  refine lv_iconst (v := nI 1) hx hb d_L_law_329 (by decide) ?_
  refine lv_iadd hx hb d_L_law_330 ?_
  refine lv_topi (fun v1 ev1 => ?_)
  obtain rfl : v1 = nI (i + 1) := ev1.trans (nI_add _ _)
  refine mp_sld hx hb hX hK hI (vp_in_nI (show (i + 1) < L by omega) (by omega)) d_L_law_331 ?_
  refine lv_topi (fun v2 ev2 => ?_)
  obtain rfl : v2 = xs (i + 1) := ev2.trans (by rw [nI_clamp (by omega)])
  refine lv_topi (fun v3 ev3 => ?_)
  obtain rfl : v3 = nI k := ev3.trans (hxk)
  refine lv_aload_n hx hb d_L_law_332 rfl (lv_at hl 1 rfl) ?_
  refine mp_calli hI (lw_runS (As := [.ref o, .int (nI k), .ref oa]) (rest := []) ⟨hx, hb, hml, hown, hg⟩ (c_L_take0 l D g S _ o pa lo n tk eo ek en cap pz kf nf v3 v4 v6 v8 v9 u0 u1 u2 an k oa of h_o h_pa h_lo h_oa hE hz hk htk) ⟨callBW_of 3 hg (hts _ q_718) rfl rfl (hg _ q_0) (hg _ q_716) (by decide +kernel) ⟨Nat.le_of_ble_eq_true rfl, Nat.le_of_ble_eq_true rfl⟩, hg _ q_717⟩ (mp_pre hI hK [.ref o, .int (nI k), .ref oa]) rfl rfl hl.1 rfl (lv_room (Nat.le_of_ble_eq_true rfl)) d_L_law_333 ⟨by omega, by omega⟩) (fun r7 S4 H5 locs p_6 hI => ?_)
  obtain ⟨er7, _, fq, f1, hq_oa, hf1⟩ := p_6
  have er7 : r7 = nI 0 := er7
  subst er7
  have h_mo : S4 mo = some (2000, .inr (10, [m0, m1, .int (nI tk), .int th, .ref mp, m5, m6, m7, m8, m9, m10, m11, .int kn, m13, m14, m15, m16, m17, m18, m19, m20, m21, m22, m23, m24, m25, m26, m27, m28, m29, m30])) := (fq mo (mp_in h_mo) (mp_ne h_mo h_o (by decide)) (mp_ne h_mo h_oa (by decide))).trans h_mo
  have h_mp : S4 mp = some (2001, .inl ((g 0), 40000, .inl pf)) := (fq mp (mp_in h_mp) (mp_ne h_mp h_o (by decide)) (mp_ne h_mp h_oa (by decide))).trans h_mp
  refine lv_istore (lv' := [(5, .int (nI 0)), (4, .int (nI i)), (3, .ref oa), (2, .ref mo), (1, .ref o), (0, .ref b)]) hx hb d_L_law_336 hl (by decide) rfl (fun ls hl => ?_)
  refine lv_aload_n hx hb d_L_law_338 rfl (lv_at hl 3 rfl) ?_
  refine lv_aload_n hx hb d_L_law_339 rfl (lv_at hl 5 rfl) ?_
  refine lv_iload hx hb d_L_law_340 (lv_at hl 1 rfl) ?_
  refine lv_iconst (v := nI 1) hx hb d_L_law_342 (by decide) ?_
  refine lv_iadd hx hb d_L_law_343 ?_
  refine lv_topi (fun v8 ev8 => ?_)
  obtain rfl : v8 = nI (i + 1) := ev8.trans (nI_add _ _)
  refine mp_sld hx hb hX hK hI (vp_in_nI (show (i + 1) < L by omega) (by omega)) d_L_law_344 ?_
  refine lv_topi (fun v9 ev9 => ?_)
  obtain rfl : v9 = xs (i + 1) := ev9.trans (by rw [nI_clamp (by omega)])
  refine lv_topi (fun v10 ev10 => ?_)
  obtain rfl : v10 = nI k := ev10.trans (hxk)
  refine mp_calli hI (va_runV (As := [.int (nI k)]) (rest := []) ⟨hx, hb, hml, hown, hg⟩ (c_M_take0 l D g S4 _ mo mp k tk (m0) (m1) (m5) (m6) (m7) (m8) (m9) (m10) (m11) (m13) (m14) (m15) (m16) (m17) (m18) (m19) (m20) (m21) (m22) (m23) (m24) (m25) (m26) (m27) (m28) (m29) (m30) th kn pf h_mo h_mp hk htk hpz) ⟨(callB_of 1 hg (wd_goodG q_934) rfl rfl rfl (hg _ q_5) (hg _ q_931) (by decide +kernel) ⟨Nat.le_of_ble_eq_true rfl, Nat.le_of_ble_eq_true rfl⟩), hg _ q_932, hg _ q_933⟩ (mp_preV (C := R_M) (T := F_M) hI hK h_mo rfl [.int (nI k)]) rfl rfl hl.1 rfl (lv_room (Nat.le_of_ble_eq_true rfl)) d_L_law_345 ⟨by omega, by omega⟩) (fun r14 S11 H12 locs p_13 hI => ?_)
  obtain ⟨er14, hr_mo, fr⟩ := p_13
  have er14 : r14 = 1 := er14
  subst er14
  have h_mp : S11 mp = some (2001, .inl ((g 0), 40000, .inl pf)) := (fr mp (mp_in h_mp) (mp_ne h_mp h_mo (by decide))).trans h_mp
  have hq_oa : S11 oa = some (9, .inl ((g 4), 1, .inr (.inl f1))) := (fr oa (mp_in hq_oa) (mp_ne hq_oa h_mo (by decide))).trans hq_oa
  refine lv_istore (lv' := [(6, .int 1), (5, .int (nI 0)), (4, .int (nI i)), (3, .ref oa), (2, .ref mo), (1, .ref o), (0, .ref b)]) hx hb d_L_law_348 hl (by decide) rfl (fun ls hl => ?_)
  refine lv_aload_n hx hb d_L_law_350 rfl (lv_at hl 4 rfl) ?_
  refine mp_calli hI (va_runV (As := []) (rest := []) ⟨hx, hb, hml, hown, hg⟩ (c_M_thrown l D g S11 _ mo (m0) (m1) (.int (nI (tk + 1))) (.ref mp) (m5) (m6) (m7) (m8) (m9) (m10) (m11) (.int (nI 0)) (m13) (m14) (m15) (m16) (m17) (m18) (m19) (m20) (m21) (m22) (m23) (m24) (m25) (m26) (m27) (m28) (m29) (m30) (nI 0) hr_mo) ⟨(callB_of 0 hg (wd_goodG q_902) rfl rfl rfl (hg _ q_5) (hg _ q_899) (by decide +kernel) ⟨Nat.le_of_ble_eq_true rfl, Nat.le_of_ble_eq_true rfl⟩), hg _ q_900, hg _ q_901⟩ (mp_preV (C := R_M) (T := F_M) hI hK hr_mo rfl []) rfl rfl hl.1 rfl (lv_room (Nat.le_of_ble_eq_true rfl)) d_L_law_351 ⟨by omega, by omega⟩) (fun r18 S15 H16 locs p_17 hI => ?_)
  obtain ⟨er18, eS19⟩ := p_17
  rw [eS19] at hI
  have er18 : r18 = nI 0 := er18
  subst er18
  refine lv_iload hx hb d_L_law_354 (lv_at hl 1 rfl) ?_
  refine lv_icmp_eq (tgt := 361) hx hb d_L_law_356 (by decide) (fun _ => ?_) (fun h9 => absurd (rfl) h9)
  refine lv_iload hx hb d_L_law_361 (lv_at hl 1 rfl) ?_
  refine lv_if_ne (tgt := 385) hx hb d_L_law_363 (by decide) (fun h9 => absurd h9 (by decide)) (fun _ => ?_)
  refine lv_aload_n hx hb d_L_law_366 rfl (lv_at hl 3 rfl) ?_
  refine lv_iconst (v := nI 0) hx hb d_L_law_367 (by decide) ?_
  refine mp_lald hx hb hK.va hI 4 hq_oa rfl (vp_in_nI (by decide) (by decide)) d_L_law_368 ?_
  refine lv_topl (fun v20 ev20 => ?_)
  obtain rfl : v20 = lN 1 := ev20.trans (hf1)
  refine lv_iload hx hb d_L_law_369 (lv_at hl 0 rfl) ?_
  refine lv_if_eq (tgt := 378) hx hb d_L_law_371 (by decide) (fun h9 => absurd h9 (by decide)) (fun _ => ?_)
  refine lv_lconst (v := lN 1) hx hb d_L_law_374 (by decide) ?_
  refine lv_goto (tgt := 379) hx hb d_L_law_375 (by decide) ?_
  refine W.lcmp hx hb d_L_law_379 ?_
  refine lv_if_eq (tgt := 385) hx hb d_L_law_380 (by decide) (fun _ => ?_) (fun h9 => absurd (lg_same rfl) h9)
  refine lv_goto (tgt := 822) hx hb d_L_law_385 (by decide) ?_
  exact kx S11 _ _ ls hI (lv_sub hl [2, 3, 4, 5, 6] rfl)
set_option maxHeartbeats 4000000 in
set_option maxRecDepth 100000 in
/-- term: no such polynomial -/
theorem lc_termI {p : Program} {l : Launch} {e : Env} {s : State} {m : MethodId} {below : List Frame} {meth : Method} {c : Code} {Q : State → Prop} {D : mp_G} {g : Nat → ClassId} {A : Nat → Prop} {b L i : Nat} {xs : Nat → Int32} {cells slots : Nat} {S : mp_M} {H : Heap} {locs : List Loc} {ls : Array Slot} (hx : p.tables.exec = Jvm.exec) (hb : c.code = b_L_law) (hml : c.maxLocals = 7) (hts : ∀ w ∈ lw_tbl, w.before #[Value.ref b] s = true) (hg : ∀ w ∈ gw, w.before #[Value.ref b] s = true) (hown : s.vm.findClass R_L = some m.cls) (hK : mp_K D classes (tys g) s) (hX : va_X b L xs D.2.1 D.2.1.heap) (hL : L ≤ 3585) (hi : i + 6 < L) (hc : cells + 1 ≤ room_1.cells) (hs : slots + 6 ≤ room_1.slots) (hl9 : l.stackTraces = false) {pa n k v : Nat} {eo : Nat → Nat} {v2 v3 v4 v5 v6 v7 v8 v9 m1 m2 m4 m5 m6 m7 m8 m9 m10 m11 m12 m13 m14 m15 m16 m17 m18 m19 m20 m21 m22 m23 m24 m25 m26 m27 m28 m29 m30 : Value} {th : Int32} {of : Nat → Int64} {oa mo o : Nat} (h_o : S o = some (0, .inr (0, [.int (nI n), .ref pa, v2, v3, v4, v5, v6, v7, v8, v9]))) (h_oa : S oa = some (9, .inl ((g 4), 1, .inr (.inl of)))) (h_mo : S mo = some (2000, .inr (10, [.int (nI n), m1, m2, .int th, m4, m5, m6, m7, m8, m9, m10, m11, m12, m13, m14, m15, m16, m17, m18, m19, m20, m21, m22, m23, m24, m25, m26, m27, m28, m29, m30]))) (hx9 : xs (i + 1) < 0 ∨ nI 40 ≤ xs (i + 1)) (hI : mp_I D classes A s.heap S H locs) (hl : lv_has ls 7 [(4, .int (nI i)), (3, .ref oa), (2, .ref mo), (1, .ref o), (0, .ref b)]) (kx : ∀ (S : mp_M) (H : Heap) (locs : List Loc) (ls : Array Slot), mp_I D classes A s.heap S H locs → lv_has ls 7 [(4, .int (nI i)), (3, .ref oa), (2, .ref mo), (1, .ref o), (0, .ref b)] → W p l e room_1 s m #[Value.ref b] below meth c H locs (cells + 1) (slots + 6) Q (F0 m 822 ls [])) : W p l e room_1 s m #[Value.ref b] below meth c H locs (cells) (slots) Q (F0 m 160 ls []) := by
  refine lv_aload_n hx hb d_L_law_160 rfl (lv_at hl 3 rfl) ?_
  refine lv_aload_n hx hb d_L_law_161 rfl (lv_at hl 4 rfl) ?_
  refine lv_iload hx hb d_L_law_162 (lv_at hl 0 rfl) ?_
  refine lv_iconst (v := nI 1) hx hb d_L_law_164 (by decide) ?_
  refine lv_iadd hx hb d_L_law_165 ?_
  refine lv_topi (fun v1 ev1 => ?_)
  obtain rfl : v1 = nI (i + 1) := ev1.trans (nI_add _ _)
  refine mp_sld hx hb hX hK hI (vp_in_nI (show (i + 1) < L by omega) (by omega)) d_L_law_166 ?_
  refine lv_topi (fun v2 ev2 => ?_)
  obtain rfl : v2 = xs (i + 1) := ev2.trans (by rw [nI_clamp (by omega)])
  refine lv_aload_n hx hb d_L_law_167 rfl (lv_at hl 4 rfl) ?_
  refine lv_iload hx hb d_L_law_168 (lv_at hl 0 rfl) ?_
  refine lv_iconst (v := nI 2) hx hb d_L_law_170 (by decide) ?_
  refine lv_iadd hx hb d_L_law_171 ?_
  refine lv_topi (fun v3 ev3 => ?_)
  obtain rfl : v3 = nI (i + 2) := ev3.trans (nI_add _ _)
  refine mp_sld hx hb hX hK hI (vp_in_nI (show (i + 2) < L by omega) (by omega)) d_L_law_172 ?_
  refine lv_topi (fun v4 ev4 => ?_)
  obtain rfl : v4 = xs (i + 2) := ev4.trans (by rw [nI_clamp (by omega)])
  refine lv_i2l (v := (xs (i + 2)).toInt64) hx hb d_L_law_173 rfl ?_
  refine lv_bipush (v := nI 32) hx hb d_L_law_174 (by decide) ?_
  refine lv_lshl (v := ((xs (i + 2)).toInt64 <<< ((nI 32).toInt64 &&& 63))) hx hb d_L_law_176 rfl ?_
  refine lv_aload_n hx hb d_L_law_177 rfl (lv_at hl 4 rfl) ?_
  refine lv_iload hx hb d_L_law_178 (lv_at hl 0 rfl) ?_
  refine lv_iconst (v := nI 3) hx hb d_L_law_180 (by decide) ?_
  refine lv_iadd hx hb d_L_law_181 ?_
  refine lv_topi (fun v5 ev5 => ?_)
  obtain rfl : v5 = nI (i + 3) := ev5.trans (nI_add _ _)
  refine mp_sld hx hb hX hK hI (vp_in_nI (show (i + 3) < L by omega) (by omega)) d_L_law_182 ?_
  refine lv_topi (fun v6 ev6 => ?_)
  obtain rfl : v6 = xs (i + 3) := ev6.trans (by rw [nI_clamp (by omega)])
  refine lv_i2l (v := (xs (i + 3)).toInt64) hx hb d_L_law_183 rfl ?_
  refine lv_ldc2 (v := lN 4294967295) hx hb hown (hg _ q_1107) d_L_law_184 ?_
  refine lv_land hx hb d_L_law_187 ?_
  refine lv_lor hx hb d_L_law_188 ?_
  refine lv_aload_n hx hb d_L_law_189 rfl (lv_at hl 4 rfl) ?_
  refine lv_iload hx hb d_L_law_190 (lv_at hl 0 rfl) ?_
  refine lv_iconst (v := nI 4) hx hb d_L_law_192 (by decide) ?_
  refine lv_iadd hx hb d_L_law_193 ?_
  refine lv_topi (fun v7 ev7 => ?_)
  obtain rfl : v7 = nI (i + 4) := ev7.trans (nI_add _ _)
  refine mp_sld hx hb hX hK hI (vp_in_nI (show (i + 4) < L by omega) (by omega)) d_L_law_194 ?_
  refine lv_topi (fun v8 ev8 => ?_)
  obtain rfl : v8 = xs (i + 4) := ev8.trans (by rw [nI_clamp (by omega)])
  refine lv_i2l (v := (xs (i + 4)).toInt64) hx hb d_L_law_195 rfl ?_
  refine lv_bipush (v := nI 32) hx hb d_L_law_196 (by decide) ?_
  refine lv_lshl (v := ((xs (i + 4)).toInt64 <<< ((nI 32).toInt64 &&& 63))) hx hb d_L_law_198 rfl ?_
  refine lv_aload_n hx hb d_L_law_199 rfl (lv_at hl 4 rfl) ?_
  refine lv_iload hx hb d_L_law_200 (lv_at hl 0 rfl) ?_
  refine lv_iconst (v := nI 5) hx hb d_L_law_202 (by decide) ?_
  refine lv_iadd hx hb d_L_law_203 ?_
  refine lv_topi (fun v9 ev9 => ?_)
  obtain rfl : v9 = nI (i + 5) := ev9.trans (nI_add _ _)
  refine mp_sld hx hb hX hK hI (vp_in_nI (show (i + 5) < L by omega) (by omega)) d_L_law_204 ?_
  refine lv_topi (fun v10 ev10 => ?_)
  obtain rfl : v10 = xs (i + 5) := ev10.trans (by rw [nI_clamp (by omega)])
  refine lv_i2l (v := (xs (i + 5)).toInt64) hx hb d_L_law_205 rfl ?_
  refine lv_ldc2 (v := lN 4294967295) hx hb hown (hg _ q_1107) d_L_law_206 ?_
  refine lv_land hx hb d_L_law_209 ?_
  refine lv_lor hx hb d_L_law_210 ?_
  refine lv_aload_n hx hb d_L_law_211 rfl (lv_at hl 4 rfl) ?_
  refine lv_iload hx hb d_L_law_212 (lv_at hl 0 rfl) ?_
  refine lv_bipush (v := nI 6) hx hb d_L_law_214 (by decide) ?_
  refine lv_iadd hx hb d_L_law_216 ?_
  refine lv_topi (fun v11 ev11 => ?_)
  obtain rfl : v11 = nI (i + 6) := ev11.trans (nI_add _ _)
  refine mp_sld hx hb hX hK hI (vp_in_nI (show (i + 6) < L by omega) (by omega)) d_L_law_217 ?_
  refine lv_topi (fun v12 ev12 => ?_)
  obtain rfl : v12 = xs (i + 6) := ev12.trans (by rw [nI_clamp (by omega)])
  refine lv_aload_n hx hb d_L_law_218 rfl (lv_at hl 1 rfl) ?_
  refine mp_calli hI (lw_runS (As := [.ref o, .int (xs (i + 1)), .long (((xs (i + 2)).toInt64 <<< ((nI 32).toInt64 &&& 63)) ||| ((xs (i + 3)).toInt64 &&& lN 4294967295)), .long (((xs (i + 4)).toInt64 <<< ((nI 32).toInt64 &&& 63)) ||| ((xs (i + 5)).toInt64 &&& lN 4294967295)), .int (xs (i + 6)), .ref oa]) (rest := []) ⟨hx, hb, hml, hown, hg⟩ (c_L_termI l D g S _ o pa n v2 v3 v4 v5 v6 v7 v8 v9 (xs (i + 1)) (xs (i + 6)) (((xs (i + 2)).toInt64 <<< ((nI 32).toInt64 &&& 63)) ||| ((xs (i + 3)).toInt64 &&& lN 4294967295)) (((xs (i + 4)).toInt64 <<< ((nI 32).toInt64 &&& 63)) ||| ((xs (i + 5)).toInt64 &&& lN 4294967295)) oa of h_o h_oa hl9 hx9) ⟨callBW_of 6 hg (hts _ q_621) rfl rfl (hg _ q_0) (hg _ q_619) (by decide +kernel) ⟨Nat.le_of_ble_eq_true rfl, Nat.le_of_ble_eq_true rfl⟩, hg _ q_620⟩ (mp_pre hI hK [.ref o, .int (xs (i + 1)), .long (((xs (i + 2)).toInt64 <<< ((nI 32).toInt64 &&& 63)) ||| ((xs (i + 3)).toInt64 &&& lN 4294967295)), .long (((xs (i + 4)).toInt64 <<< ((nI 32).toInt64 &&& 63)) ||| ((xs (i + 5)).toInt64 &&& lN 4294967295)), .int (xs (i + 6)), .ref oa]) rfl rfl hl.1 rfl (lv_room (Nat.le_of_ble_eq_true rfl)) d_L_law_219 ⟨by omega, by omega⟩) (fun r16 S13 H14 locs p_15 hI => ?_)
  obtain ⟨er16, eS17⟩ := p_15
  rw [eS17] at hI
  have er16 : r16 = nI 1 := er16
  subst er16
  refine lv_istore (lv' := [(5, .int (nI 1)), (4, .int (nI i)), (3, .ref oa), (2, .ref mo), (1, .ref o), (0, .ref b)]) hx hb d_L_law_222 hl (by decide) rfl (fun ls hl => ?_)
  refine lv_aload_n hx hb d_L_law_224 rfl (lv_at hl 3 rfl) ?_
  refine lv_aload_n hx hb d_L_law_225 rfl (lv_at hl 5 rfl) ?_
  refine lv_iload hx hb d_L_law_226 (lv_at hl 1 rfl) ?_
  refine lv_iconst (v := nI 1) hx hb d_L_law_228 (by decide) ?_
  refine lv_iadd hx hb d_L_law_229 ?_
  refine lv_topi (fun v18 ev18 => ?_)
  obtain rfl : v18 = nI (i + 1) := ev18.trans (nI_add _ _)
  refine mp_sld hx hb hX hK hI (vp_in_nI (show (i + 1) < L by omega) (by omega)) d_L_law_230 ?_
  refine lv_topi (fun v19 ev19 => ?_)
  obtain rfl : v19 = xs (i + 1) := ev19.trans (by rw [nI_clamp (by omega)])
  refine lv_aload_n hx hb d_L_law_231 rfl (lv_at hl 5 rfl) ?_
  refine lv_iload hx hb d_L_law_232 (lv_at hl 1 rfl) ?_
  refine lv_iconst (v := nI 2) hx hb d_L_law_234 (by decide) ?_
  refine lv_iadd hx hb d_L_law_235 ?_
  refine lv_topi (fun v20 ev20 => ?_)
  obtain rfl : v20 = nI (i + 2) := ev20.trans (nI_add _ _)
  refine mp_sld hx hb hX hK hI (vp_in_nI (show (i + 2) < L by omega) (by omega)) d_L_law_236 ?_
  refine lv_topi (fun v21 ev21 => ?_)
  obtain rfl : v21 = xs (i + 2) := ev21.trans (by rw [nI_clamp (by omega)])
  refine lv_i2l (v := (xs (i + 2)).toInt64) hx hb d_L_law_237 rfl ?_
  refine lv_bipush (v := nI 32) hx hb d_L_law_238 (by decide) ?_
  refine lv_lshl (v := ((xs (i + 2)).toInt64 <<< ((nI 32).toInt64 &&& 63))) hx hb d_L_law_240 rfl ?_
  refine lv_aload_n hx hb d_L_law_241 rfl (lv_at hl 5 rfl) ?_
  refine lv_iload hx hb d_L_law_242 (lv_at hl 1 rfl) ?_
  refine lv_iconst (v := nI 3) hx hb d_L_law_244 (by decide) ?_
  refine lv_iadd hx hb d_L_law_245 ?_
  refine lv_topi (fun v22 ev22 => ?_)
  obtain rfl : v22 = nI (i + 3) := ev22.trans (nI_add _ _)
  refine mp_sld hx hb hX hK hI (vp_in_nI (show (i + 3) < L by omega) (by omega)) d_L_law_246 ?_
  refine lv_topi (fun v23 ev23 => ?_)
  obtain rfl : v23 = xs (i + 3) := ev23.trans (by rw [nI_clamp (by omega)])
  refine lv_i2l (v := (xs (i + 3)).toInt64) hx hb d_L_law_247 rfl ?_
  refine lv_ldc2 (v := lN 4294967295) hx hb hown (hg _ q_1107) d_L_law_248 ?_
  refine lv_land hx hb d_L_law_251 ?_
  refine lv_lor hx hb d_L_law_252 ?_
  refine lv_aload_n hx hb d_L_law_253 rfl (lv_at hl 5 rfl) ?_
  refine lv_iload hx hb d_L_law_254 (lv_at hl 1 rfl) ?_
  refine lv_iconst (v := nI 4) hx hb d_L_law_256 (by decide) ?_
  refine lv_iadd hx hb d_L_law_257 ?_
  refine lv_topi (fun v24 ev24 => ?_)
  obtain rfl : v24 = nI (i + 4) := ev24.trans (nI_add _ _)
  refine mp_sld hx hb hX hK hI (vp_in_nI (show (i + 4) < L by omega) (by omega)) d_L_law_258 ?_
  refine lv_topi (fun v25 ev25 => ?_)
  obtain rfl : v25 = xs (i + 4) := ev25.trans (by rw [nI_clamp (by omega)])
  refine lv_i2l (v := (xs (i + 4)).toInt64) hx hb d_L_law_259 rfl ?_
  refine lv_bipush (v := nI 32) hx hb d_L_law_260 (by decide) ?_
  refine lv_lshl (v := ((xs (i + 4)).toInt64 <<< ((nI 32).toInt64 &&& 63))) hx hb d_L_law_262 rfl ?_
  refine lv_aload_n hx hb d_L_law_263 rfl (lv_at hl 5 rfl) ?_
  refine lv_iload hx hb d_L_law_264 (lv_at hl 1 rfl) ?_
  refine lv_iconst (v := nI 5) hx hb d_L_law_266 (by decide) ?_
  refine lv_iadd hx hb d_L_law_267 ?_
  refine lv_topi (fun v26 ev26 => ?_)
  obtain rfl : v26 = nI (i + 5) := ev26.trans (nI_add _ _)
  refine mp_sld hx hb hX hK hI (vp_in_nI (show (i + 5) < L by omega) (by omega)) d_L_law_268 ?_
  refine lv_topi (fun v27 ev27 => ?_)
  obtain rfl : v27 = xs (i + 5) := ev27.trans (by rw [nI_clamp (by omega)])
  refine lv_i2l (v := (xs (i + 5)).toInt64) hx hb d_L_law_269 rfl ?_
  refine lv_ldc2 (v := lN 4294967295) hx hb hown (hg _ q_1107) d_L_law_270 ?_
  refine lv_land hx hb d_L_law_273 ?_
  refine lv_lor hx hb d_L_law_274 ?_
  refine lv_aload_n hx hb d_L_law_275 rfl (lv_at hl 5 rfl) ?_
  refine lv_iload hx hb d_L_law_276 (lv_at hl 1 rfl) ?_
  refine lv_bipush (v := nI 6) hx hb d_L_law_278 (by decide) ?_
  refine lv_iadd hx hb d_L_law_280 ?_
  refine lv_topi (fun v28 ev28 => ?_)
  obtain rfl : v28 = nI (i + 6) := ev28.trans (nI_add _ _)
  refine mp_sld hx hb hX hK hI (vp_in_nI (show (i + 6) < L by omega) (by omega)) d_L_law_281 ?_
  refine lv_topi (fun v29 ev29 => ?_)
  obtain rfl : v29 = xs (i + 6) := ev29.trans (by rw [nI_clamp (by omega)])
  refine mp_calli hI (va_runV (As := [.int (xs (i + 1)), .long (((xs (i + 2)).toInt64 <<< ((nI 32).toInt64 &&& 63)) ||| ((xs (i + 3)).toInt64 &&& lN 4294967295)), .long (((xs (i + 4)).toInt64 <<< ((nI 32).toInt64 &&& 63)) ||| ((xs (i + 5)).toInt64 &&& lN 4294967295)), .int (xs (i + 6))]) (rest := []) ⟨hx, hb, hml, hown, hg⟩ (c_M_termI l D g S _ mo n (m1) (m2) (m4) (m5) (m6) (m7) (m8) (m9) (m10) (m11) (m12) (m13) (m14) (m15) (m16) (m17) (m18) (m19) (m20) (m21) (m22) (m23) (m24) (m25) (m26) (m27) (m28) (m29) (m30) th (xs (i + 1)) (xs (i + 6)) (((xs (i + 2)).toInt64 <<< ((nI 32).toInt64 &&& 63)) ||| ((xs (i + 3)).toInt64 &&& lN 4294967295)) (((xs (i + 4)).toInt64 <<< ((nI 32).toInt64 &&& 63)) ||| ((xs (i + 5)).toInt64 &&& lN 4294967295)) h_mo hx9) ⟨(callB_of 4 hg (wd_goodG q_910) rfl rfl rfl (hg _ q_5) (hg _ q_907) (by decide +kernel) ⟨Nat.le_of_ble_eq_true rfl, Nat.le_of_ble_eq_true rfl⟩), hg _ q_908, hg _ q_909⟩ (mp_preV (C := R_M) (T := F_M) hI hK h_mo rfl [.int (xs (i + 1)), .long (((xs (i + 2)).toInt64 <<< ((nI 32).toInt64 &&& 63)) ||| ((xs (i + 3)).toInt64 &&& lN 4294967295)), .long (((xs (i + 4)).toInt64 <<< ((nI 32).toInt64 &&& 63)) ||| ((xs (i + 5)).toInt64 &&& lN 4294967295)), .int (xs (i + 6))]) rfl rfl hl.1 rfl (lv_room (Nat.le_of_ble_eq_true rfl)) d_L_law_282 ⟨by omega, by omega⟩) (fun r33 S30 H31 locs p_32 hI => ?_)
  obtain ⟨hq_mo, fq⟩ := p_32
  have h_o : S30 o = some (0, .inr (0, [.int (nI n), .ref pa, v2, v3, v4, v5, v6, v7, v8, v9])) := (fq o (mp_in h_o) (mp_ne h_o h_mo (by decide))).trans h_o
  have h_oa : S30 oa = some (9, .inl ((g 4), 1, .inr (.inl of))) := (fq oa (mp_in h_oa) (mp_ne h_oa h_mo (by decide))).trans h_oa
  refine lv_istore (lv' := [(6, .int r33), (5, .int (nI 1)), (4, .int (nI i)), (3, .ref oa), (2, .ref mo), (1, .ref o), (0, .ref b)]) hx hb d_L_law_285 hl (by decide) rfl (fun ls hl => ?_)
  refine lv_aload_n hx hb d_L_law_287 rfl (lv_at hl 4 rfl) ?_
  refine mp_calli hI (va_runV (As := []) (rest := []) ⟨hx, hb, hml, hown, hg⟩ (c_M_thrown l D g S30 _ mo (.int (nI n)) (m1) (m2) (m4) (m5) (m6) (m7) (m8) (m9) (m10) (m11) (m12) (m13) (m14) (m15) (m16) (m17) (m18) (m19) (m20) (m21) (m22) (m23) (m24) (m25) (m26) (m27) (m28) (m29) (m30) (nI 1) hq_mo) ⟨(callB_of 0 hg (wd_goodG q_902) rfl rfl rfl (hg _ q_5) (hg _ q_899) (by decide +kernel) ⟨Nat.le_of_ble_eq_true rfl, Nat.le_of_ble_eq_true rfl⟩), hg _ q_900, hg _ q_901⟩ (mp_preV (C := R_M) (T := F_M) hI hK hq_mo rfl []) rfl rfl hl.1 rfl (lv_room (Nat.le_of_ble_eq_true rfl)) d_L_law_288 ⟨by omega, by omega⟩) (fun r37 S34 H35 locs p_36 hI => ?_)
  obtain ⟨er37, eS38⟩ := p_36
  rw [eS38] at hI
  have er37 : r37 = nI 1 := er37
  subst er37
  refine lv_iload hx hb d_L_law_291 (lv_at hl 1 rfl) ?_
  refine lv_icmp_eq (tgt := 298) hx hb d_L_law_293 (by decide) (fun _ => ?_) (fun h9 => absurd (rfl) h9)
  refine lv_iload hx hb d_L_law_298 (lv_at hl 1 rfl) ?_
  refine lv_if_ne (tgt := 322) hx hb d_L_law_300 (by decide) (fun _ => ?_) (fun h9 => absurd h9 (by decide))
  refine lv_goto (tgt := 822) hx hb d_L_law_322 (by decide) ?_
  exact kx S30 _ _ ls hI (lv_sub hl [2, 3, 4, 5, 6] rfl)
set_option maxHeartbeats 4000000 in
set_option maxRecDepth 100000 in
/-- term: a power below 0 -/
theorem lc_termN {p : Program} {l : Launch} {e : Env} {s : State} {m : MethodId} {below : List Frame} {meth : Method} {c : Code} {Q : State → Prop} {D : mp_G} {g : Nat → ClassId} {A : Nat → Prop} {b L i : Nat} {xs : Nat → Int32} {cells slots : Nat} {S : mp_M} {H : Heap} {locs : List Loc} {ls : Array Slot} (hx : p.tables.exec = Jvm.exec) (hb : c.code = b_L_law) (hml : c.maxLocals = 7) (hts : ∀ w ∈ lw_tbl, w.before #[Value.ref b] s = true) (hg : ∀ w ∈ gw, w.before #[Value.ref b] s = true) (hown : s.vm.findClass R_L = some m.cls) (hK : mp_K D classes (tys g) s) (hX : va_X b L xs D.2.1 D.2.1.heap) (hL : L ≤ 3585) (hi : i + 6 < L) (hc : cells + 1 ≤ room_1.cells) (hs : slots + 6 ≤ room_1.slots) (hl9 : l.stackTraces = false) {pa n k v : Nat} {eo : Nat → Nat} {v2 v3 v4 v5 v6 v7 v8 v9 m1 m2 m4 m5 m6 m7 m8 m9 m10 m11 m12 m13 m14 m15 m16 m17 m18 m19 m20 m21 m22 m23 m24 m25 m26 m27 m28 m29 m30 : Value} {th : Int32} {of : Nat → Int64} {oa mo o : Nat} (h_o : S o = some (0, .inr (0, [.int (nI n), .ref pa, v2, v3, v4, v5, v6, v7, v8, v9]))) (h_pa : S pa = some (1, .inl ((g 2), 40, .inr (.inr (.inr (.inr (rfs eo 40))))))) (h_oa : S oa = some (9, .inl ((g 4), 1, .inr (.inl of)))) (h_mo : S mo = some (2000, .inr (10, [.int (nI n), m1, m2, .int th, m4, m5, m6, m7, m8, m9, m10, m11, m12, m13, m14, m15, m16, m17, m18, m19, m20, m21, m22, m23, m24, m25, m26, m27, m28, m29, m30]))) (hxk : xs (i + 1) = nI k) (hk : k < 40) (hy : xs (i + 6) < 0) (hI : mp_I D classes A s.heap S H locs) (hl : lv_has ls 7 [(4, .int (nI i)), (3, .ref oa), (2, .ref mo), (1, .ref o), (0, .ref b)]) (kx : ∀ (S : mp_M) (H : Heap) (locs : List Loc) (ls : Array Slot), mp_I D classes A s.heap S H locs → lv_has ls 7 [(4, .int (nI i)), (3, .ref oa), (2, .ref mo), (1, .ref o), (0, .ref b)] → W p l e room_1 s m #[Value.ref b] below meth c H locs (cells + 1) (slots + 6) Q (F0 m 822 ls [])) : W p l e room_1 s m #[Value.ref b] below meth c H locs (cells) (slots) Q (F0 m 160 ls []) := by
  refine lv_aload_n hx hb d_L_law_160 rfl (lv_at hl 3 rfl) ?_
  refine lv_aload_n hx hb d_L_law_161 rfl (lv_at hl 4 rfl) ?_
  refine lv_iload hx hb d_L_law_162 (lv_at hl 0 rfl) ?_
  refine lv_iconst (v := nI 1) hx hb d_L_law_164 (by decide) ?_
  refine lv_iadd hx hb d_L_law_165 ?_
  refine lv_topi (fun v1 ev1 => ?_)
  obtain rfl : v1 = nI (i + 1) := ev1.trans (nI_add _ _)
  refine mp_sld hx hb hX hK hI (vp_in_nI (show (i + 1) < L by omega) (by omega)) d_L_law_166 ?_
  refine lv_topi (fun v2 ev2 => ?_)
  obtain rfl : v2 = xs (i + 1) := ev2.trans (by rw [nI_clamp (by omega)])
  refine lv_topi (fun v3 ev3 => ?_)
  obtain rfl : v3 = nI k := ev3.trans (hxk)
  refine lv_aload_n hx hb d_L_law_167 rfl (lv_at hl 4 rfl) ?_
  refine lv_iload hx hb d_L_law_168 (lv_at hl 0 rfl) ?_
  refine lv_iconst (v := nI 2) hx hb d_L_law_170 (by decide) ?_
  refine lv_iadd hx hb d_L_law_171 ?_
  refine lv_topi (fun v4 ev4 => ?_)
  obtain rfl : v4 = nI (i + 2) := ev4.trans (nI_add _ _)
  refine mp_sld hx hb hX hK hI (vp_in_nI (show (i + 2) < L by omega) (by omega)) d_L_law_172 ?_
  refine lv_topi (fun v5 ev5 => ?_)
  obtain rfl : v5 = xs (i + 2) := ev5.trans (by rw [nI_clamp (by omega)])
  refine lv_i2l (v := (xs (i + 2)).toInt64) hx hb d_L_law_173 rfl ?_
  refine lv_bipush (v := nI 32) hx hb d_L_law_174 (by decide) ?_
  refine lv_lshl (v := ((xs (i + 2)).toInt64 <<< ((nI 32).toInt64 &&& 63))) hx hb d_L_law_176 rfl ?_
  refine lv_aload_n hx hb d_L_law_177 rfl (lv_at hl 4 rfl) ?_
  refine lv_iload hx hb d_L_law_178 (lv_at hl 0 rfl) ?_
  refine lv_iconst (v := nI 3) hx hb d_L_law_180 (by decide) ?_
  refine lv_iadd hx hb d_L_law_181 ?_
  refine lv_topi (fun v6 ev6 => ?_)
  obtain rfl : v6 = nI (i + 3) := ev6.trans (nI_add _ _)
  refine mp_sld hx hb hX hK hI (vp_in_nI (show (i + 3) < L by omega) (by omega)) d_L_law_182 ?_
  refine lv_topi (fun v7 ev7 => ?_)
  obtain rfl : v7 = xs (i + 3) := ev7.trans (by rw [nI_clamp (by omega)])
  refine lv_i2l (v := (xs (i + 3)).toInt64) hx hb d_L_law_183 rfl ?_
  refine lv_ldc2 (v := lN 4294967295) hx hb hown (hg _ q_1107) d_L_law_184 ?_
  refine lv_land hx hb d_L_law_187 ?_
  refine lv_lor hx hb d_L_law_188 ?_
  refine lv_aload_n hx hb d_L_law_189 rfl (lv_at hl 4 rfl) ?_
  refine lv_iload hx hb d_L_law_190 (lv_at hl 0 rfl) ?_
  refine lv_iconst (v := nI 4) hx hb d_L_law_192 (by decide) ?_
  refine lv_iadd hx hb d_L_law_193 ?_
  refine lv_topi (fun v8 ev8 => ?_)
  obtain rfl : v8 = nI (i + 4) := ev8.trans (nI_add _ _)
  refine mp_sld hx hb hX hK hI (vp_in_nI (show (i + 4) < L by omega) (by omega)) d_L_law_194 ?_
  refine lv_topi (fun v9 ev9 => ?_)
  obtain rfl : v9 = xs (i + 4) := ev9.trans (by rw [nI_clamp (by omega)])
  refine lv_i2l (v := (xs (i + 4)).toInt64) hx hb d_L_law_195 rfl ?_
  refine lv_bipush (v := nI 32) hx hb d_L_law_196 (by decide) ?_
  refine lv_lshl (v := ((xs (i + 4)).toInt64 <<< ((nI 32).toInt64 &&& 63))) hx hb d_L_law_198 rfl ?_
  refine lv_aload_n hx hb d_L_law_199 rfl (lv_at hl 4 rfl) ?_
  refine lv_iload hx hb d_L_law_200 (lv_at hl 0 rfl) ?_
  refine lv_iconst (v := nI 5) hx hb d_L_law_202 (by decide) ?_
  refine lv_iadd hx hb d_L_law_203 ?_
  refine lv_topi (fun v10 ev10 => ?_)
  obtain rfl : v10 = nI (i + 5) := ev10.trans (nI_add _ _)
  refine mp_sld hx hb hX hK hI (vp_in_nI (show (i + 5) < L by omega) (by omega)) d_L_law_204 ?_
  refine lv_topi (fun v11 ev11 => ?_)
  obtain rfl : v11 = xs (i + 5) := ev11.trans (by rw [nI_clamp (by omega)])
  refine lv_i2l (v := (xs (i + 5)).toInt64) hx hb d_L_law_205 rfl ?_
  refine lv_ldc2 (v := lN 4294967295) hx hb hown (hg _ q_1107) d_L_law_206 ?_
  refine lv_land hx hb d_L_law_209 ?_
  refine lv_lor hx hb d_L_law_210 ?_
  refine lv_aload_n hx hb d_L_law_211 rfl (lv_at hl 4 rfl) ?_
  refine lv_iload hx hb d_L_law_212 (lv_at hl 0 rfl) ?_
  refine lv_bipush (v := nI 6) hx hb d_L_law_214 (by decide) ?_
  refine lv_iadd hx hb d_L_law_216 ?_
  refine lv_topi (fun v12 ev12 => ?_)
  obtain rfl : v12 = nI (i + 6) := ev12.trans (nI_add _ _)
  refine mp_sld hx hb hX hK hI (vp_in_nI (show (i + 6) < L by omega) (by omega)) d_L_law_217 ?_
  refine lv_topi (fun v13 ev13 => ?_)
  obtain rfl : v13 = xs (i + 6) := ev13.trans (by rw [nI_clamp (by omega)])
  refine lv_aload_n hx hb d_L_law_218 rfl (lv_at hl 1 rfl) ?_
  refine mp_calli hI (lw_runS (As := [.ref o, .int (nI k), .long (((xs (i + 2)).toInt64 <<< ((nI 32).toInt64 &&& 63)) ||| ((xs (i + 3)).toInt64 &&& lN 4294967295)), .long (((xs (i + 4)).toInt64 <<< ((nI 32).toInt64 &&& 63)) ||| ((xs (i + 5)).toInt64 &&& lN 4294967295)), .int (xs (i + 6)), .ref oa]) (rest := []) ⟨hx, hb, hml, hown, hg⟩ (c_L_termN l D g S _ o pa n eo v2 v3 v4 v5 v6 v7 v8 v9 k (xs (i + 6)) (((xs (i + 2)).toInt64 <<< ((nI 32).toInt64 &&& 63)) ||| ((xs (i + 3)).toInt64 &&& lN 4294967295)) (((xs (i + 4)).toInt64 <<< ((nI 32).toInt64 &&& 63)) ||| ((xs (i + 5)).toInt64 &&& lN 4294967295)) oa of h_o h_pa h_oa hl9 hk hy) ⟨callBW_of 6 hg (hts _ q_621) rfl rfl (hg _ q_0) (hg _ q_619) (by decide +kernel) ⟨Nat.le_of_ble_eq_true rfl, Nat.le_of_ble_eq_true rfl⟩, hg _ q_620⟩ (mp_pre hI hK [.ref o, .int (nI k), .long (((xs (i + 2)).toInt64 <<< ((nI 32).toInt64 &&& 63)) ||| ((xs (i + 3)).toInt64 &&& lN 4294967295)), .long (((xs (i + 4)).toInt64 <<< ((nI 32).toInt64 &&& 63)) ||| ((xs (i + 5)).toInt64 &&& lN 4294967295)), .int (xs (i + 6)), .ref oa]) rfl rfl hl.1 rfl (lv_room (Nat.le_of_ble_eq_true rfl)) d_L_law_219 ⟨by omega, by omega⟩) (fun r17 S14 H15 locs p_16 hI => ?_)
  obtain ⟨er17, eS18⟩ := p_16
  rw [eS18] at hI
  have er17 : r17 = nI 2 := er17
  subst er17
  refine lv_istore (lv' := [(5, .int (nI 2)), (4, .int (nI i)), (3, .ref oa), (2, .ref mo), (1, .ref o), (0, .ref b)]) hx hb d_L_law_222 hl (by decide) rfl (fun ls hl => ?_)
  refine lv_aload_n hx hb d_L_law_224 rfl (lv_at hl 3 rfl) ?_
  refine lv_aload_n hx hb d_L_law_225 rfl (lv_at hl 5 rfl) ?_
  refine lv_iload hx hb d_L_law_226 (lv_at hl 1 rfl) ?_
  refine lv_iconst (v := nI 1) hx hb d_L_law_228 (by decide) ?_
  refine lv_iadd hx hb d_L_law_229 ?_
  refine lv_topi (fun v19 ev19 => ?_)
  obtain rfl : v19 = nI (i + 1) := ev19.trans (nI_add _ _)
  refine mp_sld hx hb hX hK hI (vp_in_nI (show (i + 1) < L by omega) (by omega)) d_L_law_230 ?_
  refine lv_topi (fun v20 ev20 => ?_)
  obtain rfl : v20 = xs (i + 1) := ev20.trans (by rw [nI_clamp (by omega)])
  refine lv_topi (fun v21 ev21 => ?_)
  obtain rfl : v21 = nI k := ev21.trans (hxk)
  refine lv_aload_n hx hb d_L_law_231 rfl (lv_at hl 5 rfl) ?_
  refine lv_iload hx hb d_L_law_232 (lv_at hl 1 rfl) ?_
  refine lv_iconst (v := nI 2) hx hb d_L_law_234 (by decide) ?_
  refine lv_iadd hx hb d_L_law_235 ?_
  refine lv_topi (fun v22 ev22 => ?_)
  obtain rfl : v22 = nI (i + 2) := ev22.trans (nI_add _ _)
  refine mp_sld hx hb hX hK hI (vp_in_nI (show (i + 2) < L by omega) (by omega)) d_L_law_236 ?_
  refine lv_topi (fun v23 ev23 => ?_)
  obtain rfl : v23 = xs (i + 2) := ev23.trans (by rw [nI_clamp (by omega)])
  refine lv_i2l (v := (xs (i + 2)).toInt64) hx hb d_L_law_237 rfl ?_
  refine lv_bipush (v := nI 32) hx hb d_L_law_238 (by decide) ?_
  refine lv_lshl (v := ((xs (i + 2)).toInt64 <<< ((nI 32).toInt64 &&& 63))) hx hb d_L_law_240 rfl ?_
  refine lv_aload_n hx hb d_L_law_241 rfl (lv_at hl 5 rfl) ?_
  refine lv_iload hx hb d_L_law_242 (lv_at hl 1 rfl) ?_
  refine lv_iconst (v := nI 3) hx hb d_L_law_244 (by decide) ?_
  refine lv_iadd hx hb d_L_law_245 ?_
  refine lv_topi (fun v24 ev24 => ?_)
  obtain rfl : v24 = nI (i + 3) := ev24.trans (nI_add _ _)
  refine mp_sld hx hb hX hK hI (vp_in_nI (show (i + 3) < L by omega) (by omega)) d_L_law_246 ?_
  refine lv_topi (fun v25 ev25 => ?_)
  obtain rfl : v25 = xs (i + 3) := ev25.trans (by rw [nI_clamp (by omega)])
  refine lv_i2l (v := (xs (i + 3)).toInt64) hx hb d_L_law_247 rfl ?_
  refine lv_ldc2 (v := lN 4294967295) hx hb hown (hg _ q_1107) d_L_law_248 ?_
  refine lv_land hx hb d_L_law_251 ?_
  refine lv_lor hx hb d_L_law_252 ?_
  refine lv_aload_n hx hb d_L_law_253 rfl (lv_at hl 5 rfl) ?_
  refine lv_iload hx hb d_L_law_254 (lv_at hl 1 rfl) ?_
  refine lv_iconst (v := nI 4) hx hb d_L_law_256 (by decide) ?_
  refine lv_iadd hx hb d_L_law_257 ?_
  refine lv_topi (fun v26 ev26 => ?_)
  obtain rfl : v26 = nI (i + 4) := ev26.trans (nI_add _ _)
  refine mp_sld hx hb hX hK hI (vp_in_nI (show (i + 4) < L by omega) (by omega)) d_L_law_258 ?_
  refine lv_topi (fun v27 ev27 => ?_)
  obtain rfl : v27 = xs (i + 4) := ev27.trans (by rw [nI_clamp (by omega)])
  refine lv_i2l (v := (xs (i + 4)).toInt64) hx hb d_L_law_259 rfl ?_
  refine lv_bipush (v := nI 32) hx hb d_L_law_260 (by decide) ?_
  refine lv_lshl (v := ((xs (i + 4)).toInt64 <<< ((nI 32).toInt64 &&& 63))) hx hb d_L_law_262 rfl ?_
  refine lv_aload_n hx hb d_L_law_263 rfl (lv_at hl 5 rfl) ?_
  refine lv_iload hx hb d_L_law_264 (lv_at hl 1 rfl) ?_
  refine lv_iconst (v := nI 5) hx hb d_L_law_266 (by decide) ?_
  refine lv_iadd hx hb d_L_law_267 ?_
  refine lv_topi (fun v28 ev28 => ?_)
  obtain rfl : v28 = nI (i + 5) := ev28.trans (nI_add _ _)
  refine mp_sld hx hb hX hK hI (vp_in_nI (show (i + 5) < L by omega) (by omega)) d_L_law_268 ?_
  refine lv_topi (fun v29 ev29 => ?_)
  obtain rfl : v29 = xs (i + 5) := ev29.trans (by rw [nI_clamp (by omega)])
  refine lv_i2l (v := (xs (i + 5)).toInt64) hx hb d_L_law_269 rfl ?_
  refine lv_ldc2 (v := lN 4294967295) hx hb hown (hg _ q_1107) d_L_law_270 ?_
  refine lv_land hx hb d_L_law_273 ?_
  refine lv_lor hx hb d_L_law_274 ?_
  refine lv_aload_n hx hb d_L_law_275 rfl (lv_at hl 5 rfl) ?_
  refine lv_iload hx hb d_L_law_276 (lv_at hl 1 rfl) ?_
  refine lv_bipush (v := nI 6) hx hb d_L_law_278 (by decide) ?_
  refine lv_iadd hx hb d_L_law_280 ?_
  refine lv_topi (fun v30 ev30 => ?_)
  obtain rfl : v30 = nI (i + 6) := ev30.trans (nI_add _ _)
  refine mp_sld hx hb hX hK hI (vp_in_nI (show (i + 6) < L by omega) (by omega)) d_L_law_281 ?_
  refine lv_topi (fun v31 ev31 => ?_)
  obtain rfl : v31 = xs (i + 6) := ev31.trans (by rw [nI_clamp (by omega)])
  refine mp_calli hI (va_runV (As := [.int (nI k), .long (((xs (i + 2)).toInt64 <<< ((nI 32).toInt64 &&& 63)) ||| ((xs (i + 3)).toInt64 &&& lN 4294967295)), .long (((xs (i + 4)).toInt64 <<< ((nI 32).toInt64 &&& 63)) ||| ((xs (i + 5)).toInt64 &&& lN 4294967295)), .int (xs (i + 6))]) (rest := []) ⟨hx, hb, hml, hown, hg⟩ (c_M_termN l D g S _ mo n k (m1) (m2) (m4) (m5) (m6) (m7) (m8) (m9) (m10) (m11) (m12) (m13) (m14) (m15) (m16) (m17) (m18) (m19) (m20) (m21) (m22) (m23) (m24) (m25) (m26) (m27) (m28) (m29) (m30) th (xs (i + 6)) (((xs (i + 2)).toInt64 <<< ((nI 32).toInt64 &&& 63)) ||| ((xs (i + 3)).toInt64 &&& lN 4294967295)) (((xs (i + 4)).toInt64 <<< ((nI 32).toInt64 &&& 63)) ||| ((xs (i + 5)).toInt64 &&& lN 4294967295)) h_mo hk hy) ⟨(callB_of 4 hg (wd_goodG q_910) rfl rfl rfl (hg _ q_5) (hg _ q_907) (by decide +kernel) ⟨Nat.le_of_ble_eq_true rfl, Nat.le_of_ble_eq_true rfl⟩), hg _ q_908, hg _ q_909⟩ (mp_preV (C := R_M) (T := F_M) hI hK h_mo rfl [.int (nI k), .long (((xs (i + 2)).toInt64 <<< ((nI 32).toInt64 &&& 63)) ||| ((xs (i + 3)).toInt64 &&& lN 4294967295)), .long (((xs (i + 4)).toInt64 <<< ((nI 32).toInt64 &&& 63)) ||| ((xs (i + 5)).toInt64 &&& lN 4294967295)), .int (xs (i + 6))]) rfl rfl hl.1 rfl (lv_room (Nat.le_of_ble_eq_true rfl)) d_L_law_282 ⟨by omega, by omega⟩) (fun r35 S32 H33 locs p_34 hI => ?_)
  obtain ⟨hq_mo, fq⟩ := p_34
  have h_o : S32 o = some (0, .inr (0, [.int (nI n), .ref pa, v2, v3, v4, v5, v6, v7, v8, v9])) := (fq o (mp_in h_o) (mp_ne h_o h_mo (by decide))).trans h_o
  have h_pa : S32 pa = some (1, .inl ((g 2), 40, .inr (.inr (.inr (.inr (rfs eo 40)))))) := (fq pa (mp_in h_pa) (mp_ne h_pa h_mo (by decide))).trans h_pa
  have h_oa : S32 oa = some (9, .inl ((g 4), 1, .inr (.inl of))) := (fq oa (mp_in h_oa) (mp_ne h_oa h_mo (by decide))).trans h_oa
  refine lv_istore (lv' := [(6, .int r35), (5, .int (nI 2)), (4, .int (nI i)), (3, .ref oa), (2, .ref mo), (1, .ref o), (0, .ref b)]) hx hb d_L_law_285 hl (by decide) rfl (fun ls hl => ?_)
  refine lv_aload_n hx hb d_L_law_287 rfl (lv_at hl 4 rfl) ?_
  refine mp_calli hI (va_runV (As := []) (rest := []) ⟨hx, hb, hml, hown, hg⟩ (c_M_thrown l D g S32 _ mo (.int (nI n)) (m1) (m2) (m4) (m5) (m6) (m7) (m8) (m9) (m10) (m11) (m12) (m13) (m14) (m15) (m16) (m17) (m18) (m19) (m20) (m21) (m22) (m23) (m24) (m25) (m26) (m27) (m28) (m29) (m30) (nI 2) hq_mo) ⟨(callB_of 0 hg (wd_goodG q_902) rfl rfl rfl (hg _ q_5) (hg _ q_899) (by decide +kernel) ⟨Nat.le_of_ble_eq_true rfl, Nat.le_of_ble_eq_true rfl⟩), hg _ q_900, hg _ q_901⟩ (mp_preV (C := R_M) (T := F_M) hI hK hq_mo rfl []) rfl rfl hl.1 rfl (lv_room (Nat.le_of_ble_eq_true rfl)) d_L_law_288 ⟨by omega, by omega⟩) (fun r39 S36 H37 locs p_38 hI => ?_)
  obtain ⟨er39, eS40⟩ := p_38
  rw [eS40] at hI
  have er39 : r39 = nI 2 := er39
  subst er39
  refine lv_iload hx hb d_L_law_291 (lv_at hl 1 rfl) ?_
  refine lv_icmp_eq (tgt := 298) hx hb d_L_law_293 (by decide) (fun _ => ?_) (fun h9 => absurd (rfl) h9)
  refine lv_iload hx hb d_L_law_298 (lv_at hl 1 rfl) ?_
  refine lv_if_ne (tgt := 322) hx hb d_L_law_300 (by decide) (fun _ => ?_) (fun h9 => absurd h9 (by decide))
  refine lv_goto (tgt := 822) hx hb d_L_law_322 (by decide) ?_
  exact kx S32 _ _ ls hI (lv_sub hl [2, 3, 4, 5, 6] rfl)
set_option maxHeartbeats 4000000 in
set_option maxRecDepth 100000 in
/-- term: no such power -/
theorem lc_termA {p : Program} {l : Launch} {e : Env} {s : State} {m : MethodId} {below : List Frame} {meth : Method} {c : Code} {Q : State → Prop} {D : mp_G} {g : Nat → ClassId} {A : Nat → Prop} {b L i : Nat} {xs : Nat → Int32} {cells slots : Nat} {S : mp_M} {H : Heap} {locs : List Loc} {ls : Array Slot} (hx : p.tables.exec = Jvm.exec) (hb : c.code = b_L_law) (hml : c.maxLocals = 7) (hts : ∀ w ∈ lw_tbl, w.before #[Value.ref b] s = true) (hg : ∀ w ∈ gw, w.before #[Value.ref b] s = true) (hown : s.vm.findClass R_L = some m.cls) (hK : mp_K D classes (tys g) s) (hX : va_X b L xs D.2.1 D.2.1.heap) (hL : L ≤ 3585) (hi : i + 6 < L) (hc : cells + 1 ≤ room_1.cells) (hs : slots + 6 ≤ room_1.slots) (hl9 : l.stackTraces = false) {pa n k v : Nat} {eo : Nat → Nat} {v2 v3 v4 v5 v6 v7 v8 v9 m1 m2 m4 m5 m6 m7 m8 m9 m10 m11 m12 m13 m14 m15 m16 m17 m18 m19 m20 m21 m22 m23 m24 m25 m26 m27 m28 m29 m30 : Value} {th : Int32} {of : Nat → Int64} {oa mo o : Nat} (h_o : S o = some (0, .inr (0, [.int (nI n), .ref pa, v2, v3, v4, v5, v6, v7, v8, v9]))) (h_pa : S pa = some (1, .inl ((g 2), 40, .inr (.inr (.inr (.inr (rfs eo 40))))))) (h_oa : S oa = some (9, .inl ((g 4), 1, .inr (.inl of)))) (h_mo : S mo = some (2000, .inr (10, [.int (nI n), m1, m2, .int th, m4, m5, m6, m7, m8, m9, m10, m11, m12, m13, m14, m15, m16, m17, m18, m19, m20, m21, m22, m23, m24, m25, m26, m27, m28, m29, m30]))) (hxk : xs (i + 1) = nI k) (hk : k < 40) (hxv : xs (i + 6) = nI v) (hv : v < 2 ^ 31) (hn : n < 4) (hn0 : 0 < n) (hp : ¬ pwOk n v) (hI : mp_I D classes A s.heap S H locs) (hl : lv_has ls 7 [(4, .int (nI i)), (3, .ref oa), (2, .ref mo), (1, .ref o), (0, .ref b)]) (kx : ∀ (S : mp_M) (H : Heap) (locs : List Loc) (ls : Array Slot), mp_I D classes A s.heap S H locs → lv_has ls 7 [(4, .int (nI i)), (3, .ref oa), (2, .ref mo), (1, .ref o), (0, .ref b)] → W p l e room_1 s m #[Value.ref b] below meth c H locs (cells + 1) (slots + 6) Q (F0 m 822 ls [])) : W p l e room_1 s m #[Value.ref b] below meth c H locs (cells) (slots) Q (F0 m 160 ls []) := by
  refine lv_aload_n hx hb d_L_law_160 rfl (lv_at hl 3 rfl) ?_
  refine lv_aload_n hx hb d_L_law_161 rfl (lv_at hl 4 rfl) ?_
  refine lv_iload hx hb d_L_law_162 (lv_at hl 0 rfl) ?_
  refine lv_iconst (v := nI 1) hx hb d_L_law_164 (by decide) ?_
  refine lv_iadd hx hb d_L_law_165 ?_
  refine lv_topi (fun v1 ev1 => ?_)
  obtain rfl : v1 = nI (i + 1) := ev1.trans (nI_add _ _)
  refine mp_sld hx hb hX hK hI (vp_in_nI (show (i + 1) < L by omega) (by omega)) d_L_law_166 ?_
  refine lv_topi (fun v2 ev2 => ?_)
  obtain rfl : v2 = xs (i + 1) := ev2.trans (by rw [nI_clamp (by omega)])
  refine lv_topi (fun v3 ev3 => ?_)
  obtain rfl : v3 = nI k := ev3.trans (hxk)
  refine lv_aload_n hx hb d_L_law_167 rfl (lv_at hl 4 rfl) ?_
  refine lv_iload hx hb d_L_law_168 (lv_at hl 0 rfl) ?_
  refine lv_iconst (v := nI 2) hx hb d_L_law_170 (by decide) ?_
  refine lv_iadd hx hb d_L_law_171 ?_
  refine lv_topi (fun v4 ev4 => ?_)
  obtain rfl : v4 = nI (i + 2) := ev4.trans (nI_add _ _)
  refine mp_sld hx hb hX hK hI (vp_in_nI (show (i + 2) < L by omega) (by omega)) d_L_law_172 ?_
  refine lv_topi (fun v5 ev5 => ?_)
  obtain rfl : v5 = xs (i + 2) := ev5.trans (by rw [nI_clamp (by omega)])
  refine lv_i2l (v := (xs (i + 2)).toInt64) hx hb d_L_law_173 rfl ?_
  refine lv_bipush (v := nI 32) hx hb d_L_law_174 (by decide) ?_
  refine lv_lshl (v := ((xs (i + 2)).toInt64 <<< ((nI 32).toInt64 &&& 63))) hx hb d_L_law_176 rfl ?_
  refine lv_aload_n hx hb d_L_law_177 rfl (lv_at hl 4 rfl) ?_
  refine lv_iload hx hb d_L_law_178 (lv_at hl 0 rfl) ?_
  refine lv_iconst (v := nI 3) hx hb d_L_law_180 (by decide) ?_
  refine lv_iadd hx hb d_L_law_181 ?_
  refine lv_topi (fun v6 ev6 => ?_)
  obtain rfl : v6 = nI (i + 3) := ev6.trans (nI_add _ _)
  refine mp_sld hx hb hX hK hI (vp_in_nI (show (i + 3) < L by omega) (by omega)) d_L_law_182 ?_
  refine lv_topi (fun v7 ev7 => ?_)
  obtain rfl : v7 = xs (i + 3) := ev7.trans (by rw [nI_clamp (by omega)])
  refine lv_i2l (v := (xs (i + 3)).toInt64) hx hb d_L_law_183 rfl ?_
  refine lv_ldc2 (v := lN 4294967295) hx hb hown (hg _ q_1107) d_L_law_184 ?_
  refine lv_land hx hb d_L_law_187 ?_
  refine lv_lor hx hb d_L_law_188 ?_
  refine lv_aload_n hx hb d_L_law_189 rfl (lv_at hl 4 rfl) ?_
  refine lv_iload hx hb d_L_law_190 (lv_at hl 0 rfl) ?_
  refine lv_iconst (v := nI 4) hx hb d_L_law_192 (by decide) ?_
  refine lv_iadd hx hb d_L_law_193 ?_
  refine lv_topi (fun v8 ev8 => ?_)
  obtain rfl : v8 = nI (i + 4) := ev8.trans (nI_add _ _)
  refine mp_sld hx hb hX hK hI (vp_in_nI (show (i + 4) < L by omega) (by omega)) d_L_law_194 ?_
  refine lv_topi (fun v9 ev9 => ?_)
  obtain rfl : v9 = xs (i + 4) := ev9.trans (by rw [nI_clamp (by omega)])
  refine lv_i2l (v := (xs (i + 4)).toInt64) hx hb d_L_law_195 rfl ?_
  refine lv_bipush (v := nI 32) hx hb d_L_law_196 (by decide) ?_
  refine lv_lshl (v := ((xs (i + 4)).toInt64 <<< ((nI 32).toInt64 &&& 63))) hx hb d_L_law_198 rfl ?_
  refine lv_aload_n hx hb d_L_law_199 rfl (lv_at hl 4 rfl) ?_
  refine lv_iload hx hb d_L_law_200 (lv_at hl 0 rfl) ?_
  refine lv_iconst (v := nI 5) hx hb d_L_law_202 (by decide) ?_
  refine lv_iadd hx hb d_L_law_203 ?_
  refine lv_topi (fun v10 ev10 => ?_)
  obtain rfl : v10 = nI (i + 5) := ev10.trans (nI_add _ _)
  refine mp_sld hx hb hX hK hI (vp_in_nI (show (i + 5) < L by omega) (by omega)) d_L_law_204 ?_
  refine lv_topi (fun v11 ev11 => ?_)
  obtain rfl : v11 = xs (i + 5) := ev11.trans (by rw [nI_clamp (by omega)])
  refine lv_i2l (v := (xs (i + 5)).toInt64) hx hb d_L_law_205 rfl ?_
  refine lv_ldc2 (v := lN 4294967295) hx hb hown (hg _ q_1107) d_L_law_206 ?_
  refine lv_land hx hb d_L_law_209 ?_
  refine lv_lor hx hb d_L_law_210 ?_
  refine lv_aload_n hx hb d_L_law_211 rfl (lv_at hl 4 rfl) ?_
  refine lv_iload hx hb d_L_law_212 (lv_at hl 0 rfl) ?_
  refine lv_bipush (v := nI 6) hx hb d_L_law_214 (by decide) ?_
  refine lv_iadd hx hb d_L_law_216 ?_
  refine lv_topi (fun v12 ev12 => ?_)
  obtain rfl : v12 = nI (i + 6) := ev12.trans (nI_add _ _)
  refine mp_sld hx hb hX hK hI (vp_in_nI (show (i + 6) < L by omega) (by omega)) d_L_law_217 ?_
  refine lv_topi (fun v13 ev13 => ?_)
  obtain rfl : v13 = xs (i + 6) := ev13.trans (by rw [nI_clamp (by omega)])
  refine lv_topi (fun v14 ev14 => ?_)
  obtain rfl : v14 = nI v := ev14.trans (hxv)
  refine lv_aload_n hx hb d_L_law_218 rfl (lv_at hl 1 rfl) ?_
  refine mp_calli hI (lw_runS (As := [.ref o, .int (nI k), .long (((xs (i + 2)).toInt64 <<< ((nI 32).toInt64 &&& 63)) ||| ((xs (i + 3)).toInt64 &&& lN 4294967295)), .long (((xs (i + 4)).toInt64 <<< ((nI 32).toInt64 &&& 63)) ||| ((xs (i + 5)).toInt64 &&& lN 4294967295)), .int (nI v), .ref oa]) (rest := []) ⟨hx, hb, hml, hown, hg⟩ (c_L_termA l D g S _ o pa n eo v2 v3 v4 v5 v6 v7 v8 v9 k v (((xs (i + 2)).toInt64 <<< ((nI 32).toInt64 &&& 63)) ||| ((xs (i + 3)).toInt64 &&& lN 4294967295)) (((xs (i + 4)).toInt64 <<< ((nI 32).toInt64 &&& 63)) ||| ((xs (i + 5)).toInt64 &&& lN 4294967295)) oa of h_o h_pa h_oa hl9 hk hv hn hn0 hp) ⟨callBW_of 6 hg (hts _ q_621) rfl rfl (hg _ q_0) (hg _ q_619) (by decide +kernel) ⟨Nat.le_of_ble_eq_true rfl, Nat.le_of_ble_eq_true rfl⟩, hg _ q_620⟩ (mp_pre hI hK [.ref o, .int (nI k), .long (((xs (i + 2)).toInt64 <<< ((nI 32).toInt64 &&& 63)) ||| ((xs (i + 3)).toInt64 &&& lN 4294967295)), .long (((xs (i + 4)).toInt64 <<< ((nI 32).toInt64 &&& 63)) ||| ((xs (i + 5)).toInt64 &&& lN 4294967295)), .int (nI v), .ref oa]) rfl rfl hl.1 rfl (lv_room (Nat.le_of_ble_eq_true rfl)) d_L_law_219 ⟨by omega, by omega⟩) (fun r18 S15 H16 locs p_17 hI => ?_)
  obtain ⟨er18, eS19⟩ := p_17
  rw [eS19] at hI
  have er18 : r18 = nI 2 := er18
  subst er18
  refine lv_istore (lv' := [(5, .int (nI 2)), (4, .int (nI i)), (3, .ref oa), (2, .ref mo), (1, .ref o), (0, .ref b)]) hx hb d_L_law_222 hl (by decide) rfl (fun ls hl => ?_)
  refine lv_aload_n hx hb d_L_law_224 rfl (lv_at hl 3 rfl) ?_
  refine lv_aload_n hx hb d_L_law_225 rfl (lv_at hl 5 rfl) ?_
  refine lv_iload hx hb d_L_law_226 (lv_at hl 1 rfl) ?_
  refine lv_iconst (v := nI 1) hx hb d_L_law_228 (by decide) ?_
  refine lv_iadd hx hb d_L_law_229 ?_
  refine lv_topi (fun v20 ev20 => ?_)
  obtain rfl : v20 = nI (i + 1) := ev20.trans (nI_add _ _)
  refine mp_sld hx hb hX hK hI (vp_in_nI (show (i + 1) < L by omega) (by omega)) d_L_law_230 ?_
  refine lv_topi (fun v21 ev21 => ?_)
  obtain rfl : v21 = xs (i + 1) := ev21.trans (by rw [nI_clamp (by omega)])
  refine lv_topi (fun v22 ev22 => ?_)
  obtain rfl : v22 = nI k := ev22.trans (hxk)
  refine lv_aload_n hx hb d_L_law_231 rfl (lv_at hl 5 rfl) ?_
  refine lv_iload hx hb d_L_law_232 (lv_at hl 1 rfl) ?_
  refine lv_iconst (v := nI 2) hx hb d_L_law_234 (by decide) ?_
  refine lv_iadd hx hb d_L_law_235 ?_
  refine lv_topi (fun v23 ev23 => ?_)
  obtain rfl : v23 = nI (i + 2) := ev23.trans (nI_add _ _)
  refine mp_sld hx hb hX hK hI (vp_in_nI (show (i + 2) < L by omega) (by omega)) d_L_law_236 ?_
  refine lv_topi (fun v24 ev24 => ?_)
  obtain rfl : v24 = xs (i + 2) := ev24.trans (by rw [nI_clamp (by omega)])
  refine lv_i2l (v := (xs (i + 2)).toInt64) hx hb d_L_law_237 rfl ?_
  refine lv_bipush (v := nI 32) hx hb d_L_law_238 (by decide) ?_
  refine lv_lshl (v := ((xs (i + 2)).toInt64 <<< ((nI 32).toInt64 &&& 63))) hx hb d_L_law_240 rfl ?_
  refine lv_aload_n hx hb d_L_law_241 rfl (lv_at hl 5 rfl) ?_
  refine lv_iload hx hb d_L_law_242 (lv_at hl 1 rfl) ?_
  refine lv_iconst (v := nI 3) hx hb d_L_law_244 (by decide) ?_
  refine lv_iadd hx hb d_L_law_245 ?_
  refine lv_topi (fun v25 ev25 => ?_)
  obtain rfl : v25 = nI (i + 3) := ev25.trans (nI_add _ _)
  refine mp_sld hx hb hX hK hI (vp_in_nI (show (i + 3) < L by omega) (by omega)) d_L_law_246 ?_
  refine lv_topi (fun v26 ev26 => ?_)
  obtain rfl : v26 = xs (i + 3) := ev26.trans (by rw [nI_clamp (by omega)])
  refine lv_i2l (v := (xs (i + 3)).toInt64) hx hb d_L_law_247 rfl ?_
  refine lv_ldc2 (v := lN 4294967295) hx hb hown (hg _ q_1107) d_L_law_248 ?_
  refine lv_land hx hb d_L_law_251 ?_
  refine lv_lor hx hb d_L_law_252 ?_
  refine lv_aload_n hx hb d_L_law_253 rfl (lv_at hl 5 rfl) ?_
  refine lv_iload hx hb d_L_law_254 (lv_at hl 1 rfl) ?_
  refine lv_iconst (v := nI 4) hx hb d_L_law_256 (by decide) ?_
  refine lv_iadd hx hb d_L_law_257 ?_
  refine lv_topi (fun v27 ev27 => ?_)
  obtain rfl : v27 = nI (i + 4) := ev27.trans (nI_add _ _)
  refine mp_sld hx hb hX hK hI (vp_in_nI (show (i + 4) < L by omega) (by omega)) d_L_law_258 ?_
  refine lv_topi (fun v28 ev28 => ?_)
  obtain rfl : v28 = xs (i + 4) := ev28.trans (by rw [nI_clamp (by omega)])
  refine lv_i2l (v := (xs (i + 4)).toInt64) hx hb d_L_law_259 rfl ?_
  refine lv_bipush (v := nI 32) hx hb d_L_law_260 (by decide) ?_
  refine lv_lshl (v := ((xs (i + 4)).toInt64 <<< ((nI 32).toInt64 &&& 63))) hx hb d_L_law_262 rfl ?_
  refine lv_aload_n hx hb d_L_law_263 rfl (lv_at hl 5 rfl) ?_
  refine lv_iload hx hb d_L_law_264 (lv_at hl 1 rfl) ?_
  refine lv_iconst (v := nI 5) hx hb d_L_law_266 (by decide) ?_
  refine lv_iadd hx hb d_L_law_267 ?_
  refine lv_topi (fun v29 ev29 => ?_)
  obtain rfl : v29 = nI (i + 5) := ev29.trans (nI_add _ _)
  refine mp_sld hx hb hX hK hI (vp_in_nI (show (i + 5) < L by omega) (by omega)) d_L_law_268 ?_
  refine lv_topi (fun v30 ev30 => ?_)
  obtain rfl : v30 = xs (i + 5) := ev30.trans (by rw [nI_clamp (by omega)])
  refine lv_i2l (v := (xs (i + 5)).toInt64) hx hb d_L_law_269 rfl ?_
  refine lv_ldc2 (v := lN 4294967295) hx hb hown (hg _ q_1107) d_L_law_270 ?_
  refine lv_land hx hb d_L_law_273 ?_
  refine lv_lor hx hb d_L_law_274 ?_
  refine lv_aload_n hx hb d_L_law_275 rfl (lv_at hl 5 rfl) ?_
  refine lv_iload hx hb d_L_law_276 (lv_at hl 1 rfl) ?_
  refine lv_bipush (v := nI 6) hx hb d_L_law_278 (by decide) ?_
  refine lv_iadd hx hb d_L_law_280 ?_
  refine lv_topi (fun v31 ev31 => ?_)
  obtain rfl : v31 = nI (i + 6) := ev31.trans (nI_add _ _)
  refine mp_sld hx hb hX hK hI (vp_in_nI (show (i + 6) < L by omega) (by omega)) d_L_law_281 ?_
  refine lv_topi (fun v32 ev32 => ?_)
  obtain rfl : v32 = xs (i + 6) := ev32.trans (by rw [nI_clamp (by omega)])
  refine lv_topi (fun v33 ev33 => ?_)
  obtain rfl : v33 = nI v := ev33.trans (hxv)
  refine mp_calli hI (va_runV (As := [.int (nI k), .long (((xs (i + 2)).toInt64 <<< ((nI 32).toInt64 &&& 63)) ||| ((xs (i + 3)).toInt64 &&& lN 4294967295)), .long (((xs (i + 4)).toInt64 <<< ((nI 32).toInt64 &&& 63)) ||| ((xs (i + 5)).toInt64 &&& lN 4294967295)), .int (nI v)]) (rest := []) ⟨hx, hb, hml, hown, hg⟩ (c_M_termA l D g S _ mo n k v (m1) (m2) (m4) (m5) (m6) (m7) (m8) (m9) (m10) (m11) (m12) (m13) (m14) (m15) (m16) (m17) (m18) (m19) (m20) (m21) (m22) (m23) (m24) (m25) (m26) (m27) (m28) (m29) (m30) th (((xs (i + 2)).toInt64 <<< ((nI 32).toInt64 &&& 63)) ||| ((xs (i + 3)).toInt64 &&& lN 4294967295)) (((xs (i + 4)).toInt64 <<< ((nI 32).toInt64 &&& 63)) ||| ((xs (i + 5)).toInt64 &&& lN 4294967295)) h_mo hk hv hn hn0 hp) ⟨(callB_of 4 hg (wd_goodG q_910) rfl rfl rfl (hg _ q_5) (hg _ q_907) (by decide +kernel) ⟨Nat.le_of_ble_eq_true rfl, Nat.le_of_ble_eq_true rfl⟩), hg _ q_908, hg _ q_909⟩ (mp_preV (C := R_M) (T := F_M) hI hK h_mo rfl [.int (nI k), .long (((xs (i + 2)).toInt64 <<< ((nI 32).toInt64 &&& 63)) ||| ((xs (i + 3)).toInt64 &&& lN 4294967295)), .long (((xs (i + 4)).toInt64 <<< ((nI 32).toInt64 &&& 63)) ||| ((xs (i + 5)).toInt64 &&& lN 4294967295)), .int (nI v)]) rfl rfl hl.1 rfl (lv_room (Nat.le_of_ble_eq_true rfl)) d_L_law_282 ⟨by omega, by omega⟩) (fun r37 S34 H35 locs p_36 hI => ?_)
  obtain ⟨hq_mo, fq⟩ := p_36
  have h_o : S34 o = some (0, .inr (0, [.int (nI n), .ref pa, v2, v3, v4, v5, v6, v7, v8, v9])) := (fq o (mp_in h_o) (mp_ne h_o h_mo (by decide))).trans h_o
  have h_pa : S34 pa = some (1, .inl ((g 2), 40, .inr (.inr (.inr (.inr (rfs eo 40)))))) := (fq pa (mp_in h_pa) (mp_ne h_pa h_mo (by decide))).trans h_pa
  have h_oa : S34 oa = some (9, .inl ((g 4), 1, .inr (.inl of))) := (fq oa (mp_in h_oa) (mp_ne h_oa h_mo (by decide))).trans h_oa
  refine lv_istore (lv' := [(6, .int r37), (5, .int (nI 2)), (4, .int (nI i)), (3, .ref oa), (2, .ref mo), (1, .ref o), (0, .ref b)]) hx hb d_L_law_285 hl (by decide) rfl (fun ls hl => ?_)
  refine lv_aload_n hx hb d_L_law_287 rfl (lv_at hl 4 rfl) ?_
  refine mp_calli hI (va_runV (As := []) (rest := []) ⟨hx, hb, hml, hown, hg⟩ (c_M_thrown l D g S34 _ mo (.int (nI n)) (m1) (m2) (m4) (m5) (m6) (m7) (m8) (m9) (m10) (m11) (m12) (m13) (m14) (m15) (m16) (m17) (m18) (m19) (m20) (m21) (m22) (m23) (m24) (m25) (m26) (m27) (m28) (m29) (m30) (nI 2) hq_mo) ⟨(callB_of 0 hg (wd_goodG q_902) rfl rfl rfl (hg _ q_5) (hg _ q_899) (by decide +kernel) ⟨Nat.le_of_ble_eq_true rfl, Nat.le_of_ble_eq_true rfl⟩), hg _ q_900, hg _ q_901⟩ (mp_preV (C := R_M) (T := F_M) hI hK hq_mo rfl []) rfl rfl hl.1 rfl (lv_room (Nat.le_of_ble_eq_true rfl)) d_L_law_288 ⟨by omega, by omega⟩) (fun r41 S38 H39 locs p_40 hI => ?_)
  obtain ⟨er41, eS42⟩ := p_40
  rw [eS42] at hI
  have er41 : r41 = nI 2 := er41
  subst er41
  refine lv_iload hx hb d_L_law_291 (lv_at hl 1 rfl) ?_
  refine lv_icmp_eq (tgt := 298) hx hb d_L_law_293 (by decide) (fun _ => ?_) (fun h9 => absurd (rfl) h9)
  refine lv_iload hx hb d_L_law_298 (lv_at hl 1 rfl) ?_
  refine lv_if_ne (tgt := 322) hx hb d_L_law_300 (by decide) (fun _ => ?_) (fun h9 => absurd h9 (by decide))
  refine lv_goto (tgt := 822) hx hb d_L_law_322 (by decide) ?_
  exact kx S34 _ _ ls hI (lv_sub hl [2, 3, 4, 5, 6] rfl)
set_option maxHeartbeats 4000000 in
set_option maxRecDepth 100000 in
/-- term: below is 0 -/
theorem lc_termM {p : Program} {l : Launch} {e : Env} {s : State} {m : MethodId} {below : List Frame} {meth : Method} {c : Code} {Q : State → Prop} {D : mp_G} {g : Nat → ClassId} {A : Nat → Prop} {b L i : Nat} {xs : Nat → Int32} {cells slots : Nat} {S : mp_M} {H : Heap} {locs : List Loc} {ls : Array Slot} (hx : p.tables.exec = Jvm.exec) (hb : c.code = b_L_law) (hml : c.maxLocals = 7) (hts : ∀ w ∈ lw_tbl, w.before #[Value.ref b] s = true) (hg : ∀ w ∈ gw, w.before #[Value.ref b] s = true) (hown : s.vm.findClass R_L = some m.cls) (hK : mp_K D classes (tys g) s) (hX : va_X b L xs D.2.1 D.2.1.heap) (hL : L ≤ 3585) (hi : i + 6 < L) (hc : cells + 1 ≤ room_1.cells) (hs : slots + 6 ≤ room_1.slots) (hl9 : l.stackTraces = false) {pa n k v : Nat} {eo : Nat → Nat} {v2 v3 v4 v5 v6 v7 v8 v9 m1 m2 m4 m5 m6 m7 m8 m9 m10 m11 m12 m13 m14 m15 m16 m17 m18 m19 m20 m21 m22 m23 m24 m25 m26 m27 m28 m29 m30 : Value} {th : Int32} {of : Nat → Int64} {oa mo o : Nat} (h_o : S o = some (0, .inr (0, [.int (nI n), .ref pa, v2, v3, v4, v5, v6, v7, v8, v9]))) (h_pa : S pa = some (1, .inl ((g 2), 40, .inr (.inr (.inr (.inr (rfs eo 40))))))) (h_oa : S oa = some (9, .inl ((g 4), 1, .inr (.inl of)))) (h_mo : S mo = some (2000, .inr (10, [.int (nI n), m1, m2, .int th, m4, m5, m6, m7, m8, m9, m10, m11, m12, m13, m14, m15, m16, m17, m18, m19, m20, m21, m22, m23, m24, m25, m26, m27, m28, m29, m30]))) (hxk : xs (i + 1) = nI k) (hk : k < 40) (hxv : xs (i + 6) = nI v) (hv : v < 2 ^ 31) (hn : n < 4) (hn0 : 0 < n) (hp : pwOk n v) (hz : rsN (((xs (i + 4)).toInt64 <<< ((nI 32).toInt64 &&& 63)) ||| ((xs (i + 5)).toInt64 &&& lN 4294967295)) = 0) (hI : mp_I D classes A s.heap S H locs) (hl : lv_has ls 7 [(4, .int (nI i)), (3, .ref oa), (2, .ref mo), (1, .ref o), (0, .ref b)]) (kx : ∀ (S : mp_M) (H : Heap) (locs : List Loc) (ls : Array Slot), mp_I D classes A s.heap S H locs → lv_has ls 7 [(4, .int (nI i)), (3, .ref oa), (2, .ref mo), (1, .ref o), (0, .ref b)] → W p l e room_1 s m #[Value.ref b] below meth c H locs (cells + 1) (slots + 6) Q (F0 m 822 ls [])) : W p l e room_1 s m #[Value.ref b] below meth c H locs (cells) (slots) Q (F0 m 160 ls []) := by
  refine lv_aload_n hx hb d_L_law_160 rfl (lv_at hl 3 rfl) ?_
  refine lv_aload_n hx hb d_L_law_161 rfl (lv_at hl 4 rfl) ?_
  refine lv_iload hx hb d_L_law_162 (lv_at hl 0 rfl) ?_
  refine lv_iconst (v := nI 1) hx hb d_L_law_164 (by decide) ?_
  refine lv_iadd hx hb d_L_law_165 ?_
  refine lv_topi (fun v1 ev1 => ?_)
  obtain rfl : v1 = nI (i + 1) := ev1.trans (nI_add _ _)
  refine mp_sld hx hb hX hK hI (vp_in_nI (show (i + 1) < L by omega) (by omega)) d_L_law_166 ?_
  refine lv_topi (fun v2 ev2 => ?_)
  obtain rfl : v2 = xs (i + 1) := ev2.trans (by rw [nI_clamp (by omega)])
  refine lv_topi (fun v3 ev3 => ?_)
  obtain rfl : v3 = nI k := ev3.trans (hxk)
  refine lv_aload_n hx hb d_L_law_167 rfl (lv_at hl 4 rfl) ?_
  refine lv_iload hx hb d_L_law_168 (lv_at hl 0 rfl) ?_
  refine lv_iconst (v := nI 2) hx hb d_L_law_170 (by decide) ?_
  refine lv_iadd hx hb d_L_law_171 ?_
  refine lv_topi (fun v4 ev4 => ?_)
  obtain rfl : v4 = nI (i + 2) := ev4.trans (nI_add _ _)
  refine mp_sld hx hb hX hK hI (vp_in_nI (show (i + 2) < L by omega) (by omega)) d_L_law_172 ?_
  refine lv_topi (fun v5 ev5 => ?_)
  obtain rfl : v5 = xs (i + 2) := ev5.trans (by rw [nI_clamp (by omega)])
  refine lv_i2l (v := (xs (i + 2)).toInt64) hx hb d_L_law_173 rfl ?_
  refine lv_bipush (v := nI 32) hx hb d_L_law_174 (by decide) ?_
  refine lv_lshl (v := ((xs (i + 2)).toInt64 <<< ((nI 32).toInt64 &&& 63))) hx hb d_L_law_176 rfl ?_
  refine lv_aload_n hx hb d_L_law_177 rfl (lv_at hl 4 rfl) ?_
  refine lv_iload hx hb d_L_law_178 (lv_at hl 0 rfl) ?_
  refine lv_iconst (v := nI 3) hx hb d_L_law_180 (by decide) ?_
  refine lv_iadd hx hb d_L_law_181 ?_
  refine lv_topi (fun v6 ev6 => ?_)
  obtain rfl : v6 = nI (i + 3) := ev6.trans (nI_add _ _)
  refine mp_sld hx hb hX hK hI (vp_in_nI (show (i + 3) < L by omega) (by omega)) d_L_law_182 ?_
  refine lv_topi (fun v7 ev7 => ?_)
  obtain rfl : v7 = xs (i + 3) := ev7.trans (by rw [nI_clamp (by omega)])
  refine lv_i2l (v := (xs (i + 3)).toInt64) hx hb d_L_law_183 rfl ?_
  refine lv_ldc2 (v := lN 4294967295) hx hb hown (hg _ q_1107) d_L_law_184 ?_
  refine lv_land hx hb d_L_law_187 ?_
  refine lv_lor hx hb d_L_law_188 ?_
  refine lv_aload_n hx hb d_L_law_189 rfl (lv_at hl 4 rfl) ?_
  refine lv_iload hx hb d_L_law_190 (lv_at hl 0 rfl) ?_
  refine lv_iconst (v := nI 4) hx hb d_L_law_192 (by decide) ?_
  refine lv_iadd hx hb d_L_law_193 ?_
  refine lv_topi (fun v8 ev8 => ?_)
  obtain rfl : v8 = nI (i + 4) := ev8.trans (nI_add _ _)
  refine mp_sld hx hb hX hK hI (vp_in_nI (show (i + 4) < L by omega) (by omega)) d_L_law_194 ?_
  refine lv_topi (fun v9 ev9 => ?_)
  obtain rfl : v9 = xs (i + 4) := ev9.trans (by rw [nI_clamp (by omega)])
  refine lv_i2l (v := (xs (i + 4)).toInt64) hx hb d_L_law_195 rfl ?_
  refine lv_bipush (v := nI 32) hx hb d_L_law_196 (by decide) ?_
  refine lv_lshl (v := ((xs (i + 4)).toInt64 <<< ((nI 32).toInt64 &&& 63))) hx hb d_L_law_198 rfl ?_
  refine lv_aload_n hx hb d_L_law_199 rfl (lv_at hl 4 rfl) ?_
  refine lv_iload hx hb d_L_law_200 (lv_at hl 0 rfl) ?_
  refine lv_iconst (v := nI 5) hx hb d_L_law_202 (by decide) ?_
  refine lv_iadd hx hb d_L_law_203 ?_
  refine lv_topi (fun v10 ev10 => ?_)
  obtain rfl : v10 = nI (i + 5) := ev10.trans (nI_add _ _)
  refine mp_sld hx hb hX hK hI (vp_in_nI (show (i + 5) < L by omega) (by omega)) d_L_law_204 ?_
  refine lv_topi (fun v11 ev11 => ?_)
  obtain rfl : v11 = xs (i + 5) := ev11.trans (by rw [nI_clamp (by omega)])
  refine lv_i2l (v := (xs (i + 5)).toInt64) hx hb d_L_law_205 rfl ?_
  refine lv_ldc2 (v := lN 4294967295) hx hb hown (hg _ q_1107) d_L_law_206 ?_
  refine lv_land hx hb d_L_law_209 ?_
  refine lv_lor hx hb d_L_law_210 ?_
  refine lv_aload_n hx hb d_L_law_211 rfl (lv_at hl 4 rfl) ?_
  refine lv_iload hx hb d_L_law_212 (lv_at hl 0 rfl) ?_
  refine lv_bipush (v := nI 6) hx hb d_L_law_214 (by decide) ?_
  refine lv_iadd hx hb d_L_law_216 ?_
  refine lv_topi (fun v12 ev12 => ?_)
  obtain rfl : v12 = nI (i + 6) := ev12.trans (nI_add _ _)
  refine mp_sld hx hb hX hK hI (vp_in_nI (show (i + 6) < L by omega) (by omega)) d_L_law_217 ?_
  refine lv_topi (fun v13 ev13 => ?_)
  obtain rfl : v13 = xs (i + 6) := ev13.trans (by rw [nI_clamp (by omega)])
  refine lv_topi (fun v14 ev14 => ?_)
  obtain rfl : v14 = nI v := ev14.trans (hxv)
  refine lv_aload_n hx hb d_L_law_218 rfl (lv_at hl 1 rfl) ?_
  refine mp_calli hI (lw_runS (As := [.ref o, .int (nI k), .long (((xs (i + 2)).toInt64 <<< ((nI 32).toInt64 &&& 63)) ||| ((xs (i + 3)).toInt64 &&& lN 4294967295)), .long (((xs (i + 4)).toInt64 <<< ((nI 32).toInt64 &&& 63)) ||| ((xs (i + 5)).toInt64 &&& lN 4294967295)), .int (nI v), .ref oa]) (rest := []) ⟨hx, hb, hml, hown, hg⟩ (c_L_termM l D g S _ o pa n eo v2 v3 v4 v5 v6 v7 v8 v9 k v (((xs (i + 2)).toInt64 <<< ((nI 32).toInt64 &&& 63)) ||| ((xs (i + 3)).toInt64 &&& lN 4294967295)) (((xs (i + 4)).toInt64 <<< ((nI 32).toInt64 &&& 63)) ||| ((xs (i + 5)).toInt64 &&& lN 4294967295)) oa of h_o h_pa h_oa hl9 hk hv hn hn0 hp hz) ⟨callBW_of 6 hg (hts _ q_621) rfl rfl (hg _ q_0) (hg _ q_619) (by decide +kernel) ⟨Nat.le_of_ble_eq_true rfl, Nat.le_of_ble_eq_true rfl⟩, hg _ q_620⟩ (mp_pre hI hK [.ref o, .int (nI k), .long (((xs (i + 2)).toInt64 <<< ((nI 32).toInt64 &&& 63)) ||| ((xs (i + 3)).toInt64 &&& lN 4294967295)), .long (((xs (i + 4)).toInt64 <<< ((nI 32).toInt64 &&& 63)) ||| ((xs (i + 5)).toInt64 &&& lN 4294967295)), .int (nI v), .ref oa]) rfl rfl hl.1 rfl (lv_room (Nat.le_of_ble_eq_true rfl)) d_L_law_219 ⟨by omega, by omega⟩) (fun r18 S15 H16 locs p_17 hI => ?_)
  obtain ⟨er18, eS19⟩ := p_17
  rw [eS19] at hI
  have er18 : r18 = nI 3 := er18
  subst er18
  refine lv_istore (lv' := [(5, .int (nI 3)), (4, .int (nI i)), (3, .ref oa), (2, .ref mo), (1, .ref o), (0, .ref b)]) hx hb d_L_law_222 hl (by decide) rfl (fun ls hl => ?_)
  refine lv_aload_n hx hb d_L_law_224 rfl (lv_at hl 3 rfl) ?_
  refine lv_aload_n hx hb d_L_law_225 rfl (lv_at hl 5 rfl) ?_
  refine lv_iload hx hb d_L_law_226 (lv_at hl 1 rfl) ?_
  refine lv_iconst (v := nI 1) hx hb d_L_law_228 (by decide) ?_
  refine lv_iadd hx hb d_L_law_229 ?_
  refine lv_topi (fun v20 ev20 => ?_)
  obtain rfl : v20 = nI (i + 1) := ev20.trans (nI_add _ _)
  refine mp_sld hx hb hX hK hI (vp_in_nI (show (i + 1) < L by omega) (by omega)) d_L_law_230 ?_
  refine lv_topi (fun v21 ev21 => ?_)
  obtain rfl : v21 = xs (i + 1) := ev21.trans (by rw [nI_clamp (by omega)])
  refine lv_topi (fun v22 ev22 => ?_)
  obtain rfl : v22 = nI k := ev22.trans (hxk)
  refine lv_aload_n hx hb d_L_law_231 rfl (lv_at hl 5 rfl) ?_
  refine lv_iload hx hb d_L_law_232 (lv_at hl 1 rfl) ?_
  refine lv_iconst (v := nI 2) hx hb d_L_law_234 (by decide) ?_
  refine lv_iadd hx hb d_L_law_235 ?_
  refine lv_topi (fun v23 ev23 => ?_)
  obtain rfl : v23 = nI (i + 2) := ev23.trans (nI_add _ _)
  refine mp_sld hx hb hX hK hI (vp_in_nI (show (i + 2) < L by omega) (by omega)) d_L_law_236 ?_
  refine lv_topi (fun v24 ev24 => ?_)
  obtain rfl : v24 = xs (i + 2) := ev24.trans (by rw [nI_clamp (by omega)])
  refine lv_i2l (v := (xs (i + 2)).toInt64) hx hb d_L_law_237 rfl ?_
  refine lv_bipush (v := nI 32) hx hb d_L_law_238 (by decide) ?_
  refine lv_lshl (v := ((xs (i + 2)).toInt64 <<< ((nI 32).toInt64 &&& 63))) hx hb d_L_law_240 rfl ?_
  refine lv_aload_n hx hb d_L_law_241 rfl (lv_at hl 5 rfl) ?_
  refine lv_iload hx hb d_L_law_242 (lv_at hl 1 rfl) ?_
  refine lv_iconst (v := nI 3) hx hb d_L_law_244 (by decide) ?_
  refine lv_iadd hx hb d_L_law_245 ?_
  refine lv_topi (fun v25 ev25 => ?_)
  obtain rfl : v25 = nI (i + 3) := ev25.trans (nI_add _ _)
  refine mp_sld hx hb hX hK hI (vp_in_nI (show (i + 3) < L by omega) (by omega)) d_L_law_246 ?_
  refine lv_topi (fun v26 ev26 => ?_)
  obtain rfl : v26 = xs (i + 3) := ev26.trans (by rw [nI_clamp (by omega)])
  refine lv_i2l (v := (xs (i + 3)).toInt64) hx hb d_L_law_247 rfl ?_
  refine lv_ldc2 (v := lN 4294967295) hx hb hown (hg _ q_1107) d_L_law_248 ?_
  refine lv_land hx hb d_L_law_251 ?_
  refine lv_lor hx hb d_L_law_252 ?_
  refine lv_aload_n hx hb d_L_law_253 rfl (lv_at hl 5 rfl) ?_
  refine lv_iload hx hb d_L_law_254 (lv_at hl 1 rfl) ?_
  refine lv_iconst (v := nI 4) hx hb d_L_law_256 (by decide) ?_
  refine lv_iadd hx hb d_L_law_257 ?_
  refine lv_topi (fun v27 ev27 => ?_)
  obtain rfl : v27 = nI (i + 4) := ev27.trans (nI_add _ _)
  refine mp_sld hx hb hX hK hI (vp_in_nI (show (i + 4) < L by omega) (by omega)) d_L_law_258 ?_
  refine lv_topi (fun v28 ev28 => ?_)
  obtain rfl : v28 = xs (i + 4) := ev28.trans (by rw [nI_clamp (by omega)])
  refine lv_i2l (v := (xs (i + 4)).toInt64) hx hb d_L_law_259 rfl ?_
  refine lv_bipush (v := nI 32) hx hb d_L_law_260 (by decide) ?_
  refine lv_lshl (v := ((xs (i + 4)).toInt64 <<< ((nI 32).toInt64 &&& 63))) hx hb d_L_law_262 rfl ?_
  refine lv_aload_n hx hb d_L_law_263 rfl (lv_at hl 5 rfl) ?_
  refine lv_iload hx hb d_L_law_264 (lv_at hl 1 rfl) ?_
  refine lv_iconst (v := nI 5) hx hb d_L_law_266 (by decide) ?_
  refine lv_iadd hx hb d_L_law_267 ?_
  refine lv_topi (fun v29 ev29 => ?_)
  obtain rfl : v29 = nI (i + 5) := ev29.trans (nI_add _ _)
  refine mp_sld hx hb hX hK hI (vp_in_nI (show (i + 5) < L by omega) (by omega)) d_L_law_268 ?_
  refine lv_topi (fun v30 ev30 => ?_)
  obtain rfl : v30 = xs (i + 5) := ev30.trans (by rw [nI_clamp (by omega)])
  refine lv_i2l (v := (xs (i + 5)).toInt64) hx hb d_L_law_269 rfl ?_
  refine lv_ldc2 (v := lN 4294967295) hx hb hown (hg _ q_1107) d_L_law_270 ?_
  refine lv_land hx hb d_L_law_273 ?_
  refine lv_lor hx hb d_L_law_274 ?_
  refine lv_aload_n hx hb d_L_law_275 rfl (lv_at hl 5 rfl) ?_
  refine lv_iload hx hb d_L_law_276 (lv_at hl 1 rfl) ?_
  refine lv_bipush (v := nI 6) hx hb d_L_law_278 (by decide) ?_
  refine lv_iadd hx hb d_L_law_280 ?_
  refine lv_topi (fun v31 ev31 => ?_)
  obtain rfl : v31 = nI (i + 6) := ev31.trans (nI_add _ _)
  refine mp_sld hx hb hX hK hI (vp_in_nI (show (i + 6) < L by omega) (by omega)) d_L_law_281 ?_
  refine lv_topi (fun v32 ev32 => ?_)
  obtain rfl : v32 = xs (i + 6) := ev32.trans (by rw [nI_clamp (by omega)])
  refine lv_topi (fun v33 ev33 => ?_)
  obtain rfl : v33 = nI v := ev33.trans (hxv)
  refine mp_calli hI (va_runV (As := [.int (nI k), .long (((xs (i + 2)).toInt64 <<< ((nI 32).toInt64 &&& 63)) ||| ((xs (i + 3)).toInt64 &&& lN 4294967295)), .long (((xs (i + 4)).toInt64 <<< ((nI 32).toInt64 &&& 63)) ||| ((xs (i + 5)).toInt64 &&& lN 4294967295)), .int (nI v)]) (rest := []) ⟨hx, hb, hml, hown, hg⟩ (c_M_termM l D g S _ mo n k v (m1) (m2) (m4) (m5) (m6) (m7) (m8) (m9) (m10) (m11) (m12) (m13) (m14) (m15) (m16) (m17) (m18) (m19) (m20) (m21) (m22) (m23) (m24) (m25) (m26) (m27) (m28) (m29) (m30) th (((xs (i + 2)).toInt64 <<< ((nI 32).toInt64 &&& 63)) ||| ((xs (i + 3)).toInt64 &&& lN 4294967295)) (((xs (i + 4)).toInt64 <<< ((nI 32).toInt64 &&& 63)) ||| ((xs (i + 5)).toInt64 &&& lN 4294967295)) h_mo hk hv hn hn0 hp hz) ⟨(callB_of 4 hg (wd_goodG q_910) rfl rfl rfl (hg _ q_5) (hg _ q_907) (by decide +kernel) ⟨Nat.le_of_ble_eq_true rfl, Nat.le_of_ble_eq_true rfl⟩), hg _ q_908, hg _ q_909⟩ (mp_preV (C := R_M) (T := F_M) hI hK h_mo rfl [.int (nI k), .long (((xs (i + 2)).toInt64 <<< ((nI 32).toInt64 &&& 63)) ||| ((xs (i + 3)).toInt64 &&& lN 4294967295)), .long (((xs (i + 4)).toInt64 <<< ((nI 32).toInt64 &&& 63)) ||| ((xs (i + 5)).toInt64 &&& lN 4294967295)), .int (nI v)]) rfl rfl hl.1 rfl (lv_room (Nat.le_of_ble_eq_true rfl)) d_L_law_282 ⟨by omega, by omega⟩) (fun r37 S34 H35 locs p_36 hI => ?_)
  obtain ⟨hq_mo, fq⟩ := p_36
  have h_o : S34 o = some (0, .inr (0, [.int (nI n), .ref pa, v2, v3, v4, v5, v6, v7, v8, v9])) := (fq o (mp_in h_o) (mp_ne h_o h_mo (by decide))).trans h_o
  have h_pa : S34 pa = some (1, .inl ((g 2), 40, .inr (.inr (.inr (.inr (rfs eo 40)))))) := (fq pa (mp_in h_pa) (mp_ne h_pa h_mo (by decide))).trans h_pa
  have h_oa : S34 oa = some (9, .inl ((g 4), 1, .inr (.inl of))) := (fq oa (mp_in h_oa) (mp_ne h_oa h_mo (by decide))).trans h_oa
  refine lv_istore (lv' := [(6, .int r37), (5, .int (nI 3)), (4, .int (nI i)), (3, .ref oa), (2, .ref mo), (1, .ref o), (0, .ref b)]) hx hb d_L_law_285 hl (by decide) rfl (fun ls hl => ?_)
  refine lv_aload_n hx hb d_L_law_287 rfl (lv_at hl 4 rfl) ?_
  refine mp_calli hI (va_runV (As := []) (rest := []) ⟨hx, hb, hml, hown, hg⟩ (c_M_thrown l D g S34 _ mo (.int (nI n)) (m1) (m2) (m4) (m5) (m6) (m7) (m8) (m9) (m10) (m11) (m12) (m13) (m14) (m15) (m16) (m17) (m18) (m19) (m20) (m21) (m22) (m23) (m24) (m25) (m26) (m27) (m28) (m29) (m30) (nI 3) hq_mo) ⟨(callB_of 0 hg (wd_goodG q_902) rfl rfl rfl (hg _ q_5) (hg _ q_899) (by decide +kernel) ⟨Nat.le_of_ble_eq_true rfl, Nat.le_of_ble_eq_true rfl⟩), hg _ q_900, hg _ q_901⟩ (mp_preV (C := R_M) (T := F_M) hI hK hq_mo rfl []) rfl rfl hl.1 rfl (lv_room (Nat.le_of_ble_eq_true rfl)) d_L_law_288 ⟨by omega, by omega⟩) (fun r41 S38 H39 locs p_40 hI => ?_)
  obtain ⟨er41, eS42⟩ := p_40
  rw [eS42] at hI
  have er41 : r41 = nI 3 := er41
  subst er41
  refine lv_iload hx hb d_L_law_291 (lv_at hl 1 rfl) ?_
  refine lv_icmp_eq (tgt := 298) hx hb d_L_law_293 (by decide) (fun _ => ?_) (fun h9 => absurd (rfl) h9)
  refine lv_iload hx hb d_L_law_298 (lv_at hl 1 rfl) ?_
  refine lv_if_ne (tgt := 322) hx hb d_L_law_300 (by decide) (fun _ => ?_) (fun h9 => absurd h9 (by decide))
  refine lv_goto (tgt := 822) hx hb d_L_law_322 (by decide) ?_
  exact kx S34 _ _ ls hI (lv_sub hl [2, 3, 4, 5, 6] rfl)
set_option maxHeartbeats 4000000 in
set_option maxRecDepth 100000 in
/-- term on a polynomial that is 0 -/
theorem lc_term0 {p : Program} {l : Launch} {e : Env} {s : State} {m : MethodId} {below : List Frame} {meth : Method} {c : Code} {Q : State → Prop} {D : mp_G} {g : Nat → ClassId} {A : Nat → Prop} {b L i : Nat} {xs : Nat → Int32} {cells slots : Nat} {S : mp_M} {H : Heap} {locs : List Loc} {ls : Array Slot} (hx : p.tables.exec = Jvm.exec) (hb : c.code = b_L_law) (hml : c.maxLocals = 7) (hts : ∀ w ∈ lw_tbl, w.before #[Value.ref b] s = true) (hg : ∀ w ∈ gw, w.before #[Value.ref b] s = true) (hown : s.vm.findClass R_L = some m.cls) (hK : mp_K D classes (tys g) s) (hX : va_X b L xs D.2.1 D.2.1.heap) (hL : L ≤ 3585) (hi : i + 6 < L) (hc : cells + 0 ≤ room_1.cells) (hs : slots + 0 ≤ room_1.slots) (hl9 : l.stackTraces = false) {pa mp n k v : Nat} {eo ek en cap pz : Nat → Nat} {kf nf : Nat → Nat → Int32} {pf : Nat → Int32} {v2 v3 v4 v5 v6 v7 v8 v9 m1 m2 m5 m6 m7 m8 m9 m10 m11 m12 m13 m14 m15 m16 m17 m18 m19 m20 m21 m22 m23 m24 m25 m26 m27 m28 m29 m30 : Value} {th : Int32} {of : Nat → Int64} {oa mo o : Nat} (h_o : S o = some (0, .inr (0, [.int (nI n), .ref pa, v2, v3, v4, v5, v6, v7, v8, v9]))) (h_pa : S pa = some (1, .inl ((g 2), 40, .inr (.inr (.inr (.inr (rfs eo 40))))))) (h_oa : S oa = some (9, .inl ((g 4), 1, .inr (.inl of)))) (h_mo : S mo = some (2000, .inr (10, [.int (nI n), m1, m2, .int th, .ref mp, m5, m6, m7, m8, m9, m10, m11, m12, m13, m14, m15, m16, m17, m18, m19, m20, m21, m22, m23, m24, m25, m26, m27, m28, m29, m30]))) (h_mp : S mp = some (2001, .inl ((g 0), 40000, .inl pf))) (hE : yS g 100 40 eo ek en cap pz kf nf S) (hz : pz k = 0) (hcp : cap k = 4) (hxk : xs (i + 1) = nI k) (hk : k < 40) (hxv : xs (i + 6) = nI v) (hv : v < 2 ^ 31) (hn : n < 4) (hn0 : 0 < n) (hp : pwOk n v) (hq : rsN (((xs (i + 4)).toInt64 <<< ((nI 32).toInt64 &&& 63)) ||| ((xs (i + 5)).toInt64 &&& lN 4294967295)) ≠ 0) (hpz : pf (1000 * k + (v % 16 + 10 * (v / 16 % 16) + 100 * (v / 256))) = 0) (hI : mp_I D classes A s.heap S H locs) (hl : lv_has ls 7 [(4, .int (nI i)), (3, .ref oa), (2, .ref mo), (1, .ref o), (0, .ref b)]) (kx : ∀ (S : mp_M) (H : Heap) (locs : List Loc) (ls : Array Slot), mp_I D classes A s.heap S H locs → lv_has ls 7 [(4, .int (nI i)), (3, .ref oa), (2, .ref mo), (1, .ref o), (0, .ref b)] → W p l e room_1 s m #[Value.ref b] below meth c H locs (cells) (slots) Q (F0 m 822 ls [])) : W p l e room_1 s m #[Value.ref b] below meth c H locs (cells) (slots) Q (F0 m 160 ls []) := by
  refine lv_aload_n hx hb d_L_law_160 rfl (lv_at hl 3 rfl) ?_
  refine lv_aload_n hx hb d_L_law_161 rfl (lv_at hl 4 rfl) ?_
  refine lv_iload hx hb d_L_law_162 (lv_at hl 0 rfl) ?_
  refine lv_iconst (v := nI 1) hx hb d_L_law_164 (by decide) ?_
  refine lv_iadd hx hb d_L_law_165 ?_
  refine lv_topi (fun v1 ev1 => ?_)
  obtain rfl : v1 = nI (i + 1) := ev1.trans (nI_add _ _)
  refine mp_sld hx hb hX hK hI (vp_in_nI (show (i + 1) < L by omega) (by omega)) d_L_law_166 ?_
  refine lv_topi (fun v2 ev2 => ?_)
  obtain rfl : v2 = xs (i + 1) := ev2.trans (by rw [nI_clamp (by omega)])
  refine lv_topi (fun v3 ev3 => ?_)
  obtain rfl : v3 = nI k := ev3.trans (hxk)
  refine lv_aload_n hx hb d_L_law_167 rfl (lv_at hl 4 rfl) ?_
  refine lv_iload hx hb d_L_law_168 (lv_at hl 0 rfl) ?_
  refine lv_iconst (v := nI 2) hx hb d_L_law_170 (by decide) ?_
  refine lv_iadd hx hb d_L_law_171 ?_
  refine lv_topi (fun v4 ev4 => ?_)
  obtain rfl : v4 = nI (i + 2) := ev4.trans (nI_add _ _)
  refine mp_sld hx hb hX hK hI (vp_in_nI (show (i + 2) < L by omega) (by omega)) d_L_law_172 ?_
  refine lv_topi (fun v5 ev5 => ?_)
  obtain rfl : v5 = xs (i + 2) := ev5.trans (by rw [nI_clamp (by omega)])
  refine lv_i2l (v := (xs (i + 2)).toInt64) hx hb d_L_law_173 rfl ?_
  refine lv_bipush (v := nI 32) hx hb d_L_law_174 (by decide) ?_
  refine lv_lshl (v := ((xs (i + 2)).toInt64 <<< ((nI 32).toInt64 &&& 63))) hx hb d_L_law_176 rfl ?_
  refine lv_aload_n hx hb d_L_law_177 rfl (lv_at hl 4 rfl) ?_
  refine lv_iload hx hb d_L_law_178 (lv_at hl 0 rfl) ?_
  refine lv_iconst (v := nI 3) hx hb d_L_law_180 (by decide) ?_
  refine lv_iadd hx hb d_L_law_181 ?_
  refine lv_topi (fun v6 ev6 => ?_)
  obtain rfl : v6 = nI (i + 3) := ev6.trans (nI_add _ _)
  refine mp_sld hx hb hX hK hI (vp_in_nI (show (i + 3) < L by omega) (by omega)) d_L_law_182 ?_
  refine lv_topi (fun v7 ev7 => ?_)
  obtain rfl : v7 = xs (i + 3) := ev7.trans (by rw [nI_clamp (by omega)])
  refine lv_i2l (v := (xs (i + 3)).toInt64) hx hb d_L_law_183 rfl ?_
  refine lv_ldc2 (v := lN 4294967295) hx hb hown (hg _ q_1107) d_L_law_184 ?_
  refine lv_land hx hb d_L_law_187 ?_
  refine lv_lor hx hb d_L_law_188 ?_
  refine lv_aload_n hx hb d_L_law_189 rfl (lv_at hl 4 rfl) ?_
  refine lv_iload hx hb d_L_law_190 (lv_at hl 0 rfl) ?_
  refine lv_iconst (v := nI 4) hx hb d_L_law_192 (by decide) ?_
  refine lv_iadd hx hb d_L_law_193 ?_
  refine lv_topi (fun v8 ev8 => ?_)
  obtain rfl : v8 = nI (i + 4) := ev8.trans (nI_add _ _)
  refine mp_sld hx hb hX hK hI (vp_in_nI (show (i + 4) < L by omega) (by omega)) d_L_law_194 ?_
  refine lv_topi (fun v9 ev9 => ?_)
  obtain rfl : v9 = xs (i + 4) := ev9.trans (by rw [nI_clamp (by omega)])
  refine lv_i2l (v := (xs (i + 4)).toInt64) hx hb d_L_law_195 rfl ?_
  refine lv_bipush (v := nI 32) hx hb d_L_law_196 (by decide) ?_
  refine lv_lshl (v := ((xs (i + 4)).toInt64 <<< ((nI 32).toInt64 &&& 63))) hx hb d_L_law_198 rfl ?_
  refine lv_aload_n hx hb d_L_law_199 rfl (lv_at hl 4 rfl) ?_
  refine lv_iload hx hb d_L_law_200 (lv_at hl 0 rfl) ?_
  refine lv_iconst (v := nI 5) hx hb d_L_law_202 (by decide) ?_
  refine lv_iadd hx hb d_L_law_203 ?_
  refine lv_topi (fun v10 ev10 => ?_)
  obtain rfl : v10 = nI (i + 5) := ev10.trans (nI_add _ _)
  refine mp_sld hx hb hX hK hI (vp_in_nI (show (i + 5) < L by omega) (by omega)) d_L_law_204 ?_
  refine lv_topi (fun v11 ev11 => ?_)
  obtain rfl : v11 = xs (i + 5) := ev11.trans (by rw [nI_clamp (by omega)])
  refine lv_i2l (v := (xs (i + 5)).toInt64) hx hb d_L_law_205 rfl ?_
  refine lv_ldc2 (v := lN 4294967295) hx hb hown (hg _ q_1107) d_L_law_206 ?_
  refine lv_land hx hb d_L_law_209 ?_
  refine lv_lor hx hb d_L_law_210 ?_
  refine lv_aload_n hx hb d_L_law_211 rfl (lv_at hl 4 rfl) ?_
  refine lv_iload hx hb d_L_law_212 (lv_at hl 0 rfl) ?_
  refine lv_bipush (v := nI 6) hx hb d_L_law_214 (by decide) ?_
  refine lv_iadd hx hb d_L_law_216 ?_
  refine lv_topi (fun v12 ev12 => ?_)
  obtain rfl : v12 = nI (i + 6) := ev12.trans (nI_add _ _)
  refine mp_sld hx hb hX hK hI (vp_in_nI (show (i + 6) < L by omega) (by omega)) d_L_law_217 ?_
  refine lv_topi (fun v13 ev13 => ?_)
  obtain rfl : v13 = xs (i + 6) := ev13.trans (by rw [nI_clamp (by omega)])
  refine lv_topi (fun v14 ev14 => ?_)
  obtain rfl : v14 = nI v := ev14.trans (hxv)
  refine lv_aload_n hx hb d_L_law_218 rfl (lv_at hl 1 rfl) ?_
  refine mp_calli hI (lw_runS (As := [.ref o, .int (nI k), .long (((xs (i + 2)).toInt64 <<< ((nI 32).toInt64 &&& 63)) ||| ((xs (i + 3)).toInt64 &&& lN 4294967295)), .long (((xs (i + 4)).toInt64 <<< ((nI 32).toInt64 &&& 63)) ||| ((xs (i + 5)).toInt64 &&& lN 4294967295)), .int (nI v), .ref oa]) (rest := []) ⟨hx, hb, hml, hown, hg⟩ (c_L_term0 l D g S _ o pa n eo ek en cap pz kf nf v2 v3 v4 v5 v6 v7 v8 v9 k v (((xs (i + 2)).toInt64 <<< ((nI 32).toInt64 &&& 63)) ||| ((xs (i + 3)).toInt64 &&& lN 4294967295)) (((xs (i + 4)).toInt64 <<< ((nI 32).toInt64 &&& 63)) ||| ((xs (i + 5)).toInt64 &&& lN 4294967295)) oa of h_o h_pa h_oa hE hz hcp hk hv hn hn0 hp hq) ⟨callBW_of 6 hg (hts _ q_621) rfl rfl (hg _ q_0) (hg _ q_619) (by decide +kernel) ⟨Nat.le_of_ble_eq_true rfl, Nat.le_of_ble_eq_true rfl⟩, hg _ q_620⟩ (mp_pre hI hK [.ref o, .int (nI k), .long (((xs (i + 2)).toInt64 <<< ((nI 32).toInt64 &&& 63)) ||| ((xs (i + 3)).toInt64 &&& lN 4294967295)), .long (((xs (i + 4)).toInt64 <<< ((nI 32).toInt64 &&& 63)) ||| ((xs (i + 5)).toInt64 &&& lN 4294967295)), .int (nI v), .ref oa]) rfl rfl hl.1 rfl (lv_room (Nat.le_of_ble_eq_true rfl)) d_L_law_219 ⟨by omega, by omega⟩) (fun r18 S15 H16 locs p_17 hI => ?_)
  obtain ⟨y1, y2, y3⟩ := hE k hk
  obtain ⟨er18, fq, f1, hq_oa, hf1⟩ := p_17
  have er18 : r18 = nI 0 := er18
  subst er18
  have h_mo : S15 mo = some (2000, .inr (10, [.int (nI n), m1, m2, .int th, .ref mp, m5, m6, m7, m8, m9, m10, m11, m12, m13, m14, m15, m16, m17, m18, m19, m20, m21, m22, m23, m24, m25, m26, m27, m28, m29, m30])) := (fq mo (mp_in h_mo) (mp_ne h_mo y1 (by omega)) (mp_ne h_mo y2 (by omega)) (mp_ne h_mo y3 (by omega)) (mp_ne h_mo h_oa (by decide))).trans h_mo
  have h_mp : S15 mp = some (2001, .inl ((g 0), 40000, .inl pf)) := (fq mp (mp_in h_mp) (mp_ne h_mp y1 (by omega)) (mp_ne h_mp y2 (by omega)) (mp_ne h_mp y3 (by omega)) (mp_ne h_mp h_oa (by decide))).trans h_mp
  refine lv_istore (lv' := [(5, .int (nI 0)), (4, .int (nI i)), (3, .ref oa), (2, .ref mo), (1, .ref o), (0, .ref b)]) hx hb d_L_law_222 hl (by decide) rfl (fun ls hl => ?_)
  refine lv_aload_n hx hb d_L_law_224 rfl (lv_at hl 3 rfl) ?_
  refine lv_aload_n hx hb d_L_law_225 rfl (lv_at hl 5 rfl) ?_
  refine lv_iload hx hb d_L_law_226 (lv_at hl 1 rfl) ?_
  refine lv_iconst (v := nI 1) hx hb d_L_law_228 (by decide) ?_
  refine lv_iadd hx hb d_L_law_229 ?_
  refine lv_topi (fun v19 ev19 => ?_)
  obtain rfl : v19 = nI (i + 1) := ev19.trans (nI_add _ _)
  refine mp_sld hx hb hX hK hI (vp_in_nI (show (i + 1) < L by omega) (by omega)) d_L_law_230 ?_
  refine lv_topi (fun v20 ev20 => ?_)
  obtain rfl : v20 = xs (i + 1) := ev20.trans (by rw [nI_clamp (by omega)])
  refine lv_topi (fun v21 ev21 => ?_)
  obtain rfl : v21 = nI k := ev21.trans (hxk)
  refine lv_aload_n hx hb d_L_law_231 rfl (lv_at hl 5 rfl) ?_
  refine lv_iload hx hb d_L_law_232 (lv_at hl 1 rfl) ?_
  refine lv_iconst (v := nI 2) hx hb d_L_law_234 (by decide) ?_
  refine lv_iadd hx hb d_L_law_235 ?_
  refine lv_topi (fun v22 ev22 => ?_)
  obtain rfl : v22 = nI (i + 2) := ev22.trans (nI_add _ _)
  refine mp_sld hx hb hX hK hI (vp_in_nI (show (i + 2) < L by omega) (by omega)) d_L_law_236 ?_
  refine lv_topi (fun v23 ev23 => ?_)
  obtain rfl : v23 = xs (i + 2) := ev23.trans (by rw [nI_clamp (by omega)])
  refine lv_i2l (v := (xs (i + 2)).toInt64) hx hb d_L_law_237 rfl ?_
  refine lv_bipush (v := nI 32) hx hb d_L_law_238 (by decide) ?_
  refine lv_lshl (v := ((xs (i + 2)).toInt64 <<< ((nI 32).toInt64 &&& 63))) hx hb d_L_law_240 rfl ?_
  refine lv_aload_n hx hb d_L_law_241 rfl (lv_at hl 5 rfl) ?_
  refine lv_iload hx hb d_L_law_242 (lv_at hl 1 rfl) ?_
  refine lv_iconst (v := nI 3) hx hb d_L_law_244 (by decide) ?_
  refine lv_iadd hx hb d_L_law_245 ?_
  refine lv_topi (fun v24 ev24 => ?_)
  obtain rfl : v24 = nI (i + 3) := ev24.trans (nI_add _ _)
  refine mp_sld hx hb hX hK hI (vp_in_nI (show (i + 3) < L by omega) (by omega)) d_L_law_246 ?_
  refine lv_topi (fun v25 ev25 => ?_)
  obtain rfl : v25 = xs (i + 3) := ev25.trans (by rw [nI_clamp (by omega)])
  refine lv_i2l (v := (xs (i + 3)).toInt64) hx hb d_L_law_247 rfl ?_
  refine lv_ldc2 (v := lN 4294967295) hx hb hown (hg _ q_1107) d_L_law_248 ?_
  refine lv_land hx hb d_L_law_251 ?_
  refine lv_lor hx hb d_L_law_252 ?_
  refine lv_aload_n hx hb d_L_law_253 rfl (lv_at hl 5 rfl) ?_
  refine lv_iload hx hb d_L_law_254 (lv_at hl 1 rfl) ?_
  refine lv_iconst (v := nI 4) hx hb d_L_law_256 (by decide) ?_
  refine lv_iadd hx hb d_L_law_257 ?_
  refine lv_topi (fun v26 ev26 => ?_)
  obtain rfl : v26 = nI (i + 4) := ev26.trans (nI_add _ _)
  refine mp_sld hx hb hX hK hI (vp_in_nI (show (i + 4) < L by omega) (by omega)) d_L_law_258 ?_
  refine lv_topi (fun v27 ev27 => ?_)
  obtain rfl : v27 = xs (i + 4) := ev27.trans (by rw [nI_clamp (by omega)])
  refine lv_i2l (v := (xs (i + 4)).toInt64) hx hb d_L_law_259 rfl ?_
  refine lv_bipush (v := nI 32) hx hb d_L_law_260 (by decide) ?_
  refine lv_lshl (v := ((xs (i + 4)).toInt64 <<< ((nI 32).toInt64 &&& 63))) hx hb d_L_law_262 rfl ?_
  refine lv_aload_n hx hb d_L_law_263 rfl (lv_at hl 5 rfl) ?_
  refine lv_iload hx hb d_L_law_264 (lv_at hl 1 rfl) ?_
  refine lv_iconst (v := nI 5) hx hb d_L_law_266 (by decide) ?_
  refine lv_iadd hx hb d_L_law_267 ?_
  refine lv_topi (fun v28 ev28 => ?_)
  obtain rfl : v28 = nI (i + 5) := ev28.trans (nI_add _ _)
  refine mp_sld hx hb hX hK hI (vp_in_nI (show (i + 5) < L by omega) (by omega)) d_L_law_268 ?_
  refine lv_topi (fun v29 ev29 => ?_)
  obtain rfl : v29 = xs (i + 5) := ev29.trans (by rw [nI_clamp (by omega)])
  refine lv_i2l (v := (xs (i + 5)).toInt64) hx hb d_L_law_269 rfl ?_
  refine lv_ldc2 (v := lN 4294967295) hx hb hown (hg _ q_1107) d_L_law_270 ?_
  refine lv_land hx hb d_L_law_273 ?_
  refine lv_lor hx hb d_L_law_274 ?_
  refine lv_aload_n hx hb d_L_law_275 rfl (lv_at hl 5 rfl) ?_
  refine lv_iload hx hb d_L_law_276 (lv_at hl 1 rfl) ?_
  refine lv_bipush (v := nI 6) hx hb d_L_law_278 (by decide) ?_
  refine lv_iadd hx hb d_L_law_280 ?_
  refine lv_topi (fun v30 ev30 => ?_)
  obtain rfl : v30 = nI (i + 6) := ev30.trans (nI_add _ _)
  refine mp_sld hx hb hX hK hI (vp_in_nI (show (i + 6) < L by omega) (by omega)) d_L_law_281 ?_
  refine lv_topi (fun v31 ev31 => ?_)
  obtain rfl : v31 = xs (i + 6) := ev31.trans (by rw [nI_clamp (by omega)])
  refine lv_topi (fun v32 ev32 => ?_)
  obtain rfl : v32 = nI v := ev32.trans (hxv)
  refine mp_calli hI (va_runV (As := [.int (nI k), .long (((xs (i + 2)).toInt64 <<< ((nI 32).toInt64 &&& 63)) ||| ((xs (i + 3)).toInt64 &&& lN 4294967295)), .long (((xs (i + 4)).toInt64 <<< ((nI 32).toInt64 &&& 63)) ||| ((xs (i + 5)).toInt64 &&& lN 4294967295)), .int (nI v)]) (rest := []) ⟨hx, hb, hml, hown, hg⟩ (c_M_term l D g S15 _ mo mp n k v (m1) (m2) (m5) (m6) (m7) (m8) (m9) (m10) (m11) (m12) (m13) (m14) (m15) (m16) (m17) (m18) (m19) (m20) (m21) (m22) (m23) (m24) (m25) (m26) (m27) (m28) (m29) (m30) th (((xs (i + 2)).toInt64 <<< ((nI 32).toInt64 &&& 63)) ||| ((xs (i + 3)).toInt64 &&& lN 4294967295)) (((xs (i + 4)).toInt64 <<< ((nI 32).toInt64 &&& 63)) ||| ((xs (i + 5)).toInt64 &&& lN 4294967295)) pf h_mo h_mp hk hv hn hn0 hp hq) ⟨(callB_of 4 hg (wd_goodG q_910) rfl rfl rfl (hg _ q_5) (hg _ q_907) (by decide +kernel) ⟨Nat.le_of_ble_eq_true rfl, Nat.le_of_ble_eq_true rfl⟩), hg _ q_908, hg _ q_909⟩ (mp_preV (C := R_M) (T := F_M) hI hK h_mo rfl [.int (nI k), .long (((xs (i + 2)).toInt64 <<< ((nI 32).toInt64 &&& 63)) ||| ((xs (i + 3)).toInt64 &&& lN 4294967295)), .long (((xs (i + 4)).toInt64 <<< ((nI 32).toInt64 &&& 63)) ||| ((xs (i + 5)).toInt64 &&& lN 4294967295)), .int (nI v)]) rfl rfl hl.1 rfl (lv_room (Nat.le_of_ble_eq_true rfl)) d_L_law_282 ⟨by omega, by omega⟩) (fun r36 S33 H34 locs p_35 hI => ?_)
  obtain ⟨er36, hr_mo, hr_mp, fr⟩ := p_35
  rw [hpz] at er36
  have hq_oa : S33 oa = some (9, .inl ((g 4), 1, .inr (.inl f1))) := (fr oa (mp_in hq_oa) (mp_ne hq_oa h_mo (by decide)) (mp_ne hq_oa h_mp (by decide))).trans hq_oa
  have hX9 : (rsN (((xs (i + 2)).toInt64 <<< ((nI 32).toInt64 &&& 63)) ||| ((xs (i + 3)).toInt64 &&& lN 4294967295)) * (rsN (((xs (i + 4)).toInt64 <<< ((nI 32).toInt64 &&& 63)) ||| ((xs (i + 5)).toInt64 &&& lN 4294967295)) ^ 32001 % 32003) % 32003) < 32003 := Nat.mod_lt _ (by decide)
  rcases er36 with ⟨hz9, rfl⟩ | ⟨hz9, rfl⟩
  · refine lv_istore (lv' := [(6, .int 0), (5, .int (nI 0)), (4, .int (nI i)), (3, .ref oa), (2, .ref mo), (1, .ref o), (0, .ref b)]) hx hb d_L_law_285 hl (by decide) rfl (fun ls hl => ?_)
    refine lv_aload_n hx hb d_L_law_287 rfl (lv_at hl 4 rfl) ?_
    refine mp_calli hI (va_runV (As := []) (rest := []) ⟨hx, hb, hml, hown, hg⟩ (c_M_thrown l D g S33 _ mo (.int (nI n)) (m1) (m2) (.ref mp) (m5) (m6) (m7) (m8) (m9) (m10) (m11) (m12) (m13) (m14) (m15) (m16) (m17) (m18) (m19) (m20) (m21) (m22) (m23) (m24) (m25) (m26) (m27) (m28) (m29) (m30) (nI 0) hr_mo) ⟨(callB_of 0 hg (wd_goodG q_902) rfl rfl rfl (hg _ q_5) (hg _ q_899) (by decide +kernel) ⟨Nat.le_of_ble_eq_true rfl, Nat.le_of_ble_eq_true rfl⟩), hg _ q_900, hg _ q_901⟩ (mp_preV (C := R_M) (T := F_M) hI hK hr_mo rfl []) rfl rfl hl.1 rfl (lv_room (Nat.le_of_ble_eq_true rfl)) d_L_law_288 ⟨by omega, by omega⟩) (fun r40 S37 H38 locs p_39 hI => ?_)
    obtain ⟨er40, eS41⟩ := p_39
    rw [eS41] at hI
    have er40 : r40 = nI 0 := er40
    subst er40
    refine lv_iload hx hb d_L_law_291 (lv_at hl 1 rfl) ?_
    refine lv_icmp_eq (tgt := 298) hx hb d_L_law_293 (by decide) (fun _ => ?_) (fun h9 => absurd (rfl) h9)
    refine lv_iload hx hb d_L_law_298 (lv_at hl 1 rfl) ?_
    refine lv_if_ne (tgt := 322) hx hb d_L_law_300 (by decide) (fun h9 => absurd h9 (by decide)) (fun _ => ?_)
    refine lv_aload_n hx hb d_L_law_303 rfl (lv_at hl 3 rfl) ?_
    refine lv_iconst (v := nI 0) hx hb d_L_law_304 (by decide) ?_
    refine mp_lald hx hb hK.va hI 4 hq_oa rfl (vp_in_nI (by decide) (by decide)) d_L_law_305 ?_
    refine lv_topl (fun v42 ev42 => ?_)
    obtain rfl : v42 = lN 0 := ev42.trans (hf1.trans (if_pos ((zI_eq (by omega)).mp hz9.symm)))
    refine lv_iload hx hb d_L_law_306 (lv_at hl 0 rfl) ?_
    refine lv_if_eq (tgt := 315) hx hb d_L_law_308 (by decide) (fun _ => ?_) (fun h9 => absurd (by decide) h9)
    refine lv_lconst (v := lN 0) hx hb d_L_law_315 (by decide) ?_
    refine W.lcmp hx hb d_L_law_316 ?_
    refine lv_if_eq (tgt := 322) hx hb d_L_law_317 (by decide) (fun _ => ?_) (fun h9 => absurd (lg_same rfl) h9)
    refine lv_goto (tgt := 822) hx hb d_L_law_322 (by decide) ?_
    exact kx S33 _ _ ls hI (lv_sub hl [2, 3, 4, 5, 6] rfl)
  · refine lv_istore (lv' := [(6, .int 1), (5, .int (nI 0)), (4, .int (nI i)), (3, .ref oa), (2, .ref mo), (1, .ref o), (0, .ref b)]) hx hb d_L_law_285 hl (by decide) rfl (fun ls hl => ?_)
    refine lv_aload_n hx hb d_L_law_287 rfl (lv_at hl 4 rfl) ?_
    refine mp_calli hI (va_runV (As := []) (rest := []) ⟨hx, hb, hml, hown, hg⟩ (c_M_thrown l D g S33 _ mo (.int (nI n)) (m1) (m2) (.ref mp) (m5) (m6) (m7) (m8) (m9) (m10) (m11) (m12) (m13) (m14) (m15) (m16) (m17) (m18) (m19) (m20) (m21) (m22) (m23) (m24) (m25) (m26) (m27) (m28) (m29) (m30) (nI 0) hr_mo) ⟨(callB_of 0 hg (wd_goodG q_902) rfl rfl rfl (hg _ q_5) (hg _ q_899) (by decide +kernel) ⟨Nat.le_of_ble_eq_true rfl, Nat.le_of_ble_eq_true rfl⟩), hg _ q_900, hg _ q_901⟩ (mp_preV (C := R_M) (T := F_M) hI hK hr_mo rfl []) rfl rfl hl.1 rfl (lv_room (Nat.le_of_ble_eq_true rfl)) d_L_law_288 ⟨by omega, by omega⟩) (fun r46 S43 H44 locs p_45 hI => ?_)
    obtain ⟨er46, eS47⟩ := p_45
    rw [eS47] at hI
    have er46 : r46 = nI 0 := er46
    subst er46
    refine lv_iload hx hb d_L_law_291 (lv_at hl 1 rfl) ?_
    refine lv_icmp_eq (tgt := 298) hx hb d_L_law_293 (by decide) (fun _ => ?_) (fun h9 => absurd (rfl) h9)
    refine lv_iload hx hb d_L_law_298 (lv_at hl 1 rfl) ?_
    refine lv_if_ne (tgt := 322) hx hb d_L_law_300 (by decide) (fun h9 => absurd h9 (by decide)) (fun _ => ?_)
    refine lv_aload_n hx hb d_L_law_303 rfl (lv_at hl 3 rfl) ?_
    refine lv_iconst (v := nI 0) hx hb d_L_law_304 (by decide) ?_
    refine mp_lald hx hb hK.va hI 4 hq_oa rfl (vp_in_nI (by decide) (by decide)) d_L_law_305 ?_
    refine lv_topl (fun v48 ev48 => ?_)
    obtain rfl : v48 = lN 1 := ev48.trans (hf1.trans (if_neg (fun h9 => hz9 ((zI_eq (by omega)).mpr h9).symm)))
    refine lv_iload hx hb d_L_law_306 (lv_at hl 0 rfl) ?_
    refine lv_if_eq (tgt := 315) hx hb d_L_law_308 (by decide) (fun h9 => absurd h9 (by decide)) (fun _ => ?_)
    refine lv_lconst (v := lN 1) hx hb d_L_law_311 (by decide) ?_
    refine lv_goto (tgt := 316) hx hb d_L_law_312 (by decide) ?_
    refine W.lcmp hx hb d_L_law_316 ?_
    refine lv_if_eq (tgt := 322) hx hb d_L_law_317 (by decide) (fun _ => ?_) (fun h9 => absurd (lg_same rfl) h9)
    refine lv_goto (tgt := 822) hx hb d_L_law_322 (by decide) ?_
    exact kx S33 _ _ ls hI (lv_sub hl [2, 3, 4, 5, 6] rfl)
