/-! FourTenGatesModel.item()Z -/
abbrev rm7_item : Room := { frames := 3, cells := 0, slots := 0, locals := 69 }
theorem d7_item_0 : decode cX7_item 0 = .ok (.aload_n 0, 1) := by decide +kernel
theorem d7_item_1 : decode cX7_item 1 = .ok (.aload_n 0, 1) := by decide +kernel
theorem d7_item_2 : decode cX7_item 2 = .ok (.getfield 121, 3) := by decide +kernel
theorem d7_item_5 : decode cX7_item 5 = .ok (.invokevirtual 124, 3) := by decide +kernel
theorem d7_item_8 : decode cX7_item 8 = .ok (.istore_n 1, 1) := by decide +kernel
theorem d7_item_9 : decode cX7_item 9 = .ok (.aload_n 0, 1) := by decide +kernel
theorem d7_item_10 : decode cX7_item 10 = .ok (.dup, 1) := by decide +kernel
theorem d7_item_11 : decode cX7_item 11 = .ok (.getfield 121, 3) := by decide +kernel
theorem d7_item_14 : decode cX7_item 14 = .ok (.iconst 1, 1) := by decide +kernel
theorem d7_item_15 : decode cX7_item 15 = .ok (.iadd, 1) := by decide +kernel
theorem d7_item_16 : decode cX7_item 16 = .ok (.putfield 121, 3) := by decide +kernel
theorem d7_item_19 : decode cX7_item 19 = .ok (.iload_n 1, 1) := by decide +kernel
theorem d7_item_20 : decode cX7_item 20 = .ok (.tableswitch 402 97 119 #[344, 402, 261, 402, 402, 402, 230, 402, 402, 402, 392, 402, 402, 402, 397, 402, 402, 402, 402, 108, 169, 402, 292], 108) := by decide +kernel
theorem d7_item_128 : decode cX7_item 128 = .ok (.aload_n 0, 1) := by decide +kernel
theorem d7_item_129 : decode cX7_item 129 = .ok (.iconst 2, 1) := by decide +kernel
theorem d7_item_130 : decode cX7_item 130 = .ok (.invokevirtual 134, 3) := by decide +kernel
theorem d7_item_133 : decode cX7_item 133 = .ok (.ifCond .eq 35, 3) := by decide +kernel
theorem d7_item_136 : decode cX7_item 136 = .ok (.aload_n 0, 1) := by decide +kernel
theorem d7_item_137 : decode cX7_item 137 = .ok (.getfield 13, 3) := by decide +kernel
theorem d7_item_140 : decode cX7_item 140 = .ok (.iconst 1, 1) := by decide +kernel
theorem d7_item_141 : decode cX7_item 141 = .ok (.iaload, 1) := by decide +kernel
theorem d7_item_142 : decode cX7_item 142 = .ok (.bipush 6, 2) := by decide +kernel
theorem d7_item_144 : decode cX7_item 144 = .ok (.if_icmp .eq 24, 3) := by decide +kernel
theorem d7_item_147 : decode cX7_item 147 = .ok (.aload_n 0, 1) := by decide +kernel
theorem d7_item_148 : decode cX7_item 148 = .ok (.getfield 70, 3) := by decide +kernel
theorem d7_item_151 : decode cX7_item 151 = .ok (.iconst 0, 1) := by decide +kernel
theorem d7_item_152 : decode cX7_item 152 = .ok (.iaload, 1) := by decide +kernel
theorem d7_item_153 : decode cX7_item 153 = .ok (.bipush 59, 2) := by decide +kernel
theorem d7_item_155 : decode cX7_item 155 = .ok (.if_icmp .gt 13, 3) := by decide +kernel
theorem d7_item_158 : decode cX7_item 158 = .ok (.aload_n 0, 1) := by decide +kernel
theorem d7_item_159 : decode cX7_item 159 = .ok (.getfield 70, 3) := by decide +kernel
theorem d7_item_162 : decode cX7_item 162 = .ok (.iconst 1, 1) := by decide +kernel
theorem d7_item_163 : decode cX7_item 163 = .ok (.iaload, 1) := by decide +kernel
theorem d7_item_164 : decode cX7_item 164 = .ok (.iconst 2, 1) := by decide +kernel
theorem d7_item_165 : decode cX7_item 165 = .ok (.if_icmp .le 5, 3) := by decide +kernel
theorem d7_item_168 : decode cX7_item 168 = .ok (.iconst 0, 1) := by decide +kernel
theorem d7_item_169 : decode cX7_item 169 = .ok (.ireturn, 1) := by decide +kernel
theorem d7_item_170 : decode cX7_item 170 = .ok (.aload_n 0, 1) := by decide +kernel
theorem d7_item_171 : decode cX7_item 171 = .ok (.iconst 1, 1) := by decide +kernel
theorem d7_item_172 : decode cX7_item 172 = .ok (.aload_n 0, 1) := by decide +kernel
theorem d7_item_173 : decode cX7_item 173 = .ok (.getfield 70, 3) := by decide +kernel
theorem d7_item_176 : decode cX7_item 176 = .ok (.iconst 0, 1) := by decide +kernel
theorem d7_item_177 : decode cX7_item 177 = .ok (.iaload, 1) := by decide +kernel
theorem d7_item_178 : decode cX7_item 178 = .ok (.aload_n 0, 1) := by decide +kernel
theorem d7_item_179 : decode cX7_item 179 = .ok (.getfield 70, 3) := by decide +kernel
theorem d7_item_182 : decode cX7_item 182 = .ok (.iconst 1, 1) := by decide +kernel
theorem d7_item_183 : decode cX7_item 183 = .ok (.iaload, 1) := by decide +kernel
theorem d7_item_184 : decode cX7_item 184 = .ok (.invokevirtual 99, 3) := by decide +kernel
theorem d7_item_187 : decode cX7_item 187 = .ok (.iconst 1, 1) := by decide +kernel
theorem d7_item_188 : decode cX7_item 188 = .ok (.ireturn, 1) := by decide +kernel
theorem d7_item_189 : decode cX7_item 189 = .ok (.aload_n 0, 1) := by decide +kernel
theorem d7_item_190 : decode cX7_item 190 = .ok (.iconst 2, 1) := by decide +kernel
theorem d7_item_191 : decode cX7_item 191 = .ok (.invokevirtual 134, 3) := by decide +kernel
theorem d7_item_194 : decode cX7_item 194 = .ok (.ifCond .eq 35, 3) := by decide +kernel
theorem d7_item_197 : decode cX7_item 197 = .ok (.aload_n 0, 1) := by decide +kernel
theorem d7_item_198 : decode cX7_item 198 = .ok (.getfield 22, 3) := by decide +kernel
theorem d7_item_201 : decode cX7_item 201 = .ok (.iconst 1, 1) := by decide +kernel
theorem d7_item_202 : decode cX7_item 202 = .ok (.iaload, 1) := by decide +kernel
theorem d7_item_203 : decode cX7_item 203 = .ok (.bipush 8, 2) := by decide +kernel
theorem d7_item_205 : decode cX7_item 205 = .ok (.if_icmp .eq 24, 3) := by decide +kernel
theorem d7_item_208 : decode cX7_item 208 = .ok (.aload_n 0, 1) := by decide +kernel
theorem d7_item_209 : decode cX7_item 209 = .ok (.getfield 70, 3) := by decide +kernel
theorem d7_item_212 : decode cX7_item 212 = .ok (.iconst 0, 1) := by decide +kernel
theorem d7_item_213 : decode cX7_item 213 = .ok (.iaload, 1) := by decide +kernel
theorem d7_item_214 : decode cX7_item 214 = .ok (.bipush 59, 2) := by decide +kernel
theorem d7_item_216 : decode cX7_item 216 = .ok (.if_icmp .gt 13, 3) := by decide +kernel
theorem d7_item_219 : decode cX7_item 219 = .ok (.aload_n 0, 1) := by decide +kernel
theorem d7_item_220 : decode cX7_item 220 = .ok (.getfield 70, 3) := by decide +kernel
theorem d7_item_223 : decode cX7_item 223 = .ok (.iconst 1, 1) := by decide +kernel
theorem d7_item_224 : decode cX7_item 224 = .ok (.iaload, 1) := by decide +kernel
theorem d7_item_225 : decode cX7_item 225 = .ok (.iconst 3, 1) := by decide +kernel
theorem d7_item_226 : decode cX7_item 226 = .ok (.if_icmp .le 5, 3) := by decide +kernel
theorem d7_item_229 : decode cX7_item 229 = .ok (.iconst 0, 1) := by decide +kernel
theorem d7_item_230 : decode cX7_item 230 = .ok (.ireturn, 1) := by decide +kernel
theorem d7_item_231 : decode cX7_item 231 = .ok (.aload_n 0, 1) := by decide +kernel
theorem d7_item_232 : decode cX7_item 232 = .ok (.iconst 1, 1) := by decide +kernel
theorem d7_item_233 : decode cX7_item 233 = .ok (.aload_n 0, 1) := by decide +kernel
theorem d7_item_234 : decode cX7_item 234 = .ok (.getfield 70, 3) := by decide +kernel
theorem d7_item_237 : decode cX7_item 237 = .ok (.iconst 0, 1) := by decide +kernel
theorem d7_item_238 : decode cX7_item 238 = .ok (.iaload, 1) := by decide +kernel
theorem d7_item_239 : decode cX7_item 239 = .ok (.aload_n 0, 1) := by decide +kernel
theorem d7_item_240 : decode cX7_item 240 = .ok (.getfield 70, 3) := by decide +kernel
theorem d7_item_243 : decode cX7_item 243 = .ok (.iconst 1, 1) := by decide +kernel
theorem d7_item_244 : decode cX7_item 244 = .ok (.iaload, 1) := by decide +kernel
theorem d7_item_245 : decode cX7_item 245 = .ok (.invokevirtual 103, 3) := by decide +kernel
theorem d7_item_248 : decode cX7_item 248 = .ok (.iconst 1, 1) := by decide +kernel
theorem d7_item_249 : decode cX7_item 249 = .ok (.ireturn, 1) := by decide +kernel
theorem d7_item_250 : decode cX7_item 250 = .ok (.aload_n 0, 1) := by decide +kernel
theorem d7_item_251 : decode cX7_item 251 = .ok (.iconst 1, 1) := by decide +kernel
theorem d7_item_252 : decode cX7_item 252 = .ok (.invokevirtual 134, 3) := by decide +kernel
theorem d7_item_255 : decode cX7_item 255 = .ok (.ifCond .eq 24, 3) := by decide +kernel
theorem d7_item_258 : decode cX7_item 258 = .ok (.aload_n 0, 1) := by decide +kernel
theorem d7_item_259 : decode cX7_item 259 = .ok (.iconst 0, 1) := by decide +kernel
theorem d7_item_260 : decode cX7_item 260 = .ok (.aload_n 0, 1) := by decide +kernel
theorem d7_item_261 : decode cX7_item 261 = .ok (.getfield 70, 3) := by decide +kernel
theorem d7_item_264 : decode cX7_item 264 = .ok (.iconst 0, 1) := by decide +kernel
theorem d7_item_265 : decode cX7_item 265 = .ok (.iaload, 1) := by decide +kernel
theorem d7_item_266 : decode cX7_item 266 = .ok (.iconst 1, 1) := by decide +kernel
theorem d7_item_267 : decode cX7_item 267 = .ok (.bipush 9, 2) := by decide +kernel
theorem d7_item_269 : decode cX7_item 269 = .ok (.invokevirtual 138, 3) := by decide +kernel
theorem d7_item_272 : decode cX7_item 272 = .ok (.ifCond .eq 7, 3) := by decide +kernel
theorem d7_item_275 : decode cX7_item 275 = .ok (.iconst 1, 1) := by decide +kernel
theorem d7_item_276 : decode cX7_item 276 = .ok (.goto 4, 3) := by decide +kernel
theorem d7_item_279 : decode cX7_item 279 = .ok (.iconst 0, 1) := by decide +kernel
theorem d7_item_280 : decode cX7_item 280 = .ok (.ireturn, 1) := by decide +kernel
theorem d7_item_281 : decode cX7_item 281 = .ok (.aload_n 0, 1) := by decide +kernel
theorem d7_item_282 : decode cX7_item 282 = .ok (.iconst 1, 1) := by decide +kernel
theorem d7_item_283 : decode cX7_item 283 = .ok (.invokevirtual 134, 3) := by decide +kernel
theorem d7_item_286 : decode cX7_item 286 = .ok (.ifCond .eq 24, 3) := by decide +kernel
theorem d7_item_289 : decode cX7_item 289 = .ok (.aload_n 0, 1) := by decide +kernel
theorem d7_item_290 : decode cX7_item 290 = .ok (.iconst 1, 1) := by decide +kernel
theorem d7_item_291 : decode cX7_item 291 = .ok (.aload_n 0, 1) := by decide +kernel
theorem d7_item_292 : decode cX7_item 292 = .ok (.getfield 70, 3) := by decide +kernel
theorem d7_item_295 : decode cX7_item 295 = .ok (.iconst 0, 1) := by decide +kernel
theorem d7_item_296 : decode cX7_item 296 = .ok (.iaload, 1) := by decide +kernel
theorem d7_item_297 : decode cX7_item 297 = .ok (.iconst 0, 1) := by decide +kernel
theorem d7_item_298 : decode cX7_item 298 = .ok (.bipush 99, 2) := by decide +kernel
theorem d7_item_300 : decode cX7_item 300 = .ok (.invokevirtual 138, 3) := by decide +kernel
theorem d7_item_303 : decode cX7_item 303 = .ok (.ifCond .eq 7, 3) := by decide +kernel
theorem d7_item_306 : decode cX7_item 306 = .ok (.iconst 1, 1) := by decide +kernel
theorem d7_item_307 : decode cX7_item 307 = .ok (.goto 4, 3) := by decide +kernel
theorem d7_item_310 : decode cX7_item 310 = .ok (.iconst 0, 1) := by decide +kernel
theorem d7_item_311 : decode cX7_item 311 = .ok (.ireturn, 1) := by decide +kernel
theorem d7_item_312 : decode cX7_item 312 = .ok (.aload_n 0, 1) := by decide +kernel
theorem d7_item_313 : decode cX7_item 313 = .ok (.iconst 2, 1) := by decide +kernel
theorem d7_item_314 : decode cX7_item 314 = .ok (.invokevirtual 134, 3) := by decide +kernel
theorem d7_item_317 : decode cX7_item 317 = .ok (.ifCond .eq 24, 3) := by decide +kernel
theorem d7_item_320 : decode cX7_item 320 = .ok (.aload_n 0, 1) := by decide +kernel
theorem d7_item_321 : decode cX7_item 321 = .ok (.getfield 70, 3) := by decide +kernel
theorem d7_item_324 : decode cX7_item 324 = .ok (.iconst 0, 1) := by decide +kernel
theorem d7_item_325 : decode cX7_item 325 = .ok (.iaload, 1) := by decide +kernel
theorem d7_item_326 : decode cX7_item 326 = .ok (.iconst 3, 1) := by decide +kernel
theorem d7_item_327 : decode cX7_item 327 = .ok (.if_icmp .gt 14, 3) := by decide +kernel
theorem d7_item_330 : decode cX7_item 330 = .ok (.aload_n 0, 1) := by decide +kernel
theorem d7_item_331 : decode cX7_item 331 = .ok (.getfield 70, 3) := by decide +kernel
theorem d7_item_334 : decode cX7_item 334 = .ok (.iconst 1, 1) := by decide +kernel
theorem d7_item_335 : decode cX7_item 335 = .ok (.iaload, 1) := by decide +kernel
theorem d7_item_336 : decode cX7_item 336 = .ok (.bipush 9, 2) := by decide +kernel
theorem d7_item_338 : decode cX7_item 338 = .ok (.if_icmp .le 5, 3) := by decide +kernel
theorem d7_item_341 : decode cX7_item 341 = .ok (.iconst 0, 1) := by decide +kernel
theorem d7_item_342 : decode cX7_item 342 = .ok (.ireturn, 1) := by decide +kernel
theorem d7_item_343 : decode cX7_item 343 = .ok (.aload_n 0, 1) := by decide +kernel
theorem d7_item_344 : decode cX7_item 344 = .ok (.getfield 34, 3) := by decide +kernel
theorem d7_item_347 : decode cX7_item 347 = .ok (.iconst 4, 1) := by decide +kernel
theorem d7_item_348 : decode cX7_item 348 = .ok (.aload_n 0, 1) := by decide +kernel
theorem d7_item_349 : decode cX7_item 349 = .ok (.getfield 70, 3) := by decide +kernel
theorem d7_item_352 : decode cX7_item 352 = .ok (.iconst 0, 1) := by decide +kernel
theorem d7_item_353 : decode cX7_item 353 = .ok (.iaload, 1) := by decide +kernel
theorem d7_item_354 : decode cX7_item 354 = .ok (.iadd, 1) := by decide +kernel
theorem d7_item_355 : decode cX7_item 355 = .ok (.aload_n 0, 1) := by decide +kernel
theorem d7_item_356 : decode cX7_item 356 = .ok (.getfield 70, 3) := by decide +kernel
theorem d7_item_359 : decode cX7_item 359 = .ok (.iconst 1, 1) := by decide +kernel
theorem d7_item_360 : decode cX7_item 360 = .ok (.iaload, 1) := by decide +kernel
theorem d7_item_361 : decode cX7_item 361 = .ok (.iastore, 1) := by decide +kernel
theorem d7_item_362 : decode cX7_item 362 = .ok (.iconst 1, 1) := by decide +kernel
theorem d7_item_363 : decode cX7_item 363 = .ok (.ireturn, 1) := by decide +kernel
theorem d7_item_364 : decode cX7_item 364 = .ok (.aload_n 0, 1) := by decide +kernel
theorem d7_item_365 : decode cX7_item 365 = .ok (.iconst 2, 1) := by decide +kernel
theorem d7_item_366 : decode cX7_item 366 = .ok (.invokevirtual 134, 3) := by decide +kernel
theorem d7_item_369 : decode cX7_item 369 = .ok (.ifCond .eq 41, 3) := by decide +kernel
theorem d7_item_372 : decode cX7_item 372 = .ok (.aload_n 0, 1) := by decide +kernel
theorem d7_item_373 : decode cX7_item 373 = .ok (.iconst 2, 1) := by decide +kernel
theorem d7_item_374 : decode cX7_item 374 = .ok (.aload_n 0, 1) := by decide +kernel
theorem d7_item_375 : decode cX7_item 375 = .ok (.getfield 70, 3) := by decide +kernel
theorem d7_item_378 : decode cX7_item 378 = .ok (.iconst 0, 1) := by decide +kernel
theorem d7_item_379 : decode cX7_item 379 = .ok (.iaload, 1) := by decide +kernel
theorem d7_item_380 : decode cX7_item 380 = .ok (.iconst 1, 1) := by decide +kernel
theorem d7_item_381 : decode cX7_item 381 = .ok (.bipush 99, 2) := by decide +kernel
theorem d7_item_383 : decode cX7_item 383 = .ok (.invokevirtual 138, 3) := by decide +kernel
theorem d7_item_386 : decode cX7_item 386 = .ok (.ifCond .eq 24, 3) := by decide +kernel
theorem d7_item_389 : decode cX7_item 389 = .ok (.aload_n 0, 1) := by decide +kernel
theorem d7_item_390 : decode cX7_item 390 = .ok (.iconst 3, 1) := by decide +kernel
theorem d7_item_391 : decode cX7_item 391 = .ok (.aload_n 0, 1) := by decide +kernel
theorem d7_item_392 : decode cX7_item 392 = .ok (.getfield 70, 3) := by decide +kernel
theorem d7_item_395 : decode cX7_item 395 = .ok (.iconst 1, 1) := by decide +kernel
theorem d7_item_396 : decode cX7_item 396 = .ok (.iaload, 1) := by decide +kernel
theorem d7_item_397 : decode cX7_item 397 = .ok (.iconst 0, 1) := by decide +kernel
theorem d7_item_398 : decode cX7_item 398 = .ok (.bipush 99, 2) := by decide +kernel
theorem d7_item_400 : decode cX7_item 400 = .ok (.invokevirtual 138, 3) := by decide +kernel
theorem d7_item_403 : decode cX7_item 403 = .ok (.ifCond .eq 7, 3) := by decide +kernel
theorem d7_item_406 : decode cX7_item 406 = .ok (.iconst 1, 1) := by decide +kernel
theorem d7_item_407 : decode cX7_item 407 = .ok (.goto 4, 3) := by decide +kernel
theorem d7_item_410 : decode cX7_item 410 = .ok (.iconst 0, 1) := by decide +kernel
theorem d7_item_411 : decode cX7_item 411 = .ok (.ireturn, 1) := by decide +kernel
theorem d7_item_412 : decode cX7_item 412 = .ok (.aload_n 0, 1) := by decide +kernel
theorem d7_item_413 : decode cX7_item 413 = .ok (.invokevirtual 142, 3) := by decide +kernel
theorem d7_item_416 : decode cX7_item 416 = .ok (.ireturn, 1) := by decide +kernel
theorem d7_item_417 : decode cX7_item 417 = .ok (.aload_n 0, 1) := by decide +kernel
theorem d7_item_418 : decode cX7_item 418 = .ok (.invokevirtual 146, 3) := by decide +kernel
theorem d7_item_421 : decode cX7_item 421 = .ok (.ireturn, 1) := by decide +kernel
theorem d7_item_422 : decode cX7_item 422 = .ok (.iconst 0, 1) := by decide +kernel
theorem d7_item_423 : decode cX7_item 423 = .ok (.ireturn, 1) := by decide +kernel
def f7_item (σ : Mem) : Option (Mem × Int32) := Option.bind (f7_letterAt σ (σ 0 24)) fun r1 => bm (mu σ 0 24 ((σ 0 24) + 1)) fun σ2 => if r1 = 97 then ob (f7_figures σ2 2) fun σ4 r4 => if r4 = 0 then some (σ4, 0) else ob (f7_setTold σ4 2 (σ4 26 0) 1 99) fun σ6 r6 => if r6 = 0 then some (σ6, 0) else ob (f7_setTold σ6 3 (σ6 26 1) 0 99) fun σ8 r8 => if r8 = 0 then some (σ8, 0) else some (σ8, 1) else if r1 = 99 then ob (f7_figures σ2 1) fun σ5 r5 => if r5 = 0 then some (σ5, 0) else ob (f7_setTold σ5 1 (σ5 26 0) 0 99) fun σ7 r7 => if r7 = 0 then some (σ7, 0) else some (σ7, 1) else if r1 = 103 then ob (f7_figures σ2 1) fun σ6 r6 => if r6 = 0 then some (σ6, 0) else ob (f7_setTold σ6 0 (σ6 26 0) 1 9) fun σ8 r8 => if r8 = 0 then some (σ8, 0) else some (σ8, 1) else if r1 = 107 then ob (f7_closingItem σ2) fun σ7 r7 => if r7 = 0 ∨ r7 = 1 then some (σ7, r7) else none else if r1 = 111 then ob (f7_oddsItem σ2) fun σ8 r8 => if r8 = 0 ∨ r8 = 1 then some (σ8, r8) else none else if r1 = 116 then ob (f7_figures σ2 2) fun σ9 r9 => if r9 = 0 then some (σ9, 0) else if (σ9 3 1) = 6 then some (σ9, 0) else if 59 < (σ9 26 0) then some (σ9, 0) else if (σ9 26 1) ≤ 2 then Option.bind (f7_addTrain σ9 1 (σ9 26 0) (σ9 26 1)) fun σ14 => some (σ14, 1) else some (σ9, 0) else if r1 = 117 then ob (f7_figures σ2 2) fun σ10 r10 => if r10 = 0 then some (σ10, 0) else if (σ10 6 1) = 8 then some (σ10, 0) else if 59 < (σ10 26 0) then some (σ10, 0) else if (σ10 26 1) ≤ 3 then Option.bind (f7_addUser σ10 1 (σ10 26 0) (σ10 26 1)) fun σ15 => some (σ15, 1) else some (σ10, 0) else if r1 = 119 then ob (f7_figures σ2 2) fun σ11 r11 => if r11 = 0 then some (σ11, 0) else if 3 < (σ11 26 0) then some (σ11, 0) else if (σ11 26 1) ≤ 9 then if ¬ (4 + (σ11 26 0) < 0 ∨ 8 ≤ (4 + (σ11 26 0)).toNatClampNeg) then (bm (mu σ11 10 ((4 + (σ11 26 0)).toNatClampNeg) (σ11 26 1)) fun σ16 => some (σ16, 1)) else none else some (σ11, 0) else some (σ2, 0)
set_option maxHeartbeats 4000000 in
set_option maxRecDepth 100000 in
theorem c7_item (l : Launch) {w : WV} {σ : Mem} {σ' : Mem} {r : Int32} (h0 : f7_item σ = some (σ', r)) : Met l yX7_item (wy yX7_item cX7_item 2 (some .boolean)) rm7_item (Pw EM LM w [.ref (w.2.2 0)] σ) (Qw EM LM w σ' (some (.int r))) 0 0 (AW LM w) := by
  refine mk_met (by decide) (Nat.le_of_ble_eq_true rfl) ?_
  intro p e s m below meth c S hr hlk hK hR ls hl
  obtain ⟨hx, hb, hml, hown, hts⟩ := id S
  have hl : lv_has ls 2 [(0, .ref (w.2.2 0))] := hl
  have hS : va_S (AW LM w) s.heap s.heap [] := va_S.rf
  unfold f7_item at h0
  refine lv_aload_n hx hb d7_item_0 rfl (lv_at hl 0 rfl) ?_
  refine lv_aload_n hx hb d7_item_1 rfl (lv_at hl 0 rfl) ?_
  refine g7_121 S hK hR d7_item_2 ?_
  obtain ⟨r1, hr1, h0⟩ := og_b h0
  refine k7_124 S hK hR  hr1 ⟨Nat.zero_le _, Nat.zero_le _⟩ ⟨Nat.le_of_ble_eq_true rfl, Nat.le_of_ble_eq_true rfl⟩ hl.1 (Nat.le_of_ble_eq_true rfl) d7_item_5 ?_
  refine lv_istore_n (lv' := [(1, .int r1), (0, .ref (w.2.2 0))]) hx hb d7_item_8 rfl hl (by decide) rfl (fun ls hl => ?_)
  refine lv_aload_n hx hb d7_item_9 rfl (lv_at hl 1 rfl) ?_
  refine lv_dup hx hb d7_item_10 rfl ?_
  refine g7_121 S hK hR d7_item_11 ?_
  refine lv_iconst (v := 1) hx hb d7_item_14 (by decide) ?_
  refine lv_iadd hx hb d7_item_15 ?_
  obtain ⟨σ2, hm2, h0⟩ := og_m h0
  refine u7_121 S hK hR hS hm2 d7_item_16 (fun H locs hR hS => ?_)
  refine lv_iload_n hx hb d7_item_19 rfl (lv_at hl 0 rfl) ?_
  by_cases hc3 : r1 = 97
  · have h0 := og_t hc3 h0
    refine q_tabI (off := 344) (tgt := 364) S d7_item_20 hc3 (by decide) (by decide) (by decide) (by decide) ?_
    refine lv_aload_n hx hb d7_item_364 rfl (lv_at hl 1 rfl) ?_
    refine lv_iconst (v := 2) hx hb d7_item_365 (by decide) ?_
    obtain ⟨σ4, r4, hr4, h0⟩ := og_o h0
    refine k7_134 S hK hR hS  hr4 ⟨Nat.zero_le _, Nat.zero_le _⟩ ⟨Nat.le_of_ble_eq_true rfl, Nat.le_of_ble_eq_true rfl⟩ hl.1 (Nat.le_of_ble_eq_true rfl) d7_item_366 (fun H locs hR hS => ?_)
    refine lv_if_eq (tgt := 410) hx hb d7_item_369 (by decide) (fun hc5 => ?_) (fun hc5 => ?_)
    · have h0 := og_t hc5 h0
      refine lv_iconst (v := 0) hx hb d7_item_410 (by decide) ?_
      exact q_zret S hr hlk hR hS (Or.inl rfl) h0 d7_item_411
    · have h0 := og_f hc5 h0
      refine lv_aload_n hx hb d7_item_372 rfl (lv_at hl 1 rfl) ?_
      refine lv_iconst (v := 2) hx hb d7_item_373 (by decide) ?_
      refine lv_aload_n hx hb d7_item_374 rfl (lv_at hl 1 rfl) ?_
      refine g7_70 S hK hR d7_item_375 ?_
      refine lv_iconst (v := 0) hx hb d7_item_378 (by decide) ?_
      refine q_ld (k := 0) S hK hR (by decide) (eM_125 w _) (vin (by decide)) (by decide) d7_item_379 ?_
      refine lv_iconst (v := 1) hx hb d7_item_380 (by decide) ?_
      refine lv_bipush (v := 99) hx hb d7_item_381 (by decide) ?_
      obtain ⟨σ6, r6, hr6, h0⟩ := og_o h0
      refine k7_138 S hK hR hS  hr6 ⟨Nat.zero_le _, Nat.zero_le _⟩ ⟨Nat.le_of_ble_eq_true rfl, Nat.le_of_ble_eq_true rfl⟩ hl.1 (Nat.le_of_ble_eq_true rfl) d7_item_383 (fun H locs hR hS => ?_)
      refine lv_if_eq (tgt := 410) hx hb d7_item_386 (by decide) (fun hc7 => ?_) (fun hc7 => ?_)
      · have h0 := og_t hc7 h0
        refine lv_iconst (v := 0) hx hb d7_item_410 (by decide) ?_
        exact q_zret S hr hlk hR hS (Or.inl rfl) h0 d7_item_411
      · have h0 := og_f hc7 h0
        refine lv_aload_n hx hb d7_item_389 rfl (lv_at hl 1 rfl) ?_
        refine lv_iconst (v := 3) hx hb d7_item_390 (by decide) ?_
        refine lv_aload_n hx hb d7_item_391 rfl (lv_at hl 1 rfl) ?_
        refine g7_70 S hK hR d7_item_392 ?_
        refine lv_iconst (v := 1) hx hb d7_item_395 (by decide) ?_
        refine q_ld (k := 1) S hK hR (by decide) (eM_125 w _) (vin (by decide)) (by decide) d7_item_396 ?_
        refine lv_iconst (v := 0) hx hb d7_item_397 (by decide) ?_
        refine lv_bipush (v := 99) hx hb d7_item_398 (by decide) ?_
        obtain ⟨σ8, r8, hr8, h0⟩ := og_o h0
        refine k7_138 S hK hR hS  hr8 ⟨Nat.zero_le _, Nat.zero_le _⟩ ⟨Nat.le_of_ble_eq_true rfl, Nat.le_of_ble_eq_true rfl⟩ hl.1 (Nat.le_of_ble_eq_true rfl) d7_item_400 (fun H locs hR hS => ?_)
        refine lv_if_eq (tgt := 410) hx hb d7_item_403 (by decide) (fun hc9 => ?_) (fun hc9 => ?_)
        · have h0 := og_t hc9 h0
          refine lv_iconst (v := 0) hx hb d7_item_410 (by decide) ?_
          exact q_zret S hr hlk hR hS (Or.inl rfl) h0 d7_item_411
        · have h0 := og_f hc9 h0
          refine lv_iconst (v := 1) hx hb d7_item_406 (by decide) ?_
          refine lv_goto (tgt := 411) hx hb d7_item_407 (by decide) ?_
          exact q_zret S hr hlk hR hS (Or.inr rfl) h0 d7_item_411
  · have h0 := og_f hc3 h0
    by_cases hc4 : r1 = 99
    · have h0 := og_t hc4 h0
      refine q_tabI (off := 261) (tgt := 281) S d7_item_20 hc4 (by decide) (by decide) (by decide) (by decide) ?_
      refine lv_aload_n hx hb d7_item_281 rfl (lv_at hl 1 rfl) ?_
      refine lv_iconst (v := 1) hx hb d7_item_282 (by decide) ?_
      obtain ⟨σ5, r5, hr5, h0⟩ := og_o h0
      refine k7_134 S hK hR hS  hr5 ⟨Nat.zero_le _, Nat.zero_le _⟩ ⟨Nat.le_of_ble_eq_true rfl, Nat.le_of_ble_eq_true rfl⟩ hl.1 (Nat.le_of_ble_eq_true rfl) d7_item_283 (fun H locs hR hS => ?_)
      refine lv_if_eq (tgt := 310) hx hb d7_item_286 (by decide) (fun hc6 => ?_) (fun hc6 => ?_)
      · have h0 := og_t hc6 h0
        refine lv_iconst (v := 0) hx hb d7_item_310 (by decide) ?_
        exact q_zret S hr hlk hR hS (Or.inl rfl) h0 d7_item_311
      · have h0 := og_f hc6 h0
        refine lv_aload_n hx hb d7_item_289 rfl (lv_at hl 1 rfl) ?_
        refine lv_iconst (v := 1) hx hb d7_item_290 (by decide) ?_
        refine lv_aload_n hx hb d7_item_291 rfl (lv_at hl 1 rfl) ?_
        refine g7_70 S hK hR d7_item_292 ?_
        refine lv_iconst (v := 0) hx hb d7_item_295 (by decide) ?_
        refine q_ld (k := 0) S hK hR (by decide) (eM_125 w _) (vin (by decide)) (by decide) d7_item_296 ?_
        refine lv_iconst (v := 0) hx hb d7_item_297 (by decide) ?_
        refine lv_bipush (v := 99) hx hb d7_item_298 (by decide) ?_
        obtain ⟨σ7, r7, hr7, h0⟩ := og_o h0
        refine k7_138 S hK hR hS  hr7 ⟨Nat.zero_le _, Nat.zero_le _⟩ ⟨Nat.le_of_ble_eq_true rfl, Nat.le_of_ble_eq_true rfl⟩ hl.1 (Nat.le_of_ble_eq_true rfl) d7_item_300 (fun H locs hR hS => ?_)
        refine lv_if_eq (tgt := 310) hx hb d7_item_303 (by decide) (fun hc8 => ?_) (fun hc8 => ?_)
        · have h0 := og_t hc8 h0
          refine lv_iconst (v := 0) hx hb d7_item_310 (by decide) ?_
          exact q_zret S hr hlk hR hS (Or.inl rfl) h0 d7_item_311
        · have h0 := og_f hc8 h0
          refine lv_iconst (v := 1) hx hb d7_item_306 (by decide) ?_
          refine lv_goto (tgt := 311) hx hb d7_item_307 (by decide) ?_
          exact q_zret S hr hlk hR hS (Or.inr rfl) h0 d7_item_311
    · have h0 := og_f hc4 h0
      by_cases hc5 : r1 = 103
      · have h0 := og_t hc5 h0
        refine q_tabI (off := 230) (tgt := 250) S d7_item_20 hc5 (by decide) (by decide) (by decide) (by decide) ?_
        refine lv_aload_n hx hb d7_item_250 rfl (lv_at hl 1 rfl) ?_
        refine lv_iconst (v := 1) hx hb d7_item_251 (by decide) ?_
        obtain ⟨σ6, r6, hr6, h0⟩ := og_o h0
        refine k7_134 S hK hR hS  hr6 ⟨Nat.zero_le _, Nat.zero_le _⟩ ⟨Nat.le_of_ble_eq_true rfl, Nat.le_of_ble_eq_true rfl⟩ hl.1 (Nat.le_of_ble_eq_true rfl) d7_item_252 (fun H locs hR hS => ?_)
        refine lv_if_eq (tgt := 279) hx hb d7_item_255 (by decide) (fun hc7 => ?_) (fun hc7 => ?_)
        · have h0 := og_t hc7 h0
          refine lv_iconst (v := 0) hx hb d7_item_279 (by decide) ?_
          exact q_zret S hr hlk hR hS (Or.inl rfl) h0 d7_item_280
        · have h0 := og_f hc7 h0
          refine lv_aload_n hx hb d7_item_258 rfl (lv_at hl 1 rfl) ?_
          refine lv_iconst (v := 0) hx hb d7_item_259 (by decide) ?_
          refine lv_aload_n hx hb d7_item_260 rfl (lv_at hl 1 rfl) ?_
          refine g7_70 S hK hR d7_item_261 ?_
          refine lv_iconst (v := 0) hx hb d7_item_264 (by decide) ?_
          refine q_ld (k := 0) S hK hR (by decide) (eM_125 w _) (vin (by decide)) (by decide) d7_item_265 ?_
          refine lv_iconst (v := 1) hx hb d7_item_266 (by decide) ?_
          refine lv_bipush (v := 9) hx hb d7_item_267 (by decide) ?_
          obtain ⟨σ8, r8, hr8, h0⟩ := og_o h0
          refine k7_138 S hK hR hS  hr8 ⟨Nat.zero_le _, Nat.zero_le _⟩ ⟨Nat.le_of_ble_eq_true rfl, Nat.le_of_ble_eq_true rfl⟩ hl.1 (Nat.le_of_ble_eq_true rfl) d7_item_269 (fun H locs hR hS => ?_)
          refine lv_if_eq (tgt := 279) hx hb d7_item_272 (by decide) (fun hc9 => ?_) (fun hc9 => ?_)
          · have h0 := og_t hc9 h0
            refine lv_iconst (v := 0) hx hb d7_item_279 (by decide) ?_
            exact q_zret S hr hlk hR hS (Or.inl rfl) h0 d7_item_280
          · have h0 := og_f hc9 h0
            refine lv_iconst (v := 1) hx hb d7_item_275 (by decide) ?_
            refine lv_goto (tgt := 280) hx hb d7_item_276 (by decide) ?_
            exact q_zret S hr hlk hR hS (Or.inr rfl) h0 d7_item_280
      · have h0 := og_f hc5 h0
        by_cases hc6 : r1 = 107
        · have h0 := og_t hc6 h0
          refine q_tabI (off := 392) (tgt := 412) S d7_item_20 hc6 (by decide) (by decide) (by decide) (by decide) ?_
          refine lv_aload_n hx hb d7_item_412 rfl (lv_at hl 1 rfl) ?_
          obtain ⟨σ7, r7, hr7, h0⟩ := og_o h0
          refine k7_142 S hK hR hS  hr7 ⟨Nat.zero_le _, Nat.zero_le _⟩ ⟨Nat.le_of_ble_eq_true rfl, Nat.le_of_ble_eq_true rfl⟩ hl.1 (Nat.le_of_ble_eq_true rfl) d7_item_413 (fun H locs hR hS => ?_)
          obtain ⟨hb0, h0⟩ := og_if h0
          exact q_zret S hr hlk hR hS hb0 h0 d7_item_416
        · have h0 := og_f hc6 h0
          by_cases hc7 : r1 = 111
          · have h0 := og_t hc7 h0
            refine q_tabI (off := 397) (tgt := 417) S d7_item_20 hc7 (by decide) (by decide) (by decide) (by decide) ?_
            refine lv_aload_n hx hb d7_item_417 rfl (lv_at hl 1 rfl) ?_
            obtain ⟨σ8, r8, hr8, h0⟩ := og_o h0
            refine k7_146 S hK hR hS  hr8 ⟨Nat.zero_le _, Nat.zero_le _⟩ ⟨Nat.le_of_ble_eq_true rfl, Nat.le_of_ble_eq_true rfl⟩ hl.1 (Nat.le_of_ble_eq_true rfl) d7_item_418 (fun H locs hR hS => ?_)
            obtain ⟨hb0, h0⟩ := og_if h0
            exact q_zret S hr hlk hR hS hb0 h0 d7_item_421
          · have h0 := og_f hc7 h0
            by_cases hc8 : r1 = 116
            · have h0 := og_t hc8 h0
              refine q_tabI (off := 108) (tgt := 128) S d7_item_20 hc8 (by decide) (by decide) (by decide) (by decide) ?_
              refine lv_aload_n hx hb d7_item_128 rfl (lv_at hl 1 rfl) ?_
              refine lv_iconst (v := 2) hx hb d7_item_129 (by decide) ?_
              obtain ⟨σ9, r9, hr9, h0⟩ := og_o h0
              refine k7_134 S hK hR hS  hr9 ⟨Nat.zero_le _, Nat.zero_le _⟩ ⟨Nat.le_of_ble_eq_true rfl, Nat.le_of_ble_eq_true rfl⟩ hl.1 (Nat.le_of_ble_eq_true rfl) d7_item_130 (fun H locs hR hS => ?_)
              refine lv_if_eq (tgt := 168) hx hb d7_item_133 (by decide) (fun hc10 => ?_) (fun hc10 => ?_)
              · have h0 := og_t hc10 h0
                refine lv_iconst (v := 0) hx hb d7_item_168 (by decide) ?_
                exact q_zret S hr hlk hR hS (Or.inl rfl) h0 d7_item_169
              · have h0 := og_f hc10 h0
                refine lv_aload_n hx hb d7_item_136 rfl (lv_at hl 1 rfl) ?_
                refine g7_13 S hK hR d7_item_137 ?_
                refine lv_iconst (v := 1) hx hb d7_item_140 (by decide) ?_
                refine q_ld (k := 1) S hK hR (by decide) (eM_102 w _) (vin (by decide)) (by decide) d7_item_141 ?_
                refine lv_bipush (v := 6) hx hb d7_item_142 (by decide) ?_
                refine lv_icmp_eq (tgt := 168) hx hb d7_item_144 (by decide) (fun hc11 => ?_) (fun hc11 => ?_)
                · have h0 := og_t hc11 h0
                  refine lv_iconst (v := 0) hx hb d7_item_168 (by decide) ?_
                  exact q_zret S hr hlk hR hS (Or.inl rfl) h0 d7_item_169
                · have h0 := og_f hc11 h0
                  refine lv_aload_n hx hb d7_item_147 rfl (lv_at hl 1 rfl) ?_
                  refine g7_70 S hK hR d7_item_148 ?_
                  refine lv_iconst (v := 0) hx hb d7_item_151 (by decide) ?_
                  refine q_ld (k := 0) S hK hR (by decide) (eM_125 w _) (vin (by decide)) (by decide) d7_item_152 ?_
                  refine lv_bipush (v := 59) hx hb d7_item_153 (by decide) ?_
                  refine lv_icmp_gt (tgt := 168) hx hb d7_item_155 (by decide) (fun hc12 => ?_) (fun hc12 => ?_)
                  · have h0 := og_t hc12 h0
                    refine lv_iconst (v := 0) hx hb d7_item_168 (by decide) ?_
                    exact q_zret S hr hlk hR hS (Or.inl rfl) h0 d7_item_169
                  · have h0 := og_f hc12 h0
                    refine lv_aload_n hx hb d7_item_158 rfl (lv_at hl 1 rfl) ?_
                    refine g7_70 S hK hR d7_item_159 ?_
                    refine lv_iconst (v := 1) hx hb d7_item_162 (by decide) ?_
                    refine q_ld (k := 1) S hK hR (by decide) (eM_125 w _) (vin (by decide)) (by decide) d7_item_163 ?_
                    refine lv_iconst (v := 2) hx hb d7_item_164 (by decide) ?_
                    refine lv_icmp_le (tgt := 170) hx hb d7_item_165 (by decide) (fun hc13 => ?_) (fun hc13 => ?_)
                    · have h0 := og_t hc13 h0
                      refine lv_aload_n hx hb d7_item_170 rfl (lv_at hl 1 rfl) ?_
                      refine lv_iconst (v := 1) hx hb d7_item_171 (by decide) ?_
                      refine lv_aload_n hx hb d7_item_172 rfl (lv_at hl 1 rfl) ?_
                      refine g7_70 S hK hR d7_item_173 ?_
                      refine lv_iconst (v := 0) hx hb d7_item_176 (by decide) ?_
                      refine q_ld (k := 0) S hK hR (by decide) (eM_125 w _) (vin (by decide)) (by decide) d7_item_177 ?_
                      refine lv_aload_n hx hb d7_item_178 rfl (lv_at hl 1 rfl) ?_
                      refine g7_70 S hK hR d7_item_179 ?_
                      refine lv_iconst (v := 1) hx hb d7_item_182 (by decide) ?_
                      refine q_ld (k := 1) S hK hR (by decide) (eM_125 w _) (vin (by decide)) (by decide) d7_item_183 ?_
                      obtain ⟨σ14, hr14, h0⟩ := og_b h0
                      refine k7_99 S hK hR hS  hr14 ⟨Nat.zero_le _, Nat.zero_le _⟩ ⟨Nat.le_of_ble_eq_true rfl, Nat.le_of_ble_eq_true rfl⟩ hl.1 (Nat.le_of_ble_eq_true rfl) d7_item_184 (fun H locs hR hS => ?_)
                      refine lv_iconst (v := 1) hx hb d7_item_187 (by decide) ?_
                      exact q_zret S hr hlk hR hS (Or.inr rfl) h0 d7_item_188
                    · have h0 := og_f hc13 h0
                      refine lv_iconst (v := 0) hx hb d7_item_168 (by decide) ?_
                      exact q_zret S hr hlk hR hS (Or.inl rfl) h0 d7_item_169
            · have h0 := og_f hc8 h0
              by_cases hc9 : r1 = 117
              · have h0 := og_t hc9 h0
                refine q_tabI (off := 169) (tgt := 189) S d7_item_20 hc9 (by decide) (by decide) (by decide) (by decide) ?_
                refine lv_aload_n hx hb d7_item_189 rfl (lv_at hl 1 rfl) ?_
                refine lv_iconst (v := 2) hx hb d7_item_190 (by decide) ?_
                obtain ⟨σ10, r10, hr10, h0⟩ := og_o h0
                refine k7_134 S hK hR hS  hr10 ⟨Nat.zero_le _, Nat.zero_le _⟩ ⟨Nat.le_of_ble_eq_true rfl, Nat.le_of_ble_eq_true rfl⟩ hl.1 (Nat.le_of_ble_eq_true rfl) d7_item_191 (fun H locs hR hS => ?_)
                refine lv_if_eq (tgt := 229) hx hb d7_item_194 (by decide) (fun hc11 => ?_) (fun hc11 => ?_)
                · have h0 := og_t hc11 h0
                  refine lv_iconst (v := 0) hx hb d7_item_229 (by decide) ?_
                  exact q_zret S hr hlk hR hS (Or.inl rfl) h0 d7_item_230
                · have h0 := og_f hc11 h0
                  refine lv_aload_n hx hb d7_item_197 rfl (lv_at hl 1 rfl) ?_
                  refine g7_22 S hK hR d7_item_198 ?_
                  refine lv_iconst (v := 1) hx hb d7_item_201 (by decide) ?_
                  refine q_ld (k := 1) S hK hR (by decide) (eM_105 w _) (vin (by decide)) (by decide) d7_item_202 ?_
                  refine lv_bipush (v := 8) hx hb d7_item_203 (by decide) ?_
                  refine lv_icmp_eq (tgt := 229) hx hb d7_item_205 (by decide) (fun hc12 => ?_) (fun hc12 => ?_)
                  · have h0 := og_t hc12 h0
                    refine lv_iconst (v := 0) hx hb d7_item_229 (by decide) ?_
                    exact q_zret S hr hlk hR hS (Or.inl rfl) h0 d7_item_230
                  · have h0 := og_f hc12 h0
                    refine lv_aload_n hx hb d7_item_208 rfl (lv_at hl 1 rfl) ?_
                    refine g7_70 S hK hR d7_item_209 ?_
                    refine lv_iconst (v := 0) hx hb d7_item_212 (by decide) ?_
                    refine q_ld (k := 0) S hK hR (by decide) (eM_125 w _) (vin (by decide)) (by decide) d7_item_213 ?_
                    refine lv_bipush (v := 59) hx hb d7_item_214 (by decide) ?_
                    refine lv_icmp_gt (tgt := 229) hx hb d7_item_216 (by decide) (fun hc13 => ?_) (fun hc13 => ?_)
                    · have h0 := og_t hc13 h0
                      refine lv_iconst (v := 0) hx hb d7_item_229 (by decide) ?_
                      exact q_zret S hr hlk hR hS (Or.inl rfl) h0 d7_item_230
                    · have h0 := og_f hc13 h0
                      refine lv_aload_n hx hb d7_item_219 rfl (lv_at hl 1 rfl) ?_
                      refine g7_70 S hK hR d7_item_220 ?_
                      refine lv_iconst (v := 1) hx hb d7_item_223 (by decide) ?_
                      refine q_ld (k := 1) S hK hR (by decide) (eM_125 w _) (vin (by decide)) (by decide) d7_item_224 ?_
                      refine lv_iconst (v := 3) hx hb d7_item_225 (by decide) ?_
                      refine lv_icmp_le (tgt := 231) hx hb d7_item_226 (by decide) (fun hc14 => ?_) (fun hc14 => ?_)
                      · have h0 := og_t hc14 h0
                        refine lv_aload_n hx hb d7_item_231 rfl (lv_at hl 1 rfl) ?_
                        refine lv_iconst (v := 1) hx hb d7_item_232 (by decide) ?_
                        refine lv_aload_n hx hb d7_item_233 rfl (lv_at hl 1 rfl) ?_
                        refine g7_70 S hK hR d7_item_234 ?_
                        refine lv_iconst (v := 0) hx hb d7_item_237 (by decide) ?_
                        refine q_ld (k := 0) S hK hR (by decide) (eM_125 w _) (vin (by decide)) (by decide) d7_item_238 ?_
                        refine lv_aload_n hx hb d7_item_239 rfl (lv_at hl 1 rfl) ?_
                        refine g7_70 S hK hR d7_item_240 ?_
                        refine lv_iconst (v := 1) hx hb d7_item_243 (by decide) ?_
                        refine q_ld (k := 1) S hK hR (by decide) (eM_125 w _) (vin (by decide)) (by decide) d7_item_244 ?_
                        obtain ⟨σ15, hr15, h0⟩ := og_b h0
                        refine k7_103 S hK hR hS  hr15 ⟨Nat.zero_le _, Nat.zero_le _⟩ ⟨Nat.le_of_ble_eq_true rfl, Nat.le_of_ble_eq_true rfl⟩ hl.1 (Nat.le_of_ble_eq_true rfl) d7_item_245 (fun H locs hR hS => ?_)
                        refine lv_iconst (v := 1) hx hb d7_item_248 (by decide) ?_
                        exact q_zret S hr hlk hR hS (Or.inr rfl) h0 d7_item_249
                      · have h0 := og_f hc14 h0
                        refine lv_iconst (v := 0) hx hb d7_item_229 (by decide) ?_
                        exact q_zret S hr hlk hR hS (Or.inl rfl) h0 d7_item_230
              · have h0 := og_f hc9 h0
                by_cases hc10 : r1 = 119
                · have h0 := og_t hc10 h0
                  refine q_tabI (off := 292) (tgt := 312) S d7_item_20 hc10 (by decide) (by decide) (by decide) (by decide) ?_
                  refine lv_aload_n hx hb d7_item_312 rfl (lv_at hl 1 rfl) ?_
                  refine lv_iconst (v := 2) hx hb d7_item_313 (by decide) ?_
                  obtain ⟨σ11, r11, hr11, h0⟩ := og_o h0
                  refine k7_134 S hK hR hS  hr11 ⟨Nat.zero_le _, Nat.zero_le _⟩ ⟨Nat.le_of_ble_eq_true rfl, Nat.le_of_ble_eq_true rfl⟩ hl.1 (Nat.le_of_ble_eq_true rfl) d7_item_314 (fun H locs hR hS => ?_)
                  refine lv_if_eq (tgt := 341) hx hb d7_item_317 (by decide) (fun hc12 => ?_) (fun hc12 => ?_)
                  · have h0 := og_t hc12 h0
                    refine lv_iconst (v := 0) hx hb d7_item_341 (by decide) ?_
                    exact q_zret S hr hlk hR hS (Or.inl rfl) h0 d7_item_342
                  · have h0 := og_f hc12 h0
                    refine lv_aload_n hx hb d7_item_320 rfl (lv_at hl 1 rfl) ?_
                    refine g7_70 S hK hR d7_item_321 ?_
                    refine lv_iconst (v := 0) hx hb d7_item_324 (by decide) ?_
                    refine q_ld (k := 0) S hK hR (by decide) (eM_125 w _) (vin (by decide)) (by decide) d7_item_325 ?_
                    refine lv_iconst (v := 3) hx hb d7_item_326 (by decide) ?_
                    refine lv_icmp_gt (tgt := 341) hx hb d7_item_327 (by decide) (fun hc13 => ?_) (fun hc13 => ?_)
                    · have h0 := og_t hc13 h0
                      refine lv_iconst (v := 0) hx hb d7_item_341 (by decide) ?_
                      exact q_zret S hr hlk hR hS (Or.inl rfl) h0 d7_item_342
                    · have h0 := og_f hc13 h0
                      refine lv_aload_n hx hb d7_item_330 rfl (lv_at hl 1 rfl) ?_
                      refine g7_70 S hK hR d7_item_331 ?_
                      refine lv_iconst (v := 1) hx hb d7_item_334 (by decide) ?_
                      refine q_ld (k := 1) S hK hR (by decide) (eM_125 w _) (vin (by decide)) (by decide) d7_item_335 ?_
                      refine lv_bipush (v := 9) hx hb d7_item_336 (by decide) ?_
                      refine lv_icmp_le (tgt := 343) hx hb d7_item_338 (by decide) (fun hc14 => ?_) (fun hc14 => ?_)
                      · have h0 := og_t hc14 h0
                        refine lv_aload_n hx hb d7_item_343 rfl (lv_at hl 1 rfl) ?_
                        refine g7_34 S hK hR d7_item_344 ?_
                        refine lv_iconst (v := 4) hx hb d7_item_347 (by decide) ?_
                        refine lv_aload_n hx hb d7_item_348 rfl (lv_at hl 1 rfl) ?_
                        refine g7_70 S hK hR d7_item_349 ?_
                        refine lv_iconst (v := 0) hx hb d7_item_352 (by decide) ?_
                        refine q_ld (k := 0) S hK hR (by decide) (eM_125 w _) (vin (by decide)) (by decide) d7_item_353 ?_
                        refine lv_iadd hx hb d7_item_354 ?_
                        refine lv_aload_n hx hb d7_item_355 rfl (lv_at hl 1 rfl) ?_
                        refine g7_70 S hK hR d7_item_356 ?_
                        refine lv_iconst (v := 1) hx hb d7_item_359 (by decide) ?_
                        refine q_ld (k := 1) S hK hR (by decide) (eM_125 w _) (vin (by decide)) (by decide) d7_item_360 ?_
                        obtain ⟨hi15, h0⟩ := og_if h0
                        obtain ⟨σ16, hm16, h0⟩ := og_m h0
                        refine q_st S hK hR hS (by decide) (eM_109 w) hi15 rfl hm16 d7_item_361 (fun H locs hR hS => ?_)
                        refine lv_iconst (v := 1) hx hb d7_item_362 (by decide) ?_
                        exact q_zret S hr hlk hR hS (Or.inr rfl) h0 d7_item_363
                      · have h0 := og_f hc14 h0
                        refine lv_iconst (v := 0) hx hb d7_item_341 (by decide) ?_
                        exact q_zret S hr hlk hR hS (Or.inl rfl) h0 d7_item_342
                · have h0 := og_f hc10 h0
                  refine q_tabD (tgt := 422) S d7_item_20 [97, 99, 103, 107, 111, 116, 117, 119] (by decide) (by decide) (List.forall_mem_cons.mpr ⟨ne_toInt hc3 (by decide), List.forall_mem_cons.mpr ⟨ne_toInt hc4 (by decide), List.forall_mem_cons.mpr ⟨ne_toInt hc5 (by decide), List.forall_mem_cons.mpr ⟨ne_toInt hc6 (by decide), List.forall_mem_cons.mpr ⟨ne_toInt hc7 (by decide), List.forall_mem_cons.mpr ⟨ne_toInt hc8 (by decide), List.forall_mem_cons.mpr ⟨ne_toInt hc9 (by decide), List.forall_mem_cons.mpr ⟨ne_toInt hc10 (by decide), fun _ hq => absurd hq List.not_mem_nil⟩⟩⟩⟩⟩⟩⟩⟩) (by decide) ?_
                  refine lv_iconst (v := 0) hx hb d7_item_422 (by decide) ?_
                  exact q_zret S hr hlk hR hS (Or.inl rfl) h0 d7_item_423
set_option maxHeartbeats 4000000 in
set_option maxRecDepth 100000 in
theorem k7_149 {p : Program} {l : Launch} {e : Env} {R : Room} {s : State} {m : MethodId} {args : Array Value} {below : List Frame} {meth : Method} {c : Code} {H : Heap} {locs : List Loc} {cells slots : Nat} {Q : State → Prop} {cc : ByteArray} {pc nL : Nat} {ls : Array Slot} {rest : List Value} {w : WV} {σ : Mem} {σ1 : Mem} {r : Int32} (S : CallFix p m c cc nL s args gtbl RX7) (hK : KS LM w s) (hR : Rp EM LM w σ H) (hS : va_S (AW LM w) s.heap H locs) (h0 : f7_item σ = some (σ1, r)) (hf : cells + 0 ≤ R.cells ∧ slots + 0 ≤ R.slots) (hRm : rm7_item.frames + 1 ≤ R.frames ∧ 8 + (2 + 11) + rm7_item.locals ≤ R.locals) (hl : ls.size = nL) (hW : (rest.map fun v => v.category).sum ≤ 8) (hdg : decode cc pc = .ok (.invokevirtual 149, 3)) (kk : ∀ (H1 : Heap) (locs1 : List Loc), Rp EM LM w σ1 H1 → va_S (AW LM w) s.heap H1 locs1 → W p l e R s m args below meth c H1 locs1 cells slots Q (F0 m (pc + 3) ls (.int r :: rest))) : W p l e R s m args below meth c H locs cells slots Q (F0 m pc ls (.ref (w.2.2 0) :: rest)) := r_end hS (run_V (n := 0) (As := []) S hK hR (by decide) (eM_7 w _) rfl (gw_V (gt_at 1043 (by decide +kernel) (by decide +kernel)) (gt_at 1045 (by decide +kernel) (by decide +kernel)) (gt_at 43 (by decide +kernel) (by decide +kernel)) (gt_at 86 (by decide +kernel) (by decide +kernel)) (gt_at 1046 (by decide +kernel) (by decide +kernel))) (by decide +kernel) rfl (c7_item l h0) ⟨rfl, rfl⟩ hRm hf hl rfl hW hdg) kk
/-! FourTenGatesModel.readAll()I -/
abbrev rm7_readAll : Room := { frames := 4, cells := 0, slots := 0, locals := 90 }
theorem d7_readAll_0 : decode cX7_readAll 0 = .ok (.aload_n 0, 1) := by decide +kernel
theorem d7_readAll_1 : decode cX7_readAll 1 = .ok (.iconst 1, 1) := by decide +kernel
theorem d7_readAll_2 : decode cX7_readAll 2 = .ok (.invokevirtual 95, 3) := by decide +kernel
theorem d7_readAll_5 : decode cX7_readAll 5 = .ok (.aload_n 0, 1) := by decide +kernel
theorem d7_readAll_6 : decode cX7_readAll 6 = .ok (.iconst 0, 1) := by decide +kernel
theorem d7_readAll_7 : decode cX7_readAll 7 = .ok (.putfield 121, 3) := by decide +kernel
theorem d7_readAll_10 : decode cX7_readAll 10 = .ok (.aload_n 0, 1) := by decide +kernel
theorem d7_readAll_11 : decode cX7_readAll 11 = .ok (.getfield 121, 3) := by decide +kernel
theorem d7_readAll_14 : decode cX7_readAll 14 = .ok (.aload_n 0, 1) := by decide +kernel
theorem d7_readAll_15 : decode cX7_readAll 15 = .ok (.getfield 117, 3) := by decide +kernel
theorem d7_readAll_18 : decode cX7_readAll 18 = .ok (.if_icmp .ge 20, 3) := by decide +kernel
theorem d7_readAll_21 : decode cX7_readAll 21 = .ok (.aload_n 0, 1) := by decide +kernel
theorem d7_readAll_22 : decode cX7_readAll 22 = .ok (.getfield 121, 3) := by decide +kernel
theorem d7_readAll_25 : decode cX7_readAll 25 = .ok (.istore_n 1, 1) := by decide +kernel
theorem d7_readAll_26 : decode cX7_readAll 26 = .ok (.aload_n 0, 1) := by decide +kernel
theorem d7_readAll_27 : decode cX7_readAll 27 = .ok (.invokevirtual 149, 3) := by decide +kernel
theorem d7_readAll_30 : decode cX7_readAll 30 = .ok (.ifCond .ne 5, 3) := by decide +kernel
theorem d7_readAll_33 : decode cX7_readAll 33 = .ok (.iload_n 1, 1) := by decide +kernel
theorem d7_readAll_34 : decode cX7_readAll 34 = .ok (.ireturn, 1) := by decide +kernel
theorem d7_readAll_35 : decode cX7_readAll 35 = .ok (.goto (-25), 3) := by decide +kernel
theorem d7_readAll_38 : decode cX7_readAll 38 = .ok (.bipush (-4), 2) := by decide +kernel
theorem d7_readAll_40 : decode cX7_readAll 40 = .ok (.ireturn, 1) := by decide +kernel
def f7_readAll_b10 : Nat → Mem → Option (Mem × Int32)
  | 0, _ => none
  | n + 1, σ => if (σ 0 0) ≤ (σ 0 24) then some (σ, (-4)) else ob (f7_item σ) fun σ2 r2 => if r2 = 0 then some (σ2, σ 0 24) else f7_readAll_b10 n σ2
set_option maxHeartbeats 4000000 in
set_option maxRecDepth 100000 in
theorem t7_readAll_b10 {p : Program} {l : Launch} {e : Env} {s : State} {m : MethodId} {args : Array Value} {below : List Frame} {meth : Method} {c : Code} {w : WV} {σ' : Mem} {r : Int32} (S : CallFix p m c cX7_readAll 2 s args gtbl RX7) (hr : meth.sig.returnType = (some .int)) (hlk : meth.locks = false) (hK : KS LM w s) : ∀ (n : Nat), ∀ (σ : Mem), f7_readAll_b10  n σ = some (σ', r) → ∀ (H : Heap) (locs : List Loc), Rp EM LM w σ H → va_S (AW LM w) s.heap H locs → ∀ (ls : Array Slot), lv_has ls 2 [(0, .ref (w.2.2 0))] → W p l e rm7_readAll s m args below meth c H locs 0 0 (MQ below (Qw EM LM w σ' (some (.int r))) args s 0 0 (AW LM w)) (F0 m 10 ls []) := by
  obtain ⟨hx, hb, hml, hown, hts⟩ := id S
  intro n
  induction n with
  | zero =>
    intro σ h0
    cases (show none = _ from h0)
  | succ n ih =>
    intro σ h0 H locs hR hS ls hl
    rw [f7_readAll_b10] at h0
    refine lv_aload_n hx hb d7_readAll_10 rfl (lv_at hl 0 rfl) ?_
    refine g7_121 S hK hR d7_readAll_11 ?_
    refine lv_aload_n hx hb d7_readAll_14 rfl (lv_at hl 0 rfl) ?_
    refine g7_117 S hK hR d7_readAll_15 ?_
    refine lv_icmp_ge (tgt := 38) hx hb d7_readAll_18 (by decide) (fun hc1 => ?_) (fun hc1 => ?_)
    · have h0 := og_t hc1 h0
      refine lv_bipush (v := (-4)) hx hb d7_readAll_38 (by decide) ?_
      exact q_iret S hr hlk hR hS h0 d7_readAll_40
    · have h0 := og_f hc1 h0
      refine lv_aload_n hx hb d7_readAll_21 rfl (lv_at hl 0 rfl) ?_
      refine g7_121 S hK hR d7_readAll_22 ?_
      refine lv_istore_n (lv' := [(1, .int (σ 0 24)), (0, .ref (w.2.2 0))]) hx hb d7_readAll_25 rfl hl (by decide) rfl (fun ls hl => ?_)
      refine lv_aload_n hx hb d7_readAll_26 rfl (lv_at hl 1 rfl) ?_
      obtain ⟨σ2, r2, hr2, h0⟩ := og_o h0
      refine k7_149 S hK hR hS  hr2 ⟨Nat.zero_le _, Nat.zero_le _⟩ ⟨Nat.le_of_ble_eq_true rfl, Nat.le_of_ble_eq_true rfl⟩ hl.1 (Nat.le_of_ble_eq_true rfl) d7_readAll_27 (fun H locs hR hS => ?_)
      refine lv_if_ne (tgt := 35) hx hb d7_readAll_30 (by decide) (fun hc3 => ?_) (fun hc3 => ?_)
      · have h0 := og_f hc3 h0
        refine lv_goto (tgt := 10) hx hb d7_readAll_35 (by decide) ?_
        exact ih σ2 h0 _ _ hR hS _ (lv_sub hl [1] rfl)
      · have h0 := og_t hc3 h0
        refine lv_iload_n hx hb d7_readAll_33 rfl (lv_at hl 0 rfl) ?_
        exact q_iret S hr hlk hR hS h0 d7_readAll_34
def f7_readAll (σ : Mem) : Option (Mem × Int32) := Option.bind (f7_noHour σ 1) fun σ1 => bm (mu σ1 0 24 0) fun σ2 => f7_readAll_b10 1000 σ2
set_option maxHeartbeats 4000000 in
set_option maxRecDepth 100000 in
theorem c7_readAll (l : Launch) {w : WV} {σ : Mem} {σ' : Mem} {r : Int32} (h0 : f7_readAll σ = some (σ', r)) : Met l yX7_readAll (wy yX7_readAll cX7_readAll 2 (some .int)) rm7_readAll (Pw EM LM w [.ref (w.2.2 0)] σ) (Qw EM LM w σ' (some (.int r))) 0 0 (AW LM w) := by
  refine mk_met (by decide) (Nat.le_of_ble_eq_true rfl) ?_
  intro p e s m below meth c S hr hlk hK hR ls hl
  obtain ⟨hx, hb, hml, hown, hts⟩ := id S
  have hl : lv_has ls 2 [(0, .ref (w.2.2 0))] := hl
  have hS : va_S (AW LM w) s.heap s.heap [] := va_S.rf
  unfold f7_readAll at h0
  refine lv_aload_n hx hb d7_readAll_0 rfl (lv_at hl 0 rfl) ?_
  refine lv_iconst (v := 1) hx hb d7_readAll_1 (by decide) ?_
  obtain ⟨σ1, hr1, h0⟩ := og_b h0
  refine k7_95 S hK hR hS  hr1 ⟨Nat.zero_le _, Nat.zero_le _⟩ ⟨Nat.le_of_ble_eq_true rfl, Nat.le_of_ble_eq_true rfl⟩ hl.1 (Nat.le_of_ble_eq_true rfl) d7_readAll_2 (fun H locs hR hS => ?_)
  refine lv_aload_n hx hb d7_readAll_5 rfl (lv_at hl 0 rfl) ?_
  refine lv_iconst (v := 0) hx hb d7_readAll_6 (by decide) ?_
  obtain ⟨σ2, hm2, h0⟩ := og_m h0
  refine u7_121 S hK hR hS hm2 d7_readAll_7 (fun H locs hR hS => ?_)
  exact t7_readAll_b10 S hr hlk hK 1000 σ2 h0 _ _ hR hS _ (lv_sub hl [0] rfl)
set_option maxHeartbeats 4000000 in
set_option maxRecDepth 100000 in
theorem k7_152 {p : Program} {l : Launch} {e : Env} {R : Room} {s : State} {m : MethodId} {args : Array Value} {below : List Frame} {meth : Method} {c : Code} {H : Heap} {locs : List Loc} {cells slots : Nat} {Q : State → Prop} {cc : ByteArray} {pc nL : Nat} {ls : Array Slot} {rest : List Value} {w : WV} {σ : Mem} {σ1 : Mem} {r : Int32} (S : CallFix p m c cc nL s args gtbl RX7) (hK : KS LM w s) (hR : Rp EM LM w σ H) (hS : va_S (AW LM w) s.heap H locs) (h0 : f7_readAll σ = some (σ1, r)) (hf : cells + 0 ≤ R.cells ∧ slots + 0 ≤ R.slots) (hRm : rm7_readAll.frames + 1 ≤ R.frames ∧ 8 + (2 + 11) + rm7_readAll.locals ≤ R.locals) (hl : ls.size = nL) (hW : (rest.map fun v => v.category).sum ≤ 8) (hdg : decode cc pc = .ok (.invokevirtual 152, 3)) (kk : ∀ (H1 : Heap) (locs1 : List Loc), Rp EM LM w σ1 H1 → va_S (AW LM w) s.heap H1 locs1 → W p l e R s m args below meth c H1 locs1 cells slots Q (F0 m (pc + 3) ls (.int r :: rest))) : W p l e R s m args below meth c H locs cells slots Q (F0 m pc ls (.ref (w.2.2 0) :: rest)) := r_end hS (run_V (n := 0) (As := []) S hK hR (by decide) (eM_7 w _) rfl (gw_V (gt_at 1039 (by decide +kernel) (by decide +kernel)) (gt_at 1041 (by decide +kernel) (by decide +kernel)) (gt_at 42 (by decide +kernel) (by decide +kernel)) (gt_at 86 (by decide +kernel) (by decide +kernel)) (gt_at 1042 (by decide +kernel) (by decide +kernel))) (by decide +kernel) rfl (c7_readAll l h0) ⟨rfl, rfl⟩ hRm hf hl rfl hW hdg) kk
/-! FourTenGatesModel.fault()I -/
abbrev rm7_fault : Room := { frames := 5, cells := 0, slots := 0, locals := 111 }
theorem d7_fault_0 : decode cX7_fault 0 = .ok (.aload_n 0, 1) := by decide +kernel
theorem d7_fault_1 : decode cX7_fault 1 = .ok (.invokevirtual 152, 3) := by decide +kernel
theorem d7_fault_4 : decode cX7_fault 4 = .ok (.ireturn, 1) := by decide +kernel
def f7_fault (σ : Mem) : Option (Mem × Int32) := ob (f7_readAll σ) fun σ1 r1 => some (σ1, r1)
set_option maxHeartbeats 4000000 in
set_option maxRecDepth 100000 in
theorem c7_fault (l : Launch) {w : WV} {σ : Mem} {σ' : Mem} {r : Int32} (h0 : f7_fault σ = some (σ', r)) : Met l yX7_fault (wy yX7_fault cX7_fault 1 (some .int)) rm7_fault (Pw EM LM w [.ref (w.2.2 0)] σ) (Qw EM LM w σ' (some (.int r))) 0 0 (AW LM w) := by
  refine mk_met (by decide) (Nat.le_of_ble_eq_true rfl) ?_
  intro p e s m below meth c S hr hlk hK hR ls hl
  obtain ⟨hx, hb, hml, hown, hts⟩ := id S
  have hl : lv_has ls 1 [(0, .ref (w.2.2 0))] := hl
  have hS : va_S (AW LM w) s.heap s.heap [] := va_S.rf
  unfold f7_fault at h0
  refine lv_aload_n hx hb d7_fault_0 rfl (lv_at hl 0 rfl) ?_
  obtain ⟨σ1, r1, hr1, h0⟩ := og_o h0
  refine k7_152 S hK hR hS  hr1 ⟨Nat.zero_le _, Nat.zero_le _⟩ ⟨Nat.le_of_ble_eq_true rfl, Nat.le_of_ble_eq_true rfl⟩ hl.1 (Nat.le_of_ble_eq_true rfl) d7_fault_1 (fun H locs hR hS => ?_)
  exact q_iret S hr hlk hR hS h0 d7_fault_4
/-! FourTenGatesModel.allOdds(I)I -/
abbrev rm7_allOdds : Room := { frames := 0, cells := 0, slots := 0, locals := 0 }
theorem d7_allOdds_0 : decode cX7_allOdds 0 = .ok (.iconst 0, 1) := by decide +kernel
theorem d7_allOdds_1 : decode cX7_allOdds 1 = .ok (.istore_n 2, 1) := by decide +kernel
theorem d7_allOdds_2 : decode cX7_allOdds 2 = .ok (.iconst 0, 1) := by decide +kernel
theorem d7_allOdds_3 : decode cX7_allOdds 3 = .ok (.istore_n 3, 1) := by decide +kernel
theorem d7_allOdds_4 : decode cX7_allOdds 4 = .ok (.iload_n 3, 1) := by decide +kernel
theorem d7_allOdds_5 : decode cX7_allOdds 5 = .ok (.aload_n 0, 1) := by decide +kernel
theorem d7_allOdds_6 : decode cX7_allOdds 6 = .ok (.getfield 46, 3) := by decide +kernel
theorem d7_allOdds_9 : decode cX7_allOdds 9 = .ok (.iload_n 1, 1) := by decide +kernel
theorem d7_allOdds_10 : decode cX7_allOdds 10 = .ok (.iaload, 1) := by decide +kernel
theorem d7_allOdds_11 : decode cX7_allOdds 11 = .ok (.if_icmp .ge 22, 3) := by decide +kernel
theorem d7_allOdds_14 : decode cX7_allOdds 14 = .ok (.iload_n 2, 1) := by decide +kernel
theorem d7_allOdds_15 : decode cX7_allOdds 15 = .ok (.aload_n 0, 1) := by decide +kernel
theorem d7_allOdds_16 : decode cX7_allOdds 16 = .ok (.getfield 52, 3) := by decide +kernel
theorem d7_allOdds_19 : decode cX7_allOdds 19 = .ok (.iconst 5, 1) := by decide +kernel
theorem d7_allOdds_20 : decode cX7_allOdds 20 = .ok (.iload_n 1, 1) := by decide +kernel
theorem d7_allOdds_21 : decode cX7_allOdds 21 = .ok (.imul, 1) := by decide +kernel
theorem d7_allOdds_22 : decode cX7_allOdds 22 = .ok (.iload_n 3, 1) := by decide +kernel
theorem d7_allOdds_23 : decode cX7_allOdds 23 = .ok (.iadd, 1) := by decide +kernel
theorem d7_allOdds_24 : decode cX7_allOdds 24 = .ok (.iaload, 1) := by decide +kernel
theorem d7_allOdds_25 : decode cX7_allOdds 25 = .ok (.iadd, 1) := by decide +kernel
theorem d7_allOdds_26 : decode cX7_allOdds 26 = .ok (.istore_n 2, 1) := by decide +kernel
theorem d7_allOdds_27 : decode cX7_allOdds 27 = .ok (.iinc 3 1, 3) := by decide +kernel
theorem d7_allOdds_30 : decode cX7_allOdds 30 = .ok (.goto (-26), 3) := by decide +kernel
theorem d7_allOdds_33 : decode cX7_allOdds 33 = .ok (.iload_n 2, 1) := by decide +kernel
theorem d7_allOdds_34 : decode cX7_allOdds 34 = .ok (.ireturn, 1) := by decide +kernel
def f7_allOdds_b4 (σ : Mem) : Nat → Int32 → Int32 → Int32 → Option Int32
  | 0, _, _, _ => none
  | n + 1, x1, x2, x3 => if ¬ (x1 < 0 ∨ 2 ≤ x1.toNatClampNeg) then if (σ 14 x1.toNatClampNeg) ≤ x3 then some x2 else if ¬ ((5 * x1) + x3 < 0 ∨ 10 ≤ ((5 * x1) + x3).toNatClampNeg) then f7_allOdds_b4 σ n x1 (x2 + (σ 16 (((5 * x1) + x3).toNatClampNeg))) (x3 + 1) else none else none
set_option maxHeartbeats 4000000 in
set_option maxRecDepth 100000 in
theorem t7_allOdds_b4 {p : Program} {l : Launch} {e : Env} {s : State} {m : MethodId} {args : Array Value} {below : List Frame} {meth : Method} {c : Code} {w : WV} {σ : Mem} {r : Int32} (S : CallFix p m c cX7_allOdds 4 s args gtbl RX7) (hr : meth.sig.returnType = (some .int)) (hlk : meth.locks = false) (hK : KS LM w s) (hR : Rp EM LM w σ s.heap) : ∀ (n : Nat), ∀ (x1 : Int32) (x2 : Int32) (x3 : Int32), f7_allOdds_b4 σ n x1 x2 x3 = some r → ∀ (ls : Array Slot), lv_has ls 4 [(0, .ref (w.2.2 0)), (1, .int x1), (2, .int x2), (3, .int x3)] → W p l e rm7_allOdds s m args below meth c s.heap [] 0 0 (MQ below (Qp (.int r)) args s 0 0 (fun _ => False)) (F0 m 4 ls []) := by
  obtain ⟨hx, hb, hml, hown, hts⟩ := id S
  intro n
  induction n with
  | zero =>
    intro x1 x2 x3 h0
    cases (show none = _ from h0)
  | succ n ih =>
    intro x1 x2 x3 h0 ls hl
    rw [f7_allOdds_b4] at h0
    refine lv_iload_n hx hb d7_allOdds_4 rfl (lv_at hl 3 rfl) ?_
    refine lv_aload_n hx hb d7_allOdds_5 rfl (lv_at hl 0 rfl) ?_
    refine g7_46 S hK hR d7_allOdds_6 ?_
    refine lv_iload_n hx hb d7_allOdds_9 rfl (lv_at hl 1 rfl) ?_
    obtain ⟨hi1, h0⟩ := og_if h0
    refine q_ld (k := x1.toNatClampNeg) S hK hR (by decide) (eM_113 w _) hi1 rfl d7_allOdds_10 ?_
    refine lv_icmp_ge (tgt := 33) hx hb d7_allOdds_11 (by decide) (fun hc2 => ?_) (fun hc2 => ?_)
    · have h0 := og_t hc2 h0
      refine lv_iload_n hx hb d7_allOdds_33 rfl (lv_at hl 2 rfl) ?_
      exact q_ipure S hr hlk h0 d7_allOdds_34
    · have h0 := og_f hc2 h0
      refine lv_iload_n hx hb d7_allOdds_14 rfl (lv_at hl 2 rfl) ?_
      refine lv_aload_n hx hb d7_allOdds_15 rfl (lv_at hl 0 rfl) ?_
      refine g7_52 S hK hR d7_allOdds_16 ?_
      refine lv_iconst (v := 5) hx hb d7_allOdds_19 (by decide) ?_
      refine lv_iload_n hx hb d7_allOdds_20 rfl (lv_at hl 1 rfl) ?_
      refine lv_imul hx hb d7_allOdds_21 ?_
      refine lv_iload_n hx hb d7_allOdds_22 rfl (lv_at hl 3 rfl) ?_
      refine lv_iadd hx hb d7_allOdds_23 ?_
      obtain ⟨hi3, h0⟩ := og_if h0
      refine q_ld (k := (((5 * x1) + x3).toNatClampNeg)) S hK hR (by decide) (eM_115 w _) hi3 rfl d7_allOdds_24 ?_
      refine lv_iadd hx hb d7_allOdds_25 ?_
      refine lv_istore_n (lv' := [(2, .int (x2 + (σ 16 (((5 * x1) + x3).toNatClampNeg)))), (0, .ref (w.2.2 0)), (1, .int x1), (3, .int x3)]) hx hb d7_allOdds_26 rfl hl (by decide) rfl (fun ls hl => ?_)
      refine lv_iinc (v := x3 + 1) (lv' := [(3, .int (x3 + 1)), (2, .int (x2 + (σ 16 (((5 * x1) + x3).toNatClampNeg)))), (0, .ref (w.2.2 0)), (1, .int x1)]) hx hb d7_allOdds_27 hl (k := 3) rfl (ii1 _) (by decide) rfl (fun ls hl => ?_)
      refine lv_goto (tgt := 4) hx hb d7_allOdds_30 (by decide) ?_
      exact ih x1 (x2 + (σ 16 (((5 * x1) + x3).toNatClampNeg))) (x3 + 1) h0 _ (lv_sub hl [2, 3, 1, 0] rfl)
def f7_allOdds (σ : Mem) (x1 : Int32) : Option Int32 := f7_allOdds_b4 σ 1000 x1 0 0
set_option maxHeartbeats 4000000 in
set_option maxRecDepth 100000 in
theorem c7_allOdds (l : Launch) {w : WV} {σ : Mem} {x1 : Int32} {r : Int32} (h0 : f7_allOdds σ x1 = some r) : Met l yX7_allOdds (wy yX7_allOdds cX7_allOdds 4 (some .int)) rm7_allOdds (Pw EM LM w [.ref (w.2.2 0), .int x1] σ) (Qp (.int r)) 0 0 (fun _ => False) := by
  refine mk_met (by decide) (Nat.le_of_ble_eq_true rfl) ?_
  intro p e s m below meth c S hr hlk hK hR ls hl
  obtain ⟨hx, hb, hml, hown, hts⟩ := id S
  have hl : lv_has ls 4 [(0, .ref (w.2.2 0)), (1, .int x1)] := hl
  unfold f7_allOdds at h0
  refine lv_iconst (v := 0) hx hb d7_allOdds_0 (by decide) ?_
  refine lv_istore_n (lv' := [(2, .int 0), (0, .ref (w.2.2 0)), (1, .int x1)]) hx hb d7_allOdds_1 rfl hl (by decide) rfl (fun ls hl => ?_)
  refine lv_iconst (v := 0) hx hb d7_allOdds_2 (by decide) ?_
  refine lv_istore_n (lv' := [(3, .int 0), (2, .int 0), (0, .ref (w.2.2 0)), (1, .int x1)]) hx hb d7_allOdds_3 rfl hl (by decide) rfl (fun ls hl => ?_)
  exact t7_allOdds_b4 S hr hlk hK hR 1000 x1 0 0 h0 _ (lv_sub hl [2, 3, 1, 0] rfl)
set_option maxHeartbeats 4000000 in
set_option maxRecDepth 100000 in
theorem k7_156 {p : Program} {l : Launch} {e : Env} {R : Room} {s : State} {m : MethodId} {args : Array Value} {below : List Frame} {meth : Method} {c : Code} {H : Heap} {locs : List Loc} {cells slots : Nat} {Q : State → Prop} {cc : ByteArray} {pc nL : Nat} {ls : Array Slot} {rest : List Value} {w : WV} {σ : Mem} {x1 : Int32} {r : Int32} (S : CallFix p m c cc nL s args gtbl RX7) (hK : KS LM w s) (hR : Rp EM LM w σ H) (h0 : f7_allOdds σ x1 = some r) (hf : cells + 0 ≤ R.cells ∧ slots + 0 ≤ R.slots) (hRm : rm7_allOdds.frames + 1 ≤ R.frames ∧ 8 + (4 + 11) + rm7_allOdds.locals ≤ R.locals) (hl : ls.size = nL) (hW : (rest.map fun v => v.category).sum ≤ 8) (hdg : decode cc pc = .ok (.invokevirtual 156, 3)) (kk : W p l e R s m args below meth c H locs cells slots Q (F0 m (pc + 3) ls (.int r :: rest))) : W p l e R s m args below meth c H locs cells slots Q (F0 m pc ls (.int x1 :: .ref (w.2.2 0) :: rest)) := r_endp (run_V (n := 1) (As := [.int x1]) S hK hR (by decide) (eM_7 w _) rfl (gw_V (gt_at 1074 (by decide +kernel) (by decide +kernel)) (gt_at 1076 (by decide +kernel) (by decide +kernel)) (gt_at 49 (by decide +kernel) (by decide +kernel)) (gt_at 86 (by decide +kernel) (by decide +kernel)) (gt_at 1077 (by decide +kernel) (by decide +kernel))) (by decide +kernel) rfl (c7_allOdds l h0) ⟨rfl, rfl⟩ hRm hf hl rfl hW hdg) kk
/-! FourTenGatesModel.lay()I -/
abbrev rm7_lay : Room := { frames := 5, cells := 0, slots := 0, locals := 111 }
theorem d7_lay_0 : decode cX7_lay 0 = .ok (.aload_n 0, 1) := by decide +kernel
theorem d7_lay_1 : decode cX7_lay 1 = .ok (.invokevirtual 152, 3) := by decide +kernel
theorem d7_lay_4 : decode cX7_lay 4 = .ok (.bipush (-4), 2) := by decide +kernel
theorem d7_lay_6 : decode cX7_lay 6 = .ok (.if_icmp .ne 31, 3) := by decide +kernel
theorem d7_lay_9 : decode cX7_lay 9 = .ok (.aload_n 0, 1) := by decide +kernel
theorem d7_lay_10 : decode cX7_lay 10 = .ok (.getfield 13, 3) := by decide +kernel
theorem d7_lay_13 : decode cX7_lay 13 = .ok (.iconst 1, 1) := by decide +kernel
theorem d7_lay_14 : decode cX7_lay 14 = .ok (.iaload, 1) := by decide +kernel
theorem d7_lay_15 : decode cX7_lay 15 = .ok (.ifCond .eq 22, 3) := by decide +kernel
theorem d7_lay_18 : decode cX7_lay 18 = .ok (.aload_n 0, 1) := by decide +kernel
theorem d7_lay_19 : decode cX7_lay 19 = .ok (.getfield 46, 3) := by decide +kernel
theorem d7_lay_22 : decode cX7_lay 22 = .ok (.iconst 1, 1) := by decide +kernel
theorem d7_lay_23 : decode cX7_lay 23 = .ok (.iaload, 1) := by decide +kernel
theorem d7_lay_24 : decode cX7_lay 24 = .ok (.ifCond .le 16, 3) := by decide +kernel
theorem d7_lay_27 : decode cX7_lay 27 = .ok (.aload_n 0, 1) := by decide +kernel
theorem d7_lay_28 : decode cX7_lay 28 = .ok (.iconst 1, 1) := by decide +kernel
theorem d7_lay_29 : decode cX7_lay 29 = .ok (.invokevirtual 156, 3) := by decide +kernel
theorem d7_lay_32 : decode cX7_lay 32 = .ok (.bipush 10, 2) := by decide +kernel
theorem d7_lay_34 : decode cX7_lay 34 = .ok (.if_icmp .eq 6, 3) := by decide +kernel
theorem d7_lay_37 : decode cX7_lay 37 = .ok (.bipush (-2), 2) := by decide +kernel
theorem d7_lay_39 : decode cX7_lay 39 = .ok (.ireturn, 1) := by decide +kernel
theorem d7_lay_40 : decode cX7_lay 40 = .ok (.aload_n 0, 1) := by decide +kernel
theorem d7_lay_41 : decode cX7_lay 41 = .ok (.getfield 13, 3) := by decide +kernel
theorem d7_lay_44 : decode cX7_lay 44 = .ok (.iconst 0, 1) := by decide +kernel
theorem d7_lay_45 : decode cX7_lay 45 = .ok (.aload_n 0, 1) := by decide +kernel
theorem d7_lay_46 : decode cX7_lay 46 = .ok (.getfield 13, 3) := by decide +kernel
theorem d7_lay_49 : decode cX7_lay 49 = .ok (.iconst 1, 1) := by decide +kernel
theorem d7_lay_50 : decode cX7_lay 50 = .ok (.iaload, 1) := by decide +kernel
theorem d7_lay_51 : decode cX7_lay 51 = .ok (.iastore, 1) := by decide +kernel
theorem d7_lay_52 : decode cX7_lay 52 = .ok (.aload_n 0, 1) := by decide +kernel
theorem d7_lay_53 : decode cX7_lay 53 = .ok (.getfield 22, 3) := by decide +kernel
theorem d7_lay_56 : decode cX7_lay 56 = .ok (.iconst 0, 1) := by decide +kernel
theorem d7_lay_57 : decode cX7_lay 57 = .ok (.aload_n 0, 1) := by decide +kernel
theorem d7_lay_58 : decode cX7_lay 58 = .ok (.getfield 22, 3) := by decide +kernel
theorem d7_lay_61 : decode cX7_lay 61 = .ok (.iconst 1, 1) := by decide +kernel
theorem d7_lay_62 : decode cX7_lay 62 = .ok (.iaload, 1) := by decide +kernel
theorem d7_lay_63 : decode cX7_lay 63 = .ok (.iastore, 1) := by decide +kernel
theorem d7_lay_64 : decode cX7_lay 64 = .ok (.aload_n 0, 1) := by decide +kernel
theorem d7_lay_65 : decode cX7_lay 65 = .ok (.getfield 37, 3) := by decide +kernel
theorem d7_lay_68 : decode cX7_lay 68 = .ok (.iconst 0, 1) := by decide +kernel
theorem d7_lay_69 : decode cX7_lay 69 = .ok (.aload_n 0, 1) := by decide +kernel
theorem d7_lay_70 : decode cX7_lay 70 = .ok (.getfield 37, 3) := by decide +kernel
theorem d7_lay_73 : decode cX7_lay 73 = .ok (.iconst 1, 1) := by decide +kernel
theorem d7_lay_74 : decode cX7_lay 74 = .ok (.iaload, 1) := by decide +kernel
theorem d7_lay_75 : decode cX7_lay 75 = .ok (.iastore, 1) := by decide +kernel
theorem d7_lay_76 : decode cX7_lay 76 = .ok (.aload_n 0, 1) := by decide +kernel
theorem d7_lay_77 : decode cX7_lay 77 = .ok (.getfield 46, 3) := by decide +kernel
theorem d7_lay_80 : decode cX7_lay 80 = .ok (.iconst 0, 1) := by decide +kernel
theorem d7_lay_81 : decode cX7_lay 81 = .ok (.aload_n 0, 1) := by decide +kernel
theorem d7_lay_82 : decode cX7_lay 82 = .ok (.getfield 46, 3) := by decide +kernel
theorem d7_lay_85 : decode cX7_lay 85 = .ok (.iconst 1, 1) := by decide +kernel
theorem d7_lay_86 : decode cX7_lay 86 = .ok (.iaload, 1) := by decide +kernel
theorem d7_lay_87 : decode cX7_lay 87 = .ok (.iastore, 1) := by decide +kernel
theorem d7_lay_88 : decode cX7_lay 88 = .ok (.iconst 0, 1) := by decide +kernel
theorem d7_lay_89 : decode cX7_lay 89 = .ok (.istore_n 1, 1) := by decide +kernel
theorem d7_lay_90 : decode cX7_lay 90 = .ok (.iload_n 1, 1) := by decide +kernel
theorem d7_lay_91 : decode cX7_lay 91 = .ok (.bipush 6, 2) := by decide +kernel
theorem d7_lay_93 : decode cX7_lay 93 = .ok (.if_icmp .ge 69, 3) := by decide +kernel
theorem d7_lay_96 : decode cX7_lay 96 = .ok (.aload_n 0, 1) := by decide +kernel
theorem d7_lay_97 : decode cX7_lay 97 = .ok (.getfield 16, 3) := by decide +kernel
theorem d7_lay_100 : decode cX7_lay 100 = .ok (.iload_n 1, 1) := by decide +kernel
theorem d7_lay_101 : decode cX7_lay 101 = .ok (.aload_n 0, 1) := by decide +kernel
theorem d7_lay_102 : decode cX7_lay 102 = .ok (.getfield 16, 3) := by decide +kernel
theorem d7_lay_105 : decode cX7_lay 105 = .ok (.bipush 6, 2) := by decide +kernel
theorem d7_lay_107 : decode cX7_lay 107 = .ok (.iload_n 1, 1) := by decide +kernel
theorem d7_lay_108 : decode cX7_lay 108 = .ok (.iadd, 1) := by decide +kernel
theorem d7_lay_109 : decode cX7_lay 109 = .ok (.iaload, 1) := by decide +kernel
theorem d7_lay_110 : decode cX7_lay 110 = .ok (.iastore, 1) := by decide +kernel
theorem d7_lay_111 : decode cX7_lay 111 = .ok (.aload_n 0, 1) := by decide +kernel
theorem d7_lay_112 : decode cX7_lay 112 = .ok (.getfield 19, 3) := by decide +kernel
theorem d7_lay_115 : decode cX7_lay 115 = .ok (.iload_n 1, 1) := by decide +kernel
theorem d7_lay_116 : decode cX7_lay 116 = .ok (.aload_n 0, 1) := by decide +kernel
theorem d7_lay_117 : decode cX7_lay 117 = .ok (.getfield 19, 3) := by decide +kernel
theorem d7_lay_120 : decode cX7_lay 120 = .ok (.bipush 6, 2) := by decide +kernel
theorem d7_lay_122 : decode cX7_lay 122 = .ok (.iload_n 1, 1) := by decide +kernel
theorem d7_lay_123 : decode cX7_lay 123 = .ok (.iadd, 1) := by decide +kernel
theorem d7_lay_124 : decode cX7_lay 124 = .ok (.iaload, 1) := by decide +kernel
theorem d7_lay_125 : decode cX7_lay 125 = .ok (.iastore, 1) := by decide +kernel
theorem d7_lay_126 : decode cX7_lay 126 = .ok (.aload_n 0, 1) := by decide +kernel
theorem d7_lay_127 : decode cX7_lay 127 = .ok (.getfield 40, 3) := by decide +kernel
theorem d7_lay_130 : decode cX7_lay 130 = .ok (.iload_n 1, 1) := by decide +kernel
theorem d7_lay_131 : decode cX7_lay 131 = .ok (.aload_n 0, 1) := by decide +kernel
theorem d7_lay_132 : decode cX7_lay 132 = .ok (.getfield 40, 3) := by decide +kernel
theorem d7_lay_135 : decode cX7_lay 135 = .ok (.bipush 6, 2) := by decide +kernel
theorem d7_lay_137 : decode cX7_lay 137 = .ok (.iload_n 1, 1) := by decide +kernel
theorem d7_lay_138 : decode cX7_lay 138 = .ok (.iadd, 1) := by decide +kernel
theorem d7_lay_139 : decode cX7_lay 139 = .ok (.iaload, 1) := by decide +kernel
theorem d7_lay_140 : decode cX7_lay 140 = .ok (.iastore, 1) := by decide +kernel
theorem d7_lay_141 : decode cX7_lay 141 = .ok (.aload_n 0, 1) := by decide +kernel
theorem d7_lay_142 : decode cX7_lay 142 = .ok (.getfield 43, 3) := by decide +kernel
theorem d7_lay_145 : decode cX7_lay 145 = .ok (.iload_n 1, 1) := by decide +kernel
theorem d7_lay_146 : decode cX7_lay 146 = .ok (.aload_n 0, 1) := by decide +kernel
theorem d7_lay_147 : decode cX7_lay 147 = .ok (.getfield 43, 3) := by decide +kernel
theorem d7_lay_150 : decode cX7_lay 150 = .ok (.bipush 6, 2) := by decide +kernel
theorem d7_lay_152 : decode cX7_lay 152 = .ok (.iload_n 1, 1) := by decide +kernel
theorem d7_lay_153 : decode cX7_lay 153 = .ok (.iadd, 1) := by decide +kernel
theorem d7_lay_154 : decode cX7_lay 154 = .ok (.iaload, 1) := by decide +kernel
theorem d7_lay_155 : decode cX7_lay 155 = .ok (.iastore, 1) := by decide +kernel
theorem d7_lay_156 : decode cX7_lay 156 = .ok (.iinc 1 1, 3) := by decide +kernel
theorem d7_lay_159 : decode cX7_lay 159 = .ok (.goto (-69), 3) := by decide +kernel
theorem d7_lay_162 : decode cX7_lay 162 = .ok (.iconst 0, 1) := by decide +kernel
theorem d7_lay_163 : decode cX7_lay 163 = .ok (.istore_n 1, 1) := by decide +kernel
theorem d7_lay_164 : decode cX7_lay 164 = .ok (.iload_n 1, 1) := by decide +kernel
theorem d7_lay_165 : decode cX7_lay 165 = .ok (.bipush 8, 2) := by decide +kernel
theorem d7_lay_167 : decode cX7_lay 167 = .ok (.if_icmp .ge 39, 3) := by decide +kernel
theorem d7_lay_170 : decode cX7_lay 170 = .ok (.aload_n 0, 1) := by decide +kernel
theorem d7_lay_171 : decode cX7_lay 171 = .ok (.getfield 25, 3) := by decide +kernel
theorem d7_lay_174 : decode cX7_lay 174 = .ok (.iload_n 1, 1) := by decide +kernel
theorem d7_lay_175 : decode cX7_lay 175 = .ok (.aload_n 0, 1) := by decide +kernel
theorem d7_lay_176 : decode cX7_lay 176 = .ok (.getfield 25, 3) := by decide +kernel
theorem d7_lay_179 : decode cX7_lay 179 = .ok (.bipush 8, 2) := by decide +kernel
theorem d7_lay_181 : decode cX7_lay 181 = .ok (.iload_n 1, 1) := by decide +kernel
theorem d7_lay_182 : decode cX7_lay 182 = .ok (.iadd, 1) := by decide +kernel
theorem d7_lay_183 : decode cX7_lay 183 = .ok (.iaload, 1) := by decide +kernel
theorem d7_lay_184 : decode cX7_lay 184 = .ok (.iastore, 1) := by decide +kernel
theorem d7_lay_185 : decode cX7_lay 185 = .ok (.aload_n 0, 1) := by decide +kernel
theorem d7_lay_186 : decode cX7_lay 186 = .ok (.getfield 28, 3) := by decide +kernel
theorem d7_lay_189 : decode cX7_lay 189 = .ok (.iload_n 1, 1) := by decide +kernel
theorem d7_lay_190 : decode cX7_lay 190 = .ok (.aload_n 0, 1) := by decide +kernel
theorem d7_lay_191 : decode cX7_lay 191 = .ok (.getfield 28, 3) := by decide +kernel
theorem d7_lay_194 : decode cX7_lay 194 = .ok (.bipush 8, 2) := by decide +kernel
theorem d7_lay_196 : decode cX7_lay 196 = .ok (.iload_n 1, 1) := by decide +kernel
theorem d7_lay_197 : decode cX7_lay 197 = .ok (.iadd, 1) := by decide +kernel
theorem d7_lay_198 : decode cX7_lay 198 = .ok (.iaload, 1) := by decide +kernel
theorem d7_lay_199 : decode cX7_lay 199 = .ok (.iastore, 1) := by decide +kernel
theorem d7_lay_200 : decode cX7_lay 200 = .ok (.iinc 1 1, 3) := by decide +kernel
theorem d7_lay_203 : decode cX7_lay 203 = .ok (.goto (-39), 3) := by decide +kernel
theorem d7_lay_206 : decode cX7_lay 206 = .ok (.iconst 0, 1) := by decide +kernel
theorem d7_lay_207 : decode cX7_lay 207 = .ok (.istore_n 1, 1) := by decide +kernel
theorem d7_lay_208 : decode cX7_lay 208 = .ok (.iload_n 1, 1) := by decide +kernel
theorem d7_lay_209 : decode cX7_lay 209 = .ok (.iconst 4, 1) := by decide +kernel
theorem d7_lay_210 : decode cX7_lay 210 = .ok (.if_icmp .ge 37, 3) := by decide +kernel
theorem d7_lay_213 : decode cX7_lay 213 = .ok (.aload_n 0, 1) := by decide +kernel
theorem d7_lay_214 : decode cX7_lay 214 = .ok (.getfield 31, 3) := by decide +kernel
theorem d7_lay_217 : decode cX7_lay 217 = .ok (.iload_n 1, 1) := by decide +kernel
theorem d7_lay_218 : decode cX7_lay 218 = .ok (.aload_n 0, 1) := by decide +kernel
theorem d7_lay_219 : decode cX7_lay 219 = .ok (.getfield 31, 3) := by decide +kernel
theorem d7_lay_222 : decode cX7_lay 222 = .ok (.iconst 4, 1) := by decide +kernel
theorem d7_lay_223 : decode cX7_lay 223 = .ok (.iload_n 1, 1) := by decide +kernel
theorem d7_lay_224 : decode cX7_lay 224 = .ok (.iadd, 1) := by decide +kernel
theorem d7_lay_225 : decode cX7_lay 225 = .ok (.iaload, 1) := by decide +kernel
theorem d7_lay_226 : decode cX7_lay 226 = .ok (.iastore, 1) := by decide +kernel
theorem d7_lay_227 : decode cX7_lay 227 = .ok (.aload_n 0, 1) := by decide +kernel
theorem d7_lay_228 : decode cX7_lay 228 = .ok (.getfield 34, 3) := by decide +kernel
theorem d7_lay_231 : decode cX7_lay 231 = .ok (.iload_n 1, 1) := by decide +kernel
theorem d7_lay_232 : decode cX7_lay 232 = .ok (.aload_n 0, 1) := by decide +kernel
theorem d7_lay_233 : decode cX7_lay 233 = .ok (.getfield 34, 3) := by decide +kernel
theorem d7_lay_236 : decode cX7_lay 236 = .ok (.iconst 4, 1) := by decide +kernel
theorem d7_lay_237 : decode cX7_lay 237 = .ok (.iload_n 1, 1) := by decide +kernel
theorem d7_lay_238 : decode cX7_lay 238 = .ok (.iadd, 1) := by decide +kernel
theorem d7_lay_239 : decode cX7_lay 239 = .ok (.iaload, 1) := by decide +kernel
theorem d7_lay_240 : decode cX7_lay 240 = .ok (.iastore, 1) := by decide +kernel
theorem d7_lay_241 : decode cX7_lay 241 = .ok (.iinc 1 1, 3) := by decide +kernel
theorem d7_lay_244 : decode cX7_lay 244 = .ok (.goto (-36), 3) := by decide +kernel
theorem d7_lay_247 : decode cX7_lay 247 = .ok (.iconst 0, 1) := by decide +kernel
theorem d7_lay_248 : decode cX7_lay 248 = .ok (.istore_n 1, 1) := by decide +kernel
theorem d7_lay_249 : decode cX7_lay 249 = .ok (.iload_n 1, 1) := by decide +kernel
theorem d7_lay_250 : decode cX7_lay 250 = .ok (.iconst 5, 1) := by decide +kernel
theorem d7_lay_251 : decode cX7_lay 251 = .ok (.if_icmp .ge 37, 3) := by decide +kernel
theorem d7_lay_254 : decode cX7_lay 254 = .ok (.aload_n 0, 1) := by decide +kernel
theorem d7_lay_255 : decode cX7_lay 255 = .ok (.getfield 49, 3) := by decide +kernel
theorem d7_lay_258 : decode cX7_lay 258 = .ok (.iload_n 1, 1) := by decide +kernel
theorem d7_lay_259 : decode cX7_lay 259 = .ok (.aload_n 0, 1) := by decide +kernel
theorem d7_lay_260 : decode cX7_lay 260 = .ok (.getfield 49, 3) := by decide +kernel
theorem d7_lay_263 : decode cX7_lay 263 = .ok (.iconst 5, 1) := by decide +kernel
theorem d7_lay_264 : decode cX7_lay 264 = .ok (.iload_n 1, 1) := by decide +kernel
theorem d7_lay_265 : decode cX7_lay 265 = .ok (.iadd, 1) := by decide +kernel
theorem d7_lay_266 : decode cX7_lay 266 = .ok (.iaload, 1) := by decide +kernel
theorem d7_lay_267 : decode cX7_lay 267 = .ok (.iastore, 1) := by decide +kernel
theorem d7_lay_268 : decode cX7_lay 268 = .ok (.aload_n 0, 1) := by decide +kernel
theorem d7_lay_269 : decode cX7_lay 269 = .ok (.getfield 52, 3) := by decide +kernel
theorem d7_lay_272 : decode cX7_lay 272 = .ok (.iload_n 1, 1) := by decide +kernel
theorem d7_lay_273 : decode cX7_lay 273 = .ok (.aload_n 0, 1) := by decide +kernel
theorem d7_lay_274 : decode cX7_lay 274 = .ok (.getfield 52, 3) := by decide +kernel
theorem d7_lay_277 : decode cX7_lay 277 = .ok (.iconst 5, 1) := by decide +kernel
theorem d7_lay_278 : decode cX7_lay 278 = .ok (.iload_n 1, 1) := by decide +kernel
theorem d7_lay_279 : decode cX7_lay 279 = .ok (.iadd, 1) := by decide +kernel
theorem d7_lay_280 : decode cX7_lay 280 = .ok (.iaload, 1) := by decide +kernel
theorem d7_lay_281 : decode cX7_lay 281 = .ok (.iastore, 1) := by decide +kernel
theorem d7_lay_282 : decode cX7_lay 282 = .ok (.iinc 1 1, 3) := by decide +kernel
theorem d7_lay_285 : decode cX7_lay 285 = .ok (.goto (-36), 3) := by decide +kernel
theorem d7_lay_288 : decode cX7_lay 288 = .ok (.aload_n 0, 1) := by decide +kernel
theorem d7_lay_289 : decode cX7_lay 289 = .ok (.invokevirtual 106, 3) := by decide +kernel
theorem d7_lay_292 : decode cX7_lay 292 = .ok (.aload_n 0, 1) := by decide +kernel
theorem d7_lay_293 : decode cX7_lay 293 = .ok (.getfield 13, 3) := by decide +kernel
theorem d7_lay_296 : decode cX7_lay 296 = .ok (.iconst 0, 1) := by decide +kernel
theorem d7_lay_297 : decode cX7_lay 297 = .ok (.iaload, 1) := by decide +kernel
theorem d7_lay_298 : decode cX7_lay 298 = .ok (.ireturn, 1) := by decide +kernel
def f7_lay_b249 : Nat → Mem → Int32 → Option (Mem × Int32)
  | 0, _, _ => none
  | n + 1, σ, x1 => if 5 ≤ x1 then Option.bind (f7_begin σ) fun σ2 => some (σ2, σ2 3 0) else if ¬ (5 + x1 < 0 ∨ 10 ≤ (5 + x1).toNatClampNeg) then if ¬ (x1 < 0 ∨ 10 ≤ x1.toNatClampNeg) then (bm (mu σ 15 x1.toNatClampNeg (σ 15 ((5 + x1).toNatClampNeg))) fun σ4 => if ¬ (5 + x1 < 0 ∨ 10 ≤ (5 + x1).toNatClampNeg) then if ¬ (x1 < 0 ∨ 10 ≤ x1.toNatClampNeg) then (bm (mu σ4 16 x1.toNatClampNeg (σ4 16 ((5 + x1).toNatClampNeg))) fun σ7 => f7_lay_b249 n σ7 (x1 + 1)) else none else none) else none else none
set_option maxHeartbeats 4000000 in
set_option maxRecDepth 100000 in
theorem t7_lay_b249 {p : Program} {l : Launch} {e : Env} {s : State} {m : MethodId} {args : Array Value} {below : List Frame} {meth : Method} {c : Code} {w : WV} {σ' : Mem} {r : Int32} (S : CallFix p m c cX7_lay 2 s args gtbl RX7) (hr : meth.sig.returnType = (some .int)) (hlk : meth.locks = false) (hK : KS LM w s) : ∀ (n : Nat), ∀ (σ : Mem) (x1 : Int32), f7_lay_b249  n σ x1 = some (σ', r) → ∀ (H : Heap) (locs : List Loc), Rp EM LM w σ H → va_S (AW LM w) s.heap H locs → ∀ (ls : Array Slot), lv_has ls 2 [(0, .ref (w.2.2 0)), (1, .int x1)] → W p l e rm7_lay s m args below meth c H locs 0 0 (MQ below (Qw EM LM w σ' (some (.int r))) args s 0 0 (AW LM w)) (F0 m 249 ls []) := by
  obtain ⟨hx, hb, hml, hown, hts⟩ := id S
  intro n
  induction n with
  | zero =>
    intro σ x1 h0
    cases (show none = _ from h0)
  | succ n ih =>
    intro σ x1 h0 H locs hR hS ls hl
    rw [f7_lay_b249] at h0
    refine lv_iload_n hx hb d7_lay_249 rfl (lv_at hl 1 rfl) ?_
    refine lv_iconst (v := 5) hx hb d7_lay_250 (by decide) ?_
    refine lv_icmp_ge (tgt := 288) hx hb d7_lay_251 (by decide) (fun hc1 => ?_) (fun hc1 => ?_)
    · have h0 := og_t hc1 h0
      refine lv_aload_n hx hb d7_lay_288 rfl (lv_at hl 0 rfl) ?_
      obtain ⟨σ2, hr2, h0⟩ := og_b h0
      refine k7_106 S hK hR hS  hr2 ⟨Nat.zero_le _, Nat.zero_le _⟩ ⟨Nat.le_of_ble_eq_true rfl, Nat.le_of_ble_eq_true rfl⟩ hl.1 (Nat.le_of_ble_eq_true rfl) d7_lay_289 (fun H locs hR hS => ?_)
      refine lv_aload_n hx hb d7_lay_292 rfl (lv_at hl 0 rfl) ?_
      refine g7_13 S hK hR d7_lay_293 ?_
      refine lv_iconst (v := 0) hx hb d7_lay_296 (by decide) ?_
      refine q_ld (k := 0) S hK hR (by decide) (eM_102 w _) (vin (by decide)) (by decide) d7_lay_297 ?_
      exact q_iret S hr hlk hR hS h0 d7_lay_298
    · have h0 := og_f hc1 h0
      refine lv_aload_n hx hb d7_lay_254 rfl (lv_at hl 0 rfl) ?_
      refine g7_49 S hK hR d7_lay_255 ?_
      refine lv_iload_n hx hb d7_lay_258 rfl (lv_at hl 1 rfl) ?_
      refine lv_aload_n hx hb d7_lay_259 rfl (lv_at hl 0 rfl) ?_
      refine g7_49 S hK hR d7_lay_260 ?_
      refine lv_iconst (v := 5) hx hb d7_lay_263 (by decide) ?_
      refine lv_iload_n hx hb d7_lay_264 rfl (lv_at hl 1 rfl) ?_
      refine lv_iadd hx hb d7_lay_265 ?_
      obtain ⟨hi2, h0⟩ := og_if h0
      refine q_ld (k := ((5 + x1).toNatClampNeg)) S hK hR (by decide) (eM_114 w _) hi2 rfl d7_lay_266 ?_
      obtain ⟨hi3, h0⟩ := og_if h0
      obtain ⟨σ4, hm4, h0⟩ := og_m h0
      refine q_st S hK hR hS (by decide) (eM_114 w) hi3 rfl hm4 d7_lay_267 (fun H locs hR hS => ?_)
      refine lv_aload_n hx hb d7_lay_268 rfl (lv_at hl 0 rfl) ?_
      refine g7_52 S hK hR d7_lay_269 ?_
      refine lv_iload_n hx hb d7_lay_272 rfl (lv_at hl 1 rfl) ?_
      refine lv_aload_n hx hb d7_lay_273 rfl (lv_at hl 0 rfl) ?_
      refine g7_52 S hK hR d7_lay_274 ?_
      refine lv_iconst (v := 5) hx hb d7_lay_277 (by decide) ?_
      refine lv_iload_n hx hb d7_lay_278 rfl (lv_at hl 1 rfl) ?_
      refine lv_iadd hx hb d7_lay_279 ?_
      obtain ⟨hi5, h0⟩ := og_if h0
      refine q_ld (k := ((5 + x1).toNatClampNeg)) S hK hR (by decide) (eM_115 w _) hi5 rfl d7_lay_280 ?_
      obtain ⟨hi6, h0⟩ := og_if h0
      obtain ⟨σ7, hm7, h0⟩ := og_m h0
      refine q_st S hK hR hS (by decide) (eM_115 w) hi6 rfl hm7 d7_lay_281 (fun H locs hR hS => ?_)
      refine lv_iinc (v := x1 + 1) (lv' := [(1, .int (x1 + 1)), (0, .ref (w.2.2 0))]) hx hb d7_lay_282 hl (k := 1) rfl (ii1 _) (by decide) rfl (fun ls hl => ?_)
      refine lv_goto (tgt := 249) hx hb d7_lay_285 (by decide) ?_
      exact ih σ7 (x1 + 1) h0 _ _ hR hS _ (lv_sub hl [1, 0] rfl)
def f7_lay_b208 : Nat → Mem → Int32 → Option (Mem × Int32)
  | 0, _, _ => none
  | n + 1, σ, x1 => if 4 ≤ x1 then f7_lay_b249 1000 σ 0 else if ¬ (4 + x1 < 0 ∨ 8 ≤ (4 + x1).toNatClampNeg) then if ¬ (x1 < 0 ∨ 8 ≤ x1.toNatClampNeg) then (bm (mu σ 9 x1.toNatClampNeg (σ 9 ((4 + x1).toNatClampNeg))) fun σ4 => if ¬ (4 + x1 < 0 ∨ 8 ≤ (4 + x1).toNatClampNeg) then if ¬ (x1 < 0 ∨ 8 ≤ x1.toNatClampNeg) then (bm (mu σ4 10 x1.toNatClampNeg (σ4 10 ((4 + x1).toNatClampNeg))) fun σ7 => f7_lay_b208 n σ7 (x1 + 1)) else none else none) else none else none
set_option maxHeartbeats 4000000 in
set_option maxRecDepth 100000 in
theorem t7_lay_b208 {p : Program} {l : Launch} {e : Env} {s : State} {m : MethodId} {args : Array Value} {below : List Frame} {meth : Method} {c : Code} {w : WV} {σ' : Mem} {r : Int32} (S : CallFix p m c cX7_lay 2 s args gtbl RX7) (hr : meth.sig.returnType = (some .int)) (hlk : meth.locks = false) (hK : KS LM w s) : ∀ (n : Nat), ∀ (σ : Mem) (x1 : Int32), f7_lay_b208  n σ x1 = some (σ', r) → ∀ (H : Heap) (locs : List Loc), Rp EM LM w σ H → va_S (AW LM w) s.heap H locs → ∀ (ls : Array Slot), lv_has ls 2 [(0, .ref (w.2.2 0)), (1, .int x1)] → W p l e rm7_lay s m args below meth c H locs 0 0 (MQ below (Qw EM LM w σ' (some (.int r))) args s 0 0 (AW LM w)) (F0 m 208 ls []) := by
  obtain ⟨hx, hb, hml, hown, hts⟩ := id S
  intro n
  induction n with
  | zero =>
    intro σ x1 h0
    cases (show none = _ from h0)
  | succ n ih =>
    intro σ x1 h0 H locs hR hS ls hl
    rw [f7_lay_b208] at h0
    refine lv_iload_n hx hb d7_lay_208 rfl (lv_at hl 1 rfl) ?_
    refine lv_iconst (v := 4) hx hb d7_lay_209 (by decide) ?_
    refine lv_icmp_ge (tgt := 247) hx hb d7_lay_210 (by decide) (fun hc1 => ?_) (fun hc1 => ?_)
    · have h0 := og_t hc1 h0
      refine lv_iconst (v := 0) hx hb d7_lay_247 (by decide) ?_
      refine lv_istore_n (lv' := [(1, .int 0), (0, .ref (w.2.2 0))]) hx hb d7_lay_248 rfl hl (by decide) rfl (fun ls hl => ?_)
      exact t7_lay_b249 S hr hlk hK 1000 σ 0 h0 _ _ hR hS _ (lv_sub hl [1, 0] rfl)
    · have h0 := og_f hc1 h0
      refine lv_aload_n hx hb d7_lay_213 rfl (lv_at hl 0 rfl) ?_
      refine g7_31 S hK hR d7_lay_214 ?_
      refine lv_iload_n hx hb d7_lay_217 rfl (lv_at hl 1 rfl) ?_
      refine lv_aload_n hx hb d7_lay_218 rfl (lv_at hl 0 rfl) ?_
      refine g7_31 S hK hR d7_lay_219 ?_
      refine lv_iconst (v := 4) hx hb d7_lay_222 (by decide) ?_
      refine lv_iload_n hx hb d7_lay_223 rfl (lv_at hl 1 rfl) ?_
      refine lv_iadd hx hb d7_lay_224 ?_
      obtain ⟨hi2, h0⟩ := og_if h0
      refine q_ld (k := ((4 + x1).toNatClampNeg)) S hK hR (by decide) (eM_108 w _) hi2 rfl d7_lay_225 ?_
      obtain ⟨hi3, h0⟩ := og_if h0
      obtain ⟨σ4, hm4, h0⟩ := og_m h0
      refine q_st S hK hR hS (by decide) (eM_108 w) hi3 rfl hm4 d7_lay_226 (fun H locs hR hS => ?_)
      refine lv_aload_n hx hb d7_lay_227 rfl (lv_at hl 0 rfl) ?_
      refine g7_34 S hK hR d7_lay_228 ?_
      refine lv_iload_n hx hb d7_lay_231 rfl (lv_at hl 1 rfl) ?_
      refine lv_aload_n hx hb d7_lay_232 rfl (lv_at hl 0 rfl) ?_
      refine g7_34 S hK hR d7_lay_233 ?_
      refine lv_iconst (v := 4) hx hb d7_lay_236 (by decide) ?_
      refine lv_iload_n hx hb d7_lay_237 rfl (lv_at hl 1 rfl) ?_
      refine lv_iadd hx hb d7_lay_238 ?_
      obtain ⟨hi5, h0⟩ := og_if h0
      refine q_ld (k := ((4 + x1).toNatClampNeg)) S hK hR (by decide) (eM_109 w _) hi5 rfl d7_lay_239 ?_
      obtain ⟨hi6, h0⟩ := og_if h0
      obtain ⟨σ7, hm7, h0⟩ := og_m h0
      refine q_st S hK hR hS (by decide) (eM_109 w) hi6 rfl hm7 d7_lay_240 (fun H locs hR hS => ?_)
      refine lv_iinc (v := x1 + 1) (lv' := [(1, .int (x1 + 1)), (0, .ref (w.2.2 0))]) hx hb d7_lay_241 hl (k := 1) rfl (ii1 _) (by decide) rfl (fun ls hl => ?_)
      refine lv_goto (tgt := 208) hx hb d7_lay_244 (by decide) ?_
      exact ih σ7 (x1 + 1) h0 _ _ hR hS _ (lv_sub hl [1, 0] rfl)
def f7_lay_b164 : Nat → Mem → Int32 → Option (Mem × Int32)
  | 0, _, _ => none
  | n + 1, σ, x1 => if 8 ≤ x1 then f7_lay_b208 1000 σ 0 else if ¬ (8 + x1 < 0 ∨ 16 ≤ (8 + x1).toNatClampNeg) then if ¬ (x1 < 0 ∨ 16 ≤ x1.toNatClampNeg) then (bm (mu σ 7 x1.toNatClampNeg (σ 7 ((8 + x1).toNatClampNeg))) fun σ4 => if ¬ (8 + x1 < 0 ∨ 16 ≤ (8 + x1).toNatClampNeg) then if ¬ (x1 < 0 ∨ 16 ≤ x1.toNatClampNeg) then (bm (mu σ4 8 x1.toNatClampNeg (σ4 8 ((8 + x1).toNatClampNeg))) fun σ7 => f7_lay_b164 n σ7 (x1 + 1)) else none else none) else none else none
set_option maxHeartbeats 4000000 in
set_option maxRecDepth 100000 in
theorem t7_lay_b164 {p : Program} {l : Launch} {e : Env} {s : State} {m : MethodId} {args : Array Value} {below : List Frame} {meth : Method} {c : Code} {w : WV} {σ' : Mem} {r : Int32} (S : CallFix p m c cX7_lay 2 s args gtbl RX7) (hr : meth.sig.returnType = (some .int)) (hlk : meth.locks = false) (hK : KS LM w s) : ∀ (n : Nat), ∀ (σ : Mem) (x1 : Int32), f7_lay_b164  n σ x1 = some (σ', r) → ∀ (H : Heap) (locs : List Loc), Rp EM LM w σ H → va_S (AW LM w) s.heap H locs → ∀ (ls : Array Slot), lv_has ls 2 [(0, .ref (w.2.2 0)), (1, .int x1)] → W p l e rm7_lay s m args below meth c H locs 0 0 (MQ below (Qw EM LM w σ' (some (.int r))) args s 0 0 (AW LM w)) (F0 m 164 ls []) := by
  obtain ⟨hx, hb, hml, hown, hts⟩ := id S
  intro n
  induction n with
  | zero =>
    intro σ x1 h0
    cases (show none = _ from h0)
  | succ n ih =>
    intro σ x1 h0 H locs hR hS ls hl
    rw [f7_lay_b164] at h0
    refine lv_iload_n hx hb d7_lay_164 rfl (lv_at hl 1 rfl) ?_
    refine lv_bipush (v := 8) hx hb d7_lay_165 (by decide) ?_
    refine lv_icmp_ge (tgt := 206) hx hb d7_lay_167 (by decide) (fun hc1 => ?_) (fun hc1 => ?_)
    · have h0 := og_t hc1 h0
      refine lv_iconst (v := 0) hx hb d7_lay_206 (by decide) ?_
      refine lv_istore_n (lv' := [(1, .int 0), (0, .ref (w.2.2 0))]) hx hb d7_lay_207 rfl hl (by decide) rfl (fun ls hl => ?_)
      exact t7_lay_b208 S hr hlk hK 1000 σ 0 h0 _ _ hR hS _ (lv_sub hl [1, 0] rfl)
    · have h0 := og_f hc1 h0
      refine lv_aload_n hx hb d7_lay_170 rfl (lv_at hl 0 rfl) ?_
      refine g7_25 S hK hR d7_lay_171 ?_
      refine lv_iload_n hx hb d7_lay_174 rfl (lv_at hl 1 rfl) ?_
      refine lv_aload_n hx hb d7_lay_175 rfl (lv_at hl 0 rfl) ?_
      refine g7_25 S hK hR d7_lay_176 ?_
      refine lv_bipush (v := 8) hx hb d7_lay_179 (by decide) ?_
      refine lv_iload_n hx hb d7_lay_181 rfl (lv_at hl 1 rfl) ?_
      refine lv_iadd hx hb d7_lay_182 ?_
      obtain ⟨hi2, h0⟩ := og_if h0
      refine q_ld (k := ((8 + x1).toNatClampNeg)) S hK hR (by decide) (eM_106 w _) hi2 rfl d7_lay_183 ?_
      obtain ⟨hi3, h0⟩ := og_if h0
      obtain ⟨σ4, hm4, h0⟩ := og_m h0
      refine q_st S hK hR hS (by decide) (eM_106 w) hi3 rfl hm4 d7_lay_184 (fun H locs hR hS => ?_)
      refine lv_aload_n hx hb d7_lay_185 rfl (lv_at hl 0 rfl) ?_
      refine g7_28 S hK hR d7_lay_186 ?_
      refine lv_iload_n hx hb d7_lay_189 rfl (lv_at hl 1 rfl) ?_
      refine lv_aload_n hx hb d7_lay_190 rfl (lv_at hl 0 rfl) ?_
      refine g7_28 S hK hR d7_lay_191 ?_
      refine lv_bipush (v := 8) hx hb d7_lay_194 (by decide) ?_
      refine lv_iload_n hx hb d7_lay_196 rfl (lv_at hl 1 rfl) ?_
      refine lv_iadd hx hb d7_lay_197 ?_
      obtain ⟨hi5, h0⟩ := og_if h0
      refine q_ld (k := ((8 + x1).toNatClampNeg)) S hK hR (by decide) (eM_107 w _) hi5 rfl d7_lay_198 ?_
      obtain ⟨hi6, h0⟩ := og_if h0
      obtain ⟨σ7, hm7, h0⟩ := og_m h0
      refine q_st S hK hR hS (by decide) (eM_107 w) hi6 rfl hm7 d7_lay_199 (fun H locs hR hS => ?_)
      refine lv_iinc (v := x1 + 1) (lv' := [(1, .int (x1 + 1)), (0, .ref (w.2.2 0))]) hx hb d7_lay_200 hl (k := 1) rfl (ii1 _) (by decide) rfl (fun ls hl => ?_)
      refine lv_goto (tgt := 164) hx hb d7_lay_203 (by decide) ?_
      exact ih σ7 (x1 + 1) h0 _ _ hR hS _ (lv_sub hl [1, 0] rfl)
def f7_lay_b90 : Nat → Mem → Int32 → Option (Mem × Int32)
  | 0, _, _ => none
  | n + 1, σ, x1 => if 6 ≤ x1 then f7_lay_b164 1000 σ 0 else if ¬ (6 + x1 < 0 ∨ 12 ≤ (6 + x1).toNatClampNeg) then if ¬ (x1 < 0 ∨ 12 ≤ x1.toNatClampNeg) then (bm (mu σ 4 x1.toNatClampNeg (σ 4 ((6 + x1).toNatClampNeg))) fun σ4 => if ¬ (6 + x1 < 0 ∨ 12 ≤ (6 + x1).toNatClampNeg) then if ¬ (x1 < 0 ∨ 12 ≤ x1.toNatClampNeg) then (bm (mu σ4 5 x1.toNatClampNeg (σ4 5 ((6 + x1).toNatClampNeg))) fun σ7 => if ¬ (6 + x1 < 0 ∨ 12 ≤ (6 + x1).toNatClampNeg) then if ¬ (x1 < 0 ∨ 12 ≤ x1.toNatClampNeg) then (bm (mu σ7 12 x1.toNatClampNeg (σ7 12 ((6 + x1).toNatClampNeg))) fun σ10 => if ¬ (6 + x1 < 0 ∨ 12 ≤ (6 + x1).toNatClampNeg) then if ¬ (x1 < 0 ∨ 12 ≤ x1.toNatClampNeg) then (bm (mu σ10 13 x1.toNatClampNeg (σ10 13 ((6 + x1).toNatClampNeg))) fun σ13 => f7_lay_b90 n σ13 (x1 + 1)) else none else none) else none else none) else none else none) else none else none
set_option maxHeartbeats 4000000 in
set_option maxRecDepth 100000 in
theorem t7_lay_b90 {p : Program} {l : Launch} {e : Env} {s : State} {m : MethodId} {args : Array Value} {below : List Frame} {meth : Method} {c : Code} {w : WV} {σ' : Mem} {r : Int32} (S : CallFix p m c cX7_lay 2 s args gtbl RX7) (hr : meth.sig.returnType = (some .int)) (hlk : meth.locks = false) (hK : KS LM w s) : ∀ (n : Nat), ∀ (σ : Mem) (x1 : Int32), f7_lay_b90  n σ x1 = some (σ', r) → ∀ (H : Heap) (locs : List Loc), Rp EM LM w σ H → va_S (AW LM w) s.heap H locs → ∀ (ls : Array Slot), lv_has ls 2 [(0, .ref (w.2.2 0)), (1, .int x1)] → W p l e rm7_lay s m args below meth c H locs 0 0 (MQ below (Qw EM LM w σ' (some (.int r))) args s 0 0 (AW LM w)) (F0 m 90 ls []) := by
  obtain ⟨hx, hb, hml, hown, hts⟩ := id S
  intro n
  induction n with
  | zero =>
    intro σ x1 h0
    cases (show none = _ from h0)
  | succ n ih =>
    intro σ x1 h0 H locs hR hS ls hl
    rw [f7_lay_b90] at h0
    refine lv_iload_n hx hb d7_lay_90 rfl (lv_at hl 1 rfl) ?_
    refine lv_bipush (v := 6) hx hb d7_lay_91 (by decide) ?_
    refine lv_icmp_ge (tgt := 162) hx hb d7_lay_93 (by decide) (fun hc1 => ?_) (fun hc1 => ?_)
    · have h0 := og_t hc1 h0
      refine lv_iconst (v := 0) hx hb d7_lay_162 (by decide) ?_
      refine lv_istore_n (lv' := [(1, .int 0), (0, .ref (w.2.2 0))]) hx hb d7_lay_163 rfl hl (by decide) rfl (fun ls hl => ?_)
      exact t7_lay_b164 S hr hlk hK 1000 σ 0 h0 _ _ hR hS _ (lv_sub hl [1, 0] rfl)
    · have h0 := og_f hc1 h0
      refine lv_aload_n hx hb d7_lay_96 rfl (lv_at hl 0 rfl) ?_
      refine g7_16 S hK hR d7_lay_97 ?_
      refine lv_iload_n hx hb d7_lay_100 rfl (lv_at hl 1 rfl) ?_
      refine lv_aload_n hx hb d7_lay_101 rfl (lv_at hl 0 rfl) ?_
      refine g7_16 S hK hR d7_lay_102 ?_
      refine lv_bipush (v := 6) hx hb d7_lay_105 (by decide) ?_
      refine lv_iload_n hx hb d7_lay_107 rfl (lv_at hl 1 rfl) ?_
      refine lv_iadd hx hb d7_lay_108 ?_
      obtain ⟨hi2, h0⟩ := og_if h0
      refine q_ld (k := ((6 + x1).toNatClampNeg)) S hK hR (by decide) (eM_103 w _) hi2 rfl d7_lay_109 ?_
      obtain ⟨hi3, h0⟩ := og_if h0
      obtain ⟨σ4, hm4, h0⟩ := og_m h0
      refine q_st S hK hR hS (by decide) (eM_103 w) hi3 rfl hm4 d7_lay_110 (fun H locs hR hS => ?_)
      refine lv_aload_n hx hb d7_lay_111 rfl (lv_at hl 0 rfl) ?_
      refine g7_19 S hK hR d7_lay_112 ?_
      refine lv_iload_n hx hb d7_lay_115 rfl (lv_at hl 1 rfl) ?_
      refine lv_aload_n hx hb d7_lay_116 rfl (lv_at hl 0 rfl) ?_
      refine g7_19 S hK hR d7_lay_117 ?_
      refine lv_bipush (v := 6) hx hb d7_lay_120 (by decide) ?_
      refine lv_iload_n hx hb d7_lay_122 rfl (lv_at hl 1 rfl) ?_
      refine lv_iadd hx hb d7_lay_123 ?_
      obtain ⟨hi5, h0⟩ := og_if h0
      refine q_ld (k := ((6 + x1).toNatClampNeg)) S hK hR (by decide) (eM_104 w _) hi5 rfl d7_lay_124 ?_
      obtain ⟨hi6, h0⟩ := og_if h0
      obtain ⟨σ7, hm7, h0⟩ := og_m h0
      refine q_st S hK hR hS (by decide) (eM_104 w) hi6 rfl hm7 d7_lay_125 (fun H locs hR hS => ?_)
      refine lv_aload_n hx hb d7_lay_126 rfl (lv_at hl 0 rfl) ?_
      refine g7_40 S hK hR d7_lay_127 ?_
      refine lv_iload_n hx hb d7_lay_130 rfl (lv_at hl 1 rfl) ?_
      refine lv_aload_n hx hb d7_lay_131 rfl (lv_at hl 0 rfl) ?_
      refine g7_40 S hK hR d7_lay_132 ?_
      refine lv_bipush (v := 6) hx hb d7_lay_135 (by decide) ?_
      refine lv_iload_n hx hb d7_lay_137 rfl (lv_at hl 1 rfl) ?_
      refine lv_iadd hx hb d7_lay_138 ?_
      obtain ⟨hi8, h0⟩ := og_if h0
      refine q_ld (k := ((6 + x1).toNatClampNeg)) S hK hR (by decide) (eM_111 w _) hi8 rfl d7_lay_139 ?_
      obtain ⟨hi9, h0⟩ := og_if h0
      obtain ⟨σ10, hm10, h0⟩ := og_m h0
      refine q_st S hK hR hS (by decide) (eM_111 w) hi9 rfl hm10 d7_lay_140 (fun H locs hR hS => ?_)
      refine lv_aload_n hx hb d7_lay_141 rfl (lv_at hl 0 rfl) ?_
      refine g7_43 S hK hR d7_lay_142 ?_
      refine lv_iload_n hx hb d7_lay_145 rfl (lv_at hl 1 rfl) ?_
      refine lv_aload_n hx hb d7_lay_146 rfl (lv_at hl 0 rfl) ?_
      refine g7_43 S hK hR d7_lay_147 ?_
      refine lv_bipush (v := 6) hx hb d7_lay_150 (by decide) ?_
      refine lv_iload_n hx hb d7_lay_152 rfl (lv_at hl 1 rfl) ?_
      refine lv_iadd hx hb d7_lay_153 ?_
      obtain ⟨hi11, h0⟩ := og_if h0
      refine q_ld (k := ((6 + x1).toNatClampNeg)) S hK hR (by decide) (eM_112 w _) hi11 rfl d7_lay_154 ?_
      obtain ⟨hi12, h0⟩ := og_if h0
      obtain ⟨σ13, hm13, h0⟩ := og_m h0
      refine q_st S hK hR hS (by decide) (eM_112 w) hi12 rfl hm13 d7_lay_155 (fun H locs hR hS => ?_)
      refine lv_iinc (v := x1 + 1) (lv' := [(1, .int (x1 + 1)), (0, .ref (w.2.2 0))]) hx hb d7_lay_156 hl (k := 1) rfl (ii1 _) (by decide) rfl (fun ls hl => ?_)
      refine lv_goto (tgt := 90) hx hb d7_lay_159 (by decide) ?_
      exact ih σ13 (x1 + 1) h0 _ _ hR hS _ (lv_sub hl [1, 0] rfl)
def f7_lay_b40 (σ : Mem) : Option (Mem × Int32) := bm (mu σ 3 0 (σ 3 1)) fun σ1 => bm (mu σ1 6 0 (σ1 6 1)) fun σ2 => bm (mu σ2 11 0 (σ2 11 1)) fun σ3 => bm (mu σ3 14 0 (σ3 14 1)) fun σ4 => f7_lay_b90 1000 σ4 0
set_option maxHeartbeats 4000000 in
set_option maxRecDepth 100000 in
theorem t7_lay_b40 {p : Program} {l : Launch} {e : Env} {s : State} {m : MethodId} {args : Array Value} {below : List Frame} {meth : Method} {c : Code} {w : WV} {σ' : Mem} {r : Int32} (S : CallFix p m c cX7_lay 2 s args gtbl RX7) (hr : meth.sig.returnType = (some .int)) (hlk : meth.locks = false) (hK : KS LM w s) : ∀ (σ : Mem), f7_lay_b40  σ = some (σ', r) → ∀ (H : Heap) (locs : List Loc), Rp EM LM w σ H → va_S (AW LM w) s.heap H locs → ∀ (ls : Array Slot), lv_has ls 2 [(0, .ref (w.2.2 0))] → W p l e rm7_lay s m args below meth c H locs 0 0 (MQ below (Qw EM LM w σ' (some (.int r))) args s 0 0 (AW LM w)) (F0 m 40 ls []) := by
  obtain ⟨hx, hb, hml, hown, hts⟩ := id S
  intro σ h0 H locs hR hS ls hl
  unfold f7_lay_b40 at h0
  refine lv_aload_n hx hb d7_lay_40 rfl (lv_at hl 0 rfl) ?_
  refine g7_13 S hK hR d7_lay_41 ?_
  refine lv_iconst (v := 0) hx hb d7_lay_44 (by decide) ?_
  refine lv_aload_n hx hb d7_lay_45 rfl (lv_at hl 0 rfl) ?_
  refine g7_13 S hK hR d7_lay_46 ?_
  refine lv_iconst (v := 1) hx hb d7_lay_49 (by decide) ?_
  refine q_ld (k := 1) S hK hR (by decide) (eM_102 w _) (vin (by decide)) (by decide) d7_lay_50 ?_
  obtain ⟨σ1, hm1, h0⟩ := og_m h0
  refine q_st S hK hR hS (by decide) (eM_102 w) (vin (by decide)) (by decide) hm1 d7_lay_51 (fun H locs hR hS => ?_)
  refine lv_aload_n hx hb d7_lay_52 rfl (lv_at hl 0 rfl) ?_
  refine g7_22 S hK hR d7_lay_53 ?_
  refine lv_iconst (v := 0) hx hb d7_lay_56 (by decide) ?_
  refine lv_aload_n hx hb d7_lay_57 rfl (lv_at hl 0 rfl) ?_
  refine g7_22 S hK hR d7_lay_58 ?_
  refine lv_iconst (v := 1) hx hb d7_lay_61 (by decide) ?_
  refine q_ld (k := 1) S hK hR (by decide) (eM_105 w _) (vin (by decide)) (by decide) d7_lay_62 ?_
  obtain ⟨σ2, hm2, h0⟩ := og_m h0
  refine q_st S hK hR hS (by decide) (eM_105 w) (vin (by decide)) (by decide) hm2 d7_lay_63 (fun H locs hR hS => ?_)
  refine lv_aload_n hx hb d7_lay_64 rfl (lv_at hl 0 rfl) ?_
  refine g7_37 S hK hR d7_lay_65 ?_
  refine lv_iconst (v := 0) hx hb d7_lay_68 (by decide) ?_
  refine lv_aload_n hx hb d7_lay_69 rfl (lv_at hl 0 rfl) ?_
  refine g7_37 S hK hR d7_lay_70 ?_
  refine lv_iconst (v := 1) hx hb d7_lay_73 (by decide) ?_
  refine q_ld (k := 1) S hK hR (by decide) (eM_110 w _) (vin (by decide)) (by decide) d7_lay_74 ?_
  obtain ⟨σ3, hm3, h0⟩ := og_m h0
  refine q_st S hK hR hS (by decide) (eM_110 w) (vin (by decide)) (by decide) hm3 d7_lay_75 (fun H locs hR hS => ?_)
  refine lv_aload_n hx hb d7_lay_76 rfl (lv_at hl 0 rfl) ?_
  refine g7_46 S hK hR d7_lay_77 ?_
  refine lv_iconst (v := 0) hx hb d7_lay_80 (by decide) ?_
  refine lv_aload_n hx hb d7_lay_81 rfl (lv_at hl 0 rfl) ?_
  refine g7_46 S hK hR d7_lay_82 ?_
  refine lv_iconst (v := 1) hx hb d7_lay_85 (by decide) ?_
  refine q_ld (k := 1) S hK hR (by decide) (eM_113 w _) (vin (by decide)) (by decide) d7_lay_86 ?_
  obtain ⟨σ4, hm4, h0⟩ := og_m h0
  refine q_st S hK hR hS (by decide) (eM_113 w) (vin (by decide)) (by decide) hm4 d7_lay_87 (fun H locs hR hS => ?_)
  refine lv_iconst (v := 0) hx hb d7_lay_88 (by decide) ?_
  refine lv_istore_n (lv' := [(1, .int 0), (0, .ref (w.2.2 0))]) hx hb d7_lay_89 rfl hl (by decide) rfl (fun ls hl => ?_)
  exact t7_lay_b90 S hr hlk hK 1000 σ4 0 h0 _ _ hR hS _ (lv_sub hl [1, 0] rfl)
def f7_lay (σ : Mem) : Option (Mem × Int32) := ob (f7_readAll σ) fun σ1 r1 => if r1 = (-4) then if (σ1 3 1) = 0 then some (σ1, (-2)) else if (σ1 14 1) ≤ 0 then f7_lay_b40 σ1 else Option.bind (f7_allOdds σ1 1) fun r5 => if r5 = 10 then f7_lay_b40 σ1 else some (σ1, (-2)) else some (σ1, (-2))
set_option maxHeartbeats 4000000 in
set_option maxRecDepth 100000 in
theorem c7_lay (l : Launch) {w : WV} {σ : Mem} {σ' : Mem} {r : Int32} (h0 : f7_lay σ = some (σ', r)) : Met l yX7_lay (wy yX7_lay cX7_lay 2 (some .int)) rm7_lay (Pw EM LM w [.ref (w.2.2 0)] σ) (Qw EM LM w σ' (some (.int r))) 0 0 (AW LM w) := by
  refine mk_met (by decide) (Nat.le_of_ble_eq_true rfl) ?_
  intro p e s m below meth c S hr hlk hK hR ls hl
  obtain ⟨hx, hb, hml, hown, hts⟩ := id S
  have hl : lv_has ls 2 [(0, .ref (w.2.2 0))] := hl
  have hS : va_S (AW LM w) s.heap s.heap [] := va_S.rf
  unfold f7_lay at h0
  refine lv_aload_n hx hb d7_lay_0 rfl (lv_at hl 0 rfl) ?_
  obtain ⟨σ1, r1, hr1, h0⟩ := og_o h0
  refine k7_152 S hK hR hS  hr1 ⟨Nat.zero_le _, Nat.zero_le _⟩ ⟨Nat.le_of_ble_eq_true rfl, Nat.le_of_ble_eq_true rfl⟩ hl.1 (Nat.le_of_ble_eq_true rfl) d7_lay_1 (fun H locs hR hS => ?_)
  refine lv_bipush (v := (-4)) hx hb d7_lay_4 (by decide) ?_
  refine lv_icmp_ne (tgt := 37) hx hb d7_lay_6 (by decide) (fun hc2 => ?_) (fun hc2 => ?_)
  · have h0 := og_f hc2 h0
    refine lv_bipush (v := (-2)) hx hb d7_lay_37 (by decide) ?_
    exact q_iret S hr hlk hR hS h0 d7_lay_39
  · have h0 := og_t hc2 h0
    refine lv_aload_n hx hb d7_lay_9 rfl (lv_at hl 0 rfl) ?_
    refine g7_13 S hK hR d7_lay_10 ?_
    refine lv_iconst (v := 1) hx hb d7_lay_13 (by decide) ?_
    refine q_ld (k := 1) S hK hR (by decide) (eM_102 w _) (vin (by decide)) (by decide) d7_lay_14 ?_
    refine lv_if_eq (tgt := 37) hx hb d7_lay_15 (by decide) (fun hc3 => ?_) (fun hc3 => ?_)
    · have h0 := og_t hc3 h0
      refine lv_bipush (v := (-2)) hx hb d7_lay_37 (by decide) ?_
      exact q_iret S hr hlk hR hS h0 d7_lay_39
    · have h0 := og_f hc3 h0
      refine lv_aload_n hx hb d7_lay_18 rfl (lv_at hl 0 rfl) ?_
      refine g7_46 S hK hR d7_lay_19 ?_
      refine lv_iconst (v := 1) hx hb d7_lay_22 (by decide) ?_
      refine q_ld (k := 1) S hK hR (by decide) (eM_113 w _) (vin (by decide)) (by decide) d7_lay_23 ?_
      refine lv_if_le (tgt := 40) hx hb d7_lay_24 (by decide) (fun hc4 => ?_) (fun hc4 => ?_)
      · have h0 := og_t hc4 h0
        exact t7_lay_b40 S hr hlk hK σ1 h0 _ _ hR hS _ (lv_sub hl [0] rfl)
      · have h0 := og_f hc4 h0
        refine lv_aload_n hx hb d7_lay_27 rfl (lv_at hl 0 rfl) ?_
        refine lv_iconst (v := 1) hx hb d7_lay_28 (by decide) ?_
        obtain ⟨r5, hr5, h0⟩ := og_b h0
        refine k7_156 S hK hR  hr5 ⟨Nat.zero_le _, Nat.zero_le _⟩ ⟨Nat.le_of_ble_eq_true rfl, Nat.le_of_ble_eq_true rfl⟩ hl.1 (Nat.le_of_ble_eq_true rfl) d7_lay_29 ?_
        refine lv_bipush (v := 10) hx hb d7_lay_32 (by decide) ?_
        refine lv_icmp_eq (tgt := 40) hx hb d7_lay_34 (by decide) (fun hc6 => ?_) (fun hc6 => ?_)
        · have h0 := og_t hc6 h0
          exact t7_lay_b40 S hr hlk hK σ1 h0 _ _ hR hS _ (lv_sub hl [0] rfl)
        · have h0 := og_f hc6 h0
          refine lv_bipush (v := (-2)) hx hb d7_lay_37 (by decide) ?_
          exact q_iret S hr hlk hR hS h0 d7_lay_39
/-! FourTenGatesModel.isTrain(I)Z -/
abbrev rm7_isTrain : Room := { frames := 1, cells := 0, slots := 0, locals := 25 }
theorem d7_isTrain_0 : decode cX7_isTrain 0 = .ok (.iload_n 1, 1) := by decide +kernel
theorem d7_isTrain_1 : decode cX7_isTrain 1 = .ok (.i2l, 1) := by decide +kernel
theorem d7_isTrain_2 : decode cX7_isTrain 2 = .ok (.lconst 0, 1) := by decide +kernel
theorem d7_isTrain_3 : decode cX7_isTrain 3 = .ok (.aload_n 0, 1) := by decide +kernel
theorem d7_isTrain_4 : decode cX7_isTrain 4 = .ok (.getfield 13, 3) := by decide +kernel
theorem d7_isTrain_7 : decode cX7_isTrain 7 = .ok (.iconst 0, 1) := by decide +kernel
theorem d7_isTrain_8 : decode cX7_isTrain 8 = .ok (.iaload, 1) := by decide +kernel
theorem d7_isTrain_9 : decode cX7_isTrain 9 = .ok (.iconst 1, 1) := by decide +kernel
theorem d7_isTrain_10 : decode cX7_isTrain 10 = .ok (.isub, 1) := by decide +kernel
theorem d7_isTrain_11 : decode cX7_isTrain 11 = .ok (.i2l, 1) := by decide +kernel
theorem d7_isTrain_12 : decode cX7_isTrain 12 = .ok (.invokestatic 113, 3) := by decide +kernel
theorem d7_isTrain_15 : decode cX7_isTrain 15 = .ok (.ireturn, 1) := by decide +kernel
def f7_isTrain (σ : Mem) (x1 : Int32) : Option Int32 := Option.bind (f7_in x1.toInt64 (0 : Int64) (((σ 3 0) - 1).toInt64)) fun r1 => if r1 = 0 ∨ r1 = 1 then some r1 else none
set_option maxHeartbeats 4000000 in
set_option maxRecDepth 100000 in
theorem c7_isTrain (l : Launch) {w : WV} {σ : Mem} {x1 : Int32} {r : Int32} (h0 : f7_isTrain σ x1 = some r) : Met l yX7_isTrain (wy yX7_isTrain cX7_isTrain 2 (some .boolean)) rm7_isTrain (Pw EM LM w [.ref (w.2.2 0), .int x1] σ) (Qp (.int r)) 0 0 (fun _ => False) := by
  refine mk_met (by decide) (Nat.le_of_ble_eq_true rfl) ?_
  intro p e s m below meth c S hr hlk hK hR ls hl
  obtain ⟨hx, hb, hml, hown, hts⟩ := id S
  have hl : lv_has ls 2 [(0, .ref (w.2.2 0)), (1, .int x1)] := hl
  unfold f7_isTrain at h0
  refine lv_iload_n hx hb d7_isTrain_0 rfl (lv_at hl 1 rfl) ?_
  refine lv_i2l hx hb d7_isTrain_1 rfl ?_
  refine lv_lconst (v := 0) hx hb d7_isTrain_2 (by decide) ?_
  refine lv_aload_n hx hb d7_isTrain_3 rfl (lv_at hl 0 rfl) ?_
  refine g7_13 S hK hR d7_isTrain_4 ?_
  refine lv_iconst (v := 0) hx hb d7_isTrain_7 (by decide) ?_
  refine q_ld (k := 0) S hK hR (by decide) (eM_102 w _) (vin (by decide)) (by decide) d7_isTrain_8 ?_
  refine lv_iconst (v := 1) hx hb d7_isTrain_9 (by decide) ?_
  refine lv_isub hx hb d7_isTrain_10 ?_
  refine lv_i2l hx hb d7_isTrain_11 rfl ?_
  obtain ⟨r1, hr1, h0⟩ := og_b h0
  refine k7_113 S  hr1 ⟨Nat.zero_le _, Nat.zero_le _⟩ ⟨Nat.le_of_ble_eq_true rfl, Nat.le_of_ble_eq_true rfl⟩ hl.1 (Nat.le_of_ble_eq_true rfl) d7_isTrain_12 ?_
  obtain ⟨hb0, h0⟩ := og_if h0
  exact q_zpure S hr hlk hb0 h0 d7_isTrain_15
set_option maxHeartbeats 4000000 in
set_option maxRecDepth 100000 in
theorem k7_173 {p : Program} {l : Launch} {e : Env} {R : Room} {s : State} {m : MethodId} {args : Array Value} {below : List Frame} {meth : Method} {c : Code} {H : Heap} {locs : List Loc} {cells slots : Nat} {Q : State → Prop} {cc : ByteArray} {pc nL : Nat} {ls : Array Slot} {rest : List Value} {w : WV} {σ : Mem} {x1 : Int32} {r : Int32} (S : CallFix p m c cc nL s args gtbl RX7) (hK : KS LM w s) (hR : Rp EM LM w σ H) (h0 : f7_isTrain σ x1 = some r) (hf : cells + 0 ≤ R.cells ∧ slots + 0 ≤ R.slots) (hRm : rm7_isTrain.frames + 1 ≤ R.frames ∧ 8 + (2 + 11) + rm7_isTrain.locals ≤ R.locals) (hl : ls.size = nL) (hW : (rest.map fun v => v.category).sum ≤ 8) (hdg : decode cc pc = .ok (.invokevirtual 173, 3)) (kk : W p l e R s m args below meth c H locs cells slots Q (F0 m (pc + 3) ls (.int r :: rest))) : W p l e R s m args below meth c H locs cells slots Q (F0 m pc ls (.int x1 :: .ref (w.2.2 0) :: rest)) := r_endp (run_V (n := 1) (As := [.int x1]) S hK hR (by decide) (eM_7 w _) rfl (gw_V (gt_at 1082 (by decide +kernel) (by decide +kernel)) (gt_at 1084 (by decide +kernel) (by decide +kernel)) (gt_at 50 (by decide +kernel) (by decide +kernel)) (gt_at 86 (by decide +kernel) (by decide +kernel)) (gt_at 1085 (by decide +kernel) (by decide +kernel))) (by decide +kernel) rfl (c7_isTrain l h0) ⟨rfl, rfl⟩ hRm hf hl rfl hW hdg) kk
/-! FourTenGatesModel.isUser(I)Z -/
abbrev rm7_isUser : Room := { frames := 1, cells := 0, slots := 0, locals := 25 }
theorem d7_isUser_0 : decode cX7_isUser 0 = .ok (.iload_n 1, 1) := by decide +kernel
theorem d7_isUser_1 : decode cX7_isUser 1 = .ok (.i2l, 1) := by decide +kernel
theorem d7_isUser_2 : decode cX7_isUser 2 = .ok (.lconst 0, 1) := by decide +kernel
theorem d7_isUser_3 : decode cX7_isUser 3 = .ok (.aload_n 0, 1) := by decide +kernel
theorem d7_isUser_4 : decode cX7_isUser 4 = .ok (.getfield 22, 3) := by decide +kernel
theorem d7_isUser_7 : decode cX7_isUser 7 = .ok (.iconst 0, 1) := by decide +kernel
theorem d7_isUser_8 : decode cX7_isUser 8 = .ok (.iaload, 1) := by decide +kernel
theorem d7_isUser_9 : decode cX7_isUser 9 = .ok (.iconst 1, 1) := by decide +kernel
theorem d7_isUser_10 : decode cX7_isUser 10 = .ok (.isub, 1) := by decide +kernel
theorem d7_isUser_11 : decode cX7_isUser 11 = .ok (.i2l, 1) := by decide +kernel
theorem d7_isUser_12 : decode cX7_isUser 12 = .ok (.invokestatic 113, 3) := by decide +kernel
theorem d7_isUser_15 : decode cX7_isUser 15 = .ok (.ireturn, 1) := by decide +kernel
def f7_isUser (σ : Mem) (x1 : Int32) : Option Int32 := Option.bind (f7_in x1.toInt64 (0 : Int64) (((σ 6 0) - 1).toInt64)) fun r1 => if r1 = 0 ∨ r1 = 1 then some r1 else none
set_option maxHeartbeats 4000000 in
set_option maxRecDepth 100000 in
theorem c7_isUser (l : Launch) {w : WV} {σ : Mem} {x1 : Int32} {r : Int32} (h0 : f7_isUser σ x1 = some r) : Met l yX7_isUser (wy yX7_isUser cX7_isUser 2 (some .boolean)) rm7_isUser (Pw EM LM w [.ref (w.2.2 0), .int x1] σ) (Qp (.int r)) 0 0 (fun _ => False) := by
  refine mk_met (by decide) (Nat.le_of_ble_eq_true rfl) ?_
  intro p e s m below meth c S hr hlk hK hR ls hl
  obtain ⟨hx, hb, hml, hown, hts⟩ := id S
  have hl : lv_has ls 2 [(0, .ref (w.2.2 0)), (1, .int x1)] := hl
  unfold f7_isUser at h0
  refine lv_iload_n hx hb d7_isUser_0 rfl (lv_at hl 1 rfl) ?_
  refine lv_i2l hx hb d7_isUser_1 rfl ?_
  refine lv_lconst (v := 0) hx hb d7_isUser_2 (by decide) ?_
  refine lv_aload_n hx hb d7_isUser_3 rfl (lv_at hl 0 rfl) ?_
  refine g7_22 S hK hR d7_isUser_4 ?_
  refine lv_iconst (v := 0) hx hb d7_isUser_7 (by decide) ?_
  refine q_ld (k := 0) S hK hR (by decide) (eM_105 w _) (vin (by decide)) (by decide) d7_isUser_8 ?_
  refine lv_iconst (v := 1) hx hb d7_isUser_9 (by decide) ?_
  refine lv_isub hx hb d7_isUser_10 ?_
  refine lv_i2l hx hb d7_isUser_11 rfl ?_
  obtain ⟨r1, hr1, h0⟩ := og_b h0
  refine k7_113 S  hr1 ⟨Nat.zero_le _, Nat.zero_le _⟩ ⟨Nat.le_of_ble_eq_true rfl, Nat.le_of_ble_eq_true rfl⟩ hl.1 (Nat.le_of_ble_eq_true rfl) d7_isUser_12 ?_
  obtain ⟨hb0, h0⟩ := og_if h0
  exact q_zpure S hr hlk hb0 h0 d7_isUser_15
set_option maxHeartbeats 4000000 in
set_option maxRecDepth 100000 in
theorem k7_179 {p : Program} {l : Launch} {e : Env} {R : Room} {s : State} {m : MethodId} {args : Array Value} {below : List Frame} {meth : Method} {c : Code} {H : Heap} {locs : List Loc} {cells slots : Nat} {Q : State → Prop} {cc : ByteArray} {pc nL : Nat} {ls : Array Slot} {rest : List Value} {w : WV} {σ : Mem} {x1 : Int32} {r : Int32} (S : CallFix p m c cc nL s args gtbl RX7) (hK : KS LM w s) (hR : Rp EM LM w σ H) (h0 : f7_isUser σ x1 = some r) (hf : cells + 0 ≤ R.cells ∧ slots + 0 ≤ R.slots) (hRm : rm7_isUser.frames + 1 ≤ R.frames ∧ 8 + (2 + 11) + rm7_isUser.locals ≤ R.locals) (hl : ls.size = nL) (hW : (rest.map fun v => v.category).sum ≤ 8) (hdg : decode cc pc = .ok (.invokevirtual 179, 3)) (kk : W p l e R s m args below meth c H locs cells slots Q (F0 m (pc + 3) ls (.int r :: rest))) : W p l e R s m args below meth c H locs cells slots Q (F0 m pc ls (.int x1 :: .ref (w.2.2 0) :: rest)) := r_endp (run_V (n := 1) (As := [.int x1]) S hK hR (by decide) (eM_7 w _) rfl (gw_V (gt_at 1099 (by decide +kernel) (by decide +kernel)) (gt_at 1101 (by decide +kernel) (by decide +kernel)) (gt_at 53 (by decide +kernel) (by decide +kernel)) (gt_at 86 (by decide +kernel) (by decide +kernel)) (gt_at 1102 (by decide +kernel) (by decide +kernel))) (by decide +kernel) rfl (c7_isUser l h0) ⟨rfl, rfl⟩ hRm hf hl rfl hW hdg) kk
/-! FourTenGatesModel.isRule(I)Z -/
abbrev rm7_isRule : Room := { frames := 1, cells := 0, slots := 0, locals := 25 }
theorem d7_isRule_0 : decode cX7_isRule 0 = .ok (.iload_n 0, 1) := by decide +kernel
theorem d7_isRule_1 : decode cX7_isRule 1 = .ok (.i2l, 1) := by decide +kernel
theorem d7_isRule_2 : decode cX7_isRule 2 = .ok (.lconst 0, 1) := by decide +kernel
theorem d7_isRule_3 : decode cX7_isRule 3 = .ok (.ldc2_w 168, 3) := by decide +kernel
theorem d7_isRule_6 : decode cX7_isRule 6 = .ok (.invokestatic 113, 3) := by decide +kernel
theorem d7_isRule_9 : decode cX7_isRule 9 = .ok (.ireturn, 1) := by decide +kernel
def f7_isRule (x0 : Int32) : Option Int32 := Option.bind (f7_in x0.toInt64 (0 : Int64) (3 : Int64)) fun r1 => if r1 = 0 ∨ r1 = 1 then some r1 else none
set_option maxHeartbeats 4000000 in
set_option maxRecDepth 100000 in
theorem c7_isRule (l : Launch) {x0 : Int32} {r : Int32} (h0 : f7_isRule x0 = some r) : Met l yX7_isRule (wy yX7_isRule cX7_isRule 1 (some .boolean)) rm7_isRule (Ps [.int x0]) (Qp (.int r)) 0 0 (fun _ => False) := by
  refine mk_mets (by decide) (Nat.le_of_ble_eq_true rfl) ?_
  intro p e s m below meth c S hr hlk ls hl
  obtain ⟨hx, hb, hml, hown, hts⟩ := id S
  have hl : lv_has ls 1 [(0, .int x0)] := hl
  unfold f7_isRule at h0
  refine lv_iload_n hx hb d7_isRule_0 rfl (lv_at hl 0 rfl) ?_
  refine lv_i2l hx hb d7_isRule_1 rfl ?_
  refine lv_lconst (v := 0) hx hb d7_isRule_2 (by decide) ?_
  refine lv_ldc2 (v := 3) hx hb hown (hts _ (gt_at 1086 (by decide +kernel) (by decide +kernel))) d7_isRule_3 ?_
  obtain ⟨r1, hr1, h0⟩ := og_b h0
  refine k7_113 S  hr1 ⟨Nat.zero_le _, Nat.zero_le _⟩ ⟨Nat.le_of_ble_eq_true rfl, Nat.le_of_ble_eq_true rfl⟩ hl.1 (Nat.le_of_ble_eq_true rfl) d7_isRule_6 ?_
  obtain ⟨hb0, h0⟩ := og_if h0
  exact q_zpure S hr hlk hb0 h0 d7_isRule_9
set_option maxHeartbeats 4000000 in
set_option maxRecDepth 100000 in
theorem k7_252 {p : Program} {l : Launch} {e : Env} {R : Room} {s : State} {m : MethodId} {args : Array Value} {below : List Frame} {meth : Method} {c : Code} {H : Heap} {locs : List Loc} {cells slots : Nat} {Q : State → Prop} {cc : ByteArray} {pc nL : Nat} {ls : Array Slot} {rest : List Value} {x0 : Int32} {r : Int32} (S : CallFix p m c cc nL s args gtbl RX7) (h0 : f7_isRule x0 = some r) (hf : cells + 0 ≤ R.cells ∧ slots + 0 ≤ R.slots) (hRm : rm7_isRule.frames + 1 ≤ R.frames ∧ 8 + (1 + 11) + rm7_isRule.locals ≤ R.locals) (hl : ls.size = nL) (hW : (rest.map fun v => v.category).sum ≤ 8) (hdg : decode cc pc = .ok (.invokestatic 252, 3)) (kk : W p l e R s m args below meth c H locs cells slots Q (F0 m (pc + 3) ls (.int r :: rest))) : W p l e R s m args below meth c H locs cells slots Q (F0 m pc ls (.int x0 :: rest)) := r_endp (run_S (n := 1) (As := [.int x0]) S (gw_S (gt_at 1107 (by decide +kernel) (by decide +kernel)) (gt_at 1108 (by decide +kernel) (by decide +kernel)) (gt_at 86 (by decide +kernel) (by decide +kernel)) (gt_at 1109 (by decide +kernel) (by decide +kernel))) (by decide +kernel) rfl (c7_isRule l h0) ⟨rfl, rfl⟩ hRm hf hl rfl hW hdg) kk
/-! FourTenGatesModel.comesAt(I)I -/
abbrev rm7_comesAt : Room := { frames := 0, cells := 0, slots := 0, locals := 0 }
theorem d7_comesAt_0 : decode cX7_comesAt 0 = .ok (.bipush 6, 2) := by decide +kernel
theorem d7_comesAt_2 : decode cX7_comesAt 2 = .ok (.aload_n 0, 1) := by decide +kernel
theorem d7_comesAt_3 : decode cX7_comesAt 3 = .ok (.getfield 16, 3) := by decide +kernel
theorem d7_comesAt_6 : decode cX7_comesAt 6 = .ok (.iload_n 1, 1) := by decide +kernel
theorem d7_comesAt_7 : decode cX7_comesAt 7 = .ok (.iaload, 1) := by decide +kernel
theorem d7_comesAt_8 : decode cX7_comesAt 8 = .ok (.aload_n 0, 1) := by decide +kernel
theorem d7_comesAt_9 : decode cX7_comesAt 9 = .ok (.getfield 55, 3) := by decide +kernel
theorem d7_comesAt_12 : decode cX7_comesAt 12 = .ok (.iload_n 1, 1) := by decide +kernel
theorem d7_comesAt_13 : decode cX7_comesAt 13 = .ok (.iaload, 1) := by decide +kernel
theorem d7_comesAt_14 : decode cX7_comesAt 14 = .ok (.iadd, 1) := by decide +kernel
theorem d7_comesAt_15 : decode cX7_comesAt 15 = .ok (.imul, 1) := by decide +kernel
theorem d7_comesAt_16 : decode cX7_comesAt 16 = .ok (.ireturn, 1) := by decide +kernel
def f7_comesAt (σ : Mem) (x1 : Int32) : Option Int32 := if ¬ (x1 < 0 ∨ 12 ≤ x1.toNatClampNeg) then if ¬ (x1 < 0 ∨ 19 ≤ x1.toNatClampNeg) then some (6 * ((σ 4 x1.toNatClampNeg) + (σ 17 x1.toNatClampNeg))) else none else none
set_option maxHeartbeats 4000000 in
set_option maxRecDepth 100000 in
theorem c7_comesAt (l : Launch) {w : WV} {σ : Mem} {x1 : Int32} {r : Int32} (h0 : f7_comesAt σ x1 = some r) : Met l yX7_comesAt (wy yX7_comesAt cX7_comesAt 2 (some .int)) rm7_comesAt (Pw EM LM w [.ref (w.2.2 0), .int x1] σ) (Qp (.int r)) 0 0 (fun _ => False) := by
  refine mk_met (by decide) (Nat.le_of_ble_eq_true rfl) ?_
  intro p e s m below meth c S hr hlk hK hR ls hl
  obtain ⟨hx, hb, hml, hown, hts⟩ := id S
  have hl : lv_has ls 2 [(0, .ref (w.2.2 0)), (1, .int x1)] := hl
  unfold f7_comesAt at h0
  refine lv_bipush (v := 6) hx hb d7_comesAt_0 (by decide) ?_
  refine lv_aload_n hx hb d7_comesAt_2 rfl (lv_at hl 0 rfl) ?_
  refine g7_16 S hK hR d7_comesAt_3 ?_
  refine lv_iload_n hx hb d7_comesAt_6 rfl (lv_at hl 1 rfl) ?_
  obtain ⟨hi1, h0⟩ := og_if h0
  refine q_ld (k := x1.toNatClampNeg) S hK hR (by decide) (eM_103 w _) hi1 rfl d7_comesAt_7 ?_
  refine lv_aload_n hx hb d7_comesAt_8 rfl (lv_at hl 0 rfl) ?_
  refine g7_55 S hK hR d7_comesAt_9 ?_
  refine lv_iload_n hx hb d7_comesAt_12 rfl (lv_at hl 1 rfl) ?_
  obtain ⟨hi2, h0⟩ := og_if h0
  refine q_ld (k := x1.toNatClampNeg) S hK hR (by decide) (eM_116 w _) hi2 rfl d7_comesAt_13 ?_
  refine lv_iadd hx hb d7_comesAt_14 ?_
  refine lv_imul hx hb d7_comesAt_15 ?_
  exact q_ipure S hr hlk h0 d7_comesAt_16
set_option maxHeartbeats 4000000 in
set_option maxRecDepth 100000 in
theorem k7_170 {p : Program} {l : Launch} {e : Env} {R : Room} {s : State} {m : MethodId} {args : Array Value} {below : List Frame} {meth : Method} {c : Code} {H : Heap} {locs : List Loc} {cells slots : Nat} {Q : State → Prop} {cc : ByteArray} {pc nL : Nat} {ls : Array Slot} {rest : List Value} {w : WV} {σ : Mem} {x1 : Int32} {r : Int32} (S : CallFix p m c cc nL s args gtbl RX7) (hK : KS LM w s) (hR : Rp EM LM w σ H) (h0 : f7_comesAt σ x1 = some r) (hf : cells + 0 ≤ R.cells ∧ slots + 0 ≤ R.slots) (hRm : rm7_comesAt.frames + 1 ≤ R.frames ∧ 8 + (2 + 11) + rm7_comesAt.locals ≤ R.locals) (hl : ls.size = nL) (hW : (rest.map fun v => v.category).sum ≤ 8) (hdg : decode cc pc = .ok (.invokevirtual 170, 3)) (kk : W p l e R s m args below meth c H locs cells slots Q (F0 m (pc + 3) ls (.int r :: rest))) : W p l e R s m args below meth c H locs cells slots Q (F0 m pc ls (.int x1 :: .ref (w.2.2 0) :: rest)) := r_endp (run_V (n := 1) (As := [.int x1]) S hK hR (by decide) (eM_7 w _) rfl (gw_V (gt_at 1091 (by decide +kernel) (by decide +kernel)) (gt_at 1093 (by decide +kernel) (by decide +kernel)) (gt_at 52 (by decide +kernel) (by decide +kernel)) (gt_at 86 (by decide +kernel) (by decide +kernel)) (gt_at 1094 (by decide +kernel) (by decide +kernel))) (by decide +kernel) rfl (c7_comesAt l h0) ⟨rfl, rfl⟩ hRm hf hl rfl hW hdg) kk
/-! FourTenGatesModel.bellOf(I)I -/
abbrev rm7_bellOf : Room := { frames := 1, cells := 0, slots := 0, locals := 21 }
theorem d7_bellOf_0 : decode cX7_bellOf 0 = .ok (.aload_n 0, 1) := by decide +kernel
theorem d7_bellOf_1 : decode cX7_bellOf 1 = .ok (.getfield 19, 3) := by decide +kernel
theorem d7_bellOf_4 : decode cX7_bellOf 4 = .ok (.iload_n 1, 1) := by decide +kernel
theorem d7_bellOf_5 : decode cX7_bellOf 5 = .ok (.iaload, 1) := by decide +kernel
theorem d7_bellOf_6 : decode cX7_bellOf 6 = .ok (.ifCond .ne 8, 3) := by decide +kernel
theorem d7_bellOf_9 : decode cX7_bellOf 9 = .ok (.bipush 66, 2) := by decide +kernel
theorem d7_bellOf_11 : decode cX7_bellOf 11 = .ok (.goto 5, 3) := by decide +kernel
theorem d7_bellOf_14 : decode cX7_bellOf 14 = .ok (.bipush 36, 2) := by decide +kernel
theorem d7_bellOf_16 : decode cX7_bellOf 16 = .ok (.istore_n 2, 1) := by decide +kernel
theorem d7_bellOf_17 : decode cX7_bellOf 17 = .ok (.aload_n 0, 1) := by decide +kernel
theorem d7_bellOf_18 : decode cX7_bellOf 18 = .ok (.iload_n 1, 1) := by decide +kernel
theorem d7_bellOf_19 : decode cX7_bellOf 19 = .ok (.invokevirtual 170, 3) := by decide +kernel
theorem d7_bellOf_22 : decode cX7_bellOf 22 = .ok (.iload_n 2, 1) := by decide +kernel
theorem d7_bellOf_23 : decode cX7_bellOf 23 = .ok (.isub, 1) := by decide +kernel
theorem d7_bellOf_24 : decode cX7_bellOf 24 = .ok (.istore_n 3, 1) := by decide +kernel
theorem d7_bellOf_25 : decode cX7_bellOf 25 = .ok (.aload_n 0, 1) := by decide +kernel
theorem d7_bellOf_26 : decode cX7_bellOf 26 = .ok (.getfield 19, 3) := by decide +kernel
theorem d7_bellOf_29 : decode cX7_bellOf 29 = .ok (.iload_n 1, 1) := by decide +kernel
theorem d7_bellOf_30 : decode cX7_bellOf 30 = .ok (.iaload, 1) := by decide +kernel
theorem d7_bellOf_31 : decode cX7_bellOf 31 = .ok (.iconst 2, 1) := by decide +kernel
theorem d7_bellOf_32 : decode cX7_bellOf 32 = .ok (.if_icmp .ne 9, 3) := by decide +kernel
theorem d7_bellOf_35 : decode cX7_bellOf 35 = .ok (.sipush 360, 3) := by decide +kernel
theorem d7_bellOf_38 : decode cX7_bellOf 38 = .ok (.goto 12, 3) := by decide +kernel
theorem d7_bellOf_41 : decode cX7_bellOf 41 = .ok (.iload_n 3, 1) := by decide +kernel
theorem d7_bellOf_42 : decode cX7_bellOf 42 = .ok (.ifCond .ge 7, 3) := by decide +kernel
theorem d7_bellOf_45 : decode cX7_bellOf 45 = .ok (.iconst 0, 1) := by decide +kernel
theorem d7_bellOf_46 : decode cX7_bellOf 46 = .ok (.goto 4, 3) := by decide +kernel
theorem d7_bellOf_49 : decode cX7_bellOf 49 = .ok (.iload_n 3, 1) := by decide +kernel
theorem d7_bellOf_50 : decode cX7_bellOf 50 = .ok (.ireturn, 1) := by decide +kernel
def f7_bellOf_b16 (σ : Mem) (x1 : Int32) (s0 : Int32) : Option Int32 := Option.bind (f7_comesAt σ x1) fun r1 => if ¬ (x1 < 0 ∨ 12 ≤ x1.toNatClampNeg) then if (σ 5 x1.toNatClampNeg) = 2 then some 360 else if 0 ≤ (r1 - s0) then some (r1 - s0) else some 0 else none
set_option maxHeartbeats 4000000 in
set_option maxRecDepth 100000 in
theorem t7_bellOf_b16 {p : Program} {l : Launch} {e : Env} {s : State} {m : MethodId} {args : Array Value} {below : List Frame} {meth : Method} {c : Code} {w : WV} {σ : Mem} {r : Int32} (S : CallFix p m c cX7_bellOf 4 s args gtbl RX7) (hr : meth.sig.returnType = (some .int)) (hlk : meth.locks = false) (hK : KS LM w s) (hR : Rp EM LM w σ s.heap) : ∀ (x1 : Int32) (s0 : Int32), f7_bellOf_b16 σ x1 s0 = some r → ∀ (ls : Array Slot), lv_has ls 4 [(0, .ref (w.2.2 0)), (1, .int x1)] → W p l e rm7_bellOf s m args below meth c s.heap [] 0 0 (MQ below (Qp (.int r)) args s 0 0 (fun _ => False)) (F0 m 16 ls [.int s0]) := by
  obtain ⟨hx, hb, hml, hown, hts⟩ := id S
  intro x1 s0 h0 ls hl
  unfold f7_bellOf_b16 at h0
  refine lv_istore_n (lv' := [(2, .int s0), (0, .ref (w.2.2 0)), (1, .int x1)]) hx hb d7_bellOf_16 rfl hl (by decide) rfl (fun ls hl => ?_)
  refine lv_aload_n hx hb d7_bellOf_17 rfl (lv_at hl 1 rfl) ?_
  refine lv_iload_n hx hb d7_bellOf_18 rfl (lv_at hl 2 rfl) ?_
  obtain ⟨r1, hr1, h0⟩ := og_b h0
  refine k7_170 S hK hR  hr1 ⟨Nat.zero_le _, Nat.zero_le _⟩ ⟨Nat.le_of_ble_eq_true rfl, Nat.le_of_ble_eq_true rfl⟩ hl.1 (Nat.le_of_ble_eq_true rfl) d7_bellOf_19 ?_
  refine lv_iload_n hx hb d7_bellOf_22 rfl (lv_at hl 0 rfl) ?_
  refine lv_isub hx hb d7_bellOf_23 ?_
  refine lv_istore_n (lv' := [(3, .int (r1 - s0)), (2, .int s0), (0, .ref (w.2.2 0)), (1, .int x1)]) hx hb d7_bellOf_24 rfl hl (by decide) rfl (fun ls hl => ?_)
  refine lv_aload_n hx hb d7_bellOf_25 rfl (lv_at hl 2 rfl) ?_
  refine g7_19 S hK hR d7_bellOf_26 ?_
  refine lv_iload_n hx hb d7_bellOf_29 rfl (lv_at hl 3 rfl) ?_
  obtain ⟨hi2, h0⟩ := og_if h0
  refine q_ld (k := x1.toNatClampNeg) S hK hR (by decide) (eM_104 w _) hi2 rfl d7_bellOf_30 ?_
  refine lv_iconst (v := 2) hx hb d7_bellOf_31 (by decide) ?_
  refine lv_icmp_ne (tgt := 41) hx hb d7_bellOf_32 (by decide) (fun hc3 => ?_) (fun hc3 => ?_)
  · have h0 := og_f hc3 h0
    refine lv_iload_n hx hb d7_bellOf_41 rfl (lv_at hl 0 rfl) ?_
    refine lv_if_ge (tgt := 49) hx hb d7_bellOf_42 (by decide) (fun hc4 => ?_) (fun hc4 => ?_)
    · have h0 := og_t hc4 h0
      refine lv_iload_n hx hb d7_bellOf_49 rfl (lv_at hl 0 rfl) ?_
      exact q_ipure S hr hlk h0 d7_bellOf_50
    · have h0 := og_f hc4 h0
      refine lv_iconst (v := 0) hx hb d7_bellOf_45 (by decide) ?_
      refine lv_goto (tgt := 50) hx hb d7_bellOf_46 (by decide) ?_
      exact q_ipure S hr hlk h0 d7_bellOf_50
  · have h0 := og_t hc3 h0
    refine lv_sipush (v := 360) hx hb d7_bellOf_35 (by decide) ?_
    refine lv_goto (tgt := 50) hx hb d7_bellOf_38 (by decide) ?_
    exact q_ipure S hr hlk h0 d7_bellOf_50
def f7_bellOf (σ : Mem) (x1 : Int32) : Option Int32 := if ¬ (x1 < 0 ∨ 12 ≤ x1.toNatClampNeg) then if (σ 5 x1.toNatClampNeg) = 0 then f7_bellOf_b16 σ x1 66 else f7_bellOf_b16 σ x1 36 else none
set_option maxHeartbeats 4000000 in
set_option maxRecDepth 100000 in
theorem c7_bellOf (l : Launch) {w : WV} {σ : Mem} {x1 : Int32} {r : Int32} (h0 : f7_bellOf σ x1 = some r) : Met l yX7_bellOf (wy yX7_bellOf cX7_bellOf 4 (some .int)) rm7_bellOf (Pw EM LM w [.ref (w.2.2 0), .int x1] σ) (Qp (.int r)) 0 0 (fun _ => False) := by
  refine mk_met (by decide) (Nat.le_of_ble_eq_true rfl) ?_
  intro p e s m below meth c S hr hlk hK hR ls hl
  obtain ⟨hx, hb, hml, hown, hts⟩ := id S
  have hl : lv_has ls 4 [(0, .ref (w.2.2 0)), (1, .int x1)] := hl
  unfold f7_bellOf at h0
  refine lv_aload_n hx hb d7_bellOf_0 rfl (lv_at hl 0 rfl) ?_
  refine g7_19 S hK hR d7_bellOf_1 ?_
  refine lv_iload_n hx hb d7_bellOf_4 rfl (lv_at hl 1 rfl) ?_
  obtain ⟨hi1, h0⟩ := og_if h0
  refine q_ld (k := x1.toNatClampNeg) S hK hR (by decide) (eM_104 w _) hi1 rfl d7_bellOf_5 ?_
  refine lv_if_ne (tgt := 14) hx hb d7_bellOf_6 (by decide) (fun hc2 => ?_) (fun hc2 => ?_)
  · have h0 := og_f hc2 h0
    refine lv_bipush (v := 36) hx hb d7_bellOf_14 (by decide) ?_
    exact t7_bellOf_b16 S hr hlk hK hR x1 36 h0 _ (lv_sub hl [0, 1] rfl)
  · have h0 := og_t hc2 h0
    refine lv_bipush (v := 66) hx hb d7_bellOf_9 (by decide) ?_
    refine lv_goto (tgt := 16) hx hb d7_bellOf_11 (by decide) ?_
    exact t7_bellOf_b16 S hr hlk hK hR x1 66 h0 _ (lv_sub hl [0, 1] rfl)
set_option maxHeartbeats 4000000 in
set_option maxRecDepth 100000 in
theorem k7_176 {p : Program} {l : Launch} {e : Env} {R : Room} {s : State} {m : MethodId} {args : Array Value} {below : List Frame} {meth : Method} {c : Code} {H : Heap} {locs : List Loc} {cells slots : Nat} {Q : State → Prop} {cc : ByteArray} {pc nL : Nat} {ls : Array Slot} {rest : List Value} {w : WV} {σ : Mem} {x1 : Int32} {r : Int32} (S : CallFix p m c cc nL s args gtbl RX7) (hK : KS LM w s) (hR : Rp EM LM w σ H) (h0 : f7_bellOf σ x1 = some r) (hf : cells + 0 ≤ R.cells ∧ slots + 0 ≤ R.slots) (hRm : rm7_bellOf.frames + 1 ≤ R.frames ∧ 8 + (4 + 11) + rm7_bellOf.locals ≤ R.locals) (hl : ls.size = nL) (hW : (rest.map fun v => v.category).sum ≤ 8) (hdg : decode cc pc = .ok (.invokevirtual 176, 3)) (kk : W p l e R s m args below meth c H locs cells slots Q (F0 m (pc + 3) ls (.int r :: rest))) : W p l e R s m args below meth c H locs cells slots Q (F0 m pc ls (.int x1 :: .ref (w.2.2 0) :: rest)) := r_endp (run_V (n := 1) (As := [.int x1]) S hK hR (by decide) (eM_7 w _) rfl (gw_V (gt_at 1087 (by decide +kernel) (by decide +kernel)) (gt_at 1089 (by decide +kernel) (by decide +kernel)) (gt_at 51 (by decide +kernel) (by decide +kernel)) (gt_at 86 (by decide +kernel) (by decide +kernel)) (gt_at 1090 (by decide +kernel) (by decide +kernel))) (by decide +kernel) rfl (c7_bellOf l h0) ⟨rfl, rfl⟩ hRm hf hl rfl hW hdg) kk
/-! FourTenGatesModel.train(II)I -/
abbrev rm7_train : Room := { frames := 2, cells := 0, slots := 0, locals := 46 }
theorem d7_train_0 : decode cX7_train 0 = .ok (.aload_n 0, 1) := by decide +kernel
theorem d7_train_1 : decode cX7_train 1 = .ok (.iload_n 1, 1) := by decide +kernel
theorem d7_train_2 : decode cX7_train 2 = .ok (.invokevirtual 173, 3) := by decide +kernel
theorem d7_train_5 : decode cX7_train 5 = .ok (.ifCond .eq 15, 3) := by decide +kernel
theorem d7_train_8 : decode cX7_train 8 = .ok (.iload_n 2, 1) := by decide +kernel
theorem d7_train_9 : decode cX7_train 9 = .ok (.i2l, 1) := by decide +kernel
theorem d7_train_10 : decode cX7_train 10 = .ok (.lconst 0, 1) := by decide +kernel
theorem d7_train_11 : decode cX7_train 11 = .ok (.ldc2_w 168, 3) := by decide +kernel
theorem d7_train_14 : decode cX7_train 14 = .ok (.invokestatic 113, 3) := by decide +kernel
theorem d7_train_17 : decode cX7_train 17 = .ok (.ifCond .ne 5, 3) := by decide +kernel
theorem d7_train_20 : decode cX7_train 20 = .ok (.iconst (-1), 1) := by decide +kernel
theorem d7_train_21 : decode cX7_train 21 = .ok (.ireturn, 1) := by decide +kernel
theorem d7_train_22 : decode cX7_train 22 = .ok (.aload_n 0, 1) := by decide +kernel
theorem d7_train_23 : decode cX7_train 23 = .ok (.iload_n 1, 1) := by decide +kernel
theorem d7_train_24 : decode cX7_train 24 = .ok (.invokevirtual 176, 3) := by decide +kernel
theorem d7_train_27 : decode cX7_train 27 = .ok (.istore_n 3, 1) := by decide +kernel
theorem d7_train_28 : decode cX7_train 28 = .ok (.iload_n 2, 1) := by decide +kernel
theorem d7_train_29 : decode cX7_train 29 = .ok (.ifCond .ne 12, 3) := by decide +kernel
theorem d7_train_32 : decode cX7_train 32 = .ok (.aload_n 0, 1) := by decide +kernel
theorem d7_train_33 : decode cX7_train 33 = .ok (.getfield 16, 3) := by decide +kernel
theorem d7_train_36 : decode cX7_train 36 = .ok (.iload_n 1, 1) := by decide +kernel
theorem d7_train_37 : decode cX7_train 37 = .ok (.iaload, 1) := by decide +kernel
theorem d7_train_38 : decode cX7_train 38 = .ok (.goto 44, 3) := by decide +kernel
theorem d7_train_41 : decode cX7_train 41 = .ok (.iload_n 2, 1) := by decide +kernel
theorem d7_train_42 : decode cX7_train 42 = .ok (.iconst 1, 1) := by decide +kernel
theorem d7_train_43 : decode cX7_train 43 = .ok (.if_icmp .ne 12, 3) := by decide +kernel
theorem d7_train_46 : decode cX7_train 46 = .ok (.aload_n 0, 1) := by decide +kernel
theorem d7_train_47 : decode cX7_train 47 = .ok (.getfield 19, 3) := by decide +kernel
theorem d7_train_50 : decode cX7_train 50 = .ok (.iload_n 1, 1) := by decide +kernel
theorem d7_train_51 : decode cX7_train 51 = .ok (.iaload, 1) := by decide +kernel
theorem d7_train_52 : decode cX7_train 52 = .ok (.goto 30, 3) := by decide +kernel
theorem d7_train_55 : decode cX7_train 55 = .ok (.iload_n 2, 1) := by decide +kernel
theorem d7_train_56 : decode cX7_train 56 = .ok (.iconst 2, 1) := by decide +kernel
theorem d7_train_57 : decode cX7_train 57 = .ok (.if_icmp .ne 12, 3) := by decide +kernel
theorem d7_train_60 : decode cX7_train 60 = .ok (.aload_n 0, 1) := by decide +kernel
theorem d7_train_61 : decode cX7_train 61 = .ok (.getfield 55, 3) := by decide +kernel
theorem d7_train_64 : decode cX7_train 64 = .ok (.iload_n 1, 1) := by decide +kernel
theorem d7_train_65 : decode cX7_train 65 = .ok (.iaload, 1) := by decide +kernel
theorem d7_train_66 : decode cX7_train 66 = .ok (.goto 16, 3) := by decide +kernel
theorem d7_train_69 : decode cX7_train 69 = .ok (.iload_n 3, 1) := by decide +kernel
theorem d7_train_70 : decode cX7_train 70 = .ok (.sipush 360, 3) := by decide +kernel
theorem d7_train_73 : decode cX7_train 73 = .ok (.if_icmp .ge 7, 3) := by decide +kernel
theorem d7_train_76 : decode cX7_train 76 = .ok (.iload_n 3, 1) := by decide +kernel
theorem d7_train_77 : decode cX7_train 77 = .ok (.goto 5, 3) := by decide +kernel
theorem d7_train_80 : decode cX7_train 80 = .ok (.bipush (-4), 2) := by decide +kernel
theorem d7_train_82 : decode cX7_train 82 = .ok (.ireturn, 1) := by decide +kernel
def f7_train (σ : Mem) (x1 : Int32) (x2 : Int32) : Option Int32 := Option.bind (f7_isTrain σ x1) fun r1 => if r1 = 0 then some (-1) else Option.bind (f7_in x2.toInt64 (0 : Int64) (3 : Int64)) fun r3 => if r3 = 0 then some (-1) else Option.bind (f7_bellOf σ x1) fun r5 => if x2 = 0 then if ¬ (x1 < 0 ∨ 12 ≤ x1.toNatClampNeg) then some (σ 4 x1.toNatClampNeg) else none else if x2 = 1 then if ¬ (x1 < 0 ∨ 12 ≤ x1.toNatClampNeg) then some (σ 5 x1.toNatClampNeg) else none else if x2 = 2 then if ¬ (x1 < 0 ∨ 19 ≤ x1.toNatClampNeg) then some (σ 17 x1.toNatClampNeg) else none else if 360 ≤ r5 then some (-4) else some r5
set_option maxHeartbeats 4000000 in
set_option maxRecDepth 100000 in
theorem c7_train (l : Launch) {w : WV} {σ : Mem} {x1 : Int32} {x2 : Int32} {r : Int32} (h0 : f7_train σ x1 x2 = some r) : Met l yX7_train (wy yX7_train cX7_train 4 (some .int)) rm7_train (Pw EM LM w [.ref (w.2.2 0), .int x1, .int x2] σ) (Qp (.int r)) 0 0 (fun _ => False) := by
  refine mk_met (by decide) (Nat.le_of_ble_eq_true rfl) ?_
  intro p e s m below meth c S hr hlk hK hR ls hl
  obtain ⟨hx, hb, hml, hown, hts⟩ := id S
  have hl : lv_has ls 4 [(0, .ref (w.2.2 0)), (1, .int x1), (2, .int x2)] := hl
  unfold f7_train at h0
  refine lv_aload_n hx hb d7_train_0 rfl (lv_at hl 0 rfl) ?_
  refine lv_iload_n hx hb d7_train_1 rfl (lv_at hl 1 rfl) ?_
  obtain ⟨r1, hr1, h0⟩ := og_b h0
  refine k7_173 S hK hR  hr1 ⟨Nat.zero_le _, Nat.zero_le _⟩ ⟨Nat.le_of_ble_eq_true rfl, Nat.le_of_ble_eq_true rfl⟩ hl.1 (Nat.le_of_ble_eq_true rfl) d7_train_2 ?_
  refine lv_if_eq (tgt := 20) hx hb d7_train_5 (by decide) (fun hc2 => ?_) (fun hc2 => ?_)
  · have h0 := og_t hc2 h0
    refine lv_iconst (v := (-1)) hx hb d7_train_20 (by decide) ?_
    exact q_ipure S hr hlk h0 d7_train_21
  · have h0 := og_f hc2 h0
    refine lv_iload_n hx hb d7_train_8 rfl (lv_at hl 2 rfl) ?_
    refine lv_i2l hx hb d7_train_9 rfl ?_
    refine lv_lconst (v := 0) hx hb d7_train_10 (by decide) ?_
    refine lv_ldc2 (v := 3) hx hb hown (hts _ (gt_at 1086 (by decide +kernel) (by decide +kernel))) d7_train_11 ?_
    obtain ⟨r3, hr3, h0⟩ := og_b h0
    refine k7_113 S  hr3 ⟨Nat.zero_le _, Nat.zero_le _⟩ ⟨Nat.le_of_ble_eq_true rfl, Nat.le_of_ble_eq_true rfl⟩ hl.1 (Nat.le_of_ble_eq_true rfl) d7_train_14 ?_
    refine lv_if_ne (tgt := 22) hx hb d7_train_17 (by decide) (fun hc4 => ?_) (fun hc4 => ?_)
    · have h0 := og_f hc4 h0
      refine lv_aload_n hx hb d7_train_22 rfl (lv_at hl 0 rfl) ?_
      refine lv_iload_n hx hb d7_train_23 rfl (lv_at hl 1 rfl) ?_
      obtain ⟨r5, hr5, h0⟩ := og_b h0
      refine k7_176 S hK hR  hr5 ⟨Nat.zero_le _, Nat.zero_le _⟩ ⟨Nat.le_of_ble_eq_true rfl, Nat.le_of_ble_eq_true rfl⟩ hl.1 (Nat.le_of_ble_eq_true rfl) d7_train_24 ?_
      refine lv_istore_n (lv' := [(3, .int r5), (0, .ref (w.2.2 0)), (1, .int x1), (2, .int x2)]) hx hb d7_train_27 rfl hl (by decide) rfl (fun ls hl => ?_)
      refine lv_iload_n hx hb d7_train_28 rfl (lv_at hl 3 rfl) ?_
      refine lv_if_ne (tgt := 41) hx hb d7_train_29 (by decide) (fun hc6 => ?_) (fun hc6 => ?_)
      · have h0 := og_f hc6 h0
        refine lv_iload_n hx hb d7_train_41 rfl (lv_at hl 3 rfl) ?_
        refine lv_iconst (v := 1) hx hb d7_train_42 (by decide) ?_
        refine lv_icmp_ne (tgt := 55) hx hb d7_train_43 (by decide) (fun hc7 => ?_) (fun hc7 => ?_)
        · have h0 := og_f hc7 h0
          refine lv_iload_n hx hb d7_train_55 rfl (lv_at hl 3 rfl) ?_
          refine lv_iconst (v := 2) hx hb d7_train_56 (by decide) ?_
          refine lv_icmp_ne (tgt := 69) hx hb d7_train_57 (by decide) (fun hc8 => ?_) (fun hc8 => ?_)
          · have h0 := og_f hc8 h0
            refine lv_iload_n hx hb d7_train_69 rfl (lv_at hl 0 rfl) ?_
            refine lv_sipush (v := 360) hx hb d7_train_70 (by decide) ?_
            refine lv_icmp_ge (tgt := 80) hx hb d7_train_73 (by decide) (fun hc9 => ?_) (fun hc9 => ?_)
            · have h0 := og_t hc9 h0
              refine lv_bipush (v := (-4)) hx hb d7_train_80 (by decide) ?_
              exact q_ipure S hr hlk h0 d7_train_82
            · have h0 := og_f hc9 h0
              refine lv_iload_n hx hb d7_train_76 rfl (lv_at hl 0 rfl) ?_
              refine lv_goto (tgt := 82) hx hb d7_train_77 (by decide) ?_
              exact q_ipure S hr hlk h0 d7_train_82
          · have h0 := og_t hc8 h0
            refine lv_aload_n hx hb d7_train_60 rfl (lv_at hl 1 rfl) ?_
            refine g7_55 S hK hR d7_train_61 ?_
            refine lv_iload_n hx hb d7_train_64 rfl (lv_at hl 2 rfl) ?_
            obtain ⟨hi9, h0⟩ := og_if h0
            refine q_ld (k := x1.toNatClampNeg) S hK hR (by decide) (eM_116 w _) hi9 rfl d7_train_65 ?_
            refine lv_goto (tgt := 82) hx hb d7_train_66 (by decide) ?_
            exact q_ipure S hr hlk h0 d7_train_82
        · have h0 := og_t hc7 h0
          refine lv_aload_n hx hb d7_train_46 rfl (lv_at hl 1 rfl) ?_
          refine g7_19 S hK hR d7_train_47 ?_
          refine lv_iload_n hx hb d7_train_50 rfl (lv_at hl 2 rfl) ?_
          obtain ⟨hi8, h0⟩ := og_if h0
          refine q_ld (k := x1.toNatClampNeg) S hK hR (by decide) (eM_104 w _) hi8 rfl d7_train_51 ?_
          refine lv_goto (tgt := 82) hx hb d7_train_52 (by decide) ?_
          exact q_ipure S hr hlk h0 d7_train_82
      · have h0 := og_t hc6 h0
        refine lv_aload_n hx hb d7_train_32 rfl (lv_at hl 1 rfl) ?_
        refine g7_16 S hK hR d7_train_33 ?_
        refine lv_iload_n hx hb d7_train_36 rfl (lv_at hl 2 rfl) ?_
        obtain ⟨hi7, h0⟩ := og_if h0
        refine q_ld (k := x1.toNatClampNeg) S hK hR (by decide) (eM_103 w _) hi7 rfl d7_train_37 ?_
        refine lv_goto (tgt := 82) hx hb d7_train_38 (by decide) ?_
        exact q_ipure S hr hlk h0 d7_train_82
    · have h0 := og_t hc4 h0
      refine lv_iconst (v := (-1)) hx hb d7_train_20 (by decide) ?_
      exact q_ipure S hr hlk h0 d7_train_21
/-! FourTenGatesModel.user(II)I -/
abbrev rm7_user : Room := { frames := 2, cells := 0, slots := 0, locals := 46 }
theorem d7_user_0 : decode cX7_user 0 = .ok (.aload_n 0, 1) := by decide +kernel
theorem d7_user_1 : decode cX7_user 1 = .ok (.iload_n 1, 1) := by decide +kernel
theorem d7_user_2 : decode cX7_user 2 = .ok (.invokevirtual 179, 3) := by decide +kernel
theorem d7_user_5 : decode cX7_user 5 = .ok (.ifCond .eq 13, 3) := by decide +kernel
theorem d7_user_8 : decode cX7_user 8 = .ok (.iload_n 2, 1) := by decide +kernel
theorem d7_user_9 : decode cX7_user 9 = .ok (.i2l, 1) := by decide +kernel
theorem d7_user_10 : decode cX7_user 10 = .ok (.lconst 0, 1) := by decide +kernel
theorem d7_user_11 : decode cX7_user 11 = .ok (.lconst 1, 1) := by decide +kernel
theorem d7_user_12 : decode cX7_user 12 = .ok (.invokestatic 113, 3) := by decide +kernel
theorem d7_user_15 : decode cX7_user 15 = .ok (.ifCond .ne 7, 3) := by decide +kernel
theorem d7_user_18 : decode cX7_user 18 = .ok (.iconst (-1), 1) := by decide +kernel
theorem d7_user_19 : decode cX7_user 19 = .ok (.goto 22, 3) := by decide +kernel
theorem d7_user_22 : decode cX7_user 22 = .ok (.iload_n 2, 1) := by decide +kernel
theorem d7_user_23 : decode cX7_user 23 = .ok (.ifCond .ne 12, 3) := by decide +kernel
theorem d7_user_26 : decode cX7_user 26 = .ok (.aload_n 0, 1) := by decide +kernel
theorem d7_user_27 : decode cX7_user 27 = .ok (.getfield 25, 3) := by decide +kernel
theorem d7_user_30 : decode cX7_user 30 = .ok (.iload_n 1, 1) := by decide +kernel
theorem d7_user_31 : decode cX7_user 31 = .ok (.iaload, 1) := by decide +kernel
theorem d7_user_32 : decode cX7_user 32 = .ok (.goto 9, 3) := by decide +kernel
theorem d7_user_35 : decode cX7_user 35 = .ok (.aload_n 0, 1) := by decide +kernel
theorem d7_user_36 : decode cX7_user 36 = .ok (.getfield 28, 3) := by decide +kernel
theorem d7_user_39 : decode cX7_user 39 = .ok (.iload_n 1, 1) := by decide +kernel
theorem d7_user_40 : decode cX7_user 40 = .ok (.iaload, 1) := by decide +kernel
theorem d7_user_41 : decode cX7_user 41 = .ok (.ireturn, 1) := by decide +kernel
def f7_user (σ : Mem) (x1 : Int32) (x2 : Int32) : Option Int32 := Option.bind (f7_isUser σ x1) fun r1 => if r1 = 0 then some (-1) else Option.bind (f7_in x2.toInt64 (0 : Int64) (1 : Int64)) fun r3 => if r3 = 0 then some (-1) else if x2 = 0 then if ¬ (x1 < 0 ∨ 16 ≤ x1.toNatClampNeg) then some (σ 7 x1.toNatClampNeg) else none else if ¬ (x1 < 0 ∨ 16 ≤ x1.toNatClampNeg) then some (σ 8 x1.toNatClampNeg) else none
set_option maxHeartbeats 4000000 in
set_option maxRecDepth 100000 in
theorem c7_user (l : Launch) {w : WV} {σ : Mem} {x1 : Int32} {x2 : Int32} {r : Int32} (h0 : f7_user σ x1 x2 = some r) : Met l yX7_user (wy yX7_user cX7_user 3 (some .int)) rm7_user (Pw EM LM w [.ref (w.2.2 0), .int x1, .int x2] σ) (Qp (.int r)) 0 0 (fun _ => False) := by
  refine mk_met (by decide) (Nat.le_of_ble_eq_true rfl) ?_
  intro p e s m below meth c S hr hlk hK hR ls hl
  obtain ⟨hx, hb, hml, hown, hts⟩ := id S
  have hl : lv_has ls 3 [(0, .ref (w.2.2 0)), (1, .int x1), (2, .int x2)] := hl
  unfold f7_user at h0
  refine lv_aload_n hx hb d7_user_0 rfl (lv_at hl 0 rfl) ?_
  refine lv_iload_n hx hb d7_user_1 rfl (lv_at hl 1 rfl) ?_
  obtain ⟨r1, hr1, h0⟩ := og_b h0
  refine k7_179 S hK hR  hr1 ⟨Nat.zero_le _, Nat.zero_le _⟩ ⟨Nat.le_of_ble_eq_true rfl, Nat.le_of_ble_eq_true rfl⟩ hl.1 (Nat.le_of_ble_eq_true rfl) d7_user_2 ?_
  refine lv_if_eq (tgt := 18) hx hb d7_user_5 (by decide) (fun hc2 => ?_) (fun hc2 => ?_)
  · have h0 := og_t hc2 h0
    refine lv_iconst (v := (-1)) hx hb d7_user_18 (by decide) ?_
    refine lv_goto (tgt := 41) hx hb d7_user_19 (by decide) ?_
    exact q_ipure S hr hlk h0 d7_user_41
  · have h0 := og_f hc2 h0
    refine lv_iload_n hx hb d7_user_8 rfl (lv_at hl 2 rfl) ?_
    refine lv_i2l hx hb d7_user_9 rfl ?_
    refine lv_lconst (v := 0) hx hb d7_user_10 (by decide) ?_
    refine lv_lconst (v := 1) hx hb d7_user_11 (by decide) ?_
    obtain ⟨r3, hr3, h0⟩ := og_b h0
    refine k7_113 S  hr3 ⟨Nat.zero_le _, Nat.zero_le _⟩ ⟨Nat.le_of_ble_eq_true rfl, Nat.le_of_ble_eq_true rfl⟩ hl.1 (Nat.le_of_ble_eq_true rfl) d7_user_12 ?_
    refine lv_if_ne (tgt := 22) hx hb d7_user_15 (by decide) (fun hc4 => ?_) (fun hc4 => ?_)
    · have h0 := og_f hc4 h0
      refine lv_iload_n hx hb d7_user_22 rfl (lv_at hl 2 rfl) ?_
      refine lv_if_ne (tgt := 35) hx hb d7_user_23 (by decide) (fun hc5 => ?_) (fun hc5 => ?_)
      · have h0 := og_f hc5 h0
        refine lv_aload_n hx hb d7_user_35 rfl (lv_at hl 0 rfl) ?_
        refine g7_28 S hK hR d7_user_36 ?_
        refine lv_iload_n hx hb d7_user_39 rfl (lv_at hl 1 rfl) ?_
        obtain ⟨hi6, h0⟩ := og_if h0
        refine q_ld (k := x1.toNatClampNeg) S hK hR (by decide) (eM_107 w _) hi6 rfl d7_user_40 ?_
        exact q_ipure S hr hlk h0 d7_user_41
      · have h0 := og_t hc5 h0
        refine lv_aload_n hx hb d7_user_26 rfl (lv_at hl 0 rfl) ?_
        refine g7_25 S hK hR d7_user_27 ?_
        refine lv_iload_n hx hb d7_user_30 rfl (lv_at hl 1 rfl) ?_
        obtain ⟨hi6, h0⟩ := og_if h0
        refine q_ld (k := x1.toNatClampNeg) S hK hR (by decide) (eM_106 w _) hi6 rfl d7_user_31 ?_
        refine lv_goto (tgt := 41) hx hb d7_user_32 (by decide) ?_
        exact q_ipure S hr hlk h0 d7_user_41
    · have h0 := og_t hc4 h0
      refine lv_iconst (v := (-1)) hx hb d7_user_18 (by decide) ?_
      refine lv_goto (tgt := 41) hx hb d7_user_19 (by decide) ?_
      exact q_ipure S hr hlk h0 d7_user_41
/-! FourTenGatesModel.beginHour()V -/
abbrev rm7_beginHour : Room := { frames := 0, cells := 0, slots := 0, locals := 0 }
theorem d7_beginHour_0 : decode cX7_beginHour 0 = .ok (.aload_n 0, 1) := by decide +kernel
theorem d7_beginHour_1 : decode cX7_beginHour 1 = .ok (.iconst 0, 1) := by decide +kernel
theorem d7_beginHour_2 : decode cX7_beginHour 2 = .ok (.putfield 182, 3) := by decide +kernel
theorem d7_beginHour_5 : decode cX7_beginHour 5 = .ok (.aload_n 0, 1) := by decide +kernel
theorem d7_beginHour_6 : decode cX7_beginHour 6 = .ok (.iconst 0, 1) := by decide +kernel
theorem d7_beginHour_7 : decode cX7_beginHour 7 = .ok (.putfield 185, 3) := by decide +kernel
theorem d7_beginHour_10 : decode cX7_beginHour 10 = .ok (.aload_n 0, 1) := by decide +kernel
theorem d7_beginHour_11 : decode cX7_beginHour 11 = .ok (.iconst 0, 1) := by decide +kernel
theorem d7_beginHour_12 : decode cX7_beginHour 12 = .ok (.putfield 188, 3) := by decide +kernel
theorem d7_beginHour_15 : decode cX7_beginHour 15 = .ok (.aload_n 0, 1) := by decide +kernel
theorem d7_beginHour_16 : decode cX7_beginHour 16 = .ok (.iconst 0, 1) := by decide +kernel
theorem d7_beginHour_17 : decode cX7_beginHour 17 = .ok (.putfield 192, 3) := by decide +kernel
theorem d7_beginHour_20 : decode cX7_beginHour 20 = .ok (.iconst 0, 1) := by decide +kernel
theorem d7_beginHour_21 : decode cX7_beginHour 21 = .ok (.istore_n 1, 1) := by decide +kernel
theorem d7_beginHour_22 : decode cX7_beginHour 22 = .ok (.iload_n 1, 1) := by decide +kernel
theorem d7_beginHour_23 : decode cX7_beginHour 23 = .ok (.bipush 6, 2) := by decide +kernel
theorem d7_beginHour_25 : decode cX7_beginHour 25 = .ok (.if_icmp .ge 24, 3) := by decide +kernel
theorem d7_beginHour_28 : decode cX7_beginHour 28 = .ok (.aload_n 0, 1) := by decide +kernel
theorem d7_beginHour_29 : decode cX7_beginHour 29 = .ok (.getfield 76, 3) := by decide +kernel
theorem d7_beginHour_32 : decode cX7_beginHour 32 = .ok (.iload_n 1, 1) := by decide +kernel
theorem d7_beginHour_33 : decode cX7_beginHour 33 = .ok (.bipush (-4), 2) := by decide +kernel
theorem d7_beginHour_35 : decode cX7_beginHour 35 = .ok (.iastore, 1) := by decide +kernel
theorem d7_beginHour_36 : decode cX7_beginHour 36 = .ok (.aload_n 0, 1) := by decide +kernel
theorem d7_beginHour_37 : decode cX7_beginHour 37 = .ok (.getfield 79, 3) := by decide +kernel
theorem d7_beginHour_40 : decode cX7_beginHour 40 = .ok (.iload_n 1, 1) := by decide +kernel
theorem d7_beginHour_41 : decode cX7_beginHour 41 = .ok (.iconst 0, 1) := by decide +kernel
theorem d7_beginHour_42 : decode cX7_beginHour 42 = .ok (.iastore, 1) := by decide +kernel
theorem d7_beginHour_43 : decode cX7_beginHour 43 = .ok (.iinc 1 1, 3) := by decide +kernel
theorem d7_beginHour_46 : decode cX7_beginHour 46 = .ok (.goto (-24), 3) := by decide +kernel
theorem d7_beginHour_49 : decode cX7_beginHour 49 = .ok (.iconst 0, 1) := by decide +kernel
theorem d7_beginHour_50 : decode cX7_beginHour 50 = .ok (.istore_n 1, 1) := by decide +kernel
theorem d7_beginHour_51 : decode cX7_beginHour 51 = .ok (.iload_n 1, 1) := by decide +kernel
theorem d7_beginHour_52 : decode cX7_beginHour 52 = .ok (.bipush 8, 2) := by decide +kernel
theorem d7_beginHour_54 : decode cX7_beginHour 54 = .ok (.if_icmp .ge 31, 3) := by decide +kernel
theorem d7_beginHour_57 : decode cX7_beginHour 57 = .ok (.aload_n 0, 1) := by decide +kernel
theorem d7_beginHour_58 : decode cX7_beginHour 58 = .ok (.getfield 82, 3) := by decide +kernel
theorem d7_beginHour_61 : decode cX7_beginHour 61 = .ok (.iload_n 1, 1) := by decide +kernel
theorem d7_beginHour_62 : decode cX7_beginHour 62 = .ok (.bipush (-4), 2) := by decide +kernel
theorem d7_beginHour_64 : decode cX7_beginHour 64 = .ok (.iastore, 1) := by decide +kernel
theorem d7_beginHour_65 : decode cX7_beginHour 65 = .ok (.aload_n 0, 1) := by decide +kernel
theorem d7_beginHour_66 : decode cX7_beginHour 66 = .ok (.getfield 85, 3) := by decide +kernel
theorem d7_beginHour_69 : decode cX7_beginHour 69 = .ok (.iload_n 1, 1) := by decide +kernel
theorem d7_beginHour_70 : decode cX7_beginHour 70 = .ok (.iconst 0, 1) := by decide +kernel
theorem d7_beginHour_71 : decode cX7_beginHour 71 = .ok (.iastore, 1) := by decide +kernel
theorem d7_beginHour_72 : decode cX7_beginHour 72 = .ok (.aload_n 0, 1) := by decide +kernel
theorem d7_beginHour_73 : decode cX7_beginHour 73 = .ok (.getfield 88, 3) := by decide +kernel
theorem d7_beginHour_76 : decode cX7_beginHour 76 = .ok (.iload_n 1, 1) := by decide +kernel
theorem d7_beginHour_77 : decode cX7_beginHour 77 = .ok (.iconst 0, 1) := by decide +kernel
theorem d7_beginHour_78 : decode cX7_beginHour 78 = .ok (.bastore, 1) := by decide +kernel
theorem d7_beginHour_79 : decode cX7_beginHour 79 = .ok (.iinc 1 1, 3) := by decide +kernel
theorem d7_beginHour_82 : decode cX7_beginHour 82 = .ok (.goto (-31), 3) := by decide +kernel
theorem d7_beginHour_85 : decode cX7_beginHour 85 = .ok (.return_, 1) := by decide +kernel
def f7_beginHour_b51 : Nat → Mem → Int32 → Option Mem
  | 0, _, _ => none
  | n + 1, σ, x1 => if 8 ≤ x1 then some σ else if ¬ (x1 < 0 ∨ 8 ≤ x1.toNatClampNeg) then (bm (mu σ 30 x1.toNatClampNeg (-4)) fun σ3 => if ¬ (x1 < 0 ∨ 8 ≤ x1.toNatClampNeg) then (bm (mu σ3 31 x1.toNatClampNeg 0) fun σ5 => if ¬ (x1 < 0 ∨ 8 ≤ x1.toNatClampNeg) then (bm (mu σ5 32 x1.toNatClampNeg 0) fun σ7 => f7_beginHour_b51 n σ7 (x1 + 1)) else none) else none) else none
set_option maxHeartbeats 4000000 in
set_option maxRecDepth 100000 in
theorem t7_beginHour_b51 {p : Program} {l : Launch} {e : Env} {s : State} {m : MethodId} {args : Array Value} {below : List Frame} {meth : Method} {c : Code} {w : WV} {σ' : Mem} (S : CallFix p m c cX7_beginHour 2 s args gtbl RX7) (hr : meth.sig.returnType = none) (hlk : meth.locks = false) (hK : KS LM w s) : ∀ (n : Nat), ∀ (σ : Mem) (x1 : Int32), f7_beginHour_b51  n σ x1 = some σ' → ∀ (H : Heap) (locs : List Loc), Rp EM LM w σ H → va_S (AW LM w) s.heap H locs → ∀ (ls : Array Slot), lv_has ls 2 [(0, .ref (w.2.2 0)), (1, .int x1)] → W p l e rm7_beginHour s m args below meth c H locs 0 0 (MQ below (Qw EM LM w σ' none) args s 0 0 (AW LM w)) (F0 m 51 ls []) := by
  obtain ⟨hx, hb, hml, hown, hts⟩ := id S
  intro n
  induction n with
  | zero =>
    intro σ x1 h0
    cases (show none = _ from h0)
  | succ n ih =>
    intro σ x1 h0 H locs hR hS ls hl
    rw [f7_beginHour_b51] at h0
    refine lv_iload_n hx hb d7_beginHour_51 rfl (lv_at hl 1 rfl) ?_
    refine lv_bipush (v := 8) hx hb d7_beginHour_52 (by decide) ?_
    refine lv_icmp_ge (tgt := 85) hx hb d7_beginHour_54 (by decide) (fun hc1 => ?_) (fun hc1 => ?_)
    · have h0 := og_t hc1 h0
      exact q_vret S hr hlk hR hS h0 d7_beginHour_85
    · have h0 := og_f hc1 h0
      refine lv_aload_n hx hb d7_beginHour_57 rfl (lv_at hl 0 rfl) ?_
      refine g7_82 S hK hR d7_beginHour_58 ?_
      refine lv_iload_n hx hb d7_beginHour_61 rfl (lv_at hl 1 rfl) ?_
      refine lv_bipush (v := (-4)) hx hb d7_beginHour_62 (by decide) ?_
      obtain ⟨hi2, h0⟩ := og_if h0
      obtain ⟨σ3, hm3, h0⟩ := og_m h0
      refine q_st S hK hR hS (by decide) (eM_129 w) hi2 rfl hm3 d7_beginHour_64 (fun H locs hR hS => ?_)
      refine lv_aload_n hx hb d7_beginHour_65 rfl (lv_at hl 0 rfl) ?_
      refine g7_85 S hK hR d7_beginHour_66 ?_
      refine lv_iload_n hx hb d7_beginHour_69 rfl (lv_at hl 1 rfl) ?_
      refine lv_iconst (v := 0) hx hb d7_beginHour_70 (by decide) ?_
      obtain ⟨hi4, h0⟩ := og_if h0
      obtain ⟨σ5, hm5, h0⟩ := og_m h0
      refine q_st S hK hR hS (by decide) (eM_130 w) hi4 rfl hm5 d7_beginHour_71 (fun H locs hR hS => ?_)
      refine lv_aload_n hx hb d7_beginHour_72 rfl (lv_at hl 0 rfl) ?_
      refine g7_88 S hK hR d7_beginHour_73 ?_
      refine lv_iload_n hx hb d7_beginHour_76 rfl (lv_at hl 1 rfl) ?_
      refine lv_iconst (v := 0) hx hb d7_beginHour_77 (by decide) ?_
      obtain ⟨hi6, h0⟩ := og_if h0
      obtain ⟨σ7, hm7, h0⟩ := og_m h0
      refine q_zst S hK hR hS (by decide) (eM_131 w) (Or.inl rfl) hi6 rfl hm7 d7_beginHour_78 (fun H locs hR hS => ?_)
      refine lv_iinc (v := x1 + 1) (lv' := [(1, .int (x1 + 1)), (0, .ref (w.2.2 0))]) hx hb d7_beginHour_79 hl (k := 1) rfl (ii1 _) (by decide) rfl (fun ls hl => ?_)
      refine lv_goto (tgt := 51) hx hb d7_beginHour_82 (by decide) ?_
      exact ih σ7 (x1 + 1) h0 _ _ hR hS _ (lv_sub hl [1, 0] rfl)
def f7_beginHour_b22 : Nat → Mem → Int32 → Option Mem
  | 0, _, _ => none
  | n + 1, σ, x1 => if 6 ≤ x1 then f7_beginHour_b51 1000 σ 0 else if ¬ (x1 < 0 ∨ 6 ≤ x1.toNatClampNeg) then (bm (mu σ 28 x1.toNatClampNeg (-4)) fun σ3 => if ¬ (x1 < 0 ∨ 6 ≤ x1.toNatClampNeg) then (bm (mu σ3 29 x1.toNatClampNeg 0) fun σ5 => f7_beginHour_b22 n σ5 (x1 + 1)) else none) else none
set_option maxHeartbeats 4000000 in
set_option maxRecDepth 100000 in
theorem t7_beginHour_b22 {p : Program} {l : Launch} {e : Env} {s : State} {m : MethodId} {args : Array Value} {below : List Frame} {meth : Method} {c : Code} {w : WV} {σ' : Mem} (S : CallFix p m c cX7_beginHour 2 s args gtbl RX7) (hr : meth.sig.returnType = none) (hlk : meth.locks = false) (hK : KS LM w s) : ∀ (n : Nat), ∀ (σ : Mem) (x1 : Int32), f7_beginHour_b22  n σ x1 = some σ' → ∀ (H : Heap) (locs : List Loc), Rp EM LM w σ H → va_S (AW LM w) s.heap H locs → ∀ (ls : Array Slot), lv_has ls 2 [(0, .ref (w.2.2 0)), (1, .int x1)] → W p l e rm7_beginHour s m args below meth c H locs 0 0 (MQ below (Qw EM LM w σ' none) args s 0 0 (AW LM w)) (F0 m 22 ls []) := by
  obtain ⟨hx, hb, hml, hown, hts⟩ := id S
  intro n
  induction n with
  | zero =>
    intro σ x1 h0
    cases (show none = _ from h0)
  | succ n ih =>
    intro σ x1 h0 H locs hR hS ls hl
    rw [f7_beginHour_b22] at h0
    refine lv_iload_n hx hb d7_beginHour_22 rfl (lv_at hl 1 rfl) ?_
    refine lv_bipush (v := 6) hx hb d7_beginHour_23 (by decide) ?_
    refine lv_icmp_ge (tgt := 49) hx hb d7_beginHour_25 (by decide) (fun hc1 => ?_) (fun hc1 => ?_)
    · have h0 := og_t hc1 h0
      refine lv_iconst (v := 0) hx hb d7_beginHour_49 (by decide) ?_
      refine lv_istore_n (lv' := [(1, .int 0), (0, .ref (w.2.2 0))]) hx hb d7_beginHour_50 rfl hl (by decide) rfl (fun ls hl => ?_)
      exact t7_beginHour_b51 S hr hlk hK 1000 σ 0 h0 _ _ hR hS _ (lv_sub hl [1, 0] rfl)
    · have h0 := og_f hc1 h0
      refine lv_aload_n hx hb d7_beginHour_28 rfl (lv_at hl 0 rfl) ?_
      refine g7_76 S hK hR d7_beginHour_29 ?_
      refine lv_iload_n hx hb d7_beginHour_32 rfl (lv_at hl 1 rfl) ?_
      refine lv_bipush (v := (-4)) hx hb d7_beginHour_33 (by decide) ?_
      obtain ⟨hi2, h0⟩ := og_if h0
      obtain ⟨σ3, hm3, h0⟩ := og_m h0
      refine q_st S hK hR hS (by decide) (eM_127 w) hi2 rfl hm3 d7_beginHour_35 (fun H locs hR hS => ?_)
      refine lv_aload_n hx hb d7_beginHour_36 rfl (lv_at hl 0 rfl) ?_
      refine g7_79 S hK hR d7_beginHour_37 ?_
      refine lv_iload_n hx hb d7_beginHour_40 rfl (lv_at hl 1 rfl) ?_
      refine lv_iconst (v := 0) hx hb d7_beginHour_41 (by decide) ?_
      obtain ⟨hi4, h0⟩ := og_if h0
      obtain ⟨σ5, hm5, h0⟩ := og_m h0
      refine q_st S hK hR hS (by decide) (eM_128 w) hi4 rfl hm5 d7_beginHour_42 (fun H locs hR hS => ?_)
      refine lv_iinc (v := x1 + 1) (lv' := [(1, .int (x1 + 1)), (0, .ref (w.2.2 0))]) hx hb d7_beginHour_43 hl (k := 1) rfl (ii1 _) (by decide) rfl (fun ls hl => ?_)
      refine lv_goto (tgt := 22) hx hb d7_beginHour_46 (by decide) ?_
      exact ih σ5 (x1 + 1) h0 _ _ hR hS _ (lv_sub hl [1, 0] rfl)
def f7_beginHour (σ : Mem) : Option Mem := bm (mu σ 0 32 0) fun σ1 => bm (mu σ1 0 33 0) fun σ2 => bm (mu σ2 0 35 0) fun σ3 => bm (mu σ3 0 36 0) fun σ4 => f7_beginHour_b22 1000 σ4 0
set_option maxHeartbeats 4000000 in
set_option maxRecDepth 100000 in
theorem c7_beginHour (l : Launch) {w : WV} {σ : Mem} {σ' : Mem} (h0 : f7_beginHour σ = some σ') : Met l yX7_beginHour (wy yX7_beginHour cX7_beginHour 2 none) rm7_beginHour (Pw EM LM w [.ref (w.2.2 0)] σ) (Qw EM LM w σ' none) 0 0 (AW LM w) := by
  refine mk_met (by decide) (Nat.le_of_ble_eq_true rfl) ?_
  intro p e s m below meth c S hr hlk hK hR ls hl
  obtain ⟨hx, hb, hml, hown, hts⟩ := id S
  have hl : lv_has ls 2 [(0, .ref (w.2.2 0))] := hl
  have hS : va_S (AW LM w) s.heap s.heap [] := va_S.rf
  unfold f7_beginHour at h0
  refine lv_aload_n hx hb d7_beginHour_0 rfl (lv_at hl 0 rfl) ?_
  refine lv_iconst (v := 0) hx hb d7_beginHour_1 (by decide) ?_
  obtain ⟨σ1, hm1, h0⟩ := og_m h0
  refine u7_182 S hK hR hS hm1 d7_beginHour_2 (fun H locs hR hS => ?_)
  refine lv_aload_n hx hb d7_beginHour_5 rfl (lv_at hl 0 rfl) ?_
  refine lv_iconst (v := 0) hx hb d7_beginHour_6 (by decide) ?_
  obtain ⟨σ2, hm2, h0⟩ := og_m h0
  refine u7_185 S hK hR hS hm2 d7_beginHour_7 (fun H locs hR hS => ?_)
  refine lv_aload_n hx hb d7_beginHour_10 rfl (lv_at hl 0 rfl) ?_
  refine lv_iconst (v := 0) hx hb d7_beginHour_11 (by decide) ?_
  obtain ⟨σ3, hm3, h0⟩ := og_m h0
  refine u7_188 S hK hR hS (Or.inl rfl) hm3 d7_beginHour_12 (fun H locs hR hS => ?_)
  refine lv_aload_n hx hb d7_beginHour_15 rfl (lv_at hl 0 rfl) ?_
  refine lv_iconst (v := 0) hx hb d7_beginHour_16 (by decide) ?_
  obtain ⟨σ4, hm4, h0⟩ := og_m h0
  refine u7_192 S hK hR hS hm4 d7_beginHour_17 (fun H locs hR hS => ?_)
  refine lv_iconst (v := 0) hx hb d7_beginHour_20 (by decide) ?_
  refine lv_istore_n (lv' := [(1, .int 0), (0, .ref (w.2.2 0))]) hx hb d7_beginHour_21 rfl hl (by decide) rfl (fun ls hl => ?_)
  exact t7_beginHour_b22 S hr hlk hK 1000 σ4 0 h0 _ _ hR hS _ (lv_sub hl [1, 0] rfl)
set_option maxHeartbeats 4000000 in
set_option maxRecDepth 100000 in
theorem k7_233 {p : Program} {l : Launch} {e : Env} {R : Room} {s : State} {m : MethodId} {args : Array Value} {below : List Frame} {meth : Method} {c : Code} {H : Heap} {locs : List Loc} {cells slots : Nat} {Q : State → Prop} {cc : ByteArray} {pc nL : Nat} {ls : Array Slot} {rest : List Value} {w : WV} {σ : Mem} {σ1 : Mem} (S : CallFix p m c cc nL s args gtbl RX7) (hK : KS LM w s) (hR : Rp EM LM w σ H) (hS : va_S (AW LM w) s.heap H locs) (h0 : f7_beginHour σ = some σ1) (hf : cells + 0 ≤ R.cells ∧ slots + 0 ≤ R.slots) (hRm : rm7_beginHour.frames + 1 ≤ R.frames ∧ 8 + (2 + 11) + rm7_beginHour.locals ≤ R.locals) (hl : ls.size = nL) (hW : (rest.map fun v => v.category).sum ≤ 8) (hdg : decode cc pc = .ok (.invokevirtual 233, 3)) (kk : ∀ (H1 : Heap) (locs1 : List Loc), Rp EM LM w σ1 H1 → va_S (AW LM w) s.heap H1 locs1 → W p l e R s m args below meth c H1 locs1 cells slots Q (F0 m (pc + 3) ls (rest))) : W p l e R s m args below meth c H locs cells slots Q (F0 m pc ls (.ref (w.2.2 0) :: rest)) := r_end hS (run_V (n := 0) (As := []) S hK hR (by decide) (eM_7 w _) rfl (gw_V (gt_at 1115 (by decide +kernel) (by decide +kernel)) (gt_at 1117 (by decide +kernel) (by decide +kernel)) (gt_at 55 (by decide +kernel) (by decide +kernel)) (gt_at 86 (by decide +kernel) (by decide +kernel)) (gt_at 1118 (by decide +kernel) (by decide +kernel))) (by decide +kernel) rfl (c7_beginHour l h0) ⟨rfl, rfl⟩ hRm hf hl rfl hW hdg) kk
