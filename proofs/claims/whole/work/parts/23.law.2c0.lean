theorem d_Law_law_0 : decode code 0 = .ok (.new 8, 3) := by decide +kernel
theorem d_Law_law_3 : decode code 3 = .ok (.dup, 1) := by decide +kernel
theorem d_Law_law_4 : decode code 4 = .ok (.invokespecial 60, 3) := by decide +kernel
theorem d_Law_law_7 : decode code 7 = .ok (.astore_n 1, 1) := by decide +kernel
theorem d_Law_law_8 : decode code 8 = .ok (.new 61, 3) := by decide +kernel
theorem d_Law_law_11 : decode code 11 = .ok (.dup, 1) := by decide +kernel
theorem d_Law_law_12 : decode code 12 = .ok (.invokespecial 63, 3) := by decide +kernel
theorem d_Law_law_15 : decode code 15 = .ok (.astore_n 2, 1) := by decide +kernel
theorem d_Law_law_16 : decode code 16 = .ok (.iconst 1, 1) := by decide +kernel
theorem d_Law_law_17 : decode code 17 = .ok (.newarray .long, 2) := by decide +kernel
theorem d_Law_law_19 : decode code 19 = .ok (.astore_n 3, 1) := by decide +kernel
theorem d_Law_law_20 : decode code 20 = .ok (.iconst 0, 1) := by decide +kernel
theorem d_Law_law_21 : decode code 21 = .ok (.istore 4, 2) := by decide +kernel
theorem d_Law_law_23 : decode code 23 = .ok (.iload 4, 2) := by decide +kernel
theorem d_Law_law_25 : decode code 25 = .ok (.aload_n 0, 1) := by decide +kernel
theorem d_Law_law_26 : decode code 26 = .ok (.arraylength, 1) := by decide +kernel
theorem d_Law_law_27 : decode code 27 = .ok (.bipush 10, 2) := by decide +kernel
theorem d_Law_law_29 : decode code 29 = .ok (.isub, 1) := by decide +kernel
theorem d_Law_law_30 : decode code 30 = .ok (.if_icmp .gt 1451, 3) := by decide +kernel
theorem d_Law_law_33 : decode code 33 = .ok (.aload_n 0, 1) := by decide +kernel
theorem d_Law_law_34 : decode code 34 = .ok (.iload 4, 2) := by decide +kernel
theorem d_Law_law_36 : decode code 36 = .ok (.iaload, 1) := by decide +kernel
theorem d_Law_law_37 : decode code 37 = .ok (.bipush 15, 2) := by decide +kernel
theorem d_Law_law_39 : decode code 39 = .ok (.iand, 1) := by decide +kernel
theorem d_Law_law_40 : decode code 40 = .ok (.tableswitch 1435 0 15 #[80, 148, 388, 539, 697, 855, 942, 1041, 1054, 1122, 1197, 1253, 1309, 1372, 1397, 1410], 80) := by decide +kernel
theorem d_Law_law_120 : decode code 120 = .ok (.aload_n 1, 1) := by decide +kernel
theorem d_Law_law_121 : decode code 121 = .ok (.aload_n 0, 1) := by decide +kernel
theorem d_Law_law_122 : decode code 122 = .ok (.iload 4, 2) := by decide +kernel
theorem d_Law_law_124 : decode code 124 = .ok (.iconst 1, 1) := by decide +kernel
theorem d_Law_law_125 : decode code 125 = .ok (.iadd, 1) := by decide +kernel
theorem d_Law_law_126 : decode code 126 = .ok (.iaload, 1) := by decide +kernel
theorem d_Law_law_127 : decode code 127 = .ok (.aload_n 0, 1) := by decide +kernel
theorem d_Law_law_128 : decode code 128 = .ok (.iload 4, 2) := by decide +kernel
theorem d_Law_law_130 : decode code 130 = .ok (.iconst 2, 1) := by decide +kernel
theorem d_Law_law_131 : decode code 131 = .ok (.iadd, 1) := by decide +kernel
theorem d_Law_law_132 : decode code 132 = .ok (.iaload, 1) := by decide +kernel
theorem d_Law_law_133 : decode code 133 = .ok (.aload_n 3, 1) := by decide +kernel
theorem d_Law_law_134 : decode code 134 = .ok (.invokestatic 64, 3) := by decide +kernel
theorem d_Law_law_137 : decode code 137 = .ok (.istore 5, 2) := by decide +kernel
theorem d_Law_law_139 : decode code 139 = .ok (.aload_n 2, 1) := by decide +kernel
theorem d_Law_law_140 : decode code 140 = .ok (.aload_n 0, 1) := by decide +kernel
theorem d_Law_law_141 : decode code 141 = .ok (.iload 4, 2) := by decide +kernel
theorem d_Law_law_143 : decode code 143 = .ok (.iconst 1, 1) := by decide +kernel
theorem d_Law_law_144 : decode code 144 = .ok (.iadd, 1) := by decide +kernel
theorem d_Law_law_145 : decode code 145 = .ok (.iaload, 1) := by decide +kernel
theorem d_Law_law_146 : decode code 146 = .ok (.aload_n 0, 1) := by decide +kernel
theorem d_Law_law_147 : decode code 147 = .ok (.iload 4, 2) := by decide +kernel
theorem d_Law_law_149 : decode code 149 = .ok (.iconst 2, 1) := by decide +kernel
theorem d_Law_law_150 : decode code 150 = .ok (.iadd, 1) := by decide +kernel
theorem d_Law_law_151 : decode code 151 = .ok (.iaload, 1) := by decide +kernel
theorem d_Law_law_152 : decode code 152 = .ok (.invokevirtual 69, 3) := by decide +kernel
theorem d_Law_law_155 : decode code 155 = .ok (.istore 6, 2) := by decide +kernel
theorem d_Law_law_157 : decode code 157 = .ok (.aload_n 2, 1) := by decide +kernel
theorem d_Law_law_158 : decode code 158 = .ok (.invokevirtual 70, 3) := by decide +kernel
theorem d_Law_law_161 : decode code 161 = .ok (.iload 5, 2) := by decide +kernel
theorem d_Law_law_163 : decode code 163 = .ok (.if_icmp .eq 5, 3) := by decide +kernel
theorem d_Law_law_166 : decode code 166 = .ok (.iconst 0, 1) := by decide +kernel
theorem d_Law_law_167 : decode code 167 = .ok (.ireturn, 1) := by decide +kernel
theorem d_Law_law_168 : decode code 168 = .ok (.iload 5, 2) := by decide +kernel
theorem d_Law_law_170 : decode code 170 = .ok (.ifCond .ne 15, 3) := by decide +kernel
theorem d_Law_law_173 : decode code 173 = .ok (.aload_n 3, 1) := by decide +kernel
theorem d_Law_law_174 : decode code 174 = .ok (.iconst 0, 1) := by decide +kernel
theorem d_Law_law_175 : decode code 175 = .ok (.laload, 1) := by decide +kernel
theorem d_Law_law_176 : decode code 176 = .ok (.iload 6, 2) := by decide +kernel
theorem d_Law_law_178 : decode code 178 = .ok (.i2l, 1) := by decide +kernel
theorem d_Law_law_179 : decode code 179 = .ok (.lcmp, 1) := by decide +kernel
theorem d_Law_law_180 : decode code 180 = .ok (.ifCond .eq 5, 3) := by decide +kernel
theorem d_Law_law_183 : decode code 183 = .ok (.iconst 0, 1) := by decide +kernel
theorem d_Law_law_184 : decode code 184 = .ok (.ireturn, 1) := by decide +kernel
theorem d_Law_law_185 : decode code 185 = .ok (.goto 1290, 3) := by decide +kernel
theorem d_Law_law_188 : decode code 188 = .ok (.aload_n 1, 1) := by decide +kernel
theorem d_Law_law_189 : decode code 189 = .ok (.aload_n 0, 1) := by decide +kernel
theorem d_Law_law_190 : decode code 190 = .ok (.iload 4, 2) := by decide +kernel
theorem d_Law_law_192 : decode code 192 = .ok (.iconst 1, 1) := by decide +kernel
theorem d_Law_law_193 : decode code 193 = .ok (.iadd, 1) := by decide +kernel
theorem d_Law_law_194 : decode code 194 = .ok (.iaload, 1) := by decide +kernel
theorem d_Law_law_195 : decode code 195 = .ok (.aload_n 0, 1) := by decide +kernel
theorem d_Law_law_196 : decode code 196 = .ok (.iload 4, 2) := by decide +kernel
theorem d_Law_law_198 : decode code 198 = .ok (.iconst 2, 1) := by decide +kernel
theorem d_Law_law_199 : decode code 199 = .ok (.iadd, 1) := by decide +kernel
theorem d_Law_law_200 : decode code 200 = .ok (.iaload, 1) := by decide +kernel
theorem d_Law_law_201 : decode code 201 = .ok (.i2l, 1) := by decide +kernel
theorem d_Law_law_202 : decode code 202 = .ok (.bipush 32, 2) := by decide +kernel
theorem d_Law_law_204 : decode code 204 = .ok (.lshl, 1) := by decide +kernel
theorem d_Law_law_205 : decode code 205 = .ok (.aload_n 0, 1) := by decide +kernel
theorem d_Law_law_206 : decode code 206 = .ok (.iload 4, 2) := by decide +kernel
theorem d_Law_law_208 : decode code 208 = .ok (.iconst 3, 1) := by decide +kernel
theorem d_Law_law_209 : decode code 209 = .ok (.iadd, 1) := by decide +kernel
theorem d_Law_law_210 : decode code 210 = .ok (.iaload, 1) := by decide +kernel
theorem d_Law_law_211 : decode code 211 = .ok (.i2l, 1) := by decide +kernel
theorem d_Law_law_212 : decode code 212 = .ok (.ldc2_w 74, 3) := by decide +kernel
theorem d_Law_law_215 : decode code 215 = .ok (.land, 1) := by decide +kernel
theorem d_Law_law_216 : decode code 216 = .ok (.lor, 1) := by decide +kernel
theorem d_Law_law_217 : decode code 217 = .ok (.aload_n 0, 1) := by decide +kernel
theorem d_Law_law_218 : decode code 218 = .ok (.iload 4, 2) := by decide +kernel
theorem d_Law_law_220 : decode code 220 = .ok (.iconst 4, 1) := by decide +kernel
theorem d_Law_law_221 : decode code 221 = .ok (.iadd, 1) := by decide +kernel
theorem d_Law_law_222 : decode code 222 = .ok (.iaload, 1) := by decide +kernel
theorem d_Law_law_223 : decode code 223 = .ok (.i2l, 1) := by decide +kernel
theorem d_Law_law_224 : decode code 224 = .ok (.bipush 32, 2) := by decide +kernel
theorem d_Law_law_226 : decode code 226 = .ok (.lshl, 1) := by decide +kernel
theorem d_Law_law_227 : decode code 227 = .ok (.aload_n 0, 1) := by decide +kernel
theorem d_Law_law_228 : decode code 228 = .ok (.iload 4, 2) := by decide +kernel
theorem d_Law_law_230 : decode code 230 = .ok (.iconst 5, 1) := by decide +kernel
theorem d_Law_law_231 : decode code 231 = .ok (.iadd, 1) := by decide +kernel
theorem d_Law_law_232 : decode code 232 = .ok (.iaload, 1) := by decide +kernel
theorem d_Law_law_233 : decode code 233 = .ok (.i2l, 1) := by decide +kernel
theorem d_Law_law_234 : decode code 234 = .ok (.ldc2_w 74, 3) := by decide +kernel
theorem d_Law_law_237 : decode code 237 = .ok (.land, 1) := by decide +kernel
theorem d_Law_law_238 : decode code 238 = .ok (.lor, 1) := by decide +kernel
theorem d_Law_law_239 : decode code 239 = .ok (.aload_n 0, 1) := by decide +kernel
theorem d_Law_law_240 : decode code 240 = .ok (.iload 4, 2) := by decide +kernel
theorem d_Law_law_242 : decode code 242 = .ok (.bipush 6, 2) := by decide +kernel
theorem d_Law_law_244 : decode code 244 = .ok (.iadd, 1) := by decide +kernel
theorem d_Law_law_245 : decode code 245 = .ok (.iaload, 1) := by decide +kernel
theorem d_Law_law_246 : decode code 246 = .ok (.i2l, 1) := by decide +kernel
theorem d_Law_law_247 : decode code 247 = .ok (.bipush 32, 2) := by decide +kernel
theorem d_Law_law_249 : decode code 249 = .ok (.lshl, 1) := by decide +kernel
theorem d_Law_law_250 : decode code 250 = .ok (.aload_n 0, 1) := by decide +kernel
theorem d_Law_law_251 : decode code 251 = .ok (.iload 4, 2) := by decide +kernel
theorem d_Law_law_253 : decode code 253 = .ok (.bipush 7, 2) := by decide +kernel
theorem d_Law_law_255 : decode code 255 = .ok (.iadd, 1) := by decide +kernel
theorem d_Law_law_256 : decode code 256 = .ok (.iaload, 1) := by decide +kernel
theorem d_Law_law_257 : decode code 257 = .ok (.i2l, 1) := by decide +kernel
theorem d_Law_law_258 : decode code 258 = .ok (.ldc2_w 74, 3) := by decide +kernel
theorem d_Law_law_261 : decode code 261 = .ok (.land, 1) := by decide +kernel
theorem d_Law_law_262 : decode code 262 = .ok (.lor, 1) := by decide +kernel
theorem d_Law_law_263 : decode code 263 = .ok (.aload_n 0, 1) := by decide +kernel
theorem d_Law_law_264 : decode code 264 = .ok (.iload 4, 2) := by decide +kernel
theorem d_Law_law_266 : decode code 266 = .ok (.bipush 8, 2) := by decide +kernel
theorem d_Law_law_268 : decode code 268 = .ok (.iadd, 1) := by decide +kernel
theorem d_Law_law_269 : decode code 269 = .ok (.iaload, 1) := by decide +kernel
theorem d_Law_law_270 : decode code 270 = .ok (.i2l, 1) := by decide +kernel
theorem d_Law_law_271 : decode code 271 = .ok (.bipush 32, 2) := by decide +kernel
theorem d_Law_law_273 : decode code 273 = .ok (.lshl, 1) := by decide +kernel
theorem d_Law_law_274 : decode code 274 = .ok (.aload_n 0, 1) := by decide +kernel
theorem d_Law_law_275 : decode code 275 = .ok (.iload 4, 2) := by decide +kernel
theorem d_Law_law_277 : decode code 277 = .ok (.bipush 9, 2) := by decide +kernel
theorem d_Law_law_279 : decode code 279 = .ok (.iadd, 1) := by decide +kernel
theorem d_Law_law_280 : decode code 280 = .ok (.iaload, 1) := by decide +kernel
theorem d_Law_law_281 : decode code 281 = .ok (.i2l, 1) := by decide +kernel
theorem d_Law_law_282 : decode code 282 = .ok (.ldc2_w 74, 3) := by decide +kernel
theorem d_Law_law_285 : decode code 285 = .ok (.land, 1) := by decide +kernel
theorem d_Law_law_286 : decode code 286 = .ok (.lor, 1) := by decide +kernel
theorem d_Law_law_287 : decode code 287 = .ok (.aload_n 3, 1) := by decide +kernel
theorem d_Law_law_288 : decode code 288 = .ok (.invokestatic 76, 3) := by decide +kernel
theorem d_Law_law_291 : decode code 291 = .ok (.istore 5, 2) := by decide +kernel
theorem d_Law_law_293 : decode code 293 = .ok (.aload_n 2, 1) := by decide +kernel
theorem d_Law_law_294 : decode code 294 = .ok (.aload_n 0, 1) := by decide +kernel
theorem d_Law_law_295 : decode code 295 = .ok (.iload 4, 2) := by decide +kernel
theorem d_Law_law_297 : decode code 297 = .ok (.iconst 1, 1) := by decide +kernel
theorem d_Law_law_298 : decode code 298 = .ok (.iadd, 1) := by decide +kernel
theorem d_Law_law_299 : decode code 299 = .ok (.iaload, 1) := by decide +kernel
theorem d_Law_law_300 : decode code 300 = .ok (.aload_n 0, 1) := by decide +kernel
theorem d_Law_law_301 : decode code 301 = .ok (.iload 4, 2) := by decide +kernel
theorem d_Law_law_303 : decode code 303 = .ok (.iconst 2, 1) := by decide +kernel
theorem d_Law_law_304 : decode code 304 = .ok (.iadd, 1) := by decide +kernel
theorem d_Law_law_305 : decode code 305 = .ok (.iaload, 1) := by decide +kernel
theorem d_Law_law_306 : decode code 306 = .ok (.i2l, 1) := by decide +kernel
theorem d_Law_law_307 : decode code 307 = .ok (.bipush 32, 2) := by decide +kernel
theorem d_Law_law_309 : decode code 309 = .ok (.lshl, 1) := by decide +kernel
theorem d_Law_law_310 : decode code 310 = .ok (.aload_n 0, 1) := by decide +kernel
theorem d_Law_law_311 : decode code 311 = .ok (.iload 4, 2) := by decide +kernel
theorem d_Law_law_313 : decode code 313 = .ok (.iconst 3, 1) := by decide +kernel
theorem d_Law_law_314 : decode code 314 = .ok (.iadd, 1) := by decide +kernel
theorem d_Law_law_315 : decode code 315 = .ok (.iaload, 1) := by decide +kernel
theorem d_Law_law_316 : decode code 316 = .ok (.i2l, 1) := by decide +kernel
theorem d_Law_law_317 : decode code 317 = .ok (.ldc2_w 74, 3) := by decide +kernel
theorem d_Law_law_320 : decode code 320 = .ok (.land, 1) := by decide +kernel
theorem d_Law_law_321 : decode code 321 = .ok (.lor, 1) := by decide +kernel
theorem d_Law_law_322 : decode code 322 = .ok (.aload_n 0, 1) := by decide +kernel
theorem d_Law_law_323 : decode code 323 = .ok (.iload 4, 2) := by decide +kernel
theorem d_Law_law_325 : decode code 325 = .ok (.iconst 4, 1) := by decide +kernel
theorem d_Law_law_326 : decode code 326 = .ok (.iadd, 1) := by decide +kernel
theorem d_Law_law_327 : decode code 327 = .ok (.iaload, 1) := by decide +kernel
theorem d_Law_law_328 : decode code 328 = .ok (.i2l, 1) := by decide +kernel
theorem d_Law_law_329 : decode code 329 = .ok (.bipush 32, 2) := by decide +kernel
theorem d_Law_law_331 : decode code 331 = .ok (.lshl, 1) := by decide +kernel
theorem d_Law_law_332 : decode code 332 = .ok (.aload_n 0, 1) := by decide +kernel
theorem d_Law_law_333 : decode code 333 = .ok (.iload 4, 2) := by decide +kernel
theorem d_Law_law_335 : decode code 335 = .ok (.iconst 5, 1) := by decide +kernel
theorem d_Law_law_336 : decode code 336 = .ok (.iadd, 1) := by decide +kernel
theorem d_Law_law_337 : decode code 337 = .ok (.iaload, 1) := by decide +kernel
theorem d_Law_law_338 : decode code 338 = .ok (.i2l, 1) := by decide +kernel
theorem d_Law_law_339 : decode code 339 = .ok (.ldc2_w 74, 3) := by decide +kernel
theorem d_Law_law_342 : decode code 342 = .ok (.land, 1) := by decide +kernel
theorem d_Law_law_343 : decode code 343 = .ok (.lor, 1) := by decide +kernel
theorem d_Law_law_344 : decode code 344 = .ok (.aload_n 0, 1) := by decide +kernel
theorem d_Law_law_345 : decode code 345 = .ok (.iload 4, 2) := by decide +kernel
theorem d_Law_law_347 : decode code 347 = .ok (.bipush 6, 2) := by decide +kernel
theorem d_Law_law_349 : decode code 349 = .ok (.iadd, 1) := by decide +kernel
theorem d_Law_law_350 : decode code 350 = .ok (.iaload, 1) := by decide +kernel
theorem d_Law_law_351 : decode code 351 = .ok (.i2l, 1) := by decide +kernel
theorem d_Law_law_352 : decode code 352 = .ok (.bipush 32, 2) := by decide +kernel
theorem d_Law_law_354 : decode code 354 = .ok (.lshl, 1) := by decide +kernel
theorem d_Law_law_355 : decode code 355 = .ok (.aload_n 0, 1) := by decide +kernel
theorem d_Law_law_356 : decode code 356 = .ok (.iload 4, 2) := by decide +kernel
theorem d_Law_law_358 : decode code 358 = .ok (.bipush 7, 2) := by decide +kernel
theorem d_Law_law_360 : decode code 360 = .ok (.iadd, 1) := by decide +kernel
theorem d_Law_law_361 : decode code 361 = .ok (.iaload, 1) := by decide +kernel
theorem d_Law_law_362 : decode code 362 = .ok (.i2l, 1) := by decide +kernel
theorem d_Law_law_363 : decode code 363 = .ok (.ldc2_w 74, 3) := by decide +kernel
theorem d_Law_law_366 : decode code 366 = .ok (.land, 1) := by decide +kernel
theorem d_Law_law_367 : decode code 367 = .ok (.lor, 1) := by decide +kernel
theorem d_Law_law_368 : decode code 368 = .ok (.aload_n 0, 1) := by decide +kernel
theorem d_Law_law_369 : decode code 369 = .ok (.iload 4, 2) := by decide +kernel
theorem d_Law_law_371 : decode code 371 = .ok (.bipush 8, 2) := by decide +kernel
theorem d_Law_law_373 : decode code 373 = .ok (.iadd, 1) := by decide +kernel
theorem d_Law_law_374 : decode code 374 = .ok (.iaload, 1) := by decide +kernel
theorem d_Law_law_375 : decode code 375 = .ok (.i2l, 1) := by decide +kernel
theorem d_Law_law_376 : decode code 376 = .ok (.bipush 32, 2) := by decide +kernel
theorem d_Law_law_378 : decode code 378 = .ok (.lshl, 1) := by decide +kernel
theorem d_Law_law_379 : decode code 379 = .ok (.aload_n 0, 1) := by decide +kernel
theorem d_Law_law_380 : decode code 380 = .ok (.iload 4, 2) := by decide +kernel
theorem d_Law_law_382 : decode code 382 = .ok (.bipush 9, 2) := by decide +kernel
theorem d_Law_law_384 : decode code 384 = .ok (.iadd, 1) := by decide +kernel
theorem d_Law_law_385 : decode code 385 = .ok (.iaload, 1) := by decide +kernel
theorem d_Law_law_386 : decode code 386 = .ok (.i2l, 1) := by decide +kernel
theorem d_Law_law_387 : decode code 387 = .ok (.ldc2_w 74, 3) := by decide +kernel
theorem d_Law_law_390 : decode code 390 = .ok (.land, 1) := by decide +kernel
theorem d_Law_law_391 : decode code 391 = .ok (.lor, 1) := by decide +kernel
theorem d_Law_law_392 : decode code 392 = .ok (.invokevirtual 79, 3) := by decide +kernel
theorem d_Law_law_395 : decode code 395 = .ok (.istore 6, 2) := by decide +kernel
theorem d_Law_law_397 : decode code 397 = .ok (.aload_n 2, 1) := by decide +kernel
theorem d_Law_law_398 : decode code 398 = .ok (.invokevirtual 70, 3) := by decide +kernel
theorem d_Law_law_401 : decode code 401 = .ok (.iload 5, 2) := by decide +kernel
theorem d_Law_law_403 : decode code 403 = .ok (.if_icmp .eq 5, 3) := by decide +kernel
theorem d_Law_law_406 : decode code 406 = .ok (.iconst 0, 1) := by decide +kernel
theorem d_Law_law_407 : decode code 407 = .ok (.ireturn, 1) := by decide +kernel
theorem d_Law_law_408 : decode code 408 = .ok (.iload 5, 2) := by decide +kernel
theorem d_Law_law_410 : decode code 410 = .ok (.ifCond .ne 15, 3) := by decide +kernel
theorem d_Law_law_413 : decode code 413 = .ok (.aload_n 3, 1) := by decide +kernel
theorem d_Law_law_414 : decode code 414 = .ok (.iconst 0, 1) := by decide +kernel
theorem d_Law_law_415 : decode code 415 = .ok (.laload, 1) := by decide +kernel
theorem d_Law_law_416 : decode code 416 = .ok (.iload 6, 2) := by decide +kernel
theorem d_Law_law_418 : decode code 418 = .ok (.i2l, 1) := by decide +kernel
theorem d_Law_law_419 : decode code 419 = .ok (.lcmp, 1) := by decide +kernel
theorem d_Law_law_420 : decode code 420 = .ok (.ifCond .eq 5, 3) := by decide +kernel
theorem d_Law_law_423 : decode code 423 = .ok (.iconst 0, 1) := by decide +kernel
theorem d_Law_law_424 : decode code 424 = .ok (.ireturn, 1) := by decide +kernel
