abbrev b_La_law : ByteArray := code
theorem d_La_law_0 : decode b_La_law 0 = .ok (.new 8, 3) := by decide +kernel
theorem d_La_law_3 : decode b_La_law 3 = .ok (.dup, 1) := by decide +kernel
theorem d_La_law_4 : decode b_La_law 4 = .ok (.invokespecial 81, 3) := by decide +kernel
theorem d_La_law_7 : decode b_La_law 7 = .ok (.astore_n 1, 1) := by decide +kernel
theorem d_La_law_8 : decode b_La_law 8 = .ok (.new 82, 3) := by decide +kernel
theorem d_La_law_11 : decode b_La_law 11 = .ok (.dup, 1) := by decide +kernel
theorem d_La_law_12 : decode b_La_law 12 = .ok (.invokespecial 84, 3) := by decide +kernel
theorem d_La_law_15 : decode b_La_law 15 = .ok (.astore_n 2, 1) := by decide +kernel
theorem d_La_law_16 : decode b_La_law 16 = .ok (.iconst 1, 1) := by decide +kernel
theorem d_La_law_17 : decode b_La_law 17 = .ok (.newarray .long, 2) := by decide +kernel
theorem d_La_law_19 : decode b_La_law 19 = .ok (.astore_n 3, 1) := by decide +kernel
theorem d_La_law_20 : decode b_La_law 20 = .ok (.iconst 0, 1) := by decide +kernel
theorem d_La_law_21 : decode b_La_law 21 = .ok (.istore 4, 2) := by decide +kernel
theorem d_La_law_23 : decode b_La_law 23 = .ok (.iload 4, 2) := by decide +kernel
theorem d_La_law_25 : decode b_La_law 25 = .ok (.aload_n 0, 1) := by decide +kernel
theorem d_La_law_26 : decode b_La_law 26 = .ok (.arraylength, 1) := by decide +kernel
theorem d_La_law_27 : decode b_La_law 27 = .ok (.bipush 8, 2) := by decide +kernel
theorem d_La_law_29 : decode b_La_law 29 = .ok (.isub, 1) := by decide +kernel
theorem d_La_law_30 : decode b_La_law 30 = .ok (.if_icmp .gt 1416, 3) := by decide +kernel
theorem d_La_law_33 : decode b_La_law 33 = .ok (.aload_n 0, 1) := by decide +kernel
theorem d_La_law_34 : decode b_La_law 34 = .ok (.iload 4, 2) := by decide +kernel
theorem d_La_law_36 : decode b_La_law 36 = .ok (.iaload, 1) := by decide +kernel
theorem d_La_law_37 : decode b_La_law 37 = .ok (.bipush 31, 2) := by decide +kernel
theorem d_La_law_39 : decode b_La_law 39 = .ok (.iand, 1) := by decide +kernel
theorem d_La_law_40 : decode b_La_law 40 = .ok (.tableswitch 1400 0 21 #[104, 115, 245, 293, 329, 385, 433, 481, 573, 653, 733, 861, 929, 996, 1063, 1074, 1130, 1186, 1234, 1318, 1331, 1344], 104) := by decide +kernel
theorem d_La_law_144 : decode b_La_law 144 = .ok (.aload_n 1, 1) := by decide +kernel
theorem d_La_law_145 : decode b_La_law 145 = .ok (.invokevirtual 85, 3) := by decide +kernel
theorem d_La_law_148 : decode b_La_law 148 = .ok (.aload_n 2, 1) := by decide +kernel
theorem d_La_law_149 : decode b_La_law 149 = .ok (.invokevirtual 88, 3) := by decide +kernel
theorem d_La_law_152 : decode b_La_law 152 = .ok (.goto 1288, 3) := by decide +kernel
theorem d_La_law_155 : decode b_La_law 155 = .ok (.aload_n 1, 1) := by decide +kernel
theorem d_La_law_156 : decode b_La_law 156 = .ok (.aload_n 0, 1) := by decide +kernel
theorem d_La_law_157 : decode b_La_law 157 = .ok (.iload 4, 2) := by decide +kernel
theorem d_La_law_159 : decode b_La_law 159 = .ok (.iconst 1, 1) := by decide +kernel
theorem d_La_law_160 : decode b_La_law 160 = .ok (.iadd, 1) := by decide +kernel
theorem d_La_law_161 : decode b_La_law 161 = .ok (.iaload, 1) := by decide +kernel
theorem d_La_law_162 : decode b_La_law 162 = .ok (.aload_n 0, 1) := by decide +kernel
theorem d_La_law_163 : decode b_La_law 163 = .ok (.iload 4, 2) := by decide +kernel
theorem d_La_law_165 : decode b_La_law 165 = .ok (.iconst 2, 1) := by decide +kernel
theorem d_La_law_166 : decode b_La_law 166 = .ok (.iadd, 1) := by decide +kernel
theorem d_La_law_167 : decode b_La_law 167 = .ok (.iaload, 1) := by decide +kernel
theorem d_La_law_168 : decode b_La_law 168 = .ok (.aload_n 0, 1) := by decide +kernel
theorem d_La_law_169 : decode b_La_law 169 = .ok (.iload 4, 2) := by decide +kernel
theorem d_La_law_171 : decode b_La_law 171 = .ok (.iconst 3, 1) := by decide +kernel
theorem d_La_law_172 : decode b_La_law 172 = .ok (.iadd, 1) := by decide +kernel
theorem d_La_law_173 : decode b_La_law 173 = .ok (.iaload, 1) := by decide +kernel
theorem d_La_law_174 : decode b_La_law 174 = .ok (.aload_n 0, 1) := by decide +kernel
theorem d_La_law_175 : decode b_La_law 175 = .ok (.iload 4, 2) := by decide +kernel
theorem d_La_law_177 : decode b_La_law 177 = .ok (.iconst 4, 1) := by decide +kernel
theorem d_La_law_178 : decode b_La_law 178 = .ok (.iadd, 1) := by decide +kernel
theorem d_La_law_179 : decode b_La_law 179 = .ok (.iaload, 1) := by decide +kernel
theorem d_La_law_180 : decode b_La_law 180 = .ok (.aload_n 0, 1) := by decide +kernel
theorem d_La_law_181 : decode b_La_law 181 = .ok (.iload 4, 2) := by decide +kernel
theorem d_La_law_183 : decode b_La_law 183 = .ok (.iconst 5, 1) := by decide +kernel
theorem d_La_law_184 : decode b_La_law 184 = .ok (.iadd, 1) := by decide +kernel
theorem d_La_law_185 : decode b_La_law 185 = .ok (.iaload, 1) := by decide +kernel
theorem d_La_law_186 : decode b_La_law 186 = .ok (.ifCond .eq 7, 3) := by decide +kernel
theorem d_La_law_189 : decode b_La_law 189 = .ok (.iconst 1, 1) := by decide +kernel
theorem d_La_law_190 : decode b_La_law 190 = .ok (.goto 4, 3) := by decide +kernel
theorem d_La_law_193 : decode b_La_law 193 = .ok (.iconst 0, 1) := by decide +kernel
theorem d_La_law_194 : decode b_La_law 194 = .ok (.aload_n 0, 1) := by decide +kernel
theorem d_La_law_195 : decode b_La_law 195 = .ok (.iload 4, 2) := by decide +kernel
theorem d_La_law_197 : decode b_La_law 197 = .ok (.bipush 6, 2) := by decide +kernel
theorem d_La_law_199 : decode b_La_law 199 = .ok (.iadd, 1) := by decide +kernel
theorem d_La_law_200 : decode b_La_law 200 = .ok (.iaload, 1) := by decide +kernel
theorem d_La_law_201 : decode b_La_law 201 = .ok (.ifCond .eq 7, 3) := by decide +kernel
theorem d_La_law_204 : decode b_La_law 204 = .ok (.iconst 1, 1) := by decide +kernel
theorem d_La_law_205 : decode b_La_law 205 = .ok (.goto 4, 3) := by decide +kernel
theorem d_La_law_208 : decode b_La_law 208 = .ok (.iconst 0, 1) := by decide +kernel
theorem d_La_law_209 : decode b_La_law 209 = .ok (.invokestatic 89, 3) := by decide +kernel
theorem d_La_law_212 : decode b_La_law 212 = .ok (.istore 5, 2) := by decide +kernel
theorem d_La_law_214 : decode b_La_law 214 = .ok (.aload_n 2, 1) := by decide +kernel
theorem d_La_law_215 : decode b_La_law 215 = .ok (.aload_n 0, 1) := by decide +kernel
theorem d_La_law_216 : decode b_La_law 216 = .ok (.iload 4, 2) := by decide +kernel
theorem d_La_law_218 : decode b_La_law 218 = .ok (.iconst 1, 1) := by decide +kernel
theorem d_La_law_219 : decode b_La_law 219 = .ok (.iadd, 1) := by decide +kernel
theorem d_La_law_220 : decode b_La_law 220 = .ok (.iaload, 1) := by decide +kernel
theorem d_La_law_221 : decode b_La_law 221 = .ok (.aload_n 0, 1) := by decide +kernel
theorem d_La_law_222 : decode b_La_law 222 = .ok (.iload 4, 2) := by decide +kernel
theorem d_La_law_224 : decode b_La_law 224 = .ok (.iconst 2, 1) := by decide +kernel
theorem d_La_law_225 : decode b_La_law 225 = .ok (.iadd, 1) := by decide +kernel
theorem d_La_law_226 : decode b_La_law 226 = .ok (.iaload, 1) := by decide +kernel
theorem d_La_law_227 : decode b_La_law 227 = .ok (.aload_n 0, 1) := by decide +kernel
theorem d_La_law_228 : decode b_La_law 228 = .ok (.iload 4, 2) := by decide +kernel
theorem d_La_law_230 : decode b_La_law 230 = .ok (.iconst 3, 1) := by decide +kernel
theorem d_La_law_231 : decode b_La_law 231 = .ok (.iadd, 1) := by decide +kernel
theorem d_La_law_232 : decode b_La_law 232 = .ok (.iaload, 1) := by decide +kernel
theorem d_La_law_233 : decode b_La_law 233 = .ok (.aload_n 0, 1) := by decide +kernel
theorem d_La_law_234 : decode b_La_law 234 = .ok (.iload 4, 2) := by decide +kernel
theorem d_La_law_236 : decode b_La_law 236 = .ok (.iconst 4, 1) := by decide +kernel
theorem d_La_law_237 : decode b_La_law 237 = .ok (.iadd, 1) := by decide +kernel
theorem d_La_law_238 : decode b_La_law 238 = .ok (.iaload, 1) := by decide +kernel
theorem d_La_law_239 : decode b_La_law 239 = .ok (.aload_n 0, 1) := by decide +kernel
theorem d_La_law_240 : decode b_La_law 240 = .ok (.iload 4, 2) := by decide +kernel
theorem d_La_law_242 : decode b_La_law 242 = .ok (.iconst 5, 1) := by decide +kernel
theorem d_La_law_243 : decode b_La_law 243 = .ok (.iadd, 1) := by decide +kernel
theorem d_La_law_244 : decode b_La_law 244 = .ok (.iaload, 1) := by decide +kernel
theorem d_La_law_245 : decode b_La_law 245 = .ok (.ifCond .eq 7, 3) := by decide +kernel
theorem d_La_law_248 : decode b_La_law 248 = .ok (.iconst 1, 1) := by decide +kernel
theorem d_La_law_249 : decode b_La_law 249 = .ok (.goto 4, 3) := by decide +kernel
theorem d_La_law_252 : decode b_La_law 252 = .ok (.iconst 0, 1) := by decide +kernel
theorem d_La_law_253 : decode b_La_law 253 = .ok (.aload_n 0, 1) := by decide +kernel
theorem d_La_law_254 : decode b_La_law 254 = .ok (.iload 4, 2) := by decide +kernel
theorem d_La_law_256 : decode b_La_law 256 = .ok (.bipush 6, 2) := by decide +kernel
theorem d_La_law_258 : decode b_La_law 258 = .ok (.iadd, 1) := by decide +kernel
theorem d_La_law_259 : decode b_La_law 259 = .ok (.iaload, 1) := by decide +kernel
theorem d_La_law_260 : decode b_La_law 260 = .ok (.ifCond .eq 7, 3) := by decide +kernel
theorem d_La_law_263 : decode b_La_law 263 = .ok (.iconst 1, 1) := by decide +kernel
theorem d_La_law_264 : decode b_La_law 264 = .ok (.goto 4, 3) := by decide +kernel
theorem d_La_law_267 : decode b_La_law 267 = .ok (.iconst 0, 1) := by decide +kernel
theorem d_La_law_268 : decode b_La_law 268 = .ok (.invokevirtual 94, 3) := by decide +kernel
theorem d_La_law_271 : decode b_La_law 271 = .ok (.aload_n 2, 1) := by decide +kernel
theorem d_La_law_272 : decode b_La_law 272 = .ok (.invokevirtual 95, 3) := by decide +kernel
theorem d_La_law_275 : decode b_La_law 275 = .ok (.iload 5, 2) := by decide +kernel
theorem d_La_law_277 : decode b_La_law 277 = .ok (.if_icmp .eq 5, 3) := by decide +kernel
theorem d_La_law_280 : decode b_La_law 280 = .ok (.iconst 0, 1) := by decide +kernel
theorem d_La_law_281 : decode b_La_law 281 = .ok (.ireturn, 1) := by decide +kernel
theorem d_La_law_282 : decode b_La_law 282 = .ok (.goto 1158, 3) := by decide +kernel
theorem d_La_law_285 : decode b_La_law 285 = .ok (.aload_n 1, 1) := by decide +kernel
theorem d_La_law_286 : decode b_La_law 286 = .ok (.aload_n 0, 1) := by decide +kernel
theorem d_La_law_287 : decode b_La_law 287 = .ok (.iload 4, 2) := by decide +kernel
theorem d_La_law_289 : decode b_La_law 289 = .ok (.iconst 1, 1) := by decide +kernel
theorem d_La_law_290 : decode b_La_law 290 = .ok (.iadd, 1) := by decide +kernel
theorem d_La_law_291 : decode b_La_law 291 = .ok (.iaload, 1) := by decide +kernel
theorem d_La_law_292 : decode b_La_law 292 = .ok (.aload_n 0, 1) := by decide +kernel
theorem d_La_law_293 : decode b_La_law 293 = .ok (.iload 4, 2) := by decide +kernel
theorem d_La_law_295 : decode b_La_law 295 = .ok (.iconst 2, 1) := by decide +kernel
theorem d_La_law_296 : decode b_La_law 296 = .ok (.iadd, 1) := by decide +kernel
theorem d_La_law_297 : decode b_La_law 297 = .ok (.iaload, 1) := by decide +kernel
theorem d_La_law_298 : decode b_La_law 298 = .ok (.invokestatic 99, 3) := by decide +kernel
theorem d_La_law_301 : decode b_La_law 301 = .ok (.istore 5, 2) := by decide +kernel
theorem d_La_law_303 : decode b_La_law 303 = .ok (.aload_n 2, 1) := by decide +kernel
theorem d_La_law_304 : decode b_La_law 304 = .ok (.aload_n 0, 1) := by decide +kernel
theorem d_La_law_305 : decode b_La_law 305 = .ok (.iload 4, 2) := by decide +kernel
theorem d_La_law_307 : decode b_La_law 307 = .ok (.iconst 1, 1) := by decide +kernel
theorem d_La_law_308 : decode b_La_law 308 = .ok (.iadd, 1) := by decide +kernel
theorem d_La_law_309 : decode b_La_law 309 = .ok (.iaload, 1) := by decide +kernel
theorem d_La_law_310 : decode b_La_law 310 = .ok (.aload_n 0, 1) := by decide +kernel
theorem d_La_law_311 : decode b_La_law 311 = .ok (.iload 4, 2) := by decide +kernel
theorem d_La_law_313 : decode b_La_law 313 = .ok (.iconst 2, 1) := by decide +kernel
theorem d_La_law_314 : decode b_La_law 314 = .ok (.iadd, 1) := by decide +kernel
theorem d_La_law_315 : decode b_La_law 315 = .ok (.iaload, 1) := by decide +kernel
theorem d_La_law_316 : decode b_La_law 316 = .ok (.invokevirtual 102, 3) := by decide +kernel
theorem d_La_law_319 : decode b_La_law 319 = .ok (.aload_n 2, 1) := by decide +kernel
theorem d_La_law_320 : decode b_La_law 320 = .ok (.invokevirtual 95, 3) := by decide +kernel
theorem d_La_law_323 : decode b_La_law 323 = .ok (.iload 5, 2) := by decide +kernel
theorem d_La_law_325 : decode b_La_law 325 = .ok (.if_icmp .eq 5, 3) := by decide +kernel
theorem d_La_law_328 : decode b_La_law 328 = .ok (.iconst 0, 1) := by decide +kernel
theorem d_La_law_329 : decode b_La_law 329 = .ok (.ireturn, 1) := by decide +kernel
theorem d_La_law_330 : decode b_La_law 330 = .ok (.goto 1110, 3) := by decide +kernel
theorem d_La_law_333 : decode b_La_law 333 = .ok (.aload_n 1, 1) := by decide +kernel
theorem d_La_law_334 : decode b_La_law 334 = .ok (.aload_n 0, 1) := by decide +kernel
theorem d_La_law_335 : decode b_La_law 335 = .ok (.iload 4, 2) := by decide +kernel
theorem d_La_law_337 : decode b_La_law 337 = .ok (.iconst 1, 1) := by decide +kernel
theorem d_La_law_338 : decode b_La_law 338 = .ok (.iadd, 1) := by decide +kernel
theorem d_La_law_339 : decode b_La_law 339 = .ok (.iaload, 1) := by decide +kernel
theorem d_La_law_340 : decode b_La_law 340 = .ok (.invokestatic 103, 3) := by decide +kernel
theorem d_La_law_343 : decode b_La_law 343 = .ok (.istore 5, 2) := by decide +kernel
theorem d_La_law_345 : decode b_La_law 345 = .ok (.aload_n 2, 1) := by decide +kernel
theorem d_La_law_346 : decode b_La_law 346 = .ok (.aload_n 0, 1) := by decide +kernel
theorem d_La_law_347 : decode b_La_law 347 = .ok (.iload 4, 2) := by decide +kernel
theorem d_La_law_349 : decode b_La_law 349 = .ok (.iconst 1, 1) := by decide +kernel
theorem d_La_law_350 : decode b_La_law 350 = .ok (.iadd, 1) := by decide +kernel
theorem d_La_law_351 : decode b_La_law 351 = .ok (.iaload, 1) := by decide +kernel
theorem d_La_law_352 : decode b_La_law 352 = .ok (.invokevirtual 106, 3) := by decide +kernel
theorem d_La_law_355 : decode b_La_law 355 = .ok (.aload_n 2, 1) := by decide +kernel
theorem d_La_law_356 : decode b_La_law 356 = .ok (.invokevirtual 95, 3) := by decide +kernel
theorem d_La_law_359 : decode b_La_law 359 = .ok (.iload 5, 2) := by decide +kernel
theorem d_La_law_361 : decode b_La_law 361 = .ok (.if_icmp .eq 5, 3) := by decide +kernel
theorem d_La_law_364 : decode b_La_law 364 = .ok (.iconst 0, 1) := by decide +kernel
theorem d_La_law_365 : decode b_La_law 365 = .ok (.ireturn, 1) := by decide +kernel
theorem d_La_law_366 : decode b_La_law 366 = .ok (.goto 1074, 3) := by decide +kernel
theorem d_La_law_369 : decode b_La_law 369 = .ok (.aload_n 1, 1) := by decide +kernel
theorem d_La_law_370 : decode b_La_law 370 = .ok (.aload_n 0, 1) := by decide +kernel
theorem d_La_law_371 : decode b_La_law 371 = .ok (.iload 4, 2) := by decide +kernel
theorem d_La_law_373 : decode b_La_law 373 = .ok (.iconst 1, 1) := by decide +kernel
theorem d_La_law_374 : decode b_La_law 374 = .ok (.iadd, 1) := by decide +kernel
theorem d_La_law_375 : decode b_La_law 375 = .ok (.iaload, 1) := by decide +kernel
theorem d_La_law_376 : decode b_La_law 376 = .ok (.aload_n 3, 1) := by decide +kernel
theorem d_La_law_377 : decode b_La_law 377 = .ok (.invokestatic 107, 3) := by decide +kernel
theorem d_La_law_380 : decode b_La_law 380 = .ok (.istore 5, 2) := by decide +kernel
theorem d_La_law_382 : decode b_La_law 382 = .ok (.aload_n 2, 1) := by decide +kernel
theorem d_La_law_383 : decode b_La_law 383 = .ok (.aload_n 0, 1) := by decide +kernel
theorem d_La_law_384 : decode b_La_law 384 = .ok (.iload 4, 2) := by decide +kernel
theorem d_La_law_386 : decode b_La_law 386 = .ok (.iconst 1, 1) := by decide +kernel
theorem d_La_law_387 : decode b_La_law 387 = .ok (.iadd, 1) := by decide +kernel
theorem d_La_law_388 : decode b_La_law 388 = .ok (.iaload, 1) := by decide +kernel
theorem d_La_law_389 : decode b_La_law 389 = .ok (.invokevirtual 110, 3) := by decide +kernel
theorem d_La_law_392 : decode b_La_law 392 = .ok (.istore 6, 2) := by decide +kernel
theorem d_La_law_394 : decode b_La_law 394 = .ok (.aload_n 2, 1) := by decide +kernel
theorem d_La_law_395 : decode b_La_law 395 = .ok (.invokevirtual 95, 3) := by decide +kernel
theorem d_La_law_398 : decode b_La_law 398 = .ok (.iload 5, 2) := by decide +kernel
theorem d_La_law_400 : decode b_La_law 400 = .ok (.if_icmp .eq 5, 3) := by decide +kernel
theorem d_La_law_403 : decode b_La_law 403 = .ok (.iconst 0, 1) := by decide +kernel
theorem d_La_law_404 : decode b_La_law 404 = .ok (.ireturn, 1) := by decide +kernel
theorem d_La_law_405 : decode b_La_law 405 = .ok (.iload 5, 2) := by decide +kernel
theorem d_La_law_407 : decode b_La_law 407 = .ok (.ifCond .ne 15, 3) := by decide +kernel
theorem d_La_law_410 : decode b_La_law 410 = .ok (.aload_n 3, 1) := by decide +kernel
theorem d_La_law_411 : decode b_La_law 411 = .ok (.iconst 0, 1) := by decide +kernel
theorem d_La_law_412 : decode b_La_law 412 = .ok (.laload, 1) := by decide +kernel
theorem d_La_law_413 : decode b_La_law 413 = .ok (.iload 6, 2) := by decide +kernel
theorem d_La_law_415 : decode b_La_law 415 = .ok (.i2l, 1) := by decide +kernel
theorem d_La_law_416 : decode b_La_law 416 = .ok (.lcmp, 1) := by decide +kernel
theorem d_La_law_417 : decode b_La_law 417 = .ok (.ifCond .eq 5, 3) := by decide +kernel
theorem d_La_law_420 : decode b_La_law 420 = .ok (.iconst 0, 1) := by decide +kernel
theorem d_La_law_421 : decode b_La_law 421 = .ok (.ireturn, 1) := by decide +kernel
theorem d_La_law_422 : decode b_La_law 422 = .ok (.goto 1018, 3) := by decide +kernel
theorem d_La_law_425 : decode b_La_law 425 = .ok (.aload_n 1, 1) := by decide +kernel
theorem d_La_law_426 : decode b_La_law 426 = .ok (.aload_n 0, 1) := by decide +kernel
theorem d_La_law_427 : decode b_La_law 427 = .ok (.iload 4, 2) := by decide +kernel
theorem d_La_law_429 : decode b_La_law 429 = .ok (.iconst 1, 1) := by decide +kernel
theorem d_La_law_430 : decode b_La_law 430 = .ok (.iadd, 1) := by decide +kernel
theorem d_La_law_431 : decode b_La_law 431 = .ok (.iaload, 1) := by decide +kernel
theorem d_La_law_432 : decode b_La_law 432 = .ok (.aload_n 0, 1) := by decide +kernel
theorem d_La_law_433 : decode b_La_law 433 = .ok (.iload 4, 2) := by decide +kernel
theorem d_La_law_435 : decode b_La_law 435 = .ok (.iconst 2, 1) := by decide +kernel
theorem d_La_law_436 : decode b_La_law 436 = .ok (.iadd, 1) := by decide +kernel
theorem d_La_law_437 : decode b_La_law 437 = .ok (.iaload, 1) := by decide +kernel
theorem d_La_law_438 : decode b_La_law 438 = .ok (.invokestatic 111, 3) := by decide +kernel
theorem d_La_law_441 : decode b_La_law 441 = .ok (.istore 5, 2) := by decide +kernel
theorem d_La_law_443 : decode b_La_law 443 = .ok (.aload_n 2, 1) := by decide +kernel
theorem d_La_law_444 : decode b_La_law 444 = .ok (.aload_n 0, 1) := by decide +kernel
theorem d_La_law_445 : decode b_La_law 445 = .ok (.iload 4, 2) := by decide +kernel
theorem d_La_law_447 : decode b_La_law 447 = .ok (.iconst 1, 1) := by decide +kernel
theorem d_La_law_448 : decode b_La_law 448 = .ok (.iadd, 1) := by decide +kernel
theorem d_La_law_449 : decode b_La_law 449 = .ok (.iaload, 1) := by decide +kernel
theorem d_La_law_450 : decode b_La_law 450 = .ok (.aload_n 0, 1) := by decide +kernel
theorem d_La_law_451 : decode b_La_law 451 = .ok (.iload 4, 2) := by decide +kernel
theorem d_La_law_453 : decode b_La_law 453 = .ok (.iconst 2, 1) := by decide +kernel
theorem d_La_law_454 : decode b_La_law 454 = .ok (.iadd, 1) := by decide +kernel
theorem d_La_law_455 : decode b_La_law 455 = .ok (.iaload, 1) := by decide +kernel
theorem d_La_law_456 : decode b_La_law 456 = .ok (.invokevirtual 113, 3) := by decide +kernel
theorem d_La_law_459 : decode b_La_law 459 = .ok (.aload_n 2, 1) := by decide +kernel
theorem d_La_law_460 : decode b_La_law 460 = .ok (.invokevirtual 95, 3) := by decide +kernel
theorem d_La_law_463 : decode b_La_law 463 = .ok (.iload 5, 2) := by decide +kernel
theorem d_La_law_465 : decode b_La_law 465 = .ok (.if_icmp .eq 5, 3) := by decide +kernel
theorem d_La_law_468 : decode b_La_law 468 = .ok (.iconst 0, 1) := by decide +kernel
theorem d_La_law_469 : decode b_La_law 469 = .ok (.ireturn, 1) := by decide +kernel
theorem d_La_law_470 : decode b_La_law 470 = .ok (.goto 970, 3) := by decide +kernel
theorem d_La_law_473 : decode b_La_law 473 = .ok (.aload_n 1, 1) := by decide +kernel
theorem d_La_law_474 : decode b_La_law 474 = .ok (.aload_n 0, 1) := by decide +kernel
theorem d_La_law_475 : decode b_La_law 475 = .ok (.iload 4, 2) := by decide +kernel
theorem d_La_law_477 : decode b_La_law 477 = .ok (.iconst 1, 1) := by decide +kernel
theorem d_La_law_478 : decode b_La_law 478 = .ok (.iadd, 1) := by decide +kernel
theorem d_La_law_479 : decode b_La_law 479 = .ok (.iaload, 1) := by decide +kernel
theorem d_La_law_480 : decode b_La_law 480 = .ok (.aload_n 0, 1) := by decide +kernel
theorem d_La_law_481 : decode b_La_law 481 = .ok (.iload 4, 2) := by decide +kernel
theorem d_La_law_483 : decode b_La_law 483 = .ok (.iconst 2, 1) := by decide +kernel
theorem d_La_law_484 : decode b_La_law 484 = .ok (.iadd, 1) := by decide +kernel
theorem d_La_law_485 : decode b_La_law 485 = .ok (.iaload, 1) := by decide +kernel
theorem d_La_law_486 : decode b_La_law 486 = .ok (.invokestatic 114, 3) := by decide +kernel
theorem d_La_law_489 : decode b_La_law 489 = .ok (.istore 5, 2) := by decide +kernel
theorem d_La_law_491 : decode b_La_law 491 = .ok (.aload_n 2, 1) := by decide +kernel
theorem d_La_law_492 : decode b_La_law 492 = .ok (.aload_n 0, 1) := by decide +kernel
theorem d_La_law_493 : decode b_La_law 493 = .ok (.iload 4, 2) := by decide +kernel
theorem d_La_law_495 : decode b_La_law 495 = .ok (.iconst 1, 1) := by decide +kernel
theorem d_La_law_496 : decode b_La_law 496 = .ok (.iadd, 1) := by decide +kernel
theorem d_La_law_497 : decode b_La_law 497 = .ok (.iaload, 1) := by decide +kernel
theorem d_La_law_498 : decode b_La_law 498 = .ok (.aload_n 0, 1) := by decide +kernel
theorem d_La_law_499 : decode b_La_law 499 = .ok (.iload 4, 2) := by decide +kernel
theorem d_La_law_501 : decode b_La_law 501 = .ok (.iconst 2, 1) := by decide +kernel
theorem d_La_law_502 : decode b_La_law 502 = .ok (.iadd, 1) := by decide +kernel
theorem d_La_law_503 : decode b_La_law 503 = .ok (.iaload, 1) := by decide +kernel
theorem d_La_law_504 : decode b_La_law 504 = .ok (.invokevirtual 116, 3) := by decide +kernel
theorem d_La_law_507 : decode b_La_law 507 = .ok (.aload_n 2, 1) := by decide +kernel
theorem d_La_law_508 : decode b_La_law 508 = .ok (.invokevirtual 95, 3) := by decide +kernel
theorem d_La_law_511 : decode b_La_law 511 = .ok (.iload 5, 2) := by decide +kernel
theorem d_La_law_513 : decode b_La_law 513 = .ok (.if_icmp .eq 5, 3) := by decide +kernel
theorem d_La_law_516 : decode b_La_law 516 = .ok (.iconst 0, 1) := by decide +kernel
theorem d_La_law_517 : decode b_La_law 517 = .ok (.ireturn, 1) := by decide +kernel
theorem d_La_law_518 : decode b_La_law 518 = .ok (.goto 922, 3) := by decide +kernel
theorem d_La_law_521 : decode b_La_law 521 = .ok (.aload_n 1, 1) := by decide +kernel
theorem d_La_law_522 : decode b_La_law 522 = .ok (.aload_n 0, 1) := by decide +kernel
theorem d_La_law_523 : decode b_La_law 523 = .ok (.iload 4, 2) := by decide +kernel
theorem d_La_law_525 : decode b_La_law 525 = .ok (.iconst 1, 1) := by decide +kernel
theorem d_La_law_526 : decode b_La_law 526 = .ok (.iadd, 1) := by decide +kernel
theorem d_La_law_527 : decode b_La_law 527 = .ok (.iaload, 1) := by decide +kernel
theorem d_La_law_528 : decode b_La_law 528 = .ok (.aload_n 0, 1) := by decide +kernel
theorem d_La_law_529 : decode b_La_law 529 = .ok (.iload 4, 2) := by decide +kernel
theorem d_La_law_531 : decode b_La_law 531 = .ok (.iconst 2, 1) := by decide +kernel
theorem d_La_law_532 : decode b_La_law 532 = .ok (.iadd, 1) := by decide +kernel
theorem d_La_law_533 : decode b_La_law 533 = .ok (.iaload, 1) := by decide +kernel
theorem d_La_law_534 : decode b_La_law 534 = .ok (.aload_n 0, 1) := by decide +kernel
theorem d_La_law_535 : decode b_La_law 535 = .ok (.iload 4, 2) := by decide +kernel
theorem d_La_law_537 : decode b_La_law 537 = .ok (.iconst 3, 1) := by decide +kernel
theorem d_La_law_538 : decode b_La_law 538 = .ok (.iadd, 1) := by decide +kernel
theorem d_La_law_539 : decode b_La_law 539 = .ok (.iaload, 1) := by decide +kernel
theorem d_La_law_540 : decode b_La_law 540 = .ok (.i2l, 1) := by decide +kernel
theorem d_La_law_541 : decode b_La_law 541 = .ok (.bipush 32, 2) := by decide +kernel
theorem d_La_law_543 : decode b_La_law 543 = .ok (.lshl, 1) := by decide +kernel
theorem d_La_law_544 : decode b_La_law 544 = .ok (.aload_n 0, 1) := by decide +kernel
theorem d_La_law_545 : decode b_La_law 545 = .ok (.iload 4, 2) := by decide +kernel
theorem d_La_law_547 : decode b_La_law 547 = .ok (.iconst 4, 1) := by decide +kernel
theorem d_La_law_548 : decode b_La_law 548 = .ok (.iadd, 1) := by decide +kernel
theorem d_La_law_549 : decode b_La_law 549 = .ok (.iaload, 1) := by decide +kernel
theorem d_La_law_550 : decode b_La_law 550 = .ok (.i2l, 1) := by decide +kernel
theorem d_La_law_551 : decode b_La_law 551 = .ok (.ldc2_w 117, 3) := by decide +kernel
theorem d_La_law_554 : decode b_La_law 554 = .ok (.land, 1) := by decide +kernel
theorem d_La_law_555 : decode b_La_law 555 = .ok (.lor, 1) := by decide +kernel
theorem d_La_law_556 : decode b_La_law 556 = .ok (.invokestatic 119, 3) := by decide +kernel
theorem d_La_law_559 : decode b_La_law 559 = .ok (.istore 5, 2) := by decide +kernel
theorem d_La_law_561 : decode b_La_law 561 = .ok (.aload_n 2, 1) := by decide +kernel
theorem d_La_law_562 : decode b_La_law 562 = .ok (.aload_n 0, 1) := by decide +kernel
theorem d_La_law_563 : decode b_La_law 563 = .ok (.iload 4, 2) := by decide +kernel
theorem d_La_law_565 : decode b_La_law 565 = .ok (.iconst 1, 1) := by decide +kernel
theorem d_La_law_566 : decode b_La_law 566 = .ok (.iadd, 1) := by decide +kernel
theorem d_La_law_567 : decode b_La_law 567 = .ok (.iaload, 1) := by decide +kernel
theorem d_La_law_568 : decode b_La_law 568 = .ok (.aload_n 0, 1) := by decide +kernel
theorem d_La_law_569 : decode b_La_law 569 = .ok (.iload 4, 2) := by decide +kernel
theorem d_La_law_571 : decode b_La_law 571 = .ok (.iconst 2, 1) := by decide +kernel
theorem d_La_law_572 : decode b_La_law 572 = .ok (.iadd, 1) := by decide +kernel
theorem d_La_law_573 : decode b_La_law 573 = .ok (.iaload, 1) := by decide +kernel
theorem d_La_law_574 : decode b_La_law 574 = .ok (.aload_n 0, 1) := by decide +kernel
theorem d_La_law_575 : decode b_La_law 575 = .ok (.iload 4, 2) := by decide +kernel
theorem d_La_law_577 : decode b_La_law 577 = .ok (.iconst 3, 1) := by decide +kernel
theorem d_La_law_578 : decode b_La_law 578 = .ok (.iadd, 1) := by decide +kernel
theorem d_La_law_579 : decode b_La_law 579 = .ok (.iaload, 1) := by decide +kernel
theorem d_La_law_580 : decode b_La_law 580 = .ok (.i2l, 1) := by decide +kernel
theorem d_La_law_581 : decode b_La_law 581 = .ok (.bipush 32, 2) := by decide +kernel
theorem d_La_law_583 : decode b_La_law 583 = .ok (.lshl, 1) := by decide +kernel
theorem d_La_law_584 : decode b_La_law 584 = .ok (.aload_n 0, 1) := by decide +kernel
theorem d_La_law_585 : decode b_La_law 585 = .ok (.iload 4, 2) := by decide +kernel
theorem d_La_law_587 : decode b_La_law 587 = .ok (.iconst 4, 1) := by decide +kernel
theorem d_La_law_588 : decode b_La_law 588 = .ok (.iadd, 1) := by decide +kernel
theorem d_La_law_589 : decode b_La_law 589 = .ok (.iaload, 1) := by decide +kernel
theorem d_La_law_590 : decode b_La_law 590 = .ok (.i2l, 1) := by decide +kernel
theorem d_La_law_591 : decode b_La_law 591 = .ok (.ldc2_w 117, 3) := by decide +kernel
theorem d_La_law_594 : decode b_La_law 594 = .ok (.land, 1) := by decide +kernel
theorem d_La_law_595 : decode b_La_law 595 = .ok (.lor, 1) := by decide +kernel
theorem d_La_law_596 : decode b_La_law 596 = .ok (.invokevirtual 122, 3) := by decide +kernel
theorem d_La_law_599 : decode b_La_law 599 = .ok (.aload_n 2, 1) := by decide +kernel
theorem d_La_law_600 : decode b_La_law 600 = .ok (.invokevirtual 95, 3) := by decide +kernel
theorem d_La_law_603 : decode b_La_law 603 = .ok (.iload 5, 2) := by decide +kernel
theorem d_La_law_605 : decode b_La_law 605 = .ok (.if_icmp .eq 5, 3) := by decide +kernel
theorem d_La_law_608 : decode b_La_law 608 = .ok (.iconst 0, 1) := by decide +kernel
theorem d_La_law_609 : decode b_La_law 609 = .ok (.ireturn, 1) := by decide +kernel
theorem d_La_law_610 : decode b_La_law 610 = .ok (.goto 830, 3) := by decide +kernel
theorem d_La_law_613 : decode b_La_law 613 = .ok (.aload_n 1, 1) := by decide +kernel
theorem d_La_law_614 : decode b_La_law 614 = .ok (.aload_n 0, 1) := by decide +kernel
theorem d_La_law_615 : decode b_La_law 615 = .ok (.iload 4, 2) := by decide +kernel
theorem d_La_law_617 : decode b_La_law 617 = .ok (.iconst 1, 1) := by decide +kernel
theorem d_La_law_618 : decode b_La_law 618 = .ok (.iadd, 1) := by decide +kernel
theorem d_La_law_619 : decode b_La_law 619 = .ok (.iaload, 1) := by decide +kernel
theorem d_La_law_620 : decode b_La_law 620 = .ok (.aload_n 0, 1) := by decide +kernel
theorem d_La_law_621 : decode b_La_law 621 = .ok (.iload 4, 2) := by decide +kernel
theorem d_La_law_623 : decode b_La_law 623 = .ok (.iconst 2, 1) := by decide +kernel
theorem d_La_law_624 : decode b_La_law 624 = .ok (.iadd, 1) := by decide +kernel
theorem d_La_law_625 : decode b_La_law 625 = .ok (.iaload, 1) := by decide +kernel
theorem d_La_law_626 : decode b_La_law 626 = .ok (.aload_n 0, 1) := by decide +kernel
theorem d_La_law_627 : decode b_La_law 627 = .ok (.iload 4, 2) := by decide +kernel
theorem d_La_law_629 : decode b_La_law 629 = .ok (.iconst 3, 1) := by decide +kernel
theorem d_La_law_630 : decode b_La_law 630 = .ok (.iadd, 1) := by decide +kernel
theorem d_La_law_631 : decode b_La_law 631 = .ok (.iaload, 1) := by decide +kernel
theorem d_La_law_632 : decode b_La_law 632 = .ok (.aload_n 3, 1) := by decide +kernel
theorem d_La_law_633 : decode b_La_law 633 = .ok (.invokestatic 123, 3) := by decide +kernel
theorem d_La_law_636 : decode b_La_law 636 = .ok (.istore 5, 2) := by decide +kernel
theorem d_La_law_638 : decode b_La_law 638 = .ok (.aload_n 2, 1) := by decide +kernel
theorem d_La_law_639 : decode b_La_law 639 = .ok (.aload_n 0, 1) := by decide +kernel
theorem d_La_law_640 : decode b_La_law 640 = .ok (.iload 4, 2) := by decide +kernel
theorem d_La_law_642 : decode b_La_law 642 = .ok (.iconst 1, 1) := by decide +kernel
theorem d_La_law_643 : decode b_La_law 643 = .ok (.iadd, 1) := by decide +kernel
theorem d_La_law_644 : decode b_La_law 644 = .ok (.iaload, 1) := by decide +kernel
theorem d_La_law_645 : decode b_La_law 645 = .ok (.aload_n 0, 1) := by decide +kernel
theorem d_La_law_646 : decode b_La_law 646 = .ok (.iload 4, 2) := by decide +kernel
theorem d_La_law_648 : decode b_La_law 648 = .ok (.iconst 2, 1) := by decide +kernel
theorem d_La_law_649 : decode b_La_law 649 = .ok (.iadd, 1) := by decide +kernel
theorem d_La_law_650 : decode b_La_law 650 = .ok (.iaload, 1) := by decide +kernel
theorem d_La_law_651 : decode b_La_law 651 = .ok (.aload_n 0, 1) := by decide +kernel
theorem d_La_law_652 : decode b_La_law 652 = .ok (.iload 4, 2) := by decide +kernel
theorem d_La_law_654 : decode b_La_law 654 = .ok (.iconst 3, 1) := by decide +kernel
theorem d_La_law_655 : decode b_La_law 655 = .ok (.iadd, 1) := by decide +kernel
theorem d_La_law_656 : decode b_La_law 656 = .ok (.iaload, 1) := by decide +kernel
theorem d_La_law_657 : decode b_La_law 657 = .ok (.invokevirtual 126, 3) := by decide +kernel
theorem d_La_law_660 : decode b_La_law 660 = .ok (.istore 6, 2) := by decide +kernel
theorem d_La_law_662 : decode b_La_law 662 = .ok (.aload_n 2, 1) := by decide +kernel
theorem d_La_law_663 : decode b_La_law 663 = .ok (.invokevirtual 95, 3) := by decide +kernel
theorem d_La_law_666 : decode b_La_law 666 = .ok (.iload 5, 2) := by decide +kernel
theorem d_La_law_668 : decode b_La_law 668 = .ok (.if_icmp .eq 5, 3) := by decide +kernel
theorem d_La_law_671 : decode b_La_law 671 = .ok (.iconst 0, 1) := by decide +kernel
theorem d_La_law_672 : decode b_La_law 672 = .ok (.ireturn, 1) := by decide +kernel
theorem d_La_law_673 : decode b_La_law 673 = .ok (.iload 5, 2) := by decide +kernel
theorem d_La_law_675 : decode b_La_law 675 = .ok (.ifCond .ne 15, 3) := by decide +kernel
theorem d_La_law_678 : decode b_La_law 678 = .ok (.aload_n 3, 1) := by decide +kernel
theorem d_La_law_679 : decode b_La_law 679 = .ok (.iconst 0, 1) := by decide +kernel
theorem d_La_law_680 : decode b_La_law 680 = .ok (.laload, 1) := by decide +kernel
theorem d_La_law_681 : decode b_La_law 681 = .ok (.iload 6, 2) := by decide +kernel
theorem d_La_law_683 : decode b_La_law 683 = .ok (.i2l, 1) := by decide +kernel
theorem d_La_law_684 : decode b_La_law 684 = .ok (.lcmp, 1) := by decide +kernel
theorem d_La_law_685 : decode b_La_law 685 = .ok (.ifCond .eq 5, 3) := by decide +kernel
theorem d_La_law_688 : decode b_La_law 688 = .ok (.iconst 0, 1) := by decide +kernel
theorem d_La_law_689 : decode b_La_law 689 = .ok (.ireturn, 1) := by decide +kernel
theorem d_La_law_690 : decode b_La_law 690 = .ok (.goto 750, 3) := by decide +kernel
theorem d_La_law_693 : decode b_La_law 693 = .ok (.aload_n 1, 1) := by decide +kernel
theorem d_La_law_694 : decode b_La_law 694 = .ok (.aload_n 0, 1) := by decide +kernel
theorem d_La_law_695 : decode b_La_law 695 = .ok (.iload 4, 2) := by decide +kernel
theorem d_La_law_697 : decode b_La_law 697 = .ok (.iconst 1, 1) := by decide +kernel
theorem d_La_law_698 : decode b_La_law 698 = .ok (.iadd, 1) := by decide +kernel
theorem d_La_law_699 : decode b_La_law 699 = .ok (.iaload, 1) := by decide +kernel
theorem d_La_law_700 : decode b_La_law 700 = .ok (.aload_n 0, 1) := by decide +kernel
theorem d_La_law_701 : decode b_La_law 701 = .ok (.iload 4, 2) := by decide +kernel
theorem d_La_law_703 : decode b_La_law 703 = .ok (.iconst 2, 1) := by decide +kernel
theorem d_La_law_704 : decode b_La_law 704 = .ok (.iadd, 1) := by decide +kernel
theorem d_La_law_705 : decode b_La_law 705 = .ok (.iaload, 1) := by decide +kernel
theorem d_La_law_706 : decode b_La_law 706 = .ok (.aload_n 0, 1) := by decide +kernel
theorem d_La_law_707 : decode b_La_law 707 = .ok (.iload 4, 2) := by decide +kernel
theorem d_La_law_709 : decode b_La_law 709 = .ok (.iconst 3, 1) := by decide +kernel
theorem d_La_law_710 : decode b_La_law 710 = .ok (.iadd, 1) := by decide +kernel
theorem d_La_law_711 : decode b_La_law 711 = .ok (.iaload, 1) := by decide +kernel
theorem d_La_law_712 : decode b_La_law 712 = .ok (.aload_n 3, 1) := by decide +kernel
theorem d_La_law_713 : decode b_La_law 713 = .ok (.invokestatic 127, 3) := by decide +kernel
theorem d_La_law_716 : decode b_La_law 716 = .ok (.istore 5, 2) := by decide +kernel
theorem d_La_law_718 : decode b_La_law 718 = .ok (.aload_n 2, 1) := by decide +kernel
theorem d_La_law_719 : decode b_La_law 719 = .ok (.aload_n 0, 1) := by decide +kernel
theorem d_La_law_720 : decode b_La_law 720 = .ok (.iload 4, 2) := by decide +kernel
theorem d_La_law_722 : decode b_La_law 722 = .ok (.iconst 1, 1) := by decide +kernel
theorem d_La_law_723 : decode b_La_law 723 = .ok (.iadd, 1) := by decide +kernel
theorem d_La_law_724 : decode b_La_law 724 = .ok (.iaload, 1) := by decide +kernel
theorem d_La_law_725 : decode b_La_law 725 = .ok (.aload_n 0, 1) := by decide +kernel
theorem d_La_law_726 : decode b_La_law 726 = .ok (.iload 4, 2) := by decide +kernel
theorem d_La_law_728 : decode b_La_law 728 = .ok (.iconst 2, 1) := by decide +kernel
theorem d_La_law_729 : decode b_La_law 729 = .ok (.iadd, 1) := by decide +kernel
theorem d_La_law_730 : decode b_La_law 730 = .ok (.iaload, 1) := by decide +kernel
theorem d_La_law_731 : decode b_La_law 731 = .ok (.aload_n 0, 1) := by decide +kernel
theorem d_La_law_732 : decode b_La_law 732 = .ok (.iload 4, 2) := by decide +kernel
theorem d_La_law_734 : decode b_La_law 734 = .ok (.iconst 3, 1) := by decide +kernel
theorem d_La_law_735 : decode b_La_law 735 = .ok (.iadd, 1) := by decide +kernel
theorem d_La_law_736 : decode b_La_law 736 = .ok (.iaload, 1) := by decide +kernel
theorem d_La_law_737 : decode b_La_law 737 = .ok (.invokevirtual 129, 3) := by decide +kernel
theorem d_La_law_740 : decode b_La_law 740 = .ok (.istore 6, 2) := by decide +kernel
theorem d_La_law_742 : decode b_La_law 742 = .ok (.aload_n 2, 1) := by decide +kernel
theorem d_La_law_743 : decode b_La_law 743 = .ok (.invokevirtual 95, 3) := by decide +kernel
theorem d_La_law_746 : decode b_La_law 746 = .ok (.iload 5, 2) := by decide +kernel
theorem d_La_law_748 : decode b_La_law 748 = .ok (.if_icmp .eq 5, 3) := by decide +kernel
theorem d_La_law_751 : decode b_La_law 751 = .ok (.iconst 0, 1) := by decide +kernel
theorem d_La_law_752 : decode b_La_law 752 = .ok (.ireturn, 1) := by decide +kernel
theorem d_La_law_753 : decode b_La_law 753 = .ok (.iload 5, 2) := by decide +kernel
theorem d_La_law_755 : decode b_La_law 755 = .ok (.ifCond .ne 15, 3) := by decide +kernel
theorem d_La_law_758 : decode b_La_law 758 = .ok (.aload_n 3, 1) := by decide +kernel
theorem d_La_law_759 : decode b_La_law 759 = .ok (.iconst 0, 1) := by decide +kernel
theorem d_La_law_760 : decode b_La_law 760 = .ok (.laload, 1) := by decide +kernel
theorem d_La_law_761 : decode b_La_law 761 = .ok (.iload 6, 2) := by decide +kernel
theorem d_La_law_763 : decode b_La_law 763 = .ok (.i2l, 1) := by decide +kernel
theorem d_La_law_764 : decode b_La_law 764 = .ok (.lcmp, 1) := by decide +kernel
theorem d_La_law_765 : decode b_La_law 765 = .ok (.ifCond .eq 5, 3) := by decide +kernel
theorem d_La_law_768 : decode b_La_law 768 = .ok (.iconst 0, 1) := by decide +kernel
theorem d_La_law_769 : decode b_La_law 769 = .ok (.ireturn, 1) := by decide +kernel
theorem d_La_law_770 : decode b_La_law 770 = .ok (.goto 670, 3) := by decide +kernel
theorem d_La_law_773 : decode b_La_law 773 = .ok (.aload_n 1, 1) := by decide +kernel
theorem d_La_law_774 : decode b_La_law 774 = .ok (.aload_n 0, 1) := by decide +kernel
theorem d_La_law_775 : decode b_La_law 775 = .ok (.iload 4, 2) := by decide +kernel
theorem d_La_law_777 : decode b_La_law 777 = .ok (.iconst 1, 1) := by decide +kernel
theorem d_La_law_778 : decode b_La_law 778 = .ok (.iadd, 1) := by decide +kernel
theorem d_La_law_779 : decode b_La_law 779 = .ok (.iaload, 1) := by decide +kernel
theorem d_La_law_780 : decode b_La_law 780 = .ok (.ifCond .eq 7, 3) := by decide +kernel
theorem d_La_law_783 : decode b_La_law 783 = .ok (.iconst 1, 1) := by decide +kernel
theorem d_La_law_784 : decode b_La_law 784 = .ok (.goto 4, 3) := by decide +kernel
theorem d_La_law_787 : decode b_La_law 787 = .ok (.iconst 0, 1) := by decide +kernel
theorem d_La_law_788 : decode b_La_law 788 = .ok (.aload_n 0, 1) := by decide +kernel
theorem d_La_law_789 : decode b_La_law 789 = .ok (.iload 4, 2) := by decide +kernel
theorem d_La_law_791 : decode b_La_law 791 = .ok (.iconst 2, 1) := by decide +kernel
theorem d_La_law_792 : decode b_La_law 792 = .ok (.iadd, 1) := by decide +kernel
theorem d_La_law_793 : decode b_La_law 793 = .ok (.iaload, 1) := by decide +kernel
theorem d_La_law_794 : decode b_La_law 794 = .ok (.aload_n 0, 1) := by decide +kernel
theorem d_La_law_795 : decode b_La_law 795 = .ok (.iload 4, 2) := by decide +kernel
theorem d_La_law_797 : decode b_La_law 797 = .ok (.iconst 3, 1) := by decide +kernel
theorem d_La_law_798 : decode b_La_law 798 = .ok (.iadd, 1) := by decide +kernel
theorem d_La_law_799 : decode b_La_law 799 = .ok (.iaload, 1) := by decide +kernel
theorem d_La_law_800 : decode b_La_law 800 = .ok (.aload_n 0, 1) := by decide +kernel
theorem d_La_law_801 : decode b_La_law 801 = .ok (.iload 4, 2) := by decide +kernel
theorem d_La_law_803 : decode b_La_law 803 = .ok (.iconst 4, 1) := by decide +kernel
theorem d_La_law_804 : decode b_La_law 804 = .ok (.iadd, 1) := by decide +kernel
theorem d_La_law_805 : decode b_La_law 805 = .ok (.iaload, 1) := by decide +kernel
theorem d_La_law_806 : decode b_La_law 806 = .ok (.aload_n 0, 1) := by decide +kernel
theorem d_La_law_807 : decode b_La_law 807 = .ok (.iload 4, 2) := by decide +kernel
theorem d_La_law_809 : decode b_La_law 809 = .ok (.iconst 5, 1) := by decide +kernel
theorem d_La_law_810 : decode b_La_law 810 = .ok (.iadd, 1) := by decide +kernel
theorem d_La_law_811 : decode b_La_law 811 = .ok (.iaload, 1) := by decide +kernel
theorem d_La_law_812 : decode b_La_law 812 = .ok (.aload_n 0, 1) := by decide +kernel
theorem d_La_law_813 : decode b_La_law 813 = .ok (.iload 4, 2) := by decide +kernel
theorem d_La_law_815 : decode b_La_law 815 = .ok (.bipush 6, 2) := by decide +kernel
theorem d_La_law_817 : decode b_La_law 817 = .ok (.iadd, 1) := by decide +kernel
theorem d_La_law_818 : decode b_La_law 818 = .ok (.iaload, 1) := by decide +kernel
theorem d_La_law_819 : decode b_La_law 819 = .ok (.aload_n 0, 1) := by decide +kernel
theorem d_La_law_820 : decode b_La_law 820 = .ok (.iload 4, 2) := by decide +kernel
theorem d_La_law_822 : decode b_La_law 822 = .ok (.bipush 7, 2) := by decide +kernel
theorem d_La_law_824 : decode b_La_law 824 = .ok (.iadd, 1) := by decide +kernel
theorem d_La_law_825 : decode b_La_law 825 = .ok (.iaload, 1) := by decide +kernel
theorem d_La_law_826 : decode b_La_law 826 = .ok (.invokestatic 130, 3) := by decide +kernel
theorem d_La_law_829 : decode b_La_law 829 = .ok (.istore 5, 2) := by decide +kernel
theorem d_La_law_831 : decode b_La_law 831 = .ok (.aload_n 2, 1) := by decide +kernel
theorem d_La_law_832 : decode b_La_law 832 = .ok (.aload_n 0, 1) := by decide +kernel
theorem d_La_law_833 : decode b_La_law 833 = .ok (.iload 4, 2) := by decide +kernel
theorem d_La_law_835 : decode b_La_law 835 = .ok (.iconst 1, 1) := by decide +kernel
theorem d_La_law_836 : decode b_La_law 836 = .ok (.iadd, 1) := by decide +kernel
theorem d_La_law_837 : decode b_La_law 837 = .ok (.iaload, 1) := by decide +kernel
theorem d_La_law_838 : decode b_La_law 838 = .ok (.ifCond .eq 7, 3) := by decide +kernel
theorem d_La_law_841 : decode b_La_law 841 = .ok (.iconst 1, 1) := by decide +kernel
theorem d_La_law_842 : decode b_La_law 842 = .ok (.goto 4, 3) := by decide +kernel
theorem d_La_law_845 : decode b_La_law 845 = .ok (.iconst 0, 1) := by decide +kernel
theorem d_La_law_846 : decode b_La_law 846 = .ok (.aload_n 0, 1) := by decide +kernel
theorem d_La_law_847 : decode b_La_law 847 = .ok (.iload 4, 2) := by decide +kernel
theorem d_La_law_849 : decode b_La_law 849 = .ok (.iconst 2, 1) := by decide +kernel
theorem d_La_law_850 : decode b_La_law 850 = .ok (.iadd, 1) := by decide +kernel
theorem d_La_law_851 : decode b_La_law 851 = .ok (.iaload, 1) := by decide +kernel
theorem d_La_law_852 : decode b_La_law 852 = .ok (.aload_n 0, 1) := by decide +kernel
theorem d_La_law_853 : decode b_La_law 853 = .ok (.iload 4, 2) := by decide +kernel
theorem d_La_law_855 : decode b_La_law 855 = .ok (.iconst 3, 1) := by decide +kernel
theorem d_La_law_856 : decode b_La_law 856 = .ok (.iadd, 1) := by decide +kernel
theorem d_La_law_857 : decode b_La_law 857 = .ok (.iaload, 1) := by decide +kernel
theorem d_La_law_858 : decode b_La_law 858 = .ok (.aload_n 0, 1) := by decide +kernel
theorem d_La_law_859 : decode b_La_law 859 = .ok (.iload 4, 2) := by decide +kernel
theorem d_La_law_861 : decode b_La_law 861 = .ok (.iconst 4, 1) := by decide +kernel
theorem d_La_law_862 : decode b_La_law 862 = .ok (.iadd, 1) := by decide +kernel
theorem d_La_law_863 : decode b_La_law 863 = .ok (.iaload, 1) := by decide +kernel
theorem d_La_law_864 : decode b_La_law 864 = .ok (.aload_n 0, 1) := by decide +kernel
theorem d_La_law_865 : decode b_La_law 865 = .ok (.iload 4, 2) := by decide +kernel
theorem d_La_law_867 : decode b_La_law 867 = .ok (.iconst 5, 1) := by decide +kernel
theorem d_La_law_868 : decode b_La_law 868 = .ok (.iadd, 1) := by decide +kernel
theorem d_La_law_869 : decode b_La_law 869 = .ok (.iaload, 1) := by decide +kernel
theorem d_La_law_870 : decode b_La_law 870 = .ok (.aload_n 0, 1) := by decide +kernel
theorem d_La_law_871 : decode b_La_law 871 = .ok (.iload 4, 2) := by decide +kernel
theorem d_La_law_873 : decode b_La_law 873 = .ok (.bipush 6, 2) := by decide +kernel
theorem d_La_law_875 : decode b_La_law 875 = .ok (.iadd, 1) := by decide +kernel
theorem d_La_law_876 : decode b_La_law 876 = .ok (.iaload, 1) := by decide +kernel
theorem d_La_law_877 : decode b_La_law 877 = .ok (.aload_n 0, 1) := by decide +kernel
theorem d_La_law_878 : decode b_La_law 878 = .ok (.iload 4, 2) := by decide +kernel
theorem d_La_law_880 : decode b_La_law 880 = .ok (.bipush 7, 2) := by decide +kernel
theorem d_La_law_882 : decode b_La_law 882 = .ok (.iadd, 1) := by decide +kernel
theorem d_La_law_883 : decode b_La_law 883 = .ok (.iaload, 1) := by decide +kernel
theorem d_La_law_884 : decode b_La_law 884 = .ok (.invokevirtual 133, 3) := by decide +kernel
theorem d_La_law_887 : decode b_La_law 887 = .ok (.aload_n 2, 1) := by decide +kernel
theorem d_La_law_888 : decode b_La_law 888 = .ok (.invokevirtual 95, 3) := by decide +kernel
theorem d_La_law_891 : decode b_La_law 891 = .ok (.iload 5, 2) := by decide +kernel
theorem d_La_law_893 : decode b_La_law 893 = .ok (.if_icmp .eq 5, 3) := by decide +kernel
theorem d_La_law_896 : decode b_La_law 896 = .ok (.iconst 0, 1) := by decide +kernel
theorem d_La_law_897 : decode b_La_law 897 = .ok (.ireturn, 1) := by decide +kernel
theorem d_La_law_898 : decode b_La_law 898 = .ok (.goto 542, 3) := by decide +kernel
theorem d_La_law_901 : decode b_La_law 901 = .ok (.aload_n 1, 1) := by decide +kernel
theorem d_La_law_902 : decode b_La_law 902 = .ok (.aload_n 0, 1) := by decide +kernel
theorem d_La_law_903 : decode b_La_law 903 = .ok (.iload 4, 2) := by decide +kernel
theorem d_La_law_905 : decode b_La_law 905 = .ok (.iconst 1, 1) := by decide +kernel
theorem d_La_law_906 : decode b_La_law 906 = .ok (.iadd, 1) := by decide +kernel
theorem d_La_law_907 : decode b_La_law 907 = .ok (.iaload, 1) := by decide +kernel
theorem d_La_law_908 : decode b_La_law 908 = .ok (.aload_n 0, 1) := by decide +kernel
theorem d_La_law_909 : decode b_La_law 909 = .ok (.iload 4, 2) := by decide +kernel
theorem d_La_law_911 : decode b_La_law 911 = .ok (.iconst 2, 1) := by decide +kernel
theorem d_La_law_912 : decode b_La_law 912 = .ok (.iadd, 1) := by decide +kernel
theorem d_La_law_913 : decode b_La_law 913 = .ok (.iaload, 1) := by decide +kernel
theorem d_La_law_914 : decode b_La_law 914 = .ok (.aload_n 3, 1) := by decide +kernel
theorem d_La_law_915 : decode b_La_law 915 = .ok (.invokestatic 134, 3) := by decide +kernel
theorem d_La_law_918 : decode b_La_law 918 = .ok (.istore 5, 2) := by decide +kernel
theorem d_La_law_920 : decode b_La_law 920 = .ok (.aload_n 2, 1) := by decide +kernel
theorem d_La_law_921 : decode b_La_law 921 = .ok (.aload_n 0, 1) := by decide +kernel
theorem d_La_law_922 : decode b_La_law 922 = .ok (.iload 4, 2) := by decide +kernel
theorem d_La_law_924 : decode b_La_law 924 = .ok (.iconst 1, 1) := by decide +kernel
theorem d_La_law_925 : decode b_La_law 925 = .ok (.iadd, 1) := by decide +kernel
theorem d_La_law_926 : decode b_La_law 926 = .ok (.iaload, 1) := by decide +kernel
theorem d_La_law_927 : decode b_La_law 927 = .ok (.aload_n 0, 1) := by decide +kernel
theorem d_La_law_928 : decode b_La_law 928 = .ok (.iload 4, 2) := by decide +kernel
theorem d_La_law_930 : decode b_La_law 930 = .ok (.iconst 2, 1) := by decide +kernel
theorem d_La_law_931 : decode b_La_law 931 = .ok (.iadd, 1) := by decide +kernel
theorem d_La_law_932 : decode b_La_law 932 = .ok (.iaload, 1) := by decide +kernel
theorem d_La_law_933 : decode b_La_law 933 = .ok (.invokevirtual 137, 3) := by decide +kernel
theorem d_La_law_936 : decode b_La_law 936 = .ok (.istore 6, 2) := by decide +kernel
theorem d_La_law_938 : decode b_La_law 938 = .ok (.aload_n 2, 1) := by decide +kernel
theorem d_La_law_939 : decode b_La_law 939 = .ok (.invokevirtual 95, 3) := by decide +kernel
theorem d_La_law_942 : decode b_La_law 942 = .ok (.iload 5, 2) := by decide +kernel
theorem d_La_law_944 : decode b_La_law 944 = .ok (.if_icmp .eq 5, 3) := by decide +kernel
theorem d_La_law_947 : decode b_La_law 947 = .ok (.iconst 0, 1) := by decide +kernel
theorem d_La_law_948 : decode b_La_law 948 = .ok (.ireturn, 1) := by decide +kernel
theorem d_La_law_949 : decode b_La_law 949 = .ok (.iload 5, 2) := by decide +kernel
theorem d_La_law_951 : decode b_La_law 951 = .ok (.ifCond .ne 15, 3) := by decide +kernel
theorem d_La_law_954 : decode b_La_law 954 = .ok (.aload_n 3, 1) := by decide +kernel
theorem d_La_law_955 : decode b_La_law 955 = .ok (.iconst 0, 1) := by decide +kernel
theorem d_La_law_956 : decode b_La_law 956 = .ok (.laload, 1) := by decide +kernel
theorem d_La_law_957 : decode b_La_law 957 = .ok (.iload 6, 2) := by decide +kernel
theorem d_La_law_959 : decode b_La_law 959 = .ok (.i2l, 1) := by decide +kernel
theorem d_La_law_960 : decode b_La_law 960 = .ok (.lcmp, 1) := by decide +kernel
theorem d_La_law_961 : decode b_La_law 961 = .ok (.ifCond .eq 5, 3) := by decide +kernel
theorem d_La_law_964 : decode b_La_law 964 = .ok (.iconst 0, 1) := by decide +kernel
theorem d_La_law_965 : decode b_La_law 965 = .ok (.ireturn, 1) := by decide +kernel
theorem d_La_law_966 : decode b_La_law 966 = .ok (.goto 474, 3) := by decide +kernel
theorem d_La_law_969 : decode b_La_law 969 = .ok (.aload_n 1, 1) := by decide +kernel
theorem d_La_law_970 : decode b_La_law 970 = .ok (.aload_n 0, 1) := by decide +kernel
theorem d_La_law_971 : decode b_La_law 971 = .ok (.iload 4, 2) := by decide +kernel
theorem d_La_law_973 : decode b_La_law 973 = .ok (.iconst 1, 1) := by decide +kernel
theorem d_La_law_974 : decode b_La_law 974 = .ok (.iadd, 1) := by decide +kernel
theorem d_La_law_975 : decode b_La_law 975 = .ok (.iaload, 1) := by decide +kernel
theorem d_La_law_976 : decode b_La_law 976 = .ok (.aload_n 0, 1) := by decide +kernel
theorem d_La_law_977 : decode b_La_law 977 = .ok (.iload 4, 2) := by decide +kernel
theorem d_La_law_979 : decode b_La_law 979 = .ok (.iconst 2, 1) := by decide +kernel
theorem d_La_law_980 : decode b_La_law 980 = .ok (.iadd, 1) := by decide +kernel
theorem d_La_law_981 : decode b_La_law 981 = .ok (.iaload, 1) := by decide +kernel
theorem d_La_law_982 : decode b_La_law 982 = .ok (.aload_n 3, 1) := by decide +kernel
theorem d_La_law_983 : decode b_La_law 983 = .ok (.invokestatic 138, 3) := by decide +kernel
theorem d_La_law_986 : decode b_La_law 986 = .ok (.istore 5, 2) := by decide +kernel
theorem d_La_law_988 : decode b_La_law 988 = .ok (.aload_n 2, 1) := by decide +kernel
theorem d_La_law_989 : decode b_La_law 989 = .ok (.aload_n 0, 1) := by decide +kernel
theorem d_La_law_990 : decode b_La_law 990 = .ok (.iload 4, 2) := by decide +kernel
theorem d_La_law_992 : decode b_La_law 992 = .ok (.iconst 1, 1) := by decide +kernel
theorem d_La_law_993 : decode b_La_law 993 = .ok (.iadd, 1) := by decide +kernel
theorem d_La_law_994 : decode b_La_law 994 = .ok (.iaload, 1) := by decide +kernel
theorem d_La_law_995 : decode b_La_law 995 = .ok (.aload_n 0, 1) := by decide +kernel
theorem d_La_law_996 : decode b_La_law 996 = .ok (.iload 4, 2) := by decide +kernel
theorem d_La_law_998 : decode b_La_law 998 = .ok (.iconst 2, 1) := by decide +kernel
theorem d_La_law_999 : decode b_La_law 999 = .ok (.iadd, 1) := by decide +kernel
theorem d_La_law_1000 : decode b_La_law 1000 = .ok (.iaload, 1) := by decide +kernel
theorem d_La_law_1001 : decode b_La_law 1001 = .ok (.invokevirtual 140, 3) := by decide +kernel
theorem d_La_law_1004 : decode b_La_law 1004 = .ok (.lstore 6, 2) := by decide +kernel
theorem d_La_law_1006 : decode b_La_law 1006 = .ok (.aload_n 2, 1) := by decide +kernel
theorem d_La_law_1007 : decode b_La_law 1007 = .ok (.invokevirtual 95, 3) := by decide +kernel
theorem d_La_law_1010 : decode b_La_law 1010 = .ok (.iload 5, 2) := by decide +kernel
theorem d_La_law_1012 : decode b_La_law 1012 = .ok (.if_icmp .eq 5, 3) := by decide +kernel
theorem d_La_law_1015 : decode b_La_law 1015 = .ok (.iconst 0, 1) := by decide +kernel
theorem d_La_law_1016 : decode b_La_law 1016 = .ok (.ireturn, 1) := by decide +kernel
theorem d_La_law_1017 : decode b_La_law 1017 = .ok (.iload 5, 2) := by decide +kernel
theorem d_La_law_1019 : decode b_La_law 1019 = .ok (.ifCond .ne 14, 3) := by decide +kernel
theorem d_La_law_1022 : decode b_La_law 1022 = .ok (.aload_n 3, 1) := by decide +kernel
theorem d_La_law_1023 : decode b_La_law 1023 = .ok (.iconst 0, 1) := by decide +kernel
theorem d_La_law_1024 : decode b_La_law 1024 = .ok (.laload, 1) := by decide +kernel
theorem d_La_law_1025 : decode b_La_law 1025 = .ok (.lload 6, 2) := by decide +kernel
theorem d_La_law_1027 : decode b_La_law 1027 = .ok (.lcmp, 1) := by decide +kernel
theorem d_La_law_1028 : decode b_La_law 1028 = .ok (.ifCond .eq 5, 3) := by decide +kernel
theorem d_La_law_1031 : decode b_La_law 1031 = .ok (.iconst 0, 1) := by decide +kernel
theorem d_La_law_1032 : decode b_La_law 1032 = .ok (.ireturn, 1) := by decide +kernel
theorem d_La_law_1033 : decode b_La_law 1033 = .ok (.goto 407, 3) := by decide +kernel
theorem d_La_law_1036 : decode b_La_law 1036 = .ok (.aload_n 1, 1) := by decide +kernel
theorem d_La_law_1037 : decode b_La_law 1037 = .ok (.aload_n 0, 1) := by decide +kernel
theorem d_La_law_1038 : decode b_La_law 1038 = .ok (.iload 4, 2) := by decide +kernel
theorem d_La_law_1040 : decode b_La_law 1040 = .ok (.iconst 1, 1) := by decide +kernel
theorem d_La_law_1041 : decode b_La_law 1041 = .ok (.iadd, 1) := by decide +kernel
theorem d_La_law_1042 : decode b_La_law 1042 = .ok (.iaload, 1) := by decide +kernel
theorem d_La_law_1043 : decode b_La_law 1043 = .ok (.aload_n 0, 1) := by decide +kernel
theorem d_La_law_1044 : decode b_La_law 1044 = .ok (.iload 4, 2) := by decide +kernel
theorem d_La_law_1046 : decode b_La_law 1046 = .ok (.iconst 2, 1) := by decide +kernel
theorem d_La_law_1047 : decode b_La_law 1047 = .ok (.iadd, 1) := by decide +kernel
theorem d_La_law_1048 : decode b_La_law 1048 = .ok (.iaload, 1) := by decide +kernel
theorem d_La_law_1049 : decode b_La_law 1049 = .ok (.aload_n 3, 1) := by decide +kernel
theorem d_La_law_1050 : decode b_La_law 1050 = .ok (.invokestatic 141, 3) := by decide +kernel
theorem d_La_law_1053 : decode b_La_law 1053 = .ok (.istore 5, 2) := by decide +kernel
theorem d_La_law_1055 : decode b_La_law 1055 = .ok (.aload_n 2, 1) := by decide +kernel
theorem d_La_law_1056 : decode b_La_law 1056 = .ok (.aload_n 0, 1) := by decide +kernel
theorem d_La_law_1057 : decode b_La_law 1057 = .ok (.iload 4, 2) := by decide +kernel
theorem d_La_law_1059 : decode b_La_law 1059 = .ok (.iconst 1, 1) := by decide +kernel
theorem d_La_law_1060 : decode b_La_law 1060 = .ok (.iadd, 1) := by decide +kernel
theorem d_La_law_1061 : decode b_La_law 1061 = .ok (.iaload, 1) := by decide +kernel
theorem d_La_law_1062 : decode b_La_law 1062 = .ok (.aload_n 0, 1) := by decide +kernel
theorem d_La_law_1063 : decode b_La_law 1063 = .ok (.iload 4, 2) := by decide +kernel
theorem d_La_law_1065 : decode b_La_law 1065 = .ok (.iconst 2, 1) := by decide +kernel
theorem d_La_law_1066 : decode b_La_law 1066 = .ok (.iadd, 1) := by decide +kernel
theorem d_La_law_1067 : decode b_La_law 1067 = .ok (.iaload, 1) := by decide +kernel
theorem d_La_law_1068 : decode b_La_law 1068 = .ok (.invokevirtual 143, 3) := by decide +kernel
theorem d_La_law_1071 : decode b_La_law 1071 = .ok (.lstore 6, 2) := by decide +kernel
theorem d_La_law_1073 : decode b_La_law 1073 = .ok (.aload_n 2, 1) := by decide +kernel
theorem d_La_law_1074 : decode b_La_law 1074 = .ok (.invokevirtual 95, 3) := by decide +kernel
theorem d_La_law_1077 : decode b_La_law 1077 = .ok (.iload 5, 2) := by decide +kernel
theorem d_La_law_1079 : decode b_La_law 1079 = .ok (.if_icmp .eq 5, 3) := by decide +kernel
theorem d_La_law_1082 : decode b_La_law 1082 = .ok (.iconst 0, 1) := by decide +kernel
theorem d_La_law_1083 : decode b_La_law 1083 = .ok (.ireturn, 1) := by decide +kernel
theorem d_La_law_1084 : decode b_La_law 1084 = .ok (.iload 5, 2) := by decide +kernel
theorem d_La_law_1086 : decode b_La_law 1086 = .ok (.ifCond .ne 14, 3) := by decide +kernel
theorem d_La_law_1089 : decode b_La_law 1089 = .ok (.aload_n 3, 1) := by decide +kernel
theorem d_La_law_1090 : decode b_La_law 1090 = .ok (.iconst 0, 1) := by decide +kernel
theorem d_La_law_1091 : decode b_La_law 1091 = .ok (.laload, 1) := by decide +kernel
theorem d_La_law_1092 : decode b_La_law 1092 = .ok (.lload 6, 2) := by decide +kernel
theorem d_La_law_1094 : decode b_La_law 1094 = .ok (.lcmp, 1) := by decide +kernel
theorem d_La_law_1095 : decode b_La_law 1095 = .ok (.ifCond .eq 5, 3) := by decide +kernel
theorem d_La_law_1098 : decode b_La_law 1098 = .ok (.iconst 0, 1) := by decide +kernel
theorem d_La_law_1099 : decode b_La_law 1099 = .ok (.ireturn, 1) := by decide +kernel
theorem d_La_law_1100 : decode b_La_law 1100 = .ok (.goto 340, 3) := by decide +kernel
theorem d_La_law_1103 : decode b_La_law 1103 = .ok (.aload_n 1, 1) := by decide +kernel
theorem d_La_law_1104 : decode b_La_law 1104 = .ok (.invokevirtual 144, 3) := by decide +kernel
theorem d_La_law_1107 : decode b_La_law 1107 = .ok (.aload_n 2, 1) := by decide +kernel
theorem d_La_law_1108 : decode b_La_law 1108 = .ok (.invokevirtual 147, 3) := by decide +kernel
theorem d_La_law_1111 : decode b_La_law 1111 = .ok (.goto 329, 3) := by decide +kernel
theorem d_La_law_1114 : decode b_La_law 1114 = .ok (.aload_n 1, 1) := by decide +kernel
theorem d_La_law_1115 : decode b_La_law 1115 = .ok (.aload_n 0, 1) := by decide +kernel
theorem d_La_law_1116 : decode b_La_law 1116 = .ok (.iload 4, 2) := by decide +kernel
theorem d_La_law_1118 : decode b_La_law 1118 = .ok (.iconst 1, 1) := by decide +kernel
theorem d_La_law_1119 : decode b_La_law 1119 = .ok (.iadd, 1) := by decide +kernel
theorem d_La_law_1120 : decode b_La_law 1120 = .ok (.iaload, 1) := by decide +kernel
theorem d_La_law_1121 : decode b_La_law 1121 = .ok (.aload_n 3, 1) := by decide +kernel
theorem d_La_law_1122 : decode b_La_law 1122 = .ok (.invokestatic 148, 3) := by decide +kernel
theorem d_La_law_1125 : decode b_La_law 1125 = .ok (.istore 5, 2) := by decide +kernel
theorem d_La_law_1127 : decode b_La_law 1127 = .ok (.aload_n 2, 1) := by decide +kernel
theorem d_La_law_1128 : decode b_La_law 1128 = .ok (.aload_n 0, 1) := by decide +kernel
theorem d_La_law_1129 : decode b_La_law 1129 = .ok (.iload 4, 2) := by decide +kernel
theorem d_La_law_1131 : decode b_La_law 1131 = .ok (.iconst 1, 1) := by decide +kernel
theorem d_La_law_1132 : decode b_La_law 1132 = .ok (.iadd, 1) := by decide +kernel
theorem d_La_law_1133 : decode b_La_law 1133 = .ok (.iaload, 1) := by decide +kernel
theorem d_La_law_1134 : decode b_La_law 1134 = .ok (.invokevirtual 150, 3) := by decide +kernel
theorem d_La_law_1137 : decode b_La_law 1137 = .ok (.istore 6, 2) := by decide +kernel
theorem d_La_law_1139 : decode b_La_law 1139 = .ok (.aload_n 2, 1) := by decide +kernel
theorem d_La_law_1140 : decode b_La_law 1140 = .ok (.invokevirtual 95, 3) := by decide +kernel
theorem d_La_law_1143 : decode b_La_law 1143 = .ok (.iload 5, 2) := by decide +kernel
theorem d_La_law_1145 : decode b_La_law 1145 = .ok (.if_icmp .eq 5, 3) := by decide +kernel
theorem d_La_law_1148 : decode b_La_law 1148 = .ok (.iconst 0, 1) := by decide +kernel
theorem d_La_law_1149 : decode b_La_law 1149 = .ok (.ireturn, 1) := by decide +kernel
theorem d_La_law_1150 : decode b_La_law 1150 = .ok (.iload 5, 2) := by decide +kernel
theorem d_La_law_1152 : decode b_La_law 1152 = .ok (.ifCond .ne 15, 3) := by decide +kernel
theorem d_La_law_1155 : decode b_La_law 1155 = .ok (.aload_n 3, 1) := by decide +kernel
theorem d_La_law_1156 : decode b_La_law 1156 = .ok (.iconst 0, 1) := by decide +kernel
theorem d_La_law_1157 : decode b_La_law 1157 = .ok (.laload, 1) := by decide +kernel
theorem d_La_law_1158 : decode b_La_law 1158 = .ok (.iload 6, 2) := by decide +kernel
theorem d_La_law_1160 : decode b_La_law 1160 = .ok (.i2l, 1) := by decide +kernel
theorem d_La_law_1161 : decode b_La_law 1161 = .ok (.lcmp, 1) := by decide +kernel
theorem d_La_law_1162 : decode b_La_law 1162 = .ok (.ifCond .eq 5, 3) := by decide +kernel
theorem d_La_law_1165 : decode b_La_law 1165 = .ok (.iconst 0, 1) := by decide +kernel
theorem d_La_law_1166 : decode b_La_law 1166 = .ok (.ireturn, 1) := by decide +kernel
theorem d_La_law_1167 : decode b_La_law 1167 = .ok (.goto 273, 3) := by decide +kernel
theorem d_La_law_1170 : decode b_La_law 1170 = .ok (.aload_n 1, 1) := by decide +kernel
theorem d_La_law_1171 : decode b_La_law 1171 = .ok (.aload_n 0, 1) := by decide +kernel
theorem d_La_law_1172 : decode b_La_law 1172 = .ok (.iload 4, 2) := by decide +kernel
theorem d_La_law_1174 : decode b_La_law 1174 = .ok (.iconst 1, 1) := by decide +kernel
theorem d_La_law_1175 : decode b_La_law 1175 = .ok (.iadd, 1) := by decide +kernel
theorem d_La_law_1176 : decode b_La_law 1176 = .ok (.iaload, 1) := by decide +kernel
theorem d_La_law_1177 : decode b_La_law 1177 = .ok (.aload_n 3, 1) := by decide +kernel
theorem d_La_law_1178 : decode b_La_law 1178 = .ok (.invokestatic 151, 3) := by decide +kernel
theorem d_La_law_1181 : decode b_La_law 1181 = .ok (.istore 5, 2) := by decide +kernel
theorem d_La_law_1183 : decode b_La_law 1183 = .ok (.aload_n 2, 1) := by decide +kernel
theorem d_La_law_1184 : decode b_La_law 1184 = .ok (.aload_n 0, 1) := by decide +kernel
theorem d_La_law_1185 : decode b_La_law 1185 = .ok (.iload 4, 2) := by decide +kernel
theorem d_La_law_1187 : decode b_La_law 1187 = .ok (.iconst 1, 1) := by decide +kernel
theorem d_La_law_1188 : decode b_La_law 1188 = .ok (.iadd, 1) := by decide +kernel
theorem d_La_law_1189 : decode b_La_law 1189 = .ok (.iaload, 1) := by decide +kernel
theorem d_La_law_1190 : decode b_La_law 1190 = .ok (.invokevirtual 153, 3) := by decide +kernel
theorem d_La_law_1193 : decode b_La_law 1193 = .ok (.istore 6, 2) := by decide +kernel
theorem d_La_law_1195 : decode b_La_law 1195 = .ok (.aload_n 2, 1) := by decide +kernel
theorem d_La_law_1196 : decode b_La_law 1196 = .ok (.invokevirtual 95, 3) := by decide +kernel
theorem d_La_law_1199 : decode b_La_law 1199 = .ok (.iload 5, 2) := by decide +kernel
theorem d_La_law_1201 : decode b_La_law 1201 = .ok (.if_icmp .eq 5, 3) := by decide +kernel
theorem d_La_law_1204 : decode b_La_law 1204 = .ok (.iconst 0, 1) := by decide +kernel
theorem d_La_law_1205 : decode b_La_law 1205 = .ok (.ireturn, 1) := by decide +kernel
theorem d_La_law_1206 : decode b_La_law 1206 = .ok (.iload 5, 2) := by decide +kernel
theorem d_La_law_1208 : decode b_La_law 1208 = .ok (.ifCond .ne 15, 3) := by decide +kernel
theorem d_La_law_1211 : decode b_La_law 1211 = .ok (.aload_n 3, 1) := by decide +kernel
theorem d_La_law_1212 : decode b_La_law 1212 = .ok (.iconst 0, 1) := by decide +kernel
theorem d_La_law_1213 : decode b_La_law 1213 = .ok (.laload, 1) := by decide +kernel
theorem d_La_law_1214 : decode b_La_law 1214 = .ok (.iload 6, 2) := by decide +kernel
theorem d_La_law_1216 : decode b_La_law 1216 = .ok (.i2l, 1) := by decide +kernel
theorem d_La_law_1217 : decode b_La_law 1217 = .ok (.lcmp, 1) := by decide +kernel
theorem d_La_law_1218 : decode b_La_law 1218 = .ok (.ifCond .eq 5, 3) := by decide +kernel
theorem d_La_law_1221 : decode b_La_law 1221 = .ok (.iconst 0, 1) := by decide +kernel
theorem d_La_law_1222 : decode b_La_law 1222 = .ok (.ireturn, 1) := by decide +kernel
theorem d_La_law_1223 : decode b_La_law 1223 = .ok (.goto 217, 3) := by decide +kernel
theorem d_La_law_1226 : decode b_La_law 1226 = .ok (.aload_n 1, 1) := by decide +kernel
theorem d_La_law_1227 : decode b_La_law 1227 = .ok (.aload_n 0, 1) := by decide +kernel
theorem d_La_law_1228 : decode b_La_law 1228 = .ok (.iload 4, 2) := by decide +kernel
theorem d_La_law_1230 : decode b_La_law 1230 = .ok (.iconst 1, 1) := by decide +kernel
theorem d_La_law_1231 : decode b_La_law 1231 = .ok (.iadd, 1) := by decide +kernel
theorem d_La_law_1232 : decode b_La_law 1232 = .ok (.iaload, 1) := by decide +kernel
theorem d_La_law_1233 : decode b_La_law 1233 = .ok (.aload_n 0, 1) := by decide +kernel
theorem d_La_law_1234 : decode b_La_law 1234 = .ok (.iload 4, 2) := by decide +kernel
theorem d_La_law_1236 : decode b_La_law 1236 = .ok (.iconst 2, 1) := by decide +kernel
theorem d_La_law_1237 : decode b_La_law 1237 = .ok (.iadd, 1) := by decide +kernel
theorem d_La_law_1238 : decode b_La_law 1238 = .ok (.iaload, 1) := by decide +kernel
theorem d_La_law_1239 : decode b_La_law 1239 = .ok (.invokestatic 154, 3) := by decide +kernel
theorem d_La_law_1242 : decode b_La_law 1242 = .ok (.istore 5, 2) := by decide +kernel
theorem d_La_law_1244 : decode b_La_law 1244 = .ok (.aload_n 2, 1) := by decide +kernel
theorem d_La_law_1245 : decode b_La_law 1245 = .ok (.aload_n 0, 1) := by decide +kernel
theorem d_La_law_1246 : decode b_La_law 1246 = .ok (.iload 4, 2) := by decide +kernel
theorem d_La_law_1248 : decode b_La_law 1248 = .ok (.iconst 1, 1) := by decide +kernel
theorem d_La_law_1249 : decode b_La_law 1249 = .ok (.iadd, 1) := by decide +kernel
theorem d_La_law_1250 : decode b_La_law 1250 = .ok (.iaload, 1) := by decide +kernel
theorem d_La_law_1251 : decode b_La_law 1251 = .ok (.aload_n 0, 1) := by decide +kernel
theorem d_La_law_1252 : decode b_La_law 1252 = .ok (.iload 4, 2) := by decide +kernel
theorem d_La_law_1254 : decode b_La_law 1254 = .ok (.iconst 2, 1) := by decide +kernel
theorem d_La_law_1255 : decode b_La_law 1255 = .ok (.iadd, 1) := by decide +kernel
theorem d_La_law_1256 : decode b_La_law 1256 = .ok (.iaload, 1) := by decide +kernel
theorem d_La_law_1257 : decode b_La_law 1257 = .ok (.invokevirtual 156, 3) := by decide +kernel
theorem d_La_law_1260 : decode b_La_law 1260 = .ok (.aload_n 2, 1) := by decide +kernel
theorem d_La_law_1261 : decode b_La_law 1261 = .ok (.invokevirtual 95, 3) := by decide +kernel
theorem d_La_law_1264 : decode b_La_law 1264 = .ok (.iload 5, 2) := by decide +kernel
theorem d_La_law_1266 : decode b_La_law 1266 = .ok (.if_icmp .eq 5, 3) := by decide +kernel
theorem d_La_law_1269 : decode b_La_law 1269 = .ok (.iconst 0, 1) := by decide +kernel
theorem d_La_law_1270 : decode b_La_law 1270 = .ok (.ireturn, 1) := by decide +kernel
theorem d_La_law_1271 : decode b_La_law 1271 = .ok (.goto 169, 3) := by decide +kernel
theorem d_La_law_1274 : decode b_La_law 1274 = .ok (.aload_n 1, 1) := by decide +kernel
theorem d_La_law_1275 : decode b_La_law 1275 = .ok (.aload_n 0, 1) := by decide +kernel
theorem d_La_law_1276 : decode b_La_law 1276 = .ok (.iload 4, 2) := by decide +kernel
theorem d_La_law_1278 : decode b_La_law 1278 = .ok (.iconst 1, 1) := by decide +kernel
theorem d_La_law_1279 : decode b_La_law 1279 = .ok (.iadd, 1) := by decide +kernel
theorem d_La_law_1280 : decode b_La_law 1280 = .ok (.iaload, 1) := by decide +kernel
theorem d_La_law_1281 : decode b_La_law 1281 = .ok (.aload_n 0, 1) := by decide +kernel
theorem d_La_law_1282 : decode b_La_law 1282 = .ok (.iload 4, 2) := by decide +kernel
theorem d_La_law_1284 : decode b_La_law 1284 = .ok (.iconst 2, 1) := by decide +kernel
theorem d_La_law_1285 : decode b_La_law 1285 = .ok (.iadd, 1) := by decide +kernel
theorem d_La_law_1286 : decode b_La_law 1286 = .ok (.iaload, 1) := by decide +kernel
theorem d_La_law_1287 : decode b_La_law 1287 = .ok (.ifCond .eq 7, 3) := by decide +kernel
theorem d_La_law_1290 : decode b_La_law 1290 = .ok (.iconst 1, 1) := by decide +kernel
theorem d_La_law_1291 : decode b_La_law 1291 = .ok (.goto 4, 3) := by decide +kernel
theorem d_La_law_1294 : decode b_La_law 1294 = .ok (.iconst 0, 1) := by decide +kernel
theorem d_La_law_1295 : decode b_La_law 1295 = .ok (.aload_n 3, 1) := by decide +kernel
theorem d_La_law_1296 : decode b_La_law 1296 = .ok (.invokestatic 157, 3) := by decide +kernel
theorem d_La_law_1299 : decode b_La_law 1299 = .ok (.istore 5, 2) := by decide +kernel
theorem d_La_law_1301 : decode b_La_law 1301 = .ok (.aload_n 2, 1) := by decide +kernel
theorem d_La_law_1302 : decode b_La_law 1302 = .ok (.aload_n 0, 1) := by decide +kernel
theorem d_La_law_1303 : decode b_La_law 1303 = .ok (.iload 4, 2) := by decide +kernel
theorem d_La_law_1305 : decode b_La_law 1305 = .ok (.iconst 1, 1) := by decide +kernel
theorem d_La_law_1306 : decode b_La_law 1306 = .ok (.iadd, 1) := by decide +kernel
theorem d_La_law_1307 : decode b_La_law 1307 = .ok (.iaload, 1) := by decide +kernel
theorem d_La_law_1308 : decode b_La_law 1308 = .ok (.aload_n 0, 1) := by decide +kernel
theorem d_La_law_1309 : decode b_La_law 1309 = .ok (.iload 4, 2) := by decide +kernel
theorem d_La_law_1311 : decode b_La_law 1311 = .ok (.iconst 2, 1) := by decide +kernel
theorem d_La_law_1312 : decode b_La_law 1312 = .ok (.iadd, 1) := by decide +kernel
theorem d_La_law_1313 : decode b_La_law 1313 = .ok (.iaload, 1) := by decide +kernel
theorem d_La_law_1314 : decode b_La_law 1314 = .ok (.ifCond .eq 7, 3) := by decide +kernel
theorem d_La_law_1317 : decode b_La_law 1317 = .ok (.iconst 1, 1) := by decide +kernel
theorem d_La_law_1318 : decode b_La_law 1318 = .ok (.goto 4, 3) := by decide +kernel
theorem d_La_law_1321 : decode b_La_law 1321 = .ok (.iconst 0, 1) := by decide +kernel
theorem d_La_law_1322 : decode b_La_law 1322 = .ok (.invokevirtual 160, 3) := by decide +kernel
theorem d_La_law_1325 : decode b_La_law 1325 = .ok (.istore 6, 2) := by decide +kernel
theorem d_La_law_1327 : decode b_La_law 1327 = .ok (.aload_n 2, 1) := by decide +kernel
theorem d_La_law_1328 : decode b_La_law 1328 = .ok (.invokevirtual 95, 3) := by decide +kernel
theorem d_La_law_1331 : decode b_La_law 1331 = .ok (.iload 5, 2) := by decide +kernel
theorem d_La_law_1333 : decode b_La_law 1333 = .ok (.if_icmp .eq 5, 3) := by decide +kernel
theorem d_La_law_1336 : decode b_La_law 1336 = .ok (.iconst 0, 1) := by decide +kernel
theorem d_La_law_1337 : decode b_La_law 1337 = .ok (.ireturn, 1) := by decide +kernel
theorem d_La_law_1338 : decode b_La_law 1338 = .ok (.iload 5, 2) := by decide +kernel
theorem d_La_law_1340 : decode b_La_law 1340 = .ok (.ifCond .ne 15, 3) := by decide +kernel
theorem d_La_law_1343 : decode b_La_law 1343 = .ok (.aload_n 3, 1) := by decide +kernel
theorem d_La_law_1344 : decode b_La_law 1344 = .ok (.iconst 0, 1) := by decide +kernel
theorem d_La_law_1345 : decode b_La_law 1345 = .ok (.laload, 1) := by decide +kernel
theorem d_La_law_1346 : decode b_La_law 1346 = .ok (.iload 6, 2) := by decide +kernel
theorem d_La_law_1348 : decode b_La_law 1348 = .ok (.i2l, 1) := by decide +kernel
theorem d_La_law_1349 : decode b_La_law 1349 = .ok (.lcmp, 1) := by decide +kernel
theorem d_La_law_1350 : decode b_La_law 1350 = .ok (.ifCond .eq 5, 3) := by decide +kernel
theorem d_La_law_1353 : decode b_La_law 1353 = .ok (.iconst 0, 1) := by decide +kernel
theorem d_La_law_1354 : decode b_La_law 1354 = .ok (.ireturn, 1) := by decide +kernel
theorem d_La_law_1355 : decode b_La_law 1355 = .ok (.goto 85, 3) := by decide +kernel
theorem d_La_law_1358 : decode b_La_law 1358 = .ok (.aload_n 1, 1) := by decide +kernel
theorem d_La_law_1359 : decode b_La_law 1359 = .ok (.invokevirtual 161, 3) := by decide +kernel
theorem d_La_law_1362 : decode b_La_law 1362 = .ok (.aload_n 2, 1) := by decide +kernel
theorem d_La_law_1363 : decode b_La_law 1363 = .ok (.invokevirtual 164, 3) := by decide +kernel
theorem d_La_law_1366 : decode b_La_law 1366 = .ok (.if_icmp .eq 74, 3) := by decide +kernel
theorem d_La_law_1369 : decode b_La_law 1369 = .ok (.iconst 0, 1) := by decide +kernel
theorem d_La_law_1370 : decode b_La_law 1370 = .ok (.ireturn, 1) := by decide +kernel
theorem d_La_law_1371 : decode b_La_law 1371 = .ok (.aload_n 1, 1) := by decide +kernel
theorem d_La_law_1372 : decode b_La_law 1372 = .ok (.invokevirtual 165, 3) := by decide +kernel
theorem d_La_law_1375 : decode b_La_law 1375 = .ok (.aload_n 2, 1) := by decide +kernel
theorem d_La_law_1376 : decode b_La_law 1376 = .ok (.invokevirtual 168, 3) := by decide +kernel
theorem d_La_law_1379 : decode b_La_law 1379 = .ok (.if_icmp .eq 61, 3) := by decide +kernel
theorem d_La_law_1382 : decode b_La_law 1382 = .ok (.iconst 0, 1) := by decide +kernel
theorem d_La_law_1383 : decode b_La_law 1383 = .ok (.ireturn, 1) := by decide +kernel
theorem d_La_law_1384 : decode b_La_law 1384 = .ok (.aload_n 1, 1) := by decide +kernel
theorem d_La_law_1385 : decode b_La_law 1385 = .ok (.aload_n 0, 1) := by decide +kernel
theorem d_La_law_1386 : decode b_La_law 1386 = .ok (.iload 4, 2) := by decide +kernel
theorem d_La_law_1388 : decode b_La_law 1388 = .ok (.iconst 1, 1) := by decide +kernel
theorem d_La_law_1389 : decode b_La_law 1389 = .ok (.iadd, 1) := by decide +kernel
theorem d_La_law_1390 : decode b_La_law 1390 = .ok (.iaload, 1) := by decide +kernel
theorem d_La_law_1391 : decode b_La_law 1391 = .ok (.aload_n 3, 1) := by decide +kernel
theorem d_La_law_1392 : decode b_La_law 1392 = .ok (.invokestatic 169, 3) := by decide +kernel
theorem d_La_law_1395 : decode b_La_law 1395 = .ok (.istore 5, 2) := by decide +kernel
theorem d_La_law_1397 : decode b_La_law 1397 = .ok (.aload_n 2, 1) := by decide +kernel
theorem d_La_law_1398 : decode b_La_law 1398 = .ok (.aload_n 0, 1) := by decide +kernel
theorem d_La_law_1399 : decode b_La_law 1399 = .ok (.iload 4, 2) := by decide +kernel
theorem d_La_law_1401 : decode b_La_law 1401 = .ok (.iconst 1, 1) := by decide +kernel
theorem d_La_law_1402 : decode b_La_law 1402 = .ok (.iadd, 1) := by decide +kernel
theorem d_La_law_1403 : decode b_La_law 1403 = .ok (.iaload, 1) := by decide +kernel
theorem d_La_law_1404 : decode b_La_law 1404 = .ok (.invokevirtual 171, 3) := by decide +kernel
theorem d_La_law_1407 : decode b_La_law 1407 = .ok (.istore 6, 2) := by decide +kernel
theorem d_La_law_1409 : decode b_La_law 1409 = .ok (.aload_n 2, 1) := by decide +kernel
theorem d_La_law_1410 : decode b_La_law 1410 = .ok (.invokevirtual 95, 3) := by decide +kernel
theorem d_La_law_1413 : decode b_La_law 1413 = .ok (.iload 5, 2) := by decide +kernel
theorem d_La_law_1415 : decode b_La_law 1415 = .ok (.if_icmp .eq 5, 3) := by decide +kernel
theorem d_La_law_1418 : decode b_La_law 1418 = .ok (.iconst 0, 1) := by decide +kernel
theorem d_La_law_1419 : decode b_La_law 1419 = .ok (.ireturn, 1) := by decide +kernel
theorem d_La_law_1420 : decode b_La_law 1420 = .ok (.iload 5, 2) := by decide +kernel
theorem d_La_law_1422 : decode b_La_law 1422 = .ok (.ifCond .ne 15, 3) := by decide +kernel
theorem d_La_law_1425 : decode b_La_law 1425 = .ok (.aload_n 3, 1) := by decide +kernel
theorem d_La_law_1426 : decode b_La_law 1426 = .ok (.iconst 0, 1) := by decide +kernel
theorem d_La_law_1427 : decode b_La_law 1427 = .ok (.laload, 1) := by decide +kernel
theorem d_La_law_1428 : decode b_La_law 1428 = .ok (.iload 6, 2) := by decide +kernel
theorem d_La_law_1430 : decode b_La_law 1430 = .ok (.i2l, 1) := by decide +kernel
theorem d_La_law_1431 : decode b_La_law 1431 = .ok (.lcmp, 1) := by decide +kernel
theorem d_La_law_1432 : decode b_La_law 1432 = .ok (.ifCond .eq 5, 3) := by decide +kernel
theorem d_La_law_1435 : decode b_La_law 1435 = .ok (.iconst 0, 1) := by decide +kernel
theorem d_La_law_1436 : decode b_La_law 1436 = .ok (.ireturn, 1) := by decide +kernel
theorem d_La_law_1437 : decode b_La_law 1437 = .ok (.goto 3, 3) := by decide +kernel
theorem d_La_law_1440 : decode b_La_law 1440 = .ok (.iinc 4 8, 3) := by decide +kernel
theorem d_La_law_1443 : decode b_La_law 1443 = .ok (.goto (-1420), 3) := by decide +kernel
theorem d_La_law_1446 : decode b_La_law 1446 = .ok (.iconst 1, 1) := by decide +kernel
theorem d_La_law_1447 : decode b_La_law 1447 = .ok (.ireturn, 1) := by decide +kernel
