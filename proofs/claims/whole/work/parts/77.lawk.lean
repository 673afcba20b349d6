def RL : String := "QlRewriteLaw"
theorem dL_0 : decode code 0 = .ok (.new 7, 3) := by decide +kernel
theorem dL_3 : decode code 3 = .ok (.dup, 1) := by decide +kernel
theorem dL_4 : decode code 4 = .ok (.invokespecial 9, 3) := by decide +kernel
theorem dL_7 : decode code 7 = .ok (.astore_n 1, 1) := by decide +kernel
theorem dL_8 : decode code 8 = .ok (.new 10, 3) := by decide +kernel
theorem dL_11 : decode code 11 = .ok (.dup, 1) := by decide +kernel
theorem dL_12 : decode code 12 = .ok (.invokespecial 12, 3) := by decide +kernel
theorem dL_15 : decode code 15 = .ok (.astore_n 2, 1) := by decide +kernel
theorem dL_16 : decode code 16 = .ok (.iconst 0, 1) := by decide +kernel
theorem dL_17 : decode code 17 = .ok (.istore_n 3, 1) := by decide +kernel
theorem dL_18 : decode code 18 = .ok (.iload_n 3, 1) := by decide +kernel
theorem dL_19 : decode code 19 = .ok (.aload_n 0, 1) := by decide +kernel
theorem dL_20 : decode code 20 = .ok (.arraylength, 1) := by decide +kernel
theorem dL_21 : decode code 21 = .ok (.bipush 6, 2) := by decide +kernel
theorem dL_23 : decode code 23 = .ok (.isub, 1) := by decide +kernel
theorem dL_24 : decode code 24 = .ok (.if_icmp .gt 569, 3) := by decide +kernel
theorem dL_27 : decode code 27 = .ok (.aload_n 0, 1) := by decide +kernel
theorem dL_28 : decode code 28 = .ok (.iload_n 3, 1) := by decide +kernel
theorem dL_29 : decode code 29 = .ok (.iaload, 1) := by decide +kernel
theorem dL_30 : decode code 30 = .ok (.bipush 15, 2) := by decide +kernel
theorem dL_32 : decode code 32 = .ok (.iand, 1) := by decide +kernel
theorem dL_33 : decode code 33 = .ok (.tableswitch 554 0 12 #[67, 110, 179, 248, 271, 350, 373, 416, 439, 472, 505, 518, 541], 67) := by decide +kernel
theorem dL_100 : decode code 100 = .ok (.aload_n 1, 1) := by decide +kernel
theorem dL_101 : decode code 101 = .ok (.aload_n 0, 1) := by decide +kernel
theorem dL_102 : decode code 102 = .ok (.iload_n 3, 1) := by decide +kernel
theorem dL_103 : decode code 103 = .ok (.iconst 1, 1) := by decide +kernel
theorem dL_104 : decode code 104 = .ok (.iadd, 1) := by decide +kernel
theorem dL_105 : decode code 105 = .ok (.iaload, 1) := by decide +kernel
theorem dL_106 : decode code 106 = .ok (.aload_n 0, 1) := by decide +kernel
theorem dL_107 : decode code 107 = .ok (.iload_n 3, 1) := by decide +kernel
theorem dL_108 : decode code 108 = .ok (.iconst 2, 1) := by decide +kernel
theorem dL_109 : decode code 109 = .ok (.iadd, 1) := by decide +kernel
theorem dL_110 : decode code 110 = .ok (.iaload, 1) := by decide +kernel
theorem dL_111 : decode code 111 = .ok (.aload_n 0, 1) := by decide +kernel
theorem dL_112 : decode code 112 = .ok (.iload_n 3, 1) := by decide +kernel
theorem dL_113 : decode code 113 = .ok (.iconst 3, 1) := by decide +kernel
theorem dL_114 : decode code 114 = .ok (.iadd, 1) := by decide +kernel
theorem dL_115 : decode code 115 = .ok (.iaload, 1) := by decide +kernel
theorem dL_116 : decode code 116 = .ok (.invokevirtual 13, 3) := by decide +kernel
theorem dL_119 : decode code 119 = .ok (.aload_n 2, 1) := by decide +kernel
theorem dL_120 : decode code 120 = .ok (.aload_n 0, 1) := by decide +kernel
theorem dL_121 : decode code 121 = .ok (.iload_n 3, 1) := by decide +kernel
theorem dL_122 : decode code 122 = .ok (.iconst 1, 1) := by decide +kernel
theorem dL_123 : decode code 123 = .ok (.iadd, 1) := by decide +kernel
theorem dL_124 : decode code 124 = .ok (.iaload, 1) := by decide +kernel
theorem dL_125 : decode code 125 = .ok (.aload_n 0, 1) := by decide +kernel
theorem dL_126 : decode code 126 = .ok (.iload_n 3, 1) := by decide +kernel
theorem dL_127 : decode code 127 = .ok (.iconst 2, 1) := by decide +kernel
theorem dL_128 : decode code 128 = .ok (.iadd, 1) := by decide +kernel
theorem dL_129 : decode code 129 = .ok (.iaload, 1) := by decide +kernel
theorem dL_130 : decode code 130 = .ok (.aload_n 0, 1) := by decide +kernel
theorem dL_131 : decode code 131 = .ok (.iload_n 3, 1) := by decide +kernel
theorem dL_132 : decode code 132 = .ok (.iconst 3, 1) := by decide +kernel
theorem dL_133 : decode code 133 = .ok (.iadd, 1) := by decide +kernel
theorem dL_134 : decode code 134 = .ok (.iaload, 1) := by decide +kernel
theorem dL_135 : decode code 135 = .ok (.invokevirtual 17, 3) := by decide +kernel
theorem dL_138 : decode code 138 = .ok (.if_icmp .eq 449, 3) := by decide +kernel
theorem dL_141 : decode code 141 = .ok (.iconst 0, 1) := by decide +kernel
theorem dL_142 : decode code 142 = .ok (.ireturn, 1) := by decide +kernel
theorem dL_143 : decode code 143 = .ok (.aload_n 1, 1) := by decide +kernel
theorem dL_144 : decode code 144 = .ok (.aload_n 0, 1) := by decide +kernel
theorem dL_145 : decode code 145 = .ok (.iload_n 3, 1) := by decide +kernel
theorem dL_146 : decode code 146 = .ok (.iconst 1, 1) := by decide +kernel
theorem dL_147 : decode code 147 = .ok (.iadd, 1) := by decide +kernel
theorem dL_148 : decode code 148 = .ok (.iaload, 1) := by decide +kernel
theorem dL_149 : decode code 149 = .ok (.ifCond .eq 7, 3) := by decide +kernel
theorem dL_152 : decode code 152 = .ok (.iconst 1, 1) := by decide +kernel
theorem dL_153 : decode code 153 = .ok (.goto 4, 3) := by decide +kernel
theorem dL_156 : decode code 156 = .ok (.iconst 0, 1) := by decide +kernel
theorem dL_157 : decode code 157 = .ok (.aload_n 0, 1) := by decide +kernel
theorem dL_158 : decode code 158 = .ok (.iload_n 3, 1) := by decide +kernel
theorem dL_159 : decode code 159 = .ok (.iconst 2, 1) := by decide +kernel
theorem dL_160 : decode code 160 = .ok (.iadd, 1) := by decide +kernel
theorem dL_161 : decode code 161 = .ok (.iaload, 1) := by decide +kernel
theorem dL_162 : decode code 162 = .ok (.aload_n 0, 1) := by decide +kernel
theorem dL_163 : decode code 163 = .ok (.iload_n 3, 1) := by decide +kernel
theorem dL_164 : decode code 164 = .ok (.iconst 3, 1) := by decide +kernel
theorem dL_165 : decode code 165 = .ok (.iadd, 1) := by decide +kernel
theorem dL_166 : decode code 166 = .ok (.iaload, 1) := by decide +kernel
theorem dL_167 : decode code 167 = .ok (.aload_n 0, 1) := by decide +kernel
theorem dL_168 : decode code 168 = .ok (.iload_n 3, 1) := by decide +kernel
theorem dL_169 : decode code 169 = .ok (.iconst 4, 1) := by decide +kernel
theorem dL_170 : decode code 170 = .ok (.iadd, 1) := by decide +kernel
theorem dL_171 : decode code 171 = .ok (.iaload, 1) := by decide +kernel
theorem dL_172 : decode code 172 = .ok (.invokevirtual 18, 3) := by decide +kernel
theorem dL_175 : decode code 175 = .ok (.aload_n 2, 1) := by decide +kernel
theorem dL_176 : decode code 176 = .ok (.aload_n 0, 1) := by decide +kernel
theorem dL_177 : decode code 177 = .ok (.iload_n 3, 1) := by decide +kernel
theorem dL_178 : decode code 178 = .ok (.iconst 1, 1) := by decide +kernel
theorem dL_179 : decode code 179 = .ok (.iadd, 1) := by decide +kernel
theorem dL_180 : decode code 180 = .ok (.iaload, 1) := by decide +kernel
theorem dL_181 : decode code 181 = .ok (.ifCond .eq 7, 3) := by decide +kernel
theorem dL_184 : decode code 184 = .ok (.iconst 1, 1) := by decide +kernel
theorem dL_185 : decode code 185 = .ok (.goto 4, 3) := by decide +kernel
theorem dL_188 : decode code 188 = .ok (.iconst 0, 1) := by decide +kernel
theorem dL_189 : decode code 189 = .ok (.aload_n 0, 1) := by decide +kernel
theorem dL_190 : decode code 190 = .ok (.iload_n 3, 1) := by decide +kernel
theorem dL_191 : decode code 191 = .ok (.iconst 2, 1) := by decide +kernel
theorem dL_192 : decode code 192 = .ok (.iadd, 1) := by decide +kernel
theorem dL_193 : decode code 193 = .ok (.iaload, 1) := by decide +kernel
theorem dL_194 : decode code 194 = .ok (.aload_n 0, 1) := by decide +kernel
theorem dL_195 : decode code 195 = .ok (.iload_n 3, 1) := by decide +kernel
theorem dL_196 : decode code 196 = .ok (.iconst 3, 1) := by decide +kernel
theorem dL_197 : decode code 197 = .ok (.iadd, 1) := by decide +kernel
theorem dL_198 : decode code 198 = .ok (.iaload, 1) := by decide +kernel
theorem dL_199 : decode code 199 = .ok (.aload_n 0, 1) := by decide +kernel
theorem dL_200 : decode code 200 = .ok (.iload_n 3, 1) := by decide +kernel
theorem dL_201 : decode code 201 = .ok (.iconst 4, 1) := by decide +kernel
theorem dL_202 : decode code 202 = .ok (.iadd, 1) := by decide +kernel
theorem dL_203 : decode code 203 = .ok (.iaload, 1) := by decide +kernel
theorem dL_204 : decode code 204 = .ok (.invokevirtual 22, 3) := by decide +kernel
theorem dL_207 : decode code 207 = .ok (.if_icmp .eq 380, 3) := by decide +kernel
theorem dL_210 : decode code 210 = .ok (.iconst 0, 1) := by decide +kernel
theorem dL_211 : decode code 211 = .ok (.ireturn, 1) := by decide +kernel
theorem dL_212 : decode code 212 = .ok (.aload_n 1, 1) := by decide +kernel
theorem dL_213 : decode code 213 = .ok (.aload_n 0, 1) := by decide +kernel
theorem dL_214 : decode code 214 = .ok (.iload_n 3, 1) := by decide +kernel
theorem dL_215 : decode code 215 = .ok (.iconst 1, 1) := by decide +kernel
theorem dL_216 : decode code 216 = .ok (.iadd, 1) := by decide +kernel
theorem dL_217 : decode code 217 = .ok (.iaload, 1) := by decide +kernel
theorem dL_218 : decode code 218 = .ok (.ifCond .eq 7, 3) := by decide +kernel
theorem dL_221 : decode code 221 = .ok (.iconst 1, 1) := by decide +kernel
theorem dL_222 : decode code 222 = .ok (.goto 4, 3) := by decide +kernel
theorem dL_225 : decode code 225 = .ok (.iconst 0, 1) := by decide +kernel
theorem dL_226 : decode code 226 = .ok (.aload_n 0, 1) := by decide +kernel
theorem dL_227 : decode code 227 = .ok (.iload_n 3, 1) := by decide +kernel
theorem dL_228 : decode code 228 = .ok (.iconst 2, 1) := by decide +kernel
theorem dL_229 : decode code 229 = .ok (.iadd, 1) := by decide +kernel
theorem dL_230 : decode code 230 = .ok (.iaload, 1) := by decide +kernel
theorem dL_231 : decode code 231 = .ok (.aload_n 0, 1) := by decide +kernel
theorem dL_232 : decode code 232 = .ok (.iload_n 3, 1) := by decide +kernel
theorem dL_233 : decode code 233 = .ok (.iconst 3, 1) := by decide +kernel
theorem dL_234 : decode code 234 = .ok (.iadd, 1) := by decide +kernel
theorem dL_235 : decode code 235 = .ok (.iaload, 1) := by decide +kernel
theorem dL_236 : decode code 236 = .ok (.aload_n 0, 1) := by decide +kernel
theorem dL_237 : decode code 237 = .ok (.iload_n 3, 1) := by decide +kernel
theorem dL_238 : decode code 238 = .ok (.iconst 4, 1) := by decide +kernel
theorem dL_239 : decode code 239 = .ok (.iadd, 1) := by decide +kernel
theorem dL_240 : decode code 240 = .ok (.iaload, 1) := by decide +kernel
theorem dL_241 : decode code 241 = .ok (.invokevirtual 23, 3) := by decide +kernel
theorem dL_244 : decode code 244 = .ok (.aload_n 2, 1) := by decide +kernel
theorem dL_245 : decode code 245 = .ok (.aload_n 0, 1) := by decide +kernel
theorem dL_246 : decode code 246 = .ok (.iload_n 3, 1) := by decide +kernel
theorem dL_247 : decode code 247 = .ok (.iconst 1, 1) := by decide +kernel
theorem dL_248 : decode code 248 = .ok (.iadd, 1) := by decide +kernel
theorem dL_249 : decode code 249 = .ok (.iaload, 1) := by decide +kernel
theorem dL_250 : decode code 250 = .ok (.ifCond .eq 7, 3) := by decide +kernel
theorem dL_253 : decode code 253 = .ok (.iconst 1, 1) := by decide +kernel
theorem dL_254 : decode code 254 = .ok (.goto 4, 3) := by decide +kernel
theorem dL_257 : decode code 257 = .ok (.iconst 0, 1) := by decide +kernel
theorem dL_258 : decode code 258 = .ok (.aload_n 0, 1) := by decide +kernel
theorem dL_259 : decode code 259 = .ok (.iload_n 3, 1) := by decide +kernel
theorem dL_260 : decode code 260 = .ok (.iconst 2, 1) := by decide +kernel
theorem dL_261 : decode code 261 = .ok (.iadd, 1) := by decide +kernel
theorem dL_262 : decode code 262 = .ok (.iaload, 1) := by decide +kernel
theorem dL_263 : decode code 263 = .ok (.aload_n 0, 1) := by decide +kernel
theorem dL_264 : decode code 264 = .ok (.iload_n 3, 1) := by decide +kernel
theorem dL_265 : decode code 265 = .ok (.iconst 3, 1) := by decide +kernel
theorem dL_266 : decode code 266 = .ok (.iadd, 1) := by decide +kernel
theorem dL_267 : decode code 267 = .ok (.iaload, 1) := by decide +kernel
theorem dL_268 : decode code 268 = .ok (.aload_n 0, 1) := by decide +kernel
theorem dL_269 : decode code 269 = .ok (.iload_n 3, 1) := by decide +kernel
theorem dL_270 : decode code 270 = .ok (.iconst 4, 1) := by decide +kernel
theorem dL_271 : decode code 271 = .ok (.iadd, 1) := by decide +kernel
theorem dL_272 : decode code 272 = .ok (.iaload, 1) := by decide +kernel
theorem dL_273 : decode code 273 = .ok (.invokevirtual 26, 3) := by decide +kernel
theorem dL_276 : decode code 276 = .ok (.if_icmp .eq 311, 3) := by decide +kernel
theorem dL_279 : decode code 279 = .ok (.iconst 0, 1) := by decide +kernel
theorem dL_280 : decode code 280 = .ok (.ireturn, 1) := by decide +kernel
theorem dL_281 : decode code 281 = .ok (.aload_n 1, 1) := by decide +kernel
theorem dL_282 : decode code 282 = .ok (.aload_n 0, 1) := by decide +kernel
theorem dL_283 : decode code 283 = .ok (.iload_n 3, 1) := by decide +kernel
theorem dL_284 : decode code 284 = .ok (.iconst 1, 1) := by decide +kernel
theorem dL_285 : decode code 285 = .ok (.iadd, 1) := by decide +kernel
theorem dL_286 : decode code 286 = .ok (.iaload, 1) := by decide +kernel
theorem dL_287 : decode code 287 = .ok (.invokevirtual 27, 3) := by decide +kernel
theorem dL_290 : decode code 290 = .ok (.aload_n 2, 1) := by decide +kernel
theorem dL_291 : decode code 291 = .ok (.aload_n 0, 1) := by decide +kernel
theorem dL_292 : decode code 292 = .ok (.iload_n 3, 1) := by decide +kernel
theorem dL_293 : decode code 293 = .ok (.iconst 1, 1) := by decide +kernel
theorem dL_294 : decode code 294 = .ok (.iadd, 1) := by decide +kernel
theorem dL_295 : decode code 295 = .ok (.iaload, 1) := by decide +kernel
theorem dL_296 : decode code 296 = .ok (.invokevirtual 31, 3) := by decide +kernel
theorem dL_299 : decode code 299 = .ok (.if_icmp .eq 288, 3) := by decide +kernel
theorem dL_302 : decode code 302 = .ok (.iconst 0, 1) := by decide +kernel
theorem dL_303 : decode code 303 = .ok (.ireturn, 1) := by decide +kernel
theorem dL_304 : decode code 304 = .ok (.aload_n 1, 1) := by decide +kernel
theorem dL_305 : decode code 305 = .ok (.aload_n 0, 1) := by decide +kernel
theorem dL_306 : decode code 306 = .ok (.iload_n 3, 1) := by decide +kernel
theorem dL_307 : decode code 307 = .ok (.iconst 1, 1) := by decide +kernel
theorem dL_308 : decode code 308 = .ok (.iadd, 1) := by decide +kernel
theorem dL_309 : decode code 309 = .ok (.iaload, 1) := by decide +kernel
theorem dL_310 : decode code 310 = .ok (.aload_n 0, 1) := by decide +kernel
theorem dL_311 : decode code 311 = .ok (.iload_n 3, 1) := by decide +kernel
theorem dL_312 : decode code 312 = .ok (.iconst 2, 1) := by decide +kernel
theorem dL_313 : decode code 313 = .ok (.iadd, 1) := by decide +kernel
theorem dL_314 : decode code 314 = .ok (.iaload, 1) := by decide +kernel
theorem dL_315 : decode code 315 = .ok (.ifCond .eq 7, 3) := by decide +kernel
theorem dL_318 : decode code 318 = .ok (.iconst 1, 1) := by decide +kernel
theorem dL_319 : decode code 319 = .ok (.goto 4, 3) := by decide +kernel
theorem dL_322 : decode code 322 = .ok (.iconst 0, 1) := by decide +kernel
theorem dL_323 : decode code 323 = .ok (.aload_n 0, 1) := by decide +kernel
theorem dL_324 : decode code 324 = .ok (.iload_n 3, 1) := by decide +kernel
theorem dL_325 : decode code 325 = .ok (.iconst 3, 1) := by decide +kernel
theorem dL_326 : decode code 326 = .ok (.iadd, 1) := by decide +kernel
theorem dL_327 : decode code 327 = .ok (.iaload, 1) := by decide +kernel
theorem dL_328 : decode code 328 = .ok (.aload_n 0, 1) := by decide +kernel
theorem dL_329 : decode code 329 = .ok (.iload_n 3, 1) := by decide +kernel
theorem dL_330 : decode code 330 = .ok (.iconst 4, 1) := by decide +kernel
theorem dL_331 : decode code 331 = .ok (.iadd, 1) := by decide +kernel
theorem dL_332 : decode code 332 = .ok (.iaload, 1) := by decide +kernel
theorem dL_333 : decode code 333 = .ok (.aload_n 0, 1) := by decide +kernel
theorem dL_334 : decode code 334 = .ok (.iload_n 3, 1) := by decide +kernel
theorem dL_335 : decode code 335 = .ok (.iconst 5, 1) := by decide +kernel
theorem dL_336 : decode code 336 = .ok (.iadd, 1) := by decide +kernel
theorem dL_337 : decode code 337 = .ok (.iaload, 1) := by decide +kernel
theorem dL_338 : decode code 338 = .ok (.invokevirtual 32, 3) := by decide +kernel
theorem dL_341 : decode code 341 = .ok (.aload_n 2, 1) := by decide +kernel
theorem dL_342 : decode code 342 = .ok (.aload_n 0, 1) := by decide +kernel
theorem dL_343 : decode code 343 = .ok (.iload_n 3, 1) := by decide +kernel
theorem dL_344 : decode code 344 = .ok (.iconst 1, 1) := by decide +kernel
theorem dL_345 : decode code 345 = .ok (.iadd, 1) := by decide +kernel
theorem dL_346 : decode code 346 = .ok (.iaload, 1) := by decide +kernel
theorem dL_347 : decode code 347 = .ok (.aload_n 0, 1) := by decide +kernel
theorem dL_348 : decode code 348 = .ok (.iload_n 3, 1) := by decide +kernel
theorem dL_349 : decode code 349 = .ok (.iconst 2, 1) := by decide +kernel
theorem dL_350 : decode code 350 = .ok (.iadd, 1) := by decide +kernel
theorem dL_351 : decode code 351 = .ok (.iaload, 1) := by decide +kernel
theorem dL_352 : decode code 352 = .ok (.ifCond .eq 7, 3) := by decide +kernel
theorem dL_355 : decode code 355 = .ok (.iconst 1, 1) := by decide +kernel
theorem dL_356 : decode code 356 = .ok (.goto 4, 3) := by decide +kernel
theorem dL_359 : decode code 359 = .ok (.iconst 0, 1) := by decide +kernel
theorem dL_360 : decode code 360 = .ok (.aload_n 0, 1) := by decide +kernel
theorem dL_361 : decode code 361 = .ok (.iload_n 3, 1) := by decide +kernel
theorem dL_362 : decode code 362 = .ok (.iconst 3, 1) := by decide +kernel
theorem dL_363 : decode code 363 = .ok (.iadd, 1) := by decide +kernel
theorem dL_364 : decode code 364 = .ok (.iaload, 1) := by decide +kernel
theorem dL_365 : decode code 365 = .ok (.aload_n 0, 1) := by decide +kernel
theorem dL_366 : decode code 366 = .ok (.iload_n 3, 1) := by decide +kernel
theorem dL_367 : decode code 367 = .ok (.iconst 4, 1) := by decide +kernel
theorem dL_368 : decode code 368 = .ok (.iadd, 1) := by decide +kernel
theorem dL_369 : decode code 369 = .ok (.iaload, 1) := by decide +kernel
theorem dL_370 : decode code 370 = .ok (.aload_n 0, 1) := by decide +kernel
theorem dL_371 : decode code 371 = .ok (.iload_n 3, 1) := by decide +kernel
theorem dL_372 : decode code 372 = .ok (.iconst 5, 1) := by decide +kernel
theorem dL_373 : decode code 373 = .ok (.iadd, 1) := by decide +kernel
theorem dL_374 : decode code 374 = .ok (.iaload, 1) := by decide +kernel
theorem dL_375 : decode code 375 = .ok (.invokevirtual 36, 3) := by decide +kernel
theorem dL_378 : decode code 378 = .ok (.if_icmp .eq 209, 3) := by decide +kernel
theorem dL_381 : decode code 381 = .ok (.iconst 0, 1) := by decide +kernel
theorem dL_382 : decode code 382 = .ok (.ireturn, 1) := by decide +kernel
theorem dL_383 : decode code 383 = .ok (.aload_n 1, 1) := by decide +kernel
theorem dL_384 : decode code 384 = .ok (.aload_n 0, 1) := by decide +kernel
theorem dL_385 : decode code 385 = .ok (.iload_n 3, 1) := by decide +kernel
theorem dL_386 : decode code 386 = .ok (.iconst 1, 1) := by decide +kernel
theorem dL_387 : decode code 387 = .ok (.iadd, 1) := by decide +kernel
theorem dL_388 : decode code 388 = .ok (.iaload, 1) := by decide +kernel
theorem dL_389 : decode code 389 = .ok (.invokevirtual 37, 3) := by decide +kernel
theorem dL_392 : decode code 392 = .ok (.aload_n 2, 1) := by decide +kernel
theorem dL_393 : decode code 393 = .ok (.aload_n 0, 1) := by decide +kernel
theorem dL_394 : decode code 394 = .ok (.iload_n 3, 1) := by decide +kernel
theorem dL_395 : decode code 395 = .ok (.iconst 1, 1) := by decide +kernel
theorem dL_396 : decode code 396 = .ok (.iadd, 1) := by decide +kernel
theorem dL_397 : decode code 397 = .ok (.iaload, 1) := by decide +kernel
theorem dL_398 : decode code 398 = .ok (.invokevirtual 40, 3) := by decide +kernel
theorem dL_401 : decode code 401 = .ok (.if_icmp .eq 186, 3) := by decide +kernel
theorem dL_404 : decode code 404 = .ok (.iconst 0, 1) := by decide +kernel
theorem dL_405 : decode code 405 = .ok (.ireturn, 1) := by decide +kernel
theorem dL_406 : decode code 406 = .ok (.aload_n 1, 1) := by decide +kernel
theorem dL_407 : decode code 407 = .ok (.aload_n 0, 1) := by decide +kernel
theorem dL_408 : decode code 408 = .ok (.iload_n 3, 1) := by decide +kernel
theorem dL_409 : decode code 409 = .ok (.iconst 1, 1) := by decide +kernel
theorem dL_410 : decode code 410 = .ok (.iadd, 1) := by decide +kernel
theorem dL_411 : decode code 411 = .ok (.iaload, 1) := by decide +kernel
theorem dL_412 : decode code 412 = .ok (.aload_n 0, 1) := by decide +kernel
theorem dL_413 : decode code 413 = .ok (.iload_n 3, 1) := by decide +kernel
theorem dL_414 : decode code 414 = .ok (.iconst 2, 1) := by decide +kernel
theorem dL_415 : decode code 415 = .ok (.iadd, 1) := by decide +kernel
theorem dL_416 : decode code 416 = .ok (.iaload, 1) := by decide +kernel
theorem dL_417 : decode code 417 = .ok (.aload_n 0, 1) := by decide +kernel
theorem dL_418 : decode code 418 = .ok (.iload_n 3, 1) := by decide +kernel
theorem dL_419 : decode code 419 = .ok (.iconst 3, 1) := by decide +kernel
theorem dL_420 : decode code 420 = .ok (.iadd, 1) := by decide +kernel
theorem dL_421 : decode code 421 = .ok (.iaload, 1) := by decide +kernel
theorem dL_422 : decode code 422 = .ok (.invokevirtual 41, 3) := by decide +kernel
theorem dL_425 : decode code 425 = .ok (.aload_n 2, 1) := by decide +kernel
theorem dL_426 : decode code 426 = .ok (.aload_n 0, 1) := by decide +kernel
theorem dL_427 : decode code 427 = .ok (.iload_n 3, 1) := by decide +kernel
theorem dL_428 : decode code 428 = .ok (.iconst 1, 1) := by decide +kernel
theorem dL_429 : decode code 429 = .ok (.iadd, 1) := by decide +kernel
theorem dL_430 : decode code 430 = .ok (.iaload, 1) := by decide +kernel
theorem dL_431 : decode code 431 = .ok (.aload_n 0, 1) := by decide +kernel
theorem dL_432 : decode code 432 = .ok (.iload_n 3, 1) := by decide +kernel
theorem dL_433 : decode code 433 = .ok (.iconst 2, 1) := by decide +kernel
theorem dL_434 : decode code 434 = .ok (.iadd, 1) := by decide +kernel
theorem dL_435 : decode code 435 = .ok (.iaload, 1) := by decide +kernel
theorem dL_436 : decode code 436 = .ok (.aload_n 0, 1) := by decide +kernel
theorem dL_437 : decode code 437 = .ok (.iload_n 3, 1) := by decide +kernel
theorem dL_438 : decode code 438 = .ok (.iconst 3, 1) := by decide +kernel
theorem dL_439 : decode code 439 = .ok (.iadd, 1) := by decide +kernel
theorem dL_440 : decode code 440 = .ok (.iaload, 1) := by decide +kernel
theorem dL_441 : decode code 441 = .ok (.invokevirtual 44, 3) := by decide +kernel
theorem dL_444 : decode code 444 = .ok (.if_icmp .eq 143, 3) := by decide +kernel
theorem dL_447 : decode code 447 = .ok (.iconst 0, 1) := by decide +kernel
theorem dL_448 : decode code 448 = .ok (.ireturn, 1) := by decide +kernel
theorem dL_449 : decode code 449 = .ok (.aload_n 1, 1) := by decide +kernel
theorem dL_450 : decode code 450 = .ok (.aload_n 0, 1) := by decide +kernel
theorem dL_451 : decode code 451 = .ok (.iload_n 3, 1) := by decide +kernel
theorem dL_452 : decode code 452 = .ok (.iconst 1, 1) := by decide +kernel
theorem dL_453 : decode code 453 = .ok (.iadd, 1) := by decide +kernel
theorem dL_454 : decode code 454 = .ok (.iaload, 1) := by decide +kernel
theorem dL_455 : decode code 455 = .ok (.invokevirtual 45, 3) := by decide +kernel
theorem dL_458 : decode code 458 = .ok (.aload_n 2, 1) := by decide +kernel
theorem dL_459 : decode code 459 = .ok (.aload_n 0, 1) := by decide +kernel
theorem dL_460 : decode code 460 = .ok (.iload_n 3, 1) := by decide +kernel
theorem dL_461 : decode code 461 = .ok (.iconst 1, 1) := by decide +kernel
theorem dL_462 : decode code 462 = .ok (.iadd, 1) := by decide +kernel
theorem dL_463 : decode code 463 = .ok (.iaload, 1) := by decide +kernel
theorem dL_464 : decode code 464 = .ok (.invokevirtual 48, 3) := by decide +kernel
theorem dL_467 : decode code 467 = .ok (.if_icmp .eq 120, 3) := by decide +kernel
theorem dL_470 : decode code 470 = .ok (.iconst 0, 1) := by decide +kernel
theorem dL_471 : decode code 471 = .ok (.ireturn, 1) := by decide +kernel
theorem dL_472 : decode code 472 = .ok (.aload_n 1, 1) := by decide +kernel
theorem dL_473 : decode code 473 = .ok (.aload_n 0, 1) := by decide +kernel
theorem dL_474 : decode code 474 = .ok (.iload_n 3, 1) := by decide +kernel
theorem dL_475 : decode code 475 = .ok (.iconst 1, 1) := by decide +kernel
theorem dL_476 : decode code 476 = .ok (.iadd, 1) := by decide +kernel
theorem dL_477 : decode code 477 = .ok (.iaload, 1) := by decide +kernel
theorem dL_478 : decode code 478 = .ok (.aload_n 0, 1) := by decide +kernel
theorem dL_479 : decode code 479 = .ok (.iload_n 3, 1) := by decide +kernel
theorem dL_480 : decode code 480 = .ok (.iconst 2, 1) := by decide +kernel
theorem dL_481 : decode code 481 = .ok (.iadd, 1) := by decide +kernel
theorem dL_482 : decode code 482 = .ok (.iaload, 1) := by decide +kernel
theorem dL_483 : decode code 483 = .ok (.invokevirtual 49, 3) := by decide +kernel
theorem dL_486 : decode code 486 = .ok (.aload_n 2, 1) := by decide +kernel
theorem dL_487 : decode code 487 = .ok (.aload_n 0, 1) := by decide +kernel
theorem dL_488 : decode code 488 = .ok (.iload_n 3, 1) := by decide +kernel
theorem dL_489 : decode code 489 = .ok (.iconst 1, 1) := by decide +kernel
theorem dL_490 : decode code 490 = .ok (.iadd, 1) := by decide +kernel
theorem dL_491 : decode code 491 = .ok (.iaload, 1) := by decide +kernel
theorem dL_492 : decode code 492 = .ok (.aload_n 0, 1) := by decide +kernel
theorem dL_493 : decode code 493 = .ok (.iload_n 3, 1) := by decide +kernel
theorem dL_494 : decode code 494 = .ok (.iconst 2, 1) := by decide +kernel
theorem dL_495 : decode code 495 = .ok (.iadd, 1) := by decide +kernel
theorem dL_496 : decode code 496 = .ok (.iaload, 1) := by decide +kernel
theorem dL_497 : decode code 497 = .ok (.invokevirtual 53, 3) := by decide +kernel
theorem dL_500 : decode code 500 = .ok (.if_icmp .eq 87, 3) := by decide +kernel
theorem dL_503 : decode code 503 = .ok (.iconst 0, 1) := by decide +kernel
theorem dL_504 : decode code 504 = .ok (.ireturn, 1) := by decide +kernel
theorem dL_505 : decode code 505 = .ok (.aload_n 1, 1) := by decide +kernel
theorem dL_506 : decode code 506 = .ok (.aload_n 0, 1) := by decide +kernel
theorem dL_507 : decode code 507 = .ok (.iload_n 3, 1) := by decide +kernel
theorem dL_508 : decode code 508 = .ok (.iconst 1, 1) := by decide +kernel
theorem dL_509 : decode code 509 = .ok (.iadd, 1) := by decide +kernel
theorem dL_510 : decode code 510 = .ok (.iaload, 1) := by decide +kernel
theorem dL_511 : decode code 511 = .ok (.aload_n 0, 1) := by decide +kernel
theorem dL_512 : decode code 512 = .ok (.iload_n 3, 1) := by decide +kernel
theorem dL_513 : decode code 513 = .ok (.iconst 2, 1) := by decide +kernel
theorem dL_514 : decode code 514 = .ok (.iadd, 1) := by decide +kernel
theorem dL_515 : decode code 515 = .ok (.iaload, 1) := by decide +kernel
theorem dL_516 : decode code 516 = .ok (.invokevirtual 54, 3) := by decide +kernel
theorem dL_519 : decode code 519 = .ok (.aload_n 2, 1) := by decide +kernel
theorem dL_520 : decode code 520 = .ok (.aload_n 0, 1) := by decide +kernel
theorem dL_521 : decode code 521 = .ok (.iload_n 3, 1) := by decide +kernel
theorem dL_522 : decode code 522 = .ok (.iconst 1, 1) := by decide +kernel
theorem dL_523 : decode code 523 = .ok (.iadd, 1) := by decide +kernel
theorem dL_524 : decode code 524 = .ok (.iaload, 1) := by decide +kernel
theorem dL_525 : decode code 525 = .ok (.aload_n 0, 1) := by decide +kernel
theorem dL_526 : decode code 526 = .ok (.iload_n 3, 1) := by decide +kernel
theorem dL_527 : decode code 527 = .ok (.iconst 2, 1) := by decide +kernel
theorem dL_528 : decode code 528 = .ok (.iadd, 1) := by decide +kernel
theorem dL_529 : decode code 529 = .ok (.iaload, 1) := by decide +kernel
theorem dL_530 : decode code 530 = .ok (.invokevirtual 57, 3) := by decide +kernel
theorem dL_533 : decode code 533 = .ok (.if_icmp .eq 54, 3) := by decide +kernel
theorem dL_536 : decode code 536 = .ok (.iconst 0, 1) := by decide +kernel
theorem dL_537 : decode code 537 = .ok (.ireturn, 1) := by decide +kernel
theorem dL_538 : decode code 538 = .ok (.aload_n 1, 1) := by decide +kernel
theorem dL_539 : decode code 539 = .ok (.invokevirtual 58, 3) := by decide +kernel
theorem dL_542 : decode code 542 = .ok (.aload_n 2, 1) := by decide +kernel
theorem dL_543 : decode code 543 = .ok (.invokevirtual 62, 3) := by decide +kernel
theorem dL_546 : decode code 546 = .ok (.if_icmp .eq 41, 3) := by decide +kernel
theorem dL_549 : decode code 549 = .ok (.iconst 0, 1) := by decide +kernel
theorem dL_550 : decode code 550 = .ok (.ireturn, 1) := by decide +kernel
theorem dL_551 : decode code 551 = .ok (.aload_n 1, 1) := by decide +kernel
theorem dL_552 : decode code 552 = .ok (.aload_n 0, 1) := by decide +kernel
theorem dL_553 : decode code 553 = .ok (.iload_n 3, 1) := by decide +kernel
theorem dL_554 : decode code 554 = .ok (.iconst 1, 1) := by decide +kernel
theorem dL_555 : decode code 555 = .ok (.iadd, 1) := by decide +kernel
theorem dL_556 : decode code 556 = .ok (.iaload, 1) := by decide +kernel
theorem dL_557 : decode code 557 = .ok (.invokevirtual 63, 3) := by decide +kernel
theorem dL_560 : decode code 560 = .ok (.aload_n 2, 1) := by decide +kernel
theorem dL_561 : decode code 561 = .ok (.aload_n 0, 1) := by decide +kernel
theorem dL_562 : decode code 562 = .ok (.iload_n 3, 1) := by decide +kernel
theorem dL_563 : decode code 563 = .ok (.iconst 1, 1) := by decide +kernel
theorem dL_564 : decode code 564 = .ok (.iadd, 1) := by decide +kernel
theorem dL_565 : decode code 565 = .ok (.iaload, 1) := by decide +kernel
theorem dL_566 : decode code 566 = .ok (.invokevirtual 66, 3) := by decide +kernel
theorem dL_569 : decode code 569 = .ok (.if_icmp .eq 18, 3) := by decide +kernel
theorem dL_572 : decode code 572 = .ok (.iconst 0, 1) := by decide +kernel
theorem dL_573 : decode code 573 = .ok (.ireturn, 1) := by decide +kernel
theorem dL_574 : decode code 574 = .ok (.aload_n 1, 1) := by decide +kernel
theorem dL_575 : decode code 575 = .ok (.invokevirtual 67, 3) := by decide +kernel
theorem dL_578 : decode code 578 = .ok (.aload_n 2, 1) := by decide +kernel
theorem dL_579 : decode code 579 = .ok (.invokevirtual 70, 3) := by decide +kernel
theorem dL_582 : decode code 582 = .ok (.if_icmp .eq 5, 3) := by decide +kernel
theorem dL_585 : decode code 585 = .ok (.iconst 0, 1) := by decide +kernel
theorem dL_586 : decode code 586 = .ok (.ireturn, 1) := by decide +kernel
theorem dL_587 : decode code 587 = .ok (.iinc 3 6, 3) := by decide +kernel
theorem dL_590 : decode code 590 = .ok (.goto (-572), 3) := by decide +kernel
theorem dL_593 : decode code 593 = .ok (.iconst 1, 1) := by decide +kernel
theorem dL_594 : decode code 594 = .ok (.ireturn, 1) := by decide +kernel
def LE (p : Program) (s : State) (m : MethodId) (c : Code) (b L : Nat) (xs : Nat → Int32) (dC : Nat → ClassId) (dI : Nat → Nat → Nat) (cI cL cQ cZ : ClassId) (A : Nat → Prop) : Prop := p.tables.exec = Jvm.exec ∧ c.code = code ∧ c.maxLocals = 4 ∧ s.vm.findClass RL = some m.cls ∧ (∀ w ∈ qW, w.before #[Value.ref b] s = true) ∧ va_K (dC, dI) qCl (qT cI cL cQ cZ) s ∧ q_Tb A s s.heap ∧ va_X b L xs s s.heap ∧ b < s.heap.size ∧ ¬ A b ∧ L ≤ 3072
def LK (p : Program) (l : Launch) (e : Env) (s : State) (m : MethodId) (below : List Frame) (meth : Method) (c : Code) (Q : State → Prop) (A : Nat → Prop) (b : Nat) (dC : Nat → ClassId) (dI : Nat → Nat → Nat) (cI cL cQ cZ : ClassId) (x0 axm k1 k2 k3 fct m1 t1 s1 st1 e1 asd fbd bow boa bob bra bfa rwr nr0 nd0 os0 cd0 fr0 f1 f2 nx0 x1 x2 fnr fm0 g1 g2 th y0 z1 z2 z3 z5 z6 z7 z9 z10 z11 z12 z13 z17 z18 z19 z21 z22 z23 z24 z26 z27 z28 z29 z30 z31 z33 z34 : Nat) (qad ow oa ob ra fa : Nat → Nat) (i : Nat) : Prop := ∀ (na : Nat) (kd : Nat → Nat) (lf : Nat → Nat) (rg : Nat → Nat) (fs : Nat) (mb : Nat → Nat) (tg : Nat → Nat) (sr : Nat → Nat) (sta : Nat → Nat) (en : Nat → Nat) (qs : Nat) (brk : Int32) (bkn : Bool) (an : Nat → Nat) (sz : Nat → Nat) (lg : Nat → Bool) (rwn : Nat → Bool) (se : Nat → Bool) (on : Nat → Nat) (onm : Nat → Nat → Nat) (opl : Nat → Nat → Nat) (rs : Nat → Nat → Nat) (fd : Nat → Nat → Option Nat) (bsz : Nat) (blg : Bool) (brw : Bool) (bse : Bool) (bon : Nat) (bonm : Nat → Nat) (bopl : Nat → Nat) (brs : Nat → Nat) (nd : Nat → Nat) (os : Nat → Nat) (cd : Nat → Nat) (xz : Nat) (xj : Bool) (xnm : Nat → Nat) (xpl : Nat → Nat) (fz : Nat) (fj : Bool) (fnm : Nat → Nat) (fpl : Nat → Nat) (tv : Nat → Option Nat) (gz : Nat) (gj : Bool) (gnm : Nat → Nat) (gpl : Nat → Nat) (bfd : Nat → Option Nat) (hd : Option Nat) (lgM : Bool) (fcn : Nat) (md : Nat) (hc : Nat) (sm : Bool) (fn : Nat → Nat) (fo : Nat → Nat) (ft : Nat → Nat) (qa : Nat → Nat) (qn : Nat → Nat) (qx : Nat → Nat) (qy : Nat → Nat) (qz : Nat → Nat) (zs : Nat → Nat) (cs : Nat → Nat) (hs : Nat → Option Nat) (pp : Nat → Nat) (pa : Nat → Nat) (pb : Nat → Nat) (he : Nat → Option Nat) (ndM : Nat → Nat) (le : Nat → Nat) (rq : Nat → Nat) (fe : Nat → Nat) (pk : Nat → Nat) (fnd : Nat → Bool) (bd : Nat → Option Nat) (nx : Nat → Nat) (ls : Array Slot) (H : Heap) (locs : List Loc), (LA na kd lf rg) → (LF fs mb tg sr sta en fn fo ft) → (LQ qs an on onm opl qa qn qx qy qz) → (LC qs na kd lf rg mb tg sr sta en an on onm opl rs sz lg rwn se fd) → (LB na kd lf rg mb tg sr sta en bkn brk) → (LW nd os cd xz xnm xpl fz fnm fpl gnm gpl bon bonm bopl brs) → (LM qs na kd lf rg qa qn qx qy qz md pp pa pb ndM le rq fe pk zs cs hs fcn lgM hd bd) → lv_has ls 4 [(0, .ref b), (1, .ref x0), (2, .ref y0), (3, .int (nI (i)))] → va_P (dC, dI) qCl [(x0, .inr (7, [.ref axm, .ref fct, .ref asd, .int (nI (qs)), .ref fbd, .ref rwr, .ref fnr, .int (brk), .int (bI (bkn))])), (axm, .inr (0, [.ref k1, .ref k2, .ref k3, .int (nI (na))])), (k1, .inl (cI, 16, .inl (nF kd))), (k2, .inl (cI, 16, .inl (nF lf))), (k3, .inl (cI, 16, .inl (nF rg))), (fct, .inr (1, [.ref m1, .ref t1, .ref s1, .ref st1, .ref e1, .int (nI (fs))])), (m1, .inl (cI, 10, .inl (nF mb))), (t1, .inl (cI, 96, .inl (nF tg))), (s1, .inl (cI, 96, .inl (nF sr))), (st1, .inl (cI, 8, .inl (nF sta))), (e1, .inl (cI, 8, .inl (nF en))), (asd, .inl (cQ, 6, .inr (.inr (.inr (.inr (aF qad)))))), (qad 0, .inr (5, [.ref (ow 0), .int (nI (an 0)), .ref (ra 0), .int (nI (sz 0)), .int (bI (lg 0)), .int (bI (rwn 0)), .ref (fa 0), .int (bI (se 0))])), (ow 0, .inr (3, [.ref (oa 0), .ref (ob 0), .int (nI (on 0)), .int (bI (false))])), (oa 0, .inl (cI, 4, .inl (nF (onm 0)))), (ob 0, .inl (cI, 8, .inl (nF (opl 0)))), (ra 0, .inl (cL, 90, .inr (.inl (lF (rs 0))))), (fa 0, .inl (cI, 192, .inl (oF (fd 0)))), (qad 1, .inr (5, [.ref (ow 1), .int (nI (an 1)), .ref (ra 1), .int (nI (sz 1)), .int (bI (lg 1)), .int (bI (rwn 1)), .ref (fa 1), .int (bI (se 1))])), (ow 1, .inr (3, [.ref (oa 1), .ref (ob 1), .int (nI (on 1)), .int (bI (false))])), (oa 1, .inl (cI, 4, .inl (nF (onm 1)))), (ob 1, .inl (cI, 8, .inl (nF (opl 1)))), (ra 1, .inl (cL, 90, .inr (.inl (lF (rs 1))))), (fa 1, .inl (cI, 192, .inl (oF (fd 1)))), (qad 2, .inr (5, [.ref (ow 2), .int (nI (an 2)), .ref (ra 2), .int (nI (sz 2)), .int (bI (lg 2)), .int (bI (rwn 2)), .ref (fa 2), .int (bI (se 2))])), (ow 2, .inr (3, [.ref (oa 2), .ref (ob 2), .int (nI (on 2)), .int (bI (false))])), (oa 2, .inl (cI, 4, .inl (nF (onm 2)))), (ob 2, .inl (cI, 8, .inl (nF (opl 2)))), (ra 2, .inl (cL, 90, .inr (.inl (lF (rs 2))))), (fa 2, .inl (cI, 192, .inl (oF (fd 2)))), (qad 3, .inr (5, [.ref (ow 3), .int (nI (an 3)), .ref (ra 3), .int (nI (sz 3)), .int (bI (lg 3)), .int (bI (rwn 3)), .ref (fa 3), .int (bI (se 3))])), (ow 3, .inr (3, [.ref (oa 3), .ref (ob 3), .int (nI (on 3)), .int (bI (false))])), (oa 3, .inl (cI, 4, .inl (nF (onm 3)))), (ob 3, .inl (cI, 8, .inl (nF (opl 3)))), (ra 3, .inl (cL, 90, .inr (.inl (lF (rs 3))))), (fa 3, .inl (cI, 192, .inl (oF (fd 3)))), (qad 4, .inr (5, [.ref (ow 4), .int (nI (an 4)), .ref (ra 4), .int (nI (sz 4)), .int (bI (lg 4)), .int (bI (rwn 4)), .ref (fa 4), .int (bI (se 4))])), (ow 4, .inr (3, [.ref (oa 4), .ref (ob 4), .int (nI (on 4)), .int (bI (false))])), (oa 4, .inl (cI, 4, .inl (nF (onm 4)))), (ob 4, .inl (cI, 8, .inl (nF (opl 4)))), (ra 4, .inl (cL, 90, .inr (.inl (lF (rs 4))))), (fa 4, .inl (cI, 192, .inl (oF (fd 4)))), (qad 5, .inr (5, [.ref (ow 5), .int (nI (an 5)), .ref (ra 5), .int (nI (sz 5)), .int (bI (lg 5)), .int (bI (rwn 5)), .ref (fa 5), .int (bI (se 5))])), (ow 5, .inr (3, [.ref (oa 5), .ref (ob 5), .int (nI (on 5)), .int (bI (false))])), (oa 5, .inl (cI, 4, .inl (nF (onm 5)))), (ob 5, .inl (cI, 8, .inl (nF (opl 5)))), (ra 5, .inl (cL, 90, .inr (.inl (lF (rs 5))))), (fa 5, .inl (cI, 192, .inl (oF (fd 5)))), (fbd, .inr (5, [.ref bow, .int (nI (0)), .ref bra, .int (nI (bsz)), .int (bI (blg)), .int (bI (brw)), .ref bfa, .int (bI (bse))])), (bow, .inr (3, [.ref boa, .ref bob, .int (nI (bon)), .int (bI (false))])), (boa, .inl (cI, 4, .inl (nF bonm))), (bob, .inl (cI, 8, .inl (nF bopl))), (bra, .inl (cL, 90, .inr (.inl (lF brs)))), (bfa, .inl (cI, 192, .inl (oF bfd))), (rwr, .inr (6, [.ref axm, .ref nr0, .ref fr0, .ref nx0])), (nr0, .inr (4, [.ref nd0, .ref os0, .ref cd0])), (nd0, .inl (cI, 16, .inl (nF nd))), (os0, .inl (cI, 4, .inl (nF os))), (cd0, .inl (cI, 4, .inl (nF cd))), (fr0, .inr (3, [.ref f1, .ref f2, .int (nI (fz)), .int (bI (fj))])), (f1, .inl (cI, 4, .inl (nF fnm))), (f2, .inl (cI, 8, .inl (nF fpl))), (nx0, .inr (3, [.ref x1, .ref x2, .int (nI (xz)), .int (bI (xj))])), (x1, .inl (cI, 4, .inl (nF xnm))), (x2, .inl (cI, 8, .inl (nF xpl))), (fnr, .inr (2, [.ref fct, .ref fm0, .ref th])), (fm0, .inr (3, [.ref g1, .ref g2, .int (nI (gz)), .int (bI (gj))])), (g1, .inl (cI, 4, .inl (nF gnm))), (g2, .inl (cI, 8, .inl (nF gpl))), (th, .inl (cI, 6, .inl (oF tv))), (y0, .inr (8, mO na z1 z2 z3 fs z5 z6 z7 qs z9 z10 z11 z12 z13 hd lgM fcn z17 z18 z19 md z21 z22 z23 z24 hc z26 z27 z28 z29 z30 z31 sm z33 z34)), (z1, .inl (cI, 16, .inl (nF kd))), (z2, .inl (cI, 16, .inl (nF lf))), (z3, .inl (cI, 16, .inl (nF rg))), (z5, .inl (cI, 60, .inl (nF fn))), (z6, .inl (cI, 60, .inl (nF fo))), (z7, .inl (cI, 60, .inl (nF ft))), (z9, .inl (cI, 6, .inl (nF qa))), (z10, .inl (cI, 6, .inl (nF qn))), (z11, .inl (cI, 24, .inl (nF qx))), (z12, .inl (cI, 24, .inl (nF qy))), (z13, .inl (cI, 24, .inl (nF qz))), (z17, .inl (cI, 90, .inl (nF zs))), (z18, .inl (cI, 360, .inl (nF cs))), (z19, .inl (cI, 180, .inl (oF hs))), (z21, .inl (cI, 4, .inl (nF pp))), (z22, .inl (cI, 4, .inl (nF pa))), (z23, .inl (cI, 4, .inl (nF pb))), (z24, .inl (cI, 2, .inl (oF he))), (z26, .inl (cI, 18, .inl (nF ndM))), (z27, .inl (cI, 4, .inl (nF le))), (z28, .inl (cI, 4, .inl (nF rq))), (z29, .inl (cI, 4, .inl (nF fe))), (z30, .inl (cI, 4, .inl (nF pk))), (z31, .inl (cZ, 192, .inl (bF fnd))), (z33, .inl (cI, 40, .inl (oF bd))), (z34, .inl (cI, 5, .inl (nF nx)))] H → va_D A [(x0, .inr (7, [.ref axm, .ref fct, .ref asd, .int (nI (qs)), .ref fbd, .ref rwr, .ref fnr, .int (brk), .int (bI (bkn))])), (axm, .inr (0, [.ref k1, .ref k2, .ref k3, .int (nI (na))])), (k1, .inl (cI, 16, .inl (nF kd))), (k2, .inl (cI, 16, .inl (nF lf))), (k3, .inl (cI, 16, .inl (nF rg))), (fct, .inr (1, [.ref m1, .ref t1, .ref s1, .ref st1, .ref e1, .int (nI (fs))])), (m1, .inl (cI, 10, .inl (nF mb))), (t1, .inl (cI, 96, .inl (nF tg))), (s1, .inl (cI, 96, .inl (nF sr))), (st1, .inl (cI, 8, .inl (nF sta))), (e1, .inl (cI, 8, .inl (nF en))), (asd, .inl (cQ, 6, .inr (.inr (.inr (.inr (aF qad)))))), (qad 0, .inr (5, [.ref (ow 0), .int (nI (an 0)), .ref (ra 0), .int (nI (sz 0)), .int (bI (lg 0)), .int (bI (rwn 0)), .ref (fa 0), .int (bI (se 0))])), (ow 0, .inr (3, [.ref (oa 0), .ref (ob 0), .int (nI (on 0)), .int (bI (false))])), (oa 0, .inl (cI, 4, .inl (nF (onm 0)))), (ob 0, .inl (cI, 8, .inl (nF (opl 0)))), (ra 0, .inl (cL, 90, .inr (.inl (lF (rs 0))))), (fa 0, .inl (cI, 192, .inl (oF (fd 0)))), (qad 1, .inr (5, [.ref (ow 1), .int (nI (an 1)), .ref (ra 1), .int (nI (sz 1)), .int (bI (lg 1)), .int (bI (rwn 1)), .ref (fa 1), .int (bI (se 1))])), (ow 1, .inr (3, [.ref (oa 1), .ref (ob 1), .int (nI (on 1)), .int (bI (false))])), (oa 1, .inl (cI, 4, .inl (nF (onm 1)))), (ob 1, .inl (cI, 8, .inl (nF (opl 1)))), (ra 1, .inl (cL, 90, .inr (.inl (lF (rs 1))))), (fa 1, .inl (cI, 192, .inl (oF (fd 1)))), (qad 2, .inr (5, [.ref (ow 2), .int (nI (an 2)), .ref (ra 2), .int (nI (sz 2)), .int (bI (lg 2)), .int (bI (rwn 2)), .ref (fa 2), .int (bI (se 2))])), (ow 2, .inr (3, [.ref (oa 2), .ref (ob 2), .int (nI (on 2)), .int (bI (false))])), (oa 2, .inl (cI, 4, .inl (nF (onm 2)))), (ob 2, .inl (cI, 8, .inl (nF (opl 2)))), (ra 2, .inl (cL, 90, .inr (.inl (lF (rs 2))))), (fa 2, .inl (cI, 192, .inl (oF (fd 2)))), (qad 3, .inr (5, [.ref (ow 3), .int (nI (an 3)), .ref (ra 3), .int (nI (sz 3)), .int (bI (lg 3)), .int (bI (rwn 3)), .ref (fa 3), .int (bI (se 3))])), (ow 3, .inr (3, [.ref (oa 3), .ref (ob 3), .int (nI (on 3)), .int (bI (false))])), (oa 3, .inl (cI, 4, .inl (nF (onm 3)))), (ob 3, .inl (cI, 8, .inl (nF (opl 3)))), (ra 3, .inl (cL, 90, .inr (.inl (lF (rs 3))))), (fa 3, .inl (cI, 192, .inl (oF (fd 3)))), (qad 4, .inr (5, [.ref (ow 4), .int (nI (an 4)), .ref (ra 4), .int (nI (sz 4)), .int (bI (lg 4)), .int (bI (rwn 4)), .ref (fa 4), .int (bI (se 4))])), (ow 4, .inr (3, [.ref (oa 4), .ref (ob 4), .int (nI (on 4)), .int (bI (false))])), (oa 4, .inl (cI, 4, .inl (nF (onm 4)))), (ob 4, .inl (cI, 8, .inl (nF (opl 4)))), (ra 4, .inl (cL, 90, .inr (.inl (lF (rs 4))))), (fa 4, .inl (cI, 192, .inl (oF (fd 4)))), (qad 5, .inr (5, [.ref (ow 5), .int (nI (an 5)), .ref (ra 5), .int (nI (sz 5)), .int (bI (lg 5)), .int (bI (rwn 5)), .ref (fa 5), .int (bI (se 5))])), (ow 5, .inr (3, [.ref (oa 5), .ref (ob 5), .int (nI (on 5)), .int (bI (false))])), (oa 5, .inl (cI, 4, .inl (nF (onm 5)))), (ob 5, .inl (cI, 8, .inl (nF (opl 5)))), (ra 5, .inl (cL, 90, .inr (.inl (lF (rs 5))))), (fa 5, .inl (cI, 192, .inl (oF (fd 5)))), (fbd, .inr (5, [.ref bow, .int (nI (0)), .ref bra, .int (nI (bsz)), .int (bI (blg)), .int (bI (brw)), .ref bfa, .int (bI (bse))])), (bow, .inr (3, [.ref boa, .ref bob, .int (nI (bon)), .int (bI (false))])), (boa, .inl (cI, 4, .inl (nF bonm))), (bob, .inl (cI, 8, .inl (nF bopl))), (bra, .inl (cL, 90, .inr (.inl (lF brs)))), (bfa, .inl (cI, 192, .inl (oF bfd))), (rwr, .inr (6, [.ref axm, .ref nr0, .ref fr0, .ref nx0])), (nr0, .inr (4, [.ref nd0, .ref os0, .ref cd0])), (nd0, .inl (cI, 16, .inl (nF nd))), (os0, .inl (cI, 4, .inl (nF os))), (cd0, .inl (cI, 4, .inl (nF cd))), (fr0, .inr (3, [.ref f1, .ref f2, .int (nI (fz)), .int (bI (fj))])), (f1, .inl (cI, 4, .inl (nF fnm))), (f2, .inl (cI, 8, .inl (nF fpl))), (nx0, .inr (3, [.ref x1, .ref x2, .int (nI (xz)), .int (bI (xj))])), (x1, .inl (cI, 4, .inl (nF xnm))), (x2, .inl (cI, 8, .inl (nF xpl))), (fnr, .inr (2, [.ref fct, .ref fm0, .ref th])), (fm0, .inr (3, [.ref g1, .ref g2, .int (nI (gz)), .int (bI (gj))])), (g1, .inl (cI, 4, .inl (nF gnm))), (g2, .inl (cI, 8, .inl (nF gpl))), (th, .inl (cI, 6, .inl (oF tv))), (y0, .inr (8, mO na z1 z2 z3 fs z5 z6 z7 qs z9 z10 z11 z12 z13 hd lgM fcn z17 z18 z19 md z21 z22 z23 z24 hc z26 z27 z28 z29 z30 z31 sm z33 z34)), (z1, .inl (cI, 16, .inl (nF kd))), (z2, .inl (cI, 16, .inl (nF lf))), (z3, .inl (cI, 16, .inl (nF rg))), (z5, .inl (cI, 60, .inl (nF fn))), (z6, .inl (cI, 60, .inl (nF fo))), (z7, .inl (cI, 60, .inl (nF ft))), (z9, .inl (cI, 6, .inl (nF qa))), (z10, .inl (cI, 6, .inl (nF qn))), (z11, .inl (cI, 24, .inl (nF qx))), (z12, .inl (cI, 24, .inl (nF qy))), (z13, .inl (cI, 24, .inl (nF qz))), (z17, .inl (cI, 90, .inl (nF zs))), (z18, .inl (cI, 360, .inl (nF cs))), (z19, .inl (cI, 180, .inl (oF hs))), (z21, .inl (cI, 4, .inl (nF pp))), (z22, .inl (cI, 4, .inl (nF pa))), (z23, .inl (cI, 4, .inl (nF pb))), (z24, .inl (cI, 2, .inl (oF he))), (z26, .inl (cI, 18, .inl (nF ndM))), (z27, .inl (cI, 4, .inl (nF le))), (z28, .inl (cI, 4, .inl (nF rq))), (z29, .inl (cI, 4, .inl (nF fe))), (z30, .inl (cI, 4, .inl (nF pk))), (z31, .inl (cZ, 192, .inl (bF fnd))), (z33, .inl (cI, 40, .inl (oF bd))), (z34, .inl (cI, 5, .inl (nF nx)))] → va_S A s.heap H locs → W p l e room_1 s m #[Value.ref b] below meth c H locs 600000 7302250 Q (F0 m 587 ls [])
section QSL
variable {p : Program} {l : Launch} {e : Env} {R : Room} {s : State} {m : MethodId} {args : Array Value} {below : List Frame} {meth : Method} {c : Code} {H : Heap} {locs : List Loc} {cells slots : Nat} {Q : State → Prop}
variable {cc : ByteArray} {pc : Nat} {ls : Array Slot} {rest : List Value} {A : Nat → Prop} {H0 : Heap}
theorem q_sld (hexec : p.tables.exec = Jvm.exec) (hb : c.code = cc) {b L : Nat} {xs : Nat → Int32} (hX : va_X b L xs s H0) (hbl : b < H0.size) (hbA : ¬ A b) (hS : va_S A H0 H locs) {j : Nat} (hj : j < L) (hL : L < 2 ^ 31) (hdg : decode cc pc = .ok (.iaload, 1))
    (kk : W p l e R s m args below meth c H locs cells slots Q (F0 m (pc + 1) ls (.int (xs j) :: rest))) : W p l e R s m args below meth c H locs cells slots Q (F0 m pc ls (.int (nI j) :: .ref b :: rest)) := va_sld hexec hb hX hbl hbA hS (vp_in_nI hj hL) hdg (by rw [nI_clamp (by omega)]; exact kk)
end QSL
