theorem n_119_0 : pm_ins 119 0 = some (.new 7, 3) := by decide +kernel
theorem n_119_3 : pm_ins 119 3 = some (.dup, 1) := by decide +kernel
theorem n_119_4 : pm_ins 119 4 = some (.invokespecial 9, 3) := by decide +kernel
theorem n_119_7 : pm_ins 119 7 = some (.astore_n 1, 1) := by decide +kernel
theorem n_119_8 : pm_ins 119 8 = some (.new 10, 3) := by decide +kernel
theorem n_119_11 : pm_ins 119 11 = some (.dup, 1) := by decide +kernel
theorem n_119_12 : pm_ins 119 12 = some (.invokespecial 12, 3) := by decide +kernel
theorem n_119_15 : pm_ins 119 15 = some (.astore_n 2, 1) := by decide +kernel
theorem n_119_16 : pm_ins 119 16 = some (.iconst 0, 1) := by decide +kernel
theorem n_119_17 : pm_ins 119 17 = some (.istore_n 3, 1) := by decide +kernel
theorem n_119_18 : pm_ins 119 18 = some (.iload_n 3, 1) := by decide +kernel
theorem n_119_19 : pm_ins 119 19 = some (.aload_n 0, 1) := by decide +kernel
theorem n_119_20 : pm_ins 119 20 = some (.arraylength, 1) := by decide +kernel
theorem n_119_21 : pm_ins 119 21 = some (.iconst 5, 1) := by decide +kernel
theorem n_119_22 : pm_ins 119 22 = some (.isub, 1) := by decide +kernel
theorem n_119_23 : pm_ins 119 23 = some (.if_icmp .gt 866, 3) := by decide +kernel
theorem n_119_26 : pm_ins 119 26 = some (.aload_n 0, 1) := by decide +kernel
theorem n_119_27 : pm_ins 119 27 = some (.iload_n 3, 1) := by decide +kernel
theorem n_119_28 : pm_ins 119 28 = some (.iaload, 1) := by decide +kernel
theorem n_119_29 : pm_ins 119 29 = some (.bipush 31, 2) := by decide +kernel
theorem n_119_31 : pm_ins 119 31 = some (.iand, 1) := by decide +kernel
theorem n_119_32 : pm_ins 119 32 = some (.tableswitch 851 0 19 #[96, 109, 132, 155, 188, 241, 274, 343, 376, 429, 482, 526, 559, 602, 635, 658, 691, 760, 783, 807], 96) := by decide +kernel
theorem n_119_128 : pm_ins 119 128 = some (.aload_n 1, 1) := by decide +kernel
theorem n_119_129 : pm_ins 119 129 = some (.invokevirtual 13, 3) := by decide +kernel
theorem n_119_132 : pm_ins 119 132 = some (.aload_n 2, 1) := by decide +kernel
theorem n_119_133 : pm_ins 119 133 = some (.invokevirtual 17, 3) := by decide +kernel
theorem n_119_136 : pm_ins 119 136 = some (.if_icmp .eq 747, 3) := by decide +kernel
theorem n_119_139 : pm_ins 119 139 = some (.iconst 0, 1) := by decide +kernel
theorem n_119_140 : pm_ins 119 140 = some (.ireturn, 1) := by decide +kernel
theorem n_119_141 : pm_ins 119 141 = some (.aload_n 1, 1) := by decide +kernel
theorem n_119_142 : pm_ins 119 142 = some (.aload_n 0, 1) := by decide +kernel
theorem n_119_143 : pm_ins 119 143 = some (.iload_n 3, 1) := by decide +kernel
theorem n_119_144 : pm_ins 119 144 = some (.iconst 1, 1) := by decide +kernel
theorem n_119_145 : pm_ins 119 145 = some (.iadd, 1) := by decide +kernel
theorem n_119_146 : pm_ins 119 146 = some (.iaload, 1) := by decide +kernel
theorem n_119_147 : pm_ins 119 147 = some (.invokevirtual 18, 3) := by decide +kernel
theorem n_119_150 : pm_ins 119 150 = some (.aload_n 2, 1) := by decide +kernel
theorem n_119_151 : pm_ins 119 151 = some (.aload_n 0, 1) := by decide +kernel
theorem n_119_152 : pm_ins 119 152 = some (.iload_n 3, 1) := by decide +kernel
theorem n_119_153 : pm_ins 119 153 = some (.iconst 1, 1) := by decide +kernel
theorem n_119_154 : pm_ins 119 154 = some (.iadd, 1) := by decide +kernel
theorem n_119_155 : pm_ins 119 155 = some (.iaload, 1) := by decide +kernel
theorem n_119_156 : pm_ins 119 156 = some (.invokevirtual 22, 3) := by decide +kernel
theorem n_119_159 : pm_ins 119 159 = some (.if_icmp .eq 724, 3) := by decide +kernel
theorem n_119_162 : pm_ins 119 162 = some (.iconst 0, 1) := by decide +kernel
theorem n_119_163 : pm_ins 119 163 = some (.ireturn, 1) := by decide +kernel
theorem n_119_164 : pm_ins 119 164 = some (.aload_n 1, 1) := by decide +kernel
theorem n_119_165 : pm_ins 119 165 = some (.aload_n 0, 1) := by decide +kernel
theorem n_119_166 : pm_ins 119 166 = some (.iload_n 3, 1) := by decide +kernel
theorem n_119_167 : pm_ins 119 167 = some (.iconst 1, 1) := by decide +kernel
theorem n_119_168 : pm_ins 119 168 = some (.iadd, 1) := by decide +kernel
theorem n_119_169 : pm_ins 119 169 = some (.iaload, 1) := by decide +kernel
theorem n_119_170 : pm_ins 119 170 = some (.invokevirtual 23, 3) := by decide +kernel
theorem n_119_173 : pm_ins 119 173 = some (.aload_n 2, 1) := by decide +kernel
theorem n_119_174 : pm_ins 119 174 = some (.aload_n 0, 1) := by decide +kernel
theorem n_119_175 : pm_ins 119 175 = some (.iload_n 3, 1) := by decide +kernel
theorem n_119_176 : pm_ins 119 176 = some (.iconst 1, 1) := by decide +kernel
theorem n_119_177 : pm_ins 119 177 = some (.iadd, 1) := by decide +kernel
theorem n_119_178 : pm_ins 119 178 = some (.iaload, 1) := by decide +kernel
theorem n_119_179 : pm_ins 119 179 = some (.invokevirtual 26, 3) := by decide +kernel
theorem n_119_182 : pm_ins 119 182 = some (.if_icmp .eq 701, 3) := by decide +kernel
theorem n_119_185 : pm_ins 119 185 = some (.iconst 0, 1) := by decide +kernel
theorem n_119_186 : pm_ins 119 186 = some (.ireturn, 1) := by decide +kernel
theorem n_119_187 : pm_ins 119 187 = some (.aload_n 1, 1) := by decide +kernel
theorem n_119_188 : pm_ins 119 188 = some (.aload_n 0, 1) := by decide +kernel
theorem n_119_189 : pm_ins 119 189 = some (.iload_n 3, 1) := by decide +kernel
theorem n_119_190 : pm_ins 119 190 = some (.iconst 1, 1) := by decide +kernel
theorem n_119_191 : pm_ins 119 191 = some (.iadd, 1) := by decide +kernel
theorem n_119_192 : pm_ins 119 192 = some (.iaload, 1) := by decide +kernel
theorem n_119_193 : pm_ins 119 193 = some (.aload_n 0, 1) := by decide +kernel
theorem n_119_194 : pm_ins 119 194 = some (.iload_n 3, 1) := by decide +kernel
theorem n_119_195 : pm_ins 119 195 = some (.iconst 2, 1) := by decide +kernel
theorem n_119_196 : pm_ins 119 196 = some (.iadd, 1) := by decide +kernel
theorem n_119_197 : pm_ins 119 197 = some (.iaload, 1) := by decide +kernel
theorem n_119_198 : pm_ins 119 198 = some (.invokevirtual 27, 3) := by decide +kernel
theorem n_119_201 : pm_ins 119 201 = some (.aload_n 2, 1) := by decide +kernel
theorem n_119_202 : pm_ins 119 202 = some (.aload_n 0, 1) := by decide +kernel
theorem n_119_203 : pm_ins 119 203 = some (.iload_n 3, 1) := by decide +kernel
theorem n_119_204 : pm_ins 119 204 = some (.iconst 1, 1) := by decide +kernel
theorem n_119_205 : pm_ins 119 205 = some (.iadd, 1) := by decide +kernel
theorem n_119_206 : pm_ins 119 206 = some (.iaload, 1) := by decide +kernel
theorem n_119_207 : pm_ins 119 207 = some (.aload_n 0, 1) := by decide +kernel
theorem n_119_208 : pm_ins 119 208 = some (.iload_n 3, 1) := by decide +kernel
theorem n_119_209 : pm_ins 119 209 = some (.iconst 2, 1) := by decide +kernel
theorem n_119_210 : pm_ins 119 210 = some (.iadd, 1) := by decide +kernel
theorem n_119_211 : pm_ins 119 211 = some (.iaload, 1) := by decide +kernel
theorem n_119_212 : pm_ins 119 212 = some (.invokevirtual 31, 3) := by decide +kernel
theorem n_119_215 : pm_ins 119 215 = some (.if_icmp .eq 668, 3) := by decide +kernel
theorem n_119_218 : pm_ins 119 218 = some (.iconst 0, 1) := by decide +kernel
theorem n_119_219 : pm_ins 119 219 = some (.ireturn, 1) := by decide +kernel
theorem n_119_220 : pm_ins 119 220 = some (.aload_n 1, 1) := by decide +kernel
theorem n_119_221 : pm_ins 119 221 = some (.aload_n 0, 1) := by decide +kernel
theorem n_119_222 : pm_ins 119 222 = some (.iload_n 3, 1) := by decide +kernel
theorem n_119_223 : pm_ins 119 223 = some (.iconst 1, 1) := by decide +kernel
theorem n_119_224 : pm_ins 119 224 = some (.iadd, 1) := by decide +kernel
theorem n_119_225 : pm_ins 119 225 = some (.iaload, 1) := by decide +kernel
theorem n_119_226 : pm_ins 119 226 = some (.aload_n 0, 1) := by decide +kernel
theorem n_119_227 : pm_ins 119 227 = some (.iload_n 3, 1) := by decide +kernel
theorem n_119_228 : pm_ins 119 228 = some (.iconst 2, 1) := by decide +kernel
theorem n_119_229 : pm_ins 119 229 = some (.iadd, 1) := by decide +kernel
theorem n_119_230 : pm_ins 119 230 = some (.iaload, 1) := by decide +kernel
theorem n_119_231 : pm_ins 119 231 = some (.aload_n 0, 1) := by decide +kernel
theorem n_119_232 : pm_ins 119 232 = some (.iload_n 3, 1) := by decide +kernel
theorem n_119_233 : pm_ins 119 233 = some (.iconst 3, 1) := by decide +kernel
theorem n_119_234 : pm_ins 119 234 = some (.iadd, 1) := by decide +kernel
theorem n_119_235 : pm_ins 119 235 = some (.iaload, 1) := by decide +kernel
theorem n_119_236 : pm_ins 119 236 = some (.aload_n 0, 1) := by decide +kernel
theorem n_119_237 : pm_ins 119 237 = some (.iload_n 3, 1) := by decide +kernel
theorem n_119_238 : pm_ins 119 238 = some (.iconst 4, 1) := by decide +kernel
theorem n_119_239 : pm_ins 119 239 = some (.iadd, 1) := by decide +kernel
theorem n_119_240 : pm_ins 119 240 = some (.iaload, 1) := by decide +kernel
theorem n_119_241 : pm_ins 119 241 = some (.invokevirtual 32, 3) := by decide +kernel
theorem n_119_244 : pm_ins 119 244 = some (.aload_n 2, 1) := by decide +kernel
theorem n_119_245 : pm_ins 119 245 = some (.aload_n 0, 1) := by decide +kernel
theorem n_119_246 : pm_ins 119 246 = some (.iload_n 3, 1) := by decide +kernel
theorem n_119_247 : pm_ins 119 247 = some (.iconst 1, 1) := by decide +kernel
theorem n_119_248 : pm_ins 119 248 = some (.iadd, 1) := by decide +kernel
theorem n_119_249 : pm_ins 119 249 = some (.iaload, 1) := by decide +kernel
theorem n_119_250 : pm_ins 119 250 = some (.aload_n 0, 1) := by decide +kernel
theorem n_119_251 : pm_ins 119 251 = some (.iload_n 3, 1) := by decide +kernel
theorem n_119_252 : pm_ins 119 252 = some (.iconst 2, 1) := by decide +kernel
theorem n_119_253 : pm_ins 119 253 = some (.iadd, 1) := by decide +kernel
theorem n_119_254 : pm_ins 119 254 = some (.iaload, 1) := by decide +kernel
theorem n_119_255 : pm_ins 119 255 = some (.aload_n 0, 1) := by decide +kernel
theorem n_119_256 : pm_ins 119 256 = some (.iload_n 3, 1) := by decide +kernel
theorem n_119_257 : pm_ins 119 257 = some (.iconst 3, 1) := by decide +kernel
theorem n_119_258 : pm_ins 119 258 = some (.iadd, 1) := by decide +kernel
theorem n_119_259 : pm_ins 119 259 = some (.iaload, 1) := by decide +kernel
theorem n_119_260 : pm_ins 119 260 = some (.aload_n 0, 1) := by decide +kernel
theorem n_119_261 : pm_ins 119 261 = some (.iload_n 3, 1) := by decide +kernel
theorem n_119_262 : pm_ins 119 262 = some (.iconst 4, 1) := by decide +kernel
theorem n_119_263 : pm_ins 119 263 = some (.iadd, 1) := by decide +kernel
theorem n_119_264 : pm_ins 119 264 = some (.iaload, 1) := by decide +kernel
theorem n_119_265 : pm_ins 119 265 = some (.invokevirtual 36, 3) := by decide +kernel
theorem n_119_268 : pm_ins 119 268 = some (.if_icmp .eq 615, 3) := by decide +kernel
theorem n_119_271 : pm_ins 119 271 = some (.iconst 0, 1) := by decide +kernel
theorem n_119_272 : pm_ins 119 272 = some (.ireturn, 1) := by decide +kernel
theorem n_119_273 : pm_ins 119 273 = some (.aload_n 1, 1) := by decide +kernel
theorem n_119_274 : pm_ins 119 274 = some (.aload_n 0, 1) := by decide +kernel
theorem n_119_275 : pm_ins 119 275 = some (.iload_n 3, 1) := by decide +kernel
theorem n_119_276 : pm_ins 119 276 = some (.iconst 1, 1) := by decide +kernel
theorem n_119_277 : pm_ins 119 277 = some (.iadd, 1) := by decide +kernel
theorem n_119_278 : pm_ins 119 278 = some (.iaload, 1) := by decide +kernel
theorem n_119_279 : pm_ins 119 279 = some (.aload_n 0, 1) := by decide +kernel
theorem n_119_280 : pm_ins 119 280 = some (.iload_n 3, 1) := by decide +kernel
theorem n_119_281 : pm_ins 119 281 = some (.iconst 2, 1) := by decide +kernel
theorem n_119_282 : pm_ins 119 282 = some (.iadd, 1) := by decide +kernel
theorem n_119_283 : pm_ins 119 283 = some (.iaload, 1) := by decide +kernel
theorem n_119_284 : pm_ins 119 284 = some (.invokevirtual 37, 3) := by decide +kernel
theorem n_119_287 : pm_ins 119 287 = some (.aload_n 2, 1) := by decide +kernel
theorem n_119_288 : pm_ins 119 288 = some (.aload_n 0, 1) := by decide +kernel
theorem n_119_289 : pm_ins 119 289 = some (.iload_n 3, 1) := by decide +kernel
theorem n_119_290 : pm_ins 119 290 = some (.iconst 1, 1) := by decide +kernel
theorem n_119_291 : pm_ins 119 291 = some (.iadd, 1) := by decide +kernel
theorem n_119_292 : pm_ins 119 292 = some (.iaload, 1) := by decide +kernel
theorem n_119_293 : pm_ins 119 293 = some (.aload_n 0, 1) := by decide +kernel
theorem n_119_294 : pm_ins 119 294 = some (.iload_n 3, 1) := by decide +kernel
theorem n_119_295 : pm_ins 119 295 = some (.iconst 2, 1) := by decide +kernel
theorem n_119_296 : pm_ins 119 296 = some (.iadd, 1) := by decide +kernel
theorem n_119_297 : pm_ins 119 297 = some (.iaload, 1) := by decide +kernel
theorem n_119_298 : pm_ins 119 298 = some (.invokevirtual 40, 3) := by decide +kernel
theorem n_119_301 : pm_ins 119 301 = some (.if_icmp .eq 582, 3) := by decide +kernel
theorem n_119_304 : pm_ins 119 304 = some (.iconst 0, 1) := by decide +kernel
theorem n_119_305 : pm_ins 119 305 = some (.ireturn, 1) := by decide +kernel
theorem n_119_306 : pm_ins 119 306 = some (.aload_n 1, 1) := by decide +kernel
theorem n_119_307 : pm_ins 119 307 = some (.aload_n 0, 1) := by decide +kernel
theorem n_119_308 : pm_ins 119 308 = some (.iload_n 3, 1) := by decide +kernel
theorem n_119_309 : pm_ins 119 309 = some (.iconst 1, 1) := by decide +kernel
theorem n_119_310 : pm_ins 119 310 = some (.iadd, 1) := by decide +kernel
theorem n_119_311 : pm_ins 119 311 = some (.iaload, 1) := by decide +kernel
theorem n_119_312 : pm_ins 119 312 = some (.aload_n 0, 1) := by decide +kernel
theorem n_119_313 : pm_ins 119 313 = some (.iload_n 3, 1) := by decide +kernel
theorem n_119_314 : pm_ins 119 314 = some (.iconst 2, 1) := by decide +kernel
theorem n_119_315 : pm_ins 119 315 = some (.iadd, 1) := by decide +kernel
theorem n_119_316 : pm_ins 119 316 = some (.iaload, 1) := by decide +kernel
theorem n_119_317 : pm_ins 119 317 = some (.aload_n 0, 1) := by decide +kernel
theorem n_119_318 : pm_ins 119 318 = some (.iload_n 3, 1) := by decide +kernel
theorem n_119_319 : pm_ins 119 319 = some (.iconst 3, 1) := by decide +kernel
theorem n_119_320 : pm_ins 119 320 = some (.iadd, 1) := by decide +kernel
theorem n_119_321 : pm_ins 119 321 = some (.iaload, 1) := by decide +kernel
theorem n_119_322 : pm_ins 119 322 = some (.aload_n 0, 1) := by decide +kernel
theorem n_119_323 : pm_ins 119 323 = some (.iload_n 3, 1) := by decide +kernel
theorem n_119_324 : pm_ins 119 324 = some (.iconst 4, 1) := by decide +kernel
theorem n_119_325 : pm_ins 119 325 = some (.iadd, 1) := by decide +kernel
theorem n_119_326 : pm_ins 119 326 = some (.iaload, 1) := by decide +kernel
theorem n_119_327 : pm_ins 119 327 = some (.ifCond .eq 7, 3) := by decide +kernel
theorem n_119_330 : pm_ins 119 330 = some (.iconst 1, 1) := by decide +kernel
theorem n_119_331 : pm_ins 119 331 = some (.goto 4, 3) := by decide +kernel
theorem n_119_334 : pm_ins 119 334 = some (.iconst 0, 1) := by decide +kernel
theorem n_119_335 : pm_ins 119 335 = some (.invokevirtual 41, 3) := by decide +kernel
theorem n_119_338 : pm_ins 119 338 = some (.aload_n 2, 1) := by decide +kernel
theorem n_119_339 : pm_ins 119 339 = some (.aload_n 0, 1) := by decide +kernel
theorem n_119_340 : pm_ins 119 340 = some (.iload_n 3, 1) := by decide +kernel
theorem n_119_341 : pm_ins 119 341 = some (.iconst 1, 1) := by decide +kernel
theorem n_119_342 : pm_ins 119 342 = some (.iadd, 1) := by decide +kernel
theorem n_119_343 : pm_ins 119 343 = some (.iaload, 1) := by decide +kernel
theorem n_119_344 : pm_ins 119 344 = some (.aload_n 0, 1) := by decide +kernel
theorem n_119_345 : pm_ins 119 345 = some (.iload_n 3, 1) := by decide +kernel
theorem n_119_346 : pm_ins 119 346 = some (.iconst 2, 1) := by decide +kernel
theorem n_119_347 : pm_ins 119 347 = some (.iadd, 1) := by decide +kernel
theorem n_119_348 : pm_ins 119 348 = some (.iaload, 1) := by decide +kernel
theorem n_119_349 : pm_ins 119 349 = some (.aload_n 0, 1) := by decide +kernel
theorem n_119_350 : pm_ins 119 350 = some (.iload_n 3, 1) := by decide +kernel
theorem n_119_351 : pm_ins 119 351 = some (.iconst 3, 1) := by decide +kernel
theorem n_119_352 : pm_ins 119 352 = some (.iadd, 1) := by decide +kernel
theorem n_119_353 : pm_ins 119 353 = some (.iaload, 1) := by decide +kernel
theorem n_119_354 : pm_ins 119 354 = some (.aload_n 0, 1) := by decide +kernel
theorem n_119_355 : pm_ins 119 355 = some (.iload_n 3, 1) := by decide +kernel
theorem n_119_356 : pm_ins 119 356 = some (.iconst 4, 1) := by decide +kernel
theorem n_119_357 : pm_ins 119 357 = some (.iadd, 1) := by decide +kernel
theorem n_119_358 : pm_ins 119 358 = some (.iaload, 1) := by decide +kernel
theorem n_119_359 : pm_ins 119 359 = some (.ifCond .eq 7, 3) := by decide +kernel
theorem n_119_362 : pm_ins 119 362 = some (.iconst 1, 1) := by decide +kernel
theorem n_119_363 : pm_ins 119 363 = some (.goto 4, 3) := by decide +kernel
theorem n_119_366 : pm_ins 119 366 = some (.iconst 0, 1) := by decide +kernel
theorem n_119_367 : pm_ins 119 367 = some (.invokevirtual 45, 3) := by decide +kernel
theorem n_119_370 : pm_ins 119 370 = some (.if_icmp .eq 513, 3) := by decide +kernel
theorem n_119_373 : pm_ins 119 373 = some (.iconst 0, 1) := by decide +kernel
theorem n_119_374 : pm_ins 119 374 = some (.ireturn, 1) := by decide +kernel
theorem n_119_375 : pm_ins 119 375 = some (.aload_n 1, 1) := by decide +kernel
theorem n_119_376 : pm_ins 119 376 = some (.aload_n 0, 1) := by decide +kernel
theorem n_119_377 : pm_ins 119 377 = some (.iload_n 3, 1) := by decide +kernel
theorem n_119_378 : pm_ins 119 378 = some (.iconst 1, 1) := by decide +kernel
theorem n_119_379 : pm_ins 119 379 = some (.iadd, 1) := by decide +kernel
theorem n_119_380 : pm_ins 119 380 = some (.iaload, 1) := by decide +kernel
theorem n_119_381 : pm_ins 119 381 = some (.aload_n 0, 1) := by decide +kernel
theorem n_119_382 : pm_ins 119 382 = some (.iload_n 3, 1) := by decide +kernel
theorem n_119_383 : pm_ins 119 383 = some (.iconst 2, 1) := by decide +kernel
theorem n_119_384 : pm_ins 119 384 = some (.iadd, 1) := by decide +kernel
theorem n_119_385 : pm_ins 119 385 = some (.iaload, 1) := by decide +kernel
theorem n_119_386 : pm_ins 119 386 = some (.invokevirtual 46, 3) := by decide +kernel
theorem n_119_389 : pm_ins 119 389 = some (.aload_n 2, 1) := by decide +kernel
theorem n_119_390 : pm_ins 119 390 = some (.aload_n 0, 1) := by decide +kernel
theorem n_119_391 : pm_ins 119 391 = some (.iload_n 3, 1) := by decide +kernel
theorem n_119_392 : pm_ins 119 392 = some (.iconst 1, 1) := by decide +kernel
theorem n_119_393 : pm_ins 119 393 = some (.iadd, 1) := by decide +kernel
theorem n_119_394 : pm_ins 119 394 = some (.iaload, 1) := by decide +kernel
theorem n_119_395 : pm_ins 119 395 = some (.aload_n 0, 1) := by decide +kernel
theorem n_119_396 : pm_ins 119 396 = some (.iload_n 3, 1) := by decide +kernel
theorem n_119_397 : pm_ins 119 397 = some (.iconst 2, 1) := by decide +kernel
theorem n_119_398 : pm_ins 119 398 = some (.iadd, 1) := by decide +kernel
theorem n_119_399 : pm_ins 119 399 = some (.iaload, 1) := by decide +kernel
theorem n_119_400 : pm_ins 119 400 = some (.invokevirtual 49, 3) := by decide +kernel
theorem n_119_403 : pm_ins 119 403 = some (.if_icmp .eq 480, 3) := by decide +kernel
theorem n_119_406 : pm_ins 119 406 = some (.iconst 0, 1) := by decide +kernel
theorem n_119_407 : pm_ins 119 407 = some (.ireturn, 1) := by decide +kernel
theorem n_119_408 : pm_ins 119 408 = some (.aload_n 1, 1) := by decide +kernel
theorem n_119_409 : pm_ins 119 409 = some (.aload_n 0, 1) := by decide +kernel
theorem n_119_410 : pm_ins 119 410 = some (.iload_n 3, 1) := by decide +kernel
theorem n_119_411 : pm_ins 119 411 = some (.iconst 1, 1) := by decide +kernel
theorem n_119_412 : pm_ins 119 412 = some (.iadd, 1) := by decide +kernel
theorem n_119_413 : pm_ins 119 413 = some (.iaload, 1) := by decide +kernel
theorem n_119_414 : pm_ins 119 414 = some (.aload_n 0, 1) := by decide +kernel
theorem n_119_415 : pm_ins 119 415 = some (.iload_n 3, 1) := by decide +kernel
theorem n_119_416 : pm_ins 119 416 = some (.iconst 2, 1) := by decide +kernel
theorem n_119_417 : pm_ins 119 417 = some (.iadd, 1) := by decide +kernel
theorem n_119_418 : pm_ins 119 418 = some (.iaload, 1) := by decide +kernel
theorem n_119_419 : pm_ins 119 419 = some (.aload_n 0, 1) := by decide +kernel
theorem n_119_420 : pm_ins 119 420 = some (.iload_n 3, 1) := by decide +kernel
theorem n_119_421 : pm_ins 119 421 = some (.iconst 3, 1) := by decide +kernel
theorem n_119_422 : pm_ins 119 422 = some (.iadd, 1) := by decide +kernel
theorem n_119_423 : pm_ins 119 423 = some (.iaload, 1) := by decide +kernel
theorem n_119_424 : pm_ins 119 424 = some (.aload_n 0, 1) := by decide +kernel
theorem n_119_425 : pm_ins 119 425 = some (.iload_n 3, 1) := by decide +kernel
theorem n_119_426 : pm_ins 119 426 = some (.iconst 4, 1) := by decide +kernel
theorem n_119_427 : pm_ins 119 427 = some (.iadd, 1) := by decide +kernel
theorem n_119_428 : pm_ins 119 428 = some (.iaload, 1) := by decide +kernel
theorem n_119_429 : pm_ins 119 429 = some (.invokevirtual 50, 3) := by decide +kernel
theorem n_119_432 : pm_ins 119 432 = some (.aload_n 2, 1) := by decide +kernel
theorem n_119_433 : pm_ins 119 433 = some (.aload_n 0, 1) := by decide +kernel
theorem n_119_434 : pm_ins 119 434 = some (.iload_n 3, 1) := by decide +kernel
theorem n_119_435 : pm_ins 119 435 = some (.iconst 1, 1) := by decide +kernel
theorem n_119_436 : pm_ins 119 436 = some (.iadd, 1) := by decide +kernel
theorem n_119_437 : pm_ins 119 437 = some (.iaload, 1) := by decide +kernel
theorem n_119_438 : pm_ins 119 438 = some (.aload_n 0, 1) := by decide +kernel
theorem n_119_439 : pm_ins 119 439 = some (.iload_n 3, 1) := by decide +kernel
theorem n_119_440 : pm_ins 119 440 = some (.iconst 2, 1) := by decide +kernel
theorem n_119_441 : pm_ins 119 441 = some (.iadd, 1) := by decide +kernel
theorem n_119_442 : pm_ins 119 442 = some (.iaload, 1) := by decide +kernel
theorem n_119_443 : pm_ins 119 443 = some (.aload_n 0, 1) := by decide +kernel
theorem n_119_444 : pm_ins 119 444 = some (.iload_n 3, 1) := by decide +kernel
theorem n_119_445 : pm_ins 119 445 = some (.iconst 3, 1) := by decide +kernel
theorem n_119_446 : pm_ins 119 446 = some (.iadd, 1) := by decide +kernel
theorem n_119_447 : pm_ins 119 447 = some (.iaload, 1) := by decide +kernel
theorem n_119_448 : pm_ins 119 448 = some (.aload_n 0, 1) := by decide +kernel
theorem n_119_449 : pm_ins 119 449 = some (.iload_n 3, 1) := by decide +kernel
theorem n_119_450 : pm_ins 119 450 = some (.iconst 4, 1) := by decide +kernel
theorem n_119_451 : pm_ins 119 451 = some (.iadd, 1) := by decide +kernel
theorem n_119_452 : pm_ins 119 452 = some (.iaload, 1) := by decide +kernel
theorem n_119_453 : pm_ins 119 453 = some (.invokevirtual 53, 3) := by decide +kernel
theorem n_119_456 : pm_ins 119 456 = some (.if_icmp .eq 427, 3) := by decide +kernel
theorem n_119_459 : pm_ins 119 459 = some (.iconst 0, 1) := by decide +kernel
theorem n_119_460 : pm_ins 119 460 = some (.ireturn, 1) := by decide +kernel
theorem n_119_461 : pm_ins 119 461 = some (.aload_n 1, 1) := by decide +kernel
theorem n_119_462 : pm_ins 119 462 = some (.aload_n 0, 1) := by decide +kernel
theorem n_119_463 : pm_ins 119 463 = some (.iload_n 3, 1) := by decide +kernel
theorem n_119_464 : pm_ins 119 464 = some (.iconst 1, 1) := by decide +kernel
theorem n_119_465 : pm_ins 119 465 = some (.iadd, 1) := by decide +kernel
theorem n_119_466 : pm_ins 119 466 = some (.iaload, 1) := by decide +kernel
theorem n_119_467 : pm_ins 119 467 = some (.aload_n 0, 1) := by decide +kernel
theorem n_119_468 : pm_ins 119 468 = some (.iload_n 3, 1) := by decide +kernel
theorem n_119_469 : pm_ins 119 469 = some (.iconst 2, 1) := by decide +kernel
theorem n_119_470 : pm_ins 119 470 = some (.iadd, 1) := by decide +kernel
theorem n_119_471 : pm_ins 119 471 = some (.iaload, 1) := by decide +kernel
theorem n_119_472 : pm_ins 119 472 = some (.aload_n 0, 1) := by decide +kernel
theorem n_119_473 : pm_ins 119 473 = some (.iload_n 3, 1) := by decide +kernel
theorem n_119_474 : pm_ins 119 474 = some (.iconst 3, 1) := by decide +kernel
theorem n_119_475 : pm_ins 119 475 = some (.iadd, 1) := by decide +kernel
theorem n_119_476 : pm_ins 119 476 = some (.iaload, 1) := by decide +kernel
theorem n_119_477 : pm_ins 119 477 = some (.aload_n 0, 1) := by decide +kernel
theorem n_119_478 : pm_ins 119 478 = some (.iload_n 3, 1) := by decide +kernel
theorem n_119_479 : pm_ins 119 479 = some (.iconst 4, 1) := by decide +kernel
theorem n_119_480 : pm_ins 119 480 = some (.iadd, 1) := by decide +kernel
theorem n_119_481 : pm_ins 119 481 = some (.iaload, 1) := by decide +kernel
theorem n_119_482 : pm_ins 119 482 = some (.invokevirtual 54, 3) := by decide +kernel
theorem n_119_485 : pm_ins 119 485 = some (.aload_n 2, 1) := by decide +kernel
theorem n_119_486 : pm_ins 119 486 = some (.aload_n 0, 1) := by decide +kernel
theorem n_119_487 : pm_ins 119 487 = some (.iload_n 3, 1) := by decide +kernel
theorem n_119_488 : pm_ins 119 488 = some (.iconst 1, 1) := by decide +kernel
theorem n_119_489 : pm_ins 119 489 = some (.iadd, 1) := by decide +kernel
theorem n_119_490 : pm_ins 119 490 = some (.iaload, 1) := by decide +kernel
theorem n_119_491 : pm_ins 119 491 = some (.aload_n 0, 1) := by decide +kernel
theorem n_119_492 : pm_ins 119 492 = some (.iload_n 3, 1) := by decide +kernel
theorem n_119_493 : pm_ins 119 493 = some (.iconst 2, 1) := by decide +kernel
theorem n_119_494 : pm_ins 119 494 = some (.iadd, 1) := by decide +kernel
theorem n_119_495 : pm_ins 119 495 = some (.iaload, 1) := by decide +kernel
theorem n_119_496 : pm_ins 119 496 = some (.aload_n 0, 1) := by decide +kernel
theorem n_119_497 : pm_ins 119 497 = some (.iload_n 3, 1) := by decide +kernel
theorem n_119_498 : pm_ins 119 498 = some (.iconst 3, 1) := by decide +kernel
theorem n_119_499 : pm_ins 119 499 = some (.iadd, 1) := by decide +kernel
theorem n_119_500 : pm_ins 119 500 = some (.iaload, 1) := by decide +kernel
theorem n_119_501 : pm_ins 119 501 = some (.aload_n 0, 1) := by decide +kernel
theorem n_119_502 : pm_ins 119 502 = some (.iload_n 3, 1) := by decide +kernel
theorem n_119_503 : pm_ins 119 503 = some (.iconst 4, 1) := by decide +kernel
theorem n_119_504 : pm_ins 119 504 = some (.iadd, 1) := by decide +kernel
theorem n_119_505 : pm_ins 119 505 = some (.iaload, 1) := by decide +kernel
theorem n_119_506 : pm_ins 119 506 = some (.invokevirtual 57, 3) := by decide +kernel
theorem n_119_509 : pm_ins 119 509 = some (.if_icmp .eq 374, 3) := by decide +kernel
theorem n_119_512 : pm_ins 119 512 = some (.iconst 0, 1) := by decide +kernel
theorem n_119_513 : pm_ins 119 513 = some (.ireturn, 1) := by decide +kernel
theorem n_119_514 : pm_ins 119 514 = some (.aload_n 1, 1) := by decide +kernel
theorem n_119_515 : pm_ins 119 515 = some (.aload_n 0, 1) := by decide +kernel
theorem n_119_516 : pm_ins 119 516 = some (.iload_n 3, 1) := by decide +kernel
theorem n_119_517 : pm_ins 119 517 = some (.iconst 1, 1) := by decide +kernel
theorem n_119_518 : pm_ins 119 518 = some (.iadd, 1) := by decide +kernel
theorem n_119_519 : pm_ins 119 519 = some (.iaload, 1) := by decide +kernel
theorem n_119_520 : pm_ins 119 520 = some (.aload_n 0, 1) := by decide +kernel
theorem n_119_521 : pm_ins 119 521 = some (.iload_n 3, 1) := by decide +kernel
theorem n_119_522 : pm_ins 119 522 = some (.iconst 2, 1) := by decide +kernel
theorem n_119_523 : pm_ins 119 523 = some (.iadd, 1) := by decide +kernel
theorem n_119_524 : pm_ins 119 524 = some (.iaload, 1) := by decide +kernel
theorem n_119_525 : pm_ins 119 525 = some (.aload_n 0, 1) := by decide +kernel
theorem n_119_526 : pm_ins 119 526 = some (.iload_n 3, 1) := by decide +kernel
theorem n_119_527 : pm_ins 119 527 = some (.iconst 3, 1) := by decide +kernel
theorem n_119_528 : pm_ins 119 528 = some (.iadd, 1) := by decide +kernel
theorem n_119_529 : pm_ins 119 529 = some (.iaload, 1) := by decide +kernel
theorem n_119_530 : pm_ins 119 530 = some (.invokevirtual 58, 3) := by decide +kernel
theorem n_119_533 : pm_ins 119 533 = some (.aload_n 2, 1) := by decide +kernel
theorem n_119_534 : pm_ins 119 534 = some (.aload_n 0, 1) := by decide +kernel
theorem n_119_535 : pm_ins 119 535 = some (.iload_n 3, 1) := by decide +kernel
theorem n_119_536 : pm_ins 119 536 = some (.iconst 1, 1) := by decide +kernel
theorem n_119_537 : pm_ins 119 537 = some (.iadd, 1) := by decide +kernel
theorem n_119_538 : pm_ins 119 538 = some (.iaload, 1) := by decide +kernel
theorem n_119_539 : pm_ins 119 539 = some (.aload_n 0, 1) := by decide +kernel
theorem n_119_540 : pm_ins 119 540 = some (.iload_n 3, 1) := by decide +kernel
theorem n_119_541 : pm_ins 119 541 = some (.iconst 2, 1) := by decide +kernel
theorem n_119_542 : pm_ins 119 542 = some (.iadd, 1) := by decide +kernel
theorem n_119_543 : pm_ins 119 543 = some (.iaload, 1) := by decide +kernel
theorem n_119_544 : pm_ins 119 544 = some (.aload_n 0, 1) := by decide +kernel
theorem n_119_545 : pm_ins 119 545 = some (.iload_n 3, 1) := by decide +kernel
theorem n_119_546 : pm_ins 119 546 = some (.iconst 3, 1) := by decide +kernel
theorem n_119_547 : pm_ins 119 547 = some (.iadd, 1) := by decide +kernel
theorem n_119_548 : pm_ins 119 548 = some (.iaload, 1) := by decide +kernel
theorem n_119_549 : pm_ins 119 549 = some (.invokevirtual 62, 3) := by decide +kernel
theorem n_119_552 : pm_ins 119 552 = some (.lcmp, 1) := by decide +kernel
theorem n_119_553 : pm_ins 119 553 = some (.ifCond .eq 330, 3) := by decide +kernel
theorem n_119_556 : pm_ins 119 556 = some (.iconst 0, 1) := by decide +kernel
theorem n_119_557 : pm_ins 119 557 = some (.ireturn, 1) := by decide +kernel
theorem n_119_558 : pm_ins 119 558 = some (.aload_n 1, 1) := by decide +kernel
theorem n_119_559 : pm_ins 119 559 = some (.aload_n 0, 1) := by decide +kernel
theorem n_119_560 : pm_ins 119 560 = some (.iload_n 3, 1) := by decide +kernel
theorem n_119_561 : pm_ins 119 561 = some (.iconst 1, 1) := by decide +kernel
theorem n_119_562 : pm_ins 119 562 = some (.iadd, 1) := by decide +kernel
theorem n_119_563 : pm_ins 119 563 = some (.iaload, 1) := by decide +kernel
theorem n_119_564 : pm_ins 119 564 = some (.aload_n 0, 1) := by decide +kernel
theorem n_119_565 : pm_ins 119 565 = some (.iload_n 3, 1) := by decide +kernel
theorem n_119_566 : pm_ins 119 566 = some (.iconst 2, 1) := by decide +kernel
theorem n_119_567 : pm_ins 119 567 = some (.iadd, 1) := by decide +kernel
theorem n_119_568 : pm_ins 119 568 = some (.iaload, 1) := by decide +kernel
theorem n_119_569 : pm_ins 119 569 = some (.invokevirtual 63, 3) := by decide +kernel
theorem n_119_572 : pm_ins 119 572 = some (.aload_n 2, 1) := by decide +kernel
theorem n_119_573 : pm_ins 119 573 = some (.aload_n 0, 1) := by decide +kernel
theorem n_119_574 : pm_ins 119 574 = some (.iload_n 3, 1) := by decide +kernel
theorem n_119_575 : pm_ins 119 575 = some (.iconst 1, 1) := by decide +kernel
theorem n_119_576 : pm_ins 119 576 = some (.iadd, 1) := by decide +kernel
theorem n_119_577 : pm_ins 119 577 = some (.iaload, 1) := by decide +kernel
theorem n_119_578 : pm_ins 119 578 = some (.aload_n 0, 1) := by decide +kernel
theorem n_119_579 : pm_ins 119 579 = some (.iload_n 3, 1) := by decide +kernel
theorem n_119_580 : pm_ins 119 580 = some (.iconst 2, 1) := by decide +kernel
theorem n_119_581 : pm_ins 119 581 = some (.iadd, 1) := by decide +kernel
theorem n_119_582 : pm_ins 119 582 = some (.iaload, 1) := by decide +kernel
theorem n_119_583 : pm_ins 119 583 = some (.invokevirtual 66, 3) := by decide +kernel
theorem n_119_586 : pm_ins 119 586 = some (.if_icmp .eq 297, 3) := by decide +kernel
theorem n_119_589 : pm_ins 119 589 = some (.iconst 0, 1) := by decide +kernel
theorem n_119_590 : pm_ins 119 590 = some (.ireturn, 1) := by decide +kernel
theorem n_119_591 : pm_ins 119 591 = some (.aload_n 1, 1) := by decide +kernel
theorem n_119_592 : pm_ins 119 592 = some (.aload_n 0, 1) := by decide +kernel
theorem n_119_593 : pm_ins 119 593 = some (.iload_n 3, 1) := by decide +kernel
theorem n_119_594 : pm_ins 119 594 = some (.iconst 1, 1) := by decide +kernel
theorem n_119_595 : pm_ins 119 595 = some (.iadd, 1) := by decide +kernel
theorem n_119_596 : pm_ins 119 596 = some (.iaload, 1) := by decide +kernel
theorem n_119_597 : pm_ins 119 597 = some (.aload_n 0, 1) := by decide +kernel
theorem n_119_598 : pm_ins 119 598 = some (.iload_n 3, 1) := by decide +kernel
theorem n_119_599 : pm_ins 119 599 = some (.iconst 2, 1) := by decide +kernel
theorem n_119_600 : pm_ins 119 600 = some (.iadd, 1) := by decide +kernel
theorem n_119_601 : pm_ins 119 601 = some (.iaload, 1) := by decide +kernel
theorem n_119_602 : pm_ins 119 602 = some (.aload_n 0, 1) := by decide +kernel
theorem n_119_603 : pm_ins 119 603 = some (.iload_n 3, 1) := by decide +kernel
theorem n_119_604 : pm_ins 119 604 = some (.iconst 3, 1) := by decide +kernel
theorem n_119_605 : pm_ins 119 605 = some (.iadd, 1) := by decide +kernel
theorem n_119_606 : pm_ins 119 606 = some (.iaload, 1) := by decide +kernel
theorem n_119_607 : pm_ins 119 607 = some (.invokevirtual 67, 3) := by decide +kernel
theorem n_119_610 : pm_ins 119 610 = some (.aload_n 2, 1) := by decide +kernel
theorem n_119_611 : pm_ins 119 611 = some (.aload_n 0, 1) := by decide +kernel
theorem n_119_612 : pm_ins 119 612 = some (.iload_n 3, 1) := by decide +kernel
theorem n_119_613 : pm_ins 119 613 = some (.iconst 1, 1) := by decide +kernel
theorem n_119_614 : pm_ins 119 614 = some (.iadd, 1) := by decide +kernel
theorem n_119_615 : pm_ins 119 615 = some (.iaload, 1) := by decide +kernel
theorem n_119_616 : pm_ins 119 616 = some (.aload_n 0, 1) := by decide +kernel
theorem n_119_617 : pm_ins 119 617 = some (.iload_n 3, 1) := by decide +kernel
theorem n_119_618 : pm_ins 119 618 = some (.iconst 2, 1) := by decide +kernel
theorem n_119_619 : pm_ins 119 619 = some (.iadd, 1) := by decide +kernel
theorem n_119_620 : pm_ins 119 620 = some (.iaload, 1) := by decide +kernel
theorem n_119_621 : pm_ins 119 621 = some (.aload_n 0, 1) := by decide +kernel
theorem n_119_622 : pm_ins 119 622 = some (.iload_n 3, 1) := by decide +kernel
theorem n_119_623 : pm_ins 119 623 = some (.iconst 3, 1) := by decide +kernel
theorem n_119_624 : pm_ins 119 624 = some (.iadd, 1) := by decide +kernel
theorem n_119_625 : pm_ins 119 625 = some (.iaload, 1) := by decide +kernel
theorem n_119_626 : pm_ins 119 626 = some (.invokevirtual 71, 3) := by decide +kernel
theorem n_119_629 : pm_ins 119 629 = some (.if_icmp .eq 254, 3) := by decide +kernel
theorem n_119_632 : pm_ins 119 632 = some (.iconst 0, 1) := by decide +kernel
theorem n_119_633 : pm_ins 119 633 = some (.ireturn, 1) := by decide +kernel
theorem n_119_634 : pm_ins 119 634 = some (.aload_n 1, 1) := by decide +kernel
theorem n_119_635 : pm_ins 119 635 = some (.aload_n 0, 1) := by decide +kernel
theorem n_119_636 : pm_ins 119 636 = some (.iload_n 3, 1) := by decide +kernel
theorem n_119_637 : pm_ins 119 637 = some (.iconst 1, 1) := by decide +kernel
theorem n_119_638 : pm_ins 119 638 = some (.iadd, 1) := by decide +kernel
theorem n_119_639 : pm_ins 119 639 = some (.iaload, 1) := by decide +kernel
theorem n_119_640 : pm_ins 119 640 = some (.aload_n 0, 1) := by decide +kernel
theorem n_119_641 : pm_ins 119 641 = some (.iload_n 3, 1) := by decide +kernel
theorem n_119_642 : pm_ins 119 642 = some (.iconst 2, 1) := by decide +kernel
theorem n_119_643 : pm_ins 119 643 = some (.iadd, 1) := by decide +kernel
theorem n_119_644 : pm_ins 119 644 = some (.iaload, 1) := by decide +kernel
theorem n_119_645 : pm_ins 119 645 = some (.invokevirtual 72, 3) := by decide +kernel
theorem n_119_648 : pm_ins 119 648 = some (.aload_n 2, 1) := by decide +kernel
theorem n_119_649 : pm_ins 119 649 = some (.aload_n 0, 1) := by decide +kernel
theorem n_119_650 : pm_ins 119 650 = some (.iload_n 3, 1) := by decide +kernel
theorem n_119_651 : pm_ins 119 651 = some (.iconst 1, 1) := by decide +kernel
theorem n_119_652 : pm_ins 119 652 = some (.iadd, 1) := by decide +kernel
theorem n_119_653 : pm_ins 119 653 = some (.iaload, 1) := by decide +kernel
theorem n_119_654 : pm_ins 119 654 = some (.aload_n 0, 1) := by decide +kernel
theorem n_119_655 : pm_ins 119 655 = some (.iload_n 3, 1) := by decide +kernel
theorem n_119_656 : pm_ins 119 656 = some (.iconst 2, 1) := by decide +kernel
theorem n_119_657 : pm_ins 119 657 = some (.iadd, 1) := by decide +kernel
theorem n_119_658 : pm_ins 119 658 = some (.iaload, 1) := by decide +kernel
theorem n_119_659 : pm_ins 119 659 = some (.invokevirtual 75, 3) := by decide +kernel
theorem n_119_662 : pm_ins 119 662 = some (.if_icmp .eq 221, 3) := by decide +kernel
theorem n_119_665 : pm_ins 119 665 = some (.iconst 0, 1) := by decide +kernel
theorem n_119_666 : pm_ins 119 666 = some (.ireturn, 1) := by decide +kernel
theorem n_119_667 : pm_ins 119 667 = some (.aload_n 1, 1) := by decide +kernel
theorem n_119_668 : pm_ins 119 668 = some (.aload_n 0, 1) := by decide +kernel
theorem n_119_669 : pm_ins 119 669 = some (.iload_n 3, 1) := by decide +kernel
theorem n_119_670 : pm_ins 119 670 = some (.iconst 1, 1) := by decide +kernel
theorem n_119_671 : pm_ins 119 671 = some (.iadd, 1) := by decide +kernel
theorem n_119_672 : pm_ins 119 672 = some (.iaload, 1) := by decide +kernel
theorem n_119_673 : pm_ins 119 673 = some (.invokevirtual 76, 3) := by decide +kernel
theorem n_119_676 : pm_ins 119 676 = some (.aload_n 2, 1) := by decide +kernel
theorem n_119_677 : pm_ins 119 677 = some (.aload_n 0, 1) := by decide +kernel
theorem n_119_678 : pm_ins 119 678 = some (.iload_n 3, 1) := by decide +kernel
theorem n_119_679 : pm_ins 119 679 = some (.iconst 1, 1) := by decide +kernel
theorem n_119_680 : pm_ins 119 680 = some (.iadd, 1) := by decide +kernel
theorem n_119_681 : pm_ins 119 681 = some (.iaload, 1) := by decide +kernel
theorem n_119_682 : pm_ins 119 682 = some (.invokevirtual 79, 3) := by decide +kernel
theorem n_119_685 : pm_ins 119 685 = some (.if_icmp .eq 198, 3) := by decide +kernel
theorem n_119_688 : pm_ins 119 688 = some (.iconst 0, 1) := by decide +kernel
theorem n_119_689 : pm_ins 119 689 = some (.ireturn, 1) := by decide +kernel
theorem n_119_690 : pm_ins 119 690 = some (.aload_n 1, 1) := by decide +kernel
theorem n_119_691 : pm_ins 119 691 = some (.aload_n 0, 1) := by decide +kernel
theorem n_119_692 : pm_ins 119 692 = some (.iload_n 3, 1) := by decide +kernel
theorem n_119_693 : pm_ins 119 693 = some (.iconst 1, 1) := by decide +kernel
theorem n_119_694 : pm_ins 119 694 = some (.iadd, 1) := by decide +kernel
theorem n_119_695 : pm_ins 119 695 = some (.iaload, 1) := by decide +kernel
theorem n_119_696 : pm_ins 119 696 = some (.aload_n 0, 1) := by decide +kernel
theorem n_119_697 : pm_ins 119 697 = some (.iload_n 3, 1) := by decide +kernel
theorem n_119_698 : pm_ins 119 698 = some (.iconst 2, 1) := by decide +kernel
theorem n_119_699 : pm_ins 119 699 = some (.iadd, 1) := by decide +kernel
theorem n_119_700 : pm_ins 119 700 = some (.iaload, 1) := by decide +kernel
theorem n_119_701 : pm_ins 119 701 = some (.invokevirtual 80, 3) := by decide +kernel
theorem n_119_704 : pm_ins 119 704 = some (.aload_n 2, 1) := by decide +kernel
theorem n_119_705 : pm_ins 119 705 = some (.aload_n 0, 1) := by decide +kernel
theorem n_119_706 : pm_ins 119 706 = some (.iload_n 3, 1) := by decide +kernel
theorem n_119_707 : pm_ins 119 707 = some (.iconst 1, 1) := by decide +kernel
theorem n_119_708 : pm_ins 119 708 = some (.iadd, 1) := by decide +kernel
theorem n_119_709 : pm_ins 119 709 = some (.iaload, 1) := by decide +kernel
theorem n_119_710 : pm_ins 119 710 = some (.aload_n 0, 1) := by decide +kernel
theorem n_119_711 : pm_ins 119 711 = some (.iload_n 3, 1) := by decide +kernel
theorem n_119_712 : pm_ins 119 712 = some (.iconst 2, 1) := by decide +kernel
theorem n_119_713 : pm_ins 119 713 = some (.iadd, 1) := by decide +kernel
theorem n_119_714 : pm_ins 119 714 = some (.iaload, 1) := by decide +kernel
theorem n_119_715 : pm_ins 119 715 = some (.invokevirtual 83, 3) := by decide +kernel
theorem n_119_718 : pm_ins 119 718 = some (.if_icmp .eq 165, 3) := by decide +kernel
theorem n_119_721 : pm_ins 119 721 = some (.iconst 0, 1) := by decide +kernel
theorem n_119_722 : pm_ins 119 722 = some (.ireturn, 1) := by decide +kernel
theorem n_119_723 : pm_ins 119 723 = some (.aload_n 1, 1) := by decide +kernel
theorem n_119_724 : pm_ins 119 724 = some (.aload_n 0, 1) := by decide +kernel
theorem n_119_725 : pm_ins 119 725 = some (.iload_n 3, 1) := by decide +kernel
theorem n_119_726 : pm_ins 119 726 = some (.iconst 1, 1) := by decide +kernel
theorem n_119_727 : pm_ins 119 727 = some (.iadd, 1) := by decide +kernel
theorem n_119_728 : pm_ins 119 728 = some (.iaload, 1) := by decide +kernel
theorem n_119_729 : pm_ins 119 729 = some (.aload_n 0, 1) := by decide +kernel
theorem n_119_730 : pm_ins 119 730 = some (.iload_n 3, 1) := by decide +kernel
theorem n_119_731 : pm_ins 119 731 = some (.iconst 2, 1) := by decide +kernel
theorem n_119_732 : pm_ins 119 732 = some (.iadd, 1) := by decide +kernel
theorem n_119_733 : pm_ins 119 733 = some (.iaload, 1) := by decide +kernel
theorem n_119_734 : pm_ins 119 734 = some (.ifCond .eq 7, 3) := by decide +kernel
theorem n_119_737 : pm_ins 119 737 = some (.iconst 1, 1) := by decide +kernel
theorem n_119_738 : pm_ins 119 738 = some (.goto 4, 3) := by decide +kernel
theorem n_119_741 : pm_ins 119 741 = some (.iconst 0, 1) := by decide +kernel
theorem n_119_742 : pm_ins 119 742 = some (.aload_n 0, 1) := by decide +kernel
theorem n_119_743 : pm_ins 119 743 = some (.iload_n 3, 1) := by decide +kernel
theorem n_119_744 : pm_ins 119 744 = some (.iconst 3, 1) := by decide +kernel
theorem n_119_745 : pm_ins 119 745 = some (.iadd, 1) := by decide +kernel
theorem n_119_746 : pm_ins 119 746 = some (.iaload, 1) := by decide +kernel
theorem n_119_747 : pm_ins 119 747 = some (.aload_n 0, 1) := by decide +kernel
theorem n_119_748 : pm_ins 119 748 = some (.iload_n 3, 1) := by decide +kernel
theorem n_119_749 : pm_ins 119 749 = some (.iconst 4, 1) := by decide +kernel
theorem n_119_750 : pm_ins 119 750 = some (.iadd, 1) := by decide +kernel
theorem n_119_751 : pm_ins 119 751 = some (.iaload, 1) := by decide +kernel
theorem n_119_752 : pm_ins 119 752 = some (.invokevirtual 84, 3) := by decide +kernel
theorem n_119_755 : pm_ins 119 755 = some (.aload_n 2, 1) := by decide +kernel
theorem n_119_756 : pm_ins 119 756 = some (.aload_n 0, 1) := by decide +kernel
theorem n_119_757 : pm_ins 119 757 = some (.iload_n 3, 1) := by decide +kernel
theorem n_119_758 : pm_ins 119 758 = some (.iconst 1, 1) := by decide +kernel
theorem n_119_759 : pm_ins 119 759 = some (.iadd, 1) := by decide +kernel
theorem n_119_760 : pm_ins 119 760 = some (.iaload, 1) := by decide +kernel
theorem n_119_761 : pm_ins 119 761 = some (.aload_n 0, 1) := by decide +kernel
theorem n_119_762 : pm_ins 119 762 = some (.iload_n 3, 1) := by decide +kernel
theorem n_119_763 : pm_ins 119 763 = some (.iconst 2, 1) := by decide +kernel
theorem n_119_764 : pm_ins 119 764 = some (.iadd, 1) := by decide +kernel
theorem n_119_765 : pm_ins 119 765 = some (.iaload, 1) := by decide +kernel
theorem n_119_766 : pm_ins 119 766 = some (.ifCond .eq 7, 3) := by decide +kernel
theorem n_119_769 : pm_ins 119 769 = some (.iconst 1, 1) := by decide +kernel
theorem n_119_770 : pm_ins 119 770 = some (.goto 4, 3) := by decide +kernel
theorem n_119_773 : pm_ins 119 773 = some (.iconst 0, 1) := by decide +kernel
theorem n_119_774 : pm_ins 119 774 = some (.aload_n 0, 1) := by decide +kernel
theorem n_119_775 : pm_ins 119 775 = some (.iload_n 3, 1) := by decide +kernel
theorem n_119_776 : pm_ins 119 776 = some (.iconst 3, 1) := by decide +kernel
theorem n_119_777 : pm_ins 119 777 = some (.iadd, 1) := by decide +kernel
theorem n_119_778 : pm_ins 119 778 = some (.iaload, 1) := by decide +kernel
theorem n_119_779 : pm_ins 119 779 = some (.aload_n 0, 1) := by decide +kernel
theorem n_119_780 : pm_ins 119 780 = some (.iload_n 3, 1) := by decide +kernel
theorem n_119_781 : pm_ins 119 781 = some (.iconst 4, 1) := by decide +kernel
theorem n_119_782 : pm_ins 119 782 = some (.iadd, 1) := by decide +kernel
theorem n_119_783 : pm_ins 119 783 = some (.iaload, 1) := by decide +kernel
theorem n_119_784 : pm_ins 119 784 = some (.invokevirtual 88, 3) := by decide +kernel
theorem n_119_787 : pm_ins 119 787 = some (.if_icmp .eq 96, 3) := by decide +kernel
theorem n_119_790 : pm_ins 119 790 = some (.iconst 0, 1) := by decide +kernel
theorem n_119_791 : pm_ins 119 791 = some (.ireturn, 1) := by decide +kernel
theorem n_119_792 : pm_ins 119 792 = some (.aload_n 1, 1) := by decide +kernel
theorem n_119_793 : pm_ins 119 793 = some (.aload_n 0, 1) := by decide +kernel
theorem n_119_794 : pm_ins 119 794 = some (.iload_n 3, 1) := by decide +kernel
theorem n_119_795 : pm_ins 119 795 = some (.iconst 1, 1) := by decide +kernel
theorem n_119_796 : pm_ins 119 796 = some (.iadd, 1) := by decide +kernel
theorem n_119_797 : pm_ins 119 797 = some (.iaload, 1) := by decide +kernel
theorem n_119_798 : pm_ins 119 798 = some (.invokevirtual 89, 3) := by decide +kernel
theorem n_119_801 : pm_ins 119 801 = some (.aload_n 2, 1) := by decide +kernel
theorem n_119_802 : pm_ins 119 802 = some (.aload_n 0, 1) := by decide +kernel
theorem n_119_803 : pm_ins 119 803 = some (.iload_n 3, 1) := by decide +kernel
theorem n_119_804 : pm_ins 119 804 = some (.iconst 1, 1) := by decide +kernel
theorem n_119_805 : pm_ins 119 805 = some (.iadd, 1) := by decide +kernel
theorem n_119_806 : pm_ins 119 806 = some (.iaload, 1) := by decide +kernel
theorem n_119_807 : pm_ins 119 807 = some (.invokevirtual 92, 3) := by decide +kernel
theorem n_119_810 : pm_ins 119 810 = some (.if_icmp .eq 73, 3) := by decide +kernel
theorem n_119_813 : pm_ins 119 813 = some (.iconst 0, 1) := by decide +kernel
theorem n_119_814 : pm_ins 119 814 = some (.ireturn, 1) := by decide +kernel
theorem n_119_815 : pm_ins 119 815 = some (.aload_n 1, 1) := by decide +kernel
theorem n_119_816 : pm_ins 119 816 = some (.aload_n 0, 1) := by decide +kernel
theorem n_119_817 : pm_ins 119 817 = some (.iload_n 3, 1) := by decide +kernel
theorem n_119_818 : pm_ins 119 818 = some (.iconst 1, 1) := by decide +kernel
theorem n_119_819 : pm_ins 119 819 = some (.iadd, 1) := by decide +kernel
theorem n_119_820 : pm_ins 119 820 = some (.iaload, 1) := by decide +kernel
theorem n_119_821 : pm_ins 119 821 = some (.invokevirtual 93, 3) := by decide +kernel
theorem n_119_824 : pm_ins 119 824 = some (.aload_n 2, 1) := by decide +kernel
theorem n_119_825 : pm_ins 119 825 = some (.aload_n 0, 1) := by decide +kernel
theorem n_119_826 : pm_ins 119 826 = some (.iload_n 3, 1) := by decide +kernel
theorem n_119_827 : pm_ins 119 827 = some (.iconst 1, 1) := by decide +kernel
theorem n_119_828 : pm_ins 119 828 = some (.iadd, 1) := by decide +kernel
theorem n_119_829 : pm_ins 119 829 = some (.iaload, 1) := by decide +kernel
theorem n_119_830 : pm_ins 119 830 = some (.invokevirtual 97, 3) := by decide +kernel
theorem n_119_833 : pm_ins 119 833 = some (.lcmp, 1) := by decide +kernel
theorem n_119_834 : pm_ins 119 834 = some (.ifCond .eq 49, 3) := by decide +kernel
theorem n_119_837 : pm_ins 119 837 = some (.iconst 0, 1) := by decide +kernel
theorem n_119_838 : pm_ins 119 838 = some (.ireturn, 1) := by decide +kernel
theorem n_119_839 : pm_ins 119 839 = some (.aload_n 1, 1) := by decide +kernel
theorem n_119_840 : pm_ins 119 840 = some (.aload_n 0, 1) := by decide +kernel
theorem n_119_841 : pm_ins 119 841 = some (.iload_n 3, 1) := by decide +kernel
theorem n_119_842 : pm_ins 119 842 = some (.iconst 1, 1) := by decide +kernel
theorem n_119_843 : pm_ins 119 843 = some (.iadd, 1) := by decide +kernel
theorem n_119_844 : pm_ins 119 844 = some (.iaload, 1) := by decide +kernel
theorem n_119_845 : pm_ins 119 845 = some (.aload_n 0, 1) := by decide +kernel
theorem n_119_846 : pm_ins 119 846 = some (.iload_n 3, 1) := by decide +kernel
theorem n_119_847 : pm_ins 119 847 = some (.iconst 2, 1) := by decide +kernel
theorem n_119_848 : pm_ins 119 848 = some (.iadd, 1) := by decide +kernel
theorem n_119_849 : pm_ins 119 849 = some (.iaload, 1) := by decide +kernel
theorem n_119_850 : pm_ins 119 850 = some (.aload_n 0, 1) := by decide +kernel
theorem n_119_851 : pm_ins 119 851 = some (.iload_n 3, 1) := by decide +kernel
theorem n_119_852 : pm_ins 119 852 = some (.iconst 3, 1) := by decide +kernel
theorem n_119_853 : pm_ins 119 853 = some (.iadd, 1) := by decide +kernel
theorem n_119_854 : pm_ins 119 854 = some (.iaload, 1) := by decide +kernel
theorem n_119_855 : pm_ins 119 855 = some (.invokevirtual 98, 3) := by decide +kernel
theorem n_119_858 : pm_ins 119 858 = some (.aload_n 2, 1) := by decide +kernel
theorem n_119_859 : pm_ins 119 859 = some (.aload_n 0, 1) := by decide +kernel
theorem n_119_860 : pm_ins 119 860 = some (.iload_n 3, 1) := by decide +kernel
theorem n_119_861 : pm_ins 119 861 = some (.iconst 1, 1) := by decide +kernel
theorem n_119_862 : pm_ins 119 862 = some (.iadd, 1) := by decide +kernel
theorem n_119_863 : pm_ins 119 863 = some (.iaload, 1) := by decide +kernel
theorem n_119_864 : pm_ins 119 864 = some (.aload_n 0, 1) := by decide +kernel
theorem n_119_865 : pm_ins 119 865 = some (.iload_n 3, 1) := by decide +kernel
theorem n_119_866 : pm_ins 119 866 = some (.iconst 2, 1) := by decide +kernel
theorem n_119_867 : pm_ins 119 867 = some (.iadd, 1) := by decide +kernel
theorem n_119_868 : pm_ins 119 868 = some (.iaload, 1) := by decide +kernel
theorem n_119_869 : pm_ins 119 869 = some (.aload_n 0, 1) := by decide +kernel
theorem n_119_870 : pm_ins 119 870 = some (.iload_n 3, 1) := by decide +kernel
theorem n_119_871 : pm_ins 119 871 = some (.iconst 3, 1) := by decide +kernel
theorem n_119_872 : pm_ins 119 872 = some (.iadd, 1) := by decide +kernel
theorem n_119_873 : pm_ins 119 873 = some (.iaload, 1) := by decide +kernel
theorem n_119_874 : pm_ins 119 874 = some (.invokevirtual 101, 3) := by decide +kernel
theorem n_119_877 : pm_ins 119 877 = some (.lcmp, 1) := by decide +kernel
theorem n_119_878 : pm_ins 119 878 = some (.ifCond .eq 5, 3) := by decide +kernel
theorem n_119_881 : pm_ins 119 881 = some (.iconst 0, 1) := by decide +kernel
theorem n_119_882 : pm_ins 119 882 = some (.ireturn, 1) := by decide +kernel
theorem n_119_883 : pm_ins 119 883 = some (.iinc 3 5, 3) := by decide +kernel
theorem n_119_886 : pm_ins 119 886 = some (.goto (-868), 3) := by decide +kernel
theorem n_119_889 : pm_ins 119 889 = some (.iconst 1, 1) := by decide +kernel
theorem n_119_890 : pm_ins 119 890 = some (.ireturn, 1) := by decide +kernel
