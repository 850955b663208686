theorem d_Law_law_206 : decode code 206 = .ok (.iadd, 1) := by decide +kernel
theorem d_Law_law_207 : decode code 207 = .ok (.iaload, 1) := by decide +kernel
theorem d_Law_law_208 : decode code 208 = .ok (.i2l, 1) := by decide +kernel
theorem d_Law_law_209 : decode code 209 = .ok (.ldc2_w 21, 3) := by decide +kernel
theorem d_Law_law_212 : decode code 212 = .ok (.land, 1) := by decide +kernel
theorem d_Law_law_213 : decode code 213 = .ok (.lor, 1) := by decide +kernel
theorem d_Law_law_214 : decode code 214 = .ok (.invokevirtual 32, 3) := by decide +kernel
theorem d_Law_law_217 : decode code 217 = .ok (.if_icmp .eq 310, 3) := by decide +kernel
theorem d_Law_law_220 : decode code 220 = .ok (.iconst 0, 1) := by decide +kernel
theorem d_Law_law_221 : decode code 221 = .ok (.ireturn, 1) := by decide +kernel
theorem d_Law_law_222 : decode code 222 = .ok (.aload_n 1, 1) := by decide +kernel
theorem d_Law_law_223 : decode code 223 = .ok (.aload_n 0, 1) := by decide +kernel
theorem d_Law_law_224 : decode code 224 = .ok (.iload_n 3, 1) := by decide +kernel
theorem d_Law_law_225 : decode code 225 = .ok (.iconst 1, 1) := by decide +kernel
theorem d_Law_law_226 : decode code 226 = .ok (.iadd, 1) := by decide +kernel
theorem d_Law_law_227 : decode code 227 = .ok (.iaload, 1) := by decide +kernel
theorem d_Law_law_228 : decode code 228 = .ok (.aload_n 0, 1) := by decide +kernel
theorem d_Law_law_229 : decode code 229 = .ok (.iload_n 3, 1) := by decide +kernel
theorem d_Law_law_230 : decode code 230 = .ok (.iconst 2, 1) := by decide +kernel
theorem d_Law_law_231 : decode code 231 = .ok (.iadd, 1) := by decide +kernel
theorem d_Law_law_232 : decode code 232 = .ok (.iaload, 1) := by decide +kernel
theorem d_Law_law_233 : decode code 233 = .ok (.aload_n 0, 1) := by decide +kernel
theorem d_Law_law_234 : decode code 234 = .ok (.iload_n 3, 1) := by decide +kernel
theorem d_Law_law_235 : decode code 235 = .ok (.iconst 3, 1) := by decide +kernel
theorem d_Law_law_236 : decode code 236 = .ok (.iadd, 1) := by decide +kernel
theorem d_Law_law_237 : decode code 237 = .ok (.iaload, 1) := by decide +kernel
theorem d_Law_law_238 : decode code 238 = .ok (.aload_n 0, 1) := by decide +kernel
theorem d_Law_law_239 : decode code 239 = .ok (.iload_n 3, 1) := by decide +kernel
theorem d_Law_law_240 : decode code 240 = .ok (.iconst 4, 1) := by decide +kernel
theorem d_Law_law_241 : decode code 241 = .ok (.iadd, 1) := by decide +kernel
theorem d_Law_law_242 : decode code 242 = .ok (.iaload, 1) := by decide +kernel
theorem d_Law_law_243 : decode code 243 = .ok (.i2l, 1) := by decide +kernel
theorem d_Law_law_244 : decode code 244 = .ok (.bipush 32, 2) := by decide +kernel
theorem d_Law_law_246 : decode code 246 = .ok (.lshl, 1) := by decide +kernel
theorem d_Law_law_247 : decode code 247 = .ok (.aload_n 0, 1) := by decide +kernel
theorem d_Law_law_248 : decode code 248 = .ok (.iload_n 3, 1) := by decide +kernel
theorem d_Law_law_249 : decode code 249 = .ok (.iconst 5, 1) := by decide +kernel
theorem d_Law_law_250 : decode code 250 = .ok (.iadd, 1) := by decide +kernel
theorem d_Law_law_251 : decode code 251 = .ok (.iaload, 1) := by decide +kernel
theorem d_Law_law_252 : decode code 252 = .ok (.i2l, 1) := by decide +kernel
theorem d_Law_law_253 : decode code 253 = .ok (.ldc2_w 21, 3) := by decide +kernel
theorem d_Law_law_256 : decode code 256 = .ok (.land, 1) := by decide +kernel
theorem d_Law_law_257 : decode code 257 = .ok (.lor, 1) := by decide +kernel
theorem d_Law_law_258 : decode code 258 = .ok (.invokevirtual 33, 3) := by decide +kernel
theorem d_Law_law_261 : decode code 261 = .ok (.aload_n 2, 1) := by decide +kernel
theorem d_Law_law_262 : decode code 262 = .ok (.aload_n 0, 1) := by decide +kernel
theorem d_Law_law_263 : decode code 263 = .ok (.iload_n 3, 1) := by decide +kernel
theorem d_Law_law_264 : decode code 264 = .ok (.iconst 1, 1) := by decide +kernel
theorem d_Law_law_265 : decode code 265 = .ok (.iadd, 1) := by decide +kernel
theorem d_Law_law_266 : decode code 266 = .ok (.iaload, 1) := by decide +kernel
theorem d_Law_law_267 : decode code 267 = .ok (.aload_n 0, 1) := by decide +kernel
theorem d_Law_law_268 : decode code 268 = .ok (.iload_n 3, 1) := by decide +kernel
theorem d_Law_law_269 : decode code 269 = .ok (.iconst 2, 1) := by decide +kernel
theorem d_Law_law_270 : decode code 270 = .ok (.iadd, 1) := by decide +kernel
theorem d_Law_law_271 : decode code 271 = .ok (.iaload, 1) := by decide +kernel
theorem d_Law_law_272 : decode code 272 = .ok (.aload_n 0, 1) := by decide +kernel
theorem d_Law_law_273 : decode code 273 = .ok (.iload_n 3, 1) := by decide +kernel
theorem d_Law_law_274 : decode code 274 = .ok (.iconst 3, 1) := by decide +kernel
theorem d_Law_law_275 : decode code 275 = .ok (.iadd, 1) := by decide +kernel
theorem d_Law_law_276 : decode code 276 = .ok (.iaload, 1) := by decide +kernel
theorem d_Law_law_277 : decode code 277 = .ok (.aload_n 0, 1) := by decide +kernel
theorem d_Law_law_278 : decode code 278 = .ok (.iload_n 3, 1) := by decide +kernel
theorem d_Law_law_279 : decode code 279 = .ok (.iconst 4, 1) := by decide +kernel
theorem d_Law_law_280 : decode code 280 = .ok (.iadd, 1) := by decide +kernel
theorem d_Law_law_281 : decode code 281 = .ok (.iaload, 1) := by decide +kernel
theorem d_Law_law_282 : decode code 282 = .ok (.i2l, 1) := by decide +kernel
theorem d_Law_law_283 : decode code 283 = .ok (.bipush 32, 2) := by decide +kernel
theorem d_Law_law_285 : decode code 285 = .ok (.lshl, 1) := by decide +kernel
theorem d_Law_law_286 : decode code 286 = .ok (.aload_n 0, 1) := by decide +kernel
theorem d_Law_law_287 : decode code 287 = .ok (.iload_n 3, 1) := by decide +kernel
theorem d_Law_law_288 : decode code 288 = .ok (.iconst 5, 1) := by decide +kernel
theorem d_Law_law_289 : decode code 289 = .ok (.iadd, 1) := by decide +kernel
theorem d_Law_law_290 : decode code 290 = .ok (.iaload, 1) := by decide +kernel
theorem d_Law_law_291 : decode code 291 = .ok (.i2l, 1) := by decide +kernel
theorem d_Law_law_292 : decode code 292 = .ok (.ldc2_w 21, 3) := by decide +kernel
theorem d_Law_law_295 : decode code 295 = .ok (.land, 1) := by decide +kernel
theorem d_Law_law_296 : decode code 296 = .ok (.lor, 1) := by decide +kernel
theorem d_Law_law_297 : decode code 297 = .ok (.invokevirtual 37, 3) := by decide +kernel
theorem d_Law_law_300 : decode code 300 = .ok (.if_icmp .eq 227, 3) := by decide +kernel
theorem d_Law_law_303 : decode code 303 = .ok (.iconst 0, 1) := by decide +kernel
theorem d_Law_law_304 : decode code 304 = .ok (.ireturn, 1) := by decide +kernel
theorem d_Law_law_305 : decode code 305 = .ok (.aload_n 1, 1) := by decide +kernel
theorem d_Law_law_306 : decode code 306 = .ok (.aload_n 0, 1) := by decide +kernel
theorem d_Law_law_307 : decode code 307 = .ok (.iload_n 3, 1) := by decide +kernel
theorem d_Law_law_308 : decode code 308 = .ok (.iconst 1, 1) := by decide +kernel
theorem d_Law_law_309 : decode code 309 = .ok (.iadd, 1) := by decide +kernel
theorem d_Law_law_310 : decode code 310 = .ok (.iaload, 1) := by decide +kernel
theorem d_Law_law_311 : decode code 311 = .ok (.aload_n 0, 1) := by decide +kernel
theorem d_Law_law_312 : decode code 312 = .ok (.iload_n 3, 1) := by decide +kernel
theorem d_Law_law_313 : decode code 313 = .ok (.iconst 2, 1) := by decide +kernel
theorem d_Law_law_314 : decode code 314 = .ok (.iadd, 1) := by decide +kernel
theorem d_Law_law_315 : decode code 315 = .ok (.iaload, 1) := by decide +kernel
theorem d_Law_law_316 : decode code 316 = .ok (.aload_n 0, 1) := by decide +kernel
theorem d_Law_law_317 : decode code 317 = .ok (.iload_n 3, 1) := by decide +kernel
theorem d_Law_law_318 : decode code 318 = .ok (.iconst 3, 1) := by decide +kernel
theorem d_Law_law_319 : decode code 319 = .ok (.iadd, 1) := by decide +kernel
theorem d_Law_law_320 : decode code 320 = .ok (.iaload, 1) := by decide +kernel
theorem d_Law_law_321 : decode code 321 = .ok (.invokevirtual 38, 3) := by decide +kernel
theorem d_Law_law_324 : decode code 324 = .ok (.aload_n 2, 1) := by decide +kernel
theorem d_Law_law_325 : decode code 325 = .ok (.aload_n 0, 1) := by decide +kernel
theorem d_Law_law_326 : decode code 326 = .ok (.iload_n 3, 1) := by decide +kernel
theorem d_Law_law_327 : decode code 327 = .ok (.iconst 1, 1) := by decide +kernel
theorem d_Law_law_328 : decode code 328 = .ok (.iadd, 1) := by decide +kernel
theorem d_Law_law_329 : decode code 329 = .ok (.iaload, 1) := by decide +kernel
theorem d_Law_law_330 : decode code 330 = .ok (.aload_n 0, 1) := by decide +kernel
theorem d_Law_law_331 : decode code 331 = .ok (.iload_n 3, 1) := by decide +kernel
theorem d_Law_law_332 : decode code 332 = .ok (.iconst 2, 1) := by decide +kernel
theorem d_Law_law_333 : decode code 333 = .ok (.iadd, 1) := by decide +kernel
theorem d_Law_law_334 : decode code 334 = .ok (.iaload, 1) := by decide +kernel
theorem d_Law_law_335 : decode code 335 = .ok (.aload_n 0, 1) := by decide +kernel
theorem d_Law_law_336 : decode code 336 = .ok (.iload_n 3, 1) := by decide +kernel
theorem d_Law_law_337 : decode code 337 = .ok (.iconst 3, 1) := by decide +kernel
theorem d_Law_law_338 : decode code 338 = .ok (.iadd, 1) := by decide +kernel
theorem d_Law_law_339 : decode code 339 = .ok (.iaload, 1) := by decide +kernel
theorem d_Law_law_340 : decode code 340 = .ok (.invokevirtual 42, 3) := by decide +kernel
theorem d_Law_law_343 : decode code 343 = .ok (.if_icmp .eq 184, 3) := by decide +kernel
theorem d_Law_law_346 : decode code 346 = .ok (.iconst 0, 1) := by decide +kernel
theorem d_Law_law_347 : decode code 347 = .ok (.ireturn, 1) := by decide +kernel
theorem d_Law_law_348 : decode code 348 = .ok (.aload_n 1, 1) := by decide +kernel
theorem d_Law_law_349 : decode code 349 = .ok (.aload_n 0, 1) := by decide +kernel
theorem d_Law_law_350 : decode code 350 = .ok (.iload_n 3, 1) := by decide +kernel
theorem d_Law_law_351 : decode code 351 = .ok (.iconst 1, 1) := by decide +kernel
theorem d_Law_law_352 : decode code 352 = .ok (.iadd, 1) := by decide +kernel
theorem d_Law_law_353 : decode code 353 = .ok (.iaload, 1) := by decide +kernel
theorem d_Law_law_354 : decode code 354 = .ok (.invokevirtual 43, 3) := by decide +kernel
theorem d_Law_law_357 : decode code 357 = .ok (.aload_n 2, 1) := by decide +kernel
theorem d_Law_law_358 : decode code 358 = .ok (.aload_n 0, 1) := by decide +kernel
theorem d_Law_law_359 : decode code 359 = .ok (.iload_n 3, 1) := by decide +kernel
theorem d_Law_law_360 : decode code 360 = .ok (.iconst 1, 1) := by decide +kernel
theorem d_Law_law_361 : decode code 361 = .ok (.iadd, 1) := by decide +kernel
