theorem d_LW_law_0 : decode code 0 = .ok (.new 7, 3) := by decide +kernel
theorem d_LW_law_3 : decode code 3 = .ok (.dup, 1) := by decide +kernel
theorem d_LW_law_4 : decode code 4 = .ok (.invokespecial 9, 3) := by decide +kernel
theorem d_LW_law_7 : decode code 7 = .ok (.astore_n 1, 1) := by decide +kernel
theorem d_LW_law_8 : decode code 8 = .ok (.new 10, 3) := by decide +kernel
theorem d_LW_law_11 : decode code 11 = .ok (.dup, 1) := by decide +kernel
theorem d_LW_law_12 : decode code 12 = .ok (.invokespecial 12, 3) := by decide +kernel
theorem d_LW_law_15 : decode code 15 = .ok (.astore_n 2, 1) := by decide +kernel
theorem d_LW_law_16 : decode code 16 = .ok (.iconst 0, 1) := by decide +kernel
theorem d_LW_law_17 : decode code 17 = .ok (.istore_n 3, 1) := by decide +kernel
theorem d_LW_law_18 : decode code 18 = .ok (.iload_n 3, 1) := by decide +kernel
theorem d_LW_law_19 : decode code 19 = .ok (.aload_n 0, 1) := by decide +kernel
theorem d_LW_law_20 : decode code 20 = .ok (.arraylength, 1) := by decide +kernel
theorem d_LW_law_21 : decode code 21 = .ok (.iconst 3, 1) := by decide +kernel
theorem d_LW_law_22 : decode code 22 = .ok (.isub, 1) := by decide +kernel
theorem d_LW_law_23 : decode code 23 = .ok (.if_icmp .gt 580, 3) := by decide +kernel
theorem d_LW_law_26 : decode code 26 = .ok (.aload_n 0, 1) := by decide +kernel
theorem d_LW_law_27 : decode code 27 = .ok (.iload_n 3, 1) := by decide +kernel
theorem d_LW_law_28 : decode code 28 = .ok (.iaload, 1) := by decide +kernel
theorem d_LW_law_29 : decode code 29 = .ok (.bipush 31, 2) := by decide +kernel
theorem d_LW_law_31 : decode code 31 = .ok (.iand, 1) := by decide +kernel
theorem d_LW_law_32 : decode code 32 = .ok (.tableswitch 565 0 16 #[84, 117, 150, 173, 206, 239, 262, 295, 318, 341, 374, 397, 420, 443, 466, 499, 532], 84) := by decide +kernel
theorem d_LW_law_116 : decode code 116 = .ok (.aload_n 1, 1) := by decide +kernel
theorem d_LW_law_117 : decode code 117 = .ok (.aload_n 0, 1) := by decide +kernel
theorem d_LW_law_118 : decode code 118 = .ok (.iload_n 3, 1) := by decide +kernel
theorem d_LW_law_119 : decode code 119 = .ok (.iconst 1, 1) := by decide +kernel
theorem d_LW_law_120 : decode code 120 = .ok (.iadd, 1) := by decide +kernel
theorem d_LW_law_121 : decode code 121 = .ok (.iaload, 1) := by decide +kernel
theorem d_LW_law_122 : decode code 122 = .ok (.aload_n 0, 1) := by decide +kernel
theorem d_LW_law_123 : decode code 123 = .ok (.iload_n 3, 1) := by decide +kernel
theorem d_LW_law_124 : decode code 124 = .ok (.iconst 2, 1) := by decide +kernel
theorem d_LW_law_125 : decode code 125 = .ok (.iadd, 1) := by decide +kernel
theorem d_LW_law_126 : decode code 126 = .ok (.iaload, 1) := by decide +kernel
theorem d_LW_law_127 : decode code 127 = .ok (.invokevirtual 13, 3) := by decide +kernel
theorem d_LW_law_130 : decode code 130 = .ok (.aload_n 2, 1) := by decide +kernel
theorem d_LW_law_131 : decode code 131 = .ok (.aload_n 0, 1) := by decide +kernel
theorem d_LW_law_132 : decode code 132 = .ok (.iload_n 3, 1) := by decide +kernel
theorem d_LW_law_133 : decode code 133 = .ok (.iconst 1, 1) := by decide +kernel
theorem d_LW_law_134 : decode code 134 = .ok (.iadd, 1) := by decide +kernel
theorem d_LW_law_135 : decode code 135 = .ok (.iaload, 1) := by decide +kernel
theorem d_LW_law_136 : decode code 136 = .ok (.aload_n 0, 1) := by decide +kernel
theorem d_LW_law_137 : decode code 137 = .ok (.iload_n 3, 1) := by decide +kernel
theorem d_LW_law_138 : decode code 138 = .ok (.iconst 2, 1) := by decide +kernel
theorem d_LW_law_139 : decode code 139 = .ok (.iadd, 1) := by decide +kernel
theorem d_LW_law_140 : decode code 140 = .ok (.iaload, 1) := by decide +kernel
theorem d_LW_law_141 : decode code 141 = .ok (.invokevirtual 17, 3) := by decide +kernel
theorem d_LW_law_144 : decode code 144 = .ok (.if_icmp .eq 453, 3) := by decide +kernel
theorem d_LW_law_147 : decode code 147 = .ok (.iconst 0, 1) := by decide +kernel
theorem d_LW_law_148 : decode code 148 = .ok (.ireturn, 1) := by decide +kernel
theorem d_LW_law_149 : decode code 149 = .ok (.aload_n 1, 1) := by decide +kernel
theorem d_LW_law_150 : decode code 150 = .ok (.aload_n 0, 1) := by decide +kernel
theorem d_LW_law_151 : decode code 151 = .ok (.iload_n 3, 1) := by decide +kernel
theorem d_LW_law_152 : decode code 152 = .ok (.iconst 1, 1) := by decide +kernel
theorem d_LW_law_153 : decode code 153 = .ok (.iadd, 1) := by decide +kernel
theorem d_LW_law_154 : decode code 154 = .ok (.iaload, 1) := by decide +kernel
theorem d_LW_law_155 : decode code 155 = .ok (.aload_n 0, 1) := by decide +kernel
theorem d_LW_law_156 : decode code 156 = .ok (.iload_n 3, 1) := by decide +kernel
theorem d_LW_law_157 : decode code 157 = .ok (.iconst 2, 1) := by decide +kernel
theorem d_LW_law_158 : decode code 158 = .ok (.iadd, 1) := by decide +kernel
theorem d_LW_law_159 : decode code 159 = .ok (.iaload, 1) := by decide +kernel
theorem d_LW_law_160 : decode code 160 = .ok (.invokevirtual 18, 3) := by decide +kernel
theorem d_LW_law_163 : decode code 163 = .ok (.aload_n 2, 1) := by decide +kernel
theorem d_LW_law_164 : decode code 164 = .ok (.aload_n 0, 1) := by decide +kernel
theorem d_LW_law_165 : decode code 165 = .ok (.iload_n 3, 1) := by decide +kernel
theorem d_LW_law_166 : decode code 166 = .ok (.iconst 1, 1) := by decide +kernel
theorem d_LW_law_167 : decode code 167 = .ok (.iadd, 1) := by decide +kernel
theorem d_LW_law_168 : decode code 168 = .ok (.iaload, 1) := by decide +kernel
theorem d_LW_law_169 : decode code 169 = .ok (.aload_n 0, 1) := by decide +kernel
theorem d_LW_law_170 : decode code 170 = .ok (.iload_n 3, 1) := by decide +kernel
theorem d_LW_law_171 : decode code 171 = .ok (.iconst 2, 1) := by decide +kernel
theorem d_LW_law_172 : decode code 172 = .ok (.iadd, 1) := by decide +kernel
theorem d_LW_law_173 : decode code 173 = .ok (.iaload, 1) := by decide +kernel
theorem d_LW_law_174 : decode code 174 = .ok (.invokevirtual 21, 3) := by decide +kernel
theorem d_LW_law_177 : decode code 177 = .ok (.if_icmp .eq 420, 3) := by decide +kernel
theorem d_LW_law_180 : decode code 180 = .ok (.iconst 0, 1) := by decide +kernel
theorem d_LW_law_181 : decode code 181 = .ok (.ireturn, 1) := by decide +kernel
theorem d_LW_law_182 : decode code 182 = .ok (.aload_n 1, 1) := by decide +kernel
theorem d_LW_law_183 : decode code 183 = .ok (.aload_n 0, 1) := by decide +kernel
theorem d_LW_law_184 : decode code 184 = .ok (.iload_n 3, 1) := by decide +kernel
theorem d_LW_law_185 : decode code 185 = .ok (.iconst 1, 1) := by decide +kernel
theorem d_LW_law_186 : decode code 186 = .ok (.iadd, 1) := by decide +kernel
theorem d_LW_law_187 : decode code 187 = .ok (.iaload, 1) := by decide +kernel
theorem d_LW_law_188 : decode code 188 = .ok (.invokevirtual 22, 3) := by decide +kernel
theorem d_LW_law_191 : decode code 191 = .ok (.aload_n 2, 1) := by decide +kernel
theorem d_LW_law_192 : decode code 192 = .ok (.aload_n 0, 1) := by decide +kernel
theorem d_LW_law_193 : decode code 193 = .ok (.iload_n 3, 1) := by decide +kernel
theorem d_LW_law_194 : decode code 194 = .ok (.iconst 1, 1) := by decide +kernel
theorem d_LW_law_195 : decode code 195 = .ok (.iadd, 1) := by decide +kernel
theorem d_LW_law_196 : decode code 196 = .ok (.iaload, 1) := by decide +kernel
theorem d_LW_law_197 : decode code 197 = .ok (.invokevirtual 26, 3) := by decide +kernel
theorem d_LW_law_200 : decode code 200 = .ok (.if_icmp .eq 397, 3) := by decide +kernel
theorem d_LW_law_203 : decode code 203 = .ok (.iconst 0, 1) := by decide +kernel
theorem d_LW_law_204 : decode code 204 = .ok (.ireturn, 1) := by decide +kernel
theorem d_LW_law_205 : decode code 205 = .ok (.aload_n 1, 1) := by decide +kernel
theorem d_LW_law_206 : decode code 206 = .ok (.aload_n 0, 1) := by decide +kernel
theorem d_LW_law_207 : decode code 207 = .ok (.iload_n 3, 1) := by decide +kernel
theorem d_LW_law_208 : decode code 208 = .ok (.iconst 1, 1) := by decide +kernel
theorem d_LW_law_209 : decode code 209 = .ok (.iadd, 1) := by decide +kernel
theorem d_LW_law_210 : decode code 210 = .ok (.iaload, 1) := by decide +kernel
theorem d_LW_law_211 : decode code 211 = .ok (.aload_n 0, 1) := by decide +kernel
theorem d_LW_law_212 : decode code 212 = .ok (.iload_n 3, 1) := by decide +kernel
theorem d_LW_law_213 : decode code 213 = .ok (.iconst 2, 1) := by decide +kernel
theorem d_LW_law_214 : decode code 214 = .ok (.iadd, 1) := by decide +kernel
theorem d_LW_law_215 : decode code 215 = .ok (.iaload, 1) := by decide +kernel
theorem d_LW_law_216 : decode code 216 = .ok (.invokevirtual 27, 3) := by decide +kernel
theorem d_LW_law_219 : decode code 219 = .ok (.aload_n 2, 1) := by decide +kernel
theorem d_LW_law_220 : decode code 220 = .ok (.aload_n 0, 1) := by decide +kernel
theorem d_LW_law_221 : decode code 221 = .ok (.iload_n 3, 1) := by decide +kernel
theorem d_LW_law_222 : decode code 222 = .ok (.iconst 1, 1) := by decide +kernel
theorem d_LW_law_223 : decode code 223 = .ok (.iadd, 1) := by decide +kernel
theorem d_LW_law_224 : decode code 224 = .ok (.iaload, 1) := by decide +kernel
theorem d_LW_law_225 : decode code 225 = .ok (.aload_n 0, 1) := by decide +kernel
theorem d_LW_law_226 : decode code 226 = .ok (.iload_n 3, 1) := by decide +kernel
theorem d_LW_law_227 : decode code 227 = .ok (.iconst 2, 1) := by decide +kernel
theorem d_LW_law_228 : decode code 228 = .ok (.iadd, 1) := by decide +kernel
theorem d_LW_law_229 : decode code 229 = .ok (.iaload, 1) := by decide +kernel
theorem d_LW_law_230 : decode code 230 = .ok (.invokevirtual 30, 3) := by decide +kernel
theorem d_LW_law_233 : decode code 233 = .ok (.if_icmp .eq 364, 3) := by decide +kernel
theorem d_LW_law_236 : decode code 236 = .ok (.iconst 0, 1) := by decide +kernel
theorem d_LW_law_237 : decode code 237 = .ok (.ireturn, 1) := by decide +kernel
theorem d_LW_law_238 : decode code 238 = .ok (.aload_n 1, 1) := by decide +kernel
theorem d_LW_law_239 : decode code 239 = .ok (.aload_n 0, 1) := by decide +kernel
theorem d_LW_law_240 : decode code 240 = .ok (.iload_n 3, 1) := by decide +kernel
theorem d_LW_law_241 : decode code 241 = .ok (.iconst 1, 1) := by decide +kernel
theorem d_LW_law_242 : decode code 242 = .ok (.iadd, 1) := by decide +kernel
theorem d_LW_law_243 : decode code 243 = .ok (.iaload, 1) := by decide +kernel
theorem d_LW_law_244 : decode code 244 = .ok (.aload_n 0, 1) := by decide +kernel
theorem d_LW_law_245 : decode code 245 = .ok (.iload_n 3, 1) := by decide +kernel
theorem d_LW_law_246 : decode code 246 = .ok (.iconst 2, 1) := by decide +kernel
theorem d_LW_law_247 : decode code 247 = .ok (.iadd, 1) := by decide +kernel
theorem d_LW_law_248 : decode code 248 = .ok (.iaload, 1) := by decide +kernel
theorem d_LW_law_249 : decode code 249 = .ok (.invokevirtual 31, 3) := by decide +kernel
theorem d_LW_law_252 : decode code 252 = .ok (.aload_n 2, 1) := by decide +kernel
theorem d_LW_law_253 : decode code 253 = .ok (.aload_n 0, 1) := by decide +kernel
theorem d_LW_law_254 : decode code 254 = .ok (.iload_n 3, 1) := by decide +kernel
theorem d_LW_law_255 : decode code 255 = .ok (.iconst 1, 1) := by decide +kernel
theorem d_LW_law_256 : decode code 256 = .ok (.iadd, 1) := by decide +kernel
theorem d_LW_law_257 : decode code 257 = .ok (.iaload, 1) := by decide +kernel
theorem d_LW_law_258 : decode code 258 = .ok (.aload_n 0, 1) := by decide +kernel
theorem d_LW_law_259 : decode code 259 = .ok (.iload_n 3, 1) := by decide +kernel
theorem d_LW_law_260 : decode code 260 = .ok (.iconst 2, 1) := by decide +kernel
theorem d_LW_law_261 : decode code 261 = .ok (.iadd, 1) := by decide +kernel
theorem d_LW_law_262 : decode code 262 = .ok (.iaload, 1) := by decide +kernel
theorem d_LW_law_263 : decode code 263 = .ok (.invokevirtual 34, 3) := by decide +kernel
theorem d_LW_law_266 : decode code 266 = .ok (.if_icmp .eq 331, 3) := by decide +kernel
theorem d_LW_law_269 : decode code 269 = .ok (.iconst 0, 1) := by decide +kernel
theorem d_LW_law_270 : decode code 270 = .ok (.ireturn, 1) := by decide +kernel
theorem d_LW_law_271 : decode code 271 = .ok (.aload_n 1, 1) := by decide +kernel
theorem d_LW_law_272 : decode code 272 = .ok (.aload_n 0, 1) := by decide +kernel
theorem d_LW_law_273 : decode code 273 = .ok (.iload_n 3, 1) := by decide +kernel
theorem d_LW_law_274 : decode code 274 = .ok (.iconst 1, 1) := by decide +kernel
theorem d_LW_law_275 : decode code 275 = .ok (.iadd, 1) := by decide +kernel
theorem d_LW_law_276 : decode code 276 = .ok (.iaload, 1) := by decide +kernel
theorem d_LW_law_277 : decode code 277 = .ok (.invokevirtual 35, 3) := by decide +kernel
theorem d_LW_law_280 : decode code 280 = .ok (.aload_n 2, 1) := by decide +kernel
theorem d_LW_law_281 : decode code 281 = .ok (.aload_n 0, 1) := by decide +kernel
theorem d_LW_law_282 : decode code 282 = .ok (.iload_n 3, 1) := by decide +kernel
theorem d_LW_law_283 : decode code 283 = .ok (.iconst 1, 1) := by decide +kernel
theorem d_LW_law_284 : decode code 284 = .ok (.iadd, 1) := by decide +kernel
theorem d_LW_law_285 : decode code 285 = .ok (.iaload, 1) := by decide +kernel
theorem d_LW_law_286 : decode code 286 = .ok (.invokevirtual 38, 3) := by decide +kernel
theorem d_LW_law_289 : decode code 289 = .ok (.if_icmp .eq 308, 3) := by decide +kernel
theorem d_LW_law_292 : decode code 292 = .ok (.iconst 0, 1) := by decide +kernel
theorem d_LW_law_293 : decode code 293 = .ok (.ireturn, 1) := by decide +kernel
theorem d_LW_law_294 : decode code 294 = .ok (.aload_n 1, 1) := by decide +kernel
theorem d_LW_law_295 : decode code 295 = .ok (.aload_n 0, 1) := by decide +kernel
theorem d_LW_law_296 : decode code 296 = .ok (.iload_n 3, 1) := by decide +kernel
theorem d_LW_law_297 : decode code 297 = .ok (.iconst 1, 1) := by decide +kernel
theorem d_LW_law_298 : decode code 298 = .ok (.iadd, 1) := by decide +kernel
theorem d_LW_law_299 : decode code 299 = .ok (.iaload, 1) := by decide +kernel
theorem d_LW_law_300 : decode code 300 = .ok (.aload_n 0, 1) := by decide +kernel
theorem d_LW_law_301 : decode code 301 = .ok (.iload_n 3, 1) := by decide +kernel
theorem d_LW_law_302 : decode code 302 = .ok (.iconst 2, 1) := by decide +kernel
theorem d_LW_law_303 : decode code 303 = .ok (.iadd, 1) := by decide +kernel
theorem d_LW_law_304 : decode code 304 = .ok (.iaload, 1) := by decide +kernel
theorem d_LW_law_305 : decode code 305 = .ok (.invokevirtual 39, 3) := by decide +kernel
theorem d_LW_law_308 : decode code 308 = .ok (.aload_n 2, 1) := by decide +kernel
theorem d_LW_law_309 : decode code 309 = .ok (.aload_n 0, 1) := by decide +kernel
theorem d_LW_law_310 : decode code 310 = .ok (.iload_n 3, 1) := by decide +kernel
theorem d_LW_law_311 : decode code 311 = .ok (.iconst 1, 1) := by decide +kernel
theorem d_LW_law_312 : decode code 312 = .ok (.iadd, 1) := by decide +kernel
theorem d_LW_law_313 : decode code 313 = .ok (.iaload, 1) := by decide +kernel
theorem d_LW_law_314 : decode code 314 = .ok (.aload_n 0, 1) := by decide +kernel
theorem d_LW_law_315 : decode code 315 = .ok (.iload_n 3, 1) := by decide +kernel
theorem d_LW_law_316 : decode code 316 = .ok (.iconst 2, 1) := by decide +kernel
theorem d_LW_law_317 : decode code 317 = .ok (.iadd, 1) := by decide +kernel
theorem d_LW_law_318 : decode code 318 = .ok (.iaload, 1) := by decide +kernel
theorem d_LW_law_319 : decode code 319 = .ok (.invokevirtual 42, 3) := by decide +kernel
theorem d_LW_law_322 : decode code 322 = .ok (.if_icmp .eq 275, 3) := by decide +kernel
theorem d_LW_law_325 : decode code 325 = .ok (.iconst 0, 1) := by decide +kernel
theorem d_LW_law_326 : decode code 326 = .ok (.ireturn, 1) := by decide +kernel
theorem d_LW_law_327 : decode code 327 = .ok (.aload_n 1, 1) := by decide +kernel
theorem d_LW_law_328 : decode code 328 = .ok (.aload_n 0, 1) := by decide +kernel
theorem d_LW_law_329 : decode code 329 = .ok (.iload_n 3, 1) := by decide +kernel
theorem d_LW_law_330 : decode code 330 = .ok (.iconst 1, 1) := by decide +kernel
theorem d_LW_law_331 : decode code 331 = .ok (.iadd, 1) := by decide +kernel
theorem d_LW_law_332 : decode code 332 = .ok (.iaload, 1) := by decide +kernel
theorem d_LW_law_333 : decode code 333 = .ok (.invokevirtual 43, 3) := by decide +kernel
theorem d_LW_law_336 : decode code 336 = .ok (.aload_n 2, 1) := by decide +kernel
theorem d_LW_law_337 : decode code 337 = .ok (.aload_n 0, 1) := by decide +kernel
theorem d_LW_law_338 : decode code 338 = .ok (.iload_n 3, 1) := by decide +kernel
theorem d_LW_law_339 : decode code 339 = .ok (.iconst 1, 1) := by decide +kernel
theorem d_LW_law_340 : decode code 340 = .ok (.iadd, 1) := by decide +kernel
theorem d_LW_law_341 : decode code 341 = .ok (.iaload, 1) := by decide +kernel
theorem d_LW_law_342 : decode code 342 = .ok (.invokevirtual 46, 3) := by decide +kernel
theorem d_LW_law_345 : decode code 345 = .ok (.if_icmp .eq 252, 3) := by decide +kernel
theorem d_LW_law_348 : decode code 348 = .ok (.iconst 0, 1) := by decide +kernel
theorem d_LW_law_349 : decode code 349 = .ok (.ireturn, 1) := by decide +kernel
theorem d_LW_law_350 : decode code 350 = .ok (.aload_n 1, 1) := by decide +kernel
theorem d_LW_law_351 : decode code 351 = .ok (.aload_n 0, 1) := by decide +kernel
theorem d_LW_law_352 : decode code 352 = .ok (.iload_n 3, 1) := by decide +kernel
theorem d_LW_law_353 : decode code 353 = .ok (.iconst 1, 1) := by decide +kernel
theorem d_LW_law_354 : decode code 354 = .ok (.iadd, 1) := by decide +kernel
theorem d_LW_law_355 : decode code 355 = .ok (.iaload, 1) := by decide +kernel
theorem d_LW_law_356 : decode code 356 = .ok (.invokevirtual 47, 3) := by decide +kernel
theorem d_LW_law_359 : decode code 359 = .ok (.aload_n 2, 1) := by decide +kernel
theorem d_LW_law_360 : decode code 360 = .ok (.aload_n 0, 1) := by decide +kernel
theorem d_LW_law_361 : decode code 361 = .ok (.iload_n 3, 1) := by decide +kernel
theorem d_LW_law_362 : decode code 362 = .ok (.iconst 1, 1) := by decide +kernel
theorem d_LW_law_363 : decode code 363 = .ok (.iadd, 1) := by decide +kernel
theorem d_LW_law_364 : decode code 364 = .ok (.iaload, 1) := by decide +kernel
theorem d_LW_law_365 : decode code 365 = .ok (.invokevirtual 50, 3) := by decide +kernel
theorem d_LW_law_368 : decode code 368 = .ok (.if_icmp .eq 229, 3) := by decide +kernel
theorem d_LW_law_371 : decode code 371 = .ok (.iconst 0, 1) := by decide +kernel
theorem d_LW_law_372 : decode code 372 = .ok (.ireturn, 1) := by decide +kernel
theorem d_LW_law_373 : decode code 373 = .ok (.aload_n 1, 1) := by decide +kernel
theorem d_LW_law_374 : decode code 374 = .ok (.aload_n 0, 1) := by decide +kernel
theorem d_LW_law_375 : decode code 375 = .ok (.iload_n 3, 1) := by decide +kernel
theorem d_LW_law_376 : decode code 376 = .ok (.iconst 1, 1) := by decide +kernel
theorem d_LW_law_377 : decode code 377 = .ok (.iadd, 1) := by decide +kernel
theorem d_LW_law_378 : decode code 378 = .ok (.iaload, 1) := by decide +kernel
theorem d_LW_law_379 : decode code 379 = .ok (.aload_n 0, 1) := by decide +kernel
theorem d_LW_law_380 : decode code 380 = .ok (.iload_n 3, 1) := by decide +kernel
theorem d_LW_law_381 : decode code 381 = .ok (.iconst 2, 1) := by decide +kernel
theorem d_LW_law_382 : decode code 382 = .ok (.iadd, 1) := by decide +kernel
theorem d_LW_law_383 : decode code 383 = .ok (.iaload, 1) := by decide +kernel
theorem d_LW_law_384 : decode code 384 = .ok (.invokevirtual 51, 3) := by decide +kernel
theorem d_LW_law_387 : decode code 387 = .ok (.aload_n 2, 1) := by decide +kernel
theorem d_LW_law_388 : decode code 388 = .ok (.aload_n 0, 1) := by decide +kernel
theorem d_LW_law_389 : decode code 389 = .ok (.iload_n 3, 1) := by decide +kernel
theorem d_LW_law_390 : decode code 390 = .ok (.iconst 1, 1) := by decide +kernel
theorem d_LW_law_391 : decode code 391 = .ok (.iadd, 1) := by decide +kernel
theorem d_LW_law_392 : decode code 392 = .ok (.iaload, 1) := by decide +kernel
theorem d_LW_law_393 : decode code 393 = .ok (.aload_n 0, 1) := by decide +kernel
theorem d_LW_law_394 : decode code 394 = .ok (.iload_n 3, 1) := by decide +kernel
theorem d_LW_law_395 : decode code 395 = .ok (.iconst 2, 1) := by decide +kernel
theorem d_LW_law_396 : decode code 396 = .ok (.iadd, 1) := by decide +kernel
theorem d_LW_law_397 : decode code 397 = .ok (.iaload, 1) := by decide +kernel
theorem d_LW_law_398 : decode code 398 = .ok (.invokevirtual 54, 3) := by decide +kernel
theorem d_LW_law_401 : decode code 401 = .ok (.if_icmp .eq 196, 3) := by decide +kernel
theorem d_LW_law_404 : decode code 404 = .ok (.iconst 0, 1) := by decide +kernel
theorem d_LW_law_405 : decode code 405 = .ok (.ireturn, 1) := by decide +kernel
theorem d_LW_law_406 : decode code 406 = .ok (.aload_n 1, 1) := by decide +kernel
theorem d_LW_law_407 : decode code 407 = .ok (.aload_n 0, 1) := by decide +kernel
theorem d_LW_law_408 : decode code 408 = .ok (.iload_n 3, 1) := by decide +kernel
theorem d_LW_law_409 : decode code 409 = .ok (.iconst 1, 1) := by decide +kernel
theorem d_LW_law_410 : decode code 410 = .ok (.iadd, 1) := by decide +kernel
theorem d_LW_law_411 : decode code 411 = .ok (.iaload, 1) := by decide +kernel
theorem d_LW_law_412 : decode code 412 = .ok (.invokevirtual 55, 3) := by decide +kernel
theorem d_LW_law_415 : decode code 415 = .ok (.aload_n 2, 1) := by decide +kernel
theorem d_LW_law_416 : decode code 416 = .ok (.aload_n 0, 1) := by decide +kernel
theorem d_LW_law_417 : decode code 417 = .ok (.iload_n 3, 1) := by decide +kernel
theorem d_LW_law_418 : decode code 418 = .ok (.iconst 1, 1) := by decide +kernel
theorem d_LW_law_419 : decode code 419 = .ok (.iadd, 1) := by decide +kernel
theorem d_LW_law_420 : decode code 420 = .ok (.iaload, 1) := by decide +kernel
theorem d_LW_law_421 : decode code 421 = .ok (.invokevirtual 59, 3) := by decide +kernel
theorem d_LW_law_424 : decode code 424 = .ok (.if_icmp .eq 173, 3) := by decide +kernel
theorem d_LW_law_427 : decode code 427 = .ok (.iconst 0, 1) := by decide +kernel
theorem d_LW_law_428 : decode code 428 = .ok (.ireturn, 1) := by decide +kernel
theorem d_LW_law_429 : decode code 429 = .ok (.aload_n 1, 1) := by decide +kernel
theorem d_LW_law_430 : decode code 430 = .ok (.aload_n 0, 1) := by decide +kernel
theorem d_LW_law_431 : decode code 431 = .ok (.iload_n 3, 1) := by decide +kernel
theorem d_LW_law_432 : decode code 432 = .ok (.iconst 1, 1) := by decide +kernel
theorem d_LW_law_433 : decode code 433 = .ok (.iadd, 1) := by decide +kernel
theorem d_LW_law_434 : decode code 434 = .ok (.iaload, 1) := by decide +kernel
theorem d_LW_law_435 : decode code 435 = .ok (.invokevirtual 60, 3) := by decide +kernel
theorem d_LW_law_438 : decode code 438 = .ok (.aload_n 2, 1) := by decide +kernel
theorem d_LW_law_439 : decode code 439 = .ok (.aload_n 0, 1) := by decide +kernel
theorem d_LW_law_440 : decode code 440 = .ok (.iload_n 3, 1) := by decide +kernel
theorem d_LW_law_441 : decode code 441 = .ok (.iconst 1, 1) := by decide +kernel
theorem d_LW_law_442 : decode code 442 = .ok (.iadd, 1) := by decide +kernel
theorem d_LW_law_443 : decode code 443 = .ok (.iaload, 1) := by decide +kernel
theorem d_LW_law_444 : decode code 444 = .ok (.invokevirtual 63, 3) := by decide +kernel
theorem d_LW_law_447 : decode code 447 = .ok (.if_icmp .eq 150, 3) := by decide +kernel
theorem d_LW_law_450 : decode code 450 = .ok (.iconst 0, 1) := by decide +kernel
theorem d_LW_law_451 : decode code 451 = .ok (.ireturn, 1) := by decide +kernel
theorem d_LW_law_452 : decode code 452 = .ok (.aload_n 1, 1) := by decide +kernel
theorem d_LW_law_453 : decode code 453 = .ok (.aload_n 0, 1) := by decide +kernel
theorem d_LW_law_454 : decode code 454 = .ok (.iload_n 3, 1) := by decide +kernel
theorem d_LW_law_455 : decode code 455 = .ok (.iconst 1, 1) := by decide +kernel
theorem d_LW_law_456 : decode code 456 = .ok (.iadd, 1) := by decide +kernel
theorem d_LW_law_457 : decode code 457 = .ok (.iaload, 1) := by decide +kernel
theorem d_LW_law_458 : decode code 458 = .ok (.invokevirtual 64, 3) := by decide +kernel
theorem d_LW_law_461 : decode code 461 = .ok (.aload_n 2, 1) := by decide +kernel
theorem d_LW_law_462 : decode code 462 = .ok (.aload_n 0, 1) := by decide +kernel
theorem d_LW_law_463 : decode code 463 = .ok (.iload_n 3, 1) := by decide +kernel
theorem d_LW_law_464 : decode code 464 = .ok (.iconst 1, 1) := by decide +kernel
theorem d_LW_law_465 : decode code 465 = .ok (.iadd, 1) := by decide +kernel
theorem d_LW_law_466 : decode code 466 = .ok (.iaload, 1) := by decide +kernel
theorem d_LW_law_467 : decode code 467 = .ok (.invokevirtual 67, 3) := by decide +kernel
theorem d_LW_law_470 : decode code 470 = .ok (.if_icmp .eq 127, 3) := by decide +kernel
theorem d_LW_law_473 : decode code 473 = .ok (.iconst 0, 1) := by decide +kernel
theorem d_LW_law_474 : decode code 474 = .ok (.ireturn, 1) := by decide +kernel
theorem d_LW_law_475 : decode code 475 = .ok (.aload_n 1, 1) := by decide +kernel
theorem d_LW_law_476 : decode code 476 = .ok (.aload_n 0, 1) := by decide +kernel
theorem d_LW_law_477 : decode code 477 = .ok (.iload_n 3, 1) := by decide +kernel
theorem d_LW_law_478 : decode code 478 = .ok (.iconst 1, 1) := by decide +kernel
theorem d_LW_law_479 : decode code 479 = .ok (.iadd, 1) := by decide +kernel
theorem d_LW_law_480 : decode code 480 = .ok (.iaload, 1) := by decide +kernel
theorem d_LW_law_481 : decode code 481 = .ok (.invokevirtual 68, 3) := by decide +kernel
theorem d_LW_law_484 : decode code 484 = .ok (.aload_n 2, 1) := by decide +kernel
theorem d_LW_law_485 : decode code 485 = .ok (.aload_n 0, 1) := by decide +kernel
theorem d_LW_law_486 : decode code 486 = .ok (.iload_n 3, 1) := by decide +kernel
theorem d_LW_law_487 : decode code 487 = .ok (.iconst 1, 1) := by decide +kernel
theorem d_LW_law_488 : decode code 488 = .ok (.iadd, 1) := by decide +kernel
theorem d_LW_law_489 : decode code 489 = .ok (.iaload, 1) := by decide +kernel
theorem d_LW_law_490 : decode code 490 = .ok (.invokevirtual 71, 3) := by decide +kernel
theorem d_LW_law_493 : decode code 493 = .ok (.if_icmp .eq 104, 3) := by decide +kernel
theorem d_LW_law_496 : decode code 496 = .ok (.iconst 0, 1) := by decide +kernel
theorem d_LW_law_497 : decode code 497 = .ok (.ireturn, 1) := by decide +kernel
theorem d_LW_law_498 : decode code 498 = .ok (.aload_n 1, 1) := by decide +kernel
theorem d_LW_law_499 : decode code 499 = .ok (.aload_n 0, 1) := by decide +kernel
theorem d_LW_law_500 : decode code 500 = .ok (.iload_n 3, 1) := by decide +kernel
theorem d_LW_law_501 : decode code 501 = .ok (.iconst 1, 1) := by decide +kernel
theorem d_LW_law_502 : decode code 502 = .ok (.iadd, 1) := by decide +kernel
theorem d_LW_law_503 : decode code 503 = .ok (.iaload, 1) := by decide +kernel
theorem d_LW_law_504 : decode code 504 = .ok (.aload_n 0, 1) := by decide +kernel
theorem d_LW_law_505 : decode code 505 = .ok (.iload_n 3, 1) := by decide +kernel
theorem d_LW_law_506 : decode code 506 = .ok (.iconst 2, 1) := by decide +kernel
theorem d_LW_law_507 : decode code 507 = .ok (.iadd, 1) := by decide +kernel
theorem d_LW_law_508 : decode code 508 = .ok (.iaload, 1) := by decide +kernel
theorem d_LW_law_509 : decode code 509 = .ok (.invokevirtual 72, 3) := by decide +kernel
theorem d_LW_law_512 : decode code 512 = .ok (.aload_n 2, 1) := by decide +kernel
theorem d_LW_law_513 : decode code 513 = .ok (.aload_n 0, 1) := by decide +kernel
theorem d_LW_law_514 : decode code 514 = .ok (.iload_n 3, 1) := by decide +kernel
theorem d_LW_law_515 : decode code 515 = .ok (.iconst 1, 1) := by decide +kernel
theorem d_LW_law_516 : decode code 516 = .ok (.iadd, 1) := by decide +kernel
theorem d_LW_law_517 : decode code 517 = .ok (.iaload, 1) := by decide +kernel
theorem d_LW_law_518 : decode code 518 = .ok (.aload_n 0, 1) := by decide +kernel
theorem d_LW_law_519 : decode code 519 = .ok (.iload_n 3, 1) := by decide +kernel
theorem d_LW_law_520 : decode code 520 = .ok (.iconst 2, 1) := by decide +kernel
theorem d_LW_law_521 : decode code 521 = .ok (.iadd, 1) := by decide +kernel
theorem d_LW_law_522 : decode code 522 = .ok (.iaload, 1) := by decide +kernel
theorem d_LW_law_523 : decode code 523 = .ok (.invokevirtual 75, 3) := by decide +kernel
theorem d_LW_law_526 : decode code 526 = .ok (.if_icmp .eq 71, 3) := by decide +kernel
theorem d_LW_law_529 : decode code 529 = .ok (.iconst 0, 1) := by decide +kernel
theorem d_LW_law_530 : decode code 530 = .ok (.ireturn, 1) := by decide +kernel
theorem d_LW_law_531 : decode code 531 = .ok (.aload_n 1, 1) := by decide +kernel
theorem d_LW_law_532 : decode code 532 = .ok (.aload_n 0, 1) := by decide +kernel
theorem d_LW_law_533 : decode code 533 = .ok (.iload_n 3, 1) := by decide +kernel
theorem d_LW_law_534 : decode code 534 = .ok (.iconst 1, 1) := by decide +kernel
theorem d_LW_law_535 : decode code 535 = .ok (.iadd, 1) := by decide +kernel
theorem d_LW_law_536 : decode code 536 = .ok (.iaload, 1) := by decide +kernel
theorem d_LW_law_537 : decode code 537 = .ok (.aload_n 0, 1) := by decide +kernel
theorem d_LW_law_538 : decode code 538 = .ok (.iload_n 3, 1) := by decide +kernel
theorem d_LW_law_539 : decode code 539 = .ok (.iconst 2, 1) := by decide +kernel
theorem d_LW_law_540 : decode code 540 = .ok (.iadd, 1) := by decide +kernel
theorem d_LW_law_541 : decode code 541 = .ok (.iaload, 1) := by decide +kernel
theorem d_LW_law_542 : decode code 542 = .ok (.invokevirtual 76, 3) := by decide +kernel
theorem d_LW_law_545 : decode code 545 = .ok (.aload_n 2, 1) := by decide +kernel
theorem d_LW_law_546 : decode code 546 = .ok (.aload_n 0, 1) := by decide +kernel
theorem d_LW_law_547 : decode code 547 = .ok (.iload_n 3, 1) := by decide +kernel
theorem d_LW_law_548 : decode code 548 = .ok (.iconst 1, 1) := by decide +kernel
theorem d_LW_law_549 : decode code 549 = .ok (.iadd, 1) := by decide +kernel
theorem d_LW_law_550 : decode code 550 = .ok (.iaload, 1) := by decide +kernel
theorem d_LW_law_551 : decode code 551 = .ok (.aload_n 0, 1) := by decide +kernel
theorem d_LW_law_552 : decode code 552 = .ok (.iload_n 3, 1) := by decide +kernel
theorem d_LW_law_553 : decode code 553 = .ok (.iconst 2, 1) := by decide +kernel
theorem d_LW_law_554 : decode code 554 = .ok (.iadd, 1) := by decide +kernel
theorem d_LW_law_555 : decode code 555 = .ok (.iaload, 1) := by decide +kernel
theorem d_LW_law_556 : decode code 556 = .ok (.invokevirtual 79, 3) := by decide +kernel
theorem d_LW_law_559 : decode code 559 = .ok (.if_icmp .eq 38, 3) := by decide +kernel
theorem d_LW_law_562 : decode code 562 = .ok (.iconst 0, 1) := by decide +kernel
theorem d_LW_law_563 : decode code 563 = .ok (.ireturn, 1) := by decide +kernel
theorem d_LW_law_564 : decode code 564 = .ok (.aload_n 1, 1) := by decide +kernel
theorem d_LW_law_565 : decode code 565 = .ok (.aload_n 0, 1) := by decide +kernel
theorem d_LW_law_566 : decode code 566 = .ok (.iload_n 3, 1) := by decide +kernel
theorem d_LW_law_567 : decode code 567 = .ok (.iconst 1, 1) := by decide +kernel
theorem d_LW_law_568 : decode code 568 = .ok (.iadd, 1) := by decide +kernel
theorem d_LW_law_569 : decode code 569 = .ok (.iaload, 1) := by decide +kernel
theorem d_LW_law_570 : decode code 570 = .ok (.aload_n 0, 1) := by decide +kernel
theorem d_LW_law_571 : decode code 571 = .ok (.iload_n 3, 1) := by decide +kernel
theorem d_LW_law_572 : decode code 572 = .ok (.iconst 2, 1) := by decide +kernel
theorem d_LW_law_573 : decode code 573 = .ok (.iadd, 1) := by decide +kernel
theorem d_LW_law_574 : decode code 574 = .ok (.iaload, 1) := by decide +kernel
theorem d_LW_law_575 : decode code 575 = .ok (.invokevirtual 80, 3) := by decide +kernel
theorem d_LW_law_578 : decode code 578 = .ok (.aload_n 2, 1) := by decide +kernel
theorem d_LW_law_579 : decode code 579 = .ok (.aload_n 0, 1) := by decide +kernel
theorem d_LW_law_580 : decode code 580 = .ok (.iload_n 3, 1) := by decide +kernel
theorem d_LW_law_581 : decode code 581 = .ok (.iconst 1, 1) := by decide +kernel
theorem d_LW_law_582 : decode code 582 = .ok (.iadd, 1) := by decide +kernel
theorem d_LW_law_583 : decode code 583 = .ok (.iaload, 1) := by decide +kernel
theorem d_LW_law_584 : decode code 584 = .ok (.aload_n 0, 1) := by decide +kernel
theorem d_LW_law_585 : decode code 585 = .ok (.iload_n 3, 1) := by decide +kernel
theorem d_LW_law_586 : decode code 586 = .ok (.iconst 2, 1) := by decide +kernel
theorem d_LW_law_587 : decode code 587 = .ok (.iadd, 1) := by decide +kernel
theorem d_LW_law_588 : decode code 588 = .ok (.iaload, 1) := by decide +kernel
theorem d_LW_law_589 : decode code 589 = .ok (.invokevirtual 83, 3) := by decide +kernel
theorem d_LW_law_592 : decode code 592 = .ok (.if_icmp .eq 5, 3) := by decide +kernel
theorem d_LW_law_595 : decode code 595 = .ok (.iconst 0, 1) := by decide +kernel
theorem d_LW_law_596 : decode code 596 = .ok (.ireturn, 1) := by decide +kernel
theorem d_LW_law_597 : decode code 597 = .ok (.iinc 3 3, 3) := by decide +kernel
theorem d_LW_law_600 : decode code 600 = .ok (.goto (-582), 3) := by decide +kernel
theorem d_LW_law_603 : decode code 603 = .ok (.iconst 1, 1) := by decide +kernel
theorem d_LW_law_604 : decode code 604 = .ok (.ireturn, 1) := by decide +kernel
