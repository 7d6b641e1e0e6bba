theorem d_Lw_0 : decode code 0 = .ok (.new 7, 3) := by decide +kernel
theorem d_Lw_3 : decode code 3 = .ok (.dup, 1) := by decide +kernel
theorem d_Lw_4 : decode code 4 = .ok (.invokespecial 9, 3) := by decide +kernel
theorem d_Lw_7 : decode code 7 = .ok (.astore_n 1, 1) := by decide +kernel
theorem d_Lw_8 : decode code 8 = .ok (.new 10, 3) := by decide +kernel
theorem d_Lw_11 : decode code 11 = .ok (.dup, 1) := by decide +kernel
theorem d_Lw_12 : decode code 12 = .ok (.invokespecial 12, 3) := by decide +kernel
theorem d_Lw_15 : decode code 15 = .ok (.astore_n 2, 1) := by decide +kernel
theorem d_Lw_16 : decode code 16 = .ok (.iconst 0, 1) := by decide +kernel
theorem d_Lw_17 : decode code 17 = .ok (.istore_n 3, 1) := by decide +kernel
theorem d_Lw_18 : decode code 18 = .ok (.iload_n 3, 1) := by decide +kernel
theorem d_Lw_19 : decode code 19 = .ok (.aload_n 0, 1) := by decide +kernel
theorem d_Lw_20 : decode code 20 = .ok (.arraylength, 1) := by decide +kernel
theorem d_Lw_21 : decode code 21 = .ok (.iconst 5, 1) := by decide +kernel
theorem d_Lw_22 : decode code 22 = .ok (.isub, 1) := by decide +kernel
theorem d_Lw_23 : decode code 23 = .ok (.if_icmp .gt 501, 3) := by decide +kernel
theorem d_Lw_26 : decode code 26 = .ok (.aload_n 0, 1) := by decide +kernel
theorem d_Lw_27 : decode code 27 = .ok (.iload_n 3, 1) := by decide +kernel
theorem d_Lw_28 : decode code 28 = .ok (.iaload, 1) := by decide +kernel
theorem d_Lw_29 : decode code 29 = .ok (.bipush 15, 2) := by decide +kernel
theorem d_Lw_31 : decode code 31 = .ok (.iand, 1) := by decide +kernel
theorem d_Lw_32 : decode code 32 = .ok (.tableswitch 486 0 13 #[72, 85, 154, 223, 256, 289, 312, 325, 358, 381, 404, 427, 460, 473], 72) := by decide +kernel
theorem d_Lw_104 : decode code 104 = .ok (.aload_n 1, 1) := by decide +kernel
theorem d_Lw_105 : decode code 105 = .ok (.invokevirtual 13, 3) := by decide +kernel
theorem d_Lw_108 : decode code 108 = .ok (.aload_n 2, 1) := by decide +kernel
theorem d_Lw_109 : decode code 109 = .ok (.invokevirtual 17, 3) := by decide +kernel
theorem d_Lw_112 : decode code 112 = .ok (.if_icmp .eq 406, 3) := by decide +kernel
theorem d_Lw_115 : decode code 115 = .ok (.iconst 0, 1) := by decide +kernel
theorem d_Lw_116 : decode code 116 = .ok (.ireturn, 1) := by decide +kernel
theorem d_Lw_117 : decode code 117 = .ok (.aload_n 1, 1) := by decide +kernel
theorem d_Lw_118 : decode code 118 = .ok (.aload_n 0, 1) := by decide +kernel
theorem d_Lw_119 : decode code 119 = .ok (.iload_n 3, 1) := by decide +kernel
theorem d_Lw_120 : decode code 120 = .ok (.iconst 1, 1) := by decide +kernel
theorem d_Lw_121 : decode code 121 = .ok (.iadd, 1) := by decide +kernel
theorem d_Lw_122 : decode code 122 = .ok (.iaload, 1) := by decide +kernel
theorem d_Lw_123 : decode code 123 = .ok (.aload_n 0, 1) := by decide +kernel
theorem d_Lw_124 : decode code 124 = .ok (.iload_n 3, 1) := by decide +kernel
theorem d_Lw_125 : decode code 125 = .ok (.iconst 2, 1) := by decide +kernel
theorem d_Lw_126 : decode code 126 = .ok (.iadd, 1) := by decide +kernel
theorem d_Lw_127 : decode code 127 = .ok (.iaload, 1) := by decide +kernel
theorem d_Lw_128 : decode code 128 = .ok (.aload_n 0, 1) := by decide +kernel
theorem d_Lw_129 : decode code 129 = .ok (.iload_n 3, 1) := by decide +kernel
theorem d_Lw_130 : decode code 130 = .ok (.iconst 3, 1) := by decide +kernel
theorem d_Lw_131 : decode code 131 = .ok (.iadd, 1) := by decide +kernel
theorem d_Lw_132 : decode code 132 = .ok (.iaload, 1) := by decide +kernel
theorem d_Lw_133 : decode code 133 = .ok (.aload_n 0, 1) := by decide +kernel
theorem d_Lw_134 : decode code 134 = .ok (.iload_n 3, 1) := by decide +kernel
theorem d_Lw_135 : decode code 135 = .ok (.iconst 4, 1) := by decide +kernel
theorem d_Lw_136 : decode code 136 = .ok (.iadd, 1) := by decide +kernel
theorem d_Lw_137 : decode code 137 = .ok (.iaload, 1) := by decide +kernel
theorem d_Lw_138 : decode code 138 = .ok (.ifCond .eq 7, 3) := by decide +kernel
theorem d_Lw_141 : decode code 141 = .ok (.iconst 1, 1) := by decide +kernel
theorem d_Lw_142 : decode code 142 = .ok (.goto 4, 3) := by decide +kernel
theorem d_Lw_145 : decode code 145 = .ok (.iconst 0, 1) := by decide +kernel
theorem d_Lw_146 : decode code 146 = .ok (.invokevirtual 18, 3) := by decide +kernel
theorem d_Lw_149 : decode code 149 = .ok (.aload_n 2, 1) := by decide +kernel
theorem d_Lw_150 : decode code 150 = .ok (.aload_n 0, 1) := by decide +kernel
theorem d_Lw_151 : decode code 151 = .ok (.iload_n 3, 1) := by decide +kernel
theorem d_Lw_152 : decode code 152 = .ok (.iconst 1, 1) := by decide +kernel
theorem d_Lw_153 : decode code 153 = .ok (.iadd, 1) := by decide +kernel
theorem d_Lw_154 : decode code 154 = .ok (.iaload, 1) := by decide +kernel
theorem d_Lw_155 : decode code 155 = .ok (.aload_n 0, 1) := by decide +kernel
theorem d_Lw_156 : decode code 156 = .ok (.iload_n 3, 1) := by decide +kernel
theorem d_Lw_157 : decode code 157 = .ok (.iconst 2, 1) := by decide +kernel
theorem d_Lw_158 : decode code 158 = .ok (.iadd, 1) := by decide +kernel
theorem d_Lw_159 : decode code 159 = .ok (.iaload, 1) := by decide +kernel
theorem d_Lw_160 : decode code 160 = .ok (.aload_n 0, 1) := by decide +kernel
theorem d_Lw_161 : decode code 161 = .ok (.iload_n 3, 1) := by decide +kernel
theorem d_Lw_162 : decode code 162 = .ok (.iconst 3, 1) := by decide +kernel
theorem d_Lw_163 : decode code 163 = .ok (.iadd, 1) := by decide +kernel
theorem d_Lw_164 : decode code 164 = .ok (.iaload, 1) := by decide +kernel
theorem d_Lw_165 : decode code 165 = .ok (.aload_n 0, 1) := by decide +kernel
theorem d_Lw_166 : decode code 166 = .ok (.iload_n 3, 1) := by decide +kernel
theorem d_Lw_167 : decode code 167 = .ok (.iconst 4, 1) := by decide +kernel
theorem d_Lw_168 : decode code 168 = .ok (.iadd, 1) := by decide +kernel
theorem d_Lw_169 : decode code 169 = .ok (.iaload, 1) := by decide +kernel
theorem d_Lw_170 : decode code 170 = .ok (.ifCond .eq 7, 3) := by decide +kernel
theorem d_Lw_173 : decode code 173 = .ok (.iconst 1, 1) := by decide +kernel
theorem d_Lw_174 : decode code 174 = .ok (.goto 4, 3) := by decide +kernel
theorem d_Lw_177 : decode code 177 = .ok (.iconst 0, 1) := by decide +kernel
theorem d_Lw_178 : decode code 178 = .ok (.invokevirtual 22, 3) := by decide +kernel
theorem d_Lw_181 : decode code 181 = .ok (.if_icmp .eq 337, 3) := by decide +kernel
theorem d_Lw_184 : decode code 184 = .ok (.iconst 0, 1) := by decide +kernel
theorem d_Lw_185 : decode code 185 = .ok (.ireturn, 1) := by decide +kernel
theorem d_Lw_186 : decode code 186 = .ok (.aload_n 1, 1) := by decide +kernel
theorem d_Lw_187 : decode code 187 = .ok (.aload_n 0, 1) := by decide +kernel
theorem d_Lw_188 : decode code 188 = .ok (.iload_n 3, 1) := by decide +kernel
theorem d_Lw_189 : decode code 189 = .ok (.iconst 1, 1) := by decide +kernel
theorem d_Lw_190 : decode code 190 = .ok (.iadd, 1) := by decide +kernel
theorem d_Lw_191 : decode code 191 = .ok (.iaload, 1) := by decide +kernel
theorem d_Lw_192 : decode code 192 = .ok (.aload_n 0, 1) := by decide +kernel
theorem d_Lw_193 : decode code 193 = .ok (.iload_n 3, 1) := by decide +kernel
theorem d_Lw_194 : decode code 194 = .ok (.iconst 2, 1) := by decide +kernel
theorem d_Lw_195 : decode code 195 = .ok (.iadd, 1) := by decide +kernel
theorem d_Lw_196 : decode code 196 = .ok (.iaload, 1) := by decide +kernel
theorem d_Lw_197 : decode code 197 = .ok (.aload_n 0, 1) := by decide +kernel
theorem d_Lw_198 : decode code 198 = .ok (.iload_n 3, 1) := by decide +kernel
theorem d_Lw_199 : decode code 199 = .ok (.iconst 3, 1) := by decide +kernel
theorem d_Lw_200 : decode code 200 = .ok (.iadd, 1) := by decide +kernel
theorem d_Lw_201 : decode code 201 = .ok (.iaload, 1) := by decide +kernel
theorem d_Lw_202 : decode code 202 = .ok (.aload_n 0, 1) := by decide +kernel
theorem d_Lw_203 : decode code 203 = .ok (.iload_n 3, 1) := by decide +kernel
theorem d_Lw_204 : decode code 204 = .ok (.iconst 4, 1) := by decide +kernel
theorem d_Lw_205 : decode code 205 = .ok (.iadd, 1) := by decide +kernel
theorem d_Lw_206 : decode code 206 = .ok (.iaload, 1) := by decide +kernel
theorem d_Lw_207 : decode code 207 = .ok (.ifCond .eq 7, 3) := by decide +kernel
theorem d_Lw_210 : decode code 210 = .ok (.iconst 1, 1) := by decide +kernel
theorem d_Lw_211 : decode code 211 = .ok (.goto 4, 3) := by decide +kernel
theorem d_Lw_214 : decode code 214 = .ok (.iconst 0, 1) := by decide +kernel
theorem d_Lw_215 : decode code 215 = .ok (.invokevirtual 23, 3) := by decide +kernel
theorem d_Lw_218 : decode code 218 = .ok (.aload_n 2, 1) := by decide +kernel
theorem d_Lw_219 : decode code 219 = .ok (.aload_n 0, 1) := by decide +kernel
theorem d_Lw_220 : decode code 220 = .ok (.iload_n 3, 1) := by decide +kernel
theorem d_Lw_221 : decode code 221 = .ok (.iconst 1, 1) := by decide +kernel
theorem d_Lw_222 : decode code 222 = .ok (.iadd, 1) := by decide +kernel
theorem d_Lw_223 : decode code 223 = .ok (.iaload, 1) := by decide +kernel
theorem d_Lw_224 : decode code 224 = .ok (.aload_n 0, 1) := by decide +kernel
theorem d_Lw_225 : decode code 225 = .ok (.iload_n 3, 1) := by decide +kernel
theorem d_Lw_226 : decode code 226 = .ok (.iconst 2, 1) := by decide +kernel
theorem d_Lw_227 : decode code 227 = .ok (.iadd, 1) := by decide +kernel
theorem d_Lw_228 : decode code 228 = .ok (.iaload, 1) := by decide +kernel
theorem d_Lw_229 : decode code 229 = .ok (.aload_n 0, 1) := by decide +kernel
theorem d_Lw_230 : decode code 230 = .ok (.iload_n 3, 1) := by decide +kernel
theorem d_Lw_231 : decode code 231 = .ok (.iconst 3, 1) := by decide +kernel
theorem d_Lw_232 : decode code 232 = .ok (.iadd, 1) := by decide +kernel
theorem d_Lw_233 : decode code 233 = .ok (.iaload, 1) := by decide +kernel
theorem d_Lw_234 : decode code 234 = .ok (.aload_n 0, 1) := by decide +kernel
theorem d_Lw_235 : decode code 235 = .ok (.iload_n 3, 1) := by decide +kernel
theorem d_Lw_236 : decode code 236 = .ok (.iconst 4, 1) := by decide +kernel
theorem d_Lw_237 : decode code 237 = .ok (.iadd, 1) := by decide +kernel
theorem d_Lw_238 : decode code 238 = .ok (.iaload, 1) := by decide +kernel
theorem d_Lw_239 : decode code 239 = .ok (.ifCond .eq 7, 3) := by decide +kernel
theorem d_Lw_242 : decode code 242 = .ok (.iconst 1, 1) := by decide +kernel
theorem d_Lw_243 : decode code 243 = .ok (.goto 4, 3) := by decide +kernel
theorem d_Lw_246 : decode code 246 = .ok (.iconst 0, 1) := by decide +kernel
theorem d_Lw_247 : decode code 247 = .ok (.invokevirtual 26, 3) := by decide +kernel
theorem d_Lw_250 : decode code 250 = .ok (.if_icmp .eq 268, 3) := by decide +kernel
theorem d_Lw_253 : decode code 253 = .ok (.iconst 0, 1) := by decide +kernel
theorem d_Lw_254 : decode code 254 = .ok (.ireturn, 1) := by decide +kernel
theorem d_Lw_255 : decode code 255 = .ok (.aload_n 1, 1) := by decide +kernel
theorem d_Lw_256 : decode code 256 = .ok (.aload_n 0, 1) := by decide +kernel
theorem d_Lw_257 : decode code 257 = .ok (.iload_n 3, 1) := by decide +kernel
theorem d_Lw_258 : decode code 258 = .ok (.iconst 1, 1) := by decide +kernel
theorem d_Lw_259 : decode code 259 = .ok (.iadd, 1) := by decide +kernel
theorem d_Lw_260 : decode code 260 = .ok (.iaload, 1) := by decide +kernel
theorem d_Lw_261 : decode code 261 = .ok (.aload_n 0, 1) := by decide +kernel
theorem d_Lw_262 : decode code 262 = .ok (.iload_n 3, 1) := by decide +kernel
theorem d_Lw_263 : decode code 263 = .ok (.iconst 2, 1) := by decide +kernel
theorem d_Lw_264 : decode code 264 = .ok (.iadd, 1) := by decide +kernel
theorem d_Lw_265 : decode code 265 = .ok (.iaload, 1) := by decide +kernel
theorem d_Lw_266 : decode code 266 = .ok (.invokevirtual 27, 3) := by decide +kernel
theorem d_Lw_269 : decode code 269 = .ok (.aload_n 2, 1) := by decide +kernel
theorem d_Lw_270 : decode code 270 = .ok (.aload_n 0, 1) := by decide +kernel
theorem d_Lw_271 : decode code 271 = .ok (.iload_n 3, 1) := by decide +kernel
theorem d_Lw_272 : decode code 272 = .ok (.iconst 1, 1) := by decide +kernel
theorem d_Lw_273 : decode code 273 = .ok (.iadd, 1) := by decide +kernel
theorem d_Lw_274 : decode code 274 = .ok (.iaload, 1) := by decide +kernel
theorem d_Lw_275 : decode code 275 = .ok (.aload_n 0, 1) := by decide +kernel
theorem d_Lw_276 : decode code 276 = .ok (.iload_n 3, 1) := by decide +kernel
theorem d_Lw_277 : decode code 277 = .ok (.iconst 2, 1) := by decide +kernel
theorem d_Lw_278 : decode code 278 = .ok (.iadd, 1) := by decide +kernel
theorem d_Lw_279 : decode code 279 = .ok (.iaload, 1) := by decide +kernel
theorem d_Lw_280 : decode code 280 = .ok (.invokevirtual 31, 3) := by decide +kernel
theorem d_Lw_283 : decode code 283 = .ok (.if_icmp .eq 235, 3) := by decide +kernel
theorem d_Lw_286 : decode code 286 = .ok (.iconst 0, 1) := by decide +kernel
theorem d_Lw_287 : decode code 287 = .ok (.ireturn, 1) := by decide +kernel
theorem d_Lw_288 : decode code 288 = .ok (.aload_n 1, 1) := by decide +kernel
theorem d_Lw_289 : decode code 289 = .ok (.aload_n 0, 1) := by decide +kernel
theorem d_Lw_290 : decode code 290 = .ok (.iload_n 3, 1) := by decide +kernel
theorem d_Lw_291 : decode code 291 = .ok (.iconst 1, 1) := by decide +kernel
theorem d_Lw_292 : decode code 292 = .ok (.iadd, 1) := by decide +kernel
theorem d_Lw_293 : decode code 293 = .ok (.iaload, 1) := by decide +kernel
theorem d_Lw_294 : decode code 294 = .ok (.aload_n 0, 1) := by decide +kernel
theorem d_Lw_295 : decode code 295 = .ok (.iload_n 3, 1) := by decide +kernel
theorem d_Lw_296 : decode code 296 = .ok (.iconst 2, 1) := by decide +kernel
theorem d_Lw_297 : decode code 297 = .ok (.iadd, 1) := by decide +kernel
theorem d_Lw_298 : decode code 298 = .ok (.iaload, 1) := by decide +kernel
theorem d_Lw_299 : decode code 299 = .ok (.invokevirtual 32, 3) := by decide +kernel
theorem d_Lw_302 : decode code 302 = .ok (.aload_n 2, 1) := by decide +kernel
theorem d_Lw_303 : decode code 303 = .ok (.aload_n 0, 1) := by decide +kernel
theorem d_Lw_304 : decode code 304 = .ok (.iload_n 3, 1) := by decide +kernel
theorem d_Lw_305 : decode code 305 = .ok (.iconst 1, 1) := by decide +kernel
theorem d_Lw_306 : decode code 306 = .ok (.iadd, 1) := by decide +kernel
theorem d_Lw_307 : decode code 307 = .ok (.iaload, 1) := by decide +kernel
theorem d_Lw_308 : decode code 308 = .ok (.aload_n 0, 1) := by decide +kernel
theorem d_Lw_309 : decode code 309 = .ok (.iload_n 3, 1) := by decide +kernel
theorem d_Lw_310 : decode code 310 = .ok (.iconst 2, 1) := by decide +kernel
theorem d_Lw_311 : decode code 311 = .ok (.iadd, 1) := by decide +kernel
theorem d_Lw_312 : decode code 312 = .ok (.iaload, 1) := by decide +kernel
theorem d_Lw_313 : decode code 313 = .ok (.invokevirtual 35, 3) := by decide +kernel
theorem d_Lw_316 : decode code 316 = .ok (.if_icmp .eq 202, 3) := by decide +kernel
theorem d_Lw_319 : decode code 319 = .ok (.iconst 0, 1) := by decide +kernel
theorem d_Lw_320 : decode code 320 = .ok (.ireturn, 1) := by decide +kernel
theorem d_Lw_321 : decode code 321 = .ok (.aload_n 1, 1) := by decide +kernel
theorem d_Lw_322 : decode code 322 = .ok (.aload_n 0, 1) := by decide +kernel
theorem d_Lw_323 : decode code 323 = .ok (.iload_n 3, 1) := by decide +kernel
theorem d_Lw_324 : decode code 324 = .ok (.iconst 1, 1) := by decide +kernel
theorem d_Lw_325 : decode code 325 = .ok (.iadd, 1) := by decide +kernel
theorem d_Lw_326 : decode code 326 = .ok (.iaload, 1) := by decide +kernel
theorem d_Lw_327 : decode code 327 = .ok (.invokevirtual 36, 3) := by decide +kernel
theorem d_Lw_330 : decode code 330 = .ok (.aload_n 2, 1) := by decide +kernel
theorem d_Lw_331 : decode code 331 = .ok (.aload_n 0, 1) := by decide +kernel
theorem d_Lw_332 : decode code 332 = .ok (.iload_n 3, 1) := by decide +kernel
theorem d_Lw_333 : decode code 333 = .ok (.iconst 1, 1) := by decide +kernel
theorem d_Lw_334 : decode code 334 = .ok (.iadd, 1) := by decide +kernel
theorem d_Lw_335 : decode code 335 = .ok (.iaload, 1) := by decide +kernel
theorem d_Lw_336 : decode code 336 = .ok (.invokevirtual 40, 3) := by decide +kernel
theorem d_Lw_339 : decode code 339 = .ok (.if_icmp .eq 179, 3) := by decide +kernel
theorem d_Lw_342 : decode code 342 = .ok (.iconst 0, 1) := by decide +kernel
theorem d_Lw_343 : decode code 343 = .ok (.ireturn, 1) := by decide +kernel
theorem d_Lw_344 : decode code 344 = .ok (.aload_n 1, 1) := by decide +kernel
theorem d_Lw_345 : decode code 345 = .ok (.invokevirtual 41, 3) := by decide +kernel
theorem d_Lw_348 : decode code 348 = .ok (.aload_n 2, 1) := by decide +kernel
theorem d_Lw_349 : decode code 349 = .ok (.invokevirtual 44, 3) := by decide +kernel
theorem d_Lw_352 : decode code 352 = .ok (.if_icmp .eq 166, 3) := by decide +kernel
theorem d_Lw_355 : decode code 355 = .ok (.iconst 0, 1) := by decide +kernel
theorem d_Lw_356 : decode code 356 = .ok (.ireturn, 1) := by decide +kernel
theorem d_Lw_357 : decode code 357 = .ok (.aload_n 1, 1) := by decide +kernel
theorem d_Lw_358 : decode code 358 = .ok (.aload_n 0, 1) := by decide +kernel
theorem d_Lw_359 : decode code 359 = .ok (.iload_n 3, 1) := by decide +kernel
theorem d_Lw_360 : decode code 360 = .ok (.iconst 1, 1) := by decide +kernel
theorem d_Lw_361 : decode code 361 = .ok (.iadd, 1) := by decide +kernel
theorem d_Lw_362 : decode code 362 = .ok (.iaload, 1) := by decide +kernel
theorem d_Lw_363 : decode code 363 = .ok (.aload_n 0, 1) := by decide +kernel
theorem d_Lw_364 : decode code 364 = .ok (.iload_n 3, 1) := by decide +kernel
theorem d_Lw_365 : decode code 365 = .ok (.iconst 2, 1) := by decide +kernel
theorem d_Lw_366 : decode code 366 = .ok (.iadd, 1) := by decide +kernel
theorem d_Lw_367 : decode code 367 = .ok (.iaload, 1) := by decide +kernel
theorem d_Lw_368 : decode code 368 = .ok (.invokevirtual 45, 3) := by decide +kernel
theorem d_Lw_371 : decode code 371 = .ok (.aload_n 2, 1) := by decide +kernel
theorem d_Lw_372 : decode code 372 = .ok (.aload_n 0, 1) := by decide +kernel
theorem d_Lw_373 : decode code 373 = .ok (.iload_n 3, 1) := by decide +kernel
theorem d_Lw_374 : decode code 374 = .ok (.iconst 1, 1) := by decide +kernel
theorem d_Lw_375 : decode code 375 = .ok (.iadd, 1) := by decide +kernel
theorem d_Lw_376 : decode code 376 = .ok (.iaload, 1) := by decide +kernel
theorem d_Lw_377 : decode code 377 = .ok (.aload_n 0, 1) := by decide +kernel
theorem d_Lw_378 : decode code 378 = .ok (.iload_n 3, 1) := by decide +kernel
theorem d_Lw_379 : decode code 379 = .ok (.iconst 2, 1) := by decide +kernel
theorem d_Lw_380 : decode code 380 = .ok (.iadd, 1) := by decide +kernel
theorem d_Lw_381 : decode code 381 = .ok (.iaload, 1) := by decide +kernel
theorem d_Lw_382 : decode code 382 = .ok (.invokevirtual 48, 3) := by decide +kernel
theorem d_Lw_385 : decode code 385 = .ok (.if_icmp .eq 133, 3) := by decide +kernel
theorem d_Lw_388 : decode code 388 = .ok (.iconst 0, 1) := by decide +kernel
theorem d_Lw_389 : decode code 389 = .ok (.ireturn, 1) := by decide +kernel
theorem d_Lw_390 : decode code 390 = .ok (.aload_n 1, 1) := by decide +kernel
theorem d_Lw_391 : decode code 391 = .ok (.aload_n 0, 1) := by decide +kernel
theorem d_Lw_392 : decode code 392 = .ok (.iload_n 3, 1) := by decide +kernel
theorem d_Lw_393 : decode code 393 = .ok (.iconst 1, 1) := by decide +kernel
theorem d_Lw_394 : decode code 394 = .ok (.iadd, 1) := by decide +kernel
theorem d_Lw_395 : decode code 395 = .ok (.iaload, 1) := by decide +kernel
theorem d_Lw_396 : decode code 396 = .ok (.invokevirtual 49, 3) := by decide +kernel
theorem d_Lw_399 : decode code 399 = .ok (.aload_n 2, 1) := by decide +kernel
theorem d_Lw_400 : decode code 400 = .ok (.aload_n 0, 1) := by decide +kernel
theorem d_Lw_401 : decode code 401 = .ok (.iload_n 3, 1) := by decide +kernel
theorem d_Lw_402 : decode code 402 = .ok (.iconst 1, 1) := by decide +kernel
theorem d_Lw_403 : decode code 403 = .ok (.iadd, 1) := by decide +kernel
theorem d_Lw_404 : decode code 404 = .ok (.iaload, 1) := by decide +kernel
theorem d_Lw_405 : decode code 405 = .ok (.invokevirtual 52, 3) := by decide +kernel
theorem d_Lw_408 : decode code 408 = .ok (.if_icmp .eq 110, 3) := by decide +kernel
theorem d_Lw_411 : decode code 411 = .ok (.iconst 0, 1) := by decide +kernel
theorem d_Lw_412 : decode code 412 = .ok (.ireturn, 1) := by decide +kernel
theorem d_Lw_413 : decode code 413 = .ok (.aload_n 1, 1) := by decide +kernel
theorem d_Lw_414 : decode code 414 = .ok (.aload_n 0, 1) := by decide +kernel
theorem d_Lw_415 : decode code 415 = .ok (.iload_n 3, 1) := by decide +kernel
theorem d_Lw_416 : decode code 416 = .ok (.iconst 1, 1) := by decide +kernel
theorem d_Lw_417 : decode code 417 = .ok (.iadd, 1) := by decide +kernel
theorem d_Lw_418 : decode code 418 = .ok (.iaload, 1) := by decide +kernel
theorem d_Lw_419 : decode code 419 = .ok (.invokevirtual 53, 3) := by decide +kernel
theorem d_Lw_422 : decode code 422 = .ok (.aload_n 2, 1) := by decide +kernel
theorem d_Lw_423 : decode code 423 = .ok (.aload_n 0, 1) := by decide +kernel
theorem d_Lw_424 : decode code 424 = .ok (.iload_n 3, 1) := by decide +kernel
theorem d_Lw_425 : decode code 425 = .ok (.iconst 1, 1) := by decide +kernel
theorem d_Lw_426 : decode code 426 = .ok (.iadd, 1) := by decide +kernel
theorem d_Lw_427 : decode code 427 = .ok (.iaload, 1) := by decide +kernel
theorem d_Lw_428 : decode code 428 = .ok (.invokevirtual 56, 3) := by decide +kernel
theorem d_Lw_431 : decode code 431 = .ok (.if_icmp .eq 87, 3) := by decide +kernel
theorem d_Lw_434 : decode code 434 = .ok (.iconst 0, 1) := by decide +kernel
theorem d_Lw_435 : decode code 435 = .ok (.ireturn, 1) := by decide +kernel
theorem d_Lw_436 : decode code 436 = .ok (.aload_n 1, 1) := by decide +kernel
theorem d_Lw_437 : decode code 437 = .ok (.aload_n 0, 1) := by decide +kernel
theorem d_Lw_438 : decode code 438 = .ok (.iload_n 3, 1) := by decide +kernel
theorem d_Lw_439 : decode code 439 = .ok (.iconst 1, 1) := by decide +kernel
theorem d_Lw_440 : decode code 440 = .ok (.iadd, 1) := by decide +kernel
theorem d_Lw_441 : decode code 441 = .ok (.iaload, 1) := by decide +kernel
theorem d_Lw_442 : decode code 442 = .ok (.invokevirtual 57, 3) := by decide +kernel
theorem d_Lw_445 : decode code 445 = .ok (.aload_n 2, 1) := by decide +kernel
theorem d_Lw_446 : decode code 446 = .ok (.aload_n 0, 1) := by decide +kernel
theorem d_Lw_447 : decode code 447 = .ok (.iload_n 3, 1) := by decide +kernel
theorem d_Lw_448 : decode code 448 = .ok (.iconst 1, 1) := by decide +kernel
theorem d_Lw_449 : decode code 449 = .ok (.iadd, 1) := by decide +kernel
theorem d_Lw_450 : decode code 450 = .ok (.iaload, 1) := by decide +kernel
theorem d_Lw_451 : decode code 451 = .ok (.invokevirtual 60, 3) := by decide +kernel
theorem d_Lw_454 : decode code 454 = .ok (.if_icmp .eq 64, 3) := by decide +kernel
theorem d_Lw_457 : decode code 457 = .ok (.iconst 0, 1) := by decide +kernel
theorem d_Lw_458 : decode code 458 = .ok (.ireturn, 1) := by decide +kernel
theorem d_Lw_459 : decode code 459 = .ok (.aload_n 1, 1) := by decide +kernel
theorem d_Lw_460 : decode code 460 = .ok (.aload_n 0, 1) := by decide +kernel
theorem d_Lw_461 : decode code 461 = .ok (.iload_n 3, 1) := by decide +kernel
theorem d_Lw_462 : decode code 462 = .ok (.iconst 1, 1) := by decide +kernel
theorem d_Lw_463 : decode code 463 = .ok (.iadd, 1) := by decide +kernel
theorem d_Lw_464 : decode code 464 = .ok (.iaload, 1) := by decide +kernel
theorem d_Lw_465 : decode code 465 = .ok (.aload_n 0, 1) := by decide +kernel
theorem d_Lw_466 : decode code 466 = .ok (.iload_n 3, 1) := by decide +kernel
theorem d_Lw_467 : decode code 467 = .ok (.iconst 2, 1) := by decide +kernel
theorem d_Lw_468 : decode code 468 = .ok (.iadd, 1) := by decide +kernel
theorem d_Lw_469 : decode code 469 = .ok (.iaload, 1) := by decide +kernel
theorem d_Lw_470 : decode code 470 = .ok (.invokevirtual 61, 3) := by decide +kernel
theorem d_Lw_473 : decode code 473 = .ok (.aload_n 2, 1) := by decide +kernel
theorem d_Lw_474 : decode code 474 = .ok (.aload_n 0, 1) := by decide +kernel
theorem d_Lw_475 : decode code 475 = .ok (.iload_n 3, 1) := by decide +kernel
theorem d_Lw_476 : decode code 476 = .ok (.iconst 1, 1) := by decide +kernel
theorem d_Lw_477 : decode code 477 = .ok (.iadd, 1) := by decide +kernel
theorem d_Lw_478 : decode code 478 = .ok (.iaload, 1) := by decide +kernel
theorem d_Lw_479 : decode code 479 = .ok (.aload_n 0, 1) := by decide +kernel
theorem d_Lw_480 : decode code 480 = .ok (.iload_n 3, 1) := by decide +kernel
theorem d_Lw_481 : decode code 481 = .ok (.iconst 2, 1) := by decide +kernel
theorem d_Lw_482 : decode code 482 = .ok (.iadd, 1) := by decide +kernel
theorem d_Lw_483 : decode code 483 = .ok (.iaload, 1) := by decide +kernel
theorem d_Lw_484 : decode code 484 = .ok (.invokevirtual 64, 3) := by decide +kernel
theorem d_Lw_487 : decode code 487 = .ok (.if_icmp .eq 31, 3) := by decide +kernel
theorem d_Lw_490 : decode code 490 = .ok (.iconst 0, 1) := by decide +kernel
theorem d_Lw_491 : decode code 491 = .ok (.ireturn, 1) := by decide +kernel
theorem d_Lw_492 : decode code 492 = .ok (.aload_n 1, 1) := by decide +kernel
theorem d_Lw_493 : decode code 493 = .ok (.invokevirtual 65, 3) := by decide +kernel
theorem d_Lw_496 : decode code 496 = .ok (.aload_n 2, 1) := by decide +kernel
theorem d_Lw_497 : decode code 497 = .ok (.invokevirtual 68, 3) := by decide +kernel
theorem d_Lw_500 : decode code 500 = .ok (.if_icmp .eq 18, 3) := by decide +kernel
theorem d_Lw_503 : decode code 503 = .ok (.iconst 0, 1) := by decide +kernel
theorem d_Lw_504 : decode code 504 = .ok (.ireturn, 1) := by decide +kernel
theorem d_Lw_505 : decode code 505 = .ok (.aload_n 1, 1) := by decide +kernel
theorem d_Lw_506 : decode code 506 = .ok (.invokevirtual 69, 3) := by decide +kernel
theorem d_Lw_509 : decode code 509 = .ok (.aload_n 2, 1) := by decide +kernel
theorem d_Lw_510 : decode code 510 = .ok (.invokevirtual 72, 3) := by decide +kernel
theorem d_Lw_513 : decode code 513 = .ok (.if_icmp .eq 5, 3) := by decide +kernel
theorem d_Lw_516 : decode code 516 = .ok (.iconst 0, 1) := by decide +kernel
theorem d_Lw_517 : decode code 517 = .ok (.ireturn, 1) := by decide +kernel
theorem d_Lw_518 : decode code 518 = .ok (.iinc 3 5, 3) := by decide +kernel
theorem d_Lw_521 : decode code 521 = .ok (.goto (-503), 3) := by decide +kernel
theorem d_Lw_524 : decode code 524 = .ok (.iconst 1, 1) := by decide +kernel
theorem d_Lw_525 : decode code 525 = .ok (.ireturn, 1) := by decide +kernel
