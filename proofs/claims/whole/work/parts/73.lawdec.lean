theorem dd_W_law_0 : decode code 0 = .ok (.new 7, 3) := by decide +kernel
theorem dd_W_law_3 : decode code 3 = .ok (.dup, 1) := by decide +kernel
theorem dd_W_law_4 : decode code 4 = .ok (.invokespecial 9, 3) := by decide +kernel
theorem dd_W_law_7 : decode code 7 = .ok (.astore_n 1, 1) := by decide +kernel
theorem dd_W_law_8 : decode code 8 = .ok (.new 10, 3) := by decide +kernel
theorem dd_W_law_11 : decode code 11 = .ok (.dup, 1) := by decide +kernel
theorem dd_W_law_12 : decode code 12 = .ok (.invokespecial 12, 3) := by decide +kernel
theorem dd_W_law_15 : decode code 15 = .ok (.astore_n 2, 1) := by decide +kernel
theorem dd_W_law_16 : decode code 16 = .ok (.iconst 0, 1) := by decide +kernel
theorem dd_W_law_17 : decode code 17 = .ok (.istore_n 3, 1) := by decide +kernel
theorem dd_W_law_18 : decode code 18 = .ok (.iload_n 3, 1) := by decide +kernel
theorem dd_W_law_19 : decode code 19 = .ok (.aload_n 0, 1) := by decide +kernel
theorem dd_W_law_20 : decode code 20 = .ok (.arraylength, 1) := by decide +kernel
theorem dd_W_law_21 : decode code 21 = .ok (.bipush 7, 2) := by decide +kernel
theorem dd_W_law_23 : decode code 23 = .ok (.isub, 1) := by decide +kernel
theorem dd_W_law_24 : decode code 24 = .ok (.if_icmp .gt 486, 3) := by decide +kernel
theorem dd_W_law_27 : decode code 27 = .ok (.aload_n 0, 1) := by decide +kernel
theorem dd_W_law_28 : decode code 28 = .ok (.iload_n 3, 1) := by decide +kernel
theorem dd_W_law_29 : decode code 29 = .ok (.iaload, 1) := by decide +kernel
theorem dd_W_law_30 : decode code 30 = .ok (.bipush 15, 2) := by decide +kernel
theorem dd_W_law_32 : decode code 32 = .ok (.iand, 1) := by decide +kernel
theorem dd_W_law_33 : decode code 33 = .ok (.tableswitch 471 0 9 #[55, 66, 155, 218, 333, 346, 369, 392, 415, 448], 55) := by decide +kernel
theorem dd_W_law_88 : decode code 88 = .ok (.aload_n 1, 1) := by decide +kernel
theorem dd_W_law_89 : decode code 89 = .ok (.invokevirtual 13, 3) := by decide +kernel
theorem dd_W_law_92 : decode code 92 = .ok (.aload_n 2, 1) := by decide +kernel
theorem dd_W_law_93 : decode code 93 = .ok (.invokevirtual 16, 3) := by decide +kernel
theorem dd_W_law_96 : decode code 96 = .ok (.goto 408, 3) := by decide +kernel
theorem dd_W_law_99 : decode code 99 = .ok (.aload_n 1, 1) := by decide +kernel
theorem dd_W_law_100 : decode code 100 = .ok (.aload_n 0, 1) := by decide +kernel
theorem dd_W_law_101 : decode code 101 = .ok (.iload_n 3, 1) := by decide +kernel
theorem dd_W_law_102 : decode code 102 = .ok (.iconst 1, 1) := by decide +kernel
theorem dd_W_law_103 : decode code 103 = .ok (.iadd, 1) := by decide +kernel
theorem dd_W_law_104 : decode code 104 = .ok (.iaload, 1) := by decide +kernel
theorem dd_W_law_105 : decode code 105 = .ok (.ifCond .eq 7, 3) := by decide +kernel
theorem dd_W_law_108 : decode code 108 = .ok (.iconst 1, 1) := by decide +kernel
theorem dd_W_law_109 : decode code 109 = .ok (.goto 4, 3) := by decide +kernel
theorem dd_W_law_112 : decode code 112 = .ok (.iconst 0, 1) := by decide +kernel
theorem dd_W_law_113 : decode code 113 = .ok (.aload_n 0, 1) := by decide +kernel
theorem dd_W_law_114 : decode code 114 = .ok (.iload_n 3, 1) := by decide +kernel
theorem dd_W_law_115 : decode code 115 = .ok (.iconst 2, 1) := by decide +kernel
theorem dd_W_law_116 : decode code 116 = .ok (.iadd, 1) := by decide +kernel
theorem dd_W_law_117 : decode code 117 = .ok (.iaload, 1) := by decide +kernel
theorem dd_W_law_118 : decode code 118 = .ok (.i2l, 1) := by decide +kernel
theorem dd_W_law_119 : decode code 119 = .ok (.bipush 32, 2) := by decide +kernel
theorem dd_W_law_121 : decode code 121 = .ok (.lshl, 1) := by decide +kernel
theorem dd_W_law_122 : decode code 122 = .ok (.aload_n 0, 1) := by decide +kernel
theorem dd_W_law_123 : decode code 123 = .ok (.iload_n 3, 1) := by decide +kernel
theorem dd_W_law_124 : decode code 124 = .ok (.iconst 3, 1) := by decide +kernel
theorem dd_W_law_125 : decode code 125 = .ok (.iadd, 1) := by decide +kernel
theorem dd_W_law_126 : decode code 126 = .ok (.iaload, 1) := by decide +kernel
theorem dd_W_law_127 : decode code 127 = .ok (.i2l, 1) := by decide +kernel
theorem dd_W_law_128 : decode code 128 = .ok (.ldc2_w 17, 3) := by decide +kernel
theorem dd_W_law_131 : decode code 131 = .ok (.land, 1) := by decide +kernel
theorem dd_W_law_132 : decode code 132 = .ok (.lor, 1) := by decide +kernel
theorem dd_W_law_133 : decode code 133 = .ok (.aload_n 0, 1) := by decide +kernel
theorem dd_W_law_134 : decode code 134 = .ok (.iload_n 3, 1) := by decide +kernel
theorem dd_W_law_135 : decode code 135 = .ok (.iconst 4, 1) := by decide +kernel
theorem dd_W_law_136 : decode code 136 = .ok (.iadd, 1) := by decide +kernel
theorem dd_W_law_137 : decode code 137 = .ok (.iaload, 1) := by decide +kernel
theorem dd_W_law_138 : decode code 138 = .ok (.invokevirtual 19, 3) := by decide +kernel
theorem dd_W_law_141 : decode code 141 = .ok (.aload_n 2, 1) := by decide +kernel
theorem dd_W_law_142 : decode code 142 = .ok (.aload_n 0, 1) := by decide +kernel
theorem dd_W_law_143 : decode code 143 = .ok (.iload_n 3, 1) := by decide +kernel
theorem dd_W_law_144 : decode code 144 = .ok (.iconst 1, 1) := by decide +kernel
theorem dd_W_law_145 : decode code 145 = .ok (.iadd, 1) := by decide +kernel
theorem dd_W_law_146 : decode code 146 = .ok (.iaload, 1) := by decide +kernel
theorem dd_W_law_147 : decode code 147 = .ok (.ifCond .eq 7, 3) := by decide +kernel
theorem dd_W_law_150 : decode code 150 = .ok (.iconst 1, 1) := by decide +kernel
theorem dd_W_law_151 : decode code 151 = .ok (.goto 4, 3) := by decide +kernel
theorem dd_W_law_154 : decode code 154 = .ok (.iconst 0, 1) := by decide +kernel
theorem dd_W_law_155 : decode code 155 = .ok (.aload_n 0, 1) := by decide +kernel
theorem dd_W_law_156 : decode code 156 = .ok (.iload_n 3, 1) := by decide +kernel
theorem dd_W_law_157 : decode code 157 = .ok (.iconst 2, 1) := by decide +kernel
theorem dd_W_law_158 : decode code 158 = .ok (.iadd, 1) := by decide +kernel
theorem dd_W_law_159 : decode code 159 = .ok (.iaload, 1) := by decide +kernel
theorem dd_W_law_160 : decode code 160 = .ok (.i2l, 1) := by decide +kernel
theorem dd_W_law_161 : decode code 161 = .ok (.bipush 32, 2) := by decide +kernel
theorem dd_W_law_163 : decode code 163 = .ok (.lshl, 1) := by decide +kernel
theorem dd_W_law_164 : decode code 164 = .ok (.aload_n 0, 1) := by decide +kernel
theorem dd_W_law_165 : decode code 165 = .ok (.iload_n 3, 1) := by decide +kernel
theorem dd_W_law_166 : decode code 166 = .ok (.iconst 3, 1) := by decide +kernel
theorem dd_W_law_167 : decode code 167 = .ok (.iadd, 1) := by decide +kernel
theorem dd_W_law_168 : decode code 168 = .ok (.iaload, 1) := by decide +kernel
theorem dd_W_law_169 : decode code 169 = .ok (.i2l, 1) := by decide +kernel
theorem dd_W_law_170 : decode code 170 = .ok (.ldc2_w 17, 3) := by decide +kernel
theorem dd_W_law_173 : decode code 173 = .ok (.land, 1) := by decide +kernel
theorem dd_W_law_174 : decode code 174 = .ok (.lor, 1) := by decide +kernel
theorem dd_W_law_175 : decode code 175 = .ok (.aload_n 0, 1) := by decide +kernel
theorem dd_W_law_176 : decode code 176 = .ok (.iload_n 3, 1) := by decide +kernel
theorem dd_W_law_177 : decode code 177 = .ok (.iconst 4, 1) := by decide +kernel
theorem dd_W_law_178 : decode code 178 = .ok (.iadd, 1) := by decide +kernel
theorem dd_W_law_179 : decode code 179 = .ok (.iaload, 1) := by decide +kernel
theorem dd_W_law_180 : decode code 180 = .ok (.invokevirtual 23, 3) := by decide +kernel
theorem dd_W_law_183 : decode code 183 = .ok (.if_icmp .eq 321, 3) := by decide +kernel
theorem dd_W_law_186 : decode code 186 = .ok (.iconst 0, 1) := by decide +kernel
theorem dd_W_law_187 : decode code 187 = .ok (.ireturn, 1) := by decide +kernel
theorem dd_W_law_188 : decode code 188 = .ok (.aload_n 1, 1) := by decide +kernel
theorem dd_W_law_189 : decode code 189 = .ok (.aload_n 0, 1) := by decide +kernel
theorem dd_W_law_190 : decode code 190 = .ok (.iload_n 3, 1) := by decide +kernel
theorem dd_W_law_191 : decode code 191 = .ok (.iconst 1, 1) := by decide +kernel
theorem dd_W_law_192 : decode code 192 = .ok (.iadd, 1) := by decide +kernel
theorem dd_W_law_193 : decode code 193 = .ok (.iaload, 1) := by decide +kernel
theorem dd_W_law_194 : decode code 194 = .ok (.i2l, 1) := by decide +kernel
theorem dd_W_law_195 : decode code 195 = .ok (.bipush 32, 2) := by decide +kernel
theorem dd_W_law_197 : decode code 197 = .ok (.lshl, 1) := by decide +kernel
theorem dd_W_law_198 : decode code 198 = .ok (.aload_n 0, 1) := by decide +kernel
theorem dd_W_law_199 : decode code 199 = .ok (.iload_n 3, 1) := by decide +kernel
theorem dd_W_law_200 : decode code 200 = .ok (.iconst 2, 1) := by decide +kernel
theorem dd_W_law_201 : decode code 201 = .ok (.iadd, 1) := by decide +kernel
theorem dd_W_law_202 : decode code 202 = .ok (.iaload, 1) := by decide +kernel
theorem dd_W_law_203 : decode code 203 = .ok (.i2l, 1) := by decide +kernel
theorem dd_W_law_204 : decode code 204 = .ok (.ldc2_w 17, 3) := by decide +kernel
theorem dd_W_law_207 : decode code 207 = .ok (.land, 1) := by decide +kernel
theorem dd_W_law_208 : decode code 208 = .ok (.lor, 1) := by decide +kernel
theorem dd_W_law_209 : decode code 209 = .ok (.aload_n 0, 1) := by decide +kernel
theorem dd_W_law_210 : decode code 210 = .ok (.iload_n 3, 1) := by decide +kernel
theorem dd_W_law_211 : decode code 211 = .ok (.iconst 3, 1) := by decide +kernel
theorem dd_W_law_212 : decode code 212 = .ok (.iadd, 1) := by decide +kernel
theorem dd_W_law_213 : decode code 213 = .ok (.iaload, 1) := by decide +kernel
theorem dd_W_law_214 : decode code 214 = .ok (.invokevirtual 24, 3) := by decide +kernel
theorem dd_W_law_217 : decode code 217 = .ok (.aload_n 2, 1) := by decide +kernel
theorem dd_W_law_218 : decode code 218 = .ok (.aload_n 0, 1) := by decide +kernel
theorem dd_W_law_219 : decode code 219 = .ok (.iload_n 3, 1) := by decide +kernel
theorem dd_W_law_220 : decode code 220 = .ok (.iconst 1, 1) := by decide +kernel
theorem dd_W_law_221 : decode code 221 = .ok (.iadd, 1) := by decide +kernel
theorem dd_W_law_222 : decode code 222 = .ok (.iaload, 1) := by decide +kernel
theorem dd_W_law_223 : decode code 223 = .ok (.i2l, 1) := by decide +kernel
theorem dd_W_law_224 : decode code 224 = .ok (.bipush 32, 2) := by decide +kernel
theorem dd_W_law_226 : decode code 226 = .ok (.lshl, 1) := by decide +kernel
theorem dd_W_law_227 : decode code 227 = .ok (.aload_n 0, 1) := by decide +kernel
theorem dd_W_law_228 : decode code 228 = .ok (.iload_n 3, 1) := by decide +kernel
theorem dd_W_law_229 : decode code 229 = .ok (.iconst 2, 1) := by decide +kernel
theorem dd_W_law_230 : decode code 230 = .ok (.iadd, 1) := by decide +kernel
theorem dd_W_law_231 : decode code 231 = .ok (.iaload, 1) := by decide +kernel
theorem dd_W_law_232 : decode code 232 = .ok (.i2l, 1) := by decide +kernel
theorem dd_W_law_233 : decode code 233 = .ok (.ldc2_w 17, 3) := by decide +kernel
theorem dd_W_law_236 : decode code 236 = .ok (.land, 1) := by decide +kernel
theorem dd_W_law_237 : decode code 237 = .ok (.lor, 1) := by decide +kernel
theorem dd_W_law_238 : decode code 238 = .ok (.aload_n 0, 1) := by decide +kernel
theorem dd_W_law_239 : decode code 239 = .ok (.iload_n 3, 1) := by decide +kernel
theorem dd_W_law_240 : decode code 240 = .ok (.iconst 3, 1) := by decide +kernel
theorem dd_W_law_241 : decode code 241 = .ok (.iadd, 1) := by decide +kernel
theorem dd_W_law_242 : decode code 242 = .ok (.iaload, 1) := by decide +kernel
theorem dd_W_law_243 : decode code 243 = .ok (.invokevirtual 28, 3) := by decide +kernel
theorem dd_W_law_246 : decode code 246 = .ok (.if_icmp .eq 258, 3) := by decide +kernel
theorem dd_W_law_249 : decode code 249 = .ok (.iconst 0, 1) := by decide +kernel
theorem dd_W_law_250 : decode code 250 = .ok (.ireturn, 1) := by decide +kernel
theorem dd_W_law_251 : decode code 251 = .ok (.aload_n 1, 1) := by decide +kernel
theorem dd_W_law_252 : decode code 252 = .ok (.aload_n 0, 1) := by decide +kernel
theorem dd_W_law_253 : decode code 253 = .ok (.iload_n 3, 1) := by decide +kernel
theorem dd_W_law_254 : decode code 254 = .ok (.iconst 1, 1) := by decide +kernel
theorem dd_W_law_255 : decode code 255 = .ok (.iadd, 1) := by decide +kernel
theorem dd_W_law_256 : decode code 256 = .ok (.iaload, 1) := by decide +kernel
theorem dd_W_law_257 : decode code 257 = .ok (.aload_n 0, 1) := by decide +kernel
theorem dd_W_law_258 : decode code 258 = .ok (.iload_n 3, 1) := by decide +kernel
theorem dd_W_law_259 : decode code 259 = .ok (.iconst 2, 1) := by decide +kernel
theorem dd_W_law_260 : decode code 260 = .ok (.iadd, 1) := by decide +kernel
theorem dd_W_law_261 : decode code 261 = .ok (.iaload, 1) := by decide +kernel
theorem dd_W_law_262 : decode code 262 = .ok (.i2l, 1) := by decide +kernel
theorem dd_W_law_263 : decode code 263 = .ok (.bipush 32, 2) := by decide +kernel
theorem dd_W_law_265 : decode code 265 = .ok (.lshl, 1) := by decide +kernel
theorem dd_W_law_266 : decode code 266 = .ok (.aload_n 0, 1) := by decide +kernel
theorem dd_W_law_267 : decode code 267 = .ok (.iload_n 3, 1) := by decide +kernel
theorem dd_W_law_268 : decode code 268 = .ok (.iconst 3, 1) := by decide +kernel
theorem dd_W_law_269 : decode code 269 = .ok (.iadd, 1) := by decide +kernel
theorem dd_W_law_270 : decode code 270 = .ok (.iaload, 1) := by decide +kernel
theorem dd_W_law_271 : decode code 271 = .ok (.i2l, 1) := by decide +kernel
theorem dd_W_law_272 : decode code 272 = .ok (.ldc2_w 17, 3) := by decide +kernel
theorem dd_W_law_275 : decode code 275 = .ok (.land, 1) := by decide +kernel
theorem dd_W_law_276 : decode code 276 = .ok (.lor, 1) := by decide +kernel
theorem dd_W_law_277 : decode code 277 = .ok (.aload_n 0, 1) := by decide +kernel
theorem dd_W_law_278 : decode code 278 = .ok (.iload_n 3, 1) := by decide +kernel
theorem dd_W_law_279 : decode code 279 = .ok (.iconst 4, 1) := by decide +kernel
theorem dd_W_law_280 : decode code 280 = .ok (.iadd, 1) := by decide +kernel
theorem dd_W_law_281 : decode code 281 = .ok (.iaload, 1) := by decide +kernel
theorem dd_W_law_282 : decode code 282 = .ok (.i2l, 1) := by decide +kernel
theorem dd_W_law_283 : decode code 283 = .ok (.bipush 32, 2) := by decide +kernel
theorem dd_W_law_285 : decode code 285 = .ok (.lshl, 1) := by decide +kernel
theorem dd_W_law_286 : decode code 286 = .ok (.aload_n 0, 1) := by decide +kernel
theorem dd_W_law_287 : decode code 287 = .ok (.iload_n 3, 1) := by decide +kernel
theorem dd_W_law_288 : decode code 288 = .ok (.iconst 5, 1) := by decide +kernel
theorem dd_W_law_289 : decode code 289 = .ok (.iadd, 1) := by decide +kernel
theorem dd_W_law_290 : decode code 290 = .ok (.iaload, 1) := by decide +kernel
theorem dd_W_law_291 : decode code 291 = .ok (.i2l, 1) := by decide +kernel
theorem dd_W_law_292 : decode code 292 = .ok (.ldc2_w 17, 3) := by decide +kernel
theorem dd_W_law_295 : decode code 295 = .ok (.land, 1) := by decide +kernel
theorem dd_W_law_296 : decode code 296 = .ok (.lor, 1) := by decide +kernel
theorem dd_W_law_297 : decode code 297 = .ok (.aload_n 0, 1) := by decide +kernel
theorem dd_W_law_298 : decode code 298 = .ok (.iload_n 3, 1) := by decide +kernel
theorem dd_W_law_299 : decode code 299 = .ok (.bipush 6, 2) := by decide +kernel
theorem dd_W_law_301 : decode code 301 = .ok (.iadd, 1) := by decide +kernel
theorem dd_W_law_302 : decode code 302 = .ok (.iaload, 1) := by decide +kernel
theorem dd_W_law_303 : decode code 303 = .ok (.invokevirtual 29, 3) := by decide +kernel
theorem dd_W_law_306 : decode code 306 = .ok (.aload_n 2, 1) := by decide +kernel
theorem dd_W_law_307 : decode code 307 = .ok (.aload_n 0, 1) := by decide +kernel
theorem dd_W_law_308 : decode code 308 = .ok (.iload_n 3, 1) := by decide +kernel
theorem dd_W_law_309 : decode code 309 = .ok (.iconst 1, 1) := by decide +kernel
theorem dd_W_law_310 : decode code 310 = .ok (.iadd, 1) := by decide +kernel
theorem dd_W_law_311 : decode code 311 = .ok (.iaload, 1) := by decide +kernel
theorem dd_W_law_312 : decode code 312 = .ok (.aload_n 0, 1) := by decide +kernel
theorem dd_W_law_313 : decode code 313 = .ok (.iload_n 3, 1) := by decide +kernel
theorem dd_W_law_314 : decode code 314 = .ok (.iconst 2, 1) := by decide +kernel
theorem dd_W_law_315 : decode code 315 = .ok (.iadd, 1) := by decide +kernel
theorem dd_W_law_316 : decode code 316 = .ok (.iaload, 1) := by decide +kernel
theorem dd_W_law_317 : decode code 317 = .ok (.i2l, 1) := by decide +kernel
theorem dd_W_law_318 : decode code 318 = .ok (.bipush 32, 2) := by decide +kernel
theorem dd_W_law_320 : decode code 320 = .ok (.lshl, 1) := by decide +kernel
theorem dd_W_law_321 : decode code 321 = .ok (.aload_n 0, 1) := by decide +kernel
theorem dd_W_law_322 : decode code 322 = .ok (.iload_n 3, 1) := by decide +kernel
theorem dd_W_law_323 : decode code 323 = .ok (.iconst 3, 1) := by decide +kernel
theorem dd_W_law_324 : decode code 324 = .ok (.iadd, 1) := by decide +kernel
theorem dd_W_law_325 : decode code 325 = .ok (.iaload, 1) := by decide +kernel
theorem dd_W_law_326 : decode code 326 = .ok (.i2l, 1) := by decide +kernel
theorem dd_W_law_327 : decode code 327 = .ok (.ldc2_w 17, 3) := by decide +kernel
theorem dd_W_law_330 : decode code 330 = .ok (.land, 1) := by decide +kernel
theorem dd_W_law_331 : decode code 331 = .ok (.lor, 1) := by decide +kernel
theorem dd_W_law_332 : decode code 332 = .ok (.aload_n 0, 1) := by decide +kernel
theorem dd_W_law_333 : decode code 333 = .ok (.iload_n 3, 1) := by decide +kernel
theorem dd_W_law_334 : decode code 334 = .ok (.iconst 4, 1) := by decide +kernel
theorem dd_W_law_335 : decode code 335 = .ok (.iadd, 1) := by decide +kernel
theorem dd_W_law_336 : decode code 336 = .ok (.iaload, 1) := by decide +kernel
theorem dd_W_law_337 : decode code 337 = .ok (.i2l, 1) := by decide +kernel
theorem dd_W_law_338 : decode code 338 = .ok (.bipush 32, 2) := by decide +kernel
theorem dd_W_law_340 : decode code 340 = .ok (.lshl, 1) := by decide +kernel
theorem dd_W_law_341 : decode code 341 = .ok (.aload_n 0, 1) := by decide +kernel
theorem dd_W_law_342 : decode code 342 = .ok (.iload_n 3, 1) := by decide +kernel
theorem dd_W_law_343 : decode code 343 = .ok (.iconst 5, 1) := by decide +kernel
theorem dd_W_law_344 : decode code 344 = .ok (.iadd, 1) := by decide +kernel
theorem dd_W_law_345 : decode code 345 = .ok (.iaload, 1) := by decide +kernel
theorem dd_W_law_346 : decode code 346 = .ok (.i2l, 1) := by decide +kernel
theorem dd_W_law_347 : decode code 347 = .ok (.ldc2_w 17, 3) := by decide +kernel
theorem dd_W_law_350 : decode code 350 = .ok (.land, 1) := by decide +kernel
theorem dd_W_law_351 : decode code 351 = .ok (.lor, 1) := by decide +kernel
theorem dd_W_law_352 : decode code 352 = .ok (.aload_n 0, 1) := by decide +kernel
theorem dd_W_law_353 : decode code 353 = .ok (.iload_n 3, 1) := by decide +kernel
theorem dd_W_law_354 : decode code 354 = .ok (.bipush 6, 2) := by decide +kernel
theorem dd_W_law_356 : decode code 356 = .ok (.iadd, 1) := by decide +kernel
theorem dd_W_law_357 : decode code 357 = .ok (.iaload, 1) := by decide +kernel
theorem dd_W_law_358 : decode code 358 = .ok (.invokevirtual 33, 3) := by decide +kernel
theorem dd_W_law_361 : decode code 361 = .ok (.if_icmp .eq 143, 3) := by decide +kernel
theorem dd_W_law_364 : decode code 364 = .ok (.iconst 0, 1) := by decide +kernel
theorem dd_W_law_365 : decode code 365 = .ok (.ireturn, 1) := by decide +kernel
theorem dd_W_law_366 : decode code 366 = .ok (.aload_n 1, 1) := by decide +kernel
theorem dd_W_law_367 : decode code 367 = .ok (.invokevirtual 34, 3) := by decide +kernel
theorem dd_W_law_370 : decode code 370 = .ok (.aload_n 2, 1) := by decide +kernel
theorem dd_W_law_371 : decode code 371 = .ok (.invokevirtual 38, 3) := by decide +kernel
theorem dd_W_law_374 : decode code 374 = .ok (.if_icmp .eq 130, 3) := by decide +kernel
theorem dd_W_law_377 : decode code 377 = .ok (.iconst 0, 1) := by decide +kernel
theorem dd_W_law_378 : decode code 378 = .ok (.ireturn, 1) := by decide +kernel
theorem dd_W_law_379 : decode code 379 = .ok (.aload_n 1, 1) := by decide +kernel
theorem dd_W_law_380 : decode code 380 = .ok (.aload_n 0, 1) := by decide +kernel
theorem dd_W_law_381 : decode code 381 = .ok (.iload_n 3, 1) := by decide +kernel
theorem dd_W_law_382 : decode code 382 = .ok (.iconst 1, 1) := by decide +kernel
theorem dd_W_law_383 : decode code 383 = .ok (.iadd, 1) := by decide +kernel
theorem dd_W_law_384 : decode code 384 = .ok (.iaload, 1) := by decide +kernel
theorem dd_W_law_385 : decode code 385 = .ok (.invokevirtual 39, 3) := by decide +kernel
theorem dd_W_law_388 : decode code 388 = .ok (.aload_n 2, 1) := by decide +kernel
theorem dd_W_law_389 : decode code 389 = .ok (.aload_n 0, 1) := by decide +kernel
theorem dd_W_law_390 : decode code 390 = .ok (.iload_n 3, 1) := by decide +kernel
theorem dd_W_law_391 : decode code 391 = .ok (.iconst 1, 1) := by decide +kernel
theorem dd_W_law_392 : decode code 392 = .ok (.iadd, 1) := by decide +kernel
theorem dd_W_law_393 : decode code 393 = .ok (.iaload, 1) := by decide +kernel
theorem dd_W_law_394 : decode code 394 = .ok (.invokevirtual 43, 3) := by decide +kernel
theorem dd_W_law_397 : decode code 397 = .ok (.if_icmp .eq 107, 3) := by decide +kernel
theorem dd_W_law_400 : decode code 400 = .ok (.iconst 0, 1) := by decide +kernel
theorem dd_W_law_401 : decode code 401 = .ok (.ireturn, 1) := by decide +kernel
theorem dd_W_law_402 : decode code 402 = .ok (.aload_n 1, 1) := by decide +kernel
theorem dd_W_law_403 : decode code 403 = .ok (.aload_n 0, 1) := by decide +kernel
theorem dd_W_law_404 : decode code 404 = .ok (.iload_n 3, 1) := by decide +kernel
theorem dd_W_law_405 : decode code 405 = .ok (.iconst 1, 1) := by decide +kernel
theorem dd_W_law_406 : decode code 406 = .ok (.iadd, 1) := by decide +kernel
theorem dd_W_law_407 : decode code 407 = .ok (.iaload, 1) := by decide +kernel
theorem dd_W_law_408 : decode code 408 = .ok (.invokevirtual 44, 3) := by decide +kernel
theorem dd_W_law_411 : decode code 411 = .ok (.aload_n 2, 1) := by decide +kernel
theorem dd_W_law_412 : decode code 412 = .ok (.aload_n 0, 1) := by decide +kernel
theorem dd_W_law_413 : decode code 413 = .ok (.iload_n 3, 1) := by decide +kernel
theorem dd_W_law_414 : decode code 414 = .ok (.iconst 1, 1) := by decide +kernel
theorem dd_W_law_415 : decode code 415 = .ok (.iadd, 1) := by decide +kernel
theorem dd_W_law_416 : decode code 416 = .ok (.iaload, 1) := by decide +kernel
theorem dd_W_law_417 : decode code 417 = .ok (.invokevirtual 47, 3) := by decide +kernel
theorem dd_W_law_420 : decode code 420 = .ok (.if_icmp .eq 84, 3) := by decide +kernel
theorem dd_W_law_423 : decode code 423 = .ok (.iconst 0, 1) := by decide +kernel
theorem dd_W_law_424 : decode code 424 = .ok (.ireturn, 1) := by decide +kernel
theorem dd_W_law_425 : decode code 425 = .ok (.aload_n 1, 1) := by decide +kernel
theorem dd_W_law_426 : decode code 426 = .ok (.aload_n 0, 1) := by decide +kernel
theorem dd_W_law_427 : decode code 427 = .ok (.iload_n 3, 1) := by decide +kernel
theorem dd_W_law_428 : decode code 428 = .ok (.iconst 1, 1) := by decide +kernel
theorem dd_W_law_429 : decode code 429 = .ok (.iadd, 1) := by decide +kernel
theorem dd_W_law_430 : decode code 430 = .ok (.iaload, 1) := by decide +kernel
theorem dd_W_law_431 : decode code 431 = .ok (.invokevirtual 48, 3) := by decide +kernel
theorem dd_W_law_434 : decode code 434 = .ok (.aload_n 2, 1) := by decide +kernel
theorem dd_W_law_435 : decode code 435 = .ok (.aload_n 0, 1) := by decide +kernel
theorem dd_W_law_436 : decode code 436 = .ok (.iload_n 3, 1) := by decide +kernel
theorem dd_W_law_437 : decode code 437 = .ok (.iconst 1, 1) := by decide +kernel
theorem dd_W_law_438 : decode code 438 = .ok (.iadd, 1) := by decide +kernel
theorem dd_W_law_439 : decode code 439 = .ok (.iaload, 1) := by decide +kernel
theorem dd_W_law_440 : decode code 440 = .ok (.invokevirtual 51, 3) := by decide +kernel
theorem dd_W_law_443 : decode code 443 = .ok (.if_icmp .eq 61, 3) := by decide +kernel
theorem dd_W_law_446 : decode code 446 = .ok (.iconst 0, 1) := by decide +kernel
theorem dd_W_law_447 : decode code 447 = .ok (.ireturn, 1) := by decide +kernel
theorem dd_W_law_448 : decode code 448 = .ok (.aload_n 1, 1) := by decide +kernel
theorem dd_W_law_449 : decode code 449 = .ok (.aload_n 0, 1) := by decide +kernel
theorem dd_W_law_450 : decode code 450 = .ok (.iload_n 3, 1) := by decide +kernel
theorem dd_W_law_451 : decode code 451 = .ok (.iconst 1, 1) := by decide +kernel
theorem dd_W_law_452 : decode code 452 = .ok (.iadd, 1) := by decide +kernel
theorem dd_W_law_453 : decode code 453 = .ok (.iaload, 1) := by decide +kernel
theorem dd_W_law_454 : decode code 454 = .ok (.aload_n 0, 1) := by decide +kernel
theorem dd_W_law_455 : decode code 455 = .ok (.iload_n 3, 1) := by decide +kernel
theorem dd_W_law_456 : decode code 456 = .ok (.iconst 2, 1) := by decide +kernel
theorem dd_W_law_457 : decode code 457 = .ok (.iadd, 1) := by decide +kernel
theorem dd_W_law_458 : decode code 458 = .ok (.iaload, 1) := by decide +kernel
theorem dd_W_law_459 : decode code 459 = .ok (.invokevirtual 52, 3) := by decide +kernel
theorem dd_W_law_462 : decode code 462 = .ok (.aload_n 2, 1) := by decide +kernel
theorem dd_W_law_463 : decode code 463 = .ok (.aload_n 0, 1) := by decide +kernel
theorem dd_W_law_464 : decode code 464 = .ok (.iload_n 3, 1) := by decide +kernel
theorem dd_W_law_465 : decode code 465 = .ok (.iconst 1, 1) := by decide +kernel
theorem dd_W_law_466 : decode code 466 = .ok (.iadd, 1) := by decide +kernel
theorem dd_W_law_467 : decode code 467 = .ok (.iaload, 1) := by decide +kernel
theorem dd_W_law_468 : decode code 468 = .ok (.aload_n 0, 1) := by decide +kernel
theorem dd_W_law_469 : decode code 469 = .ok (.iload_n 3, 1) := by decide +kernel
theorem dd_W_law_470 : decode code 470 = .ok (.iconst 2, 1) := by decide +kernel
theorem dd_W_law_471 : decode code 471 = .ok (.iadd, 1) := by decide +kernel
theorem dd_W_law_472 : decode code 472 = .ok (.iaload, 1) := by decide +kernel
theorem dd_W_law_473 : decode code 473 = .ok (.invokevirtual 56, 3) := by decide +kernel
theorem dd_W_law_476 : decode code 476 = .ok (.if_icmp .eq 28, 3) := by decide +kernel
theorem dd_W_law_479 : decode code 479 = .ok (.iconst 0, 1) := by decide +kernel
theorem dd_W_law_480 : decode code 480 = .ok (.ireturn, 1) := by decide +kernel
theorem dd_W_law_481 : decode code 481 = .ok (.aload_n 1, 1) := by decide +kernel
theorem dd_W_law_482 : decode code 482 = .ok (.aload_n 0, 1) := by decide +kernel
theorem dd_W_law_483 : decode code 483 = .ok (.iload_n 3, 1) := by decide +kernel
theorem dd_W_law_484 : decode code 484 = .ok (.iconst 1, 1) := by decide +kernel
theorem dd_W_law_485 : decode code 485 = .ok (.iadd, 1) := by decide +kernel
theorem dd_W_law_486 : decode code 486 = .ok (.iaload, 1) := by decide +kernel
theorem dd_W_law_487 : decode code 487 = .ok (.invokevirtual 57, 3) := by decide +kernel
theorem dd_W_law_490 : decode code 490 = .ok (.aload_n 2, 1) := by decide +kernel
theorem dd_W_law_491 : decode code 491 = .ok (.aload_n 0, 1) := by decide +kernel
theorem dd_W_law_492 : decode code 492 = .ok (.iload_n 3, 1) := by decide +kernel
theorem dd_W_law_493 : decode code 493 = .ok (.iconst 1, 1) := by decide +kernel
theorem dd_W_law_494 : decode code 494 = .ok (.iadd, 1) := by decide +kernel
theorem dd_W_law_495 : decode code 495 = .ok (.iaload, 1) := by decide +kernel
theorem dd_W_law_496 : decode code 496 = .ok (.invokevirtual 60, 3) := by decide +kernel
theorem dd_W_law_499 : decode code 499 = .ok (.if_icmp .eq 5, 3) := by decide +kernel
theorem dd_W_law_502 : decode code 502 = .ok (.iconst 0, 1) := by decide +kernel
theorem dd_W_law_503 : decode code 503 = .ok (.ireturn, 1) := by decide +kernel
theorem dd_W_law_504 : decode code 504 = .ok (.iinc 3 7, 3) := by decide +kernel
theorem dd_W_law_507 : decode code 507 = .ok (.goto (-489), 3) := by decide +kernel
theorem dd_W_law_510 : decode code 510 = .ok (.iconst 1, 1) := by decide +kernel
theorem dd_W_law_511 : decode code 511 = .ok (.ireturn, 1) := by decide +kernel
