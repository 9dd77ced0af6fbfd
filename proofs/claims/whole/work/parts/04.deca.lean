theorem dL_share_0 : decode cL_share 0 = .ok (.aload_n 2, 1) := by decide +kernel
theorem dL_share_1 : decode cL_share 1 = .ok (.iconst 0, 1) := by decide +kernel
theorem dL_share_2 : decode cL_share 2 = .ok (.aload_n 0, 1) := by decide +kernel
theorem dL_share_3 : decode cL_share 3 = .ok (.iload_n 1, 1) := by decide +kernel
theorem dL_share_4 : decode cL_share 4 = .ok (.invokevirtual 7, 3) := by decide +kernel
theorem dL_share_7 : decode cL_share 7 = .ok (.i2l, 1) := by decide +kernel
theorem dL_share_8 : decode cL_share 8 = .ok (.lastore, 1) := by decide +kernel
theorem dL_share_9 : decode cL_share 9 = .ok (.goto 6, 3) := by decide +kernel
theorem dL_share_12 : decode cL_share 12 = .ok (.astore_n 3, 1) := by decide +kernel
theorem dL_share_13 : decode cL_share 13 = .ok (.iconst 1, 1) := by decide +kernel
theorem dL_share_14 : decode cL_share 14 = .ok (.ireturn, 1) := by decide +kernel
theorem dL_share_15 : decode cL_share 15 = .ok (.iconst 0, 1) := by decide +kernel
theorem dL_share_16 : decode cL_share 16 = .ok (.ireturn, 1) := by decide +kernel
theorem dL_law_0 : decode cL_law 0 = .ok (.new 8, 3) := by decide +kernel
theorem dL_law_3 : decode cL_law 3 = .ok (.dup, 1) := by decide +kernel
theorem dL_law_4 : decode cL_law 4 = .ok (.invokespecial 15, 3) := by decide +kernel
theorem dL_law_7 : decode cL_law 7 = .ok (.astore_n 1, 1) := by decide +kernel
theorem dL_law_8 : decode cL_law 8 = .ok (.new 16, 3) := by decide +kernel
theorem dL_law_11 : decode cL_law 11 = .ok (.dup, 1) := by decide +kernel
theorem dL_law_12 : decode cL_law 12 = .ok (.invokespecial 18, 3) := by decide +kernel
theorem dL_law_15 : decode cL_law 15 = .ok (.astore_n 2, 1) := by decide +kernel
theorem dL_law_16 : decode cL_law 16 = .ok (.iconst 1, 1) := by decide +kernel
theorem dL_law_17 : decode cL_law 17 = .ok (.newarray .long, 2) := by decide +kernel
theorem dL_law_19 : decode cL_law 19 = .ok (.astore_n 3, 1) := by decide +kernel
theorem dL_law_20 : decode cL_law 20 = .ok (.iconst 0, 1) := by decide +kernel
theorem dL_law_21 : decode cL_law 21 = .ok (.istore 4, 2) := by decide +kernel
theorem dL_law_23 : decode cL_law 23 = .ok (.iload 4, 2) := by decide +kernel
theorem dL_law_25 : decode cL_law 25 = .ok (.aload_n 0, 1) := by decide +kernel
theorem dL_law_26 : decode cL_law 26 = .ok (.arraylength, 1) := by decide +kernel
theorem dL_law_27 : decode cL_law 27 = .ok (.iconst 4, 1) := by decide +kernel
theorem dL_law_28 : decode cL_law 28 = .ok (.isub, 1) := by decide +kernel
theorem dL_law_29 : decode cL_law 29 = .ok (.if_icmp .gt 451, 3) := by decide +kernel
theorem dL_law_32 : decode cL_law 32 = .ok (.aload_n 0, 1) := by decide +kernel
theorem dL_law_33 : decode cL_law 33 = .ok (.iload 4, 2) := by decide +kernel
theorem dL_law_35 : decode cL_law 35 = .ok (.iaload, 1) := by decide +kernel
theorem dL_law_36 : decode cL_law 36 = .ok (.bipush 15, 2) := by decide +kernel
theorem dL_law_38 : decode cL_law 38 = .ok (.iand, 1) := by decide +kernel
theorem dL_law_39 : decode cL_law 39 = .ok (.tableswitch 435 0 10 #[57, 70, 107, 156, 193, 218, 243, 280, 305, 342, 379], 57) := by decide +kernel
theorem dL_law_96 : decode cL_law 96 = .ok (.aload_n 1, 1) := by decide +kernel
theorem dL_law_97 : decode cL_law 97 = .ok (.invokevirtual 19, 3) := by decide +kernel
theorem dL_law_100 : decode cL_law 100 = .ok (.aload_n 2, 1) := by decide +kernel
theorem dL_law_101 : decode cL_law 101 = .ok (.invokevirtual 23, 3) := by decide +kernel
theorem dL_law_104 : decode cL_law 104 = .ok (.if_icmp .eq 370, 3) := by decide +kernel
theorem dL_law_107 : decode cL_law 107 = .ok (.iconst 0, 1) := by decide +kernel
theorem dL_law_108 : decode cL_law 108 = .ok (.ireturn, 1) := by decide +kernel
theorem dL_law_109 : decode cL_law 109 = .ok (.aload_n 1, 1) := by decide +kernel
theorem dL_law_110 : decode cL_law 110 = .ok (.aload_n 0, 1) := by decide +kernel
theorem dL_law_111 : decode cL_law 111 = .ok (.iload 4, 2) := by decide +kernel
theorem dL_law_113 : decode cL_law 113 = .ok (.iconst 1, 1) := by decide +kernel
theorem dL_law_114 : decode cL_law 114 = .ok (.iadd, 1) := by decide +kernel
theorem dL_law_115 : decode cL_law 115 = .ok (.iaload, 1) := by decide +kernel
theorem dL_law_116 : decode cL_law 116 = .ok (.aload_n 0, 1) := by decide +kernel
theorem dL_law_117 : decode cL_law 117 = .ok (.iload 4, 2) := by decide +kernel
theorem dL_law_119 : decode cL_law 119 = .ok (.iconst 2, 1) := by decide +kernel
theorem dL_law_120 : decode cL_law 120 = .ok (.iadd, 1) := by decide +kernel
theorem dL_law_121 : decode cL_law 121 = .ok (.iaload, 1) := by decide +kernel
theorem dL_law_122 : decode cL_law 122 = .ok (.invokevirtual 24, 3) := by decide +kernel
theorem dL_law_125 : decode cL_law 125 = .ok (.aload_n 2, 1) := by decide +kernel
theorem dL_law_126 : decode cL_law 126 = .ok (.aload_n 0, 1) := by decide +kernel
theorem dL_law_127 : decode cL_law 127 = .ok (.iload 4, 2) := by decide +kernel
theorem dL_law_129 : decode cL_law 129 = .ok (.iconst 1, 1) := by decide +kernel
theorem dL_law_130 : decode cL_law 130 = .ok (.iadd, 1) := by decide +kernel
theorem dL_law_131 : decode cL_law 131 = .ok (.iaload, 1) := by decide +kernel
theorem dL_law_132 : decode cL_law 132 = .ok (.aload_n 0, 1) := by decide +kernel
theorem dL_law_133 : decode cL_law 133 = .ok (.iload 4, 2) := by decide +kernel
theorem dL_law_135 : decode cL_law 135 = .ok (.iconst 2, 1) := by decide +kernel
theorem dL_law_136 : decode cL_law 136 = .ok (.iadd, 1) := by decide +kernel
theorem dL_law_137 : decode cL_law 137 = .ok (.iaload, 1) := by decide +kernel
theorem dL_law_138 : decode cL_law 138 = .ok (.invokevirtual 28, 3) := by decide +kernel
theorem dL_law_141 : decode cL_law 141 = .ok (.if_icmp .eq 333, 3) := by decide +kernel
theorem dL_law_144 : decode cL_law 144 = .ok (.iconst 0, 1) := by decide +kernel
theorem dL_law_145 : decode cL_law 145 = .ok (.ireturn, 1) := by decide +kernel
theorem dL_law_146 : decode cL_law 146 = .ok (.aload_n 1, 1) := by decide +kernel
theorem dL_law_147 : decode cL_law 147 = .ok (.aload_n 0, 1) := by decide +kernel
theorem dL_law_148 : decode cL_law 148 = .ok (.iload 4, 2) := by decide +kernel
theorem dL_law_150 : decode cL_law 150 = .ok (.iconst 1, 1) := by decide +kernel
theorem dL_law_151 : decode cL_law 151 = .ok (.iadd, 1) := by decide +kernel
theorem dL_law_152 : decode cL_law 152 = .ok (.iaload, 1) := by decide +kernel
theorem dL_law_153 : decode cL_law 153 = .ok (.aload_n 0, 1) := by decide +kernel
theorem dL_law_154 : decode cL_law 154 = .ok (.iload 4, 2) := by decide +kernel
theorem dL_law_156 : decode cL_law 156 = .ok (.iconst 2, 1) := by decide +kernel
theorem dL_law_157 : decode cL_law 157 = .ok (.iadd, 1) := by decide +kernel
theorem dL_law_158 : decode cL_law 158 = .ok (.iaload, 1) := by decide +kernel
theorem dL_law_159 : decode cL_law 159 = .ok (.aload_n 0, 1) := by decide +kernel
theorem dL_law_160 : decode cL_law 160 = .ok (.iload 4, 2) := by decide +kernel
theorem dL_law_162 : decode cL_law 162 = .ok (.iconst 3, 1) := by decide +kernel
theorem dL_law_163 : decode cL_law 163 = .ok (.iadd, 1) := by decide +kernel
theorem dL_law_164 : decode cL_law 164 = .ok (.iaload, 1) := by decide +kernel
theorem dL_law_165 : decode cL_law 165 = .ok (.invokevirtual 29, 3) := by decide +kernel
theorem dL_law_168 : decode cL_law 168 = .ok (.aload_n 2, 1) := by decide +kernel
theorem dL_law_169 : decode cL_law 169 = .ok (.aload_n 0, 1) := by decide +kernel
theorem dL_law_170 : decode cL_law 170 = .ok (.iload 4, 2) := by decide +kernel
theorem dL_law_172 : decode cL_law 172 = .ok (.iconst 1, 1) := by decide +kernel
theorem dL_law_173 : decode cL_law 173 = .ok (.iadd, 1) := by decide +kernel
theorem dL_law_174 : decode cL_law 174 = .ok (.iaload, 1) := by decide +kernel
theorem dL_law_175 : decode cL_law 175 = .ok (.aload_n 0, 1) := by decide +kernel
theorem dL_law_176 : decode cL_law 176 = .ok (.iload 4, 2) := by decide +kernel
theorem dL_law_178 : decode cL_law 178 = .ok (.iconst 2, 1) := by decide +kernel
theorem dL_law_179 : decode cL_law 179 = .ok (.iadd, 1) := by decide +kernel
theorem dL_law_180 : decode cL_law 180 = .ok (.iaload, 1) := by decide +kernel
theorem dL_law_181 : decode cL_law 181 = .ok (.aload_n 0, 1) := by decide +kernel
theorem dL_law_182 : decode cL_law 182 = .ok (.iload 4, 2) := by decide +kernel
theorem dL_law_184 : decode cL_law 184 = .ok (.iconst 3, 1) := by decide +kernel
theorem dL_law_185 : decode cL_law 185 = .ok (.iadd, 1) := by decide +kernel
theorem dL_law_186 : decode cL_law 186 = .ok (.iaload, 1) := by decide +kernel
theorem dL_law_187 : decode cL_law 187 = .ok (.invokevirtual 33, 3) := by decide +kernel
theorem dL_law_190 : decode cL_law 190 = .ok (.if_icmp .eq 284, 3) := by decide +kernel
theorem dL_law_193 : decode cL_law 193 = .ok (.iconst 0, 1) := by decide +kernel
theorem dL_law_194 : decode cL_law 194 = .ok (.ireturn, 1) := by decide +kernel
theorem dL_law_195 : decode cL_law 195 = .ok (.aload_n 1, 1) := by decide +kernel
theorem dL_law_196 : decode cL_law 196 = .ok (.aload_n 0, 1) := by decide +kernel
theorem dL_law_197 : decode cL_law 197 = .ok (.iload 4, 2) := by decide +kernel
theorem dL_law_199 : decode cL_law 199 = .ok (.iconst 1, 1) := by decide +kernel
theorem dL_law_200 : decode cL_law 200 = .ok (.iadd, 1) := by decide +kernel
theorem dL_law_201 : decode cL_law 201 = .ok (.iaload, 1) := by decide +kernel
theorem dL_law_202 : decode cL_law 202 = .ok (.aload_n 0, 1) := by decide +kernel
theorem dL_law_203 : decode cL_law 203 = .ok (.iload 4, 2) := by decide +kernel
theorem dL_law_205 : decode cL_law 205 = .ok (.iconst 2, 1) := by decide +kernel
theorem dL_law_206 : decode cL_law 206 = .ok (.iadd, 1) := by decide +kernel
theorem dL_law_207 : decode cL_law 207 = .ok (.iaload, 1) := by decide +kernel
theorem dL_law_208 : decode cL_law 208 = .ok (.invokevirtual 34, 3) := by decide +kernel
theorem dL_law_211 : decode cL_law 211 = .ok (.aload_n 2, 1) := by decide +kernel
theorem dL_law_212 : decode cL_law 212 = .ok (.aload_n 0, 1) := by decide +kernel
theorem dL_law_213 : decode cL_law 213 = .ok (.iload 4, 2) := by decide +kernel
theorem dL_law_215 : decode cL_law 215 = .ok (.iconst 1, 1) := by decide +kernel
theorem dL_law_216 : decode cL_law 216 = .ok (.iadd, 1) := by decide +kernel
theorem dL_law_217 : decode cL_law 217 = .ok (.iaload, 1) := by decide +kernel
theorem dL_law_218 : decode cL_law 218 = .ok (.aload_n 0, 1) := by decide +kernel
theorem dL_law_219 : decode cL_law 219 = .ok (.iload 4, 2) := by decide +kernel
theorem dL_law_221 : decode cL_law 221 = .ok (.iconst 2, 1) := by decide +kernel
theorem dL_law_222 : decode cL_law 222 = .ok (.iadd, 1) := by decide +kernel
theorem dL_law_223 : decode cL_law 223 = .ok (.iaload, 1) := by decide +kernel
theorem dL_law_224 : decode cL_law 224 = .ok (.invokevirtual 37, 3) := by decide +kernel
theorem dL_law_227 : decode cL_law 227 = .ok (.if_icmp .eq 247, 3) := by decide +kernel
theorem dL_law_230 : decode cL_law 230 = .ok (.iconst 0, 1) := by decide +kernel
theorem dL_law_231 : decode cL_law 231 = .ok (.ireturn, 1) := by decide +kernel
theorem dL_law_232 : decode cL_law 232 = .ok (.aload_n 1, 1) := by decide +kernel
theorem dL_law_233 : decode cL_law 233 = .ok (.aload_n 0, 1) := by decide +kernel
theorem dL_law_234 : decode cL_law 234 = .ok (.iload 4, 2) := by decide +kernel
theorem dL_law_236 : decode cL_law 236 = .ok (.iconst 1, 1) := by decide +kernel
theorem dL_law_237 : decode cL_law 237 = .ok (.iadd, 1) := by decide +kernel
theorem dL_law_238 : decode cL_law 238 = .ok (.iaload, 1) := by decide +kernel
theorem dL_law_239 : decode cL_law 239 = .ok (.invokevirtual 38, 3) := by decide +kernel
theorem dL_law_242 : decode cL_law 242 = .ok (.aload_n 2, 1) := by decide +kernel
theorem dL_law_243 : decode cL_law 243 = .ok (.aload_n 0, 1) := by decide +kernel
theorem dL_law_244 : decode cL_law 244 = .ok (.iload 4, 2) := by decide +kernel
theorem dL_law_246 : decode cL_law 246 = .ok (.iconst 1, 1) := by decide +kernel
theorem dL_law_247 : decode cL_law 247 = .ok (.iadd, 1) := by decide +kernel
theorem dL_law_248 : decode cL_law 248 = .ok (.iaload, 1) := by decide +kernel
theorem dL_law_249 : decode cL_law 249 = .ok (.invokevirtual 41, 3) := by decide +kernel
theorem dL_law_252 : decode cL_law 252 = .ok (.if_icmp .eq 222, 3) := by decide +kernel
theorem dL_law_255 : decode cL_law 255 = .ok (.iconst 0, 1) := by decide +kernel
theorem dL_law_256 : decode cL_law 256 = .ok (.ireturn, 1) := by decide +kernel
theorem dL_law_257 : decode cL_law 257 = .ok (.aload_n 1, 1) := by decide +kernel
theorem dL_law_258 : decode cL_law 258 = .ok (.aload_n 0, 1) := by decide +kernel
theorem dL_law_259 : decode cL_law 259 = .ok (.iload 4, 2) := by decide +kernel
theorem dL_law_261 : decode cL_law 261 = .ok (.iconst 1, 1) := by decide +kernel
theorem dL_law_262 : decode cL_law 262 = .ok (.iadd, 1) := by decide +kernel
theorem dL_law_263 : decode cL_law 263 = .ok (.iaload, 1) := by decide +kernel
theorem dL_law_264 : decode cL_law 264 = .ok (.invokevirtual 42, 3) := by decide +kernel
theorem dL_law_267 : decode cL_law 267 = .ok (.aload_n 2, 1) := by decide +kernel
theorem dL_law_268 : decode cL_law 268 = .ok (.aload_n 0, 1) := by decide +kernel
theorem dL_law_269 : decode cL_law 269 = .ok (.iload 4, 2) := by decide +kernel
theorem dL_law_271 : decode cL_law 271 = .ok (.iconst 1, 1) := by decide +kernel
theorem dL_law_272 : decode cL_law 272 = .ok (.iadd, 1) := by decide +kernel
theorem dL_law_273 : decode cL_law 273 = .ok (.iaload, 1) := by decide +kernel
theorem dL_law_274 : decode cL_law 274 = .ok (.invokevirtual 45, 3) := by decide +kernel
theorem dL_law_277 : decode cL_law 277 = .ok (.if_icmp .eq 197, 3) := by decide +kernel
theorem dL_law_280 : decode cL_law 280 = .ok (.iconst 0, 1) := by decide +kernel
theorem dL_law_281 : decode cL_law 281 = .ok (.ireturn, 1) := by decide +kernel
theorem dL_law_282 : decode cL_law 282 = .ok (.aload_n 1, 1) := by decide +kernel
theorem dL_law_283 : decode cL_law 283 = .ok (.aload_n 0, 1) := by decide +kernel
theorem dL_law_284 : decode cL_law 284 = .ok (.iload 4, 2) := by decide +kernel
theorem dL_law_286 : decode cL_law 286 = .ok (.iconst 1, 1) := by decide +kernel
theorem dL_law_287 : decode cL_law 287 = .ok (.iadd, 1) := by decide +kernel
theorem dL_law_288 : decode cL_law 288 = .ok (.iaload, 1) := by decide +kernel
theorem dL_law_289 : decode cL_law 289 = .ok (.aload_n 0, 1) := by decide +kernel
theorem dL_law_290 : decode cL_law 290 = .ok (.iload 4, 2) := by decide +kernel
theorem dL_law_292 : decode cL_law 292 = .ok (.iconst 2, 1) := by decide +kernel
theorem dL_law_293 : decode cL_law 293 = .ok (.iadd, 1) := by decide +kernel
theorem dL_law_294 : decode cL_law 294 = .ok (.iaload, 1) := by decide +kernel
theorem dL_law_295 : decode cL_law 295 = .ok (.invokevirtual 46, 3) := by decide +kernel
theorem dL_law_298 : decode cL_law 298 = .ok (.aload_n 2, 1) := by decide +kernel
theorem dL_law_299 : decode cL_law 299 = .ok (.aload_n 0, 1) := by decide +kernel
theorem dL_law_300 : decode cL_law 300 = .ok (.iload 4, 2) := by decide +kernel
theorem dL_law_302 : decode cL_law 302 = .ok (.iconst 1, 1) := by decide +kernel
theorem dL_law_303 : decode cL_law 303 = .ok (.iadd, 1) := by decide +kernel
theorem dL_law_304 : decode cL_law 304 = .ok (.iaload, 1) := by decide +kernel
theorem dL_law_305 : decode cL_law 305 = .ok (.aload_n 0, 1) := by decide +kernel
theorem dL_law_306 : decode cL_law 306 = .ok (.iload 4, 2) := by decide +kernel
theorem dL_law_308 : decode cL_law 308 = .ok (.iconst 2, 1) := by decide +kernel
theorem dL_law_309 : decode cL_law 309 = .ok (.iadd, 1) := by decide +kernel
theorem dL_law_310 : decode cL_law 310 = .ok (.iaload, 1) := by decide +kernel
theorem dL_law_311 : decode cL_law 311 = .ok (.invokevirtual 49, 3) := by decide +kernel
theorem dL_law_314 : decode cL_law 314 = .ok (.if_icmp .eq 160, 3) := by decide +kernel
theorem dL_law_317 : decode cL_law 317 = .ok (.iconst 0, 1) := by decide +kernel
theorem dL_law_318 : decode cL_law 318 = .ok (.ireturn, 1) := by decide +kernel
theorem dL_law_319 : decode cL_law 319 = .ok (.aload_n 1, 1) := by decide +kernel
theorem dL_law_320 : decode cL_law 320 = .ok (.aload_n 0, 1) := by decide +kernel
theorem dL_law_321 : decode cL_law 321 = .ok (.iload 4, 2) := by decide +kernel
theorem dL_law_323 : decode cL_law 323 = .ok (.iconst 1, 1) := by decide +kernel
theorem dL_law_324 : decode cL_law 324 = .ok (.iadd, 1) := by decide +kernel
theorem dL_law_325 : decode cL_law 325 = .ok (.iaload, 1) := by decide +kernel
theorem dL_law_326 : decode cL_law 326 = .ok (.invokevirtual 50, 3) := by decide +kernel
theorem dL_law_329 : decode cL_law 329 = .ok (.aload_n 2, 1) := by decide +kernel
theorem dL_law_330 : decode cL_law 330 = .ok (.aload_n 0, 1) := by decide +kernel
theorem dL_law_331 : decode cL_law 331 = .ok (.iload 4, 2) := by decide +kernel
theorem dL_law_333 : decode cL_law 333 = .ok (.iconst 1, 1) := by decide +kernel
theorem dL_law_334 : decode cL_law 334 = .ok (.iadd, 1) := by decide +kernel
theorem dL_law_335 : decode cL_law 335 = .ok (.iaload, 1) := by decide +kernel
theorem dL_law_336 : decode cL_law 336 = .ok (.invokevirtual 53, 3) := by decide +kernel
theorem dL_law_339 : decode cL_law 339 = .ok (.if_icmp .eq 135, 3) := by decide +kernel
theorem dL_law_342 : decode cL_law 342 = .ok (.iconst 0, 1) := by decide +kernel
theorem dL_law_343 : decode cL_law 343 = .ok (.ireturn, 1) := by decide +kernel
theorem dL_law_344 : decode cL_law 344 = .ok (.aload_n 1, 1) := by decide +kernel
theorem dL_law_345 : decode cL_law 345 = .ok (.aload_n 0, 1) := by decide +kernel
theorem dL_law_346 : decode cL_law 346 = .ok (.iload 4, 2) := by decide +kernel
theorem dL_law_348 : decode cL_law 348 = .ok (.iconst 1, 1) := by decide +kernel
theorem dL_law_349 : decode cL_law 349 = .ok (.iadd, 1) := by decide +kernel
theorem dL_law_350 : decode cL_law 350 = .ok (.iaload, 1) := by decide +kernel
theorem dL_law_351 : decode cL_law 351 = .ok (.aload_n 0, 1) := by decide +kernel
theorem dL_law_352 : decode cL_law 352 = .ok (.iload 4, 2) := by decide +kernel
theorem dL_law_354 : decode cL_law 354 = .ok (.iconst 2, 1) := by decide +kernel
theorem dL_law_355 : decode cL_law 355 = .ok (.iadd, 1) := by decide +kernel
theorem dL_law_356 : decode cL_law 356 = .ok (.iaload, 1) := by decide +kernel
theorem dL_law_357 : decode cL_law 357 = .ok (.invokevirtual 54, 3) := by decide +kernel
theorem dL_law_360 : decode cL_law 360 = .ok (.aload_n 2, 1) := by decide +kernel
theorem dL_law_361 : decode cL_law 361 = .ok (.aload_n 0, 1) := by decide +kernel
theorem dL_law_362 : decode cL_law 362 = .ok (.iload 4, 2) := by decide +kernel
theorem dL_law_364 : decode cL_law 364 = .ok (.iconst 1, 1) := by decide +kernel
theorem dL_law_365 : decode cL_law 365 = .ok (.iadd, 1) := by decide +kernel
theorem dL_law_366 : decode cL_law 366 = .ok (.iaload, 1) := by decide +kernel
theorem dL_law_367 : decode cL_law 367 = .ok (.aload_n 0, 1) := by decide +kernel
theorem dL_law_368 : decode cL_law 368 = .ok (.iload 4, 2) := by decide +kernel
theorem dL_law_370 : decode cL_law 370 = .ok (.iconst 2, 1) := by decide +kernel
theorem dL_law_371 : decode cL_law 371 = .ok (.iadd, 1) := by decide +kernel
theorem dL_law_372 : decode cL_law 372 = .ok (.iaload, 1) := by decide +kernel
theorem dL_law_373 : decode cL_law 373 = .ok (.invokevirtual 57, 3) := by decide +kernel
theorem dL_law_376 : decode cL_law 376 = .ok (.if_icmp .eq 98, 3) := by decide +kernel
theorem dL_law_379 : decode cL_law 379 = .ok (.iconst 0, 1) := by decide +kernel
theorem dL_law_380 : decode cL_law 380 = .ok (.ireturn, 1) := by decide +kernel
theorem dL_law_381 : decode cL_law 381 = .ok (.aload_n 1, 1) := by decide +kernel
theorem dL_law_382 : decode cL_law 382 = .ok (.aload_n 0, 1) := by decide +kernel
theorem dL_law_383 : decode cL_law 383 = .ok (.iload 4, 2) := by decide +kernel
theorem dL_law_385 : decode cL_law 385 = .ok (.iconst 1, 1) := by decide +kernel
theorem dL_law_386 : decode cL_law 386 = .ok (.iadd, 1) := by decide +kernel
theorem dL_law_387 : decode cL_law 387 = .ok (.iaload, 1) := by decide +kernel
theorem dL_law_388 : decode cL_law 388 = .ok (.aload_n 0, 1) := by decide +kernel
theorem dL_law_389 : decode cL_law 389 = .ok (.iload 4, 2) := by decide +kernel
theorem dL_law_391 : decode cL_law 391 = .ok (.iconst 2, 1) := by decide +kernel
theorem dL_law_392 : decode cL_law 392 = .ok (.iadd, 1) := by decide +kernel
theorem dL_law_393 : decode cL_law 393 = .ok (.iaload, 1) := by decide +kernel
theorem dL_law_394 : decode cL_law 394 = .ok (.invokevirtual 58, 3) := by decide +kernel
theorem dL_law_397 : decode cL_law 397 = .ok (.aload_n 2, 1) := by decide +kernel
theorem dL_law_398 : decode cL_law 398 = .ok (.aload_n 0, 1) := by decide +kernel
theorem dL_law_399 : decode cL_law 399 = .ok (.iload 4, 2) := by decide +kernel
theorem dL_law_401 : decode cL_law 401 = .ok (.iconst 1, 1) := by decide +kernel
theorem dL_law_402 : decode cL_law 402 = .ok (.iadd, 1) := by decide +kernel
theorem dL_law_403 : decode cL_law 403 = .ok (.iaload, 1) := by decide +kernel
theorem dL_law_404 : decode cL_law 404 = .ok (.aload_n 0, 1) := by decide +kernel
theorem dL_law_405 : decode cL_law 405 = .ok (.iload 4, 2) := by decide +kernel
theorem dL_law_407 : decode cL_law 407 = .ok (.iconst 2, 1) := by decide +kernel
theorem dL_law_408 : decode cL_law 408 = .ok (.iadd, 1) := by decide +kernel
theorem dL_law_409 : decode cL_law 409 = .ok (.iaload, 1) := by decide +kernel
theorem dL_law_410 : decode cL_law 410 = .ok (.invokevirtual 61, 3) := by decide +kernel
theorem dL_law_413 : decode cL_law 413 = .ok (.if_icmp .eq 61, 3) := by decide +kernel
theorem dL_law_416 : decode cL_law 416 = .ok (.iconst 0, 1) := by decide +kernel
theorem dL_law_417 : decode cL_law 417 = .ok (.ireturn, 1) := by decide +kernel
theorem dL_law_418 : decode cL_law 418 = .ok (.aload_n 1, 1) := by decide +kernel
theorem dL_law_419 : decode cL_law 419 = .ok (.aload_n 0, 1) := by decide +kernel
theorem dL_law_420 : decode cL_law 420 = .ok (.iload 4, 2) := by decide +kernel
theorem dL_law_422 : decode cL_law 422 = .ok (.iconst 1, 1) := by decide +kernel
theorem dL_law_423 : decode cL_law 423 = .ok (.iadd, 1) := by decide +kernel
theorem dL_law_424 : decode cL_law 424 = .ok (.iaload, 1) := by decide +kernel
theorem dL_law_425 : decode cL_law 425 = .ok (.aload_n 3, 1) := by decide +kernel
theorem dL_law_426 : decode cL_law 426 = .ok (.invokestatic 62, 3) := by decide +kernel
theorem dL_law_429 : decode cL_law 429 = .ok (.istore 5, 2) := by decide +kernel
theorem dL_law_431 : decode cL_law 431 = .ok (.aload_n 2, 1) := by decide +kernel
theorem dL_law_432 : decode cL_law 432 = .ok (.aload_n 0, 1) := by decide +kernel
theorem dL_law_433 : decode cL_law 433 = .ok (.iload 4, 2) := by decide +kernel
theorem dL_law_435 : decode cL_law 435 = .ok (.iconst 1, 1) := by decide +kernel
theorem dL_law_436 : decode cL_law 436 = .ok (.iadd, 1) := by decide +kernel
theorem dL_law_437 : decode cL_law 437 = .ok (.iaload, 1) := by decide +kernel
theorem dL_law_438 : decode cL_law 438 = .ok (.invokevirtual 67, 3) := by decide +kernel
theorem dL_law_441 : decode cL_law 441 = .ok (.istore 6, 2) := by decide +kernel
theorem dL_law_443 : decode cL_law 443 = .ok (.aload_n 2, 1) := by decide +kernel
theorem dL_law_444 : decode cL_law 444 = .ok (.invokevirtual 68, 3) := by decide +kernel
theorem dL_law_447 : decode cL_law 447 = .ok (.iload 5, 2) := by decide +kernel
theorem dL_law_449 : decode cL_law 449 = .ok (.if_icmp .eq 5, 3) := by decide +kernel
theorem dL_law_452 : decode cL_law 452 = .ok (.iconst 0, 1) := by decide +kernel
theorem dL_law_453 : decode cL_law 453 = .ok (.ireturn, 1) := by decide +kernel
theorem dL_law_454 : decode cL_law 454 = .ok (.iload 5, 2) := by decide +kernel
theorem dL_law_456 : decode cL_law 456 = .ok (.ifCond .ne 15, 3) := by decide +kernel
theorem dL_law_459 : decode cL_law 459 = .ok (.aload_n 3, 1) := by decide +kernel
theorem dL_law_460 : decode cL_law 460 = .ok (.iconst 0, 1) := by decide +kernel
theorem dL_law_461 : decode cL_law 461 = .ok (.laload, 1) := by decide +kernel
theorem dL_law_462 : decode cL_law 462 = .ok (.iload 6, 2) := by decide +kernel
theorem dL_law_464 : decode cL_law 464 = .ok (.i2l, 1) := by decide +kernel
theorem dL_law_465 : decode cL_law 465 = .ok (.lcmp, 1) := by decide +kernel
theorem dL_law_466 : decode cL_law 466 = .ok (.ifCond .eq 5, 3) := by decide +kernel
theorem dL_law_469 : decode cL_law 469 = .ok (.iconst 0, 1) := by decide +kernel
theorem dL_law_470 : decode cL_law 470 = .ok (.ireturn, 1) := by decide +kernel
theorem dL_law_471 : decode cL_law 471 = .ok (.goto 3, 3) := by decide +kernel
theorem dL_law_474 : decode cL_law 474 = .ok (.iinc 4 4, 3) := by decide +kernel
theorem dL_law_477 : decode cL_law 477 = .ok (.goto (-454), 3) := by decide +kernel
theorem dL_law_480 : decode cL_law 480 = .ok (.iconst 1, 1) := by decide +kernel
theorem dL_law_481 : decode cL_law 481 = .ok (.ireturn, 1) := by decide +kernel
theorem dX0_init_0 : decode cX0_init 0 = .ok (.aload_n 0, 1) := by decide +kernel
theorem dX0_init_1 : decode cX0_init 1 = .ok (.invokespecial 3, 3) := by decide +kernel
theorem dX0_init_4 : decode cX0_init 4 = .ok (.aload_n 0, 1) := by decide +kernel
theorem dX0_init_5 : decode cX0_init 5 = .ok (.bipush 8, 2) := by decide +kernel
theorem dX0_init_7 : decode cX0_init 7 = .ok (.newarray .boolean, 2) := by decide +kernel
theorem dX0_init_9 : decode cX0_init 9 = .ok (.putfield 9, 3) := by decide +kernel
theorem dX0_init_12 : decode cX0_init 12 = .ok (.aload_n 0, 1) := by decide +kernel
theorem dX0_init_13 : decode cX0_init 13 = .ok (.bipush 8, 2) := by decide +kernel
theorem dX0_init_15 : decode cX0_init 15 = .ok (.newarray .int, 2) := by decide +kernel
theorem dX0_init_17 : decode cX0_init 17 = .ok (.putfield 15, 3) := by decide +kernel
theorem dX0_init_20 : decode cX0_init 20 = .ok (.return_, 1) := by decide +kernel
theorem dX0_has_0 : decode cX0_has 0 = .ok (.iload_n 1, 1) := by decide +kernel
theorem dX0_has_1 : decode cX0_has 1 = .ok (.ifCond .lt 13, 3) := by decide +kernel
theorem dX0_has_4 : decode cX0_has 4 = .ok (.iload_n 1, 1) := by decide +kernel
theorem dX0_has_5 : decode cX0_has 5 = .ok (.bipush 8, 2) := by decide +kernel
theorem dX0_has_7 : decode cX0_has 7 = .ok (.if_icmp .ge 7, 3) := by decide +kernel
theorem dX0_has_10 : decode cX0_has 10 = .ok (.iconst 1, 1) := by decide +kernel
theorem dX0_has_11 : decode cX0_has 11 = .ok (.goto 4, 3) := by decide +kernel
theorem dX0_has_14 : decode cX0_has 14 = .ok (.iconst 0, 1) := by decide +kernel
theorem dX0_has_15 : decode cX0_has 15 = .ok (.ireturn, 1) := by decide +kernel
theorem dX0_isFull_0 : decode cX0_isFull 0 = .ok (.aload_n 0, 1) := by decide +kernel
theorem dX0_isFull_1 : decode cX0_isFull 1 = .ok (.iload_n 1, 1) := by decide +kernel
theorem dX0_isFull_2 : decode cX0_isFull 2 = .ok (.invokevirtual 19, 3) := by decide +kernel
theorem dX0_isFull_5 : decode cX0_isFull 5 = .ok (.ifCond .eq 16, 3) := by decide +kernel
theorem dX0_isFull_8 : decode cX0_isFull 8 = .ok (.aload_n 0, 1) := by decide +kernel
theorem dX0_isFull_9 : decode cX0_isFull 9 = .ok (.getfield 9, 3) := by decide +kernel
theorem dX0_isFull_12 : decode cX0_isFull 12 = .ok (.iload_n 1, 1) := by decide +kernel
theorem dX0_isFull_13 : decode cX0_isFull 13 = .ok (.baload, 1) := by decide +kernel
theorem dX0_isFull_14 : decode cX0_isFull 14 = .ok (.ifCond .eq 7, 3) := by decide +kernel
theorem dX0_isFull_17 : decode cX0_isFull 17 = .ok (.iconst 1, 1) := by decide +kernel
theorem dX0_isFull_18 : decode cX0_isFull 18 = .ok (.goto 4, 3) := by decide +kernel
theorem dX0_isFull_21 : decode cX0_isFull 21 = .ok (.iconst 0, 1) := by decide +kernel
theorem dX0_isFull_22 : decode cX0_isFull 22 = .ok (.ireturn, 1) := by decide +kernel
theorem dX0_valueOf_0 : decode cX0_valueOf 0 = .ok (.aload_n 0, 1) := by decide +kernel
theorem dX0_valueOf_1 : decode cX0_valueOf 1 = .ok (.iload_n 1, 1) := by decide +kernel
theorem dX0_valueOf_2 : decode cX0_valueOf 2 = .ok (.invokevirtual 19, 3) := by decide +kernel
theorem dX0_valueOf_5 : decode cX0_valueOf 5 = .ok (.ifCond .eq 12, 3) := by decide +kernel
theorem dX0_valueOf_8 : decode cX0_valueOf 8 = .ok (.aload_n 0, 1) := by decide +kernel
theorem dX0_valueOf_9 : decode cX0_valueOf 9 = .ok (.getfield 15, 3) := by decide +kernel
theorem dX0_valueOf_12 : decode cX0_valueOf 12 = .ok (.iload_n 1, 1) := by decide +kernel
theorem dX0_valueOf_13 : decode cX0_valueOf 13 = .ok (.iaload, 1) := by decide +kernel
theorem dX0_valueOf_14 : decode cX0_valueOf 14 = .ok (.goto 4, 3) := by decide +kernel
theorem dX0_valueOf_17 : decode cX0_valueOf 17 = .ok (.iconst 0, 1) := by decide +kernel
theorem dX0_valueOf_18 : decode cX0_valueOf 18 = .ok (.ireturn, 1) := by decide +kernel
theorem dX0_keep_0 : decode cX0_keep 0 = .ok (.aload_n 0, 1) := by decide +kernel
theorem dX0_keep_1 : decode cX0_keep 1 = .ok (.iload_n 1, 1) := by decide +kernel
theorem dX0_keep_2 : decode cX0_keep 2 = .ok (.invokevirtual 19, 3) := by decide +kernel
theorem dX0_keep_5 : decode cX0_keep 5 = .ok (.ifCond .eq 17, 3) := by decide +kernel
theorem dX0_keep_8 : decode cX0_keep 8 = .ok (.aload_n 0, 1) := by decide +kernel
theorem dX0_keep_9 : decode cX0_keep 9 = .ok (.getfield 9, 3) := by decide +kernel
theorem dX0_keep_12 : decode cX0_keep 12 = .ok (.iload_n 1, 1) := by decide +kernel
theorem dX0_keep_13 : decode cX0_keep 13 = .ok (.iconst 1, 1) := by decide +kernel
theorem dX0_keep_14 : decode cX0_keep 14 = .ok (.bastore, 1) := by decide +kernel
theorem dX0_keep_15 : decode cX0_keep 15 = .ok (.aload_n 0, 1) := by decide +kernel
theorem dX0_keep_16 : decode cX0_keep 16 = .ok (.getfield 15, 3) := by decide +kernel
theorem dX0_keep_19 : decode cX0_keep 19 = .ok (.iload_n 1, 1) := by decide +kernel
theorem dX0_keep_20 : decode cX0_keep 20 = .ok (.iload_n 2, 1) := by decide +kernel
theorem dX0_keep_21 : decode cX0_keep 21 = .ok (.iastore, 1) := by decide +kernel
theorem dX0_keep_22 : decode cX0_keep 22 = .ok (.return_, 1) := by decide +kernel
theorem dX0_empty_0 : decode cX0_empty 0 = .ok (.aload_n 0, 1) := by decide +kernel
theorem dX0_empty_1 : decode cX0_empty 1 = .ok (.iload_n 1, 1) := by decide +kernel
theorem dX0_empty_2 : decode cX0_empty 2 = .ok (.invokevirtual 19, 3) := by decide +kernel
theorem dX0_empty_5 : decode cX0_empty 5 = .ok (.ifCond .eq 10, 3) := by decide +kernel
theorem dX0_empty_8 : decode cX0_empty 8 = .ok (.aload_n 0, 1) := by decide +kernel
theorem dX0_empty_9 : decode cX0_empty 9 = .ok (.getfield 9, 3) := by decide +kernel
theorem dX0_empty_12 : decode cX0_empty 12 = .ok (.iload_n 1, 1) := by decide +kernel
theorem dX0_empty_13 : decode cX0_empty 13 = .ok (.iconst 0, 1) := by decide +kernel
theorem dX0_empty_14 : decode cX0_empty 14 = .ok (.bastore, 1) := by decide +kernel
theorem dX0_empty_15 : decode cX0_empty 15 = .ok (.return_, 1) := by decide +kernel
theorem dX1_init_0 : decode cX1_init 0 = .ok (.aload_n 0, 1) := by decide +kernel
theorem dX1_init_1 : decode cX1_init 1 = .ok (.invokespecial 3, 3) := by decide +kernel
theorem dX1_init_4 : decode cX1_init 4 = .ok (.aload_n 0, 1) := by decide +kernel
theorem dX1_init_5 : decode cX1_init 5 = .ok (.iconst 4, 1) := by decide +kernel
theorem dX1_init_6 : decode cX1_init 6 = .ok (.newarray .int, 2) := by decide +kernel
theorem dX1_init_8 : decode cX1_init 8 = .ok (.putfield 9, 3) := by decide +kernel
theorem dX1_init_11 : decode cX1_init 11 = .ok (.aload_n 0, 1) := by decide +kernel
theorem dX1_init_12 : decode cX1_init 12 = .ok (.iconst 4, 1) := by decide +kernel
theorem dX1_init_13 : decode cX1_init 13 = .ok (.newarray .int, 2) := by decide +kernel
theorem dX1_init_15 : decode cX1_init 15 = .ok (.putfield 15, 3) := by decide +kernel
theorem dX1_init_18 : decode cX1_init 18 = .ok (.aload_n 0, 1) := by decide +kernel
theorem dX1_init_19 : decode cX1_init 19 = .ok (.iconst 0, 1) := by decide +kernel
theorem dX1_init_20 : decode cX1_init 20 = .ok (.putfield 18, 3) := by decide +kernel
theorem dX1_init_23 : decode cX1_init 23 = .ok (.aload_n 0, 1) := by decide +kernel
theorem dX1_init_24 : decode cX1_init 24 = .ok (.iconst 0, 1) := by decide +kernel
theorem dX1_init_25 : decode cX1_init 25 = .ok (.putfield 22, 3) := by decide +kernel
theorem dX1_init_28 : decode cX1_init 28 = .ok (.aload_n 0, 1) := by decide +kernel
theorem dX1_init_29 : decode cX1_init 29 = .ok (.iconst 0, 1) := by decide +kernel
theorem dX1_init_30 : decode cX1_init 30 = .ok (.putfield 25, 3) := by decide +kernel
theorem dX1_init_33 : decode cX1_init 33 = .ok (.aload_n 0, 1) := by decide +kernel
theorem dX1_init_34 : decode cX1_init 34 = .ok (.iconst 0, 1) := by decide +kernel
theorem dX1_init_35 : decode cX1_init 35 = .ok (.putfield 28, 3) := by decide +kernel
theorem dX1_init_38 : decode cX1_init 38 = .ok (.aload_n 0, 1) := by decide +kernel
theorem dX1_init_39 : decode cX1_init 39 = .ok (.iconst 0, 1) := by decide +kernel
theorem dX1_init_40 : decode cX1_init 40 = .ok (.putfield 31, 3) := by decide +kernel
theorem dX1_init_43 : decode cX1_init 43 = .ok (.aload_n 0, 1) := by decide +kernel
theorem dX1_init_44 : decode cX1_init 44 = .ok (.iconst 0, 1) := by decide +kernel
theorem dX1_init_45 : decode cX1_init 45 = .ok (.putfield 34, 3) := by decide +kernel
theorem dX1_init_48 : decode cX1_init 48 = .ok (.aload_n 0, 1) := by decide +kernel
theorem dX1_init_49 : decode cX1_init 49 = .ok (.iconst 0, 1) := by decide +kernel
theorem dX1_init_50 : decode cX1_init 50 = .ok (.putfield 37, 3) := by decide +kernel
theorem dX1_init_53 : decode cX1_init 53 = .ok (.aload_n 0, 1) := by decide +kernel
theorem dX1_init_54 : decode cX1_init 54 = .ok (.iconst 0, 1) := by decide +kernel
theorem dX1_init_55 : decode cX1_init 55 = .ok (.putfield 41, 3) := by decide +kernel
theorem dX1_init_58 : decode cX1_init 58 = .ok (.aload_n 0, 1) := by decide +kernel
theorem dX1_init_59 : decode cX1_init 59 = .ok (.iconst 0, 1) := by decide +kernel
theorem dX1_init_60 : decode cX1_init 60 = .ok (.putfield 44, 3) := by decide +kernel
theorem dX1_init_63 : decode cX1_init 63 = .ok (.aload_n 0, 1) := by decide +kernel
theorem dX1_init_64 : decode cX1_init 64 = .ok (.iconst 0, 1) := by decide +kernel
theorem dX1_init_65 : decode cX1_init 65 = .ok (.putfield 47, 3) := by decide +kernel
theorem dX1_init_68 : decode cX1_init 68 = .ok (.aload_n 0, 1) := by decide +kernel
theorem dX1_init_69 : decode cX1_init 69 = .ok (.iconst 0, 1) := by decide +kernel
theorem dX1_init_70 : decode cX1_init 70 = .ok (.putfield 50, 3) := by decide +kernel
theorem dX1_init_73 : decode cX1_init 73 = .ok (.aload_n 0, 1) := by decide +kernel
theorem dX1_init_74 : decode cX1_init 74 = .ok (.iconst 0, 1) := by decide +kernel
theorem dX1_init_75 : decode cX1_init 75 = .ok (.putfield 53, 3) := by decide +kernel
theorem dX1_init_78 : decode cX1_init 78 = .ok (.aload_n 0, 1) := by decide +kernel
theorem dX1_init_79 : decode cX1_init 79 = .ok (.iload_n 1, 1) := by decide +kernel
theorem dX1_init_80 : decode cX1_init 80 = .ok (.putfield 56, 3) := by decide +kernel
theorem dX1_init_83 : decode cX1_init 83 = .ok (.return_, 1) := by decide +kernel
theorem dX1_reset_0 : decode cX1_reset 0 = .ok (.aload_n 0, 1) := by decide +kernel
theorem dX1_reset_1 : decode cX1_reset 1 = .ok (.iconst 0, 1) := by decide +kernel
theorem dX1_reset_2 : decode cX1_reset 2 = .ok (.putfield 18, 3) := by decide +kernel
theorem dX1_reset_5 : decode cX1_reset 5 = .ok (.aload_n 0, 1) := by decide +kernel
theorem dX1_reset_6 : decode cX1_reset 6 = .ok (.iload_n 1, 1) := by decide +kernel
theorem dX1_reset_7 : decode cX1_reset 7 = .ok (.putfield 22, 3) := by decide +kernel
theorem dX1_reset_10 : decode cX1_reset 10 = .ok (.aload_n 0, 1) := by decide +kernel
theorem dX1_reset_11 : decode cX1_reset 11 = .ok (.iconst 0, 1) := by decide +kernel
theorem dX1_reset_12 : decode cX1_reset 12 = .ok (.putfield 25, 3) := by decide +kernel
theorem dX1_reset_15 : decode cX1_reset 15 = .ok (.aload_n 0, 1) := by decide +kernel
theorem dX1_reset_16 : decode cX1_reset 16 = .ok (.iload_n 2, 1) := by decide +kernel
theorem dX1_reset_17 : decode cX1_reset 17 = .ok (.putfield 28, 3) := by decide +kernel
theorem dX1_reset_20 : decode cX1_reset 20 = .ok (.aload_n 0, 1) := by decide +kernel
theorem dX1_reset_21 : decode cX1_reset 21 = .ok (.iconst 0, 1) := by decide +kernel
theorem dX1_reset_22 : decode cX1_reset 22 = .ok (.putfield 31, 3) := by decide +kernel
theorem dX1_reset_25 : decode cX1_reset 25 = .ok (.aload_n 0, 1) := by decide +kernel
theorem dX1_reset_26 : decode cX1_reset 26 = .ok (.iconst 0, 1) := by decide +kernel
theorem dX1_reset_27 : decode cX1_reset 27 = .ok (.putfield 34, 3) := by decide +kernel
theorem dX1_reset_30 : decode cX1_reset 30 = .ok (.aload_n 0, 1) := by decide +kernel
theorem dX1_reset_31 : decode cX1_reset 31 = .ok (.iconst 0, 1) := by decide +kernel
theorem dX1_reset_32 : decode cX1_reset 32 = .ok (.putfield 37, 3) := by decide +kernel
theorem dX1_reset_35 : decode cX1_reset 35 = .ok (.aload_n 0, 1) := by decide +kernel
theorem dX1_reset_36 : decode cX1_reset 36 = .ok (.iconst 0, 1) := by decide +kernel
theorem dX1_reset_37 : decode cX1_reset 37 = .ok (.putfield 41, 3) := by decide +kernel
theorem dX1_reset_40 : decode cX1_reset 40 = .ok (.aload_n 0, 1) := by decide +kernel
theorem dX1_reset_41 : decode cX1_reset 41 = .ok (.iconst 0, 1) := by decide +kernel
theorem dX1_reset_42 : decode cX1_reset 42 = .ok (.putfield 44, 3) := by decide +kernel
theorem dX1_reset_45 : decode cX1_reset 45 = .ok (.return_, 1) := by decide +kernel
theorem dX1_waits_0 : decode cX1_waits 0 = .ok (.aload_n 0, 1) := by decide +kernel
theorem dX1_waits_1 : decode cX1_waits 1 = .ok (.getfield 18, 3) := by decide +kernel
theorem dX1_waits_4 : decode cX1_waits 4 = .ok (.iconst 1, 1) := by decide +kernel
theorem dX1_waits_5 : decode cX1_waits 5 = .ok (.if_icmp .lt 15, 3) := by decide +kernel
theorem dX1_waits_8 : decode cX1_waits 8 = .ok (.aload_n 0, 1) := by decide +kernel
theorem dX1_waits_9 : decode cX1_waits 9 = .ok (.getfield 18, 3) := by decide +kernel
theorem dX1_waits_12 : decode cX1_waits 12 = .ok (.iconst 3, 1) := by decide +kernel
theorem dX1_waits_13 : decode cX1_waits 13 = .ok (.if_icmp .gt 7, 3) := by decide +kernel
theorem dX1_waits_16 : decode cX1_waits 16 = .ok (.iconst 1, 1) := by decide +kernel
theorem dX1_waits_17 : decode cX1_waits 17 = .ok (.goto 4, 3) := by decide +kernel
theorem dX1_waits_20 : decode cX1_waits 20 = .ok (.iconst 0, 1) := by decide +kernel
theorem dX1_waits_21 : decode cX1_waits 21 = .ok (.ireturn, 1) := by decide +kernel
theorem dX1_waitsAt_0 : decode cX1_waitsAt 0 = .ok (.aload_n 0, 1) := by decide +kernel
theorem dX1_waitsAt_1 : decode cX1_waitsAt 1 = .ok (.getfield 18, 3) := by decide +kernel
theorem dX1_waitsAt_4 : decode cX1_waitsAt 4 = .ok (.iload_n 2, 1) := by decide +kernel
theorem dX1_waitsAt_5 : decode cX1_waitsAt 5 = .ok (.if_icmp .ne 15, 3) := by decide +kernel
theorem dX1_waitsAt_8 : decode cX1_waitsAt 8 = .ok (.aload_n 0, 1) := by decide +kernel
theorem dX1_waitsAt_9 : decode cX1_waitsAt 9 = .ok (.getfield 50, 3) := by decide +kernel
theorem dX1_waitsAt_12 : decode cX1_waitsAt 12 = .ok (.iload_n 1, 1) := by decide +kernel
theorem dX1_waitsAt_13 : decode cX1_waitsAt 13 = .ok (.if_icmp .ne 7, 3) := by decide +kernel
theorem dX1_waitsAt_16 : decode cX1_waitsAt 16 = .ok (.iconst 1, 1) := by decide +kernel
theorem dX1_waitsAt_17 : decode cX1_waitsAt 17 = .ok (.goto 4, 3) := by decide +kernel
theorem dX1_waitsAt_20 : decode cX1_waitsAt 20 = .ok (.iconst 0, 1) := by decide +kernel
theorem dX1_waitsAt_21 : decode cX1_waitsAt 21 = .ok (.ireturn, 1) := by decide +kernel
theorem dX1_isAway_0 : decode cX1_isAway 0 = .ok (.aload_n 0, 1) := by decide +kernel
theorem dX1_isAway_1 : decode cX1_isAway 1 = .ok (.getfield 18, 3) := by decide +kernel
theorem dX1_isAway_4 : decode cX1_isAway 4 = .ok (.iconst 1, 1) := by decide +kernel
theorem dX1_isAway_5 : decode cX1_isAway 5 = .ok (.if_icmp .lt 15, 3) := by decide +kernel
theorem dX1_isAway_8 : decode cX1_isAway 8 = .ok (.aload_n 0, 1) := by decide +kernel
theorem dX1_isAway_9 : decode cX1_isAway 9 = .ok (.getfield 18, 3) := by decide +kernel
theorem dX1_isAway_12 : decode cX1_isAway 12 = .ok (.iconst 4, 1) := by decide +kernel
theorem dX1_isAway_13 : decode cX1_isAway 13 = .ok (.if_icmp .gt 7, 3) := by decide +kernel
theorem dX1_isAway_16 : decode cX1_isAway 16 = .ok (.iconst 1, 1) := by decide +kernel
theorem dX1_isAway_17 : decode cX1_isAway 17 = .ok (.goto 4, 3) := by decide +kernel
theorem dX1_isAway_20 : decode cX1_isAway 20 = .ok (.iconst 0, 1) := by decide +kernel
theorem dX1_isAway_21 : decode cX1_isAway 21 = .ok (.ireturn, 1) := by decide +kernel
theorem dX1_isDone_0 : decode cX1_isDone 0 = .ok (.aload_n 0, 1) := by decide +kernel
theorem dX1_isDone_1 : decode cX1_isDone 1 = .ok (.getfield 18, 3) := by decide +kernel
theorem dX1_isDone_4 : decode cX1_isDone 4 = .ok (.iconst 5, 1) := by decide +kernel
theorem dX1_isDone_5 : decode cX1_isDone 5 = .ok (.if_icmp .lt 7, 3) := by decide +kernel
theorem dX1_isDone_8 : decode cX1_isDone 8 = .ok (.iconst 1, 1) := by decide +kernel
theorem dX1_isDone_9 : decode cX1_isDone 9 = .ok (.goto 4, 3) := by decide +kernel
theorem dX1_isDone_12 : decode cX1_isDone 12 = .ok (.iconst 0, 1) := by decide +kernel
theorem dX1_isDone_13 : decode cX1_isDone 13 = .ok (.ireturn, 1) := by decide +kernel
theorem dX1_addHandler_0 : decode cX1_addHandler 0 = .ok (.aload_n 0, 1) := by decide +kernel
theorem dX1_addHandler_1 : decode cX1_addHandler 1 = .ok (.getfield 31, 3) := by decide +kernel
theorem dX1_addHandler_4 : decode cX1_addHandler 4 = .ok (.iconst 4, 1) := by decide +kernel
theorem dX1_addHandler_5 : decode cX1_addHandler 5 = .ok (.if_icmp .ge 23, 3) := by decide +kernel
theorem dX1_addHandler_8 : decode cX1_addHandler 8 = .ok (.aload_n 0, 1) := by decide +kernel
theorem dX1_addHandler_9 : decode cX1_addHandler 9 = .ok (.getfield 9, 3) := by decide +kernel
theorem dX1_addHandler_12 : decode cX1_addHandler 12 = .ok (.aload_n 0, 1) := by decide +kernel
theorem dX1_addHandler_13 : decode cX1_addHandler 13 = .ok (.getfield 31, 3) := by decide +kernel
theorem dX1_addHandler_16 : decode cX1_addHandler 16 = .ok (.iload_n 1, 1) := by decide +kernel
theorem dX1_addHandler_17 : decode cX1_addHandler 17 = .ok (.iastore, 1) := by decide +kernel
theorem dX1_addHandler_18 : decode cX1_addHandler 18 = .ok (.aload_n 0, 1) := by decide +kernel
theorem dX1_addHandler_19 : decode cX1_addHandler 19 = .ok (.dup, 1) := by decide +kernel
theorem dX1_addHandler_20 : decode cX1_addHandler 20 = .ok (.getfield 31, 3) := by decide +kernel
theorem dX1_addHandler_23 : decode cX1_addHandler 23 = .ok (.iconst 1, 1) := by decide +kernel
theorem dX1_addHandler_24 : decode cX1_addHandler 24 = .ok (.iadd, 1) := by decide +kernel
theorem dX1_addHandler_25 : decode cX1_addHandler 25 = .ok (.putfield 31, 3) := by decide +kernel
theorem dX1_addHandler_28 : decode cX1_addHandler 28 = .ok (.return_, 1) := by decide +kernel
theorem dX1_dropHandler_0 : decode cX1_dropHandler 0 = .ok (.aload_n 0, 1) := by decide +kernel
theorem dX1_dropHandler_1 : decode cX1_dropHandler 1 = .ok (.getfield 31, 3) := by decide +kernel
theorem dX1_dropHandler_4 : decode cX1_dropHandler 4 = .ok (.ifCond .le 13, 3) := by decide +kernel
theorem dX1_dropHandler_7 : decode cX1_dropHandler 7 = .ok (.aload_n 0, 1) := by decide +kernel
theorem dX1_dropHandler_8 : decode cX1_dropHandler 8 = .ok (.dup, 1) := by decide +kernel
theorem dX1_dropHandler_9 : decode cX1_dropHandler 9 = .ok (.getfield 31, 3) := by decide +kernel
theorem dX1_dropHandler_12 : decode cX1_dropHandler 12 = .ok (.iconst 1, 1) := by decide +kernel
theorem dX1_dropHandler_13 : decode cX1_dropHandler 13 = .ok (.isub, 1) := by decide +kernel
theorem dX1_dropHandler_14 : decode cX1_dropHandler 14 = .ok (.putfield 31, 3) := by decide +kernel
theorem dX1_dropHandler_17 : decode cX1_dropHandler 17 = .ok (.return_, 1) := by decide +kernel
theorem dX1_handles_0 : decode cX1_handles 0 = .ok (.aload_n 0, 1) := by decide +kernel
theorem dX1_handles_1 : decode cX1_handles 1 = .ok (.getfield 31, 3) := by decide +kernel
theorem dX1_handles_4 : decode cX1_handles 4 = .ok (.ifCond .gt 5, 3) := by decide +kernel
theorem dX1_handles_7 : decode cX1_handles 7 = .ok (.iconst 0, 1) := by decide +kernel
theorem dX1_handles_8 : decode cX1_handles 8 = .ok (.ireturn, 1) := by decide +kernel
theorem dX1_handles_9 : decode cX1_handles 9 = .ok (.aload_n 0, 1) := by decide +kernel
theorem dX1_handles_10 : decode cX1_handles 10 = .ok (.dup, 1) := by decide +kernel
theorem dX1_handles_11 : decode cX1_handles 11 = .ok (.getfield 31, 3) := by decide +kernel
theorem dX1_handles_14 : decode cX1_handles 14 = .ok (.iconst 1, 1) := by decide +kernel
theorem dX1_handles_15 : decode cX1_handles 15 = .ok (.isub, 1) := by decide +kernel
theorem dX1_handles_16 : decode cX1_handles 16 = .ok (.putfield 31, 3) := by decide +kernel
theorem dX1_handles_19 : decode cX1_handles 19 = .ok (.aload_n 0, 1) := by decide +kernel
theorem dX1_handles_20 : decode cX1_handles 20 = .ok (.aload_n 0, 1) := by decide +kernel
theorem dX1_handles_21 : decode cX1_handles 21 = .ok (.getfield 9, 3) := by decide +kernel
theorem dX1_handles_24 : decode cX1_handles 24 = .ok (.aload_n 0, 1) := by decide +kernel
theorem dX1_handles_25 : decode cX1_handles 25 = .ok (.getfield 31, 3) := by decide +kernel
theorem dX1_handles_28 : decode cX1_handles 28 = .ok (.iaload, 1) := by decide +kernel
theorem dX1_handles_29 : decode cX1_handles 29 = .ok (.putfield 25, 3) := by decide +kernel
theorem dX1_handles_32 : decode cX1_handles 32 = .ok (.aload_n 0, 1) := by decide +kernel
theorem dX1_handles_33 : decode cX1_handles 33 = .ok (.iload_n 1, 1) := by decide +kernel
theorem dX1_handles_34 : decode cX1_handles 34 = .ok (.putfield 28, 3) := by decide +kernel
theorem dX1_handles_37 : decode cX1_handles 37 = .ok (.iconst 1, 1) := by decide +kernel
theorem dX1_handles_38 : decode cX1_handles 38 = .ok (.ireturn, 1) := by decide +kernel
theorem dX1_addPending_0 : decode cX1_addPending 0 = .ok (.aload_n 0, 1) := by decide +kernel
theorem dX1_addPending_1 : decode cX1_addPending 1 = .ok (.getfield 34, 3) := by decide +kernel
theorem dX1_addPending_4 : decode cX1_addPending 4 = .ok (.iconst 4, 1) := by decide +kernel
theorem dX1_addPending_5 : decode cX1_addPending 5 = .ok (.if_icmp .ge 23, 3) := by decide +kernel
theorem dX1_addPending_8 : decode cX1_addPending 8 = .ok (.aload_n 0, 1) := by decide +kernel
theorem dX1_addPending_9 : decode cX1_addPending 9 = .ok (.getfield 15, 3) := by decide +kernel
theorem dX1_addPending_12 : decode cX1_addPending 12 = .ok (.aload_n 0, 1) := by decide +kernel
theorem dX1_addPending_13 : decode cX1_addPending 13 = .ok (.getfield 34, 3) := by decide +kernel
theorem dX1_addPending_16 : decode cX1_addPending 16 = .ok (.iload_n 1, 1) := by decide +kernel
theorem dX1_addPending_17 : decode cX1_addPending 17 = .ok (.iastore, 1) := by decide +kernel
theorem dX1_addPending_18 : decode cX1_addPending 18 = .ok (.aload_n 0, 1) := by decide +kernel
theorem dX1_addPending_19 : decode cX1_addPending 19 = .ok (.dup, 1) := by decide +kernel
theorem dX1_addPending_20 : decode cX1_addPending 20 = .ok (.getfield 34, 3) := by decide +kernel
theorem dX1_addPending_23 : decode cX1_addPending 23 = .ok (.iconst 1, 1) := by decide +kernel
theorem dX1_addPending_24 : decode cX1_addPending 24 = .ok (.iadd, 1) := by decide +kernel
theorem dX1_addPending_25 : decode cX1_addPending 25 = .ok (.putfield 34, 3) := by decide +kernel
theorem dX1_addPending_28 : decode cX1_addPending 28 = .ok (.return_, 1) := by decide +kernel
theorem dX1_takeEldest_0 : decode cX1_takeEldest 0 = .ok (.aload_n 0, 1) := by decide +kernel
theorem dX1_takeEldest_1 : decode cX1_takeEldest 1 = .ok (.getfield 15, 3) := by decide +kernel
theorem dX1_takeEldest_4 : decode cX1_takeEldest 4 = .ok (.iconst 0, 1) := by decide +kernel
theorem dX1_takeEldest_5 : decode cX1_takeEldest 5 = .ok (.iaload, 1) := by decide +kernel
theorem dX1_takeEldest_6 : decode cX1_takeEldest 6 = .ok (.istore_n 1, 1) := by decide +kernel
theorem dX1_takeEldest_7 : decode cX1_takeEldest 7 = .ok (.iconst 1, 1) := by decide +kernel
theorem dX1_takeEldest_8 : decode cX1_takeEldest 8 = .ok (.istore_n 2, 1) := by decide +kernel
theorem dX1_takeEldest_9 : decode cX1_takeEldest 9 = .ok (.iload_n 2, 1) := by decide +kernel
theorem dX1_takeEldest_10 : decode cX1_takeEldest 10 = .ok (.iconst 4, 1) := by decide +kernel
theorem dX1_takeEldest_11 : decode cX1_takeEldest 11 = .ok (.if_icmp .ge 23, 3) := by decide +kernel
theorem dX1_takeEldest_14 : decode cX1_takeEldest 14 = .ok (.aload_n 0, 1) := by decide +kernel
theorem dX1_takeEldest_15 : decode cX1_takeEldest 15 = .ok (.getfield 15, 3) := by decide +kernel
theorem dX1_takeEldest_18 : decode cX1_takeEldest 18 = .ok (.iload_n 2, 1) := by decide +kernel
theorem dX1_takeEldest_19 : decode cX1_takeEldest 19 = .ok (.iconst 1, 1) := by decide +kernel
theorem dX1_takeEldest_20 : decode cX1_takeEldest 20 = .ok (.isub, 1) := by decide +kernel
theorem dX1_takeEldest_21 : decode cX1_takeEldest 21 = .ok (.aload_n 0, 1) := by decide +kernel
theorem dX1_takeEldest_22 : decode cX1_takeEldest 22 = .ok (.getfield 15, 3) := by decide +kernel
theorem dX1_takeEldest_25 : decode cX1_takeEldest 25 = .ok (.iload_n 2, 1) := by decide +kernel
theorem dX1_takeEldest_26 : decode cX1_takeEldest 26 = .ok (.iaload, 1) := by decide +kernel
theorem dX1_takeEldest_27 : decode cX1_takeEldest 27 = .ok (.iastore, 1) := by decide +kernel
theorem dX1_takeEldest_28 : decode cX1_takeEldest 28 = .ok (.iinc 2 1, 3) := by decide +kernel
theorem dX1_takeEldest_31 : decode cX1_takeEldest 31 = .ok (.goto (-22), 3) := by decide +kernel
theorem dX1_takeEldest_34 : decode cX1_takeEldest 34 = .ok (.aload_n 0, 1) := by decide +kernel
theorem dX1_takeEldest_35 : decode cX1_takeEldest 35 = .ok (.getfield 34, 3) := by decide +kernel
theorem dX1_takeEldest_38 : decode cX1_takeEldest 38 = .ok (.ifCond .le 13, 3) := by decide +kernel
theorem dX1_takeEldest_41 : decode cX1_takeEldest 41 = .ok (.aload_n 0, 1) := by decide +kernel
theorem dX1_takeEldest_42 : decode cX1_takeEldest 42 = .ok (.dup, 1) := by decide +kernel
theorem dX1_takeEldest_43 : decode cX1_takeEldest 43 = .ok (.getfield 34, 3) := by decide +kernel
theorem dX1_takeEldest_46 : decode cX1_takeEldest 46 = .ok (.iconst 1, 1) := by decide +kernel
theorem dX1_takeEldest_47 : decode cX1_takeEldest 47 = .ok (.isub, 1) := by decide +kernel
theorem dX1_takeEldest_48 : decode cX1_takeEldest 48 = .ok (.putfield 34, 3) := by decide +kernel
theorem dX1_takeEldest_51 : decode cX1_takeEldest 51 = .ok (.iload_n 1, 1) := by decide +kernel
theorem dX1_takeEldest_52 : decode cX1_takeEldest 52 = .ok (.ireturn, 1) := by decide +kernel
theorem dX1_tell_0 : decode cX1_tell 0 = .ok (.iload_n 1, 1) := by decide +kernel
theorem dX1_tell_1 : decode cX1_tell 1 = .ok (.tableswitch 104 0 8 #[51, 56, 61, 66, 71, 76, 89, 94, 99], 51) := by decide +kernel
theorem dX1_tell_52 : decode cX1_tell 52 = .ok (.aload_n 0, 1) := by decide +kernel
theorem dX1_tell_53 : decode cX1_tell 53 = .ok (.getfield 18, 3) := by decide +kernel
theorem dX1_tell_56 : decode cX1_tell 56 = .ok (.ireturn, 1) := by decide +kernel
theorem dX1_tell_57 : decode cX1_tell 57 = .ok (.aload_n 0, 1) := by decide +kernel
theorem dX1_tell_58 : decode cX1_tell 58 = .ok (.getfield 22, 3) := by decide +kernel
theorem dX1_tell_61 : decode cX1_tell 61 = .ok (.ireturn, 1) := by decide +kernel
theorem dX1_tell_62 : decode cX1_tell 62 = .ok (.aload_n 0, 1) := by decide +kernel
theorem dX1_tell_63 : decode cX1_tell 63 = .ok (.invokevirtual 59, 3) := by decide +kernel
theorem dX1_tell_66 : decode cX1_tell 66 = .ok (.ireturn, 1) := by decide +kernel
theorem dX1_tell_67 : decode cX1_tell 67 = .ok (.aload_n 0, 1) := by decide +kernel
theorem dX1_tell_68 : decode cX1_tell 68 = .ok (.getfield 28, 3) := by decide +kernel
theorem dX1_tell_71 : decode cX1_tell 71 = .ok (.ireturn, 1) := by decide +kernel
theorem dX1_tell_72 : decode cX1_tell 72 = .ok (.aload_n 0, 1) := by decide +kernel
theorem dX1_tell_73 : decode cX1_tell 73 = .ok (.getfield 31, 3) := by decide +kernel
theorem dX1_tell_76 : decode cX1_tell 76 = .ok (.ireturn, 1) := by decide +kernel
theorem dX1_tell_77 : decode cX1_tell 77 = .ok (.aload_n 0, 1) := by decide +kernel
theorem dX1_tell_78 : decode cX1_tell 78 = .ok (.getfield 37, 3) := by decide +kernel
theorem dX1_tell_81 : decode cX1_tell 81 = .ok (.ifCond .eq 7, 3) := by decide +kernel
theorem dX1_tell_84 : decode cX1_tell 84 = .ok (.iconst 1, 1) := by decide +kernel
theorem dX1_tell_85 : decode cX1_tell 85 = .ok (.goto 4, 3) := by decide +kernel
theorem dX1_tell_88 : decode cX1_tell 88 = .ok (.iconst 0, 1) := by decide +kernel
theorem dX1_tell_89 : decode cX1_tell 89 = .ok (.ireturn, 1) := by decide +kernel
theorem dX1_tell_90 : decode cX1_tell 90 = .ok (.aload_n 0, 1) := by decide +kernel
theorem dX1_tell_91 : decode cX1_tell 91 = .ok (.getfield 34, 3) := by decide +kernel
theorem dX1_tell_94 : decode cX1_tell 94 = .ok (.ireturn, 1) := by decide +kernel
theorem dX1_tell_95 : decode cX1_tell 95 = .ok (.aload_n 0, 1) := by decide +kernel
theorem dX1_tell_96 : decode cX1_tell 96 = .ok (.getfield 41, 3) := by decide +kernel
theorem dX1_tell_99 : decode cX1_tell 99 = .ok (.ireturn, 1) := by decide +kernel
theorem dX1_tell_100 : decode cX1_tell 100 = .ok (.aload_n 0, 1) := by decide +kernel
theorem dX1_tell_101 : decode cX1_tell 101 = .ok (.getfield 44, 3) := by decide +kernel
theorem dX1_tell_104 : decode cX1_tell 104 = .ok (.ireturn, 1) := by decide +kernel
theorem dX1_tell_105 : decode cX1_tell 105 = .ok (.aload_n 0, 1) := by decide +kernel
theorem dX1_tell_106 : decode cX1_tell 106 = .ok (.getfield 18, 3) := by decide +kernel
theorem dX1_tell_109 : decode cX1_tell 109 = .ok (.iconst 4, 1) := by decide +kernel
theorem dX1_tell_110 : decode cX1_tell 110 = .ok (.if_icmp .ne 10, 3) := by decide +kernel
theorem dX1_tell_113 : decode cX1_tell 113 = .ok (.aload_n 0, 1) := by decide +kernel
theorem dX1_tell_114 : decode cX1_tell 114 = .ok (.getfield 47, 3) := by decide +kernel
theorem dX1_tell_117 : decode cX1_tell 117 = .ok (.goto 5, 3) := by decide +kernel
theorem dX1_tell_120 : decode cX1_tell 120 = .ok (.bipush (-3), 2) := by decide +kernel
theorem dX1_tell_122 : decode cX1_tell 122 = .ok (.ireturn, 1) := by decide +kernel
theorem dX1_actToCome_0 : decode cX1_actToCome 0 = .ok (.aload_n 0, 1) := by decide +kernel
theorem dX1_actToCome_1 : decode cX1_actToCome 1 = .ok (.invokevirtual 63, 3) := by decide +kernel
theorem dX1_actToCome_4 : decode cX1_actToCome 4 = .ok (.ifCond .eq 6, 3) := by decide +kernel
theorem dX1_actToCome_7 : decode cX1_actToCome 7 = .ok (.bipush (-3), 2) := by decide +kernel
theorem dX1_actToCome_9 : decode cX1_actToCome 9 = .ok (.ireturn, 1) := by decide +kernel
theorem dX1_actToCome_10 : decode cX1_actToCome 10 = .ok (.aload_n 0, 1) := by decide +kernel
theorem dX1_actToCome_11 : decode cX1_actToCome 11 = .ok (.invokevirtual 67, 3) := by decide +kernel
theorem dX1_actToCome_14 : decode cX1_actToCome 14 = .ok (.ifCond .eq 12, 3) := by decide +kernel
theorem dX1_actToCome_17 : decode cX1_actToCome 17 = .ok (.aload_n 0, 1) := by decide +kernel
theorem dX1_actToCome_18 : decode cX1_actToCome 18 = .ok (.getfield 25, 3) := by decide +kernel
theorem dX1_actToCome_21 : decode cX1_actToCome 21 = .ok (.iconst 1, 1) := by decide +kernel
theorem dX1_actToCome_22 : decode cX1_actToCome 22 = .ok (.isub, 1) := by decide +kernel
theorem dX1_actToCome_23 : decode cX1_actToCome 23 = .ok (.goto 7, 3) := by decide +kernel
theorem dX1_actToCome_26 : decode cX1_actToCome 26 = .ok (.aload_n 0, 1) := by decide +kernel
theorem dX1_actToCome_27 : decode cX1_actToCome 27 = .ok (.getfield 25, 3) := by decide +kernel
theorem dX1_actToCome_30 : decode cX1_actToCome 30 = .ok (.ireturn, 1) := by decide +kernel
theorem dX2_init_0 : decode cX2_init 0 = .ok (.aload_n 0, 1) := by decide +kernel
theorem dX2_init_1 : decode cX2_init 1 = .ok (.invokespecial 3, 3) := by decide +kernel
theorem dX2_init_4 : decode cX2_init 4 = .ok (.aload_n 0, 1) := by decide +kernel
theorem dX2_init_5 : decode cX2_init 5 = .ok (.bipush 24, 2) := by decide +kernel
theorem dX2_init_7 : decode cX2_init 7 = .ok (.anewarray 9, 3) := by decide +kernel
theorem dX2_init_10 : decode cX2_init 10 = .ok (.putfield 11, 3) := by decide +kernel
theorem dX2_init_13 : decode cX2_init 13 = .ok (.aload_n 0, 1) := by decide +kernel
theorem dX2_init_14 : decode cX2_init 14 = .ok (.iconst 0, 1) := by decide +kernel
theorem dX2_init_15 : decode cX2_init 15 = .ok (.putfield 17, 3) := by decide +kernel
theorem dX2_init_18 : decode cX2_init 18 = .ok (.return_, 1) := by decide +kernel
theorem dX2_size_0 : decode cX2_size 0 = .ok (.aload_n 0, 1) := by decide +kernel
theorem dX2_size_1 : decode cX2_size 1 = .ok (.getfield 17, 3) := by decide +kernel
theorem dX2_size_4 : decode cX2_size 4 = .ok (.ireturn, 1) := by decide +kernel
theorem dX2_clear_0 : decode cX2_clear 0 = .ok (.aload_n 0, 1) := by decide +kernel
theorem dX2_clear_1 : decode cX2_clear 1 = .ok (.iconst 0, 1) := by decide +kernel
theorem dX2_clear_2 : decode cX2_clear 2 = .ok (.putfield 17, 3) := by decide +kernel
theorem dX2_clear_5 : decode cX2_clear 5 = .ok (.return_, 1) := by decide +kernel
theorem dX2_at_0 : decode cX2_at 0 = .ok (.iload_n 1, 1) := by decide +kernel
theorem dX2_at_1 : decode cX2_at 1 = .ok (.ifCond .lt 20, 3) := by decide +kernel
theorem dX2_at_4 : decode cX2_at 4 = .ok (.iload_n 1, 1) := by decide +kernel
theorem dX2_at_5 : decode cX2_at 5 = .ok (.aload_n 0, 1) := by decide +kernel
theorem dX2_at_6 : decode cX2_at 6 = .ok (.getfield 17, 3) := by decide +kernel
theorem dX2_at_9 : decode cX2_at 9 = .ok (.if_icmp .ge 12, 3) := by decide +kernel
theorem dX2_at_12 : decode cX2_at 12 = .ok (.aload_n 0, 1) := by decide +kernel
theorem dX2_at_13 : decode cX2_at 13 = .ok (.getfield 11, 3) := by decide +kernel
theorem dX2_at_16 : decode cX2_at 16 = .ok (.iload_n 1, 1) := by decide +kernel
theorem dX2_at_17 : decode cX2_at 17 = .ok (.aaload, 1) := by decide +kernel
theorem dX2_at_18 : decode cX2_at 18 = .ok (.goto 4, 3) := by decide +kernel
theorem dX2_at_21 : decode cX2_at 21 = .ok (.aconst_null, 1) := by decide +kernel
theorem dX2_at_22 : decode cX2_at 22 = .ok (.areturn, 1) := by decide +kernel
theorem dX2_add_0 : decode cX2_add 0 = .ok (.aload_n 0, 1) := by decide +kernel
theorem dX2_add_1 : decode cX2_add 1 = .ok (.getfield 17, 3) := by decide +kernel
theorem dX2_add_4 : decode cX2_add 4 = .ok (.bipush 24, 2) := by decide +kernel
theorem dX2_add_6 : decode cX2_add 6 = .ok (.if_icmp .ge 23, 3) := by decide +kernel
theorem dX2_add_9 : decode cX2_add 9 = .ok (.aload_n 0, 1) := by decide +kernel
theorem dX2_add_10 : decode cX2_add 10 = .ok (.getfield 11, 3) := by decide +kernel
theorem dX2_add_13 : decode cX2_add 13 = .ok (.aload_n 0, 1) := by decide +kernel
theorem dX2_add_14 : decode cX2_add 14 = .ok (.getfield 17, 3) := by decide +kernel
theorem dX2_add_17 : decode cX2_add 17 = .ok (.aload_n 1, 1) := by decide +kernel
theorem dX2_add_18 : decode cX2_add 18 = .ok (.aastore, 1) := by decide +kernel
theorem dX2_add_19 : decode cX2_add 19 = .ok (.aload_n 0, 1) := by decide +kernel
theorem dX2_add_20 : decode cX2_add 20 = .ok (.dup, 1) := by decide +kernel
theorem dX2_add_21 : decode cX2_add 21 = .ok (.getfield 17, 3) := by decide +kernel
theorem dX2_add_24 : decode cX2_add 24 = .ok (.iconst 1, 1) := by decide +kernel
theorem dX2_add_25 : decode cX2_add 25 = .ok (.iadd, 1) := by decide +kernel
theorem dX2_add_26 : decode cX2_add 26 = .ok (.putfield 17, 3) := by decide +kernel
theorem dX2_add_29 : decode cX2_add 29 = .ok (.return_, 1) := by decide +kernel
theorem dX2_removeFirst_0 : decode cX2_removeFirst 0 = .ok (.aload_n 0, 1) := by decide +kernel
theorem dX2_removeFirst_1 : decode cX2_removeFirst 1 = .ok (.iconst 0, 1) := by decide +kernel
theorem dX2_removeFirst_2 : decode cX2_removeFirst 2 = .ok (.invokevirtual 21, 3) := by decide +kernel
theorem dX2_removeFirst_5 : decode cX2_removeFirst 5 = .ok (.astore_n 1, 1) := by decide +kernel
theorem dX2_removeFirst_6 : decode cX2_removeFirst 6 = .ok (.aload_n 0, 1) := by decide +kernel
theorem dX2_removeFirst_7 : decode cX2_removeFirst 7 = .ok (.aload_n 1, 1) := by decide +kernel
theorem dX2_removeFirst_8 : decode cX2_removeFirst 8 = .ok (.invokevirtual 25, 3) := by decide +kernel
theorem dX2_removeFirst_11 : decode cX2_removeFirst 11 = .ok (.aload_n 1, 1) := by decide +kernel
theorem dX2_removeFirst_12 : decode cX2_removeFirst 12 = .ok (.areturn, 1) := by decide +kernel
theorem dX2_remove_0 : decode cX2_remove 0 = .ok (.iconst 0, 1) := by decide +kernel
theorem dX2_remove_1 : decode cX2_remove 1 = .ok (.istore_n 2, 1) := by decide +kernel
theorem dX2_remove_2 : decode cX2_remove 2 = .ok (.iconst 0, 1) := by decide +kernel
theorem dX2_remove_3 : decode cX2_remove 3 = .ok (.istore_n 3, 1) := by decide +kernel
theorem dX2_remove_4 : decode cX2_remove 4 = .ok (.iload_n 3, 1) := by decide +kernel
theorem dX2_remove_5 : decode cX2_remove 5 = .ok (.aload_n 0, 1) := by decide +kernel
theorem dX2_remove_6 : decode cX2_remove 6 = .ok (.getfield 17, 3) := by decide +kernel
theorem dX2_remove_9 : decode cX2_remove 9 = .ok (.if_icmp .ge 34, 3) := by decide +kernel
theorem dX2_remove_12 : decode cX2_remove 12 = .ok (.aload_n 0, 1) := by decide +kernel
theorem dX2_remove_13 : decode cX2_remove 13 = .ok (.getfield 11, 3) := by decide +kernel
theorem dX2_remove_16 : decode cX2_remove 16 = .ok (.iload_n 3, 1) := by decide +kernel
theorem dX2_remove_17 : decode cX2_remove 17 = .ok (.aaload, 1) := by decide +kernel
theorem dX2_remove_18 : decode cX2_remove 18 = .ok (.aload_n 1, 1) := by decide +kernel
theorem dX2_remove_19 : decode cX2_remove 19 = .ok (.if_acmp .eq 18, 3) := by decide +kernel
theorem dX2_remove_22 : decode cX2_remove 22 = .ok (.aload_n 0, 1) := by decide +kernel
theorem dX2_remove_23 : decode cX2_remove 23 = .ok (.getfield 11, 3) := by decide +kernel
theorem dX2_remove_26 : decode cX2_remove 26 = .ok (.iload_n 2, 1) := by decide +kernel
theorem dX2_remove_27 : decode cX2_remove 27 = .ok (.aload_n 0, 1) := by decide +kernel
theorem dX2_remove_28 : decode cX2_remove 28 = .ok (.getfield 11, 3) := by decide +kernel
theorem dX2_remove_31 : decode cX2_remove 31 = .ok (.iload_n 3, 1) := by decide +kernel
theorem dX2_remove_32 : decode cX2_remove 32 = .ok (.aaload, 1) := by decide +kernel
theorem dX2_remove_33 : decode cX2_remove 33 = .ok (.aastore, 1) := by decide +kernel
theorem dX2_remove_34 : decode cX2_remove 34 = .ok (.iinc 2 1, 3) := by decide +kernel
theorem dX2_remove_37 : decode cX2_remove 37 = .ok (.iinc 3 1, 3) := by decide +kernel
theorem dX2_remove_40 : decode cX2_remove 40 = .ok (.goto (-36), 3) := by decide +kernel
theorem dX2_remove_43 : decode cX2_remove 43 = .ok (.aload_n 0, 1) := by decide +kernel
theorem dX2_remove_44 : decode cX2_remove 44 = .ok (.iload_n 2, 1) := by decide +kernel
theorem dX2_remove_45 : decode cX2_remove 45 = .ok (.putfield 17, 3) := by decide +kernel
theorem dX2_remove_48 : decode cX2_remove 48 = .ok (.return_, 1) := by decide +kernel
theorem dX3_init_0 : decode cX3_init 0 = .ok (.aload_n 0, 1) := by decide +kernel
theorem dX3_init_1 : decode cX3_init 1 = .ok (.invokespecial 3, 3) := by decide +kernel
theorem dX3_init_4 : decode cX3_init 4 = .ok (.aload_n 0, 1) := by decide +kernel
theorem dX3_init_5 : decode cX3_init 5 = .ok (.bipush 12, 2) := by decide +kernel
theorem dX3_init_7 : decode cX3_init 7 = .ok (.newarray .int, 2) := by decide +kernel
theorem dX3_init_9 : decode cX3_init 9 = .ok (.putfield 9, 3) := by decide +kernel
theorem dX3_init_12 : decode cX3_init 12 = .ok (.aload_n 0, 1) := by decide +kernel
theorem dX3_init_13 : decode cX3_init 13 = .ok (.bipush 12, 2) := by decide +kernel
theorem dX3_init_15 : decode cX3_init 15 = .ok (.bipush 20, 2) := by decide +kernel
theorem dX3_init_17 : decode cX3_init 17 = .ok (.multianewarray 15 2, 4) := by decide +kernel
theorem dX3_init_21 : decode cX3_init 21 = .ok (.putfield 17, 3) := by decide +kernel
theorem dX3_init_24 : decode cX3_init 24 = .ok (.aload_n 0, 1) := by decide +kernel
theorem dX3_init_25 : decode cX3_init 25 = .ok (.bipush 12, 2) := by decide +kernel
theorem dX3_init_27 : decode cX3_init 27 = .ok (.bipush 20, 2) := by decide +kernel
theorem dX3_init_29 : decode cX3_init 29 = .ok (.multianewarray 15 2, 4) := by decide +kernel
theorem dX3_init_33 : decode cX3_init 33 = .ok (.putfield 20, 3) := by decide +kernel
theorem dX3_init_36 : decode cX3_init 36 = .ok (.aload_n 0, 1) := by decide +kernel
theorem dX3_init_37 : decode cX3_init 37 = .ok (.iconst 0, 1) := by decide +kernel
theorem dX3_init_38 : decode cX3_init 38 = .ok (.putfield 23, 3) := by decide +kernel
theorem dX3_init_41 : decode cX3_init 41 = .ok (.return_, 1) := by decide +kernel
theorem dX3_isEmpty_0 : decode cX3_isEmpty 0 = .ok (.aload_n 0, 1) := by decide +kernel
theorem dX3_isEmpty_1 : decode cX3_isEmpty 1 = .ok (.getfield 23, 3) := by decide +kernel
theorem dX3_isEmpty_4 : decode cX3_isEmpty 4 = .ok (.ifCond .ne 7, 3) := by decide +kernel
theorem dX3_isEmpty_7 : decode cX3_isEmpty 7 = .ok (.iconst 1, 1) := by decide +kernel
theorem dX3_isEmpty_8 : decode cX3_isEmpty 8 = .ok (.goto 4, 3) := by decide +kernel
theorem dX3_isEmpty_11 : decode cX3_isEmpty 11 = .ok (.iconst 0, 1) := by decide +kernel
theorem dX3_isEmpty_12 : decode cX3_isEmpty 12 = .ok (.ireturn, 1) := by decide +kernel
theorem dX3_has_0 : decode cX3_has 0 = .ok (.iload_n 1, 1) := by decide +kernel
theorem dX3_has_1 : decode cX3_has 1 = .ok (.ifCond .lt 15, 3) := by decide +kernel
theorem dX3_has_4 : decode cX3_has 4 = .ok (.iload_n 1, 1) := by decide +kernel
theorem dX3_has_5 : decode cX3_has 5 = .ok (.aload_n 0, 1) := by decide +kernel
theorem dX3_has_6 : decode cX3_has 6 = .ok (.getfield 23, 3) := by decide +kernel
theorem dX3_has_9 : decode cX3_has 9 = .ok (.if_icmp .ge 7, 3) := by decide +kernel
theorem dX3_has_12 : decode cX3_has 12 = .ok (.iconst 1, 1) := by decide +kernel
theorem dX3_has_13 : decode cX3_has 13 = .ok (.goto 4, 3) := by decide +kernel
theorem dX3_has_16 : decode cX3_has 16 = .ok (.iconst 0, 1) := by decide +kernel
theorem dX3_has_17 : decode cX3_has 17 = .ok (.ireturn, 1) := by decide +kernel
theorem dX3_addProgram_0 : decode cX3_addProgram 0 = .ok (.aload_n 0, 1) := by decide +kernel
theorem dX3_addProgram_1 : decode cX3_addProgram 1 = .ok (.getfield 23, 3) := by decide +kernel
theorem dX3_addProgram_4 : decode cX3_addProgram 4 = .ok (.bipush 12, 2) := by decide +kernel
theorem dX3_addProgram_6 : decode cX3_addProgram 6 = .ok (.if_icmp .lt 6, 3) := by decide +kernel
theorem dX3_addProgram_9 : decode cX3_addProgram 9 = .ok (.bipush (-4), 2) := by decide +kernel
theorem dX3_addProgram_11 : decode cX3_addProgram 11 = .ok (.ireturn, 1) := by decide +kernel
theorem dX3_addProgram_12 : decode cX3_addProgram 12 = .ok (.aload_n 0, 1) := by decide +kernel
theorem dX3_addProgram_13 : decode cX3_addProgram 13 = .ok (.dup, 1) := by decide +kernel
theorem dX3_addProgram_14 : decode cX3_addProgram 14 = .ok (.getfield 23, 3) := by decide +kernel
theorem dX3_addProgram_17 : decode cX3_addProgram 17 = .ok (.iconst 1, 1) := by decide +kernel
theorem dX3_addProgram_18 : decode cX3_addProgram 18 = .ok (.iadd, 1) := by decide +kernel
theorem dX3_addProgram_19 : decode cX3_addProgram 19 = .ok (.putfield 23, 3) := by decide +kernel
theorem dX3_addProgram_22 : decode cX3_addProgram 22 = .ok (.aload_n 0, 1) := by decide +kernel
theorem dX3_addProgram_23 : decode cX3_addProgram 23 = .ok (.getfield 23, 3) := by decide +kernel
theorem dX3_addProgram_26 : decode cX3_addProgram 26 = .ok (.iconst 1, 1) := by decide +kernel
theorem dX3_addProgram_27 : decode cX3_addProgram 27 = .ok (.isub, 1) := by decide +kernel
theorem dX3_addProgram_28 : decode cX3_addProgram 28 = .ok (.ireturn, 1) := by decide +kernel
theorem dX3_addAct_0 : decode cX3_addAct 0 = .ok (.aload_n 0, 1) := by decide +kernel
theorem dX3_addAct_1 : decode cX3_addAct 1 = .ok (.getfield 23, 3) := by decide +kernel
theorem dX3_addAct_4 : decode cX3_addAct 4 = .ok (.iconst 1, 1) := by decide +kernel
theorem dX3_addAct_5 : decode cX3_addAct 5 = .ok (.isub, 1) := by decide +kernel
theorem dX3_addAct_6 : decode cX3_addAct 6 = .ok (.istore_n 3, 1) := by decide +kernel
theorem dX3_addAct_7 : decode cX3_addAct 7 = .ok (.aload_n 0, 1) := by decide +kernel
theorem dX3_addAct_8 : decode cX3_addAct 8 = .ok (.iload_n 3, 1) := by decide +kernel
theorem dX3_addAct_9 : decode cX3_addAct 9 = .ok (.invokevirtual 27, 3) := by decide +kernel
theorem dX3_addAct_12 : decode cX3_addAct 12 = .ok (.ifCond .eq 14, 3) := by decide +kernel
theorem dX3_addAct_15 : decode cX3_addAct 15 = .ok (.aload_n 0, 1) := by decide +kernel
theorem dX3_addAct_16 : decode cX3_addAct 16 = .ok (.getfield 9, 3) := by decide +kernel
theorem dX3_addAct_19 : decode cX3_addAct 19 = .ok (.iload_n 3, 1) := by decide +kernel
theorem dX3_addAct_20 : decode cX3_addAct 20 = .ok (.iaload, 1) := by decide +kernel
theorem dX3_addAct_21 : decode cX3_addAct 21 = .ok (.bipush 20, 2) := by decide +kernel
theorem dX3_addAct_23 : decode cX3_addAct 23 = .ok (.if_icmp .lt 6, 3) := by decide +kernel
theorem dX3_addAct_26 : decode cX3_addAct 26 = .ok (.bipush (-4), 2) := by decide +kernel
theorem dX3_addAct_28 : decode cX3_addAct 28 = .ok (.ireturn, 1) := by decide +kernel
theorem dX3_addAct_29 : decode cX3_addAct 29 = .ok (.aload_n 0, 1) := by decide +kernel
theorem dX3_addAct_30 : decode cX3_addAct 30 = .ok (.getfield 9, 3) := by decide +kernel
theorem dX3_addAct_33 : decode cX3_addAct 33 = .ok (.iload_n 3, 1) := by decide +kernel
theorem dX3_addAct_34 : decode cX3_addAct 34 = .ok (.iaload, 1) := by decide +kernel
theorem dX3_addAct_35 : decode cX3_addAct 35 = .ok (.istore 4, 2) := by decide +kernel
theorem dX3_addAct_37 : decode cX3_addAct 37 = .ok (.aload_n 0, 1) := by decide +kernel
theorem dX3_addAct_38 : decode cX3_addAct 38 = .ok (.getfield 17, 3) := by decide +kernel
theorem dX3_addAct_41 : decode cX3_addAct 41 = .ok (.iload_n 3, 1) := by decide +kernel
theorem dX3_addAct_42 : decode cX3_addAct 42 = .ok (.aaload, 1) := by decide +kernel
theorem dX3_addAct_43 : decode cX3_addAct 43 = .ok (.iload 4, 2) := by decide +kernel
theorem dX3_addAct_45 : decode cX3_addAct 45 = .ok (.iload_n 1, 1) := by decide +kernel
theorem dX3_addAct_46 : decode cX3_addAct 46 = .ok (.iastore, 1) := by decide +kernel
theorem dX3_addAct_47 : decode cX3_addAct 47 = .ok (.aload_n 0, 1) := by decide +kernel
theorem dX3_addAct_48 : decode cX3_addAct 48 = .ok (.getfield 20, 3) := by decide +kernel
theorem dX3_addAct_51 : decode cX3_addAct 51 = .ok (.iload_n 3, 1) := by decide +kernel
theorem dX3_addAct_52 : decode cX3_addAct 52 = .ok (.aaload, 1) := by decide +kernel
theorem dX3_addAct_53 : decode cX3_addAct 53 = .ok (.iload 4, 2) := by decide +kernel
theorem dX3_addAct_55 : decode cX3_addAct 55 = .ok (.iload_n 2, 1) := by decide +kernel
theorem dX3_addAct_56 : decode cX3_addAct 56 = .ok (.iastore, 1) := by decide +kernel
theorem dX3_addAct_57 : decode cX3_addAct 57 = .ok (.aload_n 0, 1) := by decide +kernel
theorem dX3_addAct_58 : decode cX3_addAct 58 = .ok (.getfield 9, 3) := by decide +kernel
theorem dX3_addAct_61 : decode cX3_addAct 61 = .ok (.iload_n 3, 1) := by decide +kernel
theorem dX3_addAct_62 : decode cX3_addAct 62 = .ok (.iload 4, 2) := by decide +kernel
theorem dX3_addAct_64 : decode cX3_addAct 64 = .ok (.iconst 1, 1) := by decide +kernel
theorem dX3_addAct_65 : decode cX3_addAct 65 = .ok (.iadd, 1) := by decide +kernel
theorem dX3_addAct_66 : decode cX3_addAct 66 = .ok (.iastore, 1) := by decide +kernel
theorem dX3_addAct_67 : decode cX3_addAct 67 = .ok (.iload 4, 2) := by decide +kernel
theorem dX3_addAct_69 : decode cX3_addAct 69 = .ok (.iconst 1, 1) := by decide +kernel
theorem dX3_addAct_70 : decode cX3_addAct 70 = .ok (.iadd, 1) := by decide +kernel
theorem dX3_addAct_71 : decode cX3_addAct 71 = .ok (.ireturn, 1) := by decide +kernel
theorem dX3_hasAct_0 : decode cX3_hasAct 0 = .ok (.aload_n 0, 1) := by decide +kernel
theorem dX3_hasAct_1 : decode cX3_hasAct 1 = .ok (.iload_n 1, 1) := by decide +kernel
theorem dX3_hasAct_2 : decode cX3_hasAct 2 = .ok (.invokevirtual 27, 3) := by decide +kernel
theorem dX3_hasAct_5 : decode cX3_hasAct 5 = .ok (.ifCond .eq 21, 3) := by decide +kernel
theorem dX3_hasAct_8 : decode cX3_hasAct 8 = .ok (.iload_n 2, 1) := by decide +kernel
theorem dX3_hasAct_9 : decode cX3_hasAct 9 = .ok (.ifCond .lt 17, 3) := by decide +kernel
theorem dX3_hasAct_12 : decode cX3_hasAct 12 = .ok (.iload_n 2, 1) := by decide +kernel
theorem dX3_hasAct_13 : decode cX3_hasAct 13 = .ok (.aload_n 0, 1) := by decide +kernel
theorem dX3_hasAct_14 : decode cX3_hasAct 14 = .ok (.getfield 9, 3) := by decide +kernel
theorem dX3_hasAct_17 : decode cX3_hasAct 17 = .ok (.iload_n 1, 1) := by decide +kernel
theorem dX3_hasAct_18 : decode cX3_hasAct 18 = .ok (.iaload, 1) := by decide +kernel
theorem dX3_hasAct_19 : decode cX3_hasAct 19 = .ok (.if_icmp .ge 7, 3) := by decide +kernel
theorem dX3_hasAct_22 : decode cX3_hasAct 22 = .ok (.iconst 1, 1) := by decide +kernel
theorem dX3_hasAct_23 : decode cX3_hasAct 23 = .ok (.goto 4, 3) := by decide +kernel
theorem dX3_hasAct_26 : decode cX3_hasAct 26 = .ok (.iconst 0, 1) := by decide +kernel
theorem dX3_hasAct_27 : decode cX3_hasAct 27 = .ok (.ireturn, 1) := by decide +kernel
theorem dX3_kindAt_0 : decode cX3_kindAt 0 = .ok (.aload_n 0, 1) := by decide +kernel
theorem dX3_kindAt_1 : decode cX3_kindAt 1 = .ok (.iload_n 1, 1) := by decide +kernel
theorem dX3_kindAt_2 : decode cX3_kindAt 2 = .ok (.iload_n 2, 1) := by decide +kernel
theorem dX3_kindAt_3 : decode cX3_kindAt 3 = .ok (.invokevirtual 31, 3) := by decide +kernel
theorem dX3_kindAt_6 : decode cX3_kindAt 6 = .ok (.ifCond .eq 14, 3) := by decide +kernel
theorem dX3_kindAt_9 : decode cX3_kindAt 9 = .ok (.aload_n 0, 1) := by decide +kernel
theorem dX3_kindAt_10 : decode cX3_kindAt 10 = .ok (.getfield 17, 3) := by decide +kernel
theorem dX3_kindAt_13 : decode cX3_kindAt 13 = .ok (.iload_n 1, 1) := by decide +kernel
theorem dX3_kindAt_14 : decode cX3_kindAt 14 = .ok (.aaload, 1) := by decide +kernel
theorem dX3_kindAt_15 : decode cX3_kindAt 15 = .ok (.iload_n 2, 1) := by decide +kernel
theorem dX3_kindAt_16 : decode cX3_kindAt 16 = .ok (.iaload, 1) := by decide +kernel
theorem dX3_kindAt_17 : decode cX3_kindAt 17 = .ok (.goto 4, 3) := by decide +kernel
theorem dX3_kindAt_20 : decode cX3_kindAt 20 = .ok (.iconst (-1), 1) := by decide +kernel
theorem dX3_kindAt_21 : decode cX3_kindAt 21 = .ok (.ireturn, 1) := by decide +kernel
theorem dX3_operandAt_0 : decode cX3_operandAt 0 = .ok (.aload_n 0, 1) := by decide +kernel
theorem dX3_operandAt_1 : decode cX3_operandAt 1 = .ok (.iload_n 1, 1) := by decide +kernel
theorem dX3_operandAt_2 : decode cX3_operandAt 2 = .ok (.iload_n 2, 1) := by decide +kernel
theorem dX3_operandAt_3 : decode cX3_operandAt 3 = .ok (.invokevirtual 31, 3) := by decide +kernel
theorem dX3_operandAt_6 : decode cX3_operandAt 6 = .ok (.ifCond .eq 14, 3) := by decide +kernel
theorem dX3_operandAt_9 : decode cX3_operandAt 9 = .ok (.aload_n 0, 1) := by decide +kernel
theorem dX3_operandAt_10 : decode cX3_operandAt 10 = .ok (.getfield 20, 3) := by decide +kernel
theorem dX3_operandAt_13 : decode cX3_operandAt 13 = .ok (.iload_n 1, 1) := by decide +kernel
theorem dX3_operandAt_14 : decode cX3_operandAt 14 = .ok (.aaload, 1) := by decide +kernel
theorem dX3_operandAt_15 : decode cX3_operandAt 15 = .ok (.iload_n 2, 1) := by decide +kernel
theorem dX3_operandAt_16 : decode cX3_operandAt 16 = .ok (.iaload, 1) := by decide +kernel
theorem dX3_operandAt_17 : decode cX3_operandAt 17 = .ok (.goto 4, 3) := by decide +kernel
theorem dX3_operandAt_20 : decode cX3_operandAt 20 = .ok (.iconst 0, 1) := by decide +kernel
theorem dX3_operandAt_21 : decode cX3_operandAt 21 = .ok (.ireturn, 1) := by decide +kernel
theorem dX4_init_0 : decode cX4_init 0 = .ok (.aload_n 0, 1) := by decide +kernel
theorem dX4_init_1 : decode cX4_init 1 = .ok (.invokespecial 3, 3) := by decide +kernel
theorem dX4_init_4 : decode cX4_init 4 = .ok (.aload_n 0, 1) := by decide +kernel
theorem dX4_init_5 : decode cX4_init 5 = .ok (.bipush 100, 2) := by decide +kernel
theorem dX4_init_7 : decode cX4_init 7 = .ok (.newarray .int, 2) := by decide +kernel
theorem dX4_init_9 : decode cX4_init 9 = .ok (.putfield 9, 3) := by decide +kernel
theorem dX4_init_12 : decode cX4_init 12 = .ok (.aload_n 0, 1) := by decide +kernel
theorem dX4_init_13 : decode cX4_init 13 = .ok (.bipush 100, 2) := by decide +kernel
theorem dX4_init_15 : decode cX4_init 15 = .ok (.newarray .int, 2) := by decide +kernel
theorem dX4_init_17 : decode cX4_init 17 = .ok (.putfield 15, 3) := by decide +kernel
theorem dX4_init_20 : decode cX4_init 20 = .ok (.aload_n 0, 1) := by decide +kernel
theorem dX4_init_21 : decode cX4_init 21 = .ok (.iconst 0, 1) := by decide +kernel
theorem dX4_init_22 : decode cX4_init 22 = .ok (.putfield 18, 3) := by decide +kernel
theorem dX4_init_25 : decode cX4_init 25 = .ok (.return_, 1) := by decide +kernel
theorem dX4_size_0 : decode cX4_size 0 = .ok (.aload_n 0, 1) := by decide +kernel
theorem dX4_size_1 : decode cX4_size 1 = .ok (.getfield 18, 3) := by decide +kernel
theorem dX4_size_4 : decode cX4_size 4 = .ok (.ireturn, 1) := by decide +kernel
theorem dX4_clear_0 : decode cX4_clear 0 = .ok (.aload_n 0, 1) := by decide +kernel
theorem dX4_clear_1 : decode cX4_clear 1 = .ok (.iconst 0, 1) := by decide +kernel
theorem dX4_clear_2 : decode cX4_clear 2 = .ok (.putfield 18, 3) := by decide +kernel
theorem dX4_clear_5 : decode cX4_clear 5 = .ok (.return_, 1) := by decide +kernel
theorem dX4_add_0 : decode cX4_add 0 = .ok (.aload_n 0, 1) := by decide +kernel
theorem dX4_add_1 : decode cX4_add 1 = .ok (.getfield 18, 3) := by decide +kernel
theorem dX4_add_4 : decode cX4_add 4 = .ok (.bipush 100, 2) := by decide +kernel
theorem dX4_add_6 : decode cX4_add 6 = .ok (.if_icmp .ge 33, 3) := by decide +kernel
theorem dX4_add_9 : decode cX4_add 9 = .ok (.aload_n 0, 1) := by decide +kernel
theorem dX4_add_10 : decode cX4_add 10 = .ok (.getfield 9, 3) := by decide +kernel
theorem dX4_add_13 : decode cX4_add 13 = .ok (.aload_n 0, 1) := by decide +kernel
theorem dX4_add_14 : decode cX4_add 14 = .ok (.getfield 18, 3) := by decide +kernel
theorem dX4_add_17 : decode cX4_add 17 = .ok (.iload_n 1, 1) := by decide +kernel
theorem dX4_add_18 : decode cX4_add 18 = .ok (.iastore, 1) := by decide +kernel
theorem dX4_add_19 : decode cX4_add 19 = .ok (.aload_n 0, 1) := by decide +kernel
theorem dX4_add_20 : decode cX4_add 20 = .ok (.getfield 15, 3) := by decide +kernel
theorem dX4_add_23 : decode cX4_add 23 = .ok (.aload_n 0, 1) := by decide +kernel
theorem dX4_add_24 : decode cX4_add 24 = .ok (.getfield 18, 3) := by decide +kernel
theorem dX4_add_27 : decode cX4_add 27 = .ok (.iload_n 2, 1) := by decide +kernel
theorem dX4_add_28 : decode cX4_add 28 = .ok (.iastore, 1) := by decide +kernel
theorem dX4_add_29 : decode cX4_add 29 = .ok (.aload_n 0, 1) := by decide +kernel
theorem dX4_add_30 : decode cX4_add 30 = .ok (.dup, 1) := by decide +kernel
theorem dX4_add_31 : decode cX4_add 31 = .ok (.getfield 18, 3) := by decide +kernel
theorem dX4_add_34 : decode cX4_add 34 = .ok (.iconst 1, 1) := by decide +kernel
theorem dX4_add_35 : decode cX4_add 35 = .ok (.iadd, 1) := by decide +kernel
theorem dX4_add_36 : decode cX4_add 36 = .ok (.putfield 18, 3) := by decide +kernel
theorem dX4_add_39 : decode cX4_add 39 = .ok (.return_, 1) := by decide +kernel
theorem dX4_numberAt_0 : decode cX4_numberAt 0 = .ok (.iload_n 1, 1) := by decide +kernel
theorem dX4_numberAt_1 : decode cX4_numberAt 1 = .ok (.ifCond .lt 20, 3) := by decide +kernel
theorem dX4_numberAt_4 : decode cX4_numberAt 4 = .ok (.iload_n 1, 1) := by decide +kernel
theorem dX4_numberAt_5 : decode cX4_numberAt 5 = .ok (.aload_n 0, 1) := by decide +kernel
theorem dX4_numberAt_6 : decode cX4_numberAt 6 = .ok (.getfield 18, 3) := by decide +kernel
theorem dX4_numberAt_9 : decode cX4_numberAt 9 = .ok (.if_icmp .ge 12, 3) := by decide +kernel
theorem dX4_numberAt_12 : decode cX4_numberAt 12 = .ok (.aload_n 0, 1) := by decide +kernel
theorem dX4_numberAt_13 : decode cX4_numberAt 13 = .ok (.getfield 9, 3) := by decide +kernel
theorem dX4_numberAt_16 : decode cX4_numberAt 16 = .ok (.iload_n 1, 1) := by decide +kernel
theorem dX4_numberAt_17 : decode cX4_numberAt 17 = .ok (.iaload, 1) := by decide +kernel
theorem dX4_numberAt_18 : decode cX4_numberAt 18 = .ok (.goto 4, 3) := by decide +kernel
theorem dX4_numberAt_21 : decode cX4_numberAt 21 = .ok (.iconst 0, 1) := by decide +kernel
theorem dX4_numberAt_22 : decode cX4_numberAt 22 = .ok (.ireturn, 1) := by decide +kernel
theorem dX4_registerAt_0 : decode cX4_registerAt 0 = .ok (.iload_n 1, 1) := by decide +kernel
theorem dX4_registerAt_1 : decode cX4_registerAt 1 = .ok (.ifCond .lt 20, 3) := by decide +kernel
theorem dX4_registerAt_4 : decode cX4_registerAt 4 = .ok (.iload_n 1, 1) := by decide +kernel
theorem dX4_registerAt_5 : decode cX4_registerAt 5 = .ok (.aload_n 0, 1) := by decide +kernel
theorem dX4_registerAt_6 : decode cX4_registerAt 6 = .ok (.getfield 18, 3) := by decide +kernel
theorem dX4_registerAt_9 : decode cX4_registerAt 9 = .ok (.if_icmp .ge 12, 3) := by decide +kernel
theorem dX4_registerAt_12 : decode cX4_registerAt 12 = .ok (.aload_n 0, 1) := by decide +kernel
theorem dX4_registerAt_13 : decode cX4_registerAt 13 = .ok (.getfield 15, 3) := by decide +kernel
theorem dX4_registerAt_16 : decode cX4_registerAt 16 = .ok (.iload_n 1, 1) := by decide +kernel
theorem dX4_registerAt_17 : decode cX4_registerAt 17 = .ok (.iaload, 1) := by decide +kernel
theorem dX4_registerAt_18 : decode cX4_registerAt 18 = .ok (.goto 4, 3) := by decide +kernel
theorem dX4_registerAt_21 : decode cX4_registerAt 21 = .ok (.iconst 0, 1) := by decide +kernel
theorem dX4_registerAt_22 : decode cX4_registerAt 22 = .ok (.ireturn, 1) := by decide +kernel
theorem dX5_init_0 : decode cX5_init 0 = .ok (.aload_n 0, 1) := by decide +kernel
theorem dX5_init_1 : decode cX5_init 1 = .ok (.invokespecial 3, 3) := by decide +kernel
theorem dX5_init_4 : decode cX5_init 4 = .ok (.aload_n 0, 1) := by decide +kernel
theorem dX5_init_5 : decode cX5_init 5 = .ok (.bipush 24, 2) := by decide +kernel
theorem dX5_init_7 : decode cX5_init 7 = .ok (.anewarray 9, 3) := by decide +kernel
theorem dX5_init_10 : decode cX5_init 10 = .ok (.putfield 11, 3) := by decide +kernel
theorem dX5_init_13 : decode cX5_init 13 = .ok (.aload_n 0, 1) := by decide +kernel
theorem dX5_init_14 : decode cX5_init 14 = .ok (.new 17, 3) := by decide +kernel
theorem dX5_init_17 : decode cX5_init 17 = .ok (.dup, 1) := by decide +kernel
theorem dX5_init_18 : decode cX5_init 18 = .ok (.invokespecial 19, 3) := by decide +kernel
theorem dX5_init_21 : decode cX5_init 21 = .ok (.putfield 20, 3) := by decide +kernel
theorem dX5_init_24 : decode cX5_init 24 = .ok (.aload_n 0, 1) := by decide +kernel
theorem dX5_init_25 : decode cX5_init 25 = .ok (.new 24, 3) := by decide +kernel
theorem dX5_init_28 : decode cX5_init 28 = .ok (.dup, 1) := by decide +kernel
theorem dX5_init_29 : decode cX5_init 29 = .ok (.invokespecial 26, 3) := by decide +kernel
theorem dX5_init_32 : decode cX5_init 32 = .ok (.putfield 27, 3) := by decide +kernel
theorem dX5_init_35 : decode cX5_init 35 = .ok (.aload_n 0, 1) := by decide +kernel
theorem dX5_init_36 : decode cX5_init 36 = .ok (.new 31, 3) := by decide +kernel
theorem dX5_init_39 : decode cX5_init 39 = .ok (.dup, 1) := by decide +kernel
theorem dX5_init_40 : decode cX5_init 40 = .ok (.invokespecial 33, 3) := by decide +kernel
theorem dX5_init_43 : decode cX5_init 43 = .ok (.putfield 34, 3) := by decide +kernel
theorem dX5_init_46 : decode cX5_init 46 = .ok (.aload_n 0, 1) := by decide +kernel
theorem dX5_init_47 : decode cX5_init 47 = .ok (.iconst 0, 1) := by decide +kernel
theorem dX5_init_48 : decode cX5_init 48 = .ok (.putfield 38, 3) := by decide +kernel
theorem dX5_init_51 : decode cX5_init 51 = .ok (.aload_n 0, 1) := by decide +kernel
theorem dX5_init_52 : decode cX5_init 52 = .ok (.iconst 0, 1) := by decide +kernel
theorem dX5_init_53 : decode cX5_init 53 = .ok (.putfield 42, 3) := by decide +kernel
theorem dX5_init_56 : decode cX5_init 56 = .ok (.aload_n 0, 1) := by decide +kernel
theorem dX5_init_57 : decode cX5_init 57 = .ok (.iconst 0, 1) := by decide +kernel
theorem dX5_init_58 : decode cX5_init 58 = .ok (.putfield 46, 3) := by decide +kernel
theorem dX5_init_61 : decode cX5_init 61 = .ok (.aload_n 0, 1) := by decide +kernel
theorem dX5_init_62 : decode cX5_init 62 = .ok (.iconst 1, 1) := by decide +kernel
theorem dX5_init_63 : decode cX5_init 63 = .ok (.putfield 49, 3) := by decide +kernel
theorem dX5_init_66 : decode cX5_init 66 = .ok (.aload_n 0, 1) := by decide +kernel
theorem dX5_init_67 : decode cX5_init 67 = .ok (.iconst 0, 1) := by decide +kernel
theorem dX5_init_68 : decode cX5_init 68 = .ok (.putfield 52, 3) := by decide +kernel
theorem dX5_init_71 : decode cX5_init 71 = .ok (.aload_n 0, 1) := by decide +kernel
theorem dX5_init_72 : decode cX5_init 72 = .ok (.iconst 0, 1) := by decide +kernel
theorem dX5_init_73 : decode cX5_init 73 = .ok (.putfield 55, 3) := by decide +kernel
theorem dX5_init_76 : decode cX5_init 76 = .ok (.aload_n 0, 1) := by decide +kernel
theorem dX5_init_77 : decode cX5_init 77 = .ok (.iconst 0, 1) := by decide +kernel
theorem dX5_init_78 : decode cX5_init 78 = .ok (.putfield 58, 3) := by decide +kernel
theorem dX5_init_81 : decode cX5_init 81 = .ok (.aload_n 0, 1) := by decide +kernel
theorem dX5_init_82 : decode cX5_init 82 = .ok (.iconst 0, 1) := by decide +kernel
theorem dX5_init_83 : decode cX5_init 83 = .ok (.putfield 61, 3) := by decide +kernel
theorem dX5_init_86 : decode cX5_init 86 = .ok (.aload_n 0, 1) := by decide +kernel
theorem dX5_init_87 : decode cX5_init 87 = .ok (.aload_n 1, 1) := by decide +kernel
theorem dX5_init_88 : decode cX5_init 88 = .ok (.putfield 64, 3) := by decide +kernel
theorem dX5_init_91 : decode cX5_init 91 = .ok (.iconst 0, 1) := by decide +kernel
theorem dX5_init_92 : decode cX5_init 92 = .ok (.istore_n 2, 1) := by decide +kernel
theorem dX5_init_93 : decode cX5_init 93 = .ok (.iload_n 2, 1) := by decide +kernel
theorem dX5_init_94 : decode cX5_init 94 = .ok (.bipush 24, 2) := by decide +kernel
theorem dX5_init_96 : decode cX5_init 96 = .ok (.if_icmp .ge 23, 3) := by decide +kernel
theorem dX5_init_99 : decode cX5_init 99 = .ok (.aload_n 0, 1) := by decide +kernel
theorem dX5_init_100 : decode cX5_init 100 = .ok (.getfield 11, 3) := by decide +kernel
theorem dX5_init_103 : decode cX5_init 103 = .ok (.iload_n 2, 1) := by decide +kernel
theorem dX5_init_104 : decode cX5_init 104 = .ok (.new 9, 3) := by decide +kernel
theorem dX5_init_107 : decode cX5_init 107 = .ok (.dup, 1) := by decide +kernel
theorem dX5_init_108 : decode cX5_init 108 = .ok (.iload_n 2, 1) := by decide +kernel
theorem dX5_init_109 : decode cX5_init 109 = .ok (.invokespecial 68, 3) := by decide +kernel
theorem dX5_init_112 : decode cX5_init 112 = .ok (.aastore, 1) := by decide +kernel
theorem dX5_init_113 : decode cX5_init 113 = .ok (.iinc 2 1, 3) := by decide +kernel
theorem dX5_init_116 : decode cX5_init 116 = .ok (.goto (-23), 3) := by decide +kernel
theorem dX5_init_119 : decode cX5_init 119 = .ok (.return_, 1) := by decide +kernel
theorem dX5_start_0 : decode cX5_start 0 = .ok (.aload_n 0, 1) := by decide +kernel
theorem dX5_start_1 : decode cX5_start 1 = .ok (.getfield 20, 3) := by decide +kernel
theorem dX5_start_4 : decode cX5_start 4 = .ok (.invokevirtual 71, 3) := by decide +kernel
theorem dX5_start_7 : decode cX5_start 7 = .ok (.aload_n 0, 1) := by decide +kernel
theorem dX5_start_8 : decode cX5_start 8 = .ok (.getfield 34, 3) := by decide +kernel
theorem dX5_start_11 : decode cX5_start 11 = .ok (.invokevirtual 74, 3) := by decide +kernel
theorem dX5_start_14 : decode cX5_start 14 = .ok (.iconst 0, 1) := by decide +kernel
theorem dX5_start_15 : decode cX5_start 15 = .ok (.istore 4, 2) := by decide +kernel
theorem dX5_start_17 : decode cX5_start 17 = .ok (.iload 4, 2) := by decide +kernel
theorem dX5_start_19 : decode cX5_start 19 = .ok (.bipush 8, 2) := by decide +kernel
theorem dX5_start_21 : decode cX5_start 21 = .ok (.if_icmp .ge 18, 3) := by decide +kernel
theorem dX5_start_24 : decode cX5_start 24 = .ok (.aload_n 0, 1) := by decide +kernel
theorem dX5_start_25 : decode cX5_start 25 = .ok (.getfield 27, 3) := by decide +kernel
theorem dX5_start_28 : decode cX5_start 28 = .ok (.iload 4, 2) := by decide +kernel
theorem dX5_start_30 : decode cX5_start 30 = .ok (.invokevirtual 75, 3) := by decide +kernel
theorem dX5_start_33 : decode cX5_start 33 = .ok (.iinc 4 1, 3) := by decide +kernel
theorem dX5_start_36 : decode cX5_start 36 = .ok (.goto (-19), 3) := by decide +kernel
theorem dX5_start_39 : decode cX5_start 39 = .ok (.aload_n 0, 1) := by decide +kernel
theorem dX5_start_40 : decode cX5_start 40 = .ok (.iconst 0, 1) := by decide +kernel
theorem dX5_start_41 : decode cX5_start 41 = .ok (.putfield 38, 3) := by decide +kernel
theorem dX5_start_44 : decode cX5_start 44 = .ok (.aload_n 0, 1) := by decide +kernel
theorem dX5_start_45 : decode cX5_start 45 = .ok (.iconst 1, 1) := by decide +kernel
theorem dX5_start_46 : decode cX5_start 46 = .ok (.putfield 42, 3) := by decide +kernel
theorem dX5_start_49 : decode cX5_start 49 = .ok (.aload_n 0, 1) := by decide +kernel
theorem dX5_start_50 : decode cX5_start 50 = .ok (.iconst 0, 1) := by decide +kernel
theorem dX5_start_51 : decode cX5_start 51 = .ok (.putfield 46, 3) := by decide +kernel
theorem dX5_start_54 : decode cX5_start 54 = .ok (.aload_n 0, 1) := by decide +kernel
theorem dX5_start_55 : decode cX5_start 55 = .ok (.iload_n 2, 1) := by decide +kernel
theorem dX5_start_56 : decode cX5_start 56 = .ok (.putfield 49, 3) := by decide +kernel
theorem dX5_start_59 : decode cX5_start 59 = .ok (.aload_n 0, 1) := by decide +kernel
theorem dX5_start_60 : decode cX5_start 60 = .ok (.iconst 0, 1) := by decide +kernel
theorem dX5_start_61 : decode cX5_start 61 = .ok (.putfield 52, 3) := by decide +kernel
theorem dX5_start_64 : decode cX5_start 64 = .ok (.aload_n 0, 1) := by decide +kernel
theorem dX5_start_65 : decode cX5_start 65 = .ok (.iconst 0, 1) := by decide +kernel
theorem dX5_start_66 : decode cX5_start 66 = .ok (.putfield 55, 3) := by decide +kernel
theorem dX5_start_69 : decode cX5_start 69 = .ok (.aload_n 0, 1) := by decide +kernel
theorem dX5_start_70 : decode cX5_start 70 = .ok (.iconst 0, 1) := by decide +kernel
theorem dX5_start_71 : decode cX5_start 71 = .ok (.putfield 58, 3) := by decide +kernel
theorem dX5_start_74 : decode cX5_start 74 = .ok (.aload_n 0, 1) := by decide +kernel
theorem dX5_start_75 : decode cX5_start 75 = .ok (.iconst 0, 1) := by decide +kernel
theorem dX5_start_76 : decode cX5_start 76 = .ok (.putfield 61, 3) := by decide +kernel
theorem dX5_start_79 : decode cX5_start 79 = .ok (.aload_n 0, 1) := by decide +kernel
theorem dX5_start_80 : decode cX5_start 80 = .ok (.iload_n 1, 1) := by decide +kernel
theorem dX5_start_81 : decode cX5_start 81 = .ok (.iload_n 3, 1) := by decide +kernel
theorem dX5_start_82 : decode cX5_start 82 = .ok (.invokevirtual 78, 3) := by decide +kernel
theorem dX5_start_85 : decode cX5_start 85 = .ok (.pop, 1) := by decide +kernel
theorem dX5_start_86 : decode cX5_start 86 = .ok (.return_, 1) := by decide +kernel
theorem dX5_fiberAt_0 : decode cX5_fiberAt 0 = .ok (.iload_n 1, 1) := by decide +kernel
theorem dX5_fiberAt_1 : decode cX5_fiberAt 1 = .ok (.ifCond .lt 20, 3) := by decide +kernel
theorem dX5_fiberAt_4 : decode cX5_fiberAt 4 = .ok (.iload_n 1, 1) := by decide +kernel
theorem dX5_fiberAt_5 : decode cX5_fiberAt 5 = .ok (.aload_n 0, 1) := by decide +kernel
theorem dX5_fiberAt_6 : decode cX5_fiberAt 6 = .ok (.getfield 38, 3) := by decide +kernel
theorem dX5_fiberAt_9 : decode cX5_fiberAt 9 = .ok (.if_icmp .ge 12, 3) := by decide +kernel
theorem dX5_fiberAt_12 : decode cX5_fiberAt 12 = .ok (.aload_n 0, 1) := by decide +kernel
theorem dX5_fiberAt_13 : decode cX5_fiberAt 13 = .ok (.getfield 11, 3) := by decide +kernel
theorem dX5_fiberAt_16 : decode cX5_fiberAt 16 = .ok (.iload_n 1, 1) := by decide +kernel
theorem dX5_fiberAt_17 : decode cX5_fiberAt 17 = .ok (.aaload, 1) := by decide +kernel
theorem dX5_fiberAt_18 : decode cX5_fiberAt 18 = .ok (.goto 4, 3) := by decide +kernel
theorem dX5_fiberAt_21 : decode cX5_fiberAt 21 = .ok (.aconst_null, 1) := by decide +kernel
theorem dX5_fiberAt_22 : decode cX5_fiberAt 22 = .ok (.areturn, 1) := by decide +kernel
theorem dX5_countWaiting_0 : decode cX5_countWaiting 0 = .ok (.iconst 0, 1) := by decide +kernel
theorem dX5_countWaiting_1 : decode cX5_countWaiting 1 = .ok (.istore_n 3, 1) := by decide +kernel
theorem dX5_countWaiting_2 : decode cX5_countWaiting 2 = .ok (.iconst 0, 1) := by decide +kernel
theorem dX5_countWaiting_3 : decode cX5_countWaiting 3 = .ok (.istore 4, 2) := by decide +kernel
theorem dX5_countWaiting_5 : decode cX5_countWaiting 5 = .ok (.iload 4, 2) := by decide +kernel
theorem dX5_countWaiting_7 : decode cX5_countWaiting 7 = .ok (.aload_n 0, 1) := by decide +kernel
theorem dX5_countWaiting_8 : decode cX5_countWaiting 8 = .ok (.getfield 38, 3) := by decide +kernel
theorem dX5_countWaiting_11 : decode cX5_countWaiting 11 = .ok (.if_icmp .ge 27, 3) := by decide +kernel
theorem dX5_countWaiting_14 : decode cX5_countWaiting 14 = .ok (.aload_n 0, 1) := by decide +kernel
theorem dX5_countWaiting_15 : decode cX5_countWaiting 15 = .ok (.getfield 11, 3) := by decide +kernel
theorem dX5_countWaiting_18 : decode cX5_countWaiting 18 = .ok (.iload 4, 2) := by decide +kernel
theorem dX5_countWaiting_20 : decode cX5_countWaiting 20 = .ok (.aaload, 1) := by decide +kernel
theorem dX5_countWaiting_21 : decode cX5_countWaiting 21 = .ok (.iload_n 1, 1) := by decide +kernel
theorem dX5_countWaiting_22 : decode cX5_countWaiting 22 = .ok (.iload_n 2, 1) := by decide +kernel
theorem dX5_countWaiting_23 : decode cX5_countWaiting 23 = .ok (.invokevirtual 82, 3) := by decide +kernel
theorem dX5_countWaiting_26 : decode cX5_countWaiting 26 = .ok (.ifCond .eq 6, 3) := by decide +kernel
theorem dX5_countWaiting_29 : decode cX5_countWaiting 29 = .ok (.iinc 3 1, 3) := by decide +kernel
theorem dX5_countWaiting_32 : decode cX5_countWaiting 32 = .ok (.iinc 4 1, 3) := by decide +kernel
theorem dX5_countWaiting_35 : decode cX5_countWaiting 35 = .ok (.goto (-30), 3) := by decide +kernel
theorem dX5_countWaiting_38 : decode cX5_countWaiting 38 = .ok (.iload_n 3, 1) := by decide +kernel
theorem dX5_countWaiting_39 : decode cX5_countWaiting 39 = .ok (.ireturn, 1) := by decide +kernel
theorem dX5_takeTurn_0 : decode cX5_takeTurn 0 = .ok (.aload_n 0, 1) := by decide +kernel
theorem dX5_takeTurn_1 : decode cX5_takeTurn 1 = .ok (.getfield 46, 3) := by decide +kernel
theorem dX5_takeTurn_4 : decode cX5_takeTurn 4 = .ok (.ifCond .eq 7, 3) := by decide +kernel
theorem dX5_takeTurn_7 : decode cX5_takeTurn 7 = .ok (.aconst_null, 1) := by decide +kernel
theorem dX5_takeTurn_8 : decode cX5_takeTurn 8 = .ok (.goto 7, 3) := by decide +kernel
theorem dX5_takeTurn_11 : decode cX5_takeTurn 11 = .ok (.aload_n 0, 1) := by decide +kernel
theorem dX5_takeTurn_12 : decode cX5_takeTurn 12 = .ok (.invokevirtual 86, 3) := by decide +kernel
theorem dX5_takeTurn_15 : decode cX5_takeTurn 15 = .ok (.astore_n 1, 1) := by decide +kernel
theorem dX5_takeTurn_16 : decode cX5_takeTurn 16 = .ok (.aload_n 1, 1) := by decide +kernel
theorem dX5_takeTurn_17 : decode cX5_takeTurn 17 = .ok (.ifnonnull 5, 3) := by decide +kernel
theorem dX5_takeTurn_20 : decode cX5_takeTurn 20 = .ok (.iconst 0, 1) := by decide +kernel
theorem dX5_takeTurn_21 : decode cX5_takeTurn 21 = .ok (.ireturn, 1) := by decide +kernel
theorem dX5_takeTurn_22 : decode cX5_takeTurn 22 = .ok (.aload_n 1, 1) := by decide +kernel
theorem dX5_takeTurn_23 : decode cX5_takeTurn 23 = .ok (.dup, 1) := by decide +kernel
theorem dX5_takeTurn_24 : decode cX5_takeTurn 24 = .ok (.getfield 90, 3) := by decide +kernel
theorem dX5_takeTurn_27 : decode cX5_takeTurn 27 = .ok (.iconst 1, 1) := by decide +kernel
theorem dX5_takeTurn_28 : decode cX5_takeTurn 28 = .ok (.iadd, 1) := by decide +kernel
theorem dX5_takeTurn_29 : decode cX5_takeTurn 29 = .ok (.putfield 90, 3) := by decide +kernel
theorem dX5_takeTurn_32 : decode cX5_takeTurn 32 = .ok (.iconst 0, 1) := by decide +kernel
theorem dX5_takeTurn_33 : decode cX5_takeTurn 33 = .ok (.istore_n 2, 1) := by decide +kernel
theorem dX5_takeTurn_34 : decode cX5_takeTurn 34 = .ok (.iload_n 2, 1) := by decide +kernel
theorem dX5_takeTurn_35 : decode cX5_takeTurn 35 = .ok (.aload_n 0, 1) := by decide +kernel
theorem dX5_takeTurn_36 : decode cX5_takeTurn 36 = .ok (.getfield 49, 3) := by decide +kernel
theorem dX5_takeTurn_39 : decode cX5_takeTurn 39 = .ok (.if_icmp .ge 66, 3) := by decide +kernel
theorem dX5_takeTurn_42 : decode cX5_takeTurn 42 = .ok (.aload_n 1, 1) := by decide +kernel
theorem dX5_takeTurn_43 : decode cX5_takeTurn 43 = .ok (.getfield 91, 3) := by decide +kernel
theorem dX5_takeTurn_46 : decode cX5_takeTurn 46 = .ok (.ifCond .ne 59, 3) := by decide +kernel
theorem dX5_takeTurn_49 : decode cX5_takeTurn 49 = .ok (.aload_n 0, 1) := by decide +kernel
theorem dX5_takeTurn_50 : decode cX5_takeTurn 50 = .ok (.getfield 64, 3) := by decide +kernel
theorem dX5_takeTurn_53 : decode cX5_takeTurn 53 = .ok (.aload_n 1, 1) := by decide +kernel
theorem dX5_takeTurn_54 : decode cX5_takeTurn 54 = .ok (.getfield 94, 3) := by decide +kernel
theorem dX5_takeTurn_57 : decode cX5_takeTurn 57 = .ok (.aload_n 1, 1) := by decide +kernel
theorem dX5_takeTurn_58 : decode cX5_takeTurn 58 = .ok (.getfield 97, 3) := by decide +kernel
theorem dX5_takeTurn_61 : decode cX5_takeTurn 61 = .ok (.invokevirtual 100, 3) := by decide +kernel
theorem dX5_takeTurn_64 : decode cX5_takeTurn 64 = .ok (.istore_n 3, 1) := by decide +kernel
theorem dX5_takeTurn_65 : decode cX5_takeTurn 65 = .ok (.aload_n 0, 1) := by decide +kernel
theorem dX5_takeTurn_66 : decode cX5_takeTurn 66 = .ok (.aload_n 1, 1) := by decide +kernel
theorem dX5_takeTurn_67 : decode cX5_takeTurn 67 = .ok (.iload_n 3, 1) := by decide +kernel
theorem dX5_takeTurn_68 : decode cX5_takeTurn 68 = .ok (.aload_n 0, 1) := by decide +kernel
theorem dX5_takeTurn_69 : decode cX5_takeTurn 69 = .ok (.getfield 64, 3) := by decide +kernel
theorem dX5_takeTurn_72 : decode cX5_takeTurn 72 = .ok (.aload_n 1, 1) := by decide +kernel
theorem dX5_takeTurn_73 : decode cX5_takeTurn 73 = .ok (.getfield 94, 3) := by decide +kernel
theorem dX5_takeTurn_76 : decode cX5_takeTurn 76 = .ok (.aload_n 1, 1) := by decide +kernel
theorem dX5_takeTurn_77 : decode cX5_takeTurn 77 = .ok (.getfield 97, 3) := by decide +kernel
theorem dX5_takeTurn_80 : decode cX5_takeTurn 80 = .ok (.invokevirtual 105, 3) := by decide +kernel
theorem dX5_takeTurn_83 : decode cX5_takeTurn 83 = .ok (.invokevirtual 108, 3) := by decide +kernel
theorem dX5_takeTurn_86 : decode cX5_takeTurn 86 = .ok (.aload_n 0, 1) := by decide +kernel
theorem dX5_takeTurn_87 : decode cX5_takeTurn 87 = .ok (.invokevirtual 112, 3) := by decide +kernel
theorem dX5_takeTurn_90 : decode cX5_takeTurn 90 = .ok (.iload_n 3, 1) := by decide +kernel
theorem dX5_takeTurn_91 : decode cX5_takeTurn 91 = .ok (.bipush 6, 2) := by decide +kernel
theorem dX5_takeTurn_93 : decode cX5_takeTurn 93 = .ok (.if_icmp .ne 6, 3) := by decide +kernel
theorem dX5_takeTurn_96 : decode cX5_takeTurn 96 = .ok (.goto 9, 3) := by decide +kernel
theorem dX5_takeTurn_99 : decode cX5_takeTurn 99 = .ok (.iinc 2 1, 3) := by decide +kernel
theorem dX5_takeTurn_102 : decode cX5_takeTurn 102 = .ok (.goto (-68), 3) := by decide +kernel
theorem dX5_takeTurn_105 : decode cX5_takeTurn 105 = .ok (.aload_n 1, 1) := by decide +kernel
theorem dX5_takeTurn_106 : decode cX5_takeTurn 106 = .ok (.getfield 91, 3) := by decide +kernel
theorem dX5_takeTurn_109 : decode cX5_takeTurn 109 = .ok (.ifCond .ne 11, 3) := by decide +kernel
theorem dX5_takeTurn_112 : decode cX5_takeTurn 112 = .ok (.aload_n 0, 1) := by decide +kernel
theorem dX5_takeTurn_113 : decode cX5_takeTurn 113 = .ok (.getfield 20, 3) := by decide +kernel
theorem dX5_takeTurn_116 : decode cX5_takeTurn 116 = .ok (.aload_n 1, 1) := by decide +kernel
theorem dX5_takeTurn_117 : decode cX5_takeTurn 117 = .ok (.invokevirtual 115, 3) := by decide +kernel
theorem dX5_takeTurn_120 : decode cX5_takeTurn 120 = .ok (.aload_n 0, 1) := by decide +kernel
theorem dX5_takeTurn_121 : decode cX5_takeTurn 121 = .ok (.dup, 1) := by decide +kernel
theorem dX5_takeTurn_122 : decode cX5_takeTurn 122 = .ok (.getfield 52, 3) := by decide +kernel
theorem dX5_takeTurn_125 : decode cX5_takeTurn 125 = .ok (.iconst 1, 1) := by decide +kernel
theorem dX5_takeTurn_126 : decode cX5_takeTurn 126 = .ok (.iadd, 1) := by decide +kernel
theorem dX5_takeTurn_127 : decode cX5_takeTurn 127 = .ok (.putfield 52, 3) := by decide +kernel
theorem dX5_takeTurn_130 : decode cX5_takeTurn 130 = .ok (.aload_n 0, 1) := by decide +kernel
theorem dX5_takeTurn_131 : decode cX5_takeTurn 131 = .ok (.dup, 1) := by decide +kernel
theorem dX5_takeTurn_132 : decode cX5_takeTurn 132 = .ok (.getfield 55, 3) := by decide +kernel
theorem dX5_takeTurn_135 : decode cX5_takeTurn 135 = .ok (.iconst 1, 1) := by decide +kernel
theorem dX5_takeTurn_136 : decode cX5_takeTurn 136 = .ok (.iadd, 1) := by decide +kernel
theorem dX5_takeTurn_137 : decode cX5_takeTurn 137 = .ok (.putfield 55, 3) := by decide +kernel
theorem dX5_takeTurn_140 : decode cX5_takeTurn 140 = .ok (.iconst 1, 1) := by decide +kernel
theorem dX5_takeTurn_141 : decode cX5_takeTurn 141 = .ok (.ireturn, 1) := by decide +kernel
theorem dX5_nextToRun_0 : decode cX5_nextToRun 0 = .ok (.aload_n 0, 1) := by decide +kernel
theorem dX5_nextToRun_1 : decode cX5_nextToRun 1 = .ok (.invokevirtual 119, 3) := by decide +kernel
theorem dX5_nextToRun_4 : decode cX5_nextToRun 4 = .ok (.aload_n 0, 1) := by decide +kernel
theorem dX5_nextToRun_5 : decode cX5_nextToRun 5 = .ok (.getfield 20, 3) := by decide +kernel
theorem dX5_nextToRun_8 : decode cX5_nextToRun 8 = .ok (.invokevirtual 122, 3) := by decide +kernel
theorem dX5_nextToRun_11 : decode cX5_nextToRun 11 = .ok (.ifCond .ne 7, 3) := by decide +kernel
theorem dX5_nextToRun_14 : decode cX5_nextToRun 14 = .ok (.aload_n 0, 1) := by decide +kernel
theorem dX5_nextToRun_15 : decode cX5_nextToRun 15 = .ok (.invokevirtual 126, 3) := by decide +kernel
theorem dX5_nextToRun_18 : decode cX5_nextToRun 18 = .ok (.aload_n 0, 1) := by decide +kernel
theorem dX5_nextToRun_19 : decode cX5_nextToRun 19 = .ok (.getfield 20, 3) := by decide +kernel
theorem dX5_nextToRun_22 : decode cX5_nextToRun 22 = .ok (.invokevirtual 129, 3) := by decide +kernel
theorem dX5_nextToRun_25 : decode cX5_nextToRun 25 = .ok (.areturn, 1) := by decide +kernel
theorem dX5_wakeDelayed_0 : decode cX5_wakeDelayed 0 = .ok (.iconst 0, 1) := by decide +kernel
theorem dX5_wakeDelayed_1 : decode cX5_wakeDelayed 1 = .ok (.istore_n 1, 1) := by decide +kernel
theorem dX5_wakeDelayed_2 : decode cX5_wakeDelayed 2 = .ok (.iload_n 1, 1) := by decide +kernel
theorem dX5_wakeDelayed_3 : decode cX5_wakeDelayed 3 = .ok (.aload_n 0, 1) := by decide +kernel
theorem dX5_wakeDelayed_4 : decode cX5_wakeDelayed 4 = .ok (.getfield 38, 3) := by decide +kernel
theorem dX5_wakeDelayed_7 : decode cX5_wakeDelayed 7 = .ok (.if_icmp .ge 35, 3) := by decide +kernel
theorem dX5_wakeDelayed_10 : decode cX5_wakeDelayed 10 = .ok (.aload_n 0, 1) := by decide +kernel
theorem dX5_wakeDelayed_11 : decode cX5_wakeDelayed 11 = .ok (.invokevirtual 132, 3) := by decide +kernel
theorem dX5_wakeDelayed_14 : decode cX5_wakeDelayed 14 = .ok (.astore_n 2, 1) := by decide +kernel
theorem dX5_wakeDelayed_15 : decode cX5_wakeDelayed 15 = .ok (.aload_n 2, 1) := by decide +kernel
theorem dX5_wakeDelayed_16 : decode cX5_wakeDelayed 16 = .ok (.ifnull 14, 3) := by decide +kernel
theorem dX5_wakeDelayed_19 : decode cX5_wakeDelayed 19 = .ok (.aload_n 2, 1) := by decide +kernel
theorem dX5_wakeDelayed_20 : decode cX5_wakeDelayed 20 = .ok (.getfield 135, 3) := by decide +kernel
theorem dX5_wakeDelayed_23 : decode cX5_wakeDelayed 23 = .ok (.aload_n 0, 1) := by decide +kernel
theorem dX5_wakeDelayed_24 : decode cX5_wakeDelayed 24 = .ok (.getfield 52, 3) := by decide +kernel
theorem dX5_wakeDelayed_27 : decode cX5_wakeDelayed 27 = .ok (.if_icmp .le 4, 3) := by decide +kernel
theorem dX5_wakeDelayed_30 : decode cX5_wakeDelayed 30 = .ok (.return_, 1) := by decide +kernel
theorem dX5_wakeDelayed_31 : decode cX5_wakeDelayed 31 = .ok (.aload_n 0, 1) := by decide +kernel
theorem dX5_wakeDelayed_32 : decode cX5_wakeDelayed 32 = .ok (.aload_n 2, 1) := by decide +kernel
theorem dX5_wakeDelayed_33 : decode cX5_wakeDelayed 33 = .ok (.invokevirtual 138, 3) := by decide +kernel
theorem dX5_wakeDelayed_36 : decode cX5_wakeDelayed 36 = .ok (.iinc 1 1, 3) := by decide +kernel
theorem dX5_wakeDelayed_39 : decode cX5_wakeDelayed 39 = .ok (.goto (-37), 3) := by decide +kernel
theorem dX5_wakeDelayed_42 : decode cX5_wakeDelayed 42 = .ok (.return_, 1) := by decide +kernel
theorem dX5_firstDelayed_0 : decode cX5_firstDelayed 0 = .ok (.aconst_null, 1) := by decide +kernel
theorem dX5_firstDelayed_1 : decode cX5_firstDelayed 1 = .ok (.astore_n 1, 1) := by decide +kernel
theorem dX5_firstDelayed_2 : decode cX5_firstDelayed 2 = .ok (.iconst 0, 1) := by decide +kernel
theorem dX5_firstDelayed_3 : decode cX5_firstDelayed 3 = .ok (.istore_n 2, 1) := by decide +kernel
theorem dX5_firstDelayed_4 : decode cX5_firstDelayed 4 = .ok (.iload_n 2, 1) := by decide +kernel
theorem dX5_firstDelayed_5 : decode cX5_firstDelayed 5 = .ok (.aload_n 0, 1) := by decide +kernel
theorem dX5_firstDelayed_6 : decode cX5_firstDelayed 6 = .ok (.getfield 38, 3) := by decide +kernel
theorem dX5_firstDelayed_9 : decode cX5_firstDelayed 9 = .ok (.if_icmp .ge 41, 3) := by decide +kernel
theorem dX5_firstDelayed_12 : decode cX5_firstDelayed 12 = .ok (.aload_n 0, 1) := by decide +kernel
theorem dX5_firstDelayed_13 : decode cX5_firstDelayed 13 = .ok (.getfield 11, 3) := by decide +kernel
theorem dX5_firstDelayed_16 : decode cX5_firstDelayed 16 = .ok (.iload_n 2, 1) := by decide +kernel
theorem dX5_firstDelayed_17 : decode cX5_firstDelayed 17 = .ok (.aaload, 1) := by decide +kernel
theorem dX5_firstDelayed_18 : decode cX5_firstDelayed 18 = .ok (.astore_n 3, 1) := by decide +kernel
theorem dX5_firstDelayed_19 : decode cX5_firstDelayed 19 = .ok (.aload_n 3, 1) := by decide +kernel
theorem dX5_firstDelayed_20 : decode cX5_firstDelayed 20 = .ok (.getfield 91, 3) := by decide +kernel
theorem dX5_firstDelayed_23 : decode cX5_firstDelayed 23 = .ok (.iconst 4, 1) := by decide +kernel
theorem dX5_firstDelayed_24 : decode cX5_firstDelayed 24 = .ok (.if_icmp .ne 20, 3) := by decide +kernel
theorem dX5_firstDelayed_27 : decode cX5_firstDelayed 27 = .ok (.aload_n 1, 1) := by decide +kernel
theorem dX5_firstDelayed_28 : decode cX5_firstDelayed 28 = .ok (.ifnull 14, 3) := by decide +kernel
theorem dX5_firstDelayed_31 : decode cX5_firstDelayed 31 = .ok (.aload_n 3, 1) := by decide +kernel
theorem dX5_firstDelayed_32 : decode cX5_firstDelayed 32 = .ok (.getfield 135, 3) := by decide +kernel
theorem dX5_firstDelayed_35 : decode cX5_firstDelayed 35 = .ok (.aload_n 1, 1) := by decide +kernel
theorem dX5_firstDelayed_36 : decode cX5_firstDelayed 36 = .ok (.getfield 135, 3) := by decide +kernel
theorem dX5_firstDelayed_39 : decode cX5_firstDelayed 39 = .ok (.if_icmp .ge 5, 3) := by decide +kernel
theorem dX5_firstDelayed_42 : decode cX5_firstDelayed 42 = .ok (.aload_n 3, 1) := by decide +kernel
theorem dX5_firstDelayed_43 : decode cX5_firstDelayed 43 = .ok (.astore_n 1, 1) := by decide +kernel
theorem dX5_firstDelayed_44 : decode cX5_firstDelayed 44 = .ok (.iinc 2 1, 3) := by decide +kernel
theorem dX5_firstDelayed_47 : decode cX5_firstDelayed 47 = .ok (.goto (-43), 3) := by decide +kernel
theorem dX5_firstDelayed_50 : decode cX5_firstDelayed 50 = .ok (.aload_n 1, 1) := by decide +kernel
theorem dX5_firstDelayed_51 : decode cX5_firstDelayed 51 = .ok (.areturn, 1) := by decide +kernel
theorem dX5_endIdleness_0 : decode cX5_endIdleness 0 = .ok (.aload_n 0, 1) := by decide +kernel
theorem dX5_endIdleness_1 : decode cX5_endIdleness 1 = .ok (.invokevirtual 132, 3) := by decide +kernel
theorem dX5_endIdleness_4 : decode cX5_endIdleness 4 = .ok (.astore_n 1, 1) := by decide +kernel
theorem dX5_endIdleness_5 : decode cX5_endIdleness 5 = .ok (.aload_n 1, 1) := by decide +kernel
theorem dX5_endIdleness_6 : decode cX5_endIdleness 6 = .ok (.ifnull 18, 3) := by decide +kernel
theorem dX5_endIdleness_9 : decode cX5_endIdleness 9 = .ok (.aload_n 0, 1) := by decide +kernel
theorem dX5_endIdleness_10 : decode cX5_endIdleness 10 = .ok (.aload_n 1, 1) := by decide +kernel
theorem dX5_endIdleness_11 : decode cX5_endIdleness 11 = .ok (.getfield 135, 3) := by decide +kernel
theorem dX5_endIdleness_14 : decode cX5_endIdleness 14 = .ok (.putfield 52, 3) := by decide +kernel
theorem dX5_endIdleness_17 : decode cX5_endIdleness 17 = .ok (.aload_n 0, 1) := by decide +kernel
theorem dX5_endIdleness_18 : decode cX5_endIdleness 18 = .ok (.invokevirtual 119, 3) := by decide +kernel
theorem dX5_endIdleness_21 : decode cX5_endIdleness 21 = .ok (.goto 7, 3) := by decide +kernel
theorem dX5_endIdleness_24 : decode cX5_endIdleness 24 = .ok (.aload_n 0, 1) := by decide +kernel
theorem dX5_endIdleness_25 : decode cX5_endIdleness 25 = .ok (.invokevirtual 141, 3) := by decide +kernel
theorem dX5_endIdleness_28 : decode cX5_endIdleness 28 = .ok (.return_, 1) := by decide +kernel
theorem dX5_rescueWaiting_0 : decode cX5_rescueWaiting 0 = .ok (.iconst 0, 1) := by decide +kernel
theorem dX5_rescueWaiting_1 : decode cX5_rescueWaiting 1 = .ok (.istore_n 1, 1) := by decide +kernel
theorem dX5_rescueWaiting_2 : decode cX5_rescueWaiting 2 = .ok (.iload_n 1, 1) := by decide +kernel
theorem dX5_rescueWaiting_3 : decode cX5_rescueWaiting 3 = .ok (.aload_n 0, 1) := by decide +kernel
theorem dX5_rescueWaiting_4 : decode cX5_rescueWaiting 4 = .ok (.getfield 38, 3) := by decide +kernel
theorem dX5_rescueWaiting_7 : decode cX5_rescueWaiting 7 = .ok (.if_icmp .ge 47, 3) := by decide +kernel
theorem dX5_rescueWaiting_10 : decode cX5_rescueWaiting 10 = .ok (.aload_n 0, 1) := by decide +kernel
theorem dX5_rescueWaiting_11 : decode cX5_rescueWaiting 11 = .ok (.getfield 11, 3) := by decide +kernel
theorem dX5_rescueWaiting_14 : decode cX5_rescueWaiting 14 = .ok (.iload_n 1, 1) := by decide +kernel
theorem dX5_rescueWaiting_15 : decode cX5_rescueWaiting 15 = .ok (.aaload, 1) := by decide +kernel
theorem dX5_rescueWaiting_16 : decode cX5_rescueWaiting 16 = .ok (.invokevirtual 144, 3) := by decide +kernel
theorem dX5_rescueWaiting_19 : decode cX5_rescueWaiting 19 = .ok (.ifCond .eq 29, 3) := by decide +kernel
theorem dX5_rescueWaiting_22 : decode cX5_rescueWaiting 22 = .ok (.aload_n 0, 1) := by decide +kernel
theorem dX5_rescueWaiting_23 : decode cX5_rescueWaiting 23 = .ok (.dup, 1) := by decide +kernel
theorem dX5_rescueWaiting_24 : decode cX5_rescueWaiting 24 = .ok (.getfield 58, 3) := by decide +kernel
theorem dX5_rescueWaiting_27 : decode cX5_rescueWaiting 27 = .ok (.iconst 1, 1) := by decide +kernel
theorem dX5_rescueWaiting_28 : decode cX5_rescueWaiting 28 = .ok (.iadd, 1) := by decide +kernel
theorem dX5_rescueWaiting_29 : decode cX5_rescueWaiting 29 = .ok (.putfield 58, 3) := by decide +kernel
theorem dX5_rescueWaiting_32 : decode cX5_rescueWaiting 32 = .ok (.aload_n 0, 1) := by decide +kernel
theorem dX5_rescueWaiting_33 : decode cX5_rescueWaiting 33 = .ok (.aload_n 0, 1) := by decide +kernel
theorem dX5_rescueWaiting_34 : decode cX5_rescueWaiting 34 = .ok (.getfield 11, 3) := by decide +kernel
theorem dX5_rescueWaiting_37 : decode cX5_rescueWaiting 37 = .ok (.iload_n 1, 1) := by decide +kernel
theorem dX5_rescueWaiting_38 : decode cX5_rescueWaiting 38 = .ok (.aaload, 1) := by decide +kernel
theorem dX5_rescueWaiting_39 : decode cX5_rescueWaiting 39 = .ok (.bipush 10, 2) := by decide +kernel
theorem dX5_rescueWaiting_41 : decode cX5_rescueWaiting 41 = .ok (.invokevirtual 148, 3) := by decide +kernel
theorem dX5_rescueWaiting_44 : decode cX5_rescueWaiting 44 = .ok (.aload_n 0, 1) := by decide +kernel
theorem dX5_rescueWaiting_45 : decode cX5_rescueWaiting 45 = .ok (.invokevirtual 112, 3) := by decide +kernel
theorem dX5_rescueWaiting_48 : decode cX5_rescueWaiting 48 = .ok (.iinc 1 1, 3) := by decide +kernel
theorem dX5_rescueWaiting_51 : decode cX5_rescueWaiting 51 = .ok (.goto (-49), 3) := by decide +kernel
theorem dX5_rescueWaiting_54 : decode cX5_rescueWaiting 54 = .ok (.return_, 1) := by decide +kernel
theorem dX5_closeIfOver_0 : decode cX5_closeIfOver 0 = .ok (.aload_n 0, 1) := by decide +kernel
theorem dX5_closeIfOver_1 : decode cX5_closeIfOver 1 = .ok (.getfield 46, 3) := by decide +kernel
theorem dX5_closeIfOver_4 : decode cX5_closeIfOver 4 = .ok (.ifCond .ne 15, 3) := by decide +kernel
theorem dX5_closeIfOver_7 : decode cX5_closeIfOver 7 = .ok (.aload_n 0, 1) := by decide +kernel
theorem dX5_closeIfOver_8 : decode cX5_closeIfOver 8 = .ok (.getfield 11, 3) := by decide +kernel
theorem dX5_closeIfOver_11 : decode cX5_closeIfOver 11 = .ok (.iconst 0, 1) := by decide +kernel
theorem dX5_closeIfOver_12 : decode cX5_closeIfOver 12 = .ok (.aaload, 1) := by decide +kernel
theorem dX5_closeIfOver_13 : decode cX5_closeIfOver 13 = .ok (.invokevirtual 152, 3) := by decide +kernel
theorem dX5_closeIfOver_16 : decode cX5_closeIfOver 16 = .ok (.ifCond .ne 4, 3) := by decide +kernel
theorem dX5_closeIfOver_19 : decode cX5_closeIfOver 19 = .ok (.return_, 1) := by decide +kernel
theorem dX5_closeIfOver_20 : decode cX5_closeIfOver 20 = .ok (.aload_n 0, 1) := by decide +kernel
theorem dX5_closeIfOver_21 : decode cX5_closeIfOver 21 = .ok (.iconst 1, 1) := by decide +kernel
theorem dX5_closeIfOver_22 : decode cX5_closeIfOver 22 = .ok (.putfield 46, 3) := by decide +kernel
theorem dX5_closeIfOver_25 : decode cX5_closeIfOver 25 = .ok (.aload_n 0, 1) := by decide +kernel
theorem dX5_closeIfOver_26 : decode cX5_closeIfOver 26 = .ok (.getfield 20, 3) := by decide +kernel
theorem dX5_closeIfOver_29 : decode cX5_closeIfOver 29 = .ok (.invokevirtual 71, 3) := by decide +kernel
theorem dX5_closeIfOver_32 : decode cX5_closeIfOver 32 = .ok (.iconst 1, 1) := by decide +kernel
theorem dX5_closeIfOver_33 : decode cX5_closeIfOver 33 = .ok (.istore_n 1, 1) := by decide +kernel
theorem dX5_closeIfOver_34 : decode cX5_closeIfOver 34 = .ok (.iload_n 1, 1) := by decide +kernel
theorem dX5_closeIfOver_35 : decode cX5_closeIfOver 35 = .ok (.aload_n 0, 1) := by decide +kernel
theorem dX5_closeIfOver_36 : decode cX5_closeIfOver 36 = .ok (.getfield 38, 3) := by decide +kernel
theorem dX5_closeIfOver_39 : decode cX5_closeIfOver 39 = .ok (.if_icmp .ge 32, 3) := by decide +kernel
theorem dX5_closeIfOver_42 : decode cX5_closeIfOver 42 = .ok (.aload_n 0, 1) := by decide +kernel
theorem dX5_closeIfOver_43 : decode cX5_closeIfOver 43 = .ok (.getfield 11, 3) := by decide +kernel
theorem dX5_closeIfOver_46 : decode cX5_closeIfOver 46 = .ok (.iload_n 1, 1) := by decide +kernel
theorem dX5_closeIfOver_47 : decode cX5_closeIfOver 47 = .ok (.aaload, 1) := by decide +kernel
theorem dX5_closeIfOver_48 : decode cX5_closeIfOver 48 = .ok (.invokevirtual 152, 3) := by decide +kernel
theorem dX5_closeIfOver_51 : decode cX5_closeIfOver 51 = .ok (.ifCond .ne 14, 3) := by decide +kernel
theorem dX5_closeIfOver_54 : decode cX5_closeIfOver 54 = .ok (.aload_n 0, 1) := by decide +kernel
theorem dX5_closeIfOver_55 : decode cX5_closeIfOver 55 = .ok (.getfield 11, 3) := by decide +kernel
theorem dX5_closeIfOver_58 : decode cX5_closeIfOver 58 = .ok (.iload_n 1, 1) := by decide +kernel
theorem dX5_closeIfOver_59 : decode cX5_closeIfOver 59 = .ok (.aaload, 1) := by decide +kernel
theorem dX5_closeIfOver_60 : decode cX5_closeIfOver 60 = .ok (.bipush 7, 2) := by decide +kernel
theorem dX5_closeIfOver_62 : decode cX5_closeIfOver 62 = .ok (.putfield 91, 3) := by decide +kernel
theorem dX5_closeIfOver_65 : decode cX5_closeIfOver 65 = .ok (.iinc 1 1, 3) := by decide +kernel
theorem dX5_closeIfOver_68 : decode cX5_closeIfOver 68 = .ok (.goto (-34), 3) := by decide +kernel
theorem dX5_closeIfOver_71 : decode cX5_closeIfOver 71 = .ok (.return_, 1) := by decide +kernel
theorem dX5_doAct_0 : decode cX5_doAct 0 = .ok (.iload_n 2, 1) := by decide +kernel
theorem dX5_doAct_1 : decode cX5_doAct 1 = .ok (.iconst (-1), 1) := by decide +kernel
theorem dX5_doAct_2 : decode cX5_doAct 2 = .ok (.if_icmp .ne 9, 3) := by decide +kernel
theorem dX5_doAct_5 : decode cX5_doAct 5 = .ok (.aload_n 1, 1) := by decide +kernel
theorem dX5_doAct_6 : decode cX5_doAct 6 = .ok (.iconst 5, 1) := by decide +kernel
theorem dX5_doAct_7 : decode cX5_doAct 7 = .ok (.putfield 91, 3) := by decide +kernel
theorem dX5_doAct_10 : decode cX5_doAct 10 = .ok (.return_, 1) := by decide +kernel
theorem dX5_doAct_11 : decode cX5_doAct 11 = .ok (.aload_n 1, 1) := by decide +kernel
theorem dX5_doAct_12 : decode cX5_doAct 12 = .ok (.dup, 1) := by decide +kernel
theorem dX5_doAct_13 : decode cX5_doAct 13 = .ok (.getfield 97, 3) := by decide +kernel
theorem dX5_doAct_16 : decode cX5_doAct 16 = .ok (.iconst 1, 1) := by decide +kernel
theorem dX5_doAct_17 : decode cX5_doAct 17 = .ok (.iadd, 1) := by decide +kernel
theorem dX5_doAct_18 : decode cX5_doAct 18 = .ok (.putfield 97, 3) := by decide +kernel
theorem dX5_doAct_21 : decode cX5_doAct 21 = .ok (.aload_n 0, 1) := by decide +kernel
theorem dX5_doAct_22 : decode cX5_doAct 22 = .ok (.iload_n 2, 1) := by decide +kernel
theorem dX5_doAct_23 : decode cX5_doAct 23 = .ok (.iload_n 3, 1) := by decide +kernel
theorem dX5_doAct_24 : decode cX5_doAct 24 = .ok (.invokevirtual 155, 3) := by decide +kernel
theorem dX5_doAct_27 : decode cX5_doAct 27 = .ok (.istore 4, 2) := by decide +kernel
theorem dX5_doAct_29 : decode cX5_doAct 29 = .ok (.iload 4, 2) := by decide +kernel
theorem dX5_doAct_31 : decode cX5_doAct 31 = .ok (.ifCond .ne 13, 3) := by decide +kernel
theorem dX5_doAct_34 : decode cX5_doAct 34 = .ok (.aload_n 0, 1) := by decide +kernel
theorem dX5_doAct_35 : decode cX5_doAct 35 = .ok (.aload_n 1, 1) := by decide +kernel
theorem dX5_doAct_36 : decode cX5_doAct 36 = .ok (.iload_n 2, 1) := by decide +kernel
theorem dX5_doAct_37 : decode cX5_doAct 37 = .ok (.iload_n 3, 1) := by decide +kernel
theorem dX5_doAct_38 : decode cX5_doAct 38 = .ok (.invokevirtual 158, 3) := by decide +kernel
theorem dX5_doAct_41 : decode cX5_doAct 41 = .ok (.goto 30, 3) := by decide +kernel
theorem dX5_doAct_44 : decode cX5_doAct 44 = .ok (.aload_n 1, 1) := by decide +kernel
theorem dX5_doAct_45 : decode cX5_doAct 45 = .ok (.getfield 161, 3) := by decide +kernel
theorem dX5_doAct_48 : decode cX5_doAct 48 = .ok (.ifCond .le 15, 3) := by decide +kernel
theorem dX5_doAct_51 : decode cX5_doAct 51 = .ok (.aload_n 0, 1) := by decide +kernel
theorem dX5_doAct_52 : decode cX5_doAct 52 = .ok (.aload_n 1, 1) := by decide +kernel
theorem dX5_doAct_53 : decode cX5_doAct 53 = .ok (.aload_n 1, 1) := by decide +kernel
theorem dX5_doAct_54 : decode cX5_doAct 54 = .ok (.invokevirtual 164, 3) := by decide +kernel
theorem dX5_doAct_57 : decode cX5_doAct 57 = .ok (.invokevirtual 148, 3) := by decide +kernel
theorem dX5_doAct_60 : decode cX5_doAct 60 = .ok (.goto 11, 3) := by decide +kernel
theorem dX5_doAct_63 : decode cX5_doAct 63 = .ok (.aload_n 0, 1) := by decide +kernel
theorem dX5_doAct_64 : decode cX5_doAct 64 = .ok (.aload_n 1, 1) := by decide +kernel
theorem dX5_doAct_65 : decode cX5_doAct 65 = .ok (.iload 4, 2) := by decide +kernel
theorem dX5_doAct_67 : decode cX5_doAct 67 = .ok (.iload_n 3, 1) := by decide +kernel
theorem dX5_doAct_68 : decode cX5_doAct 68 = .ok (.invokevirtual 167, 3) := by decide +kernel
theorem dX5_doAct_71 : decode cX5_doAct 71 = .ok (.return_, 1) := by decide +kernel
theorem dX5_stateAfter_0 : decode cX5_stateAfter 0 = .ok (.iload_n 1, 1) := by decide +kernel
theorem dX5_stateAfter_1 : decode cX5_stateAfter 1 = .ok (.tableswitch 100 0 7 #[47, 64, 81, 100, 100, 100, 100, 98], 47) := by decide +kernel
theorem dX5_stateAfter_48 : decode cX5_stateAfter 48 = .ok (.aload_n 0, 1) := by decide +kernel
theorem dX5_stateAfter_49 : decode cX5_stateAfter 49 = .ok (.getfield 27, 3) := by decide +kernel
theorem dX5_stateAfter_52 : decode cX5_stateAfter 52 = .ok (.iload_n 2, 1) := by decide +kernel
theorem dX5_stateAfter_53 : decode cX5_stateAfter 53 = .ok (.invokevirtual 170, 3) := by decide +kernel
theorem dX5_stateAfter_56 : decode cX5_stateAfter 56 = .ok (.ifCond .eq 7, 3) := by decide +kernel
theorem dX5_stateAfter_59 : decode cX5_stateAfter 59 = .ok (.iconst 1, 1) := by decide +kernel
theorem dX5_stateAfter_60 : decode cX5_stateAfter 60 = .ok (.goto 4, 3) := by decide +kernel
theorem dX5_stateAfter_63 : decode cX5_stateAfter 63 = .ok (.iconst 0, 1) := by decide +kernel
theorem dX5_stateAfter_64 : decode cX5_stateAfter 64 = .ok (.ireturn, 1) := by decide +kernel
theorem dX5_stateAfter_65 : decode cX5_stateAfter 65 = .ok (.aload_n 0, 1) := by decide +kernel
theorem dX5_stateAfter_66 : decode cX5_stateAfter 66 = .ok (.getfield 27, 3) := by decide +kernel
theorem dX5_stateAfter_69 : decode cX5_stateAfter 69 = .ok (.iload_n 2, 1) := by decide +kernel
theorem dX5_stateAfter_70 : decode cX5_stateAfter 70 = .ok (.invokevirtual 170, 3) := by decide +kernel
theorem dX5_stateAfter_73 : decode cX5_stateAfter 73 = .ok (.ifCond .eq 7, 3) := by decide +kernel
theorem dX5_stateAfter_76 : decode cX5_stateAfter 76 = .ok (.iconst 0, 1) := by decide +kernel
theorem dX5_stateAfter_77 : decode cX5_stateAfter 77 = .ok (.goto 4, 3) := by decide +kernel
theorem dX5_stateAfter_80 : decode cX5_stateAfter 80 = .ok (.iconst 2, 1) := by decide +kernel
theorem dX5_stateAfter_81 : decode cX5_stateAfter 81 = .ok (.ireturn, 1) := by decide +kernel
theorem dX5_stateAfter_82 : decode cX5_stateAfter 82 = .ok (.aload_n 0, 1) := by decide +kernel
theorem dX5_stateAfter_83 : decode cX5_stateAfter 83 = .ok (.getfield 27, 3) := by decide +kernel
theorem dX5_stateAfter_86 : decode cX5_stateAfter 86 = .ok (.iload_n 2, 1) := by decide +kernel
theorem dX5_stateAfter_87 : decode cX5_stateAfter 87 = .ok (.invokevirtual 170, 3) := by decide +kernel
theorem dX5_stateAfter_90 : decode cX5_stateAfter 90 = .ok (.ifCond .eq 7, 3) := by decide +kernel
theorem dX5_stateAfter_93 : decode cX5_stateAfter 93 = .ok (.iconst 0, 1) := by decide +kernel
theorem dX5_stateAfter_94 : decode cX5_stateAfter 94 = .ok (.goto 4, 3) := by decide +kernel
theorem dX5_stateAfter_97 : decode cX5_stateAfter 97 = .ok (.iconst 3, 1) := by decide +kernel
theorem dX5_stateAfter_98 : decode cX5_stateAfter 98 = .ok (.ireturn, 1) := by decide +kernel
theorem dX5_stateAfter_99 : decode cX5_stateAfter 99 = .ok (.iconst 4, 1) := by decide +kernel
theorem dX5_stateAfter_100 : decode cX5_stateAfter 100 = .ok (.ireturn, 1) := by decide +kernel
theorem dX5_stateAfter_101 : decode cX5_stateAfter 101 = .ok (.iconst 0, 1) := by decide +kernel
theorem dX5_stateAfter_102 : decode cX5_stateAfter 102 = .ok (.ireturn, 1) := by decide +kernel
theorem dX5_pause_0 : decode cX5_pause 0 = .ok (.aload_n 1, 1) := by decide +kernel
theorem dX5_pause_1 : decode cX5_pause 1 = .ok (.iload_n 2, 1) := by decide +kernel
theorem dX5_pause_2 : decode cX5_pause 2 = .ok (.putfield 91, 3) := by decide +kernel
theorem dX5_pause_5 : decode cX5_pause 5 = .ok (.iload_n 2, 1) := by decide +kernel
theorem dX5_pause_6 : decode cX5_pause 6 = .ok (.iconst 4, 1) := by decide +kernel
theorem dX5_pause_7 : decode cX5_pause 7 = .ok (.if_icmp .ne 16, 3) := by decide +kernel
theorem dX5_pause_10 : decode cX5_pause 10 = .ok (.aload_n 1, 1) := by decide +kernel
theorem dX5_pause_11 : decode cX5_pause 11 = .ok (.aload_n 0, 1) := by decide +kernel
theorem dX5_pause_12 : decode cX5_pause 12 = .ok (.getfield 52, 3) := by decide +kernel
theorem dX5_pause_15 : decode cX5_pause 15 = .ok (.iload_n 3, 1) := by decide +kernel
theorem dX5_pause_16 : decode cX5_pause 16 = .ok (.iadd, 1) := by decide +kernel
theorem dX5_pause_17 : decode cX5_pause 17 = .ok (.putfield 135, 3) := by decide +kernel
theorem dX5_pause_20 : decode cX5_pause 20 = .ok (.goto 26, 3) := by decide +kernel
theorem dX5_pause_23 : decode cX5_pause 23 = .ok (.aload_n 1, 1) := by decide +kernel
theorem dX5_pause_24 : decode cX5_pause 24 = .ok (.iload_n 3, 1) := by decide +kernel
theorem dX5_pause_25 : decode cX5_pause 25 = .ok (.putfield 174, 3) := by decide +kernel
theorem dX5_pause_28 : decode cX5_pause 28 = .ok (.aload_n 1, 1) := by decide +kernel
theorem dX5_pause_29 : decode cX5_pause 29 = .ok (.aload_n 0, 1) := by decide +kernel
theorem dX5_pause_30 : decode cX5_pause 30 = .ok (.getfield 61, 3) := by decide +kernel
theorem dX5_pause_33 : decode cX5_pause 33 = .ok (.putfield 177, 3) := by decide +kernel
theorem dX5_pause_36 : decode cX5_pause 36 = .ok (.aload_n 0, 1) := by decide +kernel
theorem dX5_pause_37 : decode cX5_pause 37 = .ok (.dup, 1) := by decide +kernel
theorem dX5_pause_38 : decode cX5_pause 38 = .ok (.getfield 61, 3) := by decide +kernel
theorem dX5_pause_41 : decode cX5_pause 41 = .ok (.iconst 1, 1) := by decide +kernel
theorem dX5_pause_42 : decode cX5_pause 42 = .ok (.iadd, 1) := by decide +kernel
theorem dX5_pause_43 : decode cX5_pause 43 = .ok (.putfield 61, 3) := by decide +kernel
theorem dX5_pause_46 : decode cX5_pause 46 = .ok (.return_, 1) := by decide +kernel
theorem dX5_perform_0 : decode cX5_perform 0 = .ok (.iload_n 2, 1) := by decide +kernel
theorem dX5_perform_1 : decode cX5_perform 1 = .ok (.tableswitch 274 0 16 #[83, 95, 104, 119, 127, 140, 274, 274, 156, 164, 186, 204, 213, 230, 238, 245, 263], 83) := by decide +kernel
theorem dX5_perform_84 : decode cX5_perform 84 = .ok (.aload_n 0, 1) := by decide +kernel
theorem dX5_perform_85 : decode cX5_perform 85 = .ok (.iload_n 3, 1) := by decide +kernel
theorem dX5_perform_86 : decode cX5_perform 86 = .ok (.aload_n 1, 1) := by decide +kernel
theorem dX5_perform_87 : decode cX5_perform 87 = .ok (.getfield 180, 3) := by decide +kernel
theorem dX5_perform_90 : decode cX5_perform 90 = .ok (.invokevirtual 183, 3) := by decide +kernel
theorem dX5_perform_93 : decode cX5_perform 93 = .ok (.goto 182, 3) := by decide +kernel
theorem dX5_perform_96 : decode cX5_perform 96 = .ok (.aload_n 0, 1) := by decide +kernel
theorem dX5_perform_97 : decode cX5_perform 97 = .ok (.iload_n 3, 1) := by decide +kernel
theorem dX5_perform_98 : decode cX5_perform 98 = .ok (.aload_n 1, 1) := by decide +kernel
theorem dX5_perform_99 : decode cX5_perform 99 = .ok (.invokevirtual 187, 3) := by decide +kernel
theorem dX5_perform_102 : decode cX5_perform 102 = .ok (.goto 173, 3) := by decide +kernel
theorem dX5_perform_105 : decode cX5_perform 105 = .ok (.aload_n 1, 1) := by decide +kernel
theorem dX5_perform_106 : decode cX5_perform 106 = .ok (.aload_n 0, 1) := by decide +kernel
theorem dX5_perform_107 : decode cX5_perform 107 = .ok (.getfield 27, 3) := by decide +kernel
theorem dX5_perform_110 : decode cX5_perform 110 = .ok (.iload_n 3, 1) := by decide +kernel
theorem dX5_perform_111 : decode cX5_perform 111 = .ok (.invokevirtual 191, 3) := by decide +kernel
theorem dX5_perform_114 : decode cX5_perform 114 = .ok (.putfield 180, 3) := by decide +kernel
theorem dX5_perform_117 : decode cX5_perform 117 = .ok (.goto 158, 3) := by decide +kernel
theorem dX5_perform_120 : decode cX5_perform 120 = .ok (.aload_n 1, 1) := by decide +kernel
theorem dX5_perform_121 : decode cX5_perform 121 = .ok (.iload_n 3, 1) := by decide +kernel
theorem dX5_perform_122 : decode cX5_perform 122 = .ok (.putfield 180, 3) := by decide +kernel
theorem dX5_perform_125 : decode cX5_perform 125 = .ok (.goto 150, 3) := by decide +kernel
theorem dX5_perform_128 : decode cX5_perform 128 = .ok (.aload_n 1, 1) := by decide +kernel
theorem dX5_perform_129 : decode cX5_perform 129 = .ok (.dup, 1) := by decide +kernel
theorem dX5_perform_130 : decode cX5_perform 130 = .ok (.getfield 180, 3) := by decide +kernel
theorem dX5_perform_133 : decode cX5_perform 133 = .ok (.iload_n 3, 1) := by decide +kernel
theorem dX5_perform_134 : decode cX5_perform 134 = .ok (.iadd, 1) := by decide +kernel
theorem dX5_perform_135 : decode cX5_perform 135 = .ok (.putfield 180, 3) := by decide +kernel
theorem dX5_perform_138 : decode cX5_perform 138 = .ok (.goto 137, 3) := by decide +kernel
theorem dX5_perform_141 : decode cX5_perform 141 = .ok (.aload_n 1, 1) := by decide +kernel
theorem dX5_perform_142 : decode cX5_perform 142 = .ok (.aload_n 0, 1) := by decide +kernel
theorem dX5_perform_143 : decode cX5_perform 143 = .ok (.iload_n 3, 1) := by decide +kernel
theorem dX5_perform_144 : decode cX5_perform 144 = .ok (.aload_n 1, 1) := by decide +kernel
theorem dX5_perform_145 : decode cX5_perform 145 = .ok (.getfield 180, 3) := by decide +kernel
theorem dX5_perform_148 : decode cX5_perform 148 = .ok (.invokevirtual 78, 3) := by decide +kernel
theorem dX5_perform_151 : decode cX5_perform 151 = .ok (.putfield 180, 3) := by decide +kernel
theorem dX5_perform_154 : decode cX5_perform 154 = .ok (.goto 121, 3) := by decide +kernel
theorem dX5_perform_157 : decode cX5_perform 157 = .ok (.aload_n 1, 1) := by decide +kernel
theorem dX5_perform_158 : decode cX5_perform 158 = .ok (.iload_n 3, 1) := by decide +kernel
theorem dX5_perform_159 : decode cX5_perform 159 = .ok (.putfield 97, 3) := by decide +kernel
theorem dX5_perform_162 : decode cX5_perform 162 = .ok (.goto 113, 3) := by decide +kernel
theorem dX5_perform_165 : decode cX5_perform 165 = .ok (.aload_n 1, 1) := by decide +kernel
theorem dX5_perform_166 : decode cX5_perform 166 = .ok (.aload_n 1, 1) := by decide +kernel
theorem dX5_perform_167 : decode cX5_perform 167 = .ok (.getfield 180, 3) := by decide +kernel
theorem dX5_perform_170 : decode cX5_perform 170 = .ok (.ifCond .ne 7, 3) := by decide +kernel
theorem dX5_perform_173 : decode cX5_perform 173 = .ok (.iload_n 3, 1) := by decide +kernel
theorem dX5_perform_174 : decode cX5_perform 174 = .ok (.goto 7, 3) := by decide +kernel
theorem dX5_perform_177 : decode cX5_perform 177 = .ok (.aload_n 1, 1) := by decide +kernel
theorem dX5_perform_178 : decode cX5_perform 178 = .ok (.getfield 97, 3) := by decide +kernel
theorem dX5_perform_181 : decode cX5_perform 181 = .ok (.putfield 97, 3) := by decide +kernel
theorem dX5_perform_184 : decode cX5_perform 184 = .ok (.goto 91, 3) := by decide +kernel
theorem dX5_perform_187 : decode cX5_perform 187 = .ok (.aload_n 0, 1) := by decide +kernel
theorem dX5_perform_188 : decode cX5_perform 188 = .ok (.getfield 34, 3) := by decide +kernel
theorem dX5_perform_191 : decode cX5_perform 191 = .ok (.aload_n 1, 1) := by decide +kernel
theorem dX5_perform_192 : decode cX5_perform 192 = .ok (.getfield 195, 3) := by decide +kernel
theorem dX5_perform_195 : decode cX5_perform 195 = .ok (.aload_n 1, 1) := by decide +kernel
theorem dX5_perform_196 : decode cX5_perform 196 = .ok (.getfield 180, 3) := by decide +kernel
theorem dX5_perform_199 : decode cX5_perform 199 = .ok (.invokevirtual 198, 3) := by decide +kernel
theorem dX5_perform_202 : decode cX5_perform 202 = .ok (.goto 73, 3) := by decide +kernel
theorem dX5_perform_205 : decode cX5_perform 205 = .ok (.aload_n 0, 1) := by decide +kernel
theorem dX5_perform_206 : decode cX5_perform 206 = .ok (.aload_n 1, 1) := by decide +kernel
theorem dX5_perform_207 : decode cX5_perform 207 = .ok (.iload_n 3, 1) := by decide +kernel
theorem dX5_perform_208 : decode cX5_perform 208 = .ok (.invokevirtual 148, 3) := by decide +kernel
theorem dX5_perform_211 : decode cX5_perform 211 = .ok (.goto 64, 3) := by decide +kernel
theorem dX5_perform_214 : decode cX5_perform 214 = .ok (.aload_n 0, 1) := by decide +kernel
theorem dX5_perform_215 : decode cX5_perform 215 = .ok (.aload_n 0, 1) := by decide +kernel
theorem dX5_perform_216 : decode cX5_perform 216 = .ok (.aload_n 1, 1) := by decide +kernel
theorem dX5_perform_217 : decode cX5_perform 217 = .ok (.getfield 180, 3) := by decide +kernel
theorem dX5_perform_220 : decode cX5_perform 220 = .ok (.invokevirtual 200, 3) := by decide +kernel
theorem dX5_perform_223 : decode cX5_perform 223 = .ok (.aload_n 1, 1) := by decide +kernel
theorem dX5_perform_224 : decode cX5_perform 224 = .ok (.iload_n 3, 1) := by decide +kernel
theorem dX5_perform_225 : decode cX5_perform 225 = .ok (.invokevirtual 204, 3) := by decide +kernel
theorem dX5_perform_228 : decode cX5_perform 228 = .ok (.goto 47, 3) := by decide +kernel
theorem dX5_perform_231 : decode cX5_perform 231 = .ok (.aload_n 1, 1) := by decide +kernel
theorem dX5_perform_232 : decode cX5_perform 232 = .ok (.iload_n 3, 1) := by decide +kernel
theorem dX5_perform_233 : decode cX5_perform 233 = .ok (.invokevirtual 208, 3) := by decide +kernel
theorem dX5_perform_236 : decode cX5_perform 236 = .ok (.goto 39, 3) := by decide +kernel
theorem dX5_perform_239 : decode cX5_perform 239 = .ok (.aload_n 1, 1) := by decide +kernel
theorem dX5_perform_240 : decode cX5_perform 240 = .ok (.invokevirtual 211, 3) := by decide +kernel
theorem dX5_perform_243 : decode cX5_perform 243 = .ok (.goto 32, 3) := by decide +kernel
theorem dX5_perform_246 : decode cX5_perform 246 = .ok (.aload_n 0, 1) := by decide +kernel
theorem dX5_perform_247 : decode cX5_perform 247 = .ok (.aload_n 1, 1) := by decide +kernel
theorem dX5_perform_248 : decode cX5_perform 248 = .ok (.iload_n 3, 1) := by decide +kernel
theorem dX5_perform_249 : decode cX5_perform 249 = .ok (.iconst 1, 1) := by decide +kernel
theorem dX5_perform_250 : decode cX5_perform 250 = .ok (.if_icmp .ne 7, 3) := by decide +kernel
theorem dX5_perform_253 : decode cX5_perform 253 = .ok (.iconst 1, 1) := by decide +kernel
theorem dX5_perform_254 : decode cX5_perform 254 = .ok (.goto 4, 3) := by decide +kernel
theorem dX5_perform_257 : decode cX5_perform 257 = .ok (.iconst 0, 1) := by decide +kernel
theorem dX5_perform_258 : decode cX5_perform 258 = .ok (.invokevirtual 214, 3) := by decide +kernel
theorem dX5_perform_261 : decode cX5_perform 261 = .ok (.goto 14, 3) := by decide +kernel
theorem dX5_perform_264 : decode cX5_perform 264 = .ok (.aload_n 1, 1) := by decide +kernel
theorem dX5_perform_265 : decode cX5_perform 265 = .ok (.aload_n 1, 1) := by decide +kernel
theorem dX5_perform_266 : decode cX5_perform 266 = .ok (.getfield 195, 3) := by decide +kernel
theorem dX5_perform_269 : decode cX5_perform 269 = .ok (.putfield 180, 3) := by decide +kernel
theorem dX5_perform_272 : decode cX5_perform 272 = .ok (.goto 3, 3) := by decide +kernel
theorem dX5_perform_275 : decode cX5_perform 275 = .ok (.return_, 1) := by decide +kernel
theorem dX5_startFiber_0 : decode cX5_startFiber 0 = .ok (.aload_n 0, 1) := by decide +kernel
theorem dX5_startFiber_1 : decode cX5_startFiber 1 = .ok (.getfield 38, 3) := by decide +kernel
theorem dX5_startFiber_4 : decode cX5_startFiber 4 = .ok (.bipush 24, 2) := by decide +kernel
theorem dX5_startFiber_6 : decode cX5_startFiber 6 = .ok (.if_icmp .ge 14, 3) := by decide +kernel
theorem dX5_startFiber_9 : decode cX5_startFiber 9 = .ok (.aload_n 0, 1) := by decide +kernel
theorem dX5_startFiber_10 : decode cX5_startFiber 10 = .ok (.getfield 64, 3) := by decide +kernel
theorem dX5_startFiber_13 : decode cX5_startFiber 13 = .ok (.iload_n 1, 1) := by decide +kernel
theorem dX5_startFiber_14 : decode cX5_startFiber 14 = .ok (.invokevirtual 218, 3) := by decide +kernel
theorem dX5_startFiber_17 : decode cX5_startFiber 17 = .ok (.ifCond .ne 5, 3) := by decide +kernel
theorem dX5_startFiber_20 : decode cX5_startFiber 20 = .ok (.iconst (-1), 1) := by decide +kernel
theorem dX5_startFiber_21 : decode cX5_startFiber 21 = .ok (.ireturn, 1) := by decide +kernel
theorem dX5_startFiber_22 : decode cX5_startFiber 22 = .ok (.aload_n 0, 1) := by decide +kernel
theorem dX5_startFiber_23 : decode cX5_startFiber 23 = .ok (.getfield 11, 3) := by decide +kernel
theorem dX5_startFiber_26 : decode cX5_startFiber 26 = .ok (.aload_n 0, 1) := by decide +kernel
theorem dX5_startFiber_27 : decode cX5_startFiber 27 = .ok (.getfield 38, 3) := by decide +kernel
theorem dX5_startFiber_30 : decode cX5_startFiber 30 = .ok (.aaload, 1) := by decide +kernel
theorem dX5_startFiber_31 : decode cX5_startFiber 31 = .ok (.astore_n 3, 1) := by decide +kernel
theorem dX5_startFiber_32 : decode cX5_startFiber 32 = .ok (.aload_n 0, 1) := by decide +kernel
theorem dX5_startFiber_33 : decode cX5_startFiber 33 = .ok (.dup, 1) := by decide +kernel
theorem dX5_startFiber_34 : decode cX5_startFiber 34 = .ok (.getfield 38, 3) := by decide +kernel
theorem dX5_startFiber_37 : decode cX5_startFiber 37 = .ok (.iconst 1, 1) := by decide +kernel
theorem dX5_startFiber_38 : decode cX5_startFiber 38 = .ok (.iadd, 1) := by decide +kernel
theorem dX5_startFiber_39 : decode cX5_startFiber 39 = .ok (.putfield 38, 3) := by decide +kernel
theorem dX5_startFiber_42 : decode cX5_startFiber 42 = .ok (.aload_n 3, 1) := by decide +kernel
theorem dX5_startFiber_43 : decode cX5_startFiber 43 = .ok (.iload_n 1, 1) := by decide +kernel
theorem dX5_startFiber_44 : decode cX5_startFiber 44 = .ok (.iload_n 2, 1) := by decide +kernel
theorem dX5_startFiber_45 : decode cX5_startFiber 45 = .ok (.invokevirtual 221, 3) := by decide +kernel
theorem dX5_startFiber_48 : decode cX5_startFiber 48 = .ok (.aload_n 0, 1) := by decide +kernel
theorem dX5_startFiber_49 : decode cX5_startFiber 49 = .ok (.getfield 20, 3) := by decide +kernel
theorem dX5_startFiber_52 : decode cX5_startFiber 52 = .ok (.aload_n 3, 1) := by decide +kernel
theorem dX5_startFiber_53 : decode cX5_startFiber 53 = .ok (.invokevirtual 115, 3) := by decide +kernel
theorem dX5_startFiber_56 : decode cX5_startFiber 56 = .ok (.aload_n 3, 1) := by decide +kernel
theorem dX5_startFiber_57 : decode cX5_startFiber 57 = .ok (.getfield 195, 3) := by decide +kernel
theorem dX5_startFiber_60 : decode cX5_startFiber 60 = .ok (.ireturn, 1) := by decide +kernel
theorem dX5_makeReady_0 : decode cX5_makeReady 0 = .ok (.aload_n 1, 1) := by decide +kernel
theorem dX5_makeReady_1 : decode cX5_makeReady 1 = .ok (.iconst 0, 1) := by decide +kernel
theorem dX5_makeReady_2 : decode cX5_makeReady 2 = .ok (.putfield 91, 3) := by decide +kernel
theorem dX5_makeReady_5 : decode cX5_makeReady 5 = .ok (.aload_n 0, 1) := by decide +kernel
theorem dX5_makeReady_6 : decode cX5_makeReady 6 = .ok (.getfield 20, 3) := by decide +kernel
theorem dX5_makeReady_9 : decode cX5_makeReady 9 = .ok (.aload_n 1, 1) := by decide +kernel
theorem dX5_makeReady_10 : decode cX5_makeReady 10 = .ok (.invokevirtual 115, 3) := by decide +kernel
theorem dX5_makeReady_13 : decode cX5_makeReady 13 = .ok (.return_, 1) := by decide +kernel
theorem dX5_bring_0 : decode cX5_bring 0 = .ok (.iconst 0, 1) := by decide +kernel
theorem dX5_bring_1 : decode cX5_bring 1 = .ok (.istore_n 3, 1) := by decide +kernel
theorem dX5_bring_2 : decode cX5_bring 2 = .ok (.iload_n 3, 1) := by decide +kernel
theorem dX5_bring_3 : decode cX5_bring 3 = .ok (.bipush 24, 2) := by decide +kernel
theorem dX5_bring_5 : decode cX5_bring 5 = .ok (.if_icmp .ge 37, 3) := by decide +kernel
theorem dX5_bring_8 : decode cX5_bring 8 = .ok (.aload_n 0, 1) := by decide +kernel
theorem dX5_bring_9 : decode cX5_bring 9 = .ok (.iload_n 1, 1) := by decide +kernel
theorem dX5_bring_10 : decode cX5_bring 10 = .ok (.iconst 3, 1) := by decide +kernel
theorem dX5_bring_11 : decode cX5_bring 11 = .ok (.invokevirtual 224, 3) := by decide +kernel
theorem dX5_bring_14 : decode cX5_bring 14 = .ok (.astore 4, 2) := by decide +kernel
theorem dX5_bring_16 : decode cX5_bring 16 = .ok (.aload 4, 2) := by decide +kernel
theorem dX5_bring_18 : decode cX5_bring 18 = .ok (.ifnonnull 6, 3) := by decide +kernel
theorem dX5_bring_21 : decode cX5_bring 21 = .ok (.goto 21, 3) := by decide +kernel
theorem dX5_bring_24 : decode cX5_bring 24 = .ok (.aload 4, 2) := by decide +kernel
theorem dX5_bring_26 : decode cX5_bring 26 = .ok (.iload_n 2, 1) := by decide +kernel
theorem dX5_bring_27 : decode cX5_bring 27 = .ok (.putfield 180, 3) := by decide +kernel
theorem dX5_bring_30 : decode cX5_bring 30 = .ok (.aload_n 0, 1) := by decide +kernel
theorem dX5_bring_31 : decode cX5_bring 31 = .ok (.aload 4, 2) := by decide +kernel
theorem dX5_bring_33 : decode cX5_bring 33 = .ok (.invokevirtual 138, 3) := by decide +kernel
theorem dX5_bring_36 : decode cX5_bring 36 = .ok (.iinc 3 1, 3) := by decide +kernel
theorem dX5_bring_39 : decode cX5_bring 39 = .ok (.goto (-37), 3) := by decide +kernel
theorem dX5_bring_42 : decode cX5_bring 42 = .ok (.aload_n 0, 1) := by decide +kernel
theorem dX5_bring_43 : decode cX5_bring 43 = .ok (.iload_n 1, 1) := by decide +kernel
theorem dX5_bring_44 : decode cX5_bring 44 = .ok (.iconst 2, 1) := by decide +kernel
theorem dX5_bring_45 : decode cX5_bring 45 = .ok (.invokevirtual 224, 3) := by decide +kernel
theorem dX5_bring_48 : decode cX5_bring 48 = .ok (.astore_n 3, 1) := by decide +kernel
theorem dX5_bring_49 : decode cX5_bring 49 = .ok (.aload_n 3, 1) := by decide +kernel
theorem dX5_bring_50 : decode cX5_bring 50 = .ok (.ifnonnull 15, 3) := by decide +kernel
theorem dX5_bring_53 : decode cX5_bring 53 = .ok (.aload_n 0, 1) := by decide +kernel
theorem dX5_bring_54 : decode cX5_bring 54 = .ok (.getfield 27, 3) := by decide +kernel
theorem dX5_bring_57 : decode cX5_bring 57 = .ok (.iload_n 1, 1) := by decide +kernel
theorem dX5_bring_58 : decode cX5_bring 58 = .ok (.iload_n 2, 1) := by decide +kernel
theorem dX5_bring_59 : decode cX5_bring 59 = .ok (.invokevirtual 228, 3) := by decide +kernel
theorem dX5_bring_62 : decode cX5_bring 62 = .ok (.goto 13, 3) := by decide +kernel
theorem dX5_bring_65 : decode cX5_bring 65 = .ok (.aload_n 3, 1) := by decide +kernel
theorem dX5_bring_66 : decode cX5_bring 66 = .ok (.iload_n 2, 1) := by decide +kernel
theorem dX5_bring_67 : decode cX5_bring 67 = .ok (.putfield 180, 3) := by decide +kernel
theorem dX5_bring_70 : decode cX5_bring 70 = .ok (.aload_n 0, 1) := by decide +kernel
theorem dX5_bring_71 : decode cX5_bring 71 = .ok (.aload_n 3, 1) := by decide +kernel
theorem dX5_bring_72 : decode cX5_bring 72 = .ok (.invokevirtual 138, 3) := by decide +kernel
theorem dX5_bring_75 : decode cX5_bring 75 = .ok (.return_, 1) := by decide +kernel
theorem dX5_takeFrom_0 : decode cX5_takeFrom 0 = .ok (.aload_n 2, 1) := by decide +kernel
theorem dX5_takeFrom_1 : decode cX5_takeFrom 1 = .ok (.aload_n 0, 1) := by decide +kernel
theorem dX5_takeFrom_2 : decode cX5_takeFrom 2 = .ok (.getfield 27, 3) := by decide +kernel
theorem dX5_takeFrom_5 : decode cX5_takeFrom 5 = .ok (.iload_n 1, 1) := by decide +kernel
theorem dX5_takeFrom_6 : decode cX5_takeFrom 6 = .ok (.invokevirtual 191, 3) := by decide +kernel
theorem dX5_takeFrom_9 : decode cX5_takeFrom 9 = .ok (.putfield 180, 3) := by decide +kernel
theorem dX5_takeFrom_12 : decode cX5_takeFrom 12 = .ok (.aload_n 0, 1) := by decide +kernel
theorem dX5_takeFrom_13 : decode cX5_takeFrom 13 = .ok (.getfield 27, 3) := by decide +kernel
theorem dX5_takeFrom_16 : decode cX5_takeFrom 16 = .ok (.iload_n 1, 1) := by decide +kernel
theorem dX5_takeFrom_17 : decode cX5_takeFrom 17 = .ok (.invokevirtual 75, 3) := by decide +kernel
theorem dX5_takeFrom_20 : decode cX5_takeFrom 20 = .ok (.aload_n 0, 1) := by decide +kernel
theorem dX5_takeFrom_21 : decode cX5_takeFrom 21 = .ok (.iload_n 1, 1) := by decide +kernel
theorem dX5_takeFrom_22 : decode cX5_takeFrom 22 = .ok (.iconst 1, 1) := by decide +kernel
theorem dX5_takeFrom_23 : decode cX5_takeFrom 23 = .ok (.invokevirtual 224, 3) := by decide +kernel
theorem dX5_takeFrom_26 : decode cX5_takeFrom 26 = .ok (.astore_n 3, 1) := by decide +kernel
theorem dX5_takeFrom_27 : decode cX5_takeFrom 27 = .ok (.aload_n 3, 1) := by decide +kernel
theorem dX5_takeFrom_28 : decode cX5_takeFrom 28 = .ok (.ifnull 20, 3) := by decide +kernel
theorem dX5_takeFrom_31 : decode cX5_takeFrom 31 = .ok (.aload_n 0, 1) := by decide +kernel
theorem dX5_takeFrom_32 : decode cX5_takeFrom 32 = .ok (.getfield 27, 3) := by decide +kernel
theorem dX5_takeFrom_35 : decode cX5_takeFrom 35 = .ok (.iload_n 1, 1) := by decide +kernel
theorem dX5_takeFrom_36 : decode cX5_takeFrom 36 = .ok (.aload_n 3, 1) := by decide +kernel
theorem dX5_takeFrom_37 : decode cX5_takeFrom 37 = .ok (.getfield 180, 3) := by decide +kernel
theorem dX5_takeFrom_40 : decode cX5_takeFrom 40 = .ok (.invokevirtual 228, 3) := by decide +kernel
theorem dX5_takeFrom_43 : decode cX5_takeFrom 43 = .ok (.aload_n 0, 1) := by decide +kernel
theorem dX5_takeFrom_44 : decode cX5_takeFrom 44 = .ok (.aload_n 3, 1) := by decide +kernel
theorem dX5_takeFrom_45 : decode cX5_takeFrom 45 = .ok (.invokevirtual 138, 3) := by decide +kernel
theorem dX5_takeFrom_48 : decode cX5_takeFrom 48 = .ok (.return_, 1) := by decide +kernel
theorem dX5_firstWaiting_0 : decode cX5_firstWaiting 0 = .ok (.aconst_null, 1) := by decide +kernel
theorem dX5_firstWaiting_1 : decode cX5_firstWaiting 1 = .ok (.astore_n 3, 1) := by decide +kernel
theorem dX5_firstWaiting_2 : decode cX5_firstWaiting 2 = .ok (.iconst 0, 1) := by decide +kernel
theorem dX5_firstWaiting_3 : decode cX5_firstWaiting 3 = .ok (.istore 4, 2) := by decide +kernel
theorem dX5_firstWaiting_5 : decode cX5_firstWaiting 5 = .ok (.iload 4, 2) := by decide +kernel
theorem dX5_firstWaiting_7 : decode cX5_firstWaiting 7 = .ok (.aload_n 0, 1) := by decide +kernel
theorem dX5_firstWaiting_8 : decode cX5_firstWaiting 8 = .ok (.getfield 38, 3) := by decide +kernel
theorem dX5_firstWaiting_11 : decode cX5_firstWaiting 11 = .ok (.if_icmp .ge 47, 3) := by decide +kernel
theorem dX5_firstWaiting_14 : decode cX5_firstWaiting 14 = .ok (.aload_n 0, 1) := by decide +kernel
theorem dX5_firstWaiting_15 : decode cX5_firstWaiting 15 = .ok (.getfield 11, 3) := by decide +kernel
theorem dX5_firstWaiting_18 : decode cX5_firstWaiting 18 = .ok (.iload 4, 2) := by decide +kernel
theorem dX5_firstWaiting_20 : decode cX5_firstWaiting 20 = .ok (.aaload, 1) := by decide +kernel
theorem dX5_firstWaiting_21 : decode cX5_firstWaiting 21 = .ok (.astore 5, 2) := by decide +kernel
theorem dX5_firstWaiting_23 : decode cX5_firstWaiting 23 = .ok (.aload 5, 2) := by decide +kernel
theorem dX5_firstWaiting_25 : decode cX5_firstWaiting 25 = .ok (.iload_n 1, 1) := by decide +kernel
theorem dX5_firstWaiting_26 : decode cX5_firstWaiting 26 = .ok (.iload_n 2, 1) := by decide +kernel
theorem dX5_firstWaiting_27 : decode cX5_firstWaiting 27 = .ok (.invokevirtual 82, 3) := by decide +kernel
theorem dX5_firstWaiting_30 : decode cX5_firstWaiting 30 = .ok (.ifCond .eq 22, 3) := by decide +kernel
theorem dX5_firstWaiting_33 : decode cX5_firstWaiting 33 = .ok (.aload_n 3, 1) := by decide +kernel
theorem dX5_firstWaiting_34 : decode cX5_firstWaiting 34 = .ok (.ifnull 15, 3) := by decide +kernel
theorem dX5_firstWaiting_37 : decode cX5_firstWaiting 37 = .ok (.aload 5, 2) := by decide +kernel
theorem dX5_firstWaiting_39 : decode cX5_firstWaiting 39 = .ok (.getfield 177, 3) := by decide +kernel
theorem dX5_firstWaiting_42 : decode cX5_firstWaiting 42 = .ok (.aload_n 3, 1) := by decide +kernel
theorem dX5_firstWaiting_43 : decode cX5_firstWaiting 43 = .ok (.getfield 177, 3) := by decide +kernel
theorem dX5_firstWaiting_46 : decode cX5_firstWaiting 46 = .ok (.if_icmp .ge 6, 3) := by decide +kernel
theorem dX5_firstWaiting_49 : decode cX5_firstWaiting 49 = .ok (.aload 5, 2) := by decide +kernel
theorem dX5_firstWaiting_51 : decode cX5_firstWaiting 51 = .ok (.astore_n 3, 1) := by decide +kernel
theorem dX5_firstWaiting_52 : decode cX5_firstWaiting 52 = .ok (.iinc 4 1, 3) := by decide +kernel
theorem dX5_firstWaiting_55 : decode cX5_firstWaiting 55 = .ok (.goto (-50), 3) := by decide +kernel
theorem dX5_firstWaiting_58 : decode cX5_firstWaiting 58 = .ok (.aload_n 3, 1) := by decide +kernel
theorem dX5_firstWaiting_59 : decode cX5_firstWaiting 59 = .ok (.areturn, 1) := by decide +kernel
theorem dX5_raise_0 : decode cX5_raise 0 = .ok (.aload_n 1, 1) := by decide +kernel
theorem dX5_raise_1 : decode cX5_raise 1 = .ok (.invokevirtual 231, 3) := by decide +kernel
theorem dX5_raise_4 : decode cX5_raise 4 = .ok (.istore_n 3, 1) := by decide +kernel
theorem dX5_raise_5 : decode cX5_raise 5 = .ok (.aload_n 1, 1) := by decide +kernel
theorem dX5_raise_6 : decode cX5_raise 6 = .ok (.iload_n 2, 1) := by decide +kernel
theorem dX5_raise_7 : decode cX5_raise 7 = .ok (.invokevirtual 234, 3) := by decide +kernel
theorem dX5_raise_10 : decode cX5_raise 10 = .ok (.ifCond .ne 25, 3) := by decide +kernel
theorem dX5_raise_13 : decode cX5_raise 13 = .ok (.aload_n 1, 1) := by decide +kernel
theorem dX5_raise_14 : decode cX5_raise 14 = .ok (.bipush 6, 2) := by decide +kernel
theorem dX5_raise_16 : decode cX5_raise 16 = .ok (.putfield 91, 3) := by decide +kernel
theorem dX5_raise_19 : decode cX5_raise 19 = .ok (.aload_n 1, 1) := by decide +kernel
theorem dX5_raise_20 : decode cX5_raise 20 = .ok (.iload_n 2, 1) := by decide +kernel
theorem dX5_raise_21 : decode cX5_raise 21 = .ok (.putfield 237, 3) := by decide +kernel
theorem dX5_raise_24 : decode cX5_raise 24 = .ok (.aload_n 0, 1) := by decide +kernel
theorem dX5_raise_25 : decode cX5_raise 25 = .ok (.getfield 20, 3) := by decide +kernel
theorem dX5_raise_28 : decode cX5_raise 28 = .ok (.aload_n 1, 1) := by decide +kernel
theorem dX5_raise_29 : decode cX5_raise 29 = .ok (.invokevirtual 240, 3) := by decide +kernel
theorem dX5_raise_32 : decode cX5_raise 32 = .ok (.goto 20, 3) := by decide +kernel
theorem dX5_raise_35 : decode cX5_raise 35 = .ok (.iload_n 3, 1) := by decide +kernel
theorem dX5_raise_36 : decode cX5_raise 36 = .ok (.ifCond .eq 16, 3) := by decide +kernel
theorem dX5_raise_39 : decode cX5_raise 39 = .ok (.aload_n 1, 1) := by decide +kernel
theorem dX5_raise_40 : decode cX5_raise 40 = .ok (.iconst 0, 1) := by decide +kernel
theorem dX5_raise_41 : decode cX5_raise 41 = .ok (.putfield 91, 3) := by decide +kernel
theorem dX5_raise_44 : decode cX5_raise 44 = .ok (.aload_n 0, 1) := by decide +kernel
theorem dX5_raise_45 : decode cX5_raise 45 = .ok (.getfield 20, 3) := by decide +kernel
theorem dX5_raise_48 : decode cX5_raise 48 = .ok (.aload_n 1, 1) := by decide +kernel
theorem dX5_raise_49 : decode cX5_raise 49 = .ok (.invokevirtual 115, 3) := by decide +kernel
theorem dX5_raise_52 : decode cX5_raise 52 = .ok (.return_, 1) := by decide +kernel
theorem dX5_throwTo_0 : decode cX5_throwTo 0 = .ok (.aload_n 1, 1) := by decide +kernel
theorem dX5_throwTo_1 : decode cX5_throwTo 1 = .ok (.ifnull 10, 3) := by decide +kernel
theorem dX5_throwTo_4 : decode cX5_throwTo 4 = .ok (.aload_n 1, 1) := by decide +kernel
theorem dX5_throwTo_5 : decode cX5_throwTo 5 = .ok (.invokevirtual 152, 3) := by decide +kernel
theorem dX5_throwTo_8 : decode cX5_throwTo 8 = .ok (.ifCond .eq 4, 3) := by decide +kernel
theorem dX5_throwTo_11 : decode cX5_throwTo 11 = .ok (.return_, 1) := by decide +kernel
theorem dX5_throwTo_12 : decode cX5_throwTo 12 = .ok (.aload_n 1, 1) := by decide +kernel
theorem dX5_throwTo_13 : decode cX5_throwTo 13 = .ok (.aload_n 2, 1) := by decide +kernel
theorem dX5_throwTo_14 : decode cX5_throwTo 14 = .ok (.if_acmp .eq 17, 3) := by decide +kernel
theorem dX5_throwTo_17 : decode cX5_throwTo 17 = .ok (.aload_n 1, 1) := by decide +kernel
theorem dX5_throwTo_18 : decode cX5_throwTo 18 = .ok (.getfield 243, 3) := by decide +kernel
theorem dX5_throwTo_21 : decode cX5_throwTo 21 = .ok (.ifCond .eq 10, 3) := by decide +kernel
theorem dX5_throwTo_24 : decode cX5_throwTo 24 = .ok (.aload_n 1, 1) := by decide +kernel
theorem dX5_throwTo_25 : decode cX5_throwTo 25 = .ok (.invokevirtual 231, 3) := by decide +kernel
theorem dX5_throwTo_28 : decode cX5_throwTo 28 = .ok (.ifCond .eq 12, 3) := by decide +kernel
theorem dX5_throwTo_31 : decode cX5_throwTo 31 = .ok (.aload_n 0, 1) := by decide +kernel
theorem dX5_throwTo_32 : decode cX5_throwTo 32 = .ok (.aload_n 1, 1) := by decide +kernel
theorem dX5_throwTo_33 : decode cX5_throwTo 33 = .ok (.iload_n 3, 1) := by decide +kernel
theorem dX5_throwTo_34 : decode cX5_throwTo 34 = .ok (.invokevirtual 148, 3) := by decide +kernel
theorem dX5_throwTo_37 : decode cX5_throwTo 37 = .ok (.goto 8, 3) := by decide +kernel
theorem dX5_throwTo_40 : decode cX5_throwTo 40 = .ok (.aload_n 1, 1) := by decide +kernel
theorem dX5_throwTo_41 : decode cX5_throwTo 41 = .ok (.iload_n 3, 1) := by decide +kernel
theorem dX5_throwTo_42 : decode cX5_throwTo 42 = .ok (.invokevirtual 246, 3) := by decide +kernel
theorem dX5_throwTo_45 : decode cX5_throwTo 45 = .ok (.return_, 1) := by decide +kernel
theorem dX5_mask_0 : decode cX5_mask 0 = .ok (.aload_n 1, 1) := by decide +kernel
theorem dX5_mask_1 : decode cX5_mask 1 = .ok (.iload_n 2, 1) := by decide +kernel
theorem dX5_mask_2 : decode cX5_mask 2 = .ok (.putfield 243, 3) := by decide +kernel
theorem dX5_mask_5 : decode cX5_mask 5 = .ok (.iload_n 2, 1) := by decide +kernel
theorem dX5_mask_6 : decode cX5_mask 6 = .ok (.ifCond .eq 4, 3) := by decide +kernel
theorem dX5_mask_9 : decode cX5_mask 9 = .ok (.return_, 1) := by decide +kernel
theorem dX5_mask_10 : decode cX5_mask 10 = .ok (.iconst 0, 1) := by decide +kernel
theorem dX5_mask_11 : decode cX5_mask 11 = .ok (.istore_n 3, 1) := by decide +kernel
theorem dX5_mask_12 : decode cX5_mask 12 = .ok (.iload_n 3, 1) := by decide +kernel
theorem dX5_mask_13 : decode cX5_mask 13 = .ok (.iconst 4, 1) := by decide +kernel
theorem dX5_mask_14 : decode cX5_mask 14 = .ok (.if_icmp .ge 32, 3) := by decide +kernel
theorem dX5_mask_17 : decode cX5_mask 17 = .ok (.aload_n 1, 1) := by decide +kernel
theorem dX5_mask_18 : decode cX5_mask 18 = .ok (.getfield 161, 3) := by decide +kernel
theorem dX5_mask_21 : decode cX5_mask 21 = .ok (.ifCond .le 25, 3) := by decide +kernel
theorem dX5_mask_24 : decode cX5_mask 24 = .ok (.aload_n 1, 1) := by decide +kernel
theorem dX5_mask_25 : decode cX5_mask 25 = .ok (.invokevirtual 152, 3) := by decide +kernel
theorem dX5_mask_28 : decode cX5_mask 28 = .ok (.ifCond .ne 18, 3) := by decide +kernel
theorem dX5_mask_31 : decode cX5_mask 31 = .ok (.aload_n 0, 1) := by decide +kernel
theorem dX5_mask_32 : decode cX5_mask 32 = .ok (.aload_n 1, 1) := by decide +kernel
theorem dX5_mask_33 : decode cX5_mask 33 = .ok (.aload_n 1, 1) := by decide +kernel
theorem dX5_mask_34 : decode cX5_mask 34 = .ok (.invokevirtual 164, 3) := by decide +kernel
theorem dX5_mask_37 : decode cX5_mask 37 = .ok (.invokevirtual 148, 3) := by decide +kernel
theorem dX5_mask_40 : decode cX5_mask 40 = .ok (.iinc 3 1, 3) := by decide +kernel
theorem dX5_mask_43 : decode cX5_mask 43 = .ok (.goto (-31), 3) := by decide +kernel
theorem dX5_mask_46 : decode cX5_mask 46 = .ok (.return_, 1) := by decide +kernel
theorem dX6_init_0 : decode cX6_init 0 = .ok (.aload_n 0, 1) := by decide +kernel
theorem dX6_init_1 : decode cX6_init 1 = .ok (.invokespecial 1, 3) := by decide +kernel
theorem dX6_init_4 : decode cX6_init 4 = .ok (.aload_n 0, 1) := by decide +kernel
theorem dX6_init_5 : decode cX6_init 5 = .ok (.new 7, 3) := by decide +kernel
theorem dX6_init_8 : decode cX6_init 8 = .ok (.dup, 1) := by decide +kernel
theorem dX6_init_9 : decode cX6_init 9 = .ok (.invokespecial 9, 3) := by decide +kernel
theorem dX6_init_12 : decode cX6_init 12 = .ok (.putfield 10, 3) := by decide +kernel
theorem dX6_init_15 : decode cX6_init 15 = .ok (.aload_n 0, 1) := by decide +kernel
theorem dX6_init_16 : decode cX6_init 16 = .ok (.new 16, 3) := by decide +kernel
theorem dX6_init_19 : decode cX6_init 19 = .ok (.dup, 1) := by decide +kernel
theorem dX6_init_20 : decode cX6_init 20 = .ok (.aload_n 0, 1) := by decide +kernel
theorem dX6_init_21 : decode cX6_init 21 = .ok (.getfield 10, 3) := by decide +kernel
theorem dX6_init_24 : decode cX6_init 24 = .ok (.invokespecial 18, 3) := by decide +kernel
theorem dX6_init_27 : decode cX6_init 27 = .ok (.putfield 21, 3) := by decide +kernel
theorem dX6_init_30 : decode cX6_init 30 = .ok (.return_, 1) := by decide +kernel
theorem dX6_program_0 : decode cX6_program 0 = .ok (.aload_n 0, 1) := by decide +kernel
theorem dX6_program_1 : decode cX6_program 1 = .ok (.getfield 10, 3) := by decide +kernel
theorem dX6_program_4 : decode cX6_program 4 = .ok (.invokevirtual 25, 3) := by decide +kernel
theorem dX6_program_7 : decode cX6_program 7 = .ok (.ireturn, 1) := by decide +kernel
theorem dX6_act_0 : decode cX6_act 0 = .ok (.iload_n 1, 1) := by decide +kernel
theorem dX6_act_1 : decode cX6_act 1 = .ok (.iload_n 2, 1) := by decide +kernel
theorem dX6_act_2 : decode cX6_act 2 = .ok (.invokestatic 29, 3) := by decide +kernel
theorem dX6_act_5 : decode cX6_act 5 = .ok (.ifCond .ne 6, 3) := by decide +kernel
theorem dX6_act_8 : decode cX6_act 8 = .ok (.bipush (-2), 2) := by decide +kernel
theorem dX6_act_10 : decode cX6_act 10 = .ok (.ireturn, 1) := by decide +kernel
theorem dX6_act_11 : decode cX6_act 11 = .ok (.aload_n 0, 1) := by decide +kernel
theorem dX6_act_12 : decode cX6_act 12 = .ok (.getfield 10, 3) := by decide +kernel
theorem dX6_act_15 : decode cX6_act 15 = .ok (.invokevirtual 33, 3) := by decide +kernel
theorem dX6_act_18 : decode cX6_act 18 = .ok (.ifCond .eq 6, 3) := by decide +kernel
theorem dX6_act_21 : decode cX6_act 21 = .ok (.bipush (-3), 2) := by decide +kernel
theorem dX6_act_23 : decode cX6_act 23 = .ok (.ireturn, 1) := by decide +kernel
theorem dX6_act_24 : decode cX6_act 24 = .ok (.aload_n 0, 1) := by decide +kernel
theorem dX6_act_25 : decode cX6_act 25 = .ok (.getfield 10, 3) := by decide +kernel
theorem dX6_act_28 : decode cX6_act 28 = .ok (.iload_n 1, 1) := by decide +kernel
theorem dX6_act_29 : decode cX6_act 29 = .ok (.iload_n 2, 1) := by decide +kernel
theorem dX6_act_30 : decode cX6_act 30 = .ok (.invokevirtual 37, 3) := by decide +kernel
theorem dX6_act_33 : decode cX6_act 33 = .ok (.ireturn, 1) := by decide +kernel
theorem dX6_begin_0 : decode cX6_begin 0 = .ok (.aload_n 0, 1) := by decide +kernel
theorem dX6_begin_1 : decode cX6_begin 1 = .ok (.getfield 10, 3) := by decide +kernel
theorem dX6_begin_4 : decode cX6_begin 4 = .ok (.iload_n 1, 1) := by decide +kernel
theorem dX6_begin_5 : decode cX6_begin 5 = .ok (.invokevirtual 41, 3) := by decide +kernel
theorem dX6_begin_8 : decode cX6_begin 8 = .ok (.ifCond .ne 5, 3) := by decide +kernel
theorem dX6_begin_11 : decode cX6_begin 11 = .ok (.iconst (-1), 1) := by decide +kernel
theorem dX6_begin_12 : decode cX6_begin 12 = .ok (.ireturn, 1) := by decide +kernel
theorem dX6_begin_13 : decode cX6_begin 13 = .ok (.iload_n 2, 1) := by decide +kernel
theorem dX6_begin_14 : decode cX6_begin 14 = .ok (.iconst 1, 1) := by decide +kernel
theorem dX6_begin_15 : decode cX6_begin 15 = .ok (.if_icmp .lt 9, 3) := by decide +kernel
theorem dX6_begin_18 : decode cX6_begin 18 = .ok (.iload_n 2, 1) := by decide +kernel
theorem dX6_begin_19 : decode cX6_begin 19 = .ok (.bipush 10, 2) := by decide +kernel
theorem dX6_begin_21 : decode cX6_begin 21 = .ok (.if_icmp .le 6, 3) := by decide +kernel
theorem dX6_begin_24 : decode cX6_begin 24 = .ok (.bipush (-2), 2) := by decide +kernel
theorem dX6_begin_26 : decode cX6_begin 26 = .ok (.ireturn, 1) := by decide +kernel
theorem dX6_begin_27 : decode cX6_begin 27 = .ok (.aload_n 0, 1) := by decide +kernel
theorem dX6_begin_28 : decode cX6_begin 28 = .ok (.getfield 21, 3) := by decide +kernel
theorem dX6_begin_31 : decode cX6_begin 31 = .ok (.iload_n 1, 1) := by decide +kernel
theorem dX6_begin_32 : decode cX6_begin 32 = .ok (.iload_n 2, 1) := by decide +kernel
theorem dX6_begin_33 : decode cX6_begin 33 = .ok (.iload_n 3, 1) := by decide +kernel
theorem dX6_begin_34 : decode cX6_begin 34 = .ok (.invokevirtual 45, 3) := by decide +kernel
theorem dX6_begin_37 : decode cX6_begin 37 = .ok (.iconst 1, 1) := by decide +kernel
theorem dX6_begin_38 : decode cX6_begin 38 = .ok (.ireturn, 1) := by decide +kernel
theorem dX6_fill_0 : decode cX6_fill 0 = .ok (.aload_n 0, 1) := by decide +kernel
theorem dX6_fill_1 : decode cX6_fill 1 = .ok (.getfield 21, 3) := by decide +kernel
theorem dX6_fill_4 : decode cX6_fill 4 = .ok (.getfield 49, 3) := by decide +kernel
theorem dX6_fill_7 : decode cX6_fill 7 = .ok (.iload_n 1, 1) := by decide +kernel
theorem dX6_fill_8 : decode cX6_fill 8 = .ok (.invokevirtual 53, 3) := by decide +kernel
theorem dX6_fill_11 : decode cX6_fill 11 = .ok (.ifCond .ne 5, 3) := by decide +kernel
theorem dX6_fill_14 : decode cX6_fill 14 = .ok (.iconst (-1), 1) := by decide +kernel
theorem dX6_fill_15 : decode cX6_fill 15 = .ok (.ireturn, 1) := by decide +kernel
theorem dX6_fill_16 : decode cX6_fill 16 = .ok (.aload_n 0, 1) := by decide +kernel
theorem dX6_fill_17 : decode cX6_fill 17 = .ok (.getfield 21, 3) := by decide +kernel
theorem dX6_fill_20 : decode cX6_fill 20 = .ok (.getfield 56, 3) := by decide +kernel
theorem dX6_fill_23 : decode cX6_fill 23 = .ok (.ifCond .eq 27, 3) := by decide +kernel
theorem dX6_fill_26 : decode cX6_fill 26 = .ok (.aload_n 0, 1) := by decide +kernel
theorem dX6_fill_27 : decode cX6_fill 27 = .ok (.getfield 21, 3) := by decide +kernel
theorem dX6_fill_30 : decode cX6_fill 30 = .ok (.getfield 60, 3) := by decide +kernel
theorem dX6_fill_33 : decode cX6_fill 33 = .ok (.ifCond .ne 17, 3) := by decide +kernel
theorem dX6_fill_36 : decode cX6_fill 36 = .ok (.aload_n 0, 1) := by decide +kernel
theorem dX6_fill_37 : decode cX6_fill 37 = .ok (.getfield 21, 3) := by decide +kernel
theorem dX6_fill_40 : decode cX6_fill 40 = .ok (.getfield 49, 3) := by decide +kernel
theorem dX6_fill_43 : decode cX6_fill 43 = .ok (.iload_n 1, 1) := by decide +kernel
theorem dX6_fill_44 : decode cX6_fill 44 = .ok (.invokevirtual 63, 3) := by decide +kernel
theorem dX6_fill_47 : decode cX6_fill 47 = .ok (.ifCond .eq 6, 3) := by decide +kernel
theorem dX6_fill_50 : decode cX6_fill 50 = .ok (.bipush (-3), 2) := by decide +kernel
theorem dX6_fill_52 : decode cX6_fill 52 = .ok (.ireturn, 1) := by decide +kernel
theorem dX6_fill_53 : decode cX6_fill 53 = .ok (.aload_n 0, 1) := by decide +kernel
theorem dX6_fill_54 : decode cX6_fill 54 = .ok (.getfield 21, 3) := by decide +kernel
theorem dX6_fill_57 : decode cX6_fill 57 = .ok (.iload_n 1, 1) := by decide +kernel
theorem dX6_fill_58 : decode cX6_fill 58 = .ok (.iload_n 2, 1) := by decide +kernel
theorem dX6_fill_59 : decode cX6_fill 59 = .ok (.invokevirtual 66, 3) := by decide +kernel
theorem dX6_fill_62 : decode cX6_fill 62 = .ok (.iconst 1, 1) := by decide +kernel
theorem dX6_fill_63 : decode cX6_fill 63 = .ok (.ireturn, 1) := by decide +kernel
theorem dX6_step_0 : decode cX6_step 0 = .ok (.iload_n 1, 1) := by decide +kernel
theorem dX6_step_1 : decode cX6_step 1 = .ok (.iconst 1, 1) := by decide +kernel
theorem dX6_step_2 : decode cX6_step 2 = .ok (.if_icmp .lt 10, 3) := by decide +kernel
theorem dX6_step_5 : decode cX6_step 5 = .ok (.iload_n 1, 1) := by decide +kernel
theorem dX6_step_6 : decode cX6_step 6 = .ok (.sipush 500, 3) := by decide +kernel
theorem dX6_step_9 : decode cX6_step 9 = .ok (.if_icmp .le 6, 3) := by decide +kernel
theorem dX6_step_12 : decode cX6_step 12 = .ok (.bipush (-2), 2) := by decide +kernel
theorem dX6_step_14 : decode cX6_step 14 = .ok (.ireturn, 1) := by decide +kernel
theorem dX6_step_15 : decode cX6_step 15 = .ok (.aload_n 0, 1) := by decide +kernel
theorem dX6_step_16 : decode cX6_step 16 = .ok (.getfield 21, 3) := by decide +kernel
theorem dX6_step_19 : decode cX6_step 19 = .ok (.getfield 56, 3) := by decide +kernel
theorem dX6_step_22 : decode cX6_step 22 = .ok (.ifCond .ne 6, 3) := by decide +kernel
theorem dX6_step_25 : decode cX6_step 25 = .ok (.bipush (-3), 2) := by decide +kernel
theorem dX6_step_27 : decode cX6_step 27 = .ok (.ireturn, 1) := by decide +kernel
theorem dX6_step_28 : decode cX6_step 28 = .ok (.aload_n 0, 1) := by decide +kernel
theorem dX6_step_29 : decode cX6_step 29 = .ok (.getfield 21, 3) := by decide +kernel
theorem dX6_step_32 : decode cX6_step 32 = .ok (.getfield 70, 3) := by decide +kernel
theorem dX6_step_35 : decode cX6_step 35 = .ok (.iload_n 1, 1) := by decide +kernel
theorem dX6_step_36 : decode cX6_step 36 = .ok (.iadd, 1) := by decide +kernel
theorem dX6_step_37 : decode cX6_step 37 = .ok (.sipush 3000, 3) := by decide +kernel
theorem dX6_step_40 : decode cX6_step 40 = .ok (.if_icmp .le 6, 3) := by decide +kernel
theorem dX6_step_43 : decode cX6_step 43 = .ok (.bipush (-4), 2) := by decide +kernel
theorem dX6_step_45 : decode cX6_step 45 = .ok (.ireturn, 1) := by decide +kernel
theorem dX6_step_46 : decode cX6_step 46 = .ok (.iconst 0, 1) := by decide +kernel
theorem dX6_step_47 : decode cX6_step 47 = .ok (.istore_n 2, 1) := by decide +kernel
theorem dX6_step_48 : decode cX6_step 48 = .ok (.iload_n 2, 1) := by decide +kernel
theorem dX6_step_49 : decode cX6_step 49 = .ok (.iload_n 1, 1) := by decide +kernel
theorem dX6_step_50 : decode cX6_step 50 = .ok (.if_icmp .ge 21, 3) := by decide +kernel
theorem dX6_step_53 : decode cX6_step 53 = .ok (.aload_n 0, 1) := by decide +kernel
theorem dX6_step_54 : decode cX6_step 54 = .ok (.getfield 21, 3) := by decide +kernel
theorem dX6_step_57 : decode cX6_step 57 = .ok (.invokevirtual 74, 3) := by decide +kernel
theorem dX6_step_60 : decode cX6_step 60 = .ok (.ifCond .ne 5, 3) := by decide +kernel
theorem dX6_step_63 : decode cX6_step 63 = .ok (.iload_n 2, 1) := by decide +kernel
theorem dX6_step_64 : decode cX6_step 64 = .ok (.ireturn, 1) := by decide +kernel
theorem dX6_step_65 : decode cX6_step 65 = .ok (.iinc 2 1, 3) := by decide +kernel
theorem dX6_step_68 : decode cX6_step 68 = .ok (.goto (-20), 3) := by decide +kernel
theorem dX6_step_71 : decode cX6_step 71 = .ok (.iload_n 1, 1) := by decide +kernel
theorem dX6_step_72 : decode cX6_step 72 = .ok (.ireturn, 1) := by decide +kernel
theorem dX6_told_0 : decode cX6_told 0 = .ok (.iload_n 1, 1) := by decide +kernel
theorem dX6_told_1 : decode cX6_told 1 = .ok (.ifCond .lt 8, 3) := by decide +kernel
theorem dX6_told_4 : decode cX6_told 4 = .ok (.iload_n 1, 1) := by decide +kernel
theorem dX6_told_5 : decode cX6_told 5 = .ok (.iconst 5, 1) := by decide +kernel
theorem dX6_told_6 : decode cX6_told 6 = .ok (.if_icmp .le 6, 3) := by decide +kernel
theorem dX6_told_9 : decode cX6_told 9 = .ok (.bipush (-2), 2) := by decide +kernel
theorem dX6_told_11 : decode cX6_told 11 = .ok (.ireturn, 1) := by decide +kernel
theorem dX6_told_12 : decode cX6_told 12 = .ok (.aload_n 0, 1) := by decide +kernel
theorem dX6_told_13 : decode cX6_told 13 = .ok (.getfield 21, 3) := by decide +kernel
theorem dX6_told_16 : decode cX6_told 16 = .ok (.getfield 56, 3) := by decide +kernel
theorem dX6_told_19 : decode cX6_told 19 = .ok (.ifCond .ne 6, 3) := by decide +kernel
theorem dX6_told_22 : decode cX6_told 22 = .ok (.bipush (-3), 2) := by decide +kernel
theorem dX6_told_24 : decode cX6_told 24 = .ok (.ireturn, 1) := by decide +kernel
theorem dX6_told_25 : decode cX6_told 25 = .ok (.iload_n 1, 1) := by decide +kernel
theorem dX6_told_26 : decode cX6_told 26 = .ok (.tableswitch 85 0 4 #[34, 50, 58, 66, 74], 34) := by decide +kernel
theorem dX6_told_60 : decode cX6_told 60 = .ok (.aload_n 0, 1) := by decide +kernel
theorem dX6_told_61 : decode cX6_told 61 = .ok (.getfield 21, 3) := by decide +kernel
theorem dX6_told_64 : decode cX6_told 64 = .ok (.getfield 60, 3) := by decide +kernel
theorem dX6_told_67 : decode cX6_told 67 = .ok (.ifCond .eq 7, 3) := by decide +kernel
theorem dX6_told_70 : decode cX6_told 70 = .ok (.iconst 1, 1) := by decide +kernel
theorem dX6_told_71 : decode cX6_told 71 = .ok (.goto 4, 3) := by decide +kernel
theorem dX6_told_74 : decode cX6_told 74 = .ok (.iconst 0, 1) := by decide +kernel
theorem dX6_told_75 : decode cX6_told 75 = .ok (.ireturn, 1) := by decide +kernel
theorem dX6_told_76 : decode cX6_told 76 = .ok (.aload_n 0, 1) := by decide +kernel
theorem dX6_told_77 : decode cX6_told 77 = .ok (.getfield 21, 3) := by decide +kernel
theorem dX6_told_80 : decode cX6_told 80 = .ok (.getfield 77, 3) := by decide +kernel
theorem dX6_told_83 : decode cX6_told 83 = .ok (.ireturn, 1) := by decide +kernel
theorem dX6_told_84 : decode cX6_told 84 = .ok (.aload_n 0, 1) := by decide +kernel
theorem dX6_told_85 : decode cX6_told 85 = .ok (.getfield 21, 3) := by decide +kernel
theorem dX6_told_88 : decode cX6_told 88 = .ok (.getfield 70, 3) := by decide +kernel
theorem dX6_told_91 : decode cX6_told 91 = .ok (.ireturn, 1) := by decide +kernel
theorem dX6_told_92 : decode cX6_told 92 = .ok (.aload_n 0, 1) := by decide +kernel
theorem dX6_told_93 : decode cX6_told 93 = .ok (.getfield 21, 3) := by decide +kernel
theorem dX6_told_96 : decode cX6_told 96 = .ok (.getfield 80, 3) := by decide +kernel
theorem dX6_told_99 : decode cX6_told 99 = .ok (.ireturn, 1) := by decide +kernel
theorem dX6_told_100 : decode cX6_told 100 = .ok (.aload_n 0, 1) := by decide +kernel
theorem dX6_told_101 : decode cX6_told 101 = .ok (.getfield 21, 3) := by decide +kernel
theorem dX6_told_104 : decode cX6_told 104 = .ok (.getfield 83, 3) := by decide +kernel
theorem dX6_told_107 : decode cX6_told 107 = .ok (.invokevirtual 87, 3) := by decide +kernel
theorem dX6_told_110 : decode cX6_told 110 = .ok (.ireturn, 1) := by decide +kernel
theorem dX6_told_111 : decode cX6_told 111 = .ok (.aload_n 0, 1) := by decide +kernel
theorem dX6_told_112 : decode cX6_told 112 = .ok (.getfield 21, 3) := by decide +kernel
theorem dX6_told_115 : decode cX6_told 115 = .ok (.getfield 92, 3) := by decide +kernel
theorem dX6_told_118 : decode cX6_told 118 = .ok (.ireturn, 1) := by decide +kernel
theorem dX6_thread_0 : decode cX6_thread 0 = .ok (.aload_n 0, 1) := by decide +kernel
theorem dX6_thread_1 : decode cX6_thread 1 = .ok (.getfield 21, 3) := by decide +kernel
theorem dX6_thread_4 : decode cX6_thread 4 = .ok (.iload_n 1, 1) := by decide +kernel
theorem dX6_thread_5 : decode cX6_thread 5 = .ok (.invokevirtual 95, 3) := by decide +kernel
theorem dX6_thread_8 : decode cX6_thread 8 = .ok (.astore_n 3, 1) := by decide +kernel
theorem dX6_thread_9 : decode cX6_thread 9 = .ok (.aload_n 3, 1) := by decide +kernel
theorem dX6_thread_10 : decode cX6_thread 10 = .ok (.ifnonnull 5, 3) := by decide +kernel
theorem dX6_thread_13 : decode cX6_thread 13 = .ok (.iconst (-1), 1) := by decide +kernel
theorem dX6_thread_14 : decode cX6_thread 14 = .ok (.ireturn, 1) := by decide +kernel
theorem dX6_thread_15 : decode cX6_thread 15 = .ok (.iload_n 2, 1) := by decide +kernel
theorem dX6_thread_16 : decode cX6_thread 16 = .ok (.ifCond .lt 9, 3) := by decide +kernel
theorem dX6_thread_19 : decode cX6_thread 19 = .ok (.iload_n 2, 1) := by decide +kernel
theorem dX6_thread_20 : decode cX6_thread 20 = .ok (.bipush 9, 2) := by decide +kernel
theorem dX6_thread_22 : decode cX6_thread 22 = .ok (.if_icmp .le 6, 3) := by decide +kernel
theorem dX6_thread_25 : decode cX6_thread 25 = .ok (.bipush (-2), 2) := by decide +kernel
theorem dX6_thread_27 : decode cX6_thread 27 = .ok (.ireturn, 1) := by decide +kernel
theorem dX6_thread_28 : decode cX6_thread 28 = .ok (.aload_n 3, 1) := by decide +kernel
theorem dX6_thread_29 : decode cX6_thread 29 = .ok (.iload_n 2, 1) := by decide +kernel
theorem dX6_thread_30 : decode cX6_thread 30 = .ok (.invokevirtual 99, 3) := by decide +kernel
theorem dX6_thread_33 : decode cX6_thread 33 = .ok (.ireturn, 1) := by decide +kernel
theorem dX6_queued_0 : decode cX6_queued 0 = .ok (.aload_n 0, 1) := by decide +kernel
theorem dX6_queued_1 : decode cX6_queued 1 = .ok (.getfield 21, 3) := by decide +kernel
theorem dX6_queued_4 : decode cX6_queued 4 = .ok (.getfield 83, 3) := by decide +kernel
theorem dX6_queued_7 : decode cX6_queued 7 = .ok (.iload_n 1, 1) := by decide +kernel
theorem dX6_queued_8 : decode cX6_queued 8 = .ok (.invokevirtual 105, 3) := by decide +kernel
theorem dX6_queued_11 : decode cX6_queued 11 = .ok (.astore_n 2, 1) := by decide +kernel
theorem dX6_queued_12 : decode cX6_queued 12 = .ok (.aload_n 2, 1) := by decide +kernel
theorem dX6_queued_13 : decode cX6_queued 13 = .ok (.ifnonnull 7, 3) := by decide +kernel
theorem dX6_queued_16 : decode cX6_queued 16 = .ok (.iconst (-1), 1) := by decide +kernel
theorem dX6_queued_17 : decode cX6_queued 17 = .ok (.goto 7, 3) := by decide +kernel
theorem dX6_queued_20 : decode cX6_queued 20 = .ok (.aload_n 2, 1) := by decide +kernel
theorem dX6_queued_21 : decode cX6_queued 21 = .ok (.getfield 108, 3) := by decide +kernel
theorem dX6_queued_24 : decode cX6_queued 24 = .ok (.ireturn, 1) := by decide +kernel
theorem dX6_box_0 : decode cX6_box 0 = .ok (.aload_n 0, 1) := by decide +kernel
theorem dX6_box_1 : decode cX6_box 1 = .ok (.getfield 21, 3) := by decide +kernel
theorem dX6_box_4 : decode cX6_box 4 = .ok (.getfield 56, 3) := by decide +kernel
theorem dX6_box_7 : decode cX6_box 7 = .ok (.ifCond .eq 17, 3) := by decide +kernel
theorem dX6_box_10 : decode cX6_box 10 = .ok (.aload_n 0, 1) := by decide +kernel
theorem dX6_box_11 : decode cX6_box 11 = .ok (.getfield 21, 3) := by decide +kernel
theorem dX6_box_14 : decode cX6_box 14 = .ok (.getfield 49, 3) := by decide +kernel
theorem dX6_box_17 : decode cX6_box 17 = .ok (.iload_n 1, 1) := by decide +kernel
theorem dX6_box_18 : decode cX6_box 18 = .ok (.invokevirtual 53, 3) := by decide +kernel
theorem dX6_box_21 : decode cX6_box 21 = .ok (.ifCond .ne 5, 3) := by decide +kernel
theorem dX6_box_24 : decode cX6_box 24 = .ok (.iconst (-1), 1) := by decide +kernel
theorem dX6_box_25 : decode cX6_box 25 = .ok (.ireturn, 1) := by decide +kernel
theorem dX6_box_26 : decode cX6_box 26 = .ok (.iload_n 2, 1) := by decide +kernel
theorem dX6_box_27 : decode cX6_box 27 = .ok (.ifCond .lt 8, 3) := by decide +kernel
theorem dX6_box_30 : decode cX6_box 30 = .ok (.iload_n 2, 1) := by decide +kernel
theorem dX6_box_31 : decode cX6_box 31 = .ok (.iconst 4, 1) := by decide +kernel
theorem dX6_box_32 : decode cX6_box 32 = .ok (.if_icmp .le 6, 3) := by decide +kernel
theorem dX6_box_35 : decode cX6_box 35 = .ok (.bipush (-2), 2) := by decide +kernel
theorem dX6_box_37 : decode cX6_box 37 = .ok (.ireturn, 1) := by decide +kernel
theorem dX6_box_38 : decode cX6_box 38 = .ok (.iload_n 2, 1) := by decide +kernel
theorem dX6_box_39 : decode cX6_box 39 = .ok (.tableswitch 100 0 3 #[29, 60, 80, 90], 29) := by decide +kernel
theorem dX6_box_68 : decode cX6_box 68 = .ok (.aload_n 0, 1) := by decide +kernel
theorem dX6_box_69 : decode cX6_box 69 = .ok (.getfield 21, 3) := by decide +kernel
theorem dX6_box_72 : decode cX6_box 72 = .ok (.getfield 49, 3) := by decide +kernel
theorem dX6_box_75 : decode cX6_box 75 = .ok (.iload_n 1, 1) := by decide +kernel
theorem dX6_box_76 : decode cX6_box 76 = .ok (.invokevirtual 63, 3) := by decide +kernel
theorem dX6_box_79 : decode cX6_box 79 = .ok (.ifCond .eq 17, 3) := by decide +kernel
theorem dX6_box_82 : decode cX6_box 82 = .ok (.aload_n 0, 1) := by decide +kernel
theorem dX6_box_83 : decode cX6_box 83 = .ok (.getfield 21, 3) := by decide +kernel
theorem dX6_box_86 : decode cX6_box 86 = .ok (.getfield 49, 3) := by decide +kernel
theorem dX6_box_89 : decode cX6_box 89 = .ok (.iload_n 1, 1) := by decide +kernel
theorem dX6_box_90 : decode cX6_box 90 = .ok (.invokevirtual 111, 3) := by decide +kernel
theorem dX6_box_93 : decode cX6_box 93 = .ok (.goto 5, 3) := by decide +kernel
theorem dX6_box_96 : decode cX6_box 96 = .ok (.bipush (-3), 2) := by decide +kernel
theorem dX6_box_98 : decode cX6_box 98 = .ok (.ireturn, 1) := by decide +kernel
theorem dX6_box_99 : decode cX6_box 99 = .ok (.aload_n 0, 1) := by decide +kernel
theorem dX6_box_100 : decode cX6_box 100 = .ok (.getfield 21, 3) := by decide +kernel
theorem dX6_box_103 : decode cX6_box 103 = .ok (.getfield 49, 3) := by decide +kernel
theorem dX6_box_106 : decode cX6_box 106 = .ok (.iload_n 1, 1) := by decide +kernel
theorem dX6_box_107 : decode cX6_box 107 = .ok (.invokevirtual 63, 3) := by decide +kernel
theorem dX6_box_110 : decode cX6_box 110 = .ok (.ifCond .eq 7, 3) := by decide +kernel
theorem dX6_box_113 : decode cX6_box 113 = .ok (.iconst 1, 1) := by decide +kernel
theorem dX6_box_114 : decode cX6_box 114 = .ok (.goto 4, 3) := by decide +kernel
theorem dX6_box_117 : decode cX6_box 117 = .ok (.iconst 0, 1) := by decide +kernel
theorem dX6_box_118 : decode cX6_box 118 = .ok (.ireturn, 1) := by decide +kernel
theorem dX6_box_119 : decode cX6_box 119 = .ok (.aload_n 0, 1) := by decide +kernel
theorem dX6_box_120 : decode cX6_box 120 = .ok (.getfield 21, 3) := by decide +kernel
theorem dX6_box_123 : decode cX6_box 123 = .ok (.iload_n 1, 1) := by decide +kernel
theorem dX6_box_124 : decode cX6_box 124 = .ok (.iconst 1, 1) := by decide +kernel
theorem dX6_box_125 : decode cX6_box 125 = .ok (.invokevirtual 114, 3) := by decide +kernel
theorem dX6_box_128 : decode cX6_box 128 = .ok (.ireturn, 1) := by decide +kernel
theorem dX6_box_129 : decode cX6_box 129 = .ok (.aload_n 0, 1) := by decide +kernel
theorem dX6_box_130 : decode cX6_box 130 = .ok (.getfield 21, 3) := by decide +kernel
theorem dX6_box_133 : decode cX6_box 133 = .ok (.iload_n 1, 1) := by decide +kernel
theorem dX6_box_134 : decode cX6_box 134 = .ok (.iconst 2, 1) := by decide +kernel
theorem dX6_box_135 : decode cX6_box 135 = .ok (.invokevirtual 114, 3) := by decide +kernel
theorem dX6_box_138 : decode cX6_box 138 = .ok (.ireturn, 1) := by decide +kernel
theorem dX6_box_139 : decode cX6_box 139 = .ok (.aload_n 0, 1) := by decide +kernel
theorem dX6_box_140 : decode cX6_box 140 = .ok (.getfield 21, 3) := by decide +kernel
theorem dX6_box_143 : decode cX6_box 143 = .ok (.iload_n 1, 1) := by decide +kernel
theorem dX6_box_144 : decode cX6_box 144 = .ok (.iconst 3, 1) := by decide +kernel
theorem dX6_box_145 : decode cX6_box 145 = .ok (.invokevirtual 114, 3) := by decide +kernel
theorem dX6_box_148 : decode cX6_box 148 = .ok (.ireturn, 1) := by decide +kernel
theorem dX6_trace_0 : decode cX6_trace 0 = .ok (.aload_n 0, 1) := by decide +kernel
theorem dX6_trace_1 : decode cX6_trace 1 = .ok (.getfield 21, 3) := by decide +kernel
theorem dX6_trace_4 : decode cX6_trace 4 = .ok (.getfield 117, 3) := by decide +kernel
theorem dX6_trace_7 : decode cX6_trace 7 = .ok (.invokevirtual 121, 3) := by decide +kernel
theorem dX6_trace_10 : decode cX6_trace 10 = .ok (.istore_n 3, 1) := by decide +kernel
theorem dX6_trace_11 : decode cX6_trace 11 = .ok (.aload_n 0, 1) := by decide +kernel
theorem dX6_trace_12 : decode cX6_trace 12 = .ok (.getfield 21, 3) := by decide +kernel
theorem dX6_trace_15 : decode cX6_trace 15 = .ok (.getfield 56, 3) := by decide +kernel
theorem dX6_trace_18 : decode cX6_trace 18 = .ok (.ifCond .eq 13, 3) := by decide +kernel
theorem dX6_trace_21 : decode cX6_trace 21 = .ok (.iload_n 1, 1) := by decide +kernel
theorem dX6_trace_22 : decode cX6_trace 22 = .ok (.iconst (-1), 1) := by decide +kernel
theorem dX6_trace_23 : decode cX6_trace 23 = .ok (.if_icmp .lt 8, 3) := by decide +kernel
theorem dX6_trace_26 : decode cX6_trace 26 = .ok (.iload_n 1, 1) := by decide +kernel
theorem dX6_trace_27 : decode cX6_trace 27 = .ok (.iload_n 3, 1) := by decide +kernel
theorem dX6_trace_28 : decode cX6_trace 28 = .ok (.if_icmp .lt 5, 3) := by decide +kernel
theorem dX6_trace_31 : decode cX6_trace 31 = .ok (.iconst (-1), 1) := by decide +kernel
theorem dX6_trace_32 : decode cX6_trace 32 = .ok (.ireturn, 1) := by decide +kernel
theorem dX6_trace_33 : decode cX6_trace 33 = .ok (.iload_n 2, 1) := by decide +kernel
theorem dX6_trace_34 : decode cX6_trace 34 = .ok (.ifCond .lt 8, 3) := by decide +kernel
theorem dX6_trace_37 : decode cX6_trace 37 = .ok (.iload_n 2, 1) := by decide +kernel
theorem dX6_trace_38 : decode cX6_trace 38 = .ok (.iconst 1, 1) := by decide +kernel
theorem dX6_trace_39 : decode cX6_trace 39 = .ok (.if_icmp .le 6, 3) := by decide +kernel
theorem dX6_trace_42 : decode cX6_trace 42 = .ok (.bipush (-2), 2) := by decide +kernel
theorem dX6_trace_44 : decode cX6_trace 44 = .ok (.ireturn, 1) := by decide +kernel
theorem dX6_trace_45 : decode cX6_trace 45 = .ok (.iload_n 1, 1) := by decide +kernel
theorem dX6_trace_46 : decode cX6_trace 46 = .ok (.iconst (-1), 1) := by decide +kernel
theorem dX6_trace_47 : decode cX6_trace 47 = .ok (.if_icmp .ne 5, 3) := by decide +kernel
theorem dX6_trace_50 : decode cX6_trace 50 = .ok (.iload_n 3, 1) := by decide +kernel
theorem dX6_trace_51 : decode cX6_trace 51 = .ok (.ireturn, 1) := by decide +kernel
theorem dX6_trace_52 : decode cX6_trace 52 = .ok (.iload_n 2, 1) := by decide +kernel
theorem dX6_trace_53 : decode cX6_trace 53 = .ok (.ifCond .ne 17, 3) := by decide +kernel
theorem dX6_trace_56 : decode cX6_trace 56 = .ok (.aload_n 0, 1) := by decide +kernel
theorem dX6_trace_57 : decode cX6_trace 57 = .ok (.getfield 21, 3) := by decide +kernel
theorem dX6_trace_60 : decode cX6_trace 60 = .ok (.getfield 117, 3) := by decide +kernel
theorem dX6_trace_63 : decode cX6_trace 63 = .ok (.iload_n 1, 1) := by decide +kernel
theorem dX6_trace_64 : decode cX6_trace 64 = .ok (.invokevirtual 124, 3) := by decide +kernel
theorem dX6_trace_67 : decode cX6_trace 67 = .ok (.goto 14, 3) := by decide +kernel
theorem dX6_trace_70 : decode cX6_trace 70 = .ok (.aload_n 0, 1) := by decide +kernel
theorem dX6_trace_71 : decode cX6_trace 71 = .ok (.getfield 21, 3) := by decide +kernel
theorem dX6_trace_74 : decode cX6_trace 74 = .ok (.getfield 117, 3) := by decide +kernel
theorem dX6_trace_77 : decode cX6_trace 77 = .ok (.iload_n 1, 1) := by decide +kernel
theorem dX6_trace_78 : decode cX6_trace 78 = .ok (.invokevirtual 127, 3) := by decide +kernel
theorem dX6_trace_81 : decode cX6_trace 81 = .ok (.ireturn, 1) := by decide +kernel
theorem dX6_share_0 : decode cX6_share 0 = .ok (.aload_n 0, 1) := by decide +kernel
theorem dX6_share_1 : decode cX6_share 1 = .ok (.getfield 21, 3) := by decide +kernel
theorem dX6_share_4 : decode cX6_share 4 = .ok (.iload_n 1, 1) := by decide +kernel
theorem dX6_share_5 : decode cX6_share 5 = .ok (.invokevirtual 95, 3) := by decide +kernel
theorem dX6_share_8 : decode cX6_share 8 = .ok (.astore_n 2, 1) := by decide +kernel
theorem dX6_share_9 : decode cX6_share 9 = .ok (.aload_n 2, 1) := by decide +kernel
theorem dX6_share_10 : decode cX6_share 10 = .ok (.ifnonnull 5, 3) := by decide +kernel
theorem dX6_share_13 : decode cX6_share 13 = .ok (.iconst (-1), 1) := by decide +kernel
theorem dX6_share_14 : decode cX6_share 14 = .ok (.ireturn, 1) := by decide +kernel
theorem dX6_share_15 : decode cX6_share 15 = .ok (.aload_n 0, 1) := by decide +kernel
theorem dX6_share_16 : decode cX6_share 16 = .ok (.getfield 21, 3) := by decide +kernel
theorem dX6_share_19 : decode cX6_share 19 = .ok (.getfield 70, 3) := by decide +kernel
theorem dX6_share_22 : decode cX6_share 22 = .ok (.ifCond .ne 13, 3) := by decide +kernel
theorem dX6_share_25 : decode cX6_share 25 = .ok (.new 130, 3) := by decide +kernel
theorem dX6_share_28 : decode cX6_share 28 = .ok (.dup, 1) := by decide +kernel
theorem dX6_share_29 : decode cX6_share 29 = .ok (.ldc 132, 2) := by decide +kernel
theorem dX6_share_31 : decode cX6_share 31 = .ok (.invokespecial 134, 3) := by decide +kernel
theorem dX6_share_34 : decode cX6_share 34 = .ok (.athrow, 1) := by decide +kernel
theorem dX6_share_35 : decode cX6_share 35 = .ok (.aload_n 2, 1) := by decide +kernel
theorem dX6_share_36 : decode cX6_share 36 = .ok (.getfield 137, 3) := by decide +kernel
theorem dX6_share_39 : decode cX6_share 39 = .ok (.sipush 1000, 3) := by decide +kernel
theorem dX6_share_42 : decode cX6_share 42 = .ok (.imul, 1) := by decide +kernel
theorem dX6_share_43 : decode cX6_share 43 = .ok (.aload_n 0, 1) := by decide +kernel
theorem dX6_share_44 : decode cX6_share 44 = .ok (.getfield 21, 3) := by decide +kernel
theorem dX6_share_47 : decode cX6_share 47 = .ok (.getfield 70, 3) := by decide +kernel
theorem dX6_share_50 : decode cX6_share 50 = .ok (.idiv, 1) := by decide +kernel
theorem dX6_share_51 : decode cX6_share 51 = .ok (.ireturn, 1) := by decide +kernel
theorem dX6_fits_0 : decode cX6_fits 0 = .ok (.iload_n 0, 1) := by decide +kernel
theorem dX6_fits_1 : decode cX6_fits 1 = .ok (.tableswitch 175 0 15 #[79, 79, 79, 175, 175, 95, 175, 111, 127, 127, 175, 143, 143, 127, 175, 160], 79) := by decide +kernel
theorem dX6_fits_80 : decode cX6_fits 80 = .ok (.iload_n 1, 1) := by decide +kernel
theorem dX6_fits_81 : decode cX6_fits 81 = .ok (.ifCond .lt 13, 3) := by decide +kernel
theorem dX6_fits_84 : decode cX6_fits 84 = .ok (.iload_n 1, 1) := by decide +kernel
theorem dX6_fits_85 : decode cX6_fits 85 = .ok (.bipush 8, 2) := by decide +kernel
theorem dX6_fits_87 : decode cX6_fits 87 = .ok (.if_icmp .ge 7, 3) := by decide +kernel
theorem dX6_fits_90 : decode cX6_fits 90 = .ok (.iconst 1, 1) := by decide +kernel
theorem dX6_fits_91 : decode cX6_fits 91 = .ok (.goto 4, 3) := by decide +kernel
theorem dX6_fits_94 : decode cX6_fits 94 = .ok (.iconst 0, 1) := by decide +kernel
theorem dX6_fits_95 : decode cX6_fits 95 = .ok (.ireturn, 1) := by decide +kernel
theorem dX6_fits_96 : decode cX6_fits 96 = .ok (.iload_n 1, 1) := by decide +kernel
theorem dX6_fits_97 : decode cX6_fits 97 = .ok (.ifCond .lt 13, 3) := by decide +kernel
theorem dX6_fits_100 : decode cX6_fits 100 = .ok (.iload_n 1, 1) := by decide +kernel
theorem dX6_fits_101 : decode cX6_fits 101 = .ok (.bipush 12, 2) := by decide +kernel
theorem dX6_fits_103 : decode cX6_fits 103 = .ok (.if_icmp .ge 7, 3) := by decide +kernel
theorem dX6_fits_106 : decode cX6_fits 106 = .ok (.iconst 1, 1) := by decide +kernel
theorem dX6_fits_107 : decode cX6_fits 107 = .ok (.goto 4, 3) := by decide +kernel
theorem dX6_fits_110 : decode cX6_fits 110 = .ok (.iconst 0, 1) := by decide +kernel
theorem dX6_fits_111 : decode cX6_fits 111 = .ok (.ireturn, 1) := by decide +kernel
theorem dX6_fits_112 : decode cX6_fits 112 = .ok (.iload_n 1, 1) := by decide +kernel
theorem dX6_fits_113 : decode cX6_fits 113 = .ok (.ifCond .lt 13, 3) := by decide +kernel
theorem dX6_fits_116 : decode cX6_fits 116 = .ok (.iload_n 1, 1) := by decide +kernel
theorem dX6_fits_117 : decode cX6_fits 117 = .ok (.bipush 100, 2) := by decide +kernel
theorem dX6_fits_119 : decode cX6_fits 119 = .ok (.if_icmp .gt 7, 3) := by decide +kernel
theorem dX6_fits_122 : decode cX6_fits 122 = .ok (.iconst 1, 1) := by decide +kernel
theorem dX6_fits_123 : decode cX6_fits 123 = .ok (.goto 4, 3) := by decide +kernel
theorem dX6_fits_126 : decode cX6_fits 126 = .ok (.iconst 0, 1) := by decide +kernel
theorem dX6_fits_127 : decode cX6_fits 127 = .ok (.ireturn, 1) := by decide +kernel
theorem dX6_fits_128 : decode cX6_fits 128 = .ok (.iload_n 1, 1) := by decide +kernel
theorem dX6_fits_129 : decode cX6_fits 129 = .ok (.ifCond .lt 13, 3) := by decide +kernel
theorem dX6_fits_132 : decode cX6_fits 132 = .ok (.iload_n 1, 1) := by decide +kernel
theorem dX6_fits_133 : decode cX6_fits 133 = .ok (.bipush 20, 2) := by decide +kernel
theorem dX6_fits_135 : decode cX6_fits 135 = .ok (.if_icmp .gt 7, 3) := by decide +kernel
theorem dX6_fits_138 : decode cX6_fits 138 = .ok (.iconst 1, 1) := by decide +kernel
theorem dX6_fits_139 : decode cX6_fits 139 = .ok (.goto 4, 3) := by decide +kernel
theorem dX6_fits_142 : decode cX6_fits 142 = .ok (.iconst 0, 1) := by decide +kernel
theorem dX6_fits_143 : decode cX6_fits 143 = .ok (.ireturn, 1) := by decide +kernel
theorem dX6_fits_144 : decode cX6_fits 144 = .ok (.iload_n 1, 1) := by decide +kernel
theorem dX6_fits_145 : decode cX6_fits 145 = .ok (.iconst 1, 1) := by decide +kernel
theorem dX6_fits_146 : decode cX6_fits 146 = .ok (.if_icmp .lt 13, 3) := by decide +kernel
theorem dX6_fits_149 : decode cX6_fits 149 = .ok (.iload_n 1, 1) := by decide +kernel
theorem dX6_fits_150 : decode cX6_fits 150 = .ok (.bipush 9, 2) := by decide +kernel
theorem dX6_fits_152 : decode cX6_fits 152 = .ok (.if_icmp .gt 7, 3) := by decide +kernel
theorem dX6_fits_155 : decode cX6_fits 155 = .ok (.iconst 1, 1) := by decide +kernel
theorem dX6_fits_156 : decode cX6_fits 156 = .ok (.goto 4, 3) := by decide +kernel
theorem dX6_fits_159 : decode cX6_fits 159 = .ok (.iconst 0, 1) := by decide +kernel
theorem dX6_fits_160 : decode cX6_fits 160 = .ok (.ireturn, 1) := by decide +kernel
theorem dX6_fits_161 : decode cX6_fits 161 = .ok (.iload_n 1, 1) := by decide +kernel
theorem dX6_fits_162 : decode cX6_fits 162 = .ok (.ifCond .eq 8, 3) := by decide +kernel
theorem dX6_fits_165 : decode cX6_fits 165 = .ok (.iload_n 1, 1) := by decide +kernel
theorem dX6_fits_166 : decode cX6_fits 166 = .ok (.iconst 1, 1) := by decide +kernel
theorem dX6_fits_167 : decode cX6_fits 167 = .ok (.if_icmp .ne 7, 3) := by decide +kernel
theorem dX6_fits_170 : decode cX6_fits 170 = .ok (.iconst 1, 1) := by decide +kernel
theorem dX6_fits_171 : decode cX6_fits 171 = .ok (.goto 4, 3) := by decide +kernel
theorem dX6_fits_174 : decode cX6_fits 174 = .ok (.iconst 0, 1) := by decide +kernel
theorem dX6_fits_175 : decode cX6_fits 175 = .ok (.ireturn, 1) := by decide +kernel
theorem dX6_fits_176 : decode cX6_fits 176 = .ok (.iload_n 0, 1) := by decide +kernel
theorem dX6_fits_177 : decode cX6_fits 177 = .ok (.ifCond .lt 13, 3) := by decide +kernel
theorem dX6_fits_180 : decode cX6_fits 180 = .ok (.iload_n 0, 1) := by decide +kernel
theorem dX6_fits_181 : decode cX6_fits 181 = .ok (.bipush 16, 2) := by decide +kernel
theorem dX6_fits_183 : decode cX6_fits 183 = .ok (.if_icmp .gt 7, 3) := by decide +kernel
theorem dX6_fits_186 : decode cX6_fits 186 = .ok (.iconst 1, 1) := by decide +kernel
theorem dX6_fits_187 : decode cX6_fits 187 = .ok (.goto 4, 3) := by decide +kernel
theorem dX6_fits_190 : decode cX6_fits 190 = .ok (.iconst 0, 1) := by decide +kernel
theorem dX6_fits_191 : decode cX6_fits 191 = .ok (.ireturn, 1) := by decide +kernel
