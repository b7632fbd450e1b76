/-! Rows that decode: the law. -/
theorem zd_W_cell_0 : decode zc_W_cell 0 = .ok (.iload_n 1, 1) := by decide +kernel
theorem zd_W_cell_1 : decode zc_W_cell 1 = .ok (.aload_n 0, 1) := by decide +kernel
theorem zd_W_cell_2 : decode zc_W_cell 2 = .ok (.arraylength, 1) := by decide +kernel
theorem zd_W_cell_3 : decode zc_W_cell 3 = .ok (.if_icmp .ge 9, 3) := by decide +kernel
theorem zd_W_cell_6 : decode zc_W_cell 6 = .ok (.aload_n 0, 1) := by decide +kernel
theorem zd_W_cell_7 : decode zc_W_cell 7 = .ok (.iload_n 1, 1) := by decide +kernel
theorem zd_W_cell_8 : decode zc_W_cell 8 = .ok (.iaload, 1) := by decide +kernel
theorem zd_W_cell_9 : decode zc_W_cell 9 = .ok (.goto 4, 3) := by decide +kernel
theorem zd_W_cell_12 : decode zc_W_cell 12 = .ok (.iconst 0, 1) := by decide +kernel
theorem zd_W_cell_13 : decode zc_W_cell 13 = .ok (.ireturn, 1) := by decide +kernel
theorem zd_W_law_0 : decode code 0 = .ok (.new 7, 3) := by decide +kernel
theorem zd_W_law_3 : decode code 3 = .ok (.dup, 1) := by decide +kernel
theorem zd_W_law_4 : decode code 4 = .ok (.aload_n 0, 1) := by decide +kernel
theorem zd_W_law_5 : decode code 5 = .ok (.iconst 0, 1) := by decide +kernel
theorem zd_W_law_6 : decode code 6 = .ok (.invokestatic 9, 3) := by decide +kernel
theorem zd_W_law_9 : decode code 9 = .ok (.invokespecial 15, 3) := by decide +kernel
theorem zd_W_law_12 : decode code 12 = .ok (.astore_n 1, 1) := by decide +kernel
theorem zd_W_law_13 : decode code 13 = .ok (.new 18, 3) := by decide +kernel
theorem zd_W_law_16 : decode code 16 = .ok (.dup, 1) := by decide +kernel
theorem zd_W_law_17 : decode code 17 = .ok (.aload_n 0, 1) := by decide +kernel
theorem zd_W_law_18 : decode code 18 = .ok (.iconst 0, 1) := by decide +kernel
theorem zd_W_law_19 : decode code 19 = .ok (.invokestatic 9, 3) := by decide +kernel
theorem zd_W_law_22 : decode code 22 = .ok (.invokespecial 20, 3) := by decide +kernel
theorem zd_W_law_25 : decode code 25 = .ok (.astore_n 2, 1) := by decide +kernel
theorem zd_W_law_26 : decode code 26 = .ok (.iconst 1, 1) := by decide +kernel
theorem zd_W_law_27 : decode code 27 = .ok (.istore_n 3, 1) := by decide +kernel
theorem zd_W_law_28 : decode code 28 = .ok (.iload_n 3, 1) := by decide +kernel
theorem zd_W_law_29 : decode code 29 = .ok (.aload_n 0, 1) := by decide +kernel
theorem zd_W_law_30 : decode code 30 = .ok (.arraylength, 1) := by decide +kernel
theorem zd_W_law_31 : decode code 31 = .ok (.iconst 4, 1) := by decide +kernel
theorem zd_W_law_32 : decode code 32 = .ok (.isub, 1) := by decide +kernel
theorem zd_W_law_33 : decode code 33 = .ok (.if_icmp .gt 621, 3) := by decide +kernel
theorem zd_W_law_36 : decode code 36 = .ok (.aload_n 0, 1) := by decide +kernel
theorem zd_W_law_37 : decode code 37 = .ok (.iload_n 3, 1) := by decide +kernel
theorem zd_W_law_38 : decode code 38 = .ok (.iaload, 1) := by decide +kernel
theorem zd_W_law_39 : decode code 39 = .ok (.bipush 31, 2) := by decide +kernel
theorem zd_W_law_41 : decode code 41 = .ok (.iand, 1) := by decide +kernel
theorem zd_W_law_42 : decode code 42 = .ok (.tableswitch 606 0 17 #[86, 109, 152, 211, 244, 277, 320, 353, 376, 399, 422, 445, 468, 491, 514, 547, 580, 593], 86) := by decide +kernel
theorem zd_W_law_128 : decode code 128 = .ok (.aload_n 1, 1) := by decide +kernel
theorem zd_W_law_129 : decode code 129 = .ok (.aload_n 0, 1) := by decide +kernel
theorem zd_W_law_130 : decode code 130 = .ok (.iload_n 3, 1) := by decide +kernel
theorem zd_W_law_131 : decode code 131 = .ok (.iconst 1, 1) := by decide +kernel
theorem zd_W_law_132 : decode code 132 = .ok (.iadd, 1) := by decide +kernel
theorem zd_W_law_133 : decode code 133 = .ok (.iaload, 1) := by decide +kernel
theorem zd_W_law_134 : decode code 134 = .ok (.invokevirtual 21, 3) := by decide +kernel
theorem zd_W_law_137 : decode code 137 = .ok (.aload_n 2, 1) := by decide +kernel
theorem zd_W_law_138 : decode code 138 = .ok (.aload_n 0, 1) := by decide +kernel
theorem zd_W_law_139 : decode code 139 = .ok (.iload_n 3, 1) := by decide +kernel
theorem zd_W_law_140 : decode code 140 = .ok (.iconst 1, 1) := by decide +kernel
theorem zd_W_law_141 : decode code 141 = .ok (.iadd, 1) := by decide +kernel
theorem zd_W_law_142 : decode code 142 = .ok (.iaload, 1) := by decide +kernel
theorem zd_W_law_143 : decode code 143 = .ok (.invokevirtual 25, 3) := by decide +kernel
theorem zd_W_law_146 : decode code 146 = .ok (.if_icmp .eq 502, 3) := by decide +kernel
theorem zd_W_law_149 : decode code 149 = .ok (.iconst 0, 1) := by decide +kernel
theorem zd_W_law_150 : decode code 150 = .ok (.ireturn, 1) := by decide +kernel
theorem zd_W_law_151 : decode code 151 = .ok (.aload_n 1, 1) := by decide +kernel
theorem zd_W_law_152 : decode code 152 = .ok (.aload_n 0, 1) := by decide +kernel
theorem zd_W_law_153 : decode code 153 = .ok (.iload_n 3, 1) := by decide +kernel
theorem zd_W_law_154 : decode code 154 = .ok (.iconst 1, 1) := by decide +kernel
theorem zd_W_law_155 : decode code 155 = .ok (.iadd, 1) := by decide +kernel
theorem zd_W_law_156 : decode code 156 = .ok (.iaload, 1) := by decide +kernel
theorem zd_W_law_157 : decode code 157 = .ok (.aload_n 0, 1) := by decide +kernel
theorem zd_W_law_158 : decode code 158 = .ok (.iload_n 3, 1) := by decide +kernel
theorem zd_W_law_159 : decode code 159 = .ok (.iconst 2, 1) := by decide +kernel
theorem zd_W_law_160 : decode code 160 = .ok (.iadd, 1) := by decide +kernel
theorem zd_W_law_161 : decode code 161 = .ok (.iaload, 1) := by decide +kernel
theorem zd_W_law_162 : decode code 162 = .ok (.aload_n 0, 1) := by decide +kernel
theorem zd_W_law_163 : decode code 163 = .ok (.iload_n 3, 1) := by decide +kernel
theorem zd_W_law_164 : decode code 164 = .ok (.iconst 3, 1) := by decide +kernel
theorem zd_W_law_165 : decode code 165 = .ok (.iadd, 1) := by decide +kernel
theorem zd_W_law_166 : decode code 166 = .ok (.iaload, 1) := by decide +kernel
theorem zd_W_law_167 : decode code 167 = .ok (.invokevirtual 26, 3) := by decide +kernel
theorem zd_W_law_170 : decode code 170 = .ok (.aload_n 2, 1) := by decide +kernel
theorem zd_W_law_171 : decode code 171 = .ok (.aload_n 0, 1) := by decide +kernel
theorem zd_W_law_172 : decode code 172 = .ok (.iload_n 3, 1) := by decide +kernel
theorem zd_W_law_173 : decode code 173 = .ok (.iconst 1, 1) := by decide +kernel
theorem zd_W_law_174 : decode code 174 = .ok (.iadd, 1) := by decide +kernel
theorem zd_W_law_175 : decode code 175 = .ok (.iaload, 1) := by decide +kernel
theorem zd_W_law_176 : decode code 176 = .ok (.aload_n 0, 1) := by decide +kernel
theorem zd_W_law_177 : decode code 177 = .ok (.iload_n 3, 1) := by decide +kernel
theorem zd_W_law_178 : decode code 178 = .ok (.iconst 2, 1) := by decide +kernel
theorem zd_W_law_179 : decode code 179 = .ok (.iadd, 1) := by decide +kernel
theorem zd_W_law_180 : decode code 180 = .ok (.iaload, 1) := by decide +kernel
theorem zd_W_law_181 : decode code 181 = .ok (.aload_n 0, 1) := by decide +kernel
theorem zd_W_law_182 : decode code 182 = .ok (.iload_n 3, 1) := by decide +kernel
theorem zd_W_law_183 : decode code 183 = .ok (.iconst 3, 1) := by decide +kernel
theorem zd_W_law_184 : decode code 184 = .ok (.iadd, 1) := by decide +kernel
theorem zd_W_law_185 : decode code 185 = .ok (.iaload, 1) := by decide +kernel
theorem zd_W_law_186 : decode code 186 = .ok (.invokevirtual 30, 3) := by decide +kernel
theorem zd_W_law_189 : decode code 189 = .ok (.if_icmp .eq 459, 3) := by decide +kernel
theorem zd_W_law_192 : decode code 192 = .ok (.iconst 0, 1) := by decide +kernel
theorem zd_W_law_193 : decode code 193 = .ok (.ireturn, 1) := by decide +kernel
theorem zd_W_law_194 : decode code 194 = .ok (.aload_n 1, 1) := by decide +kernel
theorem zd_W_law_195 : decode code 195 = .ok (.aload_n 0, 1) := by decide +kernel
theorem zd_W_law_196 : decode code 196 = .ok (.iload_n 3, 1) := by decide +kernel
theorem zd_W_law_197 : decode code 197 = .ok (.iconst 1, 1) := by decide +kernel
theorem zd_W_law_198 : decode code 198 = .ok (.iadd, 1) := by decide +kernel
theorem zd_W_law_199 : decode code 199 = .ok (.iaload, 1) := by decide +kernel
theorem zd_W_law_200 : decode code 200 = .ok (.aload_n 0, 1) := by decide +kernel
theorem zd_W_law_201 : decode code 201 = .ok (.iload_n 3, 1) := by decide +kernel
theorem zd_W_law_202 : decode code 202 = .ok (.iconst 2, 1) := by decide +kernel
theorem zd_W_law_203 : decode code 203 = .ok (.iadd, 1) := by decide +kernel
theorem zd_W_law_204 : decode code 204 = .ok (.iaload, 1) := by decide +kernel
theorem zd_W_law_205 : decode code 205 = .ok (.aload_n 0, 1) := by decide +kernel
theorem zd_W_law_206 : decode code 206 = .ok (.iload_n 3, 1) := by decide +kernel
theorem zd_W_law_207 : decode code 207 = .ok (.iconst 3, 1) := by decide +kernel
theorem zd_W_law_208 : decode code 208 = .ok (.iadd, 1) := by decide +kernel
theorem zd_W_law_209 : decode code 209 = .ok (.iaload, 1) := by decide +kernel
theorem zd_W_law_210 : decode code 210 = .ok (.ifCond .eq 7, 3) := by decide +kernel
theorem zd_W_law_213 : decode code 213 = .ok (.iconst 1, 1) := by decide +kernel
theorem zd_W_law_214 : decode code 214 = .ok (.goto 4, 3) := by decide +kernel
theorem zd_W_law_217 : decode code 217 = .ok (.iconst 0, 1) := by decide +kernel
theorem zd_W_law_218 : decode code 218 = .ok (.invokevirtual 31, 3) := by decide +kernel
theorem zd_W_law_221 : decode code 221 = .ok (.aload_n 2, 1) := by decide +kernel
theorem zd_W_law_222 : decode code 222 = .ok (.aload_n 0, 1) := by decide +kernel
theorem zd_W_law_223 : decode code 223 = .ok (.iload_n 3, 1) := by decide +kernel
theorem zd_W_law_224 : decode code 224 = .ok (.iconst 1, 1) := by decide +kernel
theorem zd_W_law_225 : decode code 225 = .ok (.iadd, 1) := by decide +kernel
theorem zd_W_law_226 : decode code 226 = .ok (.iaload, 1) := by decide +kernel
theorem zd_W_law_227 : decode code 227 = .ok (.aload_n 0, 1) := by decide +kernel
theorem zd_W_law_228 : decode code 228 = .ok (.iload_n 3, 1) := by decide +kernel
theorem zd_W_law_229 : decode code 229 = .ok (.iconst 2, 1) := by decide +kernel
theorem zd_W_law_230 : decode code 230 = .ok (.iadd, 1) := by decide +kernel
theorem zd_W_law_231 : decode code 231 = .ok (.iaload, 1) := by decide +kernel
theorem zd_W_law_232 : decode code 232 = .ok (.aload_n 0, 1) := by decide +kernel
theorem zd_W_law_233 : decode code 233 = .ok (.iload_n 3, 1) := by decide +kernel
theorem zd_W_law_234 : decode code 234 = .ok (.iconst 3, 1) := by decide +kernel
theorem zd_W_law_235 : decode code 235 = .ok (.iadd, 1) := by decide +kernel
theorem zd_W_law_236 : decode code 236 = .ok (.iaload, 1) := by decide +kernel
theorem zd_W_law_237 : decode code 237 = .ok (.ifCond .eq 7, 3) := by decide +kernel
theorem zd_W_law_240 : decode code 240 = .ok (.iconst 1, 1) := by decide +kernel
theorem zd_W_law_241 : decode code 241 = .ok (.goto 4, 3) := by decide +kernel
theorem zd_W_law_244 : decode code 244 = .ok (.iconst 0, 1) := by decide +kernel
theorem zd_W_law_245 : decode code 245 = .ok (.invokevirtual 35, 3) := by decide +kernel
theorem zd_W_law_248 : decode code 248 = .ok (.if_icmp .eq 400, 3) := by decide +kernel
theorem zd_W_law_251 : decode code 251 = .ok (.iconst 0, 1) := by decide +kernel
theorem zd_W_law_252 : decode code 252 = .ok (.ireturn, 1) := by decide +kernel
theorem zd_W_law_253 : decode code 253 = .ok (.aload_n 1, 1) := by decide +kernel
theorem zd_W_law_254 : decode code 254 = .ok (.aload_n 0, 1) := by decide +kernel
theorem zd_W_law_255 : decode code 255 = .ok (.iload_n 3, 1) := by decide +kernel
theorem zd_W_law_256 : decode code 256 = .ok (.iconst 1, 1) := by decide +kernel
theorem zd_W_law_257 : decode code 257 = .ok (.iadd, 1) := by decide +kernel
theorem zd_W_law_258 : decode code 258 = .ok (.iaload, 1) := by decide +kernel
theorem zd_W_law_259 : decode code 259 = .ok (.aload_n 0, 1) := by decide +kernel
theorem zd_W_law_260 : decode code 260 = .ok (.iload_n 3, 1) := by decide +kernel
theorem zd_W_law_261 : decode code 261 = .ok (.iconst 2, 1) := by decide +kernel
theorem zd_W_law_262 : decode code 262 = .ok (.iadd, 1) := by decide +kernel
theorem zd_W_law_263 : decode code 263 = .ok (.iaload, 1) := by decide +kernel
theorem zd_W_law_264 : decode code 264 = .ok (.invokevirtual 36, 3) := by decide +kernel
theorem zd_W_law_267 : decode code 267 = .ok (.aload_n 2, 1) := by decide +kernel
theorem zd_W_law_268 : decode code 268 = .ok (.aload_n 0, 1) := by decide +kernel
theorem zd_W_law_269 : decode code 269 = .ok (.iload_n 3, 1) := by decide +kernel
theorem zd_W_law_270 : decode code 270 = .ok (.iconst 1, 1) := by decide +kernel
theorem zd_W_law_271 : decode code 271 = .ok (.iadd, 1) := by decide +kernel
theorem zd_W_law_272 : decode code 272 = .ok (.iaload, 1) := by decide +kernel
theorem zd_W_law_273 : decode code 273 = .ok (.aload_n 0, 1) := by decide +kernel
theorem zd_W_law_274 : decode code 274 = .ok (.iload_n 3, 1) := by decide +kernel
theorem zd_W_law_275 : decode code 275 = .ok (.iconst 2, 1) := by decide +kernel
theorem zd_W_law_276 : decode code 276 = .ok (.iadd, 1) := by decide +kernel
theorem zd_W_law_277 : decode code 277 = .ok (.iaload, 1) := by decide +kernel
theorem zd_W_law_278 : decode code 278 = .ok (.invokevirtual 40, 3) := by decide +kernel
theorem zd_W_law_281 : decode code 281 = .ok (.if_icmp .eq 367, 3) := by decide +kernel
theorem zd_W_law_284 : decode code 284 = .ok (.iconst 0, 1) := by decide +kernel
theorem zd_W_law_285 : decode code 285 = .ok (.ireturn, 1) := by decide +kernel
theorem zd_W_law_286 : decode code 286 = .ok (.aload_n 1, 1) := by decide +kernel
theorem zd_W_law_287 : decode code 287 = .ok (.aload_n 0, 1) := by decide +kernel
theorem zd_W_law_288 : decode code 288 = .ok (.iload_n 3, 1) := by decide +kernel
theorem zd_W_law_289 : decode code 289 = .ok (.iconst 1, 1) := by decide +kernel
theorem zd_W_law_290 : decode code 290 = .ok (.iadd, 1) := by decide +kernel
theorem zd_W_law_291 : decode code 291 = .ok (.iaload, 1) := by decide +kernel
theorem zd_W_law_292 : decode code 292 = .ok (.aload_n 0, 1) := by decide +kernel
theorem zd_W_law_293 : decode code 293 = .ok (.iload_n 3, 1) := by decide +kernel
theorem zd_W_law_294 : decode code 294 = .ok (.iconst 2, 1) := by decide +kernel
theorem zd_W_law_295 : decode code 295 = .ok (.iadd, 1) := by decide +kernel
theorem zd_W_law_296 : decode code 296 = .ok (.iaload, 1) := by decide +kernel
theorem zd_W_law_297 : decode code 297 = .ok (.invokevirtual 41, 3) := by decide +kernel
theorem zd_W_law_300 : decode code 300 = .ok (.aload_n 2, 1) := by decide +kernel
theorem zd_W_law_301 : decode code 301 = .ok (.aload_n 0, 1) := by decide +kernel
theorem zd_W_law_302 : decode code 302 = .ok (.iload_n 3, 1) := by decide +kernel
theorem zd_W_law_303 : decode code 303 = .ok (.iconst 1, 1) := by decide +kernel
theorem zd_W_law_304 : decode code 304 = .ok (.iadd, 1) := by decide +kernel
theorem zd_W_law_305 : decode code 305 = .ok (.iaload, 1) := by decide +kernel
theorem zd_W_law_306 : decode code 306 = .ok (.aload_n 0, 1) := by decide +kernel
theorem zd_W_law_307 : decode code 307 = .ok (.iload_n 3, 1) := by decide +kernel
theorem zd_W_law_308 : decode code 308 = .ok (.iconst 2, 1) := by decide +kernel
theorem zd_W_law_309 : decode code 309 = .ok (.iadd, 1) := by decide +kernel
theorem zd_W_law_310 : decode code 310 = .ok (.iaload, 1) := by decide +kernel
theorem zd_W_law_311 : decode code 311 = .ok (.invokevirtual 45, 3) := by decide +kernel
theorem zd_W_law_314 : decode code 314 = .ok (.if_icmp .eq 334, 3) := by decide +kernel
theorem zd_W_law_317 : decode code 317 = .ok (.iconst 0, 1) := by decide +kernel
theorem zd_W_law_318 : decode code 318 = .ok (.ireturn, 1) := by decide +kernel
theorem zd_W_law_319 : decode code 319 = .ok (.aload_n 1, 1) := by decide +kernel
theorem zd_W_law_320 : decode code 320 = .ok (.aload_n 0, 1) := by decide +kernel
theorem zd_W_law_321 : decode code 321 = .ok (.iload_n 3, 1) := by decide +kernel
theorem zd_W_law_322 : decode code 322 = .ok (.iconst 1, 1) := by decide +kernel
theorem zd_W_law_323 : decode code 323 = .ok (.iadd, 1) := by decide +kernel
theorem zd_W_law_324 : decode code 324 = .ok (.iaload, 1) := by decide +kernel
theorem zd_W_law_325 : decode code 325 = .ok (.aload_n 0, 1) := by decide +kernel
theorem zd_W_law_326 : decode code 326 = .ok (.iload_n 3, 1) := by decide +kernel
theorem zd_W_law_327 : decode code 327 = .ok (.iconst 2, 1) := by decide +kernel
theorem zd_W_law_328 : decode code 328 = .ok (.iadd, 1) := by decide +kernel
theorem zd_W_law_329 : decode code 329 = .ok (.iaload, 1) := by decide +kernel
theorem zd_W_law_330 : decode code 330 = .ok (.aload_n 0, 1) := by decide +kernel
theorem zd_W_law_331 : decode code 331 = .ok (.iload_n 3, 1) := by decide +kernel
theorem zd_W_law_332 : decode code 332 = .ok (.iconst 3, 1) := by decide +kernel
theorem zd_W_law_333 : decode code 333 = .ok (.iadd, 1) := by decide +kernel
theorem zd_W_law_334 : decode code 334 = .ok (.iaload, 1) := by decide +kernel
theorem zd_W_law_335 : decode code 335 = .ok (.invokevirtual 46, 3) := by decide +kernel
theorem zd_W_law_338 : decode code 338 = .ok (.aload_n 2, 1) := by decide +kernel
theorem zd_W_law_339 : decode code 339 = .ok (.aload_n 0, 1) := by decide +kernel
theorem zd_W_law_340 : decode code 340 = .ok (.iload_n 3, 1) := by decide +kernel
theorem zd_W_law_341 : decode code 341 = .ok (.iconst 1, 1) := by decide +kernel
theorem zd_W_law_342 : decode code 342 = .ok (.iadd, 1) := by decide +kernel
theorem zd_W_law_343 : decode code 343 = .ok (.iaload, 1) := by decide +kernel
theorem zd_W_law_344 : decode code 344 = .ok (.aload_n 0, 1) := by decide +kernel
theorem zd_W_law_345 : decode code 345 = .ok (.iload_n 3, 1) := by decide +kernel
theorem zd_W_law_346 : decode code 346 = .ok (.iconst 2, 1) := by decide +kernel
theorem zd_W_law_347 : decode code 347 = .ok (.iadd, 1) := by decide +kernel
theorem zd_W_law_348 : decode code 348 = .ok (.iaload, 1) := by decide +kernel
theorem zd_W_law_349 : decode code 349 = .ok (.aload_n 0, 1) := by decide +kernel
theorem zd_W_law_350 : decode code 350 = .ok (.iload_n 3, 1) := by decide +kernel
theorem zd_W_law_351 : decode code 351 = .ok (.iconst 3, 1) := by decide +kernel
theorem zd_W_law_352 : decode code 352 = .ok (.iadd, 1) := by decide +kernel
theorem zd_W_law_353 : decode code 353 = .ok (.iaload, 1) := by decide +kernel
theorem zd_W_law_354 : decode code 354 = .ok (.invokevirtual 49, 3) := by decide +kernel
theorem zd_W_law_357 : decode code 357 = .ok (.if_icmp .eq 291, 3) := by decide +kernel
theorem zd_W_law_360 : decode code 360 = .ok (.iconst 0, 1) := by decide +kernel
theorem zd_W_law_361 : decode code 361 = .ok (.ireturn, 1) := by decide +kernel
theorem zd_W_law_362 : decode code 362 = .ok (.aload_n 1, 1) := by decide +kernel
theorem zd_W_law_363 : decode code 363 = .ok (.aload_n 0, 1) := by decide +kernel
theorem zd_W_law_364 : decode code 364 = .ok (.iload_n 3, 1) := by decide +kernel
theorem zd_W_law_365 : decode code 365 = .ok (.iconst 1, 1) := by decide +kernel
theorem zd_W_law_366 : decode code 366 = .ok (.iadd, 1) := by decide +kernel
theorem zd_W_law_367 : decode code 367 = .ok (.iaload, 1) := by decide +kernel
theorem zd_W_law_368 : decode code 368 = .ok (.aload_n 0, 1) := by decide +kernel
theorem zd_W_law_369 : decode code 369 = .ok (.iload_n 3, 1) := by decide +kernel
theorem zd_W_law_370 : decode code 370 = .ok (.iconst 2, 1) := by decide +kernel
theorem zd_W_law_371 : decode code 371 = .ok (.iadd, 1) := by decide +kernel
theorem zd_W_law_372 : decode code 372 = .ok (.iaload, 1) := by decide +kernel
theorem zd_W_law_373 : decode code 373 = .ok (.invokevirtual 50, 3) := by decide +kernel
theorem zd_W_law_376 : decode code 376 = .ok (.aload_n 2, 1) := by decide +kernel
theorem zd_W_law_377 : decode code 377 = .ok (.aload_n 0, 1) := by decide +kernel
theorem zd_W_law_378 : decode code 378 = .ok (.iload_n 3, 1) := by decide +kernel
theorem zd_W_law_379 : decode code 379 = .ok (.iconst 1, 1) := by decide +kernel
theorem zd_W_law_380 : decode code 380 = .ok (.iadd, 1) := by decide +kernel
theorem zd_W_law_381 : decode code 381 = .ok (.iaload, 1) := by decide +kernel
theorem zd_W_law_382 : decode code 382 = .ok (.aload_n 0, 1) := by decide +kernel
theorem zd_W_law_383 : decode code 383 = .ok (.iload_n 3, 1) := by decide +kernel
theorem zd_W_law_384 : decode code 384 = .ok (.iconst 2, 1) := by decide +kernel
theorem zd_W_law_385 : decode code 385 = .ok (.iadd, 1) := by decide +kernel
theorem zd_W_law_386 : decode code 386 = .ok (.iaload, 1) := by decide +kernel
theorem zd_W_law_387 : decode code 387 = .ok (.invokevirtual 53, 3) := by decide +kernel
theorem zd_W_law_390 : decode code 390 = .ok (.if_icmp .eq 258, 3) := by decide +kernel
theorem zd_W_law_393 : decode code 393 = .ok (.iconst 0, 1) := by decide +kernel
theorem zd_W_law_394 : decode code 394 = .ok (.ireturn, 1) := by decide +kernel
theorem zd_W_law_395 : decode code 395 = .ok (.aload_n 1, 1) := by decide +kernel
theorem zd_W_law_396 : decode code 396 = .ok (.aload_n 0, 1) := by decide +kernel
theorem zd_W_law_397 : decode code 397 = .ok (.iload_n 3, 1) := by decide +kernel
theorem zd_W_law_398 : decode code 398 = .ok (.iconst 1, 1) := by decide +kernel
theorem zd_W_law_399 : decode code 399 = .ok (.iadd, 1) := by decide +kernel
theorem zd_W_law_400 : decode code 400 = .ok (.iaload, 1) := by decide +kernel
theorem zd_W_law_401 : decode code 401 = .ok (.invokevirtual 54, 3) := by decide +kernel
theorem zd_W_law_404 : decode code 404 = .ok (.aload_n 2, 1) := by decide +kernel
theorem zd_W_law_405 : decode code 405 = .ok (.aload_n 0, 1) := by decide +kernel
theorem zd_W_law_406 : decode code 406 = .ok (.iload_n 3, 1) := by decide +kernel
theorem zd_W_law_407 : decode code 407 = .ok (.iconst 1, 1) := by decide +kernel
theorem zd_W_law_408 : decode code 408 = .ok (.iadd, 1) := by decide +kernel
theorem zd_W_law_409 : decode code 409 = .ok (.iaload, 1) := by decide +kernel
theorem zd_W_law_410 : decode code 410 = .ok (.invokevirtual 57, 3) := by decide +kernel
theorem zd_W_law_413 : decode code 413 = .ok (.if_icmp .eq 235, 3) := by decide +kernel
theorem zd_W_law_416 : decode code 416 = .ok (.iconst 0, 1) := by decide +kernel
theorem zd_W_law_417 : decode code 417 = .ok (.ireturn, 1) := by decide +kernel
theorem zd_W_law_418 : decode code 418 = .ok (.aload_n 1, 1) := by decide +kernel
theorem zd_W_law_419 : decode code 419 = .ok (.aload_n 0, 1) := by decide +kernel
theorem zd_W_law_420 : decode code 420 = .ok (.iload_n 3, 1) := by decide +kernel
theorem zd_W_law_421 : decode code 421 = .ok (.iconst 1, 1) := by decide +kernel
theorem zd_W_law_422 : decode code 422 = .ok (.iadd, 1) := by decide +kernel
theorem zd_W_law_423 : decode code 423 = .ok (.iaload, 1) := by decide +kernel
theorem zd_W_law_424 : decode code 424 = .ok (.invokevirtual 58, 3) := by decide +kernel
theorem zd_W_law_427 : decode code 427 = .ok (.aload_n 2, 1) := by decide +kernel
theorem zd_W_law_428 : decode code 428 = .ok (.aload_n 0, 1) := by decide +kernel
theorem zd_W_law_429 : decode code 429 = .ok (.iload_n 3, 1) := by decide +kernel
theorem zd_W_law_430 : decode code 430 = .ok (.iconst 1, 1) := by decide +kernel
theorem zd_W_law_431 : decode code 431 = .ok (.iadd, 1) := by decide +kernel
theorem zd_W_law_432 : decode code 432 = .ok (.iaload, 1) := by decide +kernel
theorem zd_W_law_433 : decode code 433 = .ok (.invokevirtual 61, 3) := by decide +kernel
theorem zd_W_law_436 : decode code 436 = .ok (.if_icmp .eq 212, 3) := by decide +kernel
theorem zd_W_law_439 : decode code 439 = .ok (.iconst 0, 1) := by decide +kernel
theorem zd_W_law_440 : decode code 440 = .ok (.ireturn, 1) := by decide +kernel
theorem zd_W_law_441 : decode code 441 = .ok (.aload_n 1, 1) := by decide +kernel
theorem zd_W_law_442 : decode code 442 = .ok (.aload_n 0, 1) := by decide +kernel
theorem zd_W_law_443 : decode code 443 = .ok (.iload_n 3, 1) := by decide +kernel
theorem zd_W_law_444 : decode code 444 = .ok (.iconst 1, 1) := by decide +kernel
theorem zd_W_law_445 : decode code 445 = .ok (.iadd, 1) := by decide +kernel
theorem zd_W_law_446 : decode code 446 = .ok (.iaload, 1) := by decide +kernel
theorem zd_W_law_447 : decode code 447 = .ok (.invokevirtual 62, 3) := by decide +kernel
theorem zd_W_law_450 : decode code 450 = .ok (.aload_n 2, 1) := by decide +kernel
theorem zd_W_law_451 : decode code 451 = .ok (.aload_n 0, 1) := by decide +kernel
theorem zd_W_law_452 : decode code 452 = .ok (.iload_n 3, 1) := by decide +kernel
theorem zd_W_law_453 : decode code 453 = .ok (.iconst 1, 1) := by decide +kernel
theorem zd_W_law_454 : decode code 454 = .ok (.iadd, 1) := by decide +kernel
theorem zd_W_law_455 : decode code 455 = .ok (.iaload, 1) := by decide +kernel
theorem zd_W_law_456 : decode code 456 = .ok (.invokevirtual 65, 3) := by decide +kernel
theorem zd_W_law_459 : decode code 459 = .ok (.if_icmp .eq 189, 3) := by decide +kernel
theorem zd_W_law_462 : decode code 462 = .ok (.iconst 0, 1) := by decide +kernel
theorem zd_W_law_463 : decode code 463 = .ok (.ireturn, 1) := by decide +kernel
theorem zd_W_law_464 : decode code 464 = .ok (.aload_n 1, 1) := by decide +kernel
theorem zd_W_law_465 : decode code 465 = .ok (.aload_n 0, 1) := by decide +kernel
theorem zd_W_law_466 : decode code 466 = .ok (.iload_n 3, 1) := by decide +kernel
theorem zd_W_law_467 : decode code 467 = .ok (.iconst 1, 1) := by decide +kernel
theorem zd_W_law_468 : decode code 468 = .ok (.iadd, 1) := by decide +kernel
theorem zd_W_law_469 : decode code 469 = .ok (.iaload, 1) := by decide +kernel
theorem zd_W_law_470 : decode code 470 = .ok (.invokevirtual 66, 3) := by decide +kernel
theorem zd_W_law_473 : decode code 473 = .ok (.aload_n 2, 1) := by decide +kernel
theorem zd_W_law_474 : decode code 474 = .ok (.aload_n 0, 1) := by decide +kernel
theorem zd_W_law_475 : decode code 475 = .ok (.iload_n 3, 1) := by decide +kernel
theorem zd_W_law_476 : decode code 476 = .ok (.iconst 1, 1) := by decide +kernel
theorem zd_W_law_477 : decode code 477 = .ok (.iadd, 1) := by decide +kernel
theorem zd_W_law_478 : decode code 478 = .ok (.iaload, 1) := by decide +kernel
theorem zd_W_law_479 : decode code 479 = .ok (.invokevirtual 69, 3) := by decide +kernel
theorem zd_W_law_482 : decode code 482 = .ok (.if_icmp .eq 166, 3) := by decide +kernel
theorem zd_W_law_485 : decode code 485 = .ok (.iconst 0, 1) := by decide +kernel
theorem zd_W_law_486 : decode code 486 = .ok (.ireturn, 1) := by decide +kernel
theorem zd_W_law_487 : decode code 487 = .ok (.aload_n 1, 1) := by decide +kernel
theorem zd_W_law_488 : decode code 488 = .ok (.aload_n 0, 1) := by decide +kernel
theorem zd_W_law_489 : decode code 489 = .ok (.iload_n 3, 1) := by decide +kernel
theorem zd_W_law_490 : decode code 490 = .ok (.iconst 1, 1) := by decide +kernel
theorem zd_W_law_491 : decode code 491 = .ok (.iadd, 1) := by decide +kernel
theorem zd_W_law_492 : decode code 492 = .ok (.iaload, 1) := by decide +kernel
theorem zd_W_law_493 : decode code 493 = .ok (.invokevirtual 70, 3) := by decide +kernel
theorem zd_W_law_496 : decode code 496 = .ok (.aload_n 2, 1) := by decide +kernel
theorem zd_W_law_497 : decode code 497 = .ok (.aload_n 0, 1) := by decide +kernel
theorem zd_W_law_498 : decode code 498 = .ok (.iload_n 3, 1) := by decide +kernel
theorem zd_W_law_499 : decode code 499 = .ok (.iconst 1, 1) := by decide +kernel
theorem zd_W_law_500 : decode code 500 = .ok (.iadd, 1) := by decide +kernel
theorem zd_W_law_501 : decode code 501 = .ok (.iaload, 1) := by decide +kernel
theorem zd_W_law_502 : decode code 502 = .ok (.invokevirtual 73, 3) := by decide +kernel
theorem zd_W_law_505 : decode code 505 = .ok (.if_icmp .eq 143, 3) := by decide +kernel
theorem zd_W_law_508 : decode code 508 = .ok (.iconst 0, 1) := by decide +kernel
theorem zd_W_law_509 : decode code 509 = .ok (.ireturn, 1) := by decide +kernel
theorem zd_W_law_510 : decode code 510 = .ok (.aload_n 1, 1) := by decide +kernel
theorem zd_W_law_511 : decode code 511 = .ok (.aload_n 0, 1) := by decide +kernel
theorem zd_W_law_512 : decode code 512 = .ok (.iload_n 3, 1) := by decide +kernel
theorem zd_W_law_513 : decode code 513 = .ok (.iconst 1, 1) := by decide +kernel
theorem zd_W_law_514 : decode code 514 = .ok (.iadd, 1) := by decide +kernel
theorem zd_W_law_515 : decode code 515 = .ok (.iaload, 1) := by decide +kernel
theorem zd_W_law_516 : decode code 516 = .ok (.invokevirtual 74, 3) := by decide +kernel
theorem zd_W_law_519 : decode code 519 = .ok (.aload_n 2, 1) := by decide +kernel
theorem zd_W_law_520 : decode code 520 = .ok (.aload_n 0, 1) := by decide +kernel
theorem zd_W_law_521 : decode code 521 = .ok (.iload_n 3, 1) := by decide +kernel
theorem zd_W_law_522 : decode code 522 = .ok (.iconst 1, 1) := by decide +kernel
theorem zd_W_law_523 : decode code 523 = .ok (.iadd, 1) := by decide +kernel
theorem zd_W_law_524 : decode code 524 = .ok (.iaload, 1) := by decide +kernel
theorem zd_W_law_525 : decode code 525 = .ok (.invokevirtual 77, 3) := by decide +kernel
theorem zd_W_law_528 : decode code 528 = .ok (.if_icmp .eq 120, 3) := by decide +kernel
theorem zd_W_law_531 : decode code 531 = .ok (.iconst 0, 1) := by decide +kernel
theorem zd_W_law_532 : decode code 532 = .ok (.ireturn, 1) := by decide +kernel
theorem zd_W_law_533 : decode code 533 = .ok (.aload_n 1, 1) := by decide +kernel
theorem zd_W_law_534 : decode code 534 = .ok (.aload_n 0, 1) := by decide +kernel
theorem zd_W_law_535 : decode code 535 = .ok (.iload_n 3, 1) := by decide +kernel
theorem zd_W_law_536 : decode code 536 = .ok (.iconst 1, 1) := by decide +kernel
theorem zd_W_law_537 : decode code 537 = .ok (.iadd, 1) := by decide +kernel
theorem zd_W_law_538 : decode code 538 = .ok (.iaload, 1) := by decide +kernel
theorem zd_W_law_539 : decode code 539 = .ok (.invokevirtual 78, 3) := by decide +kernel
theorem zd_W_law_542 : decode code 542 = .ok (.aload_n 2, 1) := by decide +kernel
theorem zd_W_law_543 : decode code 543 = .ok (.aload_n 0, 1) := by decide +kernel
theorem zd_W_law_544 : decode code 544 = .ok (.iload_n 3, 1) := by decide +kernel
theorem zd_W_law_545 : decode code 545 = .ok (.iconst 1, 1) := by decide +kernel
theorem zd_W_law_546 : decode code 546 = .ok (.iadd, 1) := by decide +kernel
theorem zd_W_law_547 : decode code 547 = .ok (.iaload, 1) := by decide +kernel
theorem zd_W_law_548 : decode code 548 = .ok (.invokevirtual 81, 3) := by decide +kernel
theorem zd_W_law_551 : decode code 551 = .ok (.if_icmp .eq 97, 3) := by decide +kernel
theorem zd_W_law_554 : decode code 554 = .ok (.iconst 0, 1) := by decide +kernel
theorem zd_W_law_555 : decode code 555 = .ok (.ireturn, 1) := by decide +kernel
theorem zd_W_law_556 : decode code 556 = .ok (.aload_n 1, 1) := by decide +kernel
theorem zd_W_law_557 : decode code 557 = .ok (.aload_n 0, 1) := by decide +kernel
theorem zd_W_law_558 : decode code 558 = .ok (.iload_n 3, 1) := by decide +kernel
theorem zd_W_law_559 : decode code 559 = .ok (.iconst 1, 1) := by decide +kernel
theorem zd_W_law_560 : decode code 560 = .ok (.iadd, 1) := by decide +kernel
theorem zd_W_law_561 : decode code 561 = .ok (.iaload, 1) := by decide +kernel
theorem zd_W_law_562 : decode code 562 = .ok (.aload_n 0, 1) := by decide +kernel
theorem zd_W_law_563 : decode code 563 = .ok (.iload_n 3, 1) := by decide +kernel
theorem zd_W_law_564 : decode code 564 = .ok (.iconst 2, 1) := by decide +kernel
theorem zd_W_law_565 : decode code 565 = .ok (.iadd, 1) := by decide +kernel
theorem zd_W_law_566 : decode code 566 = .ok (.iaload, 1) := by decide +kernel
theorem zd_W_law_567 : decode code 567 = .ok (.invokevirtual 82, 3) := by decide +kernel
theorem zd_W_law_570 : decode code 570 = .ok (.aload_n 2, 1) := by decide +kernel
theorem zd_W_law_571 : decode code 571 = .ok (.aload_n 0, 1) := by decide +kernel
theorem zd_W_law_572 : decode code 572 = .ok (.iload_n 3, 1) := by decide +kernel
theorem zd_W_law_573 : decode code 573 = .ok (.iconst 1, 1) := by decide +kernel
theorem zd_W_law_574 : decode code 574 = .ok (.iadd, 1) := by decide +kernel
theorem zd_W_law_575 : decode code 575 = .ok (.iaload, 1) := by decide +kernel
theorem zd_W_law_576 : decode code 576 = .ok (.aload_n 0, 1) := by decide +kernel
theorem zd_W_law_577 : decode code 577 = .ok (.iload_n 3, 1) := by decide +kernel
theorem zd_W_law_578 : decode code 578 = .ok (.iconst 2, 1) := by decide +kernel
theorem zd_W_law_579 : decode code 579 = .ok (.iadd, 1) := by decide +kernel
theorem zd_W_law_580 : decode code 580 = .ok (.iaload, 1) := by decide +kernel
theorem zd_W_law_581 : decode code 581 = .ok (.invokevirtual 85, 3) := by decide +kernel
theorem zd_W_law_584 : decode code 584 = .ok (.if_icmp .eq 64, 3) := by decide +kernel
theorem zd_W_law_587 : decode code 587 = .ok (.iconst 0, 1) := by decide +kernel
theorem zd_W_law_588 : decode code 588 = .ok (.ireturn, 1) := by decide +kernel
theorem zd_W_law_589 : decode code 589 = .ok (.aload_n 1, 1) := by decide +kernel
theorem zd_W_law_590 : decode code 590 = .ok (.aload_n 0, 1) := by decide +kernel
theorem zd_W_law_591 : decode code 591 = .ok (.iload_n 3, 1) := by decide +kernel
theorem zd_W_law_592 : decode code 592 = .ok (.iconst 1, 1) := by decide +kernel
theorem zd_W_law_593 : decode code 593 = .ok (.iadd, 1) := by decide +kernel
theorem zd_W_law_594 : decode code 594 = .ok (.iaload, 1) := by decide +kernel
theorem zd_W_law_595 : decode code 595 = .ok (.aload_n 0, 1) := by decide +kernel
theorem zd_W_law_596 : decode code 596 = .ok (.iload_n 3, 1) := by decide +kernel
theorem zd_W_law_597 : decode code 597 = .ok (.iconst 2, 1) := by decide +kernel
theorem zd_W_law_598 : decode code 598 = .ok (.iadd, 1) := by decide +kernel
theorem zd_W_law_599 : decode code 599 = .ok (.iaload, 1) := by decide +kernel
theorem zd_W_law_600 : decode code 600 = .ok (.invokevirtual 86, 3) := by decide +kernel
theorem zd_W_law_603 : decode code 603 = .ok (.aload_n 2, 1) := by decide +kernel
theorem zd_W_law_604 : decode code 604 = .ok (.aload_n 0, 1) := by decide +kernel
theorem zd_W_law_605 : decode code 605 = .ok (.iload_n 3, 1) := by decide +kernel
theorem zd_W_law_606 : decode code 606 = .ok (.iconst 1, 1) := by decide +kernel
theorem zd_W_law_607 : decode code 607 = .ok (.iadd, 1) := by decide +kernel
theorem zd_W_law_608 : decode code 608 = .ok (.iaload, 1) := by decide +kernel
theorem zd_W_law_609 : decode code 609 = .ok (.aload_n 0, 1) := by decide +kernel
theorem zd_W_law_610 : decode code 610 = .ok (.iload_n 3, 1) := by decide +kernel
theorem zd_W_law_611 : decode code 611 = .ok (.iconst 2, 1) := by decide +kernel
theorem zd_W_law_612 : decode code 612 = .ok (.iadd, 1) := by decide +kernel
theorem zd_W_law_613 : decode code 613 = .ok (.iaload, 1) := by decide +kernel
theorem zd_W_law_614 : decode code 614 = .ok (.invokevirtual 89, 3) := by decide +kernel
theorem zd_W_law_617 : decode code 617 = .ok (.if_icmp .eq 31, 3) := by decide +kernel
theorem zd_W_law_620 : decode code 620 = .ok (.iconst 0, 1) := by decide +kernel
theorem zd_W_law_621 : decode code 621 = .ok (.ireturn, 1) := by decide +kernel
theorem zd_W_law_622 : decode code 622 = .ok (.aload_n 1, 1) := by decide +kernel
theorem zd_W_law_623 : decode code 623 = .ok (.invokevirtual 90, 3) := by decide +kernel
theorem zd_W_law_626 : decode code 626 = .ok (.aload_n 2, 1) := by decide +kernel
theorem zd_W_law_627 : decode code 627 = .ok (.invokevirtual 94, 3) := by decide +kernel
theorem zd_W_law_630 : decode code 630 = .ok (.if_icmp .eq 18, 3) := by decide +kernel
theorem zd_W_law_633 : decode code 633 = .ok (.iconst 0, 1) := by decide +kernel
theorem zd_W_law_634 : decode code 634 = .ok (.ireturn, 1) := by decide +kernel
theorem zd_W_law_635 : decode code 635 = .ok (.aload_n 1, 1) := by decide +kernel
theorem zd_W_law_636 : decode code 636 = .ok (.invokevirtual 95, 3) := by decide +kernel
theorem zd_W_law_639 : decode code 639 = .ok (.aload_n 2, 1) := by decide +kernel
theorem zd_W_law_640 : decode code 640 = .ok (.invokevirtual 98, 3) := by decide +kernel
theorem zd_W_law_643 : decode code 643 = .ok (.if_icmp .eq 5, 3) := by decide +kernel
theorem zd_W_law_646 : decode code 646 = .ok (.iconst 0, 1) := by decide +kernel
theorem zd_W_law_647 : decode code 647 = .ok (.ireturn, 1) := by decide +kernel
theorem zd_W_law_648 : decode code 648 = .ok (.iinc 3 4, 3) := by decide +kernel
theorem zd_W_law_651 : decode code 651 = .ok (.goto (-623), 3) := by decide +kernel
theorem zd_W_law_654 : decode code 654 = .ok (.iconst 1, 1) := by decide +kernel
theorem zd_W_law_655 : decode code 655 = .ok (.ireturn, 1) := by decide +kernel
