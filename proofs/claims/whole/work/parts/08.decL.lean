theorem d_L_cell_0 : decode b_L_cell 0 = .ok (.iload_n 1, 1) := by decide +kernel
theorem d_L_cell_1 : decode b_L_cell 1 = .ok (.aload_n 0, 1) := by decide +kernel
theorem d_L_cell_2 : decode b_L_cell 2 = .ok (.arraylength, 1) := by decide +kernel
theorem d_L_cell_3 : decode b_L_cell 3 = .ok (.if_icmp .ge 9, 3) := by decide +kernel
theorem d_L_cell_6 : decode b_L_cell 6 = .ok (.aload_n 0, 1) := by decide +kernel
theorem d_L_cell_7 : decode b_L_cell 7 = .ok (.iload_n 1, 1) := by decide +kernel
theorem d_L_cell_8 : decode b_L_cell 8 = .ok (.iaload, 1) := by decide +kernel
theorem d_L_cell_9 : decode b_L_cell 9 = .ok (.goto 4, 3) := by decide +kernel
theorem d_L_cell_12 : decode b_L_cell 12 = .ok (.iconst 0, 1) := by decide +kernel
theorem d_L_cell_13 : decode b_L_cell 13 = .ok (.ireturn, 1) := by decide +kernel
theorem d_L_law_0 : decode b_L_law 0 = .ok (.new 7, 3) := by decide +kernel
theorem d_L_law_3 : decode b_L_law 3 = .ok (.dup, 1) := by decide +kernel
theorem d_L_law_4 : decode b_L_law 4 = .ok (.aload_n 0, 1) := by decide +kernel
theorem d_L_law_5 : decode b_L_law 5 = .ok (.iconst 0, 1) := by decide +kernel
theorem d_L_law_6 : decode b_L_law 6 = .ok (.invokestatic 9, 3) := by decide +kernel
theorem d_L_law_9 : decode b_L_law 9 = .ok (.invokespecial 15, 3) := by decide +kernel
theorem d_L_law_12 : decode b_L_law 12 = .ok (.astore_n 1, 1) := by decide +kernel
theorem d_L_law_13 : decode b_L_law 13 = .ok (.new 18, 3) := by decide +kernel
theorem d_L_law_16 : decode b_L_law 16 = .ok (.dup, 1) := by decide +kernel
theorem d_L_law_17 : decode b_L_law 17 = .ok (.aload_n 0, 1) := by decide +kernel
theorem d_L_law_18 : decode b_L_law 18 = .ok (.iconst 0, 1) := by decide +kernel
theorem d_L_law_19 : decode b_L_law 19 = .ok (.invokestatic 9, 3) := by decide +kernel
theorem d_L_law_22 : decode b_L_law 22 = .ok (.invokespecial 20, 3) := by decide +kernel
theorem d_L_law_25 : decode b_L_law 25 = .ok (.astore_n 2, 1) := by decide +kernel
theorem d_L_law_26 : decode b_L_law 26 = .ok (.iconst 1, 1) := by decide +kernel
theorem d_L_law_27 : decode b_L_law 27 = .ok (.istore_n 3, 1) := by decide +kernel
theorem d_L_law_28 : decode b_L_law 28 = .ok (.iload_n 3, 1) := by decide +kernel
theorem d_L_law_29 : decode b_L_law 29 = .ok (.aload_n 0, 1) := by decide +kernel
theorem d_L_law_30 : decode b_L_law 30 = .ok (.arraylength, 1) := by decide +kernel
theorem d_L_law_31 : decode b_L_law 31 = .ok (.bipush 6, 2) := by decide +kernel
theorem d_L_law_33 : decode b_L_law 33 = .ok (.isub, 1) := by decide +kernel
theorem d_L_law_34 : decode b_L_law 34 = .ok (.if_icmp .gt 893, 3) := by decide +kernel
theorem d_L_law_37 : decode b_L_law 37 = .ok (.aload_n 0, 1) := by decide +kernel
theorem d_L_law_38 : decode b_L_law 38 = .ok (.iload_n 3, 1) := by decide +kernel
theorem d_L_law_39 : decode b_L_law 39 = .ok (.iaload, 1) := by decide +kernel
theorem d_L_law_40 : decode b_L_law 40 = .ok (.bipush 31, 2) := by decide +kernel
theorem d_L_law_42 : decode b_L_law 42 = .ok (.iand, 1) := by decide +kernel
theorem d_L_law_43 : decode b_L_law 43 = .ok (.tableswitch 878 0 22 #[105, 148, 191, 264, 277, 300, 313, 346, 369, 393, 416, 440, 473, 506, 609, 632, 655, 689, 772, 795, 818, 832, 855], 105) := by decide +kernel
theorem d_L_law_148 : decode b_L_law 148 = .ok (.aload_n 1, 1) := by decide +kernel
theorem d_L_law_149 : decode b_L_law 149 = .ok (.aload_n 0, 1) := by decide +kernel
theorem d_L_law_150 : decode b_L_law 150 = .ok (.iload_n 3, 1) := by decide +kernel
theorem d_L_law_151 : decode b_L_law 151 = .ok (.iconst 1, 1) := by decide +kernel
theorem d_L_law_152 : decode b_L_law 152 = .ok (.iadd, 1) := by decide +kernel
theorem d_L_law_153 : decode b_L_law 153 = .ok (.iaload, 1) := by decide +kernel
theorem d_L_law_154 : decode b_L_law 154 = .ok (.aload_n 0, 1) := by decide +kernel
theorem d_L_law_155 : decode b_L_law 155 = .ok (.iload_n 3, 1) := by decide +kernel
theorem d_L_law_156 : decode b_L_law 156 = .ok (.iconst 2, 1) := by decide +kernel
theorem d_L_law_157 : decode b_L_law 157 = .ok (.iadd, 1) := by decide +kernel
theorem d_L_law_158 : decode b_L_law 158 = .ok (.iaload, 1) := by decide +kernel
theorem d_L_law_159 : decode b_L_law 159 = .ok (.aload_n 0, 1) := by decide +kernel
theorem d_L_law_160 : decode b_L_law 160 = .ok (.iload_n 3, 1) := by decide +kernel
theorem d_L_law_161 : decode b_L_law 161 = .ok (.iconst 3, 1) := by decide +kernel
theorem d_L_law_162 : decode b_L_law 162 = .ok (.iadd, 1) := by decide +kernel
theorem d_L_law_163 : decode b_L_law 163 = .ok (.iaload, 1) := by decide +kernel
theorem d_L_law_164 : decode b_L_law 164 = .ok (.invokevirtual 21, 3) := by decide +kernel
theorem d_L_law_167 : decode b_L_law 167 = .ok (.aload_n 2, 1) := by decide +kernel
theorem d_L_law_168 : decode b_L_law 168 = .ok (.aload_n 0, 1) := by decide +kernel
theorem d_L_law_169 : decode b_L_law 169 = .ok (.iload_n 3, 1) := by decide +kernel
theorem d_L_law_170 : decode b_L_law 170 = .ok (.iconst 1, 1) := by decide +kernel
theorem d_L_law_171 : decode b_L_law 171 = .ok (.iadd, 1) := by decide +kernel
theorem d_L_law_172 : decode b_L_law 172 = .ok (.iaload, 1) := by decide +kernel
theorem d_L_law_173 : decode b_L_law 173 = .ok (.aload_n 0, 1) := by decide +kernel
theorem d_L_law_174 : decode b_L_law 174 = .ok (.iload_n 3, 1) := by decide +kernel
theorem d_L_law_175 : decode b_L_law 175 = .ok (.iconst 2, 1) := by decide +kernel
theorem d_L_law_176 : decode b_L_law 176 = .ok (.iadd, 1) := by decide +kernel
theorem d_L_law_177 : decode b_L_law 177 = .ok (.iaload, 1) := by decide +kernel
theorem d_L_law_178 : decode b_L_law 178 = .ok (.aload_n 0, 1) := by decide +kernel
theorem d_L_law_179 : decode b_L_law 179 = .ok (.iload_n 3, 1) := by decide +kernel
theorem d_L_law_180 : decode b_L_law 180 = .ok (.iconst 3, 1) := by decide +kernel
theorem d_L_law_181 : decode b_L_law 181 = .ok (.iadd, 1) := by decide +kernel
theorem d_L_law_182 : decode b_L_law 182 = .ok (.iaload, 1) := by decide +kernel
theorem d_L_law_183 : decode b_L_law 183 = .ok (.invokevirtual 25, 3) := by decide +kernel
theorem d_L_law_186 : decode b_L_law 186 = .ok (.if_icmp .eq 735, 3) := by decide +kernel
theorem d_L_law_189 : decode b_L_law 189 = .ok (.iconst 0, 1) := by decide +kernel
theorem d_L_law_190 : decode b_L_law 190 = .ok (.ireturn, 1) := by decide +kernel
theorem d_L_law_191 : decode b_L_law 191 = .ok (.aload_n 1, 1) := by decide +kernel
theorem d_L_law_192 : decode b_L_law 192 = .ok (.aload_n 0, 1) := by decide +kernel
theorem d_L_law_193 : decode b_L_law 193 = .ok (.iload_n 3, 1) := by decide +kernel
theorem d_L_law_194 : decode b_L_law 194 = .ok (.iconst 1, 1) := by decide +kernel
theorem d_L_law_195 : decode b_L_law 195 = .ok (.iadd, 1) := by decide +kernel
theorem d_L_law_196 : decode b_L_law 196 = .ok (.iaload, 1) := by decide +kernel
theorem d_L_law_197 : decode b_L_law 197 = .ok (.aload_n 0, 1) := by decide +kernel
theorem d_L_law_198 : decode b_L_law 198 = .ok (.iload_n 3, 1) := by decide +kernel
theorem d_L_law_199 : decode b_L_law 199 = .ok (.iconst 2, 1) := by decide +kernel
theorem d_L_law_200 : decode b_L_law 200 = .ok (.iadd, 1) := by decide +kernel
theorem d_L_law_201 : decode b_L_law 201 = .ok (.iaload, 1) := by decide +kernel
theorem d_L_law_202 : decode b_L_law 202 = .ok (.aload_n 0, 1) := by decide +kernel
theorem d_L_law_203 : decode b_L_law 203 = .ok (.iload_n 3, 1) := by decide +kernel
theorem d_L_law_204 : decode b_L_law 204 = .ok (.iconst 3, 1) := by decide +kernel
theorem d_L_law_205 : decode b_L_law 205 = .ok (.iadd, 1) := by decide +kernel
theorem d_L_law_206 : decode b_L_law 206 = .ok (.iaload, 1) := by decide +kernel
theorem d_L_law_207 : decode b_L_law 207 = .ok (.invokevirtual 26, 3) := by decide +kernel
theorem d_L_law_210 : decode b_L_law 210 = .ok (.aload_n 2, 1) := by decide +kernel
theorem d_L_law_211 : decode b_L_law 211 = .ok (.aload_n 0, 1) := by decide +kernel
theorem d_L_law_212 : decode b_L_law 212 = .ok (.iload_n 3, 1) := by decide +kernel
theorem d_L_law_213 : decode b_L_law 213 = .ok (.iconst 1, 1) := by decide +kernel
theorem d_L_law_214 : decode b_L_law 214 = .ok (.iadd, 1) := by decide +kernel
theorem d_L_law_215 : decode b_L_law 215 = .ok (.iaload, 1) := by decide +kernel
theorem d_L_law_216 : decode b_L_law 216 = .ok (.aload_n 0, 1) := by decide +kernel
theorem d_L_law_217 : decode b_L_law 217 = .ok (.iload_n 3, 1) := by decide +kernel
theorem d_L_law_218 : decode b_L_law 218 = .ok (.iconst 2, 1) := by decide +kernel
theorem d_L_law_219 : decode b_L_law 219 = .ok (.iadd, 1) := by decide +kernel
theorem d_L_law_220 : decode b_L_law 220 = .ok (.iaload, 1) := by decide +kernel
theorem d_L_law_221 : decode b_L_law 221 = .ok (.aload_n 0, 1) := by decide +kernel
theorem d_L_law_222 : decode b_L_law 222 = .ok (.iload_n 3, 1) := by decide +kernel
theorem d_L_law_223 : decode b_L_law 223 = .ok (.iconst 3, 1) := by decide +kernel
theorem d_L_law_224 : decode b_L_law 224 = .ok (.iadd, 1) := by decide +kernel
theorem d_L_law_225 : decode b_L_law 225 = .ok (.iaload, 1) := by decide +kernel
theorem d_L_law_226 : decode b_L_law 226 = .ok (.invokevirtual 29, 3) := by decide +kernel
theorem d_L_law_229 : decode b_L_law 229 = .ok (.if_icmp .eq 692, 3) := by decide +kernel
theorem d_L_law_232 : decode b_L_law 232 = .ok (.iconst 0, 1) := by decide +kernel
theorem d_L_law_233 : decode b_L_law 233 = .ok (.ireturn, 1) := by decide +kernel
theorem d_L_law_234 : decode b_L_law 234 = .ok (.aload_n 1, 1) := by decide +kernel
theorem d_L_law_235 : decode b_L_law 235 = .ok (.aload_n 0, 1) := by decide +kernel
theorem d_L_law_236 : decode b_L_law 236 = .ok (.iload_n 3, 1) := by decide +kernel
theorem d_L_law_237 : decode b_L_law 237 = .ok (.iconst 1, 1) := by decide +kernel
theorem d_L_law_238 : decode b_L_law 238 = .ok (.iadd, 1) := by decide +kernel
theorem d_L_law_239 : decode b_L_law 239 = .ok (.iaload, 1) := by decide +kernel
theorem d_L_law_240 : decode b_L_law 240 = .ok (.i2l, 1) := by decide +kernel
theorem d_L_law_241 : decode b_L_law 241 = .ok (.bipush 32, 2) := by decide +kernel
theorem d_L_law_243 : decode b_L_law 243 = .ok (.lshl, 1) := by decide +kernel
theorem d_L_law_244 : decode b_L_law 244 = .ok (.aload_n 0, 1) := by decide +kernel
theorem d_L_law_245 : decode b_L_law 245 = .ok (.iload_n 3, 1) := by decide +kernel
theorem d_L_law_246 : decode b_L_law 246 = .ok (.iconst 2, 1) := by decide +kernel
theorem d_L_law_247 : decode b_L_law 247 = .ok (.iadd, 1) := by decide +kernel
theorem d_L_law_248 : decode b_L_law 248 = .ok (.iaload, 1) := by decide +kernel
theorem d_L_law_249 : decode b_L_law 249 = .ok (.i2l, 1) := by decide +kernel
theorem d_L_law_250 : decode b_L_law 250 = .ok (.ldc2_w 30, 3) := by decide +kernel
theorem d_L_law_253 : decode b_L_law 253 = .ok (.land, 1) := by decide +kernel
theorem d_L_law_254 : decode b_L_law 254 = .ok (.lor, 1) := by decide +kernel
theorem d_L_law_255 : decode b_L_law 255 = .ok (.aload_n 0, 1) := by decide +kernel
theorem d_L_law_256 : decode b_L_law 256 = .ok (.iload_n 3, 1) := by decide +kernel
theorem d_L_law_257 : decode b_L_law 257 = .ok (.iconst 3, 1) := by decide +kernel
theorem d_L_law_258 : decode b_L_law 258 = .ok (.iadd, 1) := by decide +kernel
theorem d_L_law_259 : decode b_L_law 259 = .ok (.iaload, 1) := by decide +kernel
theorem d_L_law_260 : decode b_L_law 260 = .ok (.aload_n 0, 1) := by decide +kernel
theorem d_L_law_261 : decode b_L_law 261 = .ok (.iload_n 3, 1) := by decide +kernel
theorem d_L_law_262 : decode b_L_law 262 = .ok (.iconst 4, 1) := by decide +kernel
theorem d_L_law_263 : decode b_L_law 263 = .ok (.iadd, 1) := by decide +kernel
theorem d_L_law_264 : decode b_L_law 264 = .ok (.iaload, 1) := by decide +kernel
theorem d_L_law_265 : decode b_L_law 265 = .ok (.invokevirtual 32, 3) := by decide +kernel
theorem d_L_law_268 : decode b_L_law 268 = .ok (.aload_n 2, 1) := by decide +kernel
theorem d_L_law_269 : decode b_L_law 269 = .ok (.aload_n 0, 1) := by decide +kernel
theorem d_L_law_270 : decode b_L_law 270 = .ok (.iload_n 3, 1) := by decide +kernel
theorem d_L_law_271 : decode b_L_law 271 = .ok (.iconst 1, 1) := by decide +kernel
theorem d_L_law_272 : decode b_L_law 272 = .ok (.iadd, 1) := by decide +kernel
theorem d_L_law_273 : decode b_L_law 273 = .ok (.iaload, 1) := by decide +kernel
theorem d_L_law_274 : decode b_L_law 274 = .ok (.i2l, 1) := by decide +kernel
theorem d_L_law_275 : decode b_L_law 275 = .ok (.bipush 32, 2) := by decide +kernel
theorem d_L_law_277 : decode b_L_law 277 = .ok (.lshl, 1) := by decide +kernel
theorem d_L_law_278 : decode b_L_law 278 = .ok (.aload_n 0, 1) := by decide +kernel
theorem d_L_law_279 : decode b_L_law 279 = .ok (.iload_n 3, 1) := by decide +kernel
theorem d_L_law_280 : decode b_L_law 280 = .ok (.iconst 2, 1) := by decide +kernel
theorem d_L_law_281 : decode b_L_law 281 = .ok (.iadd, 1) := by decide +kernel
theorem d_L_law_282 : decode b_L_law 282 = .ok (.iaload, 1) := by decide +kernel
theorem d_L_law_283 : decode b_L_law 283 = .ok (.i2l, 1) := by decide +kernel
theorem d_L_law_284 : decode b_L_law 284 = .ok (.ldc2_w 30, 3) := by decide +kernel
theorem d_L_law_287 : decode b_L_law 287 = .ok (.land, 1) := by decide +kernel
theorem d_L_law_288 : decode b_L_law 288 = .ok (.lor, 1) := by decide +kernel
theorem d_L_law_289 : decode b_L_law 289 = .ok (.aload_n 0, 1) := by decide +kernel
theorem d_L_law_290 : decode b_L_law 290 = .ok (.iload_n 3, 1) := by decide +kernel
theorem d_L_law_291 : decode b_L_law 291 = .ok (.iconst 3, 1) := by decide +kernel
theorem d_L_law_292 : decode b_L_law 292 = .ok (.iadd, 1) := by decide +kernel
theorem d_L_law_293 : decode b_L_law 293 = .ok (.iaload, 1) := by decide +kernel
theorem d_L_law_294 : decode b_L_law 294 = .ok (.aload_n 0, 1) := by decide +kernel
theorem d_L_law_295 : decode b_L_law 295 = .ok (.iload_n 3, 1) := by decide +kernel
theorem d_L_law_296 : decode b_L_law 296 = .ok (.iconst 4, 1) := by decide +kernel
theorem d_L_law_297 : decode b_L_law 297 = .ok (.iadd, 1) := by decide +kernel
theorem d_L_law_298 : decode b_L_law 298 = .ok (.iaload, 1) := by decide +kernel
theorem d_L_law_299 : decode b_L_law 299 = .ok (.invokevirtual 36, 3) := by decide +kernel
theorem d_L_law_302 : decode b_L_law 302 = .ok (.if_icmp .eq 619, 3) := by decide +kernel
theorem d_L_law_305 : decode b_L_law 305 = .ok (.iconst 0, 1) := by decide +kernel
theorem d_L_law_306 : decode b_L_law 306 = .ok (.ireturn, 1) := by decide +kernel
theorem d_L_law_307 : decode b_L_law 307 = .ok (.aload_n 1, 1) := by decide +kernel
theorem d_L_law_308 : decode b_L_law 308 = .ok (.invokevirtual 37, 3) := by decide +kernel
theorem d_L_law_311 : decode b_L_law 311 = .ok (.aload_n 2, 1) := by decide +kernel
theorem d_L_law_312 : decode b_L_law 312 = .ok (.invokevirtual 41, 3) := by decide +kernel
theorem d_L_law_315 : decode b_L_law 315 = .ok (.if_icmp .eq 606, 3) := by decide +kernel
theorem d_L_law_318 : decode b_L_law 318 = .ok (.iconst 0, 1) := by decide +kernel
theorem d_L_law_319 : decode b_L_law 319 = .ok (.ireturn, 1) := by decide +kernel
theorem d_L_law_320 : decode b_L_law 320 = .ok (.aload_n 1, 1) := by decide +kernel
theorem d_L_law_321 : decode b_L_law 321 = .ok (.aload_n 0, 1) := by decide +kernel
theorem d_L_law_322 : decode b_L_law 322 = .ok (.iload_n 3, 1) := by decide +kernel
theorem d_L_law_323 : decode b_L_law 323 = .ok (.iconst 1, 1) := by decide +kernel
theorem d_L_law_324 : decode b_L_law 324 = .ok (.iadd, 1) := by decide +kernel
theorem d_L_law_325 : decode b_L_law 325 = .ok (.iaload, 1) := by decide +kernel
theorem d_L_law_326 : decode b_L_law 326 = .ok (.invokevirtual 42, 3) := by decide +kernel
theorem d_L_law_329 : decode b_L_law 329 = .ok (.aload_n 2, 1) := by decide +kernel
theorem d_L_law_330 : decode b_L_law 330 = .ok (.aload_n 0, 1) := by decide +kernel
theorem d_L_law_331 : decode b_L_law 331 = .ok (.iload_n 3, 1) := by decide +kernel
theorem d_L_law_332 : decode b_L_law 332 = .ok (.iconst 1, 1) := by decide +kernel
theorem d_L_law_333 : decode b_L_law 333 = .ok (.iadd, 1) := by decide +kernel
theorem d_L_law_334 : decode b_L_law 334 = .ok (.iaload, 1) := by decide +kernel
theorem d_L_law_335 : decode b_L_law 335 = .ok (.invokevirtual 46, 3) := by decide +kernel
theorem d_L_law_338 : decode b_L_law 338 = .ok (.if_icmp .eq 583, 3) := by decide +kernel
theorem d_L_law_341 : decode b_L_law 341 = .ok (.iconst 0, 1) := by decide +kernel
theorem d_L_law_342 : decode b_L_law 342 = .ok (.ireturn, 1) := by decide +kernel
theorem d_L_law_343 : decode b_L_law 343 = .ok (.aload_n 1, 1) := by decide +kernel
theorem d_L_law_344 : decode b_L_law 344 = .ok (.invokevirtual 47, 3) := by decide +kernel
theorem d_L_law_347 : decode b_L_law 347 = .ok (.aload_n 2, 1) := by decide +kernel
theorem d_L_law_348 : decode b_L_law 348 = .ok (.invokevirtual 51, 3) := by decide +kernel
theorem d_L_law_351 : decode b_L_law 351 = .ok (.if_icmp .eq 570, 3) := by decide +kernel
theorem d_L_law_354 : decode b_L_law 354 = .ok (.iconst 0, 1) := by decide +kernel
theorem d_L_law_355 : decode b_L_law 355 = .ok (.ireturn, 1) := by decide +kernel
theorem d_L_law_356 : decode b_L_law 356 = .ok (.aload_n 1, 1) := by decide +kernel
theorem d_L_law_357 : decode b_L_law 357 = .ok (.aload_n 0, 1) := by decide +kernel
theorem d_L_law_358 : decode b_L_law 358 = .ok (.iload_n 3, 1) := by decide +kernel
theorem d_L_law_359 : decode b_L_law 359 = .ok (.iconst 1, 1) := by decide +kernel
theorem d_L_law_360 : decode b_L_law 360 = .ok (.iadd, 1) := by decide +kernel
theorem d_L_law_361 : decode b_L_law 361 = .ok (.iaload, 1) := by decide +kernel
theorem d_L_law_362 : decode b_L_law 362 = .ok (.aload_n 0, 1) := by decide +kernel
theorem d_L_law_363 : decode b_L_law 363 = .ok (.iload_n 3, 1) := by decide +kernel
theorem d_L_law_364 : decode b_L_law 364 = .ok (.iconst 2, 1) := by decide +kernel
theorem d_L_law_365 : decode b_L_law 365 = .ok (.iadd, 1) := by decide +kernel
theorem d_L_law_366 : decode b_L_law 366 = .ok (.iaload, 1) := by decide +kernel
theorem d_L_law_367 : decode b_L_law 367 = .ok (.invokevirtual 52, 3) := by decide +kernel
theorem d_L_law_370 : decode b_L_law 370 = .ok (.aload_n 2, 1) := by decide +kernel
theorem d_L_law_371 : decode b_L_law 371 = .ok (.aload_n 0, 1) := by decide +kernel
theorem d_L_law_372 : decode b_L_law 372 = .ok (.iload_n 3, 1) := by decide +kernel
theorem d_L_law_373 : decode b_L_law 373 = .ok (.iconst 1, 1) := by decide +kernel
theorem d_L_law_374 : decode b_L_law 374 = .ok (.iadd, 1) := by decide +kernel
theorem d_L_law_375 : decode b_L_law 375 = .ok (.iaload, 1) := by decide +kernel
theorem d_L_law_376 : decode b_L_law 376 = .ok (.aload_n 0, 1) := by decide +kernel
theorem d_L_law_377 : decode b_L_law 377 = .ok (.iload_n 3, 1) := by decide +kernel
theorem d_L_law_378 : decode b_L_law 378 = .ok (.iconst 2, 1) := by decide +kernel
theorem d_L_law_379 : decode b_L_law 379 = .ok (.iadd, 1) := by decide +kernel
theorem d_L_law_380 : decode b_L_law 380 = .ok (.iaload, 1) := by decide +kernel
theorem d_L_law_381 : decode b_L_law 381 = .ok (.invokevirtual 56, 3) := by decide +kernel
theorem d_L_law_384 : decode b_L_law 384 = .ok (.if_icmp .eq 537, 3) := by decide +kernel
theorem d_L_law_387 : decode b_L_law 387 = .ok (.iconst 0, 1) := by decide +kernel
theorem d_L_law_388 : decode b_L_law 388 = .ok (.ireturn, 1) := by decide +kernel
theorem d_L_law_389 : decode b_L_law 389 = .ok (.aload_n 1, 1) := by decide +kernel
theorem d_L_law_390 : decode b_L_law 390 = .ok (.aload_n 0, 1) := by decide +kernel
theorem d_L_law_391 : decode b_L_law 391 = .ok (.iload_n 3, 1) := by decide +kernel
theorem d_L_law_392 : decode b_L_law 392 = .ok (.iconst 1, 1) := by decide +kernel
theorem d_L_law_393 : decode b_L_law 393 = .ok (.iadd, 1) := by decide +kernel
theorem d_L_law_394 : decode b_L_law 394 = .ok (.iaload, 1) := by decide +kernel
theorem d_L_law_395 : decode b_L_law 395 = .ok (.invokevirtual 57, 3) := by decide +kernel
theorem d_L_law_398 : decode b_L_law 398 = .ok (.aload_n 2, 1) := by decide +kernel
theorem d_L_law_399 : decode b_L_law 399 = .ok (.aload_n 0, 1) := by decide +kernel
theorem d_L_law_400 : decode b_L_law 400 = .ok (.iload_n 3, 1) := by decide +kernel
theorem d_L_law_401 : decode b_L_law 401 = .ok (.iconst 1, 1) := by decide +kernel
theorem d_L_law_402 : decode b_L_law 402 = .ok (.iadd, 1) := by decide +kernel
theorem d_L_law_403 : decode b_L_law 403 = .ok (.iaload, 1) := by decide +kernel
theorem d_L_law_404 : decode b_L_law 404 = .ok (.invokevirtual 60, 3) := by decide +kernel
theorem d_L_law_407 : decode b_L_law 407 = .ok (.if_icmp .eq 514, 3) := by decide +kernel
theorem d_L_law_410 : decode b_L_law 410 = .ok (.iconst 0, 1) := by decide +kernel
theorem d_L_law_411 : decode b_L_law 411 = .ok (.ireturn, 1) := by decide +kernel
theorem d_L_law_412 : decode b_L_law 412 = .ok (.aload_n 1, 1) := by decide +kernel
theorem d_L_law_413 : decode b_L_law 413 = .ok (.aload_n 0, 1) := by decide +kernel
theorem d_L_law_414 : decode b_L_law 414 = .ok (.iload_n 3, 1) := by decide +kernel
theorem d_L_law_415 : decode b_L_law 415 = .ok (.iconst 1, 1) := by decide +kernel
theorem d_L_law_416 : decode b_L_law 416 = .ok (.iadd, 1) := by decide +kernel
theorem d_L_law_417 : decode b_L_law 417 = .ok (.iaload, 1) := by decide +kernel
theorem d_L_law_418 : decode b_L_law 418 = .ok (.invokevirtual 61, 3) := by decide +kernel
theorem d_L_law_421 : decode b_L_law 421 = .ok (.aload_n 2, 1) := by decide +kernel
theorem d_L_law_422 : decode b_L_law 422 = .ok (.aload_n 0, 1) := by decide +kernel
theorem d_L_law_423 : decode b_L_law 423 = .ok (.iload_n 3, 1) := by decide +kernel
theorem d_L_law_424 : decode b_L_law 424 = .ok (.iconst 1, 1) := by decide +kernel
theorem d_L_law_425 : decode b_L_law 425 = .ok (.iadd, 1) := by decide +kernel
theorem d_L_law_426 : decode b_L_law 426 = .ok (.iaload, 1) := by decide +kernel
theorem d_L_law_427 : decode b_L_law 427 = .ok (.invokevirtual 65, 3) := by decide +kernel
theorem d_L_law_430 : decode b_L_law 430 = .ok (.lcmp, 1) := by decide +kernel
theorem d_L_law_431 : decode b_L_law 431 = .ok (.ifCond .eq 490, 3) := by decide +kernel
theorem d_L_law_434 : decode b_L_law 434 = .ok (.iconst 0, 1) := by decide +kernel
theorem d_L_law_435 : decode b_L_law 435 = .ok (.ireturn, 1) := by decide +kernel
theorem d_L_law_436 : decode b_L_law 436 = .ok (.aload_n 1, 1) := by decide +kernel
theorem d_L_law_437 : decode b_L_law 437 = .ok (.aload_n 0, 1) := by decide +kernel
theorem d_L_law_438 : decode b_L_law 438 = .ok (.iload_n 3, 1) := by decide +kernel
theorem d_L_law_439 : decode b_L_law 439 = .ok (.iconst 1, 1) := by decide +kernel
theorem d_L_law_440 : decode b_L_law 440 = .ok (.iadd, 1) := by decide +kernel
theorem d_L_law_441 : decode b_L_law 441 = .ok (.iaload, 1) := by decide +kernel
theorem d_L_law_442 : decode b_L_law 442 = .ok (.invokevirtual 66, 3) := by decide +kernel
theorem d_L_law_445 : decode b_L_law 445 = .ok (.aload_n 2, 1) := by decide +kernel
theorem d_L_law_446 : decode b_L_law 446 = .ok (.aload_n 0, 1) := by decide +kernel
theorem d_L_law_447 : decode b_L_law 447 = .ok (.iload_n 3, 1) := by decide +kernel
theorem d_L_law_448 : decode b_L_law 448 = .ok (.iconst 1, 1) := by decide +kernel
theorem d_L_law_449 : decode b_L_law 449 = .ok (.iadd, 1) := by decide +kernel
theorem d_L_law_450 : decode b_L_law 450 = .ok (.iaload, 1) := by decide +kernel
theorem d_L_law_451 : decode b_L_law 451 = .ok (.invokevirtual 69, 3) := by decide +kernel
theorem d_L_law_454 : decode b_L_law 454 = .ok (.if_icmp .eq 467, 3) := by decide +kernel
theorem d_L_law_457 : decode b_L_law 457 = .ok (.iconst 0, 1) := by decide +kernel
theorem d_L_law_458 : decode b_L_law 458 = .ok (.ireturn, 1) := by decide +kernel
theorem d_L_law_459 : decode b_L_law 459 = .ok (.aload_n 1, 1) := by decide +kernel
theorem d_L_law_460 : decode b_L_law 460 = .ok (.aload_n 0, 1) := by decide +kernel
theorem d_L_law_461 : decode b_L_law 461 = .ok (.iload_n 3, 1) := by decide +kernel
theorem d_L_law_462 : decode b_L_law 462 = .ok (.iconst 1, 1) := by decide +kernel
theorem d_L_law_463 : decode b_L_law 463 = .ok (.iadd, 1) := by decide +kernel
theorem d_L_law_464 : decode b_L_law 464 = .ok (.iaload, 1) := by decide +kernel
theorem d_L_law_465 : decode b_L_law 465 = .ok (.invokevirtual 70, 3) := by decide +kernel
theorem d_L_law_468 : decode b_L_law 468 = .ok (.aload_n 2, 1) := by decide +kernel
theorem d_L_law_469 : decode b_L_law 469 = .ok (.aload_n 0, 1) := by decide +kernel
theorem d_L_law_470 : decode b_L_law 470 = .ok (.iload_n 3, 1) := by decide +kernel
theorem d_L_law_471 : decode b_L_law 471 = .ok (.iconst 1, 1) := by decide +kernel
theorem d_L_law_472 : decode b_L_law 472 = .ok (.iadd, 1) := by decide +kernel
theorem d_L_law_473 : decode b_L_law 473 = .ok (.iaload, 1) := by decide +kernel
theorem d_L_law_474 : decode b_L_law 474 = .ok (.invokevirtual 73, 3) := by decide +kernel
theorem d_L_law_477 : decode b_L_law 477 = .ok (.lcmp, 1) := by decide +kernel
theorem d_L_law_478 : decode b_L_law 478 = .ok (.ifCond .eq 443, 3) := by decide +kernel
theorem d_L_law_481 : decode b_L_law 481 = .ok (.iconst 0, 1) := by decide +kernel
theorem d_L_law_482 : decode b_L_law 482 = .ok (.ireturn, 1) := by decide +kernel
theorem d_L_law_483 : decode b_L_law 483 = .ok (.aload_n 1, 1) := by decide +kernel
theorem d_L_law_484 : decode b_L_law 484 = .ok (.aload_n 0, 1) := by decide +kernel
theorem d_L_law_485 : decode b_L_law 485 = .ok (.iload_n 3, 1) := by decide +kernel
theorem d_L_law_486 : decode b_L_law 486 = .ok (.iconst 1, 1) := by decide +kernel
theorem d_L_law_487 : decode b_L_law 487 = .ok (.iadd, 1) := by decide +kernel
theorem d_L_law_488 : decode b_L_law 488 = .ok (.iaload, 1) := by decide +kernel
theorem d_L_law_489 : decode b_L_law 489 = .ok (.aload_n 0, 1) := by decide +kernel
theorem d_L_law_490 : decode b_L_law 490 = .ok (.iload_n 3, 1) := by decide +kernel
theorem d_L_law_491 : decode b_L_law 491 = .ok (.iconst 2, 1) := by decide +kernel
theorem d_L_law_492 : decode b_L_law 492 = .ok (.iadd, 1) := by decide +kernel
theorem d_L_law_493 : decode b_L_law 493 = .ok (.iaload, 1) := by decide +kernel
theorem d_L_law_494 : decode b_L_law 494 = .ok (.invokevirtual 74, 3) := by decide +kernel
theorem d_L_law_497 : decode b_L_law 497 = .ok (.aload_n 2, 1) := by decide +kernel
theorem d_L_law_498 : decode b_L_law 498 = .ok (.aload_n 0, 1) := by decide +kernel
theorem d_L_law_499 : decode b_L_law 499 = .ok (.iload_n 3, 1) := by decide +kernel
theorem d_L_law_500 : decode b_L_law 500 = .ok (.iconst 1, 1) := by decide +kernel
theorem d_L_law_501 : decode b_L_law 501 = .ok (.iadd, 1) := by decide +kernel
theorem d_L_law_502 : decode b_L_law 502 = .ok (.iaload, 1) := by decide +kernel
theorem d_L_law_503 : decode b_L_law 503 = .ok (.aload_n 0, 1) := by decide +kernel
theorem d_L_law_504 : decode b_L_law 504 = .ok (.iload_n 3, 1) := by decide +kernel
theorem d_L_law_505 : decode b_L_law 505 = .ok (.iconst 2, 1) := by decide +kernel
theorem d_L_law_506 : decode b_L_law 506 = .ok (.iadd, 1) := by decide +kernel
theorem d_L_law_507 : decode b_L_law 507 = .ok (.iaload, 1) := by decide +kernel
theorem d_L_law_508 : decode b_L_law 508 = .ok (.invokevirtual 78, 3) := by decide +kernel
theorem d_L_law_511 : decode b_L_law 511 = .ok (.if_icmp .eq 410, 3) := by decide +kernel
theorem d_L_law_514 : decode b_L_law 514 = .ok (.iconst 0, 1) := by decide +kernel
theorem d_L_law_515 : decode b_L_law 515 = .ok (.ireturn, 1) := by decide +kernel
theorem d_L_law_516 : decode b_L_law 516 = .ok (.aload_n 1, 1) := by decide +kernel
theorem d_L_law_517 : decode b_L_law 517 = .ok (.aload_n 0, 1) := by decide +kernel
theorem d_L_law_518 : decode b_L_law 518 = .ok (.iload_n 3, 1) := by decide +kernel
theorem d_L_law_519 : decode b_L_law 519 = .ok (.iconst 1, 1) := by decide +kernel
theorem d_L_law_520 : decode b_L_law 520 = .ok (.iadd, 1) := by decide +kernel
theorem d_L_law_521 : decode b_L_law 521 = .ok (.iaload, 1) := by decide +kernel
theorem d_L_law_522 : decode b_L_law 522 = .ok (.aload_n 0, 1) := by decide +kernel
theorem d_L_law_523 : decode b_L_law 523 = .ok (.iload_n 3, 1) := by decide +kernel
theorem d_L_law_524 : decode b_L_law 524 = .ok (.iconst 2, 1) := by decide +kernel
theorem d_L_law_525 : decode b_L_law 525 = .ok (.iadd, 1) := by decide +kernel
theorem d_L_law_526 : decode b_L_law 526 = .ok (.iaload, 1) := by decide +kernel
theorem d_L_law_527 : decode b_L_law 527 = .ok (.invokevirtual 79, 3) := by decide +kernel
theorem d_L_law_530 : decode b_L_law 530 = .ok (.aload_n 2, 1) := by decide +kernel
theorem d_L_law_531 : decode b_L_law 531 = .ok (.aload_n 0, 1) := by decide +kernel
theorem d_L_law_532 : decode b_L_law 532 = .ok (.iload_n 3, 1) := by decide +kernel
theorem d_L_law_533 : decode b_L_law 533 = .ok (.iconst 1, 1) := by decide +kernel
theorem d_L_law_534 : decode b_L_law 534 = .ok (.iadd, 1) := by decide +kernel
theorem d_L_law_535 : decode b_L_law 535 = .ok (.iaload, 1) := by decide +kernel
theorem d_L_law_536 : decode b_L_law 536 = .ok (.aload_n 0, 1) := by decide +kernel
theorem d_L_law_537 : decode b_L_law 537 = .ok (.iload_n 3, 1) := by decide +kernel
theorem d_L_law_538 : decode b_L_law 538 = .ok (.iconst 2, 1) := by decide +kernel
theorem d_L_law_539 : decode b_L_law 539 = .ok (.iadd, 1) := by decide +kernel
theorem d_L_law_540 : decode b_L_law 540 = .ok (.iaload, 1) := by decide +kernel
theorem d_L_law_541 : decode b_L_law 541 = .ok (.invokevirtual 82, 3) := by decide +kernel
theorem d_L_law_544 : decode b_L_law 544 = .ok (.if_icmp .eq 377, 3) := by decide +kernel
theorem d_L_law_547 : decode b_L_law 547 = .ok (.iconst 0, 1) := by decide +kernel
theorem d_L_law_548 : decode b_L_law 548 = .ok (.ireturn, 1) := by decide +kernel
theorem d_L_law_549 : decode b_L_law 549 = .ok (.aload_n 1, 1) := by decide +kernel
theorem d_L_law_550 : decode b_L_law 550 = .ok (.aload_n 0, 1) := by decide +kernel
theorem d_L_law_551 : decode b_L_law 551 = .ok (.iload_n 3, 1) := by decide +kernel
theorem d_L_law_552 : decode b_L_law 552 = .ok (.iconst 1, 1) := by decide +kernel
theorem d_L_law_553 : decode b_L_law 553 = .ok (.iadd, 1) := by decide +kernel
theorem d_L_law_554 : decode b_L_law 554 = .ok (.iaload, 1) := by decide +kernel
theorem d_L_law_555 : decode b_L_law 555 = .ok (.i2l, 1) := by decide +kernel
theorem d_L_law_556 : decode b_L_law 556 = .ok (.bipush 32, 2) := by decide +kernel
theorem d_L_law_558 : decode b_L_law 558 = .ok (.lshl, 1) := by decide +kernel
theorem d_L_law_559 : decode b_L_law 559 = .ok (.aload_n 0, 1) := by decide +kernel
theorem d_L_law_560 : decode b_L_law 560 = .ok (.iload_n 3, 1) := by decide +kernel
theorem d_L_law_561 : decode b_L_law 561 = .ok (.iconst 2, 1) := by decide +kernel
theorem d_L_law_562 : decode b_L_law 562 = .ok (.iadd, 1) := by decide +kernel
theorem d_L_law_563 : decode b_L_law 563 = .ok (.iaload, 1) := by decide +kernel
theorem d_L_law_564 : decode b_L_law 564 = .ok (.i2l, 1) := by decide +kernel
theorem d_L_law_565 : decode b_L_law 565 = .ok (.ldc2_w 30, 3) := by decide +kernel
theorem d_L_law_568 : decode b_L_law 568 = .ok (.land, 1) := by decide +kernel
theorem d_L_law_569 : decode b_L_law 569 = .ok (.lor, 1) := by decide +kernel
theorem d_L_law_570 : decode b_L_law 570 = .ok (.aload_n 0, 1) := by decide +kernel
theorem d_L_law_571 : decode b_L_law 571 = .ok (.iload_n 3, 1) := by decide +kernel
theorem d_L_law_572 : decode b_L_law 572 = .ok (.iconst 3, 1) := by decide +kernel
theorem d_L_law_573 : decode b_L_law 573 = .ok (.iadd, 1) := by decide +kernel
theorem d_L_law_574 : decode b_L_law 574 = .ok (.iaload, 1) := by decide +kernel
theorem d_L_law_575 : decode b_L_law 575 = .ok (.i2l, 1) := by decide +kernel
theorem d_L_law_576 : decode b_L_law 576 = .ok (.bipush 32, 2) := by decide +kernel
theorem d_L_law_578 : decode b_L_law 578 = .ok (.lshl, 1) := by decide +kernel
theorem d_L_law_579 : decode b_L_law 579 = .ok (.aload_n 0, 1) := by decide +kernel
theorem d_L_law_580 : decode b_L_law 580 = .ok (.iload_n 3, 1) := by decide +kernel
theorem d_L_law_581 : decode b_L_law 581 = .ok (.iconst 4, 1) := by decide +kernel
theorem d_L_law_582 : decode b_L_law 582 = .ok (.iadd, 1) := by decide +kernel
theorem d_L_law_583 : decode b_L_law 583 = .ok (.iaload, 1) := by decide +kernel
theorem d_L_law_584 : decode b_L_law 584 = .ok (.i2l, 1) := by decide +kernel
theorem d_L_law_585 : decode b_L_law 585 = .ok (.ldc2_w 30, 3) := by decide +kernel
theorem d_L_law_588 : decode b_L_law 588 = .ok (.land, 1) := by decide +kernel
theorem d_L_law_589 : decode b_L_law 589 = .ok (.lor, 1) := by decide +kernel
theorem d_L_law_590 : decode b_L_law 590 = .ok (.aload_n 0, 1) := by decide +kernel
theorem d_L_law_591 : decode b_L_law 591 = .ok (.iload_n 3, 1) := by decide +kernel
theorem d_L_law_592 : decode b_L_law 592 = .ok (.iconst 5, 1) := by decide +kernel
theorem d_L_law_593 : decode b_L_law 593 = .ok (.iadd, 1) := by decide +kernel
theorem d_L_law_594 : decode b_L_law 594 = .ok (.iaload, 1) := by decide +kernel
theorem d_L_law_595 : decode b_L_law 595 = .ok (.invokevirtual 83, 3) := by decide +kernel
theorem d_L_law_598 : decode b_L_law 598 = .ok (.aload_n 2, 1) := by decide +kernel
theorem d_L_law_599 : decode b_L_law 599 = .ok (.aload_n 0, 1) := by decide +kernel
theorem d_L_law_600 : decode b_L_law 600 = .ok (.iload_n 3, 1) := by decide +kernel
theorem d_L_law_601 : decode b_L_law 601 = .ok (.iconst 1, 1) := by decide +kernel
theorem d_L_law_602 : decode b_L_law 602 = .ok (.iadd, 1) := by decide +kernel
theorem d_L_law_603 : decode b_L_law 603 = .ok (.iaload, 1) := by decide +kernel
theorem d_L_law_604 : decode b_L_law 604 = .ok (.i2l, 1) := by decide +kernel
theorem d_L_law_605 : decode b_L_law 605 = .ok (.bipush 32, 2) := by decide +kernel
theorem d_L_law_607 : decode b_L_law 607 = .ok (.lshl, 1) := by decide +kernel
theorem d_L_law_608 : decode b_L_law 608 = .ok (.aload_n 0, 1) := by decide +kernel
theorem d_L_law_609 : decode b_L_law 609 = .ok (.iload_n 3, 1) := by decide +kernel
theorem d_L_law_610 : decode b_L_law 610 = .ok (.iconst 2, 1) := by decide +kernel
theorem d_L_law_611 : decode b_L_law 611 = .ok (.iadd, 1) := by decide +kernel
theorem d_L_law_612 : decode b_L_law 612 = .ok (.iaload, 1) := by decide +kernel
theorem d_L_law_613 : decode b_L_law 613 = .ok (.i2l, 1) := by decide +kernel
theorem d_L_law_614 : decode b_L_law 614 = .ok (.ldc2_w 30, 3) := by decide +kernel
theorem d_L_law_617 : decode b_L_law 617 = .ok (.land, 1) := by decide +kernel
theorem d_L_law_618 : decode b_L_law 618 = .ok (.lor, 1) := by decide +kernel
theorem d_L_law_619 : decode b_L_law 619 = .ok (.aload_n 0, 1) := by decide +kernel
theorem d_L_law_620 : decode b_L_law 620 = .ok (.iload_n 3, 1) := by decide +kernel
theorem d_L_law_621 : decode b_L_law 621 = .ok (.iconst 3, 1) := by decide +kernel
theorem d_L_law_622 : decode b_L_law 622 = .ok (.iadd, 1) := by decide +kernel
theorem d_L_law_623 : decode b_L_law 623 = .ok (.iaload, 1) := by decide +kernel
theorem d_L_law_624 : decode b_L_law 624 = .ok (.i2l, 1) := by decide +kernel
theorem d_L_law_625 : decode b_L_law 625 = .ok (.bipush 32, 2) := by decide +kernel
theorem d_L_law_627 : decode b_L_law 627 = .ok (.lshl, 1) := by decide +kernel
theorem d_L_law_628 : decode b_L_law 628 = .ok (.aload_n 0, 1) := by decide +kernel
theorem d_L_law_629 : decode b_L_law 629 = .ok (.iload_n 3, 1) := by decide +kernel
theorem d_L_law_630 : decode b_L_law 630 = .ok (.iconst 4, 1) := by decide +kernel
theorem d_L_law_631 : decode b_L_law 631 = .ok (.iadd, 1) := by decide +kernel
theorem d_L_law_632 : decode b_L_law 632 = .ok (.iaload, 1) := by decide +kernel
theorem d_L_law_633 : decode b_L_law 633 = .ok (.i2l, 1) := by decide +kernel
theorem d_L_law_634 : decode b_L_law 634 = .ok (.ldc2_w 30, 3) := by decide +kernel
theorem d_L_law_637 : decode b_L_law 637 = .ok (.land, 1) := by decide +kernel
theorem d_L_law_638 : decode b_L_law 638 = .ok (.lor, 1) := by decide +kernel
theorem d_L_law_639 : decode b_L_law 639 = .ok (.aload_n 0, 1) := by decide +kernel
theorem d_L_law_640 : decode b_L_law 640 = .ok (.iload_n 3, 1) := by decide +kernel
theorem d_L_law_641 : decode b_L_law 641 = .ok (.iconst 5, 1) := by decide +kernel
theorem d_L_law_642 : decode b_L_law 642 = .ok (.iadd, 1) := by decide +kernel
theorem d_L_law_643 : decode b_L_law 643 = .ok (.iaload, 1) := by decide +kernel
theorem d_L_law_644 : decode b_L_law 644 = .ok (.invokevirtual 87, 3) := by decide +kernel
theorem d_L_law_647 : decode b_L_law 647 = .ok (.if_icmp .eq 274, 3) := by decide +kernel
theorem d_L_law_650 : decode b_L_law 650 = .ok (.iconst 0, 1) := by decide +kernel
theorem d_L_law_651 : decode b_L_law 651 = .ok (.ireturn, 1) := by decide +kernel
theorem d_L_law_652 : decode b_L_law 652 = .ok (.aload_n 1, 1) := by decide +kernel
theorem d_L_law_653 : decode b_L_law 653 = .ok (.aload_n 0, 1) := by decide +kernel
theorem d_L_law_654 : decode b_L_law 654 = .ok (.iload_n 3, 1) := by decide +kernel
theorem d_L_law_655 : decode b_L_law 655 = .ok (.iconst 1, 1) := by decide +kernel
theorem d_L_law_656 : decode b_L_law 656 = .ok (.iadd, 1) := by decide +kernel
theorem d_L_law_657 : decode b_L_law 657 = .ok (.iaload, 1) := by decide +kernel
theorem d_L_law_658 : decode b_L_law 658 = .ok (.invokevirtual 88, 3) := by decide +kernel
theorem d_L_law_661 : decode b_L_law 661 = .ok (.aload_n 2, 1) := by decide +kernel
theorem d_L_law_662 : decode b_L_law 662 = .ok (.aload_n 0, 1) := by decide +kernel
theorem d_L_law_663 : decode b_L_law 663 = .ok (.iload_n 3, 1) := by decide +kernel
theorem d_L_law_664 : decode b_L_law 664 = .ok (.iconst 1, 1) := by decide +kernel
theorem d_L_law_665 : decode b_L_law 665 = .ok (.iadd, 1) := by decide +kernel
theorem d_L_law_666 : decode b_L_law 666 = .ok (.iaload, 1) := by decide +kernel
theorem d_L_law_667 : decode b_L_law 667 = .ok (.invokevirtual 92, 3) := by decide +kernel
theorem d_L_law_670 : decode b_L_law 670 = .ok (.if_icmp .eq 251, 3) := by decide +kernel
theorem d_L_law_673 : decode b_L_law 673 = .ok (.iconst 0, 1) := by decide +kernel
theorem d_L_law_674 : decode b_L_law 674 = .ok (.ireturn, 1) := by decide +kernel
theorem d_L_law_675 : decode b_L_law 675 = .ok (.aload_n 1, 1) := by decide +kernel
theorem d_L_law_676 : decode b_L_law 676 = .ok (.aload_n 0, 1) := by decide +kernel
theorem d_L_law_677 : decode b_L_law 677 = .ok (.iload_n 3, 1) := by decide +kernel
theorem d_L_law_678 : decode b_L_law 678 = .ok (.iconst 1, 1) := by decide +kernel
theorem d_L_law_679 : decode b_L_law 679 = .ok (.iadd, 1) := by decide +kernel
theorem d_L_law_680 : decode b_L_law 680 = .ok (.iaload, 1) := by decide +kernel
theorem d_L_law_681 : decode b_L_law 681 = .ok (.invokevirtual 93, 3) := by decide +kernel
theorem d_L_law_684 : decode b_L_law 684 = .ok (.aload_n 2, 1) := by decide +kernel
theorem d_L_law_685 : decode b_L_law 685 = .ok (.aload_n 0, 1) := by decide +kernel
theorem d_L_law_686 : decode b_L_law 686 = .ok (.iload_n 3, 1) := by decide +kernel
theorem d_L_law_687 : decode b_L_law 687 = .ok (.iconst 1, 1) := by decide +kernel
theorem d_L_law_688 : decode b_L_law 688 = .ok (.iadd, 1) := by decide +kernel
theorem d_L_law_689 : decode b_L_law 689 = .ok (.iaload, 1) := by decide +kernel
theorem d_L_law_690 : decode b_L_law 690 = .ok (.invokevirtual 96, 3) := by decide +kernel
theorem d_L_law_693 : decode b_L_law 693 = .ok (.if_icmp .eq 228, 3) := by decide +kernel
theorem d_L_law_696 : decode b_L_law 696 = .ok (.iconst 0, 1) := by decide +kernel
theorem d_L_law_697 : decode b_L_law 697 = .ok (.ireturn, 1) := by decide +kernel
theorem d_L_law_698 : decode b_L_law 698 = .ok (.aload_n 1, 1) := by decide +kernel
theorem d_L_law_699 : decode b_L_law 699 = .ok (.aload_n 0, 1) := by decide +kernel
theorem d_L_law_700 : decode b_L_law 700 = .ok (.iload_n 3, 1) := by decide +kernel
theorem d_L_law_701 : decode b_L_law 701 = .ok (.iconst 1, 1) := by decide +kernel
theorem d_L_law_702 : decode b_L_law 702 = .ok (.iadd, 1) := by decide +kernel
theorem d_L_law_703 : decode b_L_law 703 = .ok (.iaload, 1) := by decide +kernel
theorem d_L_law_704 : decode b_L_law 704 = .ok (.aload_n 0, 1) := by decide +kernel
theorem d_L_law_705 : decode b_L_law 705 = .ok (.iload_n 3, 1) := by decide +kernel
theorem d_L_law_706 : decode b_L_law 706 = .ok (.iconst 2, 1) := by decide +kernel
theorem d_L_law_707 : decode b_L_law 707 = .ok (.iadd, 1) := by decide +kernel
theorem d_L_law_708 : decode b_L_law 708 = .ok (.iaload, 1) := by decide +kernel
theorem d_L_law_709 : decode b_L_law 709 = .ok (.invokevirtual 97, 3) := by decide +kernel
theorem d_L_law_712 : decode b_L_law 712 = .ok (.aload_n 2, 1) := by decide +kernel
theorem d_L_law_713 : decode b_L_law 713 = .ok (.aload_n 0, 1) := by decide +kernel
theorem d_L_law_714 : decode b_L_law 714 = .ok (.iload_n 3, 1) := by decide +kernel
theorem d_L_law_715 : decode b_L_law 715 = .ok (.iconst 1, 1) := by decide +kernel
theorem d_L_law_716 : decode b_L_law 716 = .ok (.iadd, 1) := by decide +kernel
theorem d_L_law_717 : decode b_L_law 717 = .ok (.iaload, 1) := by decide +kernel
theorem d_L_law_718 : decode b_L_law 718 = .ok (.aload_n 0, 1) := by decide +kernel
theorem d_L_law_719 : decode b_L_law 719 = .ok (.iload_n 3, 1) := by decide +kernel
theorem d_L_law_720 : decode b_L_law 720 = .ok (.iconst 2, 1) := by decide +kernel
theorem d_L_law_721 : decode b_L_law 721 = .ok (.iadd, 1) := by decide +kernel
theorem d_L_law_722 : decode b_L_law 722 = .ok (.iaload, 1) := by decide +kernel
theorem d_L_law_723 : decode b_L_law 723 = .ok (.invokevirtual 101, 3) := by decide +kernel
theorem d_L_law_726 : decode b_L_law 726 = .ok (.lcmp, 1) := by decide +kernel
theorem d_L_law_727 : decode b_L_law 727 = .ok (.ifCond .eq 194, 3) := by decide +kernel
theorem d_L_law_730 : decode b_L_law 730 = .ok (.iconst 0, 1) := by decide +kernel
theorem d_L_law_731 : decode b_L_law 731 = .ok (.ireturn, 1) := by decide +kernel
theorem d_L_law_732 : decode b_L_law 732 = .ok (.aload_n 1, 1) := by decide +kernel
theorem d_L_law_733 : decode b_L_law 733 = .ok (.aload_n 0, 1) := by decide +kernel
theorem d_L_law_734 : decode b_L_law 734 = .ok (.iload_n 3, 1) := by decide +kernel
theorem d_L_law_735 : decode b_L_law 735 = .ok (.iconst 1, 1) := by decide +kernel
theorem d_L_law_736 : decode b_L_law 736 = .ok (.iadd, 1) := by decide +kernel
theorem d_L_law_737 : decode b_L_law 737 = .ok (.iaload, 1) := by decide +kernel
theorem d_L_law_738 : decode b_L_law 738 = .ok (.aload_n 0, 1) := by decide +kernel
theorem d_L_law_739 : decode b_L_law 739 = .ok (.iload_n 3, 1) := by decide +kernel
theorem d_L_law_740 : decode b_L_law 740 = .ok (.iconst 2, 1) := by decide +kernel
theorem d_L_law_741 : decode b_L_law 741 = .ok (.iadd, 1) := by decide +kernel
theorem d_L_law_742 : decode b_L_law 742 = .ok (.iaload, 1) := by decide +kernel
theorem d_L_law_743 : decode b_L_law 743 = .ok (.aload_n 0, 1) := by decide +kernel
theorem d_L_law_744 : decode b_L_law 744 = .ok (.iload_n 3, 1) := by decide +kernel
theorem d_L_law_745 : decode b_L_law 745 = .ok (.iconst 3, 1) := by decide +kernel
theorem d_L_law_746 : decode b_L_law 746 = .ok (.iadd, 1) := by decide +kernel
theorem d_L_law_747 : decode b_L_law 747 = .ok (.iaload, 1) := by decide +kernel
theorem d_L_law_748 : decode b_L_law 748 = .ok (.aload_n 0, 1) := by decide +kernel
theorem d_L_law_749 : decode b_L_law 749 = .ok (.iload_n 3, 1) := by decide +kernel
theorem d_L_law_750 : decode b_L_law 750 = .ok (.iconst 4, 1) := by decide +kernel
theorem d_L_law_751 : decode b_L_law 751 = .ok (.iadd, 1) := by decide +kernel
theorem d_L_law_752 : decode b_L_law 752 = .ok (.iaload, 1) := by decide +kernel
theorem d_L_law_753 : decode b_L_law 753 = .ok (.i2l, 1) := by decide +kernel
theorem d_L_law_754 : decode b_L_law 754 = .ok (.bipush 32, 2) := by decide +kernel
theorem d_L_law_756 : decode b_L_law 756 = .ok (.lshl, 1) := by decide +kernel
theorem d_L_law_757 : decode b_L_law 757 = .ok (.aload_n 0, 1) := by decide +kernel
theorem d_L_law_758 : decode b_L_law 758 = .ok (.iload_n 3, 1) := by decide +kernel
theorem d_L_law_759 : decode b_L_law 759 = .ok (.iconst 5, 1) := by decide +kernel
theorem d_L_law_760 : decode b_L_law 760 = .ok (.iadd, 1) := by decide +kernel
theorem d_L_law_761 : decode b_L_law 761 = .ok (.iaload, 1) := by decide +kernel
theorem d_L_law_762 : decode b_L_law 762 = .ok (.i2l, 1) := by decide +kernel
theorem d_L_law_763 : decode b_L_law 763 = .ok (.ldc2_w 30, 3) := by decide +kernel
theorem d_L_law_766 : decode b_L_law 766 = .ok (.land, 1) := by decide +kernel
theorem d_L_law_767 : decode b_L_law 767 = .ok (.lor, 1) := by decide +kernel
theorem d_L_law_768 : decode b_L_law 768 = .ok (.invokevirtual 102, 3) := by decide +kernel
theorem d_L_law_771 : decode b_L_law 771 = .ok (.aload_n 2, 1) := by decide +kernel
theorem d_L_law_772 : decode b_L_law 772 = .ok (.aload_n 0, 1) := by decide +kernel
theorem d_L_law_773 : decode b_L_law 773 = .ok (.iload_n 3, 1) := by decide +kernel
theorem d_L_law_774 : decode b_L_law 774 = .ok (.iconst 1, 1) := by decide +kernel
theorem d_L_law_775 : decode b_L_law 775 = .ok (.iadd, 1) := by decide +kernel
theorem d_L_law_776 : decode b_L_law 776 = .ok (.iaload, 1) := by decide +kernel
theorem d_L_law_777 : decode b_L_law 777 = .ok (.aload_n 0, 1) := by decide +kernel
theorem d_L_law_778 : decode b_L_law 778 = .ok (.iload_n 3, 1) := by decide +kernel
theorem d_L_law_779 : decode b_L_law 779 = .ok (.iconst 2, 1) := by decide +kernel
theorem d_L_law_780 : decode b_L_law 780 = .ok (.iadd, 1) := by decide +kernel
theorem d_L_law_781 : decode b_L_law 781 = .ok (.iaload, 1) := by decide +kernel
theorem d_L_law_782 : decode b_L_law 782 = .ok (.aload_n 0, 1) := by decide +kernel
theorem d_L_law_783 : decode b_L_law 783 = .ok (.iload_n 3, 1) := by decide +kernel
theorem d_L_law_784 : decode b_L_law 784 = .ok (.iconst 3, 1) := by decide +kernel
theorem d_L_law_785 : decode b_L_law 785 = .ok (.iadd, 1) := by decide +kernel
theorem d_L_law_786 : decode b_L_law 786 = .ok (.iaload, 1) := by decide +kernel
theorem d_L_law_787 : decode b_L_law 787 = .ok (.aload_n 0, 1) := by decide +kernel
theorem d_L_law_788 : decode b_L_law 788 = .ok (.iload_n 3, 1) := by decide +kernel
theorem d_L_law_789 : decode b_L_law 789 = .ok (.iconst 4, 1) := by decide +kernel
theorem d_L_law_790 : decode b_L_law 790 = .ok (.iadd, 1) := by decide +kernel
theorem d_L_law_791 : decode b_L_law 791 = .ok (.iaload, 1) := by decide +kernel
theorem d_L_law_792 : decode b_L_law 792 = .ok (.i2l, 1) := by decide +kernel
theorem d_L_law_793 : decode b_L_law 793 = .ok (.bipush 32, 2) := by decide +kernel
theorem d_L_law_795 : decode b_L_law 795 = .ok (.lshl, 1) := by decide +kernel
theorem d_L_law_796 : decode b_L_law 796 = .ok (.aload_n 0, 1) := by decide +kernel
theorem d_L_law_797 : decode b_L_law 797 = .ok (.iload_n 3, 1) := by decide +kernel
theorem d_L_law_798 : decode b_L_law 798 = .ok (.iconst 5, 1) := by decide +kernel
theorem d_L_law_799 : decode b_L_law 799 = .ok (.iadd, 1) := by decide +kernel
theorem d_L_law_800 : decode b_L_law 800 = .ok (.iaload, 1) := by decide +kernel
theorem d_L_law_801 : decode b_L_law 801 = .ok (.i2l, 1) := by decide +kernel
theorem d_L_law_802 : decode b_L_law 802 = .ok (.ldc2_w 30, 3) := by decide +kernel
theorem d_L_law_805 : decode b_L_law 805 = .ok (.land, 1) := by decide +kernel
theorem d_L_law_806 : decode b_L_law 806 = .ok (.lor, 1) := by decide +kernel
theorem d_L_law_807 : decode b_L_law 807 = .ok (.invokevirtual 105, 3) := by decide +kernel
theorem d_L_law_810 : decode b_L_law 810 = .ok (.if_icmp .eq 111, 3) := by decide +kernel
theorem d_L_law_813 : decode b_L_law 813 = .ok (.iconst 0, 1) := by decide +kernel
theorem d_L_law_814 : decode b_L_law 814 = .ok (.ireturn, 1) := by decide +kernel
theorem d_L_law_815 : decode b_L_law 815 = .ok (.aload_n 1, 1) := by decide +kernel
theorem d_L_law_816 : decode b_L_law 816 = .ok (.aload_n 0, 1) := by decide +kernel
theorem d_L_law_817 : decode b_L_law 817 = .ok (.iload_n 3, 1) := by decide +kernel
theorem d_L_law_818 : decode b_L_law 818 = .ok (.iconst 1, 1) := by decide +kernel
theorem d_L_law_819 : decode b_L_law 819 = .ok (.iadd, 1) := by decide +kernel
theorem d_L_law_820 : decode b_L_law 820 = .ok (.iaload, 1) := by decide +kernel
theorem d_L_law_821 : decode b_L_law 821 = .ok (.invokevirtual 106, 3) := by decide +kernel
theorem d_L_law_824 : decode b_L_law 824 = .ok (.aload_n 2, 1) := by decide +kernel
theorem d_L_law_825 : decode b_L_law 825 = .ok (.aload_n 0, 1) := by decide +kernel
theorem d_L_law_826 : decode b_L_law 826 = .ok (.iload_n 3, 1) := by decide +kernel
theorem d_L_law_827 : decode b_L_law 827 = .ok (.iconst 1, 1) := by decide +kernel
theorem d_L_law_828 : decode b_L_law 828 = .ok (.iadd, 1) := by decide +kernel
theorem d_L_law_829 : decode b_L_law 829 = .ok (.iaload, 1) := by decide +kernel
theorem d_L_law_830 : decode b_L_law 830 = .ok (.invokevirtual 109, 3) := by decide +kernel
theorem d_L_law_833 : decode b_L_law 833 = .ok (.if_icmp .eq 88, 3) := by decide +kernel
theorem d_L_law_836 : decode b_L_law 836 = .ok (.iconst 0, 1) := by decide +kernel
theorem d_L_law_837 : decode b_L_law 837 = .ok (.ireturn, 1) := by decide +kernel
theorem d_L_law_838 : decode b_L_law 838 = .ok (.aload_n 1, 1) := by decide +kernel
theorem d_L_law_839 : decode b_L_law 839 = .ok (.aload_n 0, 1) := by decide +kernel
theorem d_L_law_840 : decode b_L_law 840 = .ok (.iload_n 3, 1) := by decide +kernel
theorem d_L_law_841 : decode b_L_law 841 = .ok (.iconst 1, 1) := by decide +kernel
theorem d_L_law_842 : decode b_L_law 842 = .ok (.iadd, 1) := by decide +kernel
theorem d_L_law_843 : decode b_L_law 843 = .ok (.iaload, 1) := by decide +kernel
theorem d_L_law_844 : decode b_L_law 844 = .ok (.invokevirtual 110, 3) := by decide +kernel
theorem d_L_law_847 : decode b_L_law 847 = .ok (.aload_n 2, 1) := by decide +kernel
theorem d_L_law_848 : decode b_L_law 848 = .ok (.aload_n 0, 1) := by decide +kernel
theorem d_L_law_849 : decode b_L_law 849 = .ok (.iload_n 3, 1) := by decide +kernel
theorem d_L_law_850 : decode b_L_law 850 = .ok (.iconst 1, 1) := by decide +kernel
theorem d_L_law_851 : decode b_L_law 851 = .ok (.iadd, 1) := by decide +kernel
theorem d_L_law_852 : decode b_L_law 852 = .ok (.iaload, 1) := by decide +kernel
theorem d_L_law_853 : decode b_L_law 853 = .ok (.invokevirtual 113, 3) := by decide +kernel
theorem d_L_law_856 : decode b_L_law 856 = .ok (.if_icmp .eq 65, 3) := by decide +kernel
theorem d_L_law_859 : decode b_L_law 859 = .ok (.iconst 0, 1) := by decide +kernel
theorem d_L_law_860 : decode b_L_law 860 = .ok (.ireturn, 1) := by decide +kernel
theorem d_L_law_861 : decode b_L_law 861 = .ok (.aload_n 1, 1) := by decide +kernel
theorem d_L_law_862 : decode b_L_law 862 = .ok (.invokevirtual 114, 3) := by decide +kernel
theorem d_L_law_865 : decode b_L_law 865 = .ok (.aload_n 2, 1) := by decide +kernel
theorem d_L_law_866 : decode b_L_law 866 = .ok (.invokevirtual 118, 3) := by decide +kernel
theorem d_L_law_869 : decode b_L_law 869 = .ok (.lcmp, 1) := by decide +kernel
theorem d_L_law_870 : decode b_L_law 870 = .ok (.ifCond .eq 51, 3) := by decide +kernel
theorem d_L_law_873 : decode b_L_law 873 = .ok (.iconst 0, 1) := by decide +kernel
theorem d_L_law_874 : decode b_L_law 874 = .ok (.ireturn, 1) := by decide +kernel
theorem d_L_law_875 : decode b_L_law 875 = .ok (.aload_n 1, 1) := by decide +kernel
theorem d_L_law_876 : decode b_L_law 876 = .ok (.aload_n 0, 1) := by decide +kernel
theorem d_L_law_877 : decode b_L_law 877 = .ok (.iload_n 3, 1) := by decide +kernel
theorem d_L_law_878 : decode b_L_law 878 = .ok (.iconst 1, 1) := by decide +kernel
theorem d_L_law_879 : decode b_L_law 879 = .ok (.iadd, 1) := by decide +kernel
theorem d_L_law_880 : decode b_L_law 880 = .ok (.iaload, 1) := by decide +kernel
theorem d_L_law_881 : decode b_L_law 881 = .ok (.invokevirtual 119, 3) := by decide +kernel
theorem d_L_law_884 : decode b_L_law 884 = .ok (.aload_n 2, 1) := by decide +kernel
theorem d_L_law_885 : decode b_L_law 885 = .ok (.aload_n 0, 1) := by decide +kernel
theorem d_L_law_886 : decode b_L_law 886 = .ok (.iload_n 3, 1) := by decide +kernel
theorem d_L_law_887 : decode b_L_law 887 = .ok (.iconst 1, 1) := by decide +kernel
theorem d_L_law_888 : decode b_L_law 888 = .ok (.iadd, 1) := by decide +kernel
theorem d_L_law_889 : decode b_L_law 889 = .ok (.iaload, 1) := by decide +kernel
theorem d_L_law_890 : decode b_L_law 890 = .ok (.invokevirtual 122, 3) := by decide +kernel
theorem d_L_law_893 : decode b_L_law 893 = .ok (.if_icmp .eq 28, 3) := by decide +kernel
theorem d_L_law_896 : decode b_L_law 896 = .ok (.iconst 0, 1) := by decide +kernel
theorem d_L_law_897 : decode b_L_law 897 = .ok (.ireturn, 1) := by decide +kernel
theorem d_L_law_898 : decode b_L_law 898 = .ok (.aload_n 1, 1) := by decide +kernel
theorem d_L_law_899 : decode b_L_law 899 = .ok (.aload_n 0, 1) := by decide +kernel
theorem d_L_law_900 : decode b_L_law 900 = .ok (.iload_n 3, 1) := by decide +kernel
theorem d_L_law_901 : decode b_L_law 901 = .ok (.iconst 1, 1) := by decide +kernel
theorem d_L_law_902 : decode b_L_law 902 = .ok (.iadd, 1) := by decide +kernel
theorem d_L_law_903 : decode b_L_law 903 = .ok (.iaload, 1) := by decide +kernel
theorem d_L_law_904 : decode b_L_law 904 = .ok (.invokevirtual 123, 3) := by decide +kernel
theorem d_L_law_907 : decode b_L_law 907 = .ok (.aload_n 2, 1) := by decide +kernel
theorem d_L_law_908 : decode b_L_law 908 = .ok (.aload_n 0, 1) := by decide +kernel
theorem d_L_law_909 : decode b_L_law 909 = .ok (.iload_n 3, 1) := by decide +kernel
theorem d_L_law_910 : decode b_L_law 910 = .ok (.iconst 1, 1) := by decide +kernel
theorem d_L_law_911 : decode b_L_law 911 = .ok (.iadd, 1) := by decide +kernel
theorem d_L_law_912 : decode b_L_law 912 = .ok (.iaload, 1) := by decide +kernel
theorem d_L_law_913 : decode b_L_law 913 = .ok (.invokevirtual 126, 3) := by decide +kernel
theorem d_L_law_916 : decode b_L_law 916 = .ok (.if_icmp .eq 5, 3) := by decide +kernel
theorem d_L_law_919 : decode b_L_law 919 = .ok (.iconst 0, 1) := by decide +kernel
theorem d_L_law_920 : decode b_L_law 920 = .ok (.ireturn, 1) := by decide +kernel
theorem d_L_law_921 : decode b_L_law 921 = .ok (.iinc 3 6, 3) := by decide +kernel
theorem d_L_law_924 : decode b_L_law 924 = .ok (.goto (-896), 3) := by decide +kernel
theorem d_L_law_927 : decode b_L_law 927 = .ok (.iconst 1, 1) := by decide +kernel
theorem d_L_law_928 : decode b_L_law 928 = .ok (.ireturn, 1) := by decide +kernel
