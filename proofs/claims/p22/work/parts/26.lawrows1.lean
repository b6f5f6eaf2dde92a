theorem dL_law_178 : decode cL_law 178 = .ok (.irem, 1) := by decide +kernel
theorem dL_law_179 : decode cL_law 179 = .ok (.istore 10, 2) := by decide +kernel
theorem dL_law_181 : decode cL_law 181 = .ok (.iload 10, 2) := by decide +kernel
theorem dL_law_183 : decode cL_law 183 = .ok (.iconst 5, 1) := by decide +kernel
theorem dL_law_184 : decode cL_law 184 = .ok (.if_icmp .ge 49, 3) := by decide +kernel
theorem dL_law_187 : decode cL_law 187 = .ok (.aload_n 1, 1) := by decide +kernel
theorem dL_law_188 : decode cL_law 188 = .ok (.iload 9, 2) := by decide +kernel
theorem dL_law_190 : decode cL_law 190 = .ok (.iconst 4, 1) := by decide +kernel
theorem dL_law_191 : decode cL_law 191 = .ok (.irem, 1) := by decide +kernel
theorem dL_law_192 : decode cL_law 192 = .ok (.iload 9, 2) := by decide +kernel
theorem dL_law_194 : decode cL_law 194 = .ok (.iconst 4, 1) := by decide +kernel
theorem dL_law_195 : decode cL_law 195 = .ok (.idiv, 1) := by decide +kernel
theorem dL_law_196 : decode cL_law 196 = .ok (.bipush 6, 2) := by decide +kernel
theorem dL_law_198 : decode cL_law 198 = .ok (.irem, 1) := by decide +kernel
theorem dL_law_199 : decode cL_law 199 = .ok (.iconst 1, 1) := by decide +kernel
theorem dL_law_200 : decode cL_law 200 = .ok (.iload 9, 2) := by decide +kernel
theorem dL_law_202 : decode cL_law 202 = .ok (.bipush 24, 2) := by decide +kernel
theorem dL_law_204 : decode cL_law 204 = .ok (.idiv, 1) := by decide +kernel
theorem dL_law_205 : decode cL_law 205 = .ok (.bipush 40, 2) := by decide +kernel
theorem dL_law_207 : decode cL_law 207 = .ok (.irem, 1) := by decide +kernel
theorem dL_law_208 : decode cL_law 208 = .ok (.iadd, 1) := by decide +kernel
theorem dL_law_209 : decode cL_law 209 = .ok (.invokestatic 104, 3) := by decide +kernel
theorem dL_law_212 : decode cL_law 212 = .ok (.istore 11, 2) := by decide +kernel
theorem dL_law_214 : decode cL_law 214 = .ok (.iload 11, 2) := by decide +kernel
theorem dL_law_216 : decode cL_law 216 = .ok (.iload_n 3, 1) := by decide +kernel
theorem dL_law_217 : decode cL_law 217 = .ok (.if_icmp .ne 7, 3) := by decide +kernel
theorem dL_law_220 : decode cL_law 220 = .ok (.iconst 1, 1) := by decide +kernel
theorem dL_law_221 : decode cL_law 221 = .ok (.goto 4, 3) := by decide +kernel
theorem dL_law_224 : decode cL_law 224 = .ok (.iconst 0, 1) := by decide +kernel
theorem dL_law_225 : decode cL_law 225 = .ok (.istore 6, 2) := by decide +kernel
theorem dL_law_227 : decode cL_law 227 = .ok (.iinc 3 1, 3) := by decide +kernel
theorem dL_law_230 : decode cL_law 230 = .ok (.goto 365, 3) := by decide +kernel
theorem dL_law_233 : decode cL_law 233 = .ok (.iload 10, 2) := by decide +kernel
theorem dL_law_235 : decode cL_law 235 = .ok (.iconst 5, 1) := by decide +kernel
theorem dL_law_236 : decode cL_law 236 = .ok (.if_icmp .ne 74, 3) := by decide +kernel
theorem dL_law_239 : decode cL_law 239 = .ok (.iload 9, 2) := by decide +kernel
theorem dL_law_241 : decode cL_law 241 = .ok (.bipush 6, 2) := by decide +kernel
theorem dL_law_243 : decode cL_law 243 = .ok (.irem, 1) := by decide +kernel
theorem dL_law_244 : decode cL_law 244 = .ok (.istore 11, 2) := by decide +kernel
theorem dL_law_246 : decode cL_law 246 = .ok (.aload_n 1, 1) := by decide +kernel
theorem dL_law_247 : decode cL_law 247 = .ok (.iload 11, 2) := by decide +kernel
theorem dL_law_249 : decode cL_law 249 = .ok (.iconst 1, 1) := by decide +kernel
theorem dL_law_250 : decode cL_law 250 = .ok (.iload 9, 2) := by decide +kernel
theorem dL_law_252 : decode cL_law 252 = .ok (.bipush 6, 2) := by decide +kernel
theorem dL_law_254 : decode cL_law 254 = .ok (.idiv, 1) := by decide +kernel
theorem dL_law_255 : decode cL_law 255 = .ok (.bipush 10, 2) := by decide +kernel
theorem dL_law_257 : decode cL_law 257 = .ok (.irem, 1) := by decide +kernel
theorem dL_law_258 : decode cL_law 258 = .ok (.iadd, 1) := by decide +kernel
theorem dL_law_259 : decode cL_law 259 = .ok (.iconst 1, 1) := by decide +kernel
theorem dL_law_260 : decode cL_law 260 = .ok (.iload 9, 2) := by decide +kernel
theorem dL_law_262 : decode cL_law 262 = .ok (.bipush 60, 2) := by decide +kernel
theorem dL_law_264 : decode cL_law 264 = .ok (.idiv, 1) := by decide +kernel
theorem dL_law_265 : decode cL_law 265 = .ok (.bipush 10, 2) := by decide +kernel
theorem dL_law_267 : decode cL_law 267 = .ok (.irem, 1) := by decide +kernel
theorem dL_law_268 : decode cL_law 268 = .ok (.iadd, 1) := by decide +kernel
theorem dL_law_269 : decode cL_law 269 = .ok (.iload 9, 2) := by decide +kernel
theorem dL_law_271 : decode cL_law 271 = .ok (.sipush 600, 3) := by decide +kernel
theorem dL_law_274 : decode cL_law 274 = .ok (.idiv, 1) := by decide +kernel
theorem dL_law_275 : decode cL_law 275 = .ok (.bipush 10, 2) := by decide +kernel
theorem dL_law_277 : decode cL_law 277 = .ok (.irem, 1) := by decide +kernel
theorem dL_law_278 : decode cL_law 278 = .ok (.iload 9, 2) := by decide +kernel
theorem dL_law_280 : decode cL_law 280 = .ok (.sipush 6000, 3) := by decide +kernel
theorem dL_law_283 : decode cL_law 283 = .ok (.idiv, 1) := by decide +kernel
theorem dL_law_284 : decode cL_law 284 = .ok (.bipush 64, 2) := by decide +kernel
theorem dL_law_286 : decode cL_law 286 = .ok (.irem, 1) := by decide +kernel
theorem dL_law_287 : decode cL_law 287 = .ok (.iconst 1, 1) := by decide +kernel
theorem dL_law_288 : decode cL_law 288 = .ok (.iload 11, 2) := by decide +kernel
theorem dL_law_290 : decode cL_law 290 = .ok (.ishl, 1) := by decide +kernel
theorem dL_law_291 : decode cL_law 291 = .ok (.iconst (-1), 1) := by decide +kernel
theorem dL_law_292 : decode cL_law 292 = .ok (.ixor, 1) := by decide +kernel
theorem dL_law_293 : decode cL_law 293 = .ok (.iand, 1) := by decide +kernel
theorem dL_law_294 : decode cL_law 294 = .ok (.invokestatic 106, 3) := by decide +kernel
theorem dL_law_297 : decode cL_law 297 = .ok (.ifCond .ne 7, 3) := by decide +kernel
theorem dL_law_300 : decode cL_law 300 = .ok (.iconst 1, 1) := by decide +kernel
theorem dL_law_301 : decode cL_law 301 = .ok (.goto 4, 3) := by decide +kernel
theorem dL_law_304 : decode cL_law 304 = .ok (.iconst 0, 1) := by decide +kernel
theorem dL_law_305 : decode cL_law 305 = .ok (.istore 6, 2) := by decide +kernel
theorem dL_law_307 : decode cL_law 307 = .ok (.goto 288, 3) := by decide +kernel
theorem dL_law_310 : decode cL_law 310 = .ok (.iload 10, 2) := by decide +kernel
theorem dL_law_312 : decode cL_law 312 = .ok (.bipush 6, 2) := by decide +kernel
theorem dL_law_314 : decode cL_law 314 = .ok (.if_icmp .ne 89, 3) := by decide +kernel
theorem dL_law_317 : decode cL_law 317 = .ok (.iload 4, 2) := by decide +kernel
theorem dL_law_319 : decode cL_law 319 = .ok (.iconst 1, 1) := by decide +kernel
theorem dL_law_320 : decode cL_law 320 = .ok (.if_icmp .ne 7, 3) := by decide +kernel
theorem dL_law_323 : decode cL_law 323 = .ok (.iconst (-1), 1) := by decide +kernel
theorem dL_law_324 : decode cL_law 324 = .ok (.goto 10, 3) := by decide +kernel
theorem dL_law_327 : decode cL_law 327 = .ok (.iload 9, 2) := by decide +kernel
theorem dL_law_329 : decode cL_law 329 = .ok (.iload 4, 2) := by decide +kernel
theorem dL_law_331 : decode cL_law 331 = .ok (.irem, 1) := by decide +kernel
theorem dL_law_332 : decode cL_law 332 = .ok (.iconst 1, 1) := by decide +kernel
theorem dL_law_333 : decode cL_law 333 = .ok (.isub, 1) := by decide +kernel
theorem dL_law_334 : decode cL_law 334 = .ok (.istore 11, 2) := by decide +kernel
theorem dL_law_336 : decode cL_law 336 = .ok (.aload_n 1, 1) := by decide +kernel
theorem dL_law_337 : decode cL_law 337 = .ok (.iload 11, 2) := by decide +kernel
theorem dL_law_339 : decode cL_law 339 = .ok (.iconst 1, 1) := by decide +kernel
theorem dL_law_340 : decode cL_law 340 = .ok (.iload 9, 2) := by decide +kernel
theorem dL_law_342 : decode cL_law 342 = .ok (.iconst 4, 1) := by decide +kernel
theorem dL_law_343 : decode cL_law 343 = .ok (.idiv, 1) := by decide +kernel
theorem dL_law_344 : decode cL_law 344 = .ok (.iconst 5, 1) := by decide +kernel
theorem dL_law_345 : decode cL_law 345 = .ok (.irem, 1) := by decide +kernel
