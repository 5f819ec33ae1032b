theorem dc_L_law_0 : decode code 0 = .ok (.new 8, 3) := by decide +kernel
theorem mk_L_8 : am_mk "WebFinderLaw" 8 0 [.null, .null, .null, .null, .null, .null, .null, .null, .null, .null, .null] := ⟨"WebFinder", tt_W, 11, ty_W, rfl, ct_W, (am_t1 31 rfl rfl), (am_t1 32 rfl rfl), (am_t1 1 rfl rfl), rfl, fun _ => rfl, by decide +kernel⟩
theorem dc_L_law_3 : decode code 3 = .ok (.dup, 1) := by decide +kernel
theorem dc_L_law_4 : decode code 4 = .ok (.invokespecial 21, 3) := by decide +kernel
theorem mo_W_init : am_mo mt_W_init 0 := ⟨⟨by decide +kernel, by decide +kernel⟩, by decide +kernel, ⟨by decide +kernel, by decide +kernel⟩, (am_t1 35 rfl rfl), (am_t1 1 rfl rfl), by decide +kernel⟩
theorem im_W_init : Cond.instanceMethod mt_W_init.1 ∈ am_gw := (am_t1 34 rfl rfl)
theorem ln_L_21 : am_ln "WebFinderLaw" 21 mt_W_init.1 := Or.inl (am_t1 33 rfl rfl)
theorem dc_L_law_7 : decode code 7 = .ok (.astore_n 1, 1) := by decide +kernel
theorem dc_L_law_8 : decode code 8 = .ok (.new 22, 3) := by decide +kernel
theorem mk_L_22 : am_mk "WebFinderLaw" 22 12 [.null, .int 0, .int 0, .null, .int 0, .null, .null, .null, .int 0, .null, .int 0, .null, .null, .null, .null, .null, .int 0, .int 0, .int 0, .null, .int 0, .null, .null, .int 0, .null, .null, .int 0, .int 0, .int 0, .int 0, .null, .int 0, .null, .int 0, .int 0, .null, .int 0, .null, .null, .null, .int 0, .null, .null, .null, .int 0, .int 0, .int 0, .int 0, .int 0, .int 0, .int 0, .null, .null, .null, .int 0, .null, .int 0, .null, .null, .null, .int 0, .int 0, .int 0, .null, .int 0, .null, .int 0, .int 0, .int 0, .null, .null, .null, .null, .int 0, .int 0, .int 0, .null, .null, .null, .null, .null, .null, .null, .null, .int 0, .null, .null, .null, .null, .int 0] := ⟨"WebFinderModel", tt_M, 90, ty_M, rfl, ct_M, (am_t7 103 rfl rfl), (am_t7 104 rfl rfl), (am_t1 11 rfl rfl), rfl, fun _ => rfl, by decide +kernel⟩
theorem dc_L_law_11 : decode code 11 = .ok (.dup, 1) := by decide +kernel
theorem dc_L_law_12 : decode code 12 = .ok (.invokespecial 24, 3) := by decide +kernel
theorem mo_M_init : am_mo mt_M_init 0 := ⟨⟨by decide +kernel, by decide +kernel⟩, by decide +kernel, ⟨by decide +kernel, by decide +kernel⟩, (am_t7 107 rfl rfl), (am_t1 11 rfl rfl), by decide +kernel⟩
theorem im_M_init : Cond.instanceMethod mt_M_init.1 ∈ am_gw := (am_t7 106 rfl rfl)
theorem ln_L_24 : am_ln "WebFinderLaw" 24 mt_M_init.1 := Or.inl (am_t7 105 rfl rfl)
theorem dc_L_law_15 : decode code 15 = .ok (.astore_n 2, 1) := by decide +kernel
theorem dc_L_law_16 : decode code 16 = .ok (.iconst 1, 1) := by decide +kernel
theorem dc_L_law_17 : decode code 17 = .ok (.newarray .long, 2) := by decide +kernel
theorem dc_L_law_19 : decode code 19 = .ok (.astore_n 3, 1) := by decide +kernel
theorem dc_L_law_20 : decode code 20 = .ok (.iconst 0, 1) := by decide +kernel
theorem dc_L_law_21 : decode code 21 = .ok (.istore 4, 2) := by decide +kernel
theorem dc_L_law_23 : decode code 23 = .ok (.iload 4, 2) := by decide +kernel
theorem dc_L_law_25 : decode code 25 = .ok (.aload_n 0, 1) := by decide +kernel
theorem dc_L_law_26 : decode code 26 = .ok (.arraylength, 1) := by decide +kernel
theorem dc_L_law_27 : decode code 27 = .ok (.bipush 6, 2) := by decide +kernel
theorem dc_L_law_29 : decode code 29 = .ok (.isub, 1) := by decide +kernel
theorem dc_L_law_30 : decode code 30 = .ok (.if_icmp .gt 849, 3) := by decide +kernel
theorem dc_L_law_33 : decode code 33 = .ok (.aload_n 0, 1) := by decide +kernel
theorem dc_L_law_34 : decode code 34 = .ok (.iload 4, 2) := by decide +kernel
theorem dc_L_law_36 : decode code 36 = .ok (.iaload, 1) := by decide +kernel
theorem dc_L_law_37 : decode code 37 = .ok (.bipush 31, 2) := by decide +kernel
theorem dc_L_law_39 : decode code 39 = .ok (.iand, 1) := by decide +kernel
theorem dc_L_law_40 : decode code 40 = .ok (.tableswitch 833 0 27 #[128, 212, 268, 281, 306, 319, 332, 345, 370, 407, 420, 431, 444, 457, 482, 495, 508, 533, 570, 607, 632, 657, 694, 719, 744, 769, 795, 808], 128) := by decide +kernel
theorem dc_L_law_168 : decode code 168 = .ok (.aload_n 1, 1) := by decide +kernel
theorem dc_L_law_169 : decode code 169 = .ok (.aload_n 0, 1) := by decide +kernel
theorem dc_L_law_170 : decode code 170 = .ok (.iload 4, 2) := by decide +kernel
theorem dc_L_law_172 : decode code 172 = .ok (.iconst 1, 1) := by decide +kernel
theorem dc_L_law_173 : decode code 173 = .ok (.iadd, 1) := by decide +kernel
theorem dc_L_law_174 : decode code 174 = .ok (.iaload, 1) := by decide +kernel
theorem dc_L_law_175 : decode code 175 = .ok (.aload_n 0, 1) := by decide +kernel
theorem dc_L_law_176 : decode code 176 = .ok (.iload 4, 2) := by decide +kernel
theorem dc_L_law_178 : decode code 178 = .ok (.iconst 2, 1) := by decide +kernel
theorem dc_L_law_179 : decode code 179 = .ok (.iadd, 1) := by decide +kernel
theorem dc_L_law_180 : decode code 180 = .ok (.iaload, 1) := by decide +kernel
theorem dc_L_law_181 : decode code 181 = .ok (.aload_n 0, 1) := by decide +kernel
theorem dc_L_law_182 : decode code 182 = .ok (.iload 4, 2) := by decide +kernel
theorem dc_L_law_184 : decode code 184 = .ok (.iconst 3, 1) := by decide +kernel
theorem dc_L_law_185 : decode code 185 = .ok (.iadd, 1) := by decide +kernel
theorem dc_L_law_186 : decode code 186 = .ok (.iaload, 1) := by decide +kernel
theorem dc_L_law_187 : decode code 187 = .ok (.aload_n 0, 1) := by decide +kernel
theorem dc_L_law_188 : decode code 188 = .ok (.iload 4, 2) := by decide +kernel
theorem dc_L_law_190 : decode code 190 = .ok (.iconst 4, 1) := by decide +kernel
theorem dc_L_law_191 : decode code 191 = .ok (.iadd, 1) := by decide +kernel
theorem dc_L_law_192 : decode code 192 = .ok (.iaload, 1) := by decide +kernel
theorem dc_L_law_193 : decode code 193 = .ok (.aload_n 0, 1) := by decide +kernel
theorem dc_L_law_194 : decode code 194 = .ok (.iload 4, 2) := by decide +kernel
theorem dc_L_law_196 : decode code 196 = .ok (.iconst 5, 1) := by decide +kernel
theorem dc_L_law_197 : decode code 197 = .ok (.iadd, 1) := by decide +kernel
theorem dc_L_law_198 : decode code 198 = .ok (.iaload, 1) := by decide +kernel
theorem dc_L_law_199 : decode code 199 = .ok (.invokestatic 25, 3) := by decide +kernel
theorem mo_L_feed : am_moW mt_L_feed [(0, 11, 14, 13)] 6 := ⟨⟨by decide +kernel, by decide +kernel⟩, by decide +kernel, ⟨by decide +kernel, by decide +kernel⟩, (am_t7 55 rfl rfl), (am_t1 0 rfl rfl), by decide +kernel⟩
theorem st_L_feed : Cond.static mt_L_feed.1 ∈ am_gw := (am_t7 54 rfl rfl)
theorem ln_L_25 : am_ln "WebFinderLaw" 25 mt_L_feed.1 := Or.inl (am_t7 53 rfl rfl)
theorem dc_L_law_202 : decode code 202 = .ok (.istore 5, 2) := by decide +kernel
theorem dc_L_law_204 : decode code 204 = .ok (.aload_n 2, 1) := by decide +kernel
theorem dc_L_law_205 : decode code 205 = .ok (.aload_n 0, 1) := by decide +kernel
theorem dc_L_law_206 : decode code 206 = .ok (.iload 4, 2) := by decide +kernel
theorem dc_L_law_208 : decode code 208 = .ok (.iconst 1, 1) := by decide +kernel
theorem dc_L_law_209 : decode code 209 = .ok (.iadd, 1) := by decide +kernel
theorem dc_L_law_210 : decode code 210 = .ok (.iaload, 1) := by decide +kernel
theorem dc_L_law_211 : decode code 211 = .ok (.aload_n 0, 1) := by decide +kernel
theorem dc_L_law_212 : decode code 212 = .ok (.iload 4, 2) := by decide +kernel
theorem dc_L_law_214 : decode code 214 = .ok (.iconst 2, 1) := by decide +kernel
theorem dc_L_law_215 : decode code 215 = .ok (.iadd, 1) := by decide +kernel
theorem dc_L_law_216 : decode code 216 = .ok (.iaload, 1) := by decide +kernel
theorem dc_L_law_217 : decode code 217 = .ok (.aload_n 0, 1) := by decide +kernel
theorem dc_L_law_218 : decode code 218 = .ok (.iload 4, 2) := by decide +kernel
theorem dc_L_law_220 : decode code 220 = .ok (.iconst 3, 1) := by decide +kernel
theorem dc_L_law_221 : decode code 221 = .ok (.iadd, 1) := by decide +kernel
theorem dc_L_law_222 : decode code 222 = .ok (.iaload, 1) := by decide +kernel
theorem dc_L_law_223 : decode code 223 = .ok (.aload_n 0, 1) := by decide +kernel
theorem dc_L_law_224 : decode code 224 = .ok (.iload 4, 2) := by decide +kernel
theorem dc_L_law_226 : decode code 226 = .ok (.iconst 4, 1) := by decide +kernel
theorem dc_L_law_227 : decode code 227 = .ok (.iadd, 1) := by decide +kernel
theorem dc_L_law_228 : decode code 228 = .ok (.iaload, 1) := by decide +kernel
theorem dc_L_law_229 : decode code 229 = .ok (.aload_n 0, 1) := by decide +kernel
theorem dc_L_law_230 : decode code 230 = .ok (.iload 4, 2) := by decide +kernel
theorem dc_L_law_232 : decode code 232 = .ok (.iconst 5, 1) := by decide +kernel
theorem dc_L_law_233 : decode code 233 = .ok (.iadd, 1) := by decide +kernel
theorem dc_L_law_234 : decode code 234 = .ok (.iaload, 1) := by decide +kernel
theorem dc_L_law_235 : decode code 235 = .ok (.invokevirtual 30, 3) := by decide +kernel
theorem mo_M_feed : am_mo mt_M_feed 5 := ⟨⟨by decide +kernel, by decide +kernel⟩, by decide +kernel, ⟨by decide +kernel, by decide +kernel⟩, (am_t8 146 rfl rfl), (am_t1 11 rfl rfl), by decide +kernel⟩
theorem im_M_feed : Cond.instanceMethod mt_M_feed.1 ∈ am_gw := (am_t8 144 rfl rfl)
theorem se_M_feed : Cond.selects mt_M_feed.1.cls mt_M_feed.1 mt_M_feed.1 ∈ am_gw := (am_t8 145 rfl rfl)
theorem ln_L_30 : am_ln "WebFinderLaw" 30 mt_M_feed.1 := Or.inl (am_t8 143 rfl rfl)
theorem dc_L_law_238 : decode code 238 = .ok (.aload_n 2, 1) := by decide +kernel
theorem dc_L_law_239 : decode code 239 = .ok (.invokevirtual 31, 3) := by decide +kernel
theorem mo_M_thrown : am_mo mt_M_thrown 0 := ⟨⟨by decide +kernel, by decide +kernel⟩, by decide +kernel, ⟨by decide +kernel, by decide +kernel⟩, (am_t7 102 rfl rfl), (am_t1 11 rfl rfl), by decide +kernel⟩
theorem im_M_thrown : Cond.instanceMethod mt_M_thrown.1 ∈ am_gw := (am_t7 100 rfl rfl)
theorem se_M_thrown : Cond.selects mt_M_thrown.1.cls mt_M_thrown.1 mt_M_thrown.1 ∈ am_gw := (am_t7 101 rfl rfl)
theorem ln_L_31 : am_ln "WebFinderLaw" 31 mt_M_thrown.1 := Or.inl (am_t7 99 rfl rfl)
theorem dc_L_law_242 : decode code 242 = .ok (.iload 5, 2) := by decide +kernel
theorem dc_L_law_244 : decode code 244 = .ok (.if_icmp .eq 5, 3) := by decide +kernel
theorem dc_L_law_247 : decode code 247 = .ok (.iconst 0, 1) := by decide +kernel
theorem dc_L_law_248 : decode code 248 = .ok (.ireturn, 1) := by decide +kernel
theorem dc_L_law_249 : decode code 249 = .ok (.goto 624, 3) := by decide +kernel
theorem dc_L_law_252 : decode code 252 = .ok (.aload_n 1, 1) := by decide +kernel
theorem dc_L_law_253 : decode code 253 = .ok (.aload_n 0, 1) := by decide +kernel
theorem dc_L_law_254 : decode code 254 = .ok (.iload 4, 2) := by decide +kernel
theorem dc_L_law_256 : decode code 256 = .ok (.iconst 1, 1) := by decide +kernel
theorem dc_L_law_257 : decode code 257 = .ok (.iadd, 1) := by decide +kernel
theorem dc_L_law_258 : decode code 258 = .ok (.iaload, 1) := by decide +kernel
theorem dc_L_law_259 : decode code 259 = .ok (.aload_n 3, 1) := by decide +kernel
theorem dc_L_law_260 : decode code 260 = .ok (.invokestatic 35, 3) := by decide +kernel
theorem mo_L_end : am_moW mt_L_end [(0, 9, 12, 19)] 3 := ⟨⟨by decide +kernel, by decide +kernel⟩, by decide +kernel, ⟨by decide +kernel, by decide +kernel⟩, (am_t7 88 rfl rfl), (am_t1 0 rfl rfl), by decide +kernel⟩
theorem st_L_end : Cond.static mt_L_end.1 ∈ am_gw := (am_t7 87 rfl rfl)
theorem ln_L_35 : am_ln "WebFinderLaw" 35 mt_L_end.1 := Or.inl (am_t7 86 rfl rfl)
theorem dc_L_law_263 : decode code 263 = .ok (.istore 5, 2) := by decide +kernel
theorem dc_L_law_265 : decode code 265 = .ok (.aload_n 2, 1) := by decide +kernel
theorem dc_L_law_266 : decode code 266 = .ok (.aload_n 0, 1) := by decide +kernel
theorem dc_L_law_267 : decode code 267 = .ok (.iload 4, 2) := by decide +kernel
theorem dc_L_law_269 : decode code 269 = .ok (.iconst 1, 1) := by decide +kernel
theorem dc_L_law_270 : decode code 270 = .ok (.iadd, 1) := by decide +kernel
theorem dc_L_law_271 : decode code 271 = .ok (.iaload, 1) := by decide +kernel
theorem dc_L_law_272 : decode code 272 = .ok (.invokevirtual 38, 3) := by decide +kernel
theorem mo_M_end : am_mo mt_M_end 1 := ⟨⟨by decide +kernel, by decide +kernel⟩, by decide +kernel, ⟨by decide +kernel, by decide +kernel⟩, (am_t8 154 rfl rfl), (am_t1 11 rfl rfl), by decide +kernel⟩
theorem im_M_end : Cond.instanceMethod mt_M_end.1 ∈ am_gw := (am_t8 152 rfl rfl)
theorem se_M_end : Cond.selects mt_M_end.1.cls mt_M_end.1 mt_M_end.1 ∈ am_gw := (am_t8 153 rfl rfl)
theorem ln_L_38 : am_ln "WebFinderLaw" 38 mt_M_end.1 := Or.inl (am_t8 151 rfl rfl)
theorem dc_L_law_275 : decode code 275 = .ok (.istore 6, 2) := by decide +kernel
theorem dc_L_law_277 : decode code 277 = .ok (.aload_n 2, 1) := by decide +kernel
theorem dc_L_law_278 : decode code 278 = .ok (.invokevirtual 31, 3) := by decide +kernel
theorem dc_L_law_281 : decode code 281 = .ok (.iload 5, 2) := by decide +kernel
theorem dc_L_law_283 : decode code 283 = .ok (.if_icmp .eq 5, 3) := by decide +kernel
theorem dc_L_law_286 : decode code 286 = .ok (.iconst 0, 1) := by decide +kernel
theorem dc_L_law_287 : decode code 287 = .ok (.ireturn, 1) := by decide +kernel
theorem dc_L_law_288 : decode code 288 = .ok (.iload 5, 2) := by decide +kernel
theorem dc_L_law_290 : decode code 290 = .ok (.ifCond .ne 15, 3) := by decide +kernel
theorem dc_L_law_293 : decode code 293 = .ok (.aload_n 3, 1) := by decide +kernel
theorem dc_L_law_294 : decode code 294 = .ok (.iconst 0, 1) := by decide +kernel
theorem dc_L_law_295 : decode code 295 = .ok (.laload, 1) := by decide +kernel
theorem dc_L_law_296 : decode code 296 = .ok (.iload 6, 2) := by decide +kernel
theorem dc_L_law_298 : decode code 298 = .ok (.i2l, 1) := by decide +kernel
theorem dc_L_law_299 : decode code 299 = .ok (.lcmp, 1) := by decide +kernel
theorem dc_L_law_300 : decode code 300 = .ok (.ifCond .eq 5, 3) := by decide +kernel
theorem dc_L_law_303 : decode code 303 = .ok (.iconst 0, 1) := by decide +kernel
theorem dc_L_law_304 : decode code 304 = .ok (.ireturn, 1) := by decide +kernel
theorem dc_L_law_305 : decode code 305 = .ok (.goto 568, 3) := by decide +kernel
theorem dc_L_law_308 : decode code 308 = .ok (.aload_n 1, 1) := by decide +kernel
theorem dc_L_law_309 : decode code 309 = .ok (.invokevirtual 39, 3) := by decide +kernel
theorem mo_W_read : am_mo mt_W_read 0 := ⟨⟨by decide +kernel, by decide +kernel⟩, by decide +kernel, ⟨by decide +kernel, by decide +kernel⟩, (am_t2 184 rfl rfl), (am_t1 1 rfl rfl), by decide +kernel⟩
theorem im_W_read : Cond.instanceMethod mt_W_read.1 ∈ am_gw := (am_t2 182 rfl rfl)
theorem se_W_read : Cond.selects mt_W_read.1.cls mt_W_read.1 mt_W_read.1 ∈ am_gw := (am_t2 183 rfl rfl)
theorem ln_L_39 : am_ln "WebFinderLaw" 39 mt_W_read.1 := Or.inl (am_t2 181 rfl rfl)
theorem dc_L_law_312 : decode code 312 = .ok (.aload_n 2, 1) := by decide +kernel
theorem dc_L_law_313 : decode code 313 = .ok (.invokevirtual 42, 3) := by decide +kernel
theorem mo_M_read : am_mo mt_M_read 0 := ⟨⟨by decide +kernel, by decide +kernel⟩, by decide +kernel, ⟨by decide +kernel, by decide +kernel⟩, (am_t8 158 rfl rfl), (am_t1 11 rfl rfl), by decide +kernel⟩
theorem im_M_read : Cond.instanceMethod mt_M_read.1 ∈ am_gw := (am_t8 156 rfl rfl)
theorem se_M_read : Cond.selects mt_M_read.1.cls mt_M_read.1 mt_M_read.1 ∈ am_gw := (am_t8 157 rfl rfl)
theorem ln_L_42 : am_ln "WebFinderLaw" 42 mt_M_read.1 := Or.inl (am_t8 155 rfl rfl)
theorem dc_L_law_316 : decode code 316 = .ok (.if_icmp .eq 557, 3) := by decide +kernel
theorem dc_L_law_319 : decode code 319 = .ok (.iconst 0, 1) := by decide +kernel
theorem dc_L_law_320 : decode code 320 = .ok (.ireturn, 1) := by decide +kernel
theorem dc_L_law_321 : decode code 321 = .ok (.aload_n 1, 1) := by decide +kernel
theorem dc_L_law_322 : decode code 322 = .ok (.aload_n 0, 1) := by decide +kernel
theorem dc_L_law_323 : decode code 323 = .ok (.iload 4, 2) := by decide +kernel
theorem dc_L_law_325 : decode code 325 = .ok (.iconst 1, 1) := by decide +kernel
theorem dc_L_law_326 : decode code 326 = .ok (.iadd, 1) := by decide +kernel
theorem dc_L_law_327 : decode code 327 = .ok (.iaload, 1) := by decide +kernel
theorem dc_L_law_328 : decode code 328 = .ok (.invokevirtual 43, 3) := by decide +kernel
theorem mo_W_page : am_mo mt_W_page 1 := ⟨⟨by decide +kernel, by decide +kernel⟩, by decide +kernel, ⟨by decide +kernel, by decide +kernel⟩, (am_t3 204 rfl rfl), (am_t1 1 rfl rfl), by decide +kernel⟩
theorem im_W_page : Cond.instanceMethod mt_W_page.1 ∈ am_gw := (am_t3 202 rfl rfl)
theorem se_W_page : Cond.selects mt_W_page.1.cls mt_W_page.1 mt_W_page.1 ∈ am_gw := (am_t3 203 rfl rfl)
theorem ln_L_43 : am_ln "WebFinderLaw" 43 mt_W_page.1 := Or.inl (am_t3 201 rfl rfl)
theorem dc_L_law_331 : decode code 331 = .ok (.aload_n 2, 1) := by decide +kernel
theorem dc_L_law_332 : decode code 332 = .ok (.aload_n 0, 1) := by decide +kernel
theorem dc_L_law_333 : decode code 333 = .ok (.iload 4, 2) := by decide +kernel
theorem dc_L_law_335 : decode code 335 = .ok (.iconst 1, 1) := by decide +kernel
theorem dc_L_law_336 : decode code 336 = .ok (.iadd, 1) := by decide +kernel
theorem dc_L_law_337 : decode code 337 = .ok (.iaload, 1) := by decide +kernel
theorem dc_L_law_338 : decode code 338 = .ok (.invokevirtual 46, 3) := by decide +kernel
theorem mo_M_page : am_mo mt_M_page 1 := ⟨⟨by decide +kernel, by decide +kernel⟩, by decide +kernel, ⟨by decide +kernel, by decide +kernel⟩, (am_t9 23 rfl rfl), (am_t1 11 rfl rfl), by decide +kernel⟩
theorem im_M_page : Cond.instanceMethod mt_M_page.1 ∈ am_gw := (am_t9 21 rfl rfl)
theorem se_M_page : Cond.selects mt_M_page.1.cls mt_M_page.1 mt_M_page.1 ∈ am_gw := (am_t9 22 rfl rfl)
theorem ln_L_46 : am_ln "WebFinderLaw" 46 mt_M_page.1 := Or.inl (am_t9 20 rfl rfl)
theorem dc_L_law_341 : decode code 341 = .ok (.if_icmp .eq 532, 3) := by decide +kernel
theorem dc_L_law_344 : decode code 344 = .ok (.iconst 0, 1) := by decide +kernel
theorem dc_L_law_345 : decode code 345 = .ok (.ireturn, 1) := by decide +kernel
theorem dc_L_law_346 : decode code 346 = .ok (.aload_n 1, 1) := by decide +kernel
theorem dc_L_law_347 : decode code 347 = .ok (.invokevirtual 47, 3) := by decide +kernel
theorem mo_W_drop : am_mo mt_W_drop 0 := ⟨⟨by decide +kernel, by decide +kernel⟩, by decide +kernel, ⟨by decide +kernel, by decide +kernel⟩, (am_t5 18 rfl rfl), (am_t1 1 rfl rfl), by decide +kernel⟩
theorem im_W_drop : Cond.instanceMethod mt_W_drop.1 ∈ am_gw := (am_t5 16 rfl rfl)
theorem se_W_drop : Cond.selects mt_W_drop.1.cls mt_W_drop.1 mt_W_drop.1 ∈ am_gw := (am_t5 17 rfl rfl)
theorem ln_L_47 : am_ln "WebFinderLaw" 47 mt_W_drop.1 := Or.inl (am_t5 15 rfl rfl)
theorem dc_L_law_350 : decode code 350 = .ok (.aload_n 2, 1) := by decide +kernel
theorem dc_L_law_351 : decode code 351 = .ok (.invokevirtual 51, 3) := by decide +kernel
theorem mo_M_drop : am_mo mt_M_drop 0 := ⟨⟨by decide +kernel, by decide +kernel⟩, by decide +kernel, ⟨by decide +kernel, by decide +kernel⟩, (am_t9 35 rfl rfl), (am_t1 11 rfl rfl), by decide +kernel⟩
theorem im_M_drop : Cond.instanceMethod mt_M_drop.1 ∈ am_gw := (am_t9 33 rfl rfl)
theorem se_M_drop : Cond.selects mt_M_drop.1.cls mt_M_drop.1 mt_M_drop.1 ∈ am_gw := (am_t9 34 rfl rfl)
theorem ln_L_51 : am_ln "WebFinderLaw" 51 mt_M_drop.1 := Or.inl (am_t9 32 rfl rfl)
theorem dc_L_law_354 : decode code 354 = .ok (.if_icmp .eq 519, 3) := by decide +kernel
theorem dc_L_law_357 : decode code 357 = .ok (.iconst 0, 1) := by decide +kernel
theorem dc_L_law_358 : decode code 358 = .ok (.ireturn, 1) := by decide +kernel
theorem dc_L_law_359 : decode code 359 = .ok (.aload_n 1, 1) := by decide +kernel
theorem dc_L_law_360 : decode code 360 = .ok (.invokevirtual 52, 3) := by decide +kernel
theorem mo_W_rules : am_mo mt_W_rules 0 := ⟨⟨by decide +kernel, by decide +kernel⟩, by decide +kernel, ⟨by decide +kernel, by decide +kernel⟩, (am_t5 30 rfl rfl), (am_t1 1 rfl rfl), by decide +kernel⟩
theorem im_W_rules : Cond.instanceMethod mt_W_rules.1 ∈ am_gw := (am_t5 28 rfl rfl)
theorem se_W_rules : Cond.selects mt_W_rules.1.cls mt_W_rules.1 mt_W_rules.1 ∈ am_gw := (am_t5 29 rfl rfl)
theorem ln_L_52 : am_ln "WebFinderLaw" 52 mt_W_rules.1 := Or.inl (am_t5 27 rfl rfl)
theorem dc_L_law_363 : decode code 363 = .ok (.aload_n 2, 1) := by decide +kernel
theorem dc_L_law_364 : decode code 364 = .ok (.invokevirtual 55, 3) := by decide +kernel
theorem mo_M_rules : am_mo mt_M_rules 0 := ⟨⟨by decide +kernel, by decide +kernel⟩, by decide +kernel, ⟨by decide +kernel, by decide +kernel⟩, (am_t9 39 rfl rfl), (am_t1 11 rfl rfl), by decide +kernel⟩
theorem im_M_rules : Cond.instanceMethod mt_M_rules.1 ∈ am_gw := (am_t9 37 rfl rfl)
theorem se_M_rules : Cond.selects mt_M_rules.1.cls mt_M_rules.1 mt_M_rules.1 ∈ am_gw := (am_t9 38 rfl rfl)
theorem ln_L_55 : am_ln "WebFinderLaw" 55 mt_M_rules.1 := Or.inl (am_t9 36 rfl rfl)
theorem dc_L_law_367 : decode code 367 = .ok (.if_icmp .eq 506, 3) := by decide +kernel
theorem dc_L_law_370 : decode code 370 = .ok (.iconst 0, 1) := by decide +kernel
theorem dc_L_law_371 : decode code 371 = .ok (.ireturn, 1) := by decide +kernel
theorem dc_L_law_372 : decode code 372 = .ok (.aload_n 1, 1) := by decide +kernel
theorem dc_L_law_373 : decode code 373 = .ok (.invokevirtual 56, 3) := by decide +kernel
theorem mo_W_allowed : am_mo mt_W_allowed 0 := ⟨⟨by decide +kernel, by decide +kernel⟩, by decide +kernel, ⟨by decide +kernel, by decide +kernel⟩, (am_t5 113 rfl rfl), (am_t1 1 rfl rfl), by decide +kernel⟩
theorem im_W_allowed : Cond.instanceMethod mt_W_allowed.1 ∈ am_gw := (am_t5 111 rfl rfl)
theorem se_W_allowed : Cond.selects mt_W_allowed.1.cls mt_W_allowed.1 mt_W_allowed.1 ∈ am_gw := (am_t5 112 rfl rfl)
theorem ln_L_56 : am_ln "WebFinderLaw" 56 mt_W_allowed.1 := Or.inl (am_t5 110 rfl rfl)
theorem dc_L_law_376 : decode code 376 = .ok (.aload_n 2, 1) := by decide +kernel
theorem dc_L_law_377 : decode code 377 = .ok (.invokevirtual 59, 3) := by decide +kernel
theorem mo_M_allowed : am_mo mt_M_allowed 0 := ⟨⟨by decide +kernel, by decide +kernel⟩, by decide +kernel, ⟨by decide +kernel, by decide +kernel⟩, (am_t9 75 rfl rfl), (am_t1 11 rfl rfl), by decide +kernel⟩
theorem im_M_allowed : Cond.instanceMethod mt_M_allowed.1 ∈ am_gw := (am_t9 73 rfl rfl)
theorem se_M_allowed : Cond.selects mt_M_allowed.1.cls mt_M_allowed.1 mt_M_allowed.1 ∈ am_gw := (am_t9 74 rfl rfl)
theorem ln_L_59 : am_ln "WebFinderLaw" 59 mt_M_allowed.1 := Or.inl (am_t9 72 rfl rfl)
theorem dc_L_law_380 : decode code 380 = .ok (.if_icmp .eq 493, 3) := by decide +kernel
theorem dc_L_law_383 : decode code 383 = .ok (.iconst 0, 1) := by decide +kernel
theorem dc_L_law_384 : decode code 384 = .ok (.ireturn, 1) := by decide +kernel
theorem dc_L_law_385 : decode code 385 = .ok (.aload_n 1, 1) := by decide +kernel
theorem dc_L_law_386 : decode code 386 = .ok (.aload_n 0, 1) := by decide +kernel
theorem dc_L_law_387 : decode code 387 = .ok (.iload 4, 2) := by decide +kernel
theorem dc_L_law_389 : decode code 389 = .ok (.iconst 1, 1) := by decide +kernel
theorem dc_L_law_390 : decode code 390 = .ok (.iadd, 1) := by decide +kernel
theorem dc_L_law_391 : decode code 391 = .ok (.iaload, 1) := by decide +kernel
theorem dc_L_law_392 : decode code 392 = .ok (.invokevirtual 60, 3) := by decide +kernel
theorem mo_W_look : am_mo mt_W_look 1 := ⟨⟨by decide +kernel, by decide +kernel⟩, by decide +kernel, ⟨by decide +kernel, by decide +kernel⟩, (am_t5 144 rfl rfl), (am_t1 1 rfl rfl), by decide +kernel⟩
theorem im_W_look : Cond.instanceMethod mt_W_look.1 ∈ am_gw := (am_t5 142 rfl rfl)
theorem se_W_look : Cond.selects mt_W_look.1.cls mt_W_look.1 mt_W_look.1 ∈ am_gw := (am_t5 143 rfl rfl)
theorem ln_L_60 : am_ln "WebFinderLaw" 60 mt_W_look.1 := Or.inl (am_t5 141 rfl rfl)
theorem dc_L_law_395 : decode code 395 = .ok (.aload_n 2, 1) := by decide +kernel
theorem dc_L_law_396 : decode code 396 = .ok (.aload_n 0, 1) := by decide +kernel
theorem dc_L_law_397 : decode code 397 = .ok (.iload 4, 2) := by decide +kernel
theorem dc_L_law_399 : decode code 399 = .ok (.iconst 1, 1) := by decide +kernel
theorem dc_L_law_400 : decode code 400 = .ok (.iadd, 1) := by decide +kernel
theorem dc_L_law_401 : decode code 401 = .ok (.iaload, 1) := by decide +kernel
theorem dc_L_law_402 : decode code 402 = .ok (.invokevirtual 63, 3) := by decide +kernel
theorem mo_M_look : am_mo mt_M_look 1 := ⟨⟨by decide +kernel, by decide +kernel⟩, by decide +kernel, ⟨by decide +kernel, by decide +kernel⟩, (am_t9 79 rfl rfl), (am_t1 11 rfl rfl), by decide +kernel⟩
theorem im_M_look : Cond.instanceMethod mt_M_look.1 ∈ am_gw := (am_t9 77 rfl rfl)
theorem se_M_look : Cond.selects mt_M_look.1.cls mt_M_look.1 mt_M_look.1 ∈ am_gw := (am_t9 78 rfl rfl)
theorem ln_L_63 : am_ln "WebFinderLaw" 63 mt_M_look.1 := Or.inl (am_t9 76 rfl rfl)
theorem dc_L_law_405 : decode code 405 = .ok (.if_icmp .eq 468, 3) := by decide +kernel
theorem dc_L_law_408 : decode code 408 = .ok (.iconst 0, 1) := by decide +kernel
theorem dc_L_law_409 : decode code 409 = .ok (.ireturn, 1) := by decide +kernel
theorem dc_L_law_410 : decode code 410 = .ok (.aload_n 1, 1) := by decide +kernel
theorem dc_L_law_411 : decode code 411 = .ok (.aload_n 0, 1) := by decide +kernel
theorem dc_L_law_412 : decode code 412 = .ok (.iload 4, 2) := by decide +kernel
theorem dc_L_law_414 : decode code 414 = .ok (.iconst 1, 1) := by decide +kernel
theorem dc_L_law_415 : decode code 415 = .ok (.iadd, 1) := by decide +kernel
theorem dc_L_law_416 : decode code 416 = .ok (.iaload, 1) := by decide +kernel
theorem dc_L_law_417 : decode code 417 = .ok (.aload_n 0, 1) := by decide +kernel
theorem dc_L_law_418 : decode code 418 = .ok (.iload 4, 2) := by decide +kernel
theorem dc_L_law_420 : decode code 420 = .ok (.iconst 2, 1) := by decide +kernel
theorem dc_L_law_421 : decode code 421 = .ok (.iadd, 1) := by decide +kernel
theorem dc_L_law_422 : decode code 422 = .ok (.iaload, 1) := by decide +kernel
theorem dc_L_law_423 : decode code 423 = .ok (.invokevirtual 64, 3) := by decide +kernel
theorem mo_W_set : am_mo mt_W_set 2 := ⟨⟨by decide +kernel, by decide +kernel⟩, by decide +kernel, ⟨by decide +kernel, by decide +kernel⟩, (am_t6 39 rfl rfl), (am_t1 1 rfl rfl), by decide +kernel⟩
theorem im_W_set : Cond.instanceMethod mt_W_set.1 ∈ am_gw := (am_t6 37 rfl rfl)
theorem se_W_set : Cond.selects mt_W_set.1.cls mt_W_set.1 mt_W_set.1 ∈ am_gw := (am_t6 38 rfl rfl)
theorem ln_L_64 : am_ln "WebFinderLaw" 64 mt_W_set.1 := Or.inl (am_t6 36 rfl rfl)
theorem dc_L_law_426 : decode code 426 = .ok (.aload_n 2, 1) := by decide +kernel
theorem dc_L_law_427 : decode code 427 = .ok (.aload_n 0, 1) := by decide +kernel
theorem dc_L_law_428 : decode code 428 = .ok (.iload 4, 2) := by decide +kernel
theorem dc_L_law_430 : decode code 430 = .ok (.iconst 1, 1) := by decide +kernel
theorem dc_L_law_431 : decode code 431 = .ok (.iadd, 1) := by decide +kernel
theorem dc_L_law_432 : decode code 432 = .ok (.iaload, 1) := by decide +kernel
theorem dc_L_law_433 : decode code 433 = .ok (.aload_n 0, 1) := by decide +kernel
theorem dc_L_law_434 : decode code 434 = .ok (.iload 4, 2) := by decide +kernel
theorem dc_L_law_436 : decode code 436 = .ok (.iconst 2, 1) := by decide +kernel
theorem dc_L_law_437 : decode code 437 = .ok (.iadd, 1) := by decide +kernel
theorem dc_L_law_438 : decode code 438 = .ok (.iaload, 1) := by decide +kernel
theorem dc_L_law_439 : decode code 439 = .ok (.invokevirtual 68, 3) := by decide +kernel
theorem mo_M_set : am_mo mt_M_set 2 := ⟨⟨by decide +kernel, by decide +kernel⟩, by decide +kernel, ⟨by decide +kernel, by decide +kernel⟩, (am_t9 137 rfl rfl), (am_t1 11 rfl rfl), by decide +kernel⟩
theorem im_M_set : Cond.instanceMethod mt_M_set.1 ∈ am_gw := (am_t9 135 rfl rfl)
theorem se_M_set : Cond.selects mt_M_set.1.cls mt_M_set.1 mt_M_set.1 ∈ am_gw := (am_t9 136 rfl rfl)
theorem ln_L_68 : am_ln "WebFinderLaw" 68 mt_M_set.1 := Or.inl (am_t9 134 rfl rfl)
theorem dc_L_law_442 : decode code 442 = .ok (.if_icmp .eq 431, 3) := by decide +kernel
theorem dc_L_law_445 : decode code 445 = .ok (.iconst 0, 1) := by decide +kernel
theorem dc_L_law_446 : decode code 446 = .ok (.ireturn, 1) := by decide +kernel
theorem dc_L_law_447 : decode code 447 = .ok (.aload_n 1, 1) := by decide +kernel
theorem dc_L_law_448 : decode code 448 = .ok (.invokevirtual 69, 3) := by decide +kernel
theorem mo_W_seed : am_mo mt_W_seed 0 := ⟨⟨by decide +kernel, by decide +kernel⟩, by decide +kernel, ⟨by decide +kernel, by decide +kernel⟩, (am_t6 47 rfl rfl), (am_t1 1 rfl rfl), by decide +kernel⟩
theorem im_W_seed : Cond.instanceMethod mt_W_seed.1 ∈ am_gw := (am_t6 45 rfl rfl)
theorem se_W_seed : Cond.selects mt_W_seed.1.cls mt_W_seed.1 mt_W_seed.1 ∈ am_gw := (am_t6 46 rfl rfl)
theorem ln_L_69 : am_ln "WebFinderLaw" 69 mt_W_seed.1 := Or.inl (am_t6 44 rfl rfl)
theorem dc_L_law_451 : decode code 451 = .ok (.aload_n 2, 1) := by decide +kernel
theorem dc_L_law_452 : decode code 452 = .ok (.invokevirtual 72, 3) := by decide +kernel
theorem mo_M_seed : am_mo mt_M_seed 0 := ⟨⟨by decide +kernel, by decide +kernel⟩, by decide +kernel, ⟨by decide +kernel, by decide +kernel⟩, (am_t9 141 rfl rfl), (am_t1 11 rfl rfl), by decide +kernel⟩
theorem im_M_seed : Cond.instanceMethod mt_M_seed.1 ∈ am_gw := (am_t9 139 rfl rfl)
theorem se_M_seed : Cond.selects mt_M_seed.1.cls mt_M_seed.1 mt_M_seed.1 ∈ am_gw := (am_t9 140 rfl rfl)
theorem ln_L_72 : am_ln "WebFinderLaw" 72 mt_M_seed.1 := Or.inl (am_t9 138 rfl rfl)
theorem dc_L_law_455 : decode code 455 = .ok (.if_icmp .eq 418, 3) := by decide +kernel
theorem dc_L_law_458 : decode code 458 = .ok (.iconst 0, 1) := by decide +kernel
theorem dc_L_law_459 : decode code 459 = .ok (.ireturn, 1) := by decide +kernel
theorem dc_L_law_460 : decode code 460 = .ok (.aload_n 1, 1) := by decide +kernel
theorem dc_L_law_461 : decode code 461 = .ok (.invokevirtual 73, 3) := by decide +kernel
theorem mo_W_noSeeds : am_mo mt_W_noSeeds 0 := ⟨⟨by decide +kernel, by decide +kernel⟩, by decide +kernel, ⟨by decide +kernel, by decide +kernel⟩, (am_t6 52 rfl rfl), (am_t1 1 rfl rfl), by decide +kernel⟩
theorem im_W_noSeeds : Cond.instanceMethod mt_W_noSeeds.1 ∈ am_gw := (am_t6 50 rfl rfl)
theorem se_W_noSeeds : Cond.selects mt_W_noSeeds.1.cls mt_W_noSeeds.1 mt_W_noSeeds.1 ∈ am_gw := (am_t6 51 rfl rfl)
theorem ln_L_73 : am_ln "WebFinderLaw" 73 mt_W_noSeeds.1 := Or.inl (am_t6 49 rfl rfl)
theorem dc_L_law_464 : decode code 464 = .ok (.aload_n 2, 1) := by decide +kernel
theorem dc_L_law_465 : decode code 465 = .ok (.invokevirtual 76, 3) := by decide +kernel
theorem mo_M_noSeeds : am_mo mt_M_noSeeds 0 := ⟨⟨by decide +kernel, by decide +kernel⟩, by decide +kernel, ⟨by decide +kernel, by decide +kernel⟩, (am_t9 145 rfl rfl), (am_t1 11 rfl rfl), by decide +kernel⟩
theorem im_M_noSeeds : Cond.instanceMethod mt_M_noSeeds.1 ∈ am_gw := (am_t9 143 rfl rfl)
theorem se_M_noSeeds : Cond.selects mt_M_noSeeds.1.cls mt_M_noSeeds.1 mt_M_noSeeds.1 ∈ am_gw := (am_t9 144 rfl rfl)
theorem ln_L_76 : am_ln "WebFinderLaw" 76 mt_M_noSeeds.1 := Or.inl (am_t9 142 rfl rfl)
theorem dc_L_law_468 : decode code 468 = .ok (.goto 405, 3) := by decide +kernel
theorem dc_L_law_471 : decode code 471 = .ok (.aload_n 1, 1) := by decide +kernel
theorem dc_L_law_472 : decode code 472 = .ok (.invokevirtual 77, 3) := by decide +kernel
theorem mo_W_start : am_mo mt_W_start 0 := ⟨⟨by decide +kernel, by decide +kernel⟩, by decide +kernel, ⟨by decide +kernel, by decide +kernel⟩, (am_t6 56 rfl rfl), (am_t1 1 rfl rfl), by decide +kernel⟩
theorem im_W_start : Cond.instanceMethod mt_W_start.1 ∈ am_gw := (am_t6 54 rfl rfl)
theorem se_W_start : Cond.selects mt_W_start.1.cls mt_W_start.1 mt_W_start.1 ∈ am_gw := (am_t6 55 rfl rfl)
theorem ln_L_77 : am_ln "WebFinderLaw" 77 mt_W_start.1 := Or.inl (am_t6 53 rfl rfl)
theorem dc_L_law_475 : decode code 475 = .ok (.aload_n 2, 1) := by decide +kernel
theorem dc_L_law_476 : decode code 476 = .ok (.invokevirtual 80, 3) := by decide +kernel
theorem mo_M_start : am_mo mt_M_start 0 := ⟨⟨by decide +kernel, by decide +kernel⟩, by decide +kernel, ⟨by decide +kernel, by decide +kernel⟩, (am_t9 149 rfl rfl), (am_t1 11 rfl rfl), by decide +kernel⟩
theorem im_M_start : Cond.instanceMethod mt_M_start.1 ∈ am_gw := (am_t9 147 rfl rfl)
theorem se_M_start : Cond.selects mt_M_start.1.cls mt_M_start.1 mt_M_start.1 ∈ am_gw := (am_t9 148 rfl rfl)
theorem ln_L_80 : am_ln "WebFinderLaw" 80 mt_M_start.1 := Or.inl (am_t9 146 rfl rfl)
theorem dc_L_law_479 : decode code 479 = .ok (.if_icmp .eq 394, 3) := by decide +kernel
theorem dc_L_law_482 : decode code 482 = .ok (.iconst 0, 1) := by decide +kernel
theorem dc_L_law_483 : decode code 483 = .ok (.ireturn, 1) := by decide +kernel
theorem dc_L_law_484 : decode code 484 = .ok (.aload_n 1, 1) := by decide +kernel
theorem dc_L_law_485 : decode code 485 = .ok (.invokevirtual 81, 3) := by decide +kernel
theorem mo_W_step : am_mo mt_W_step 0 := ⟨⟨by decide +kernel, by decide +kernel⟩, by decide +kernel, ⟨by decide +kernel, by decide +kernel⟩, (am_t6 86 rfl rfl), (am_t1 1 rfl rfl), by decide +kernel⟩
theorem im_W_step : Cond.instanceMethod mt_W_step.1 ∈ am_gw := (am_t6 84 rfl rfl)
theorem se_W_step : Cond.selects mt_W_step.1.cls mt_W_step.1 mt_W_step.1 ∈ am_gw := (am_t6 85 rfl rfl)
theorem ln_L_81 : am_ln "WebFinderLaw" 81 mt_W_step.1 := Or.inl (am_t6 83 rfl rfl)
theorem dc_L_law_488 : decode code 488 = .ok (.aload_n 2, 1) := by decide +kernel
theorem dc_L_law_489 : decode code 489 = .ok (.invokevirtual 84, 3) := by decide +kernel
theorem mo_M_step : am_mo mt_M_step 0 := ⟨⟨by decide +kernel, by decide +kernel⟩, by decide +kernel, ⟨by decide +kernel, by decide +kernel⟩, (am_t9 169 rfl rfl), (am_t1 11 rfl rfl), by decide +kernel⟩
theorem im_M_step : Cond.instanceMethod mt_M_step.1 ∈ am_gw := (am_t9 167 rfl rfl)
theorem se_M_step : Cond.selects mt_M_step.1.cls mt_M_step.1 mt_M_step.1 ∈ am_gw := (am_t9 168 rfl rfl)
theorem ln_L_84 : am_ln "WebFinderLaw" 84 mt_M_step.1 := Or.inl (am_t9 166 rfl rfl)
theorem dc_L_law_492 : decode code 492 = .ok (.if_icmp .eq 381, 3) := by decide +kernel
theorem dc_L_law_495 : decode code 495 = .ok (.iconst 0, 1) := by decide +kernel
theorem dc_L_law_496 : decode code 496 = .ok (.ireturn, 1) := by decide +kernel
theorem dc_L_law_497 : decode code 497 = .ok (.aload_n 1, 1) := by decide +kernel
theorem dc_L_law_498 : decode code 498 = .ok (.aload_n 0, 1) := by decide +kernel
theorem dc_L_law_499 : decode code 499 = .ok (.iload 4, 2) := by decide +kernel
theorem dc_L_law_501 : decode code 501 = .ok (.iconst 1, 1) := by decide +kernel
theorem dc_L_law_502 : decode code 502 = .ok (.iadd, 1) := by decide +kernel
theorem dc_L_law_503 : decode code 503 = .ok (.iaload, 1) := by decide +kernel
theorem dc_L_law_504 : decode code 504 = .ok (.invokevirtual 85, 3) := by decide +kernel
theorem mo_W_run : am_mo mt_W_run 1 := ⟨⟨by decide +kernel, by decide +kernel⟩, by decide +kernel, ⟨by decide +kernel, by decide +kernel⟩, (am_t6 135 rfl rfl), (am_t1 1 rfl rfl), by decide +kernel⟩
theorem im_W_run : Cond.instanceMethod mt_W_run.1 ∈ am_gw := (am_t6 133 rfl rfl)
theorem se_W_run : Cond.selects mt_W_run.1.cls mt_W_run.1 mt_W_run.1 ∈ am_gw := (am_t6 134 rfl rfl)
theorem ln_L_85 : am_ln "WebFinderLaw" 85 mt_W_run.1 := Or.inl (am_t6 132 rfl rfl)
theorem dc_L_law_507 : decode code 507 = .ok (.aload_n 2, 1) := by decide +kernel
theorem dc_L_law_508 : decode code 508 = .ok (.aload_n 0, 1) := by decide +kernel
theorem dc_L_law_509 : decode code 509 = .ok (.iload 4, 2) := by decide +kernel
theorem dc_L_law_511 : decode code 511 = .ok (.iconst 1, 1) := by decide +kernel
theorem dc_L_law_512 : decode code 512 = .ok (.iadd, 1) := by decide +kernel
theorem dc_L_law_513 : decode code 513 = .ok (.iaload, 1) := by decide +kernel
theorem dc_L_law_514 : decode code 514 = .ok (.invokevirtual 88, 3) := by decide +kernel
theorem mo_M_run : am_mo mt_M_run 1 := ⟨⟨by decide +kernel, by decide +kernel⟩, by decide +kernel, ⟨by decide +kernel, by decide +kernel⟩, (am_t9 185 rfl rfl), (am_t1 11 rfl rfl), by decide +kernel⟩
theorem im_M_run : Cond.instanceMethod mt_M_run.1 ∈ am_gw := (am_t9 183 rfl rfl)
theorem se_M_run : Cond.selects mt_M_run.1.cls mt_M_run.1 mt_M_run.1 ∈ am_gw := (am_t9 184 rfl rfl)
theorem ln_L_88 : am_ln "WebFinderLaw" 88 mt_M_run.1 := Or.inl (am_t9 182 rfl rfl)
theorem dc_L_law_517 : decode code 517 = .ok (.if_icmp .eq 356, 3) := by decide +kernel
theorem dc_L_law_520 : decode code 520 = .ok (.iconst 0, 1) := by decide +kernel
theorem dc_L_law_521 : decode code 521 = .ok (.ireturn, 1) := by decide +kernel
theorem dc_L_law_522 : decode code 522 = .ok (.aload_n 1, 1) := by decide +kernel
theorem dc_L_law_523 : decode code 523 = .ok (.invokevirtual 89, 3) := by decide +kernel
theorem mo_W_crash : am_mo mt_W_crash 0 := ⟨⟨by decide +kernel, by decide +kernel⟩, by decide +kernel, ⟨by decide +kernel, by decide +kernel⟩, (am_t6 139 rfl rfl), (am_t1 1 rfl rfl), by decide +kernel⟩
theorem im_W_crash : Cond.instanceMethod mt_W_crash.1 ∈ am_gw := (am_t6 137 rfl rfl)
theorem se_W_crash : Cond.selects mt_W_crash.1.cls mt_W_crash.1 mt_W_crash.1 ∈ am_gw := (am_t6 138 rfl rfl)
theorem ln_L_89 : am_ln "WebFinderLaw" 89 mt_W_crash.1 := Or.inl (am_t6 136 rfl rfl)
theorem dc_L_law_526 : decode code 526 = .ok (.aload_n 2, 1) := by decide +kernel
theorem dc_L_law_527 : decode code 527 = .ok (.invokevirtual 92, 3) := by decide +kernel
theorem mo_M_crash : am_mo mt_M_crash 0 := ⟨⟨by decide +kernel, by decide +kernel⟩, by decide +kernel, ⟨by decide +kernel, by decide +kernel⟩, (am_t9 190 rfl rfl), (am_t1 11 rfl rfl), by decide +kernel⟩
theorem im_M_crash : Cond.instanceMethod mt_M_crash.1 ∈ am_gw := (am_t9 188 rfl rfl)
theorem se_M_crash : Cond.selects mt_M_crash.1.cls mt_M_crash.1 mt_M_crash.1 ∈ am_gw := (am_t9 189 rfl rfl)
theorem ln_L_92 : am_ln "WebFinderLaw" 92 mt_M_crash.1 := Or.inl (am_t9 187 rfl rfl)
theorem dc_L_law_530 : decode code 530 = .ok (.if_icmp .eq 343, 3) := by decide +kernel
theorem dc_L_law_533 : decode code 533 = .ok (.iconst 0, 1) := by decide +kernel
theorem dc_L_law_534 : decode code 534 = .ok (.ireturn, 1) := by decide +kernel
theorem dc_L_law_535 : decode code 535 = .ok (.aload_n 1, 1) := by decide +kernel
theorem dc_L_law_536 : decode code 536 = .ok (.invokevirtual 93, 3) := by decide +kernel
theorem mo_W_clock : am_mo mt_W_clock 0 := ⟨⟨by decide +kernel, by decide +kernel⟩, by decide +kernel, ⟨by decide +kernel, by decide +kernel⟩, (am_t6 148 rfl rfl), (am_t1 1 rfl rfl), by decide +kernel⟩
theorem im_W_clock : Cond.instanceMethod mt_W_clock.1 ∈ am_gw := (am_t6 146 rfl rfl)
theorem se_W_clock : Cond.selects mt_W_clock.1.cls mt_W_clock.1 mt_W_clock.1 ∈ am_gw := (am_t6 147 rfl rfl)
theorem ln_L_93 : am_ln "WebFinderLaw" 93 mt_W_clock.1 := Or.inl (am_t6 145 rfl rfl)
theorem dc_L_law_539 : decode code 539 = .ok (.aload_n 2, 1) := by decide +kernel
theorem dc_L_law_540 : decode code 540 = .ok (.invokevirtual 96, 3) := by decide +kernel
theorem mo_M_clock : am_mo mt_M_clock 0 := ⟨⟨by decide +kernel, by decide +kernel⟩, by decide +kernel, ⟨by decide +kernel, by decide +kernel⟩, (am_t9 194 rfl rfl), (am_t1 11 rfl rfl), by decide +kernel⟩
theorem im_M_clock : Cond.instanceMethod mt_M_clock.1 ∈ am_gw := (am_t9 192 rfl rfl)
theorem se_M_clock : Cond.selects mt_M_clock.1.cls mt_M_clock.1 mt_M_clock.1 ∈ am_gw := (am_t9 193 rfl rfl)
theorem ln_L_96 : am_ln "WebFinderLaw" 96 mt_M_clock.1 := Or.inl (am_t9 191 rfl rfl)
theorem dc_L_law_543 : decode code 543 = .ok (.if_icmp .eq 330, 3) := by decide +kernel
theorem dc_L_law_546 : decode code 546 = .ok (.iconst 0, 1) := by decide +kernel
theorem dc_L_law_547 : decode code 547 = .ok (.ireturn, 1) := by decide +kernel
theorem dc_L_law_548 : decode code 548 = .ok (.aload_n 1, 1) := by decide +kernel
theorem dc_L_law_549 : decode code 549 = .ok (.aload_n 0, 1) := by decide +kernel
theorem dc_L_law_550 : decode code 550 = .ok (.iload 4, 2) := by decide +kernel
theorem dc_L_law_552 : decode code 552 = .ok (.iconst 1, 1) := by decide +kernel
theorem dc_L_law_553 : decode code 553 = .ok (.iadd, 1) := by decide +kernel
theorem dc_L_law_554 : decode code 554 = .ok (.iaload, 1) := by decide +kernel
theorem dc_L_law_555 : decode code 555 = .ok (.invokevirtual 97, 3) := by decide +kernel
theorem mo_W_count : am_mo mt_W_count 1 := ⟨⟨by decide +kernel, by decide +kernel⟩, by decide +kernel, ⟨by decide +kernel, by decide +kernel⟩, (am_t6 152 rfl rfl), (am_t1 1 rfl rfl), by decide +kernel⟩
theorem im_W_count : Cond.instanceMethod mt_W_count.1 ∈ am_gw := (am_t6 150 rfl rfl)
theorem se_W_count : Cond.selects mt_W_count.1.cls mt_W_count.1 mt_W_count.1 ∈ am_gw := (am_t6 151 rfl rfl)
theorem ln_L_97 : am_ln "WebFinderLaw" 97 mt_W_count.1 := Or.inl (am_t6 149 rfl rfl)
theorem dc_L_law_558 : decode code 558 = .ok (.aload_n 2, 1) := by decide +kernel
theorem dc_L_law_559 : decode code 559 = .ok (.aload_n 0, 1) := by decide +kernel
theorem dc_L_law_560 : decode code 560 = .ok (.iload 4, 2) := by decide +kernel
theorem dc_L_law_562 : decode code 562 = .ok (.iconst 1, 1) := by decide +kernel
theorem dc_L_law_563 : decode code 563 = .ok (.iadd, 1) := by decide +kernel
theorem dc_L_law_564 : decode code 564 = .ok (.iaload, 1) := by decide +kernel
theorem dc_L_law_565 : decode code 565 = .ok (.invokevirtual 100, 3) := by decide +kernel
theorem mo_M_count : am_mo mt_M_count 1 := ⟨⟨by decide +kernel, by decide +kernel⟩, by decide +kernel, ⟨by decide +kernel, by decide +kernel⟩, (am_t9 198 rfl rfl), (am_t1 11 rfl rfl), by decide +kernel⟩
theorem im_M_count : Cond.instanceMethod mt_M_count.1 ∈ am_gw := (am_t9 196 rfl rfl)
theorem se_M_count : Cond.selects mt_M_count.1.cls mt_M_count.1 mt_M_count.1 ∈ am_gw := (am_t9 197 rfl rfl)
theorem ln_L_100 : am_ln "WebFinderLaw" 100 mt_M_count.1 := Or.inl (am_t9 195 rfl rfl)
theorem dc_L_law_568 : decode code 568 = .ok (.if_icmp .eq 305, 3) := by decide +kernel
theorem dc_L_law_571 : decode code 571 = .ok (.iconst 0, 1) := by decide +kernel
theorem dc_L_law_572 : decode code 572 = .ok (.ireturn, 1) := by decide +kernel
theorem dc_L_law_573 : decode code 573 = .ok (.aload_n 1, 1) := by decide +kernel
theorem dc_L_law_574 : decode code 574 = .ok (.aload_n 0, 1) := by decide +kernel
theorem dc_L_law_575 : decode code 575 = .ok (.iload 4, 2) := by decide +kernel
theorem dc_L_law_577 : decode code 577 = .ok (.iconst 1, 1) := by decide +kernel
theorem dc_L_law_578 : decode code 578 = .ok (.iadd, 1) := by decide +kernel
theorem dc_L_law_579 : decode code 579 = .ok (.iaload, 1) := by decide +kernel
theorem dc_L_law_580 : decode code 580 = .ok (.aload_n 0, 1) := by decide +kernel
theorem dc_L_law_581 : decode code 581 = .ok (.iload 4, 2) := by decide +kernel
theorem dc_L_law_583 : decode code 583 = .ok (.iconst 2, 1) := by decide +kernel
theorem dc_L_law_584 : decode code 584 = .ok (.iadd, 1) := by decide +kernel
theorem dc_L_law_585 : decode code 585 = .ok (.iaload, 1) := by decide +kernel
theorem dc_L_law_586 : decode code 586 = .ok (.invokevirtual 101, 3) := by decide +kernel
theorem mo_W_known : am_mo mt_W_known 2 := ⟨⟨by decide +kernel, by decide +kernel⟩, by decide +kernel, ⟨by decide +kernel, by decide +kernel⟩, (am_t6 160 rfl rfl), (am_t1 1 rfl rfl), by decide +kernel⟩
theorem im_W_known : Cond.instanceMethod mt_W_known.1 ∈ am_gw := (am_t6 158 rfl rfl)
theorem se_W_known : Cond.selects mt_W_known.1.cls mt_W_known.1 mt_W_known.1 ∈ am_gw := (am_t6 159 rfl rfl)
theorem ln_L_101 : am_ln "WebFinderLaw" 101 mt_W_known.1 := Or.inl (am_t6 157 rfl rfl)
theorem dc_L_law_589 : decode code 589 = .ok (.aload_n 2, 1) := by decide +kernel
theorem dc_L_law_590 : decode code 590 = .ok (.aload_n 0, 1) := by decide +kernel
theorem dc_L_law_591 : decode code 591 = .ok (.iload 4, 2) := by decide +kernel
theorem dc_L_law_593 : decode code 593 = .ok (.iconst 1, 1) := by decide +kernel
theorem dc_L_law_594 : decode code 594 = .ok (.iadd, 1) := by decide +kernel
theorem dc_L_law_595 : decode code 595 = .ok (.iaload, 1) := by decide +kernel
theorem dc_L_law_596 : decode code 596 = .ok (.aload_n 0, 1) := by decide +kernel
theorem dc_L_law_597 : decode code 597 = .ok (.iload 4, 2) := by decide +kernel
theorem dc_L_law_599 : decode code 599 = .ok (.iconst 2, 1) := by decide +kernel
theorem dc_L_law_600 : decode code 600 = .ok (.iadd, 1) := by decide +kernel
theorem dc_L_law_601 : decode code 601 = .ok (.iaload, 1) := by decide +kernel
theorem dc_L_law_602 : decode code 602 = .ok (.invokevirtual 105, 3) := by decide +kernel
theorem mo_M_known : am_mo mt_M_known 2 := ⟨⟨by decide +kernel, by decide +kernel⟩, by decide +kernel, ⟨by decide +kernel, by decide +kernel⟩, (am_t9 202 rfl rfl), (am_t1 11 rfl rfl), by decide +kernel⟩
theorem im_M_known : Cond.instanceMethod mt_M_known.1 ∈ am_gw := (am_t9 200 rfl rfl)
theorem se_M_known : Cond.selects mt_M_known.1.cls mt_M_known.1 mt_M_known.1 ∈ am_gw := (am_t9 201 rfl rfl)
theorem ln_L_105 : am_ln "WebFinderLaw" 105 mt_M_known.1 := Or.inl (am_t9 199 rfl rfl)
theorem dc_L_law_605 : decode code 605 = .ok (.if_icmp .eq 268, 3) := by decide +kernel
theorem dc_L_law_608 : decode code 608 = .ok (.iconst 0, 1) := by decide +kernel
theorem dc_L_law_609 : decode code 609 = .ok (.ireturn, 1) := by decide +kernel
theorem dc_L_law_610 : decode code 610 = .ok (.aload_n 1, 1) := by decide +kernel
theorem dc_L_law_611 : decode code 611 = .ok (.aload_n 0, 1) := by decide +kernel
theorem dc_L_law_612 : decode code 612 = .ok (.iload 4, 2) := by decide +kernel
theorem dc_L_law_614 : decode code 614 = .ok (.iconst 1, 1) := by decide +kernel
theorem dc_L_law_615 : decode code 615 = .ok (.iadd, 1) := by decide +kernel
theorem dc_L_law_616 : decode code 616 = .ok (.iaload, 1) := by decide +kernel
theorem dc_L_law_617 : decode code 617 = .ok (.aload_n 0, 1) := by decide +kernel
theorem dc_L_law_618 : decode code 618 = .ok (.iload 4, 2) := by decide +kernel
theorem dc_L_law_620 : decode code 620 = .ok (.iconst 2, 1) := by decide +kernel
theorem dc_L_law_621 : decode code 621 = .ok (.iadd, 1) := by decide +kernel
theorem dc_L_law_622 : decode code 622 = .ok (.iaload, 1) := by decide +kernel
theorem dc_L_law_623 : decode code 623 = .ok (.invokevirtual 106, 3) := by decide +kernel
theorem mo_W_asking : am_mo mt_W_asking 2 := ⟨⟨by decide +kernel, by decide +kernel⟩, by decide +kernel, ⟨by decide +kernel, by decide +kernel⟩, (am_t6 164 rfl rfl), (am_t1 1 rfl rfl), by decide +kernel⟩
theorem im_W_asking : Cond.instanceMethod mt_W_asking.1 ∈ am_gw := (am_t6 162 rfl rfl)
theorem se_W_asking : Cond.selects mt_W_asking.1.cls mt_W_asking.1 mt_W_asking.1 ∈ am_gw := (am_t6 163 rfl rfl)
theorem ln_L_106 : am_ln "WebFinderLaw" 106 mt_W_asking.1 := Or.inl (am_t6 161 rfl rfl)
theorem dc_L_law_626 : decode code 626 = .ok (.aload_n 2, 1) := by decide +kernel
theorem dc_L_law_627 : decode code 627 = .ok (.aload_n 0, 1) := by decide +kernel
theorem dc_L_law_628 : decode code 628 = .ok (.iload 4, 2) := by decide +kernel
theorem dc_L_law_630 : decode code 630 = .ok (.iconst 1, 1) := by decide +kernel
theorem dc_L_law_631 : decode code 631 = .ok (.iadd, 1) := by decide +kernel
theorem dc_L_law_632 : decode code 632 = .ok (.iaload, 1) := by decide +kernel
theorem dc_L_law_633 : decode code 633 = .ok (.aload_n 0, 1) := by decide +kernel
theorem dc_L_law_634 : decode code 634 = .ok (.iload 4, 2) := by decide +kernel
theorem dc_L_law_636 : decode code 636 = .ok (.iconst 2, 1) := by decide +kernel
theorem dc_L_law_637 : decode code 637 = .ok (.iadd, 1) := by decide +kernel
theorem dc_L_law_638 : decode code 638 = .ok (.iaload, 1) := by decide +kernel
theorem dc_L_law_639 : decode code 639 = .ok (.invokevirtual 109, 3) := by decide +kernel
theorem mo_M_asking : am_mo mt_M_asking 2 := ⟨⟨by decide +kernel, by decide +kernel⟩, by decide +kernel, ⟨by decide +kernel, by decide +kernel⟩, (am_t9 206 rfl rfl), (am_t1 11 rfl rfl), by decide +kernel⟩
theorem im_M_asking : Cond.instanceMethod mt_M_asking.1 ∈ am_gw := (am_t9 204 rfl rfl)
theorem se_M_asking : Cond.selects mt_M_asking.1.cls mt_M_asking.1 mt_M_asking.1 ∈ am_gw := (am_t9 205 rfl rfl)
theorem ln_L_109 : am_ln "WebFinderLaw" 109 mt_M_asking.1 := Or.inl (am_t9 203 rfl rfl)
theorem dc_L_law_642 : decode code 642 = .ok (.if_icmp .eq 231, 3) := by decide +kernel
theorem dc_L_law_645 : decode code 645 = .ok (.iconst 0, 1) := by decide +kernel
theorem dc_L_law_646 : decode code 646 = .ok (.ireturn, 1) := by decide +kernel
theorem dc_L_law_647 : decode code 647 = .ok (.aload_n 1, 1) := by decide +kernel
theorem dc_L_law_648 : decode code 648 = .ok (.aload_n 0, 1) := by decide +kernel
theorem dc_L_law_649 : decode code 649 = .ok (.iload 4, 2) := by decide +kernel
theorem dc_L_law_651 : decode code 651 = .ok (.iconst 1, 1) := by decide +kernel
theorem dc_L_law_652 : decode code 652 = .ok (.iadd, 1) := by decide +kernel
theorem dc_L_law_653 : decode code 653 = .ok (.iaload, 1) := by decide +kernel
theorem dc_L_law_654 : decode code 654 = .ok (.invokevirtual 110, 3) := by decide +kernel
theorem mo_W_address : am_mo mt_W_address 1 := ⟨⟨by decide +kernel, by decide +kernel⟩, by decide +kernel, ⟨by decide +kernel, by decide +kernel⟩, (am_t6 172 rfl rfl), (am_t1 1 rfl rfl), by decide +kernel⟩
theorem im_W_address : Cond.instanceMethod mt_W_address.1 ∈ am_gw := (am_t6 170 rfl rfl)
theorem se_W_address : Cond.selects mt_W_address.1.cls mt_W_address.1 mt_W_address.1 ∈ am_gw := (am_t6 171 rfl rfl)
theorem ln_L_110 : am_ln "WebFinderLaw" 110 mt_W_address.1 := Or.inl (am_t6 169 rfl rfl)
theorem dc_L_law_657 : decode code 657 = .ok (.aload_n 2, 1) := by decide +kernel
theorem dc_L_law_658 : decode code 658 = .ok (.aload_n 0, 1) := by decide +kernel
theorem dc_L_law_659 : decode code 659 = .ok (.iload 4, 2) := by decide +kernel
theorem dc_L_law_661 : decode code 661 = .ok (.iconst 1, 1) := by decide +kernel
theorem dc_L_law_662 : decode code 662 = .ok (.iadd, 1) := by decide +kernel
theorem dc_L_law_663 : decode code 663 = .ok (.iaload, 1) := by decide +kernel
theorem dc_L_law_664 : decode code 664 = .ok (.invokevirtual 113, 3) := by decide +kernel
theorem mo_M_address : am_mo mt_M_address 1 := ⟨⟨by decide +kernel, by decide +kernel⟩, by decide +kernel, ⟨by decide +kernel, by decide +kernel⟩, (am_t9 214 rfl rfl), (am_t1 11 rfl rfl), by decide +kernel⟩
theorem im_M_address : Cond.instanceMethod mt_M_address.1 ∈ am_gw := (am_t9 212 rfl rfl)
theorem se_M_address : Cond.selects mt_M_address.1.cls mt_M_address.1 mt_M_address.1 ∈ am_gw := (am_t9 213 rfl rfl)
theorem ln_L_113 : am_ln "WebFinderLaw" 113 mt_M_address.1 := Or.inl (am_t9 211 rfl rfl)
theorem dc_L_law_667 : decode code 667 = .ok (.if_icmp .eq 206, 3) := by decide +kernel
theorem dc_L_law_670 : decode code 670 = .ok (.iconst 0, 1) := by decide +kernel
theorem dc_L_law_671 : decode code 671 = .ok (.ireturn, 1) := by decide +kernel
theorem dc_L_law_672 : decode code 672 = .ok (.aload_n 1, 1) := by decide +kernel
theorem dc_L_law_673 : decode code 673 = .ok (.aload_n 0, 1) := by decide +kernel
theorem dc_L_law_674 : decode code 674 = .ok (.iload 4, 2) := by decide +kernel
theorem dc_L_law_676 : decode code 676 = .ok (.iconst 1, 1) := by decide +kernel
theorem dc_L_law_677 : decode code 677 = .ok (.iadd, 1) := by decide +kernel
theorem dc_L_law_678 : decode code 678 = .ok (.iaload, 1) := by decide +kernel
theorem dc_L_law_679 : decode code 679 = .ok (.invokevirtual 114, 3) := by decide +kernel
theorem mo_W_find : am_mo mt_W_find 1 := ⟨⟨by decide +kernel, by decide +kernel⟩, by decide +kernel, ⟨by decide +kernel, by decide +kernel⟩, (am_t6 176 rfl rfl), (am_t1 1 rfl rfl), by decide +kernel⟩
theorem im_W_find : Cond.instanceMethod mt_W_find.1 ∈ am_gw := (am_t6 174 rfl rfl)
theorem se_W_find : Cond.selects mt_W_find.1.cls mt_W_find.1 mt_W_find.1 ∈ am_gw := (am_t6 175 rfl rfl)
theorem ln_L_114 : am_ln "WebFinderLaw" 114 mt_W_find.1 := Or.inl (am_t6 173 rfl rfl)
theorem dc_L_law_682 : decode code 682 = .ok (.aload_n 2, 1) := by decide +kernel
theorem dc_L_law_683 : decode code 683 = .ok (.aload_n 0, 1) := by decide +kernel
theorem dc_L_law_684 : decode code 684 = .ok (.iload 4, 2) := by decide +kernel
theorem dc_L_law_686 : decode code 686 = .ok (.iconst 1, 1) := by decide +kernel
theorem dc_L_law_687 : decode code 687 = .ok (.iadd, 1) := by decide +kernel
theorem dc_L_law_688 : decode code 688 = .ok (.iaload, 1) := by decide +kernel
theorem dc_L_law_689 : decode code 689 = .ok (.invokevirtual 117, 3) := by decide +kernel
theorem mo_M_find : am_mo mt_M_find 1 := ⟨⟨by decide +kernel, by decide +kernel⟩, by decide +kernel, ⟨by decide +kernel, by decide +kernel⟩, (am_t9 218 rfl rfl), (am_t1 11 rfl rfl), by decide +kernel⟩
theorem im_M_find : Cond.instanceMethod mt_M_find.1 ∈ am_gw := (am_t9 216 rfl rfl)
theorem se_M_find : Cond.selects mt_M_find.1.cls mt_M_find.1 mt_M_find.1 ∈ am_gw := (am_t9 217 rfl rfl)
theorem ln_L_117 : am_ln "WebFinderLaw" 117 mt_M_find.1 := Or.inl (am_t9 215 rfl rfl)
theorem dc_L_law_692 : decode code 692 = .ok (.if_icmp .eq 181, 3) := by decide +kernel
theorem dc_L_law_695 : decode code 695 = .ok (.iconst 0, 1) := by decide +kernel
theorem dc_L_law_696 : decode code 696 = .ok (.ireturn, 1) := by decide +kernel
theorem dc_L_law_697 : decode code 697 = .ok (.aload_n 1, 1) := by decide +kernel
theorem dc_L_law_698 : decode code 698 = .ok (.aload_n 0, 1) := by decide +kernel
theorem dc_L_law_699 : decode code 699 = .ok (.iload 4, 2) := by decide +kernel
theorem dc_L_law_701 : decode code 701 = .ok (.iconst 1, 1) := by decide +kernel
theorem dc_L_law_702 : decode code 702 = .ok (.iadd, 1) := by decide +kernel
theorem dc_L_law_703 : decode code 703 = .ok (.iaload, 1) := by decide +kernel
theorem dc_L_law_704 : decode code 704 = .ok (.aload_n 0, 1) := by decide +kernel
theorem dc_L_law_705 : decode code 705 = .ok (.iload 4, 2) := by decide +kernel
theorem dc_L_law_707 : decode code 707 = .ok (.iconst 2, 1) := by decide +kernel
theorem dc_L_law_708 : decode code 708 = .ok (.iadd, 1) := by decide +kernel
theorem dc_L_law_709 : decode code 709 = .ok (.iaload, 1) := by decide +kernel
theorem dc_L_law_710 : decode code 710 = .ok (.invokevirtual 118, 3) := by decide +kernel
theorem mo_W_document : am_mo mt_W_document 2 := ⟨⟨by decide +kernel, by decide +kernel⟩, by decide +kernel, ⟨by decide +kernel, by decide +kernel⟩, (am_t7 0 rfl rfl), (am_t1 1 rfl rfl), by decide +kernel⟩
theorem im_W_document : Cond.instanceMethod mt_W_document.1 ∈ am_gw := (am_t6 238 rfl rfl)
theorem se_W_document : Cond.selects mt_W_document.1.cls mt_W_document.1 mt_W_document.1 ∈ am_gw := (am_t6 239 rfl rfl)
theorem ln_L_118 : am_ln "WebFinderLaw" 118 mt_W_document.1 := Or.inl (am_t6 237 rfl rfl)
theorem dc_L_law_713 : decode code 713 = .ok (.aload_n 2, 1) := by decide +kernel
theorem dc_L_law_714 : decode code 714 = .ok (.aload_n 0, 1) := by decide +kernel
theorem dc_L_law_715 : decode code 715 = .ok (.iload 4, 2) := by decide +kernel
theorem dc_L_law_717 : decode code 717 = .ok (.iconst 1, 1) := by decide +kernel
theorem dc_L_law_718 : decode code 718 = .ok (.iadd, 1) := by decide +kernel
theorem dc_L_law_719 : decode code 719 = .ok (.iaload, 1) := by decide +kernel
theorem dc_L_law_720 : decode code 720 = .ok (.aload_n 0, 1) := by decide +kernel
theorem dc_L_law_721 : decode code 721 = .ok (.iload 4, 2) := by decide +kernel
theorem dc_L_law_723 : decode code 723 = .ok (.iconst 2, 1) := by decide +kernel
theorem dc_L_law_724 : decode code 724 = .ok (.iadd, 1) := by decide +kernel
theorem dc_L_law_725 : decode code 725 = .ok (.iaload, 1) := by decide +kernel
theorem dc_L_law_726 : decode code 726 = .ok (.invokevirtual 121, 3) := by decide +kernel
theorem mo_M_document : am_mo mt_M_document 2 := ⟨⟨by decide +kernel, by decide +kernel⟩, by decide +kernel, ⟨by decide +kernel, by decide +kernel⟩, (am_t10 22 rfl rfl), (am_t1 11 rfl rfl), by decide +kernel⟩
theorem im_M_document : Cond.instanceMethod mt_M_document.1 ∈ am_gw := (am_t10 20 rfl rfl)
theorem se_M_document : Cond.selects mt_M_document.1.cls mt_M_document.1 mt_M_document.1 ∈ am_gw := (am_t10 21 rfl rfl)
theorem ln_L_121 : am_ln "WebFinderLaw" 121 mt_M_document.1 := Or.inl (am_t10 19 rfl rfl)
theorem dc_L_law_729 : decode code 729 = .ok (.if_icmp .eq 144, 3) := by decide +kernel
theorem dc_L_law_732 : decode code 732 = .ok (.iconst 0, 1) := by decide +kernel
theorem dc_L_law_733 : decode code 733 = .ok (.ireturn, 1) := by decide +kernel
theorem dc_L_law_734 : decode code 734 = .ok (.aload_n 1, 1) := by decide +kernel
theorem dc_L_law_735 : decode code 735 = .ok (.aload_n 0, 1) := by decide +kernel
theorem dc_L_law_736 : decode code 736 = .ok (.iload 4, 2) := by decide +kernel
theorem dc_L_law_738 : decode code 738 = .ok (.iconst 1, 1) := by decide +kernel
theorem dc_L_law_739 : decode code 739 = .ok (.iadd, 1) := by decide +kernel
theorem dc_L_law_740 : decode code 740 = .ok (.iaload, 1) := by decide +kernel
theorem dc_L_law_741 : decode code 741 = .ok (.invokevirtual 122, 3) := by decide +kernel
theorem mo_W_where : am_mo mt_W_where 1 := ⟨⟨by decide +kernel, by decide +kernel⟩, by decide +kernel, ⟨by decide +kernel, by decide +kernel⟩, (am_t7 4 rfl rfl), (am_t1 1 rfl rfl), by decide +kernel⟩
theorem im_W_where : Cond.instanceMethod mt_W_where.1 ∈ am_gw := (am_t7 2 rfl rfl)
theorem se_W_where : Cond.selects mt_W_where.1.cls mt_W_where.1 mt_W_where.1 ∈ am_gw := (am_t7 3 rfl rfl)
theorem ln_L_122 : am_ln "WebFinderLaw" 122 mt_W_where.1 := Or.inl (am_t7 1 rfl rfl)
theorem dc_L_law_744 : decode code 744 = .ok (.aload_n 2, 1) := by decide +kernel
theorem dc_L_law_745 : decode code 745 = .ok (.aload_n 0, 1) := by decide +kernel
theorem dc_L_law_746 : decode code 746 = .ok (.iload 4, 2) := by decide +kernel
theorem dc_L_law_748 : decode code 748 = .ok (.iconst 1, 1) := by decide +kernel
theorem dc_L_law_749 : decode code 749 = .ok (.iadd, 1) := by decide +kernel
theorem dc_L_law_750 : decode code 750 = .ok (.iaload, 1) := by decide +kernel
theorem dc_L_law_751 : decode code 751 = .ok (.invokevirtual 125, 3) := by decide +kernel
theorem mo_M_where : am_mo mt_M_where 1 := ⟨⟨by decide +kernel, by decide +kernel⟩, by decide +kernel, ⟨by decide +kernel, by decide +kernel⟩, (am_t10 34 rfl rfl), (am_t1 11 rfl rfl), by decide +kernel⟩
theorem im_M_where : Cond.instanceMethod mt_M_where.1 ∈ am_gw := (am_t10 32 rfl rfl)
theorem se_M_where : Cond.selects mt_M_where.1.cls mt_M_where.1 mt_M_where.1 ∈ am_gw := (am_t10 33 rfl rfl)
theorem ln_L_125 : am_ln "WebFinderLaw" 125 mt_M_where.1 := Or.inl (am_t10 31 rfl rfl)
theorem dc_L_law_754 : decode code 754 = .ok (.if_icmp .eq 119, 3) := by decide +kernel
theorem dc_L_law_757 : decode code 757 = .ok (.iconst 0, 1) := by decide +kernel
theorem dc_L_law_758 : decode code 758 = .ok (.ireturn, 1) := by decide +kernel
theorem dc_L_law_759 : decode code 759 = .ok (.aload_n 1, 1) := by decide +kernel
theorem dc_L_law_760 : decode code 760 = .ok (.aload_n 0, 1) := by decide +kernel
theorem dc_L_law_761 : decode code 761 = .ok (.iload 4, 2) := by decide +kernel
theorem dc_L_law_763 : decode code 763 = .ok (.iconst 1, 1) := by decide +kernel
theorem dc_L_law_764 : decode code 764 = .ok (.iadd, 1) := by decide +kernel
theorem dc_L_law_765 : decode code 765 = .ok (.iaload, 1) := by decide +kernel
theorem dc_L_law_766 : decode code 766 = .ok (.invokevirtual 126, 3) := by decide +kernel
theorem mo_W_ask : am_mo mt_W_ask 1 := ⟨⟨by decide +kernel, by decide +kernel⟩, by decide +kernel, ⟨by decide +kernel, by decide +kernel⟩, (am_t7 8 rfl rfl), (am_t1 1 rfl rfl), by decide +kernel⟩
theorem im_W_ask : Cond.instanceMethod mt_W_ask.1 ∈ am_gw := (am_t7 6 rfl rfl)
theorem se_W_ask : Cond.selects mt_W_ask.1.cls mt_W_ask.1 mt_W_ask.1 ∈ am_gw := (am_t7 7 rfl rfl)
theorem ln_L_126 : am_ln "WebFinderLaw" 126 mt_W_ask.1 := Or.inl (am_t7 5 rfl rfl)
theorem dc_L_law_769 : decode code 769 = .ok (.aload_n 2, 1) := by decide +kernel
theorem dc_L_law_770 : decode code 770 = .ok (.aload_n 0, 1) := by decide +kernel
theorem dc_L_law_771 : decode code 771 = .ok (.iload 4, 2) := by decide +kernel
theorem dc_L_law_773 : decode code 773 = .ok (.iconst 1, 1) := by decide +kernel
theorem dc_L_law_774 : decode code 774 = .ok (.iadd, 1) := by decide +kernel
theorem dc_L_law_775 : decode code 775 = .ok (.iaload, 1) := by decide +kernel
theorem dc_L_law_776 : decode code 776 = .ok (.invokevirtual 129, 3) := by decide +kernel
theorem mo_M_ask : am_mo mt_M_ask 1 := ⟨⟨by decide +kernel, by decide +kernel⟩, by decide +kernel, ⟨by decide +kernel, by decide +kernel⟩, (am_t10 38 rfl rfl), (am_t1 11 rfl rfl), by decide +kernel⟩
theorem im_M_ask : Cond.instanceMethod mt_M_ask.1 ∈ am_gw := (am_t10 36 rfl rfl)
theorem se_M_ask : Cond.selects mt_M_ask.1.cls mt_M_ask.1 mt_M_ask.1 ∈ am_gw := (am_t10 37 rfl rfl)
theorem ln_L_129 : am_ln "WebFinderLaw" 129 mt_M_ask.1 := Or.inl (am_t10 35 rfl rfl)
theorem dc_L_law_779 : decode code 779 = .ok (.if_icmp .eq 94, 3) := by decide +kernel
theorem dc_L_law_782 : decode code 782 = .ok (.iconst 0, 1) := by decide +kernel
theorem dc_L_law_783 : decode code 783 = .ok (.ireturn, 1) := by decide +kernel
theorem dc_L_law_784 : decode code 784 = .ok (.aload_n 1, 1) := by decide +kernel
theorem dc_L_law_785 : decode code 785 = .ok (.aload_n 0, 1) := by decide +kernel
theorem dc_L_law_786 : decode code 786 = .ok (.iload 4, 2) := by decide +kernel
theorem dc_L_law_788 : decode code 788 = .ok (.iconst 1, 1) := by decide +kernel
theorem dc_L_law_789 : decode code 789 = .ok (.iadd, 1) := by decide +kernel
theorem dc_L_law_790 : decode code 790 = .ok (.iaload, 1) := by decide +kernel
theorem dc_L_law_791 : decode code 791 = .ok (.invokevirtual 130, 3) := by decide +kernel
theorem mo_W_hit : am_mo mt_W_hit 1 := ⟨⟨by decide +kernel, by decide +kernel⟩, by decide +kernel, ⟨by decide +kernel, by decide +kernel⟩, (am_t7 39 rfl rfl), (am_t1 1 rfl rfl), by decide +kernel⟩
theorem im_W_hit : Cond.instanceMethod mt_W_hit.1 ∈ am_gw := (am_t7 37 rfl rfl)
theorem se_W_hit : Cond.selects mt_W_hit.1.cls mt_W_hit.1 mt_W_hit.1 ∈ am_gw := (am_t7 38 rfl rfl)
theorem ln_L_130 : am_ln "WebFinderLaw" 130 mt_W_hit.1 := Or.inl (am_t7 36 rfl rfl)
theorem dc_L_law_794 : decode code 794 = .ok (.aload_n 2, 1) := by decide +kernel
theorem dc_L_law_795 : decode code 795 = .ok (.aload_n 0, 1) := by decide +kernel
theorem dc_L_law_796 : decode code 796 = .ok (.iload 4, 2) := by decide +kernel
theorem dc_L_law_798 : decode code 798 = .ok (.iconst 1, 1) := by decide +kernel
theorem dc_L_law_799 : decode code 799 = .ok (.iadd, 1) := by decide +kernel
theorem dc_L_law_800 : decode code 800 = .ok (.iaload, 1) := by decide +kernel
theorem dc_L_law_801 : decode code 801 = .ok (.invokevirtual 133, 3) := by decide +kernel
theorem mo_M_hit : am_mo mt_M_hit 1 := ⟨⟨by decide +kernel, by decide +kernel⟩, by decide +kernel, ⟨by decide +kernel, by decide +kernel⟩, (am_t10 54 rfl rfl), (am_t1 11 rfl rfl), by decide +kernel⟩
theorem im_M_hit : Cond.instanceMethod mt_M_hit.1 ∈ am_gw := (am_t10 52 rfl rfl)
theorem se_M_hit : Cond.selects mt_M_hit.1.cls mt_M_hit.1 mt_M_hit.1 ∈ am_gw := (am_t10 53 rfl rfl)
theorem ln_L_133 : am_ln "WebFinderLaw" 133 mt_M_hit.1 := Or.inl (am_t10 51 rfl rfl)
theorem dc_L_law_804 : decode code 804 = .ok (.if_icmp .eq 69, 3) := by decide +kernel
theorem dc_L_law_807 : decode code 807 = .ok (.iconst 0, 1) := by decide +kernel
theorem dc_L_law_808 : decode code 808 = .ok (.ireturn, 1) := by decide +kernel
theorem dc_L_law_809 : decode code 809 = .ok (.aload_n 1, 1) := by decide +kernel
theorem dc_L_law_810 : decode code 810 = .ok (.aload_n 0, 1) := by decide +kernel
theorem dc_L_law_811 : decode code 811 = .ok (.iload 4, 2) := by decide +kernel
theorem dc_L_law_813 : decode code 813 = .ok (.iconst 1, 1) := by decide +kernel
theorem dc_L_law_814 : decode code 814 = .ok (.iadd, 1) := by decide +kernel
theorem dc_L_law_815 : decode code 815 = .ok (.iaload, 1) := by decide +kernel
theorem dc_L_law_816 : decode code 816 = .ok (.invokevirtual 134, 3) := by decide +kernel
theorem mo_W_score : am_mo mt_W_score 1 := ⟨⟨by decide +kernel, by decide +kernel⟩, by decide +kernel, ⟨by decide +kernel, by decide +kernel⟩, (am_t7 43 rfl rfl), (am_t1 1 rfl rfl), by decide +kernel⟩
theorem im_W_score : Cond.instanceMethod mt_W_score.1 ∈ am_gw := (am_t7 41 rfl rfl)
theorem se_W_score : Cond.selects mt_W_score.1.cls mt_W_score.1 mt_W_score.1 ∈ am_gw := (am_t7 42 rfl rfl)
theorem ln_L_134 : am_ln "WebFinderLaw" 134 mt_W_score.1 := Or.inl (am_t7 40 rfl rfl)
theorem dc_L_law_819 : decode code 819 = .ok (.aload_n 2, 1) := by decide +kernel
theorem dc_L_law_820 : decode code 820 = .ok (.aload_n 0, 1) := by decide +kernel
theorem dc_L_law_821 : decode code 821 = .ok (.iload 4, 2) := by decide +kernel
theorem dc_L_law_823 : decode code 823 = .ok (.iconst 1, 1) := by decide +kernel
theorem dc_L_law_824 : decode code 824 = .ok (.iadd, 1) := by decide +kernel
theorem dc_L_law_825 : decode code 825 = .ok (.iaload, 1) := by decide +kernel
theorem dc_L_law_826 : decode code 826 = .ok (.invokevirtual 138, 3) := by decide +kernel
theorem mo_M_score : am_mo mt_M_score 1 := ⟨⟨by decide +kernel, by decide +kernel⟩, by decide +kernel, ⟨by decide +kernel, by decide +kernel⟩, (am_t10 58 rfl rfl), (am_t1 11 rfl rfl), by decide +kernel⟩
theorem im_M_score : Cond.instanceMethod mt_M_score.1 ∈ am_gw := (am_t10 56 rfl rfl)
theorem se_M_score : Cond.selects mt_M_score.1.cls mt_M_score.1 mt_M_score.1 ∈ am_gw := (am_t10 57 rfl rfl)
theorem ln_L_138 : am_ln "WebFinderLaw" 138 mt_M_score.1 := Or.inl (am_t10 55 rfl rfl)
theorem dc_L_law_829 : decode code 829 = .ok (.lcmp, 1) := by decide +kernel
theorem dc_L_law_830 : decode code 830 = .ok (.ifCond .eq 43, 3) := by decide +kernel
theorem dc_L_law_833 : decode code 833 = .ok (.iconst 0, 1) := by decide +kernel
theorem dc_L_law_834 : decode code 834 = .ok (.ireturn, 1) := by decide +kernel
theorem dc_L_law_835 : decode code 835 = .ok (.aload_n 1, 1) := by decide +kernel
theorem dc_L_law_836 : decode code 836 = .ok (.invokevirtual 139, 3) := by decide +kernel
theorem mo_W_made : am_mo mt_W_made 0 := ⟨⟨by decide +kernel, by decide +kernel⟩, by decide +kernel, ⟨by decide +kernel, by decide +kernel⟩, (am_t7 48 rfl rfl), (am_t1 1 rfl rfl), by decide +kernel⟩
theorem im_W_made : Cond.instanceMethod mt_W_made.1 ∈ am_gw := (am_t7 46 rfl rfl)
theorem se_W_made : Cond.selects mt_W_made.1.cls mt_W_made.1 mt_W_made.1 ∈ am_gw := (am_t7 47 rfl rfl)
theorem ln_L_139 : am_ln "WebFinderLaw" 139 mt_W_made.1 := Or.inl (am_t7 45 rfl rfl)
theorem dc_L_law_839 : decode code 839 = .ok (.aload_n 2, 1) := by decide +kernel
theorem dc_L_law_840 : decode code 840 = .ok (.invokevirtual 142, 3) := by decide +kernel
theorem mo_M_made : am_mo mt_M_made 0 := ⟨⟨by decide +kernel, by decide +kernel⟩, by decide +kernel, ⟨by decide +kernel, by decide +kernel⟩, (am_t9 15 rfl rfl), (am_t1 11 rfl rfl), by decide +kernel⟩
theorem im_M_made : Cond.instanceMethod mt_M_made.1 ∈ am_gw := (am_t9 13 rfl rfl)
theorem se_M_made : Cond.selects mt_M_made.1.cls mt_M_made.1 mt_M_made.1 ∈ am_gw := (am_t9 14 rfl rfl)
theorem ln_L_142 : am_ln "WebFinderLaw" 142 mt_M_made.1 := Or.inl (am_t9 12 rfl rfl)
theorem dc_L_law_843 : decode code 843 = .ok (.if_icmp .eq 30, 3) := by decide +kernel
theorem dc_L_law_846 : decode code 846 = .ok (.iconst 0, 1) := by decide +kernel
theorem dc_L_law_847 : decode code 847 = .ok (.ireturn, 1) := by decide +kernel
theorem dc_L_law_848 : decode code 848 = .ok (.aload_n 1, 1) := by decide +kernel
theorem dc_L_law_849 : decode code 849 = .ok (.aload_n 0, 1) := by decide +kernel
theorem dc_L_law_850 : decode code 850 = .ok (.iload 4, 2) := by decide +kernel
theorem dc_L_law_852 : decode code 852 = .ok (.iconst 1, 1) := by decide +kernel
theorem dc_L_law_853 : decode code 853 = .ok (.iadd, 1) := by decide +kernel
theorem dc_L_law_854 : decode code 854 = .ok (.iaload, 1) := by decide +kernel
theorem dc_L_law_855 : decode code 855 = .ok (.invokevirtual 143, 3) := by decide +kernel
theorem mo_W_out : am_mo mt_W_out 1 := ⟨⟨by decide +kernel, by decide +kernel⟩, by decide +kernel, ⟨by decide +kernel, by decide +kernel⟩, (am_t7 52 rfl rfl), (am_t1 1 rfl rfl), by decide +kernel⟩
theorem im_W_out : Cond.instanceMethod mt_W_out.1 ∈ am_gw := (am_t7 50 rfl rfl)
theorem se_W_out : Cond.selects mt_W_out.1.cls mt_W_out.1 mt_W_out.1 ∈ am_gw := (am_t7 51 rfl rfl)
theorem ln_L_143 : am_ln "WebFinderLaw" 143 mt_W_out.1 := Or.inl (am_t7 49 rfl rfl)
theorem dc_L_law_858 : decode code 858 = .ok (.aload_n 2, 1) := by decide +kernel
theorem dc_L_law_859 : decode code 859 = .ok (.aload_n 0, 1) := by decide +kernel
theorem dc_L_law_860 : decode code 860 = .ok (.iload 4, 2) := by decide +kernel
theorem dc_L_law_862 : decode code 862 = .ok (.iconst 1, 1) := by decide +kernel
theorem dc_L_law_863 : decode code 863 = .ok (.iadd, 1) := by decide +kernel
theorem dc_L_law_864 : decode code 864 = .ok (.iaload, 1) := by decide +kernel
theorem dc_L_law_865 : decode code 865 = .ok (.invokevirtual 146, 3) := by decide +kernel
theorem mo_M_out : am_mo mt_M_out 1 := ⟨⟨by decide +kernel, by decide +kernel⟩, by decide +kernel, ⟨by decide +kernel, by decide +kernel⟩, (am_t9 19 rfl rfl), (am_t1 11 rfl rfl), by decide +kernel⟩
theorem im_M_out : Cond.instanceMethod mt_M_out.1 ∈ am_gw := (am_t9 17 rfl rfl)
theorem se_M_out : Cond.selects mt_M_out.1.cls mt_M_out.1 mt_M_out.1 ∈ am_gw := (am_t9 18 rfl rfl)
theorem ln_L_146 : am_ln "WebFinderLaw" 146 mt_M_out.1 := Or.inl (am_t9 16 rfl rfl)
theorem dc_L_law_868 : decode code 868 = .ok (.if_icmp .eq 5, 3) := by decide +kernel
theorem dc_L_law_871 : decode code 871 = .ok (.iconst 0, 1) := by decide +kernel
theorem dc_L_law_872 : decode code 872 = .ok (.ireturn, 1) := by decide +kernel
theorem dc_L_law_873 : decode code 873 = .ok (.iinc 4 6, 3) := by decide +kernel
theorem dc_L_law_876 : decode code 876 = .ok (.goto (-853), 3) := by decide +kernel
theorem dc_L_law_879 : decode code 879 = .ok (.iconst 1, 1) := by decide +kernel
theorem dc_L_law_880 : decode code 880 = .ok (.ireturn, 1) := by decide +kernel
theorem dc_W_init_0 : decode prog_1_method_1_code 0 = .ok (.aload_n 0, 1) := by decide +kernel
theorem dc_W_init_1 : decode prog_1_method_1_code 1 = .ok (.invokespecial 1, 3) := by decide +kernel
theorem ob_W_1 : Cond.methodLink "WebFinder" 1 Lib.objectInit ∈ am_gw := (am_t1 36 rfl rfl)
theorem dc_W_init_4 : decode prog_1_method_1_code 4 = .ok (.aload_n 0, 1) := by decide +kernel
theorem dc_W_init_5 : decode prog_1_method_1_code 5 = .ok (.new 7, 3) := by decide +kernel
theorem mk_W_7 : am_mk "WebFinder" 7 1 [.null, .int 0] := ⟨"WebFinder$Bytes", tt_B, 2, ty_B, rfl, ct_B, (am_t1 39 rfl rfl), (am_t1 40 rfl rfl), (am_t1 2 rfl rfl), rfl, fun _ => rfl, by decide +kernel⟩
theorem dc_W_init_8 : decode prog_1_method_1_code 8 = .ok (.dup, 1) := by decide +kernel
theorem dc_W_init_9 : decode prog_1_method_1_code 9 = .ok (.sipush 256, 3) := by decide +kernel
theorem dc_W_init_12 : decode prog_1_method_1_code 12 = .ok (.invokespecial 9, 3) := by decide +kernel
theorem mo_B_init : am_mo mt_B_init 1 := ⟨⟨by decide +kernel, by decide +kernel⟩, by decide +kernel, ⟨by decide +kernel, by decide +kernel⟩, (am_t1 43 rfl rfl), (am_t1 2 rfl rfl), by decide +kernel⟩
theorem im_B_init : Cond.instanceMethod mt_B_init.1 ∈ am_gw := (am_t1 42 rfl rfl)
theorem ln_W_9 : am_ln "WebFinder" 9 mt_B_init.1 := Or.inl (am_t1 41 rfl rfl)
theorem dc_W_init_15 : decode prog_1_method_1_code 15 = .ok (.putfield 12, 3) := by decide +kernel
theorem fp_W_init_12 : am_fp mt_W_init.1 12 0 0 (.object "WebFinder$Bytes") := ⟨"WebFinder", tt_W, 11, rfl, by decide, ct_W 0 (by decide), Or.inl ⟨(am_t2 147 rfl rfl), Or.inr ⟨rfl, rfl, rfl⟩⟩⟩
theorem dc_W_init_18 : decode prog_1_method_1_code 18 = .ok (.aload_n 0, 1) := by decide +kernel
theorem dc_W_init_19 : decode prog_1_method_1_code 19 = .ok (.new 7, 3) := by decide +kernel
theorem dc_W_init_22 : decode prog_1_method_1_code 22 = .ok (.dup, 1) := by decide +kernel
theorem dc_W_init_23 : decode prog_1_method_1_code 23 = .ok (.sipush 256, 3) := by decide +kernel
theorem dc_W_init_26 : decode prog_1_method_1_code 26 = .ok (.invokespecial 9, 3) := by decide +kernel
theorem dc_W_init_29 : decode prog_1_method_1_code 29 = .ok (.putfield 18, 3) := by decide +kernel
theorem fp_W_init_18 : am_fp mt_W_init.1 18 0 1 (.object "WebFinder$Bytes") := ⟨"WebFinder", tt_W, 11, rfl, by decide, ct_W 1 (by decide), Or.inl ⟨(am_t2 148 rfl rfl), Or.inr ⟨rfl, rfl, rfl⟩⟩⟩
theorem dc_W_init_32 : decode prog_1_method_1_code 32 = .ok (.aload_n 0, 1) := by decide +kernel
theorem dc_W_init_33 : decode prog_1_method_1_code 33 = .ok (.new 7, 3) := by decide +kernel
theorem dc_W_init_36 : decode prog_1_method_1_code 36 = .ok (.dup, 1) := by decide +kernel
theorem dc_W_init_37 : decode prog_1_method_1_code 37 = .ok (.sipush 200, 3) := by decide +kernel
theorem dc_W_init_40 : decode prog_1_method_1_code 40 = .ok (.invokespecial 9, 3) := by decide +kernel
theorem dc_W_init_43 : decode prog_1_method_1_code 43 = .ok (.putfield 21, 3) := by decide +kernel
theorem fp_W_init_21 : am_fp mt_W_init.1 21 0 2 (.object "WebFinder$Bytes") := ⟨"WebFinder", tt_W, 11, rfl, by decide, ct_W 2 (by decide), Or.inl ⟨(am_t2 149 rfl rfl), Or.inr ⟨rfl, rfl, rfl⟩⟩⟩
theorem dc_W_init_46 : decode prog_1_method_1_code 46 = .ok (.aload_n 0, 1) := by decide +kernel
theorem dc_W_init_47 : decode prog_1_method_1_code 47 = .ok (.new 24, 3) := by decide +kernel
theorem mk_W_24 : am_mk "WebFinder" 24 2 [.null, .null] := ⟨"WebFinder$AddressReader", tt_A, 2, ty_A, rfl, ct_A, (am_t1 71 rfl rfl), (am_t1 72 rfl rfl), (am_t1 3 rfl rfl), rfl, fun _ => rfl, by decide +kernel⟩
theorem dc_W_init_50 : decode prog_1_method_1_code 50 = .ok (.dup, 1) := by decide +kernel
theorem dc_W_init_51 : decode prog_1_method_1_code 51 = .ok (.invokespecial 26, 3) := by decide +kernel
theorem mo_A_init : am_mo mt_A_init 0 := ⟨⟨by decide +kernel, by decide +kernel⟩, by decide +kernel, ⟨by decide +kernel, by decide +kernel⟩, (am_t1 75 rfl rfl), (am_t1 3 rfl rfl), by decide +kernel⟩
theorem im_A_init : Cond.instanceMethod mt_A_init.1 ∈ am_gw := (am_t1 74 rfl rfl)
theorem ln_W_26 : am_ln "WebFinder" 26 mt_A_init.1 := Or.inr ⟨"WebFinder", (am_n1 73 rfl rfl)⟩
theorem dc_W_init_54 : decode prog_1_method_1_code 54 = .ok (.putfield 27, 3) := by decide +kernel
theorem fp_W_init_27 : am_fp mt_W_init.1 27 0 3 (.object "WebFinder$AddressReader") := ⟨"WebFinder", tt_W, 11, rfl, by decide, ct_W 3 (by decide), Or.inl ⟨(am_t2 150 rfl rfl), Or.inr ⟨rfl, rfl, rfl⟩⟩⟩
theorem dc_W_init_57 : decode prog_1_method_1_code 57 = .ok (.aload_n 0, 1) := by decide +kernel
theorem dc_W_init_58 : decode prog_1_method_1_code 58 = .ok (.new 31, 3) := by decide +kernel
theorem mk_W_31 : am_mk "WebFinder" 31 3 [.null, .null, .null, .null, .null, .null] := ⟨"WebFinder$PageReader", tt_P, 6, ty_P, rfl, ct_P, (am_t1 89 rfl rfl), (am_t1 90 rfl rfl), (am_t1 4 rfl rfl), rfl, fun _ => rfl, by decide +kernel⟩
theorem dc_W_init_61 : decode prog_1_method_1_code 61 = .ok (.dup, 1) := by decide +kernel
theorem dc_W_init_62 : decode prog_1_method_1_code 62 = .ok (.aload_n 0, 1) := by decide +kernel
theorem dc_W_init_63 : decode prog_1_method_1_code 63 = .ok (.getfield 27, 3) := by decide +kernel
theorem fl_W_27 : am_fl "WebFinder" 27 0 3 := ⟨"WebFinder", tt_W, 11, rfl, by decide, Or.inl (am_t2 150 rfl rfl)⟩
theorem dc_W_init_66 : decode prog_1_method_1_code 66 = .ok (.invokespecial 33, 3) := by decide +kernel
theorem mo_P_init : am_mo mt_P_init 1 := ⟨⟨by decide +kernel, by decide +kernel⟩, by decide +kernel, ⟨by decide +kernel, by decide +kernel⟩, (am_t1 93 rfl rfl), (am_t1 4 rfl rfl), by decide +kernel⟩
theorem im_P_init : Cond.instanceMethod mt_P_init.1 ∈ am_gw := (am_t1 92 rfl rfl)
theorem ln_W_33 : am_ln "WebFinder" 33 mt_P_init.1 := Or.inl (am_t1 91 rfl rfl)
theorem dc_W_init_69 : decode prog_1_method_1_code 69 = .ok (.putfield 36, 3) := by decide +kernel
theorem fp_W_init_36 : am_fp mt_W_init.1 36 0 4 (.object "WebFinder$PageReader") := ⟨"WebFinder", tt_W, 11, rfl, by decide, ct_W 4 (by decide), Or.inl ⟨(am_t2 151 rfl rfl), Or.inr ⟨rfl, rfl, rfl⟩⟩⟩
theorem dc_W_init_72 : decode prog_1_method_1_code 72 = .ok (.aload_n 0, 1) := by decide +kernel
theorem dc_W_init_73 : decode prog_1_method_1_code 73 = .ok (.new 40, 3) := by decide +kernel
theorem mk_W_40 : am_mk "WebFinder" 40 6 [.int 0, .null, .null, .int 0] := ⟨"WebFinder$Web", tt_V, 4, ty_V, rfl, ct_V, (am_t1 189 rfl rfl), (am_t1 190 rfl rfl), (am_t1 7 rfl rfl), rfl, fun _ => rfl, by decide +kernel⟩
theorem dc_W_init_76 : decode prog_1_method_1_code 76 = .ok (.dup, 1) := by decide +kernel
theorem dc_W_init_77 : decode prog_1_method_1_code 77 = .ok (.invokespecial 42, 3) := by decide +kernel
theorem mo_V_init : am_mo mt_V_init 0 := ⟨⟨by decide +kernel, by decide +kernel⟩, by decide +kernel, ⟨by decide +kernel, by decide +kernel⟩, (am_t1 193 rfl rfl), (am_t1 7 rfl rfl), by decide +kernel⟩
theorem im_V_init : Cond.instanceMethod mt_V_init.1 ∈ am_gw := (am_t1 192 rfl rfl)
theorem ln_W_42 : am_ln "WebFinder" 42 mt_V_init.1 := Or.inr ⟨"WebFinder", (am_n1 191 rfl rfl)⟩
theorem dc_W_init_80 : decode prog_1_method_1_code 80 = .ok (.putfield 43, 3) := by decide +kernel
theorem fp_W_init_43 : am_fp mt_W_init.1 43 0 5 (.object "WebFinder$Web") := ⟨"WebFinder", tt_W, 11, rfl, by decide, ct_W 5 (by decide), Or.inl ⟨(am_t2 152 rfl rfl), Or.inr ⟨rfl, rfl, rfl⟩⟩⟩
theorem dc_W_init_83 : decode prog_1_method_1_code 83 = .ok (.aload_n 0, 1) := by decide +kernel
theorem dc_W_init_84 : decode prog_1_method_1_code 84 = .ok (.iconst 4, 1) := by decide +kernel
theorem dc_W_init_85 : decode prog_1_method_1_code 85 = .ok (.newarray .int, 2) := by decide +kernel
theorem dc_W_init_87 : decode prog_1_method_1_code 87 = .ok (.dup, 1) := by decide +kernel
theorem dc_W_init_88 : decode prog_1_method_1_code 88 = .ok (.iconst 0, 1) := by decide +kernel
theorem dc_W_init_89 : decode prog_1_method_1_code 89 = .ok (.iconst 3, 1) := by decide +kernel
theorem dc_W_init_90 : decode prog_1_method_1_code 90 = .ok (.iastore, 1) := by decide +kernel
theorem dc_W_init_91 : decode prog_1_method_1_code 91 = .ok (.dup, 1) := by decide +kernel
theorem dc_W_init_92 : decode prog_1_method_1_code 92 = .ok (.iconst 1, 1) := by decide +kernel
theorem dc_W_init_93 : decode prog_1_method_1_code 93 = .ok (.iconst 3, 1) := by decide +kernel
theorem dc_W_init_94 : decode prog_1_method_1_code 94 = .ok (.iastore, 1) := by decide +kernel
theorem dc_W_init_95 : decode prog_1_method_1_code 95 = .ok (.dup, 1) := by decide +kernel
theorem dc_W_init_96 : decode prog_1_method_1_code 96 = .ok (.iconst 2, 1) := by decide +kernel
theorem dc_W_init_97 : decode prog_1_method_1_code 97 = .ok (.iconst 2, 1) := by decide +kernel
theorem dc_W_init_98 : decode prog_1_method_1_code 98 = .ok (.iastore, 1) := by decide +kernel
theorem dc_W_init_99 : decode prog_1_method_1_code 99 = .ok (.dup, 1) := by decide +kernel
theorem dc_W_init_100 : decode prog_1_method_1_code 100 = .ok (.iconst 3, 1) := by decide +kernel
theorem dc_W_init_101 : decode prog_1_method_1_code 101 = .ok (.iconst 4, 1) := by decide +kernel
theorem dc_W_init_102 : decode prog_1_method_1_code 102 = .ok (.iastore, 1) := by decide +kernel
theorem dc_W_init_103 : decode prog_1_method_1_code 103 = .ok (.putfield 47, 3) := by decide +kernel
theorem fp_W_init_47 : am_fp mt_W_init.1 47 0 6 (.array .int) := ⟨"WebFinder", tt_W, 11, rfl, by decide, ct_W 6 (by decide), Or.inl ⟨(am_t2 153 rfl rfl), Or.inr ⟨rfl, rfl, rfl⟩⟩⟩
theorem dc_W_init_106 : decode prog_1_method_1_code 106 = .ok (.aload_n 0, 1) := by decide +kernel
theorem dc_W_init_107 : decode prog_1_method_1_code 107 = .ok (.new 51, 3) := by decide +kernel
theorem mk_W_51 : am_mk "WebFinder" 51 4 [.null, .null, .int 0] := ⟨"WebFinder$Rows", tt_R, 3, ty_R, rfl, ct_R, (am_t1 213 rfl rfl), (am_t1 96 rfl rfl), (am_t1 5 rfl rfl), rfl, fun _ => rfl, by decide +kernel⟩
theorem dc_W_init_110 : decode prog_1_method_1_code 110 = .ok (.dup, 1) := by decide +kernel
theorem dc_W_init_111 : decode prog_1_method_1_code 111 = .ok (.sipush 256, 3) := by decide +kernel
theorem dc_W_init_114 : decode prog_1_method_1_code 114 = .ok (.bipush 20, 2) := by decide +kernel
theorem dc_W_init_116 : decode prog_1_method_1_code 116 = .ok (.invokespecial 53, 3) := by decide +kernel
theorem mo_R_init : am_mo mt_R_init 2 := ⟨⟨by decide +kernel, by decide +kernel⟩, by decide +kernel, ⟨by decide +kernel, by decide +kernel⟩, (am_t1 99 rfl rfl), (am_t1 5 rfl rfl), by decide +kernel⟩
theorem im_R_init : Cond.instanceMethod mt_R_init.1 ∈ am_gw := (am_t1 98 rfl rfl)
theorem ln_W_53 : am_ln "WebFinder" 53 mt_R_init.1 := Or.inl (am_t1 214 rfl rfl)
theorem dc_W_init_119 : decode prog_1_method_1_code 119 = .ok (.putfield 56, 3) := by decide +kernel
theorem fp_W_init_56 : am_fp mt_W_init.1 56 0 7 (.object "WebFinder$Rows") := ⟨"WebFinder", tt_W, 11, rfl, by decide, ct_W 7 (by decide), Or.inl ⟨(am_t2 154 rfl rfl), Or.inr ⟨rfl, rfl, rfl⟩⟩⟩
theorem dc_W_init_122 : decode prog_1_method_1_code 122 = .ok (.aload_n 0, 1) := by decide +kernel
theorem dc_W_init_123 : decode prog_1_method_1_code 123 = .ok (.new 60, 3) := by decide +kernel
theorem mk_W_60 : am_mk "WebFinder" 60 7 [.int 0, .int 0, .int 0, .null, .null, .null, .null, .null, .null, .null, .null, .null, .null, .null, .null, .int 0, .int 0, .int 0] := ⟨"WebFinder$Crawl", tt_C, 18, ty_C, rfl, ct_C, (am_t1 215 rfl rfl), (am_t1 216 rfl rfl), (am_t1 8 rfl rfl), rfl, fun _ => rfl, by decide +kernel⟩
theorem dc_W_init_126 : decode prog_1_method_1_code 126 = .ok (.dup, 1) := by decide +kernel
theorem dc_W_init_127 : decode prog_1_method_1_code 127 = .ok (.aload_n 0, 1) := by decide +kernel
theorem dc_W_init_128 : decode prog_1_method_1_code 128 = .ok (.getfield 43, 3) := by decide +kernel
theorem fl_W_43 : am_fl "WebFinder" 43 0 5 := ⟨"WebFinder", tt_W, 11, rfl, by decide, Or.inl (am_t2 152 rfl rfl)⟩
theorem dc_W_init_131 : decode prog_1_method_1_code 131 = .ok (.aload_n 0, 1) := by decide +kernel
theorem dc_W_init_132 : decode prog_1_method_1_code 132 = .ok (.getfield 27, 3) := by decide +kernel
theorem dc_W_init_135 : decode prog_1_method_1_code 135 = .ok (.aload_n 0, 1) := by decide +kernel
theorem dc_W_init_136 : decode prog_1_method_1_code 136 = .ok (.getfield 36, 3) := by decide +kernel
theorem fl_W_36 : am_fl "WebFinder" 36 0 4 := ⟨"WebFinder", tt_W, 11, rfl, by decide, Or.inl (am_t2 151 rfl rfl)⟩
theorem dc_W_init_139 : decode prog_1_method_1_code 139 = .ok (.invokespecial 62, 3) := by decide +kernel
theorem mo_C_init : am_mo mt_C_init 3 := ⟨⟨by decide +kernel, by decide +kernel⟩, by decide +kernel, ⟨by decide +kernel, by decide +kernel⟩, (am_t1 219 rfl rfl), (am_t1 8 rfl rfl), by decide +kernel⟩
theorem im_C_init : Cond.instanceMethod mt_C_init.1 ∈ am_gw := (am_t1 218 rfl rfl)
theorem ln_W_62 : am_ln "WebFinder" 62 mt_C_init.1 := Or.inl (am_t1 217 rfl rfl)
theorem dc_W_init_142 : decode prog_1_method_1_code 142 = .ok (.putfield 65, 3) := by decide +kernel
theorem fp_W_init_65 : am_fp mt_W_init.1 65 0 8 (.object "WebFinder$Crawl") := ⟨"WebFinder", tt_W, 11, rfl, by decide, ct_W 8 (by decide), Or.inl ⟨(am_t2 155 rfl rfl), Or.inr ⟨rfl, rfl, rfl⟩⟩⟩
theorem dc_W_init_145 : decode prog_1_method_1_code 145 = .ok (.aload_n 0, 1) := by decide +kernel
theorem dc_W_init_146 : decode prog_1_method_1_code 146 = .ok (.new 69, 3) := by decide +kernel
theorem mk_W_69 : am_mk "WebFinder" 69 8 [.int 0, .null, .null, .null, .null, .null, .null, .null, .null, .null, .null, .null, .null, .null, .null] := ⟨"WebFinder$Documents", tt_D, 15, ty_D, rfl, ct_D, (am_t2 53 rfl rfl), (am_t2 54 rfl rfl), (am_t1 9 rfl rfl), rfl, fun _ => rfl, by decide +kernel⟩
theorem dc_W_init_149 : decode prog_1_method_1_code 149 = .ok (.dup, 1) := by decide +kernel
theorem dc_W_init_150 : decode prog_1_method_1_code 150 = .ok (.aload_n 0, 1) := by decide +kernel
theorem dc_W_init_151 : decode prog_1_method_1_code 151 = .ok (.getfield 36, 3) := by decide +kernel
theorem dc_W_init_154 : decode prog_1_method_1_code 154 = .ok (.invokespecial 71, 3) := by decide +kernel
theorem mo_D_init : am_mo mt_D_init 1 := ⟨⟨by decide +kernel, by decide +kernel⟩, by decide +kernel, ⟨by decide +kernel, by decide +kernel⟩, (am_t2 57 rfl rfl), (am_t1 9 rfl rfl), by decide +kernel⟩
theorem im_D_init : Cond.instanceMethod mt_D_init.1 ∈ am_gw := (am_t2 56 rfl rfl)
theorem ln_W_71 : am_ln "WebFinder" 71 mt_D_init.1 := Or.inl (am_t2 55 rfl rfl)
theorem dc_W_init_157 : decode prog_1_method_1_code 157 = .ok (.putfield 74, 3) := by decide +kernel
theorem fp_W_init_74 : am_fp mt_W_init.1 74 0 9 (.object "WebFinder$Documents") := ⟨"WebFinder", tt_W, 11, rfl, by decide, ct_W 9 (by decide), Or.inl ⟨(am_t2 156 rfl rfl), Or.inr ⟨rfl, rfl, rfl⟩⟩⟩
theorem dc_W_init_160 : decode prog_1_method_1_code 160 = .ok (.aload_n 0, 1) := by decide +kernel
theorem dc_W_init_161 : decode prog_1_method_1_code 161 = .ok (.new 78, 3) := by decide +kernel
theorem mk_W_78 : am_mk "WebFinder" 78 9 [.int 0, .null, .null, .null] := ⟨"WebFinder$Answers", tt_N, 4, ty_N, rfl, ct_N, (am_t2 122 rfl rfl), (am_t2 123 rfl rfl), (am_t1 10 rfl rfl), rfl, fun _ => rfl, by decide +kernel⟩
theorem dc_W_init_164 : decode prog_1_method_1_code 164 = .ok (.dup, 1) := by decide +kernel
theorem dc_W_init_165 : decode prog_1_method_1_code 165 = .ok (.invokespecial 80, 3) := by decide +kernel
theorem mo_N_init : am_mo mt_N_init 0 := ⟨⟨by decide +kernel, by decide +kernel⟩, by decide +kernel, ⟨by decide +kernel, by decide +kernel⟩, (am_t2 126 rfl rfl), (am_t1 10 rfl rfl), by decide +kernel⟩
theorem im_N_init : Cond.instanceMethod mt_N_init.1 ∈ am_gw := (am_t2 125 rfl rfl)
theorem ln_W_80 : am_ln "WebFinder" 80 mt_N_init.1 := Or.inr ⟨"WebFinder", (am_n2 124 rfl rfl)⟩
theorem dc_W_init_168 : decode prog_1_method_1_code 168 = .ok (.putfield 81, 3) := by decide +kernel
theorem fp_W_init_81 : am_fp mt_W_init.1 81 0 10 (.object "WebFinder$Answers") := ⟨"WebFinder", tt_W, 11, rfl, by decide, ct_W 10 (by decide), Or.inl ⟨(am_t2 157 rfl rfl), Or.inr ⟨rfl, rfl, rfl⟩⟩⟩
theorem dc_W_init_171 : decode prog_1_method_1_code 171 = .ok (.return_, 1) := by decide +kernel
theorem dc_B_init_0 : decode prog_4_method_1_code 0 = .ok (.aload_n 0, 1) := by decide +kernel
theorem dc_B_init_1 : decode prog_4_method_1_code 1 = .ok (.invokespecial 3, 3) := by decide +kernel
theorem ob_B_3 : Cond.methodLink "WebFinder$Bytes" 3 Lib.objectInit ∈ am_gw := (am_t1 44 rfl rfl)
theorem dc_B_init_4 : decode prog_4_method_1_code 4 = .ok (.aload_n 0, 1) := by decide +kernel
theorem dc_B_init_5 : decode prog_4_method_1_code 5 = .ok (.iload_n 1, 1) := by decide +kernel
theorem dc_B_init_6 : decode prog_4_method_1_code 6 = .ok (.newarray .byte, 2) := by decide +kernel
theorem dc_B_init_8 : decode prog_4_method_1_code 8 = .ok (.putfield 9, 3) := by decide +kernel
theorem fp_B_init_9 : am_fp mt_B_init.1 9 1 0 (.array .byte) := ⟨"WebFinder$Bytes", tt_B, 2, rfl, by decide, ct_B 0 (by decide), Or.inl ⟨(am_t1 46 rfl rfl), Or.inl rfl⟩⟩
theorem dc_B_init_11 : decode prog_4_method_1_code 11 = .ok (.return_, 1) := by decide +kernel
theorem dc_A_init_0 : decode prog_2_method_1_code 0 = .ok (.aload_n 0, 1) := by decide +kernel
theorem dc_A_init_1 : decode prog_2_method_1_code 1 = .ok (.invokespecial 3, 3) := by decide +kernel
theorem ob_A_3 : Cond.methodLink "WebFinder$AddressReader" 3 Lib.objectInit ∈ am_gw := (am_t1 76 rfl rfl)
theorem dc_A_init_4 : decode prog_2_method_1_code 4 = .ok (.aload_n 0, 1) := by decide +kernel
theorem dc_A_init_5 : decode prog_2_method_1_code 5 = .ok (.new 9, 3) := by decide +kernel
theorem mk_A_9 : am_mk "WebFinder$AddressReader" 9 1 [.null, .int 0] := ⟨"WebFinder$Bytes", tt_B, 2, ty_B, rfl, ct_B, (am_t1 77 rfl rfl), (am_t1 40 rfl rfl), (am_t1 2 rfl rfl), rfl, fun _ => rfl, by decide +kernel⟩
theorem dc_A_init_8 : decode prog_2_method_1_code 8 = .ok (.dup, 1) := by decide +kernel
theorem dc_A_init_9 : decode prog_2_method_1_code 9 = .ok (.sipush 512, 3) := by decide +kernel
theorem dc_A_init_12 : decode prog_2_method_1_code 12 = .ok (.invokespecial 11, 3) := by decide +kernel
theorem ln_A_11 : am_ln "WebFinder$AddressReader" 11 mt_B_init.1 := Or.inl (am_t1 78 rfl rfl)
theorem dc_A_init_15 : decode prog_2_method_1_code 15 = .ok (.putfield 14, 3) := by decide +kernel
theorem fp_A_init_14 : am_fp mt_A_init.1 14 2 0 (.object "WebFinder$Bytes") := ⟨"WebFinder$AddressReader", tt_A, 2, rfl, by decide, ct_A 0 (by decide), Or.inl ⟨(am_t1 79 rfl rfl), Or.inr ⟨rfl, rfl, rfl⟩⟩⟩
theorem dc_A_init_18 : decode prog_2_method_1_code 18 = .ok (.aload_n 0, 1) := by decide +kernel
theorem dc_A_init_19 : decode prog_2_method_1_code 19 = .ok (.new 9, 3) := by decide +kernel
theorem dc_A_init_22 : decode prog_2_method_1_code 22 = .ok (.dup, 1) := by decide +kernel
theorem dc_A_init_23 : decode prog_2_method_1_code 23 = .ok (.sipush 512, 3) := by decide +kernel
theorem dc_A_init_26 : decode prog_2_method_1_code 26 = .ok (.invokespecial 11, 3) := by decide +kernel
theorem dc_A_init_29 : decode prog_2_method_1_code 29 = .ok (.putfield 20, 3) := by decide +kernel
theorem fp_A_init_20 : am_fp mt_A_init.1 20 2 1 (.object "WebFinder$Bytes") := ⟨"WebFinder$AddressReader", tt_A, 2, rfl, by decide, ct_A 1 (by decide), Or.inl ⟨(am_t1 83 rfl rfl), Or.inr ⟨rfl, rfl, rfl⟩⟩⟩
theorem dc_A_init_32 : decode prog_2_method_1_code 32 = .ok (.return_, 1) := by decide +kernel
theorem dc_P_init_0 : decode prog_8_method_1_code 0 = .ok (.aload_n 0, 1) := by decide +kernel
theorem dc_P_init_1 : decode prog_8_method_1_code 1 = .ok (.invokespecial 3, 3) := by decide +kernel
theorem ob_P_3 : Cond.methodLink "WebFinder$PageReader" 3 Lib.objectInit ∈ am_gw := (am_t1 94 rfl rfl)
theorem dc_P_init_4 : decode prog_8_method_1_code 4 = .ok (.aload_n 0, 1) := by decide +kernel
theorem dc_P_init_5 : decode prog_8_method_1_code 5 = .ok (.new 9, 3) := by decide +kernel
theorem mk_P_9 : am_mk "WebFinder$PageReader" 9 4 [.null, .null, .int 0] := ⟨"WebFinder$Rows", tt_R, 3, ty_R, rfl, ct_R, (am_t1 95 rfl rfl), (am_t1 96 rfl rfl), (am_t1 5 rfl rfl), rfl, fun _ => rfl, by decide +kernel⟩
theorem dc_P_init_8 : decode prog_8_method_1_code 8 = .ok (.dup, 1) := by decide +kernel
theorem dc_P_init_9 : decode prog_8_method_1_code 9 = .ok (.sipush 512, 3) := by decide +kernel
theorem dc_P_init_12 : decode prog_8_method_1_code 12 = .ok (.bipush 60, 2) := by decide +kernel
theorem dc_P_init_14 : decode prog_8_method_1_code 14 = .ok (.invokespecial 11, 3) := by decide +kernel
theorem ln_P_11 : am_ln "WebFinder$PageReader" 11 mt_R_init.1 := Or.inl (am_t1 97 rfl rfl)
theorem dc_P_init_17 : decode prog_8_method_1_code 17 = .ok (.putfield 14, 3) := by decide +kernel
theorem fp_P_init_14 : am_fp mt_P_init.1 14 3 0 (.object "WebFinder$Rows") := ⟨"WebFinder$PageReader", tt_P, 6, rfl, by decide, ct_P 0 (by decide), Or.inl ⟨(am_t1 166 rfl rfl), Or.inr ⟨rfl, rfl, rfl⟩⟩⟩
theorem dc_P_init_20 : decode prog_8_method_1_code 20 = .ok (.aload_n 0, 1) := by decide +kernel
theorem dc_P_init_21 : decode prog_8_method_1_code 21 = .ok (.new 9, 3) := by decide +kernel
theorem dc_P_init_24 : decode prog_8_method_1_code 24 = .ok (.dup, 1) := by decide +kernel
theorem dc_P_init_25 : decode prog_8_method_1_code 25 = .ok (.sipush 512, 3) := by decide +kernel
theorem dc_P_init_28 : decode prog_8_method_1_code 28 = .ok (.sipush 128, 3) := by decide +kernel
theorem dc_P_init_31 : decode prog_8_method_1_code 31 = .ok (.invokespecial 11, 3) := by decide +kernel
theorem dc_P_init_34 : decode prog_8_method_1_code 34 = .ok (.putfield 20, 3) := by decide +kernel
theorem fp_P_init_20 : am_fp mt_P_init.1 20 3 1 (.object "WebFinder$Rows") := ⟨"WebFinder$PageReader", tt_P, 6, rfl, by decide, ct_P 1 (by decide), Or.inl ⟨(am_t1 170 rfl rfl), Or.inr ⟨rfl, rfl, rfl⟩⟩⟩
theorem dc_P_init_37 : decode prog_8_method_1_code 37 = .ok (.aload_n 0, 1) := by decide +kernel
theorem dc_P_init_38 : decode prog_8_method_1_code 38 = .ok (.new 23, 3) := by decide +kernel
theorem mk_P_23 : am_mk "WebFinder$PageReader" 23 5 [.int 0, .int 0, .int 0, .int 0, .null, .int 0, .int 0, .int 0, .int 0] := ⟨"WebFinder$PageScanner", tt_S, 9, ty_S, rfl, ct_S, (am_t1 126 rfl rfl), (am_t1 127 rfl rfl), (am_t1 6 rfl rfl), rfl, fun _ => rfl, by decide +kernel⟩
theorem dc_P_init_41 : decode prog_8_method_1_code 41 = .ok (.dup, 1) := by decide +kernel
theorem dc_P_init_42 : decode prog_8_method_1_code 42 = .ok (.invokespecial 25, 3) := by decide +kernel
theorem mo_S_init : am_mo mt_S_init 0 := ⟨⟨by decide +kernel, by decide +kernel⟩, by decide +kernel, ⟨by decide +kernel, by decide +kernel⟩, (am_t1 130 rfl rfl), (am_t1 6 rfl rfl), by decide +kernel⟩
theorem im_S_init : Cond.instanceMethod mt_S_init.1 ∈ am_gw := (am_t1 129 rfl rfl)
theorem ln_P_25 : am_ln "WebFinder$PageReader" 25 mt_S_init.1 := Or.inr ⟨"WebFinder", (am_n1 128 rfl rfl)⟩
theorem dc_P_init_45 : decode prog_8_method_1_code 45 = .ok (.putfield 26, 3) := by decide +kernel
theorem fp_P_init_26 : am_fp mt_P_init.1 26 3 3 (.object "WebFinder$PageScanner") := ⟨"WebFinder$PageReader", tt_P, 6, rfl, by decide, ct_P 3 (by decide), Or.inl ⟨(am_t1 173 rfl rfl), Or.inr ⟨rfl, rfl, rfl⟩⟩⟩
theorem dc_P_init_48 : decode prog_8_method_1_code 48 = .ok (.aload_n 0, 1) := by decide +kernel
theorem dc_P_init_49 : decode prog_8_method_1_code 49 = .ok (.new 30, 3) := by decide +kernel
theorem mk_P_30 : am_mk "WebFinder$PageReader" 30 1 [.null, .int 0] := ⟨"WebFinder$Bytes", tt_B, 2, ty_B, rfl, ct_B, (am_t1 164 rfl rfl), (am_t1 40 rfl rfl), (am_t1 2 rfl rfl), rfl, fun _ => rfl, by decide +kernel⟩
theorem dc_P_init_52 : decode prog_8_method_1_code 52 = .ok (.dup, 1) := by decide +kernel
theorem dc_P_init_53 : decode prog_8_method_1_code 53 = .ok (.sipush 200, 3) := by decide +kernel
theorem dc_P_init_56 : decode prog_8_method_1_code 56 = .ok (.invokespecial 32, 3) := by decide +kernel
theorem ln_P_32 : am_ln "WebFinder$PageReader" 32 mt_B_init.1 := Or.inl (am_t1 165 rfl rfl)
theorem dc_P_init_59 : decode prog_8_method_1_code 59 = .ok (.putfield 35, 3) := by decide +kernel
theorem fp_P_init_35 : am_fp mt_P_init.1 35 3 4 (.object "WebFinder$Bytes") := ⟨"WebFinder$PageReader", tt_P, 6, rfl, by decide, ct_P 4 (by decide), Or.inl ⟨(am_t1 174 rfl rfl), Or.inr ⟨rfl, rfl, rfl⟩⟩⟩
theorem dc_P_init_62 : decode prog_8_method_1_code 62 = .ok (.aload_n 0, 1) := by decide +kernel
theorem dc_P_init_63 : decode prog_8_method_1_code 63 = .ok (.new 30, 3) := by decide +kernel
theorem dc_P_init_66 : decode prog_8_method_1_code 66 = .ok (.dup, 1) := by decide +kernel
theorem dc_P_init_67 : decode prog_8_method_1_code 67 = .ok (.sipush 512, 3) := by decide +kernel
theorem dc_P_init_70 : decode prog_8_method_1_code 70 = .ok (.invokespecial 32, 3) := by decide +kernel
theorem dc_P_init_73 : decode prog_8_method_1_code 73 = .ok (.putfield 39, 3) := by decide +kernel
theorem fp_P_init_39 : am_fp mt_P_init.1 39 3 5 (.object "WebFinder$Bytes") := ⟨"WebFinder$PageReader", tt_P, 6, rfl, by decide, ct_P 5 (by decide), Or.inl ⟨(am_t1 175 rfl rfl), Or.inr ⟨rfl, rfl, rfl⟩⟩⟩
theorem dc_P_init_76 : decode prog_8_method_1_code 76 = .ok (.aload_n 0, 1) := by decide +kernel
theorem dc_P_init_77 : decode prog_8_method_1_code 77 = .ok (.aload_n 1, 1) := by decide +kernel
theorem dc_P_init_78 : decode prog_8_method_1_code 78 = .ok (.putfield 42, 3) := by decide +kernel
theorem fp_P_init_42 : am_fp mt_P_init.1 42 3 2 (.object "WebFinder$AddressReader") := ⟨"WebFinder$PageReader", tt_P, 6, rfl, by decide, ct_P 2 (by decide), Or.inl ⟨(am_t1 172 rfl rfl), Or.inr ⟨rfl, rfl, rfl⟩⟩⟩
theorem dc_P_init_81 : decode prog_8_method_1_code 81 = .ok (.return_, 1) := by decide +kernel
theorem dc_R_init_0 : decode prog_10_method_1_code 0 = .ok (.aload_n 0, 1) := by decide +kernel
theorem dc_R_init_1 : decode prog_10_method_1_code 1 = .ok (.invokespecial 3, 3) := by decide +kernel
theorem ob_R_3 : Cond.methodLink "WebFinder$Rows" 3 Lib.objectInit ∈ am_gw := (am_t1 100 rfl rfl)
theorem dc_R_init_4 : decode prog_10_method_1_code 4 = .ok (.aload_n 0, 1) := by decide +kernel
theorem dc_R_init_5 : decode prog_10_method_1_code 5 = .ok (.new 9, 3) := by decide +kernel
theorem mk_R_9 : am_mk "WebFinder$Rows" 9 1 [.null, .int 0] := ⟨"WebFinder$Bytes", tt_B, 2, ty_B, rfl, ct_B, (am_t1 101 rfl rfl), (am_t1 40 rfl rfl), (am_t1 2 rfl rfl), rfl, fun _ => rfl, by decide +kernel⟩
theorem dc_R_init_8 : decode prog_10_method_1_code 8 = .ok (.dup, 1) := by decide +kernel
theorem dc_R_init_9 : decode prog_10_method_1_code 9 = .ok (.iload_n 1, 1) := by decide +kernel
theorem dc_R_init_10 : decode prog_10_method_1_code 10 = .ok (.invokespecial 11, 3) := by decide +kernel
theorem ln_R_11 : am_ln "WebFinder$Rows" 11 mt_B_init.1 := Or.inl (am_t1 102 rfl rfl)
theorem dc_R_init_13 : decode prog_10_method_1_code 13 = .ok (.putfield 14, 3) := by decide +kernel
theorem fp_R_init_14 : am_fp mt_R_init.1 14 4 0 (.object "WebFinder$Bytes") := ⟨"WebFinder$Rows", tt_R, 3, rfl, by decide, ct_R 0 (by decide), Or.inl ⟨(am_t1 103 rfl rfl), Or.inr ⟨rfl, rfl, rfl⟩⟩⟩
theorem dc_R_init_16 : decode prog_10_method_1_code 16 = .ok (.aload_n 0, 1) := by decide +kernel
theorem dc_R_init_17 : decode prog_10_method_1_code 17 = .ok (.iload_n 2, 1) := by decide +kernel
theorem dc_R_init_18 : decode prog_10_method_1_code 18 = .ok (.newarray .int, 2) := by decide +kernel
theorem dc_R_init_20 : decode prog_10_method_1_code 20 = .ok (.putfield 20, 3) := by decide +kernel
theorem fp_R_init_20 : am_fp mt_R_init.1 20 4 1 (.array .int) := ⟨"WebFinder$Rows", tt_R, 3, rfl, by decide, ct_R 1 (by decide), Or.inl ⟨(am_t1 110 rfl rfl), Or.inl rfl⟩⟩
theorem dc_R_init_23 : decode prog_10_method_1_code 23 = .ok (.return_, 1) := by decide +kernel
theorem dc_S_init_0 : decode prog_9_method_1_code 0 = .ok (.aload_n 0, 1) := by decide +kernel
theorem dc_S_init_1 : decode prog_9_method_1_code 1 = .ok (.invokespecial 3, 3) := by decide +kernel
theorem ob_S_3 : Cond.methodLink "WebFinder$PageScanner" 3 Lib.objectInit ∈ am_gw := (am_t1 131 rfl rfl)
theorem dc_S_init_4 : decode prog_9_method_1_code 4 = .ok (.return_, 1) := by decide +kernel
theorem dc_V_init_0 : decode prog_12_method_1_code 0 = .ok (.aload_n 0, 1) := by decide +kernel
theorem dc_V_init_1 : decode prog_12_method_1_code 1 = .ok (.invokespecial 3, 3) := by decide +kernel
theorem ob_V_3 : Cond.methodLink "WebFinder$Web" 3 Lib.objectInit ∈ am_gw := (am_t1 194 rfl rfl)
theorem dc_V_init_4 : decode prog_12_method_1_code 4 = .ok (.aload_n 0, 1) := by decide +kernel
theorem dc_V_init_5 : decode prog_12_method_1_code 5 = .ok (.bipush 60, 2) := by decide +kernel
theorem dc_V_init_7 : decode prog_12_method_1_code 7 = .ok (.anewarray 9, 3) := by decide +kernel
theorem dc_V_init_10 : decode prog_12_method_1_code 10 = .ok (.putfield 11, 3) := by decide +kernel
theorem fp_V_init_11 : am_fp mt_V_init.1 11 6 1 (.array (.object "WebFinder$Page")) := ⟨"WebFinder$Web", tt_V, 4, rfl, by decide, ct_V 1 (by decide), Or.inl ⟨(am_t1 201 rfl rfl), Or.inr ⟨rfl, rfl, rfl⟩⟩⟩
theorem dc_V_init_13 : decode prog_12_method_1_code 13 = .ok (.aload_n 0, 1) := by decide +kernel
theorem dc_V_init_14 : decode prog_12_method_1_code 14 = .ok (.bipush 12, 2) := by decide +kernel
theorem dc_V_init_16 : decode prog_12_method_1_code 16 = .ok (.anewarray 17, 3) := by decide +kernel
theorem dc_V_init_19 : decode prog_12_method_1_code 19 = .ok (.putfield 19, 3) := by decide +kernel
theorem fp_V_init_19 : am_fp mt_V_init.1 19 6 2 (.array (.object "WebFinder$SiteRules")) := ⟨"WebFinder$Web", tt_V, 4, rfl, by decide, ct_V 2 (by decide), Or.inl ⟨(am_t1 202 rfl rfl), Or.inr ⟨rfl, rfl, rfl⟩⟩⟩
theorem dc_V_init_22 : decode prog_12_method_1_code 22 = .ok (.return_, 1) := by decide +kernel
theorem dc_C_init_0 : decode prog_5_method_1_code 0 = .ok (.aload_n 0, 1) := by decide +kernel
theorem dc_C_init_1 : decode prog_5_method_1_code 1 = .ok (.invokespecial 3, 3) := by decide +kernel
theorem ob_C_3 : Cond.methodLink "WebFinder$Crawl" 3 Lib.objectInit ∈ am_gw := (am_t1 220 rfl rfl)
theorem dc_C_init_4 : decode prog_5_method_1_code 4 = .ok (.aload_n 0, 1) := by decide +kernel
theorem dc_C_init_5 : decode prog_5_method_1_code 5 = .ok (.new 9, 3) := by decide +kernel
theorem mk_C_9 : am_mk "WebFinder$Crawl" 9 4 [.null, .null, .int 0] := ⟨"WebFinder$Rows", tt_R, 3, ty_R, rfl, ct_R, (am_t1 221 rfl rfl), (am_t1 96 rfl rfl), (am_t1 5 rfl rfl), rfl, fun _ => rfl, by decide +kernel⟩
theorem dc_C_init_8 : decode prog_5_method_1_code 8 = .ok (.dup, 1) := by decide +kernel
theorem dc_C_init_9 : decode prog_5_method_1_code 9 = .ok (.sipush 1024, 3) := by decide +kernel
theorem dc_C_init_12 : decode prog_5_method_1_code 12 = .ok (.sipush 250, 3) := by decide +kernel
theorem dc_C_init_15 : decode prog_5_method_1_code 15 = .ok (.invokespecial 11, 3) := by decide +kernel
theorem ln_C_11 : am_ln "WebFinder$Crawl" 11 mt_R_init.1 := Or.inl (am_t1 222 rfl rfl)
theorem dc_C_init_18 : decode prog_5_method_1_code 18 = .ok (.putfield 14, 3) := by decide +kernel
theorem fp_C_init_14 : am_fp mt_C_init.1 14 7 3 (.object "WebFinder$Rows") := ⟨"WebFinder$Crawl", tt_C, 18, rfl, by decide, ct_C 3 (by decide), Or.inl ⟨(am_t1 234 rfl rfl), Or.inr ⟨rfl, rfl, rfl⟩⟩⟩
theorem dc_C_init_21 : decode prog_5_method_1_code 21 = .ok (.aload_n 0, 1) := by decide +kernel
theorem dc_C_init_22 : decode prog_5_method_1_code 22 = .ok (.iconst 4, 1) := by decide +kernel
theorem dc_C_init_23 : decode prog_5_method_1_code 23 = .ok (.sipush 250, 3) := by decide +kernel
theorem dc_C_init_26 : decode prog_5_method_1_code 26 = .ok (.multianewarray 20 2, 4) := by decide +kernel
theorem dc_C_init_30 : decode prog_5_method_1_code 30 = .ok (.putfield 22, 3) := by decide +kernel
theorem fp_C_init_22 : am_fp mt_C_init.1 22 7 4 (.array (.array .int)) := ⟨"WebFinder$Crawl", tt_C, 18, rfl, by decide, ct_C 4 (by decide), Or.inl ⟨(am_t1 237 rfl rfl), Or.inr ⟨rfl, rfl, rfl⟩⟩⟩
theorem dc_C_init_33 : decode prog_5_method_1_code 33 = .ok (.aload_n 0, 1) := by decide +kernel
theorem dc_C_init_34 : decode prog_5_method_1_code 34 = .ok (.sipush 250, 3) := by decide +kernel
theorem dc_C_init_37 : decode prog_5_method_1_code 37 = .ok (.anewarray 25, 3) := by decide +kernel
theorem dc_C_init_40 : decode prog_5_method_1_code 40 = .ok (.putfield 27, 3) := by decide +kernel
theorem fp_C_init_27 : am_fp mt_C_init.1 27 7 5 (.array (.object "WebFinder$Page")) := ⟨"WebFinder$Crawl", tt_C, 18, rfl, by decide, ct_C 5 (by decide), Or.inl ⟨(am_t2 0 rfl rfl), Or.inr ⟨rfl, rfl, rfl⟩⟩⟩
theorem dc_C_init_43 : decode prog_5_method_1_code 43 = .ok (.aload_n 0, 1) := by decide +kernel
theorem dc_C_init_44 : decode prog_5_method_1_code 44 = .ok (.new 9, 3) := by decide +kernel
theorem dc_C_init_47 : decode prog_5_method_1_code 47 = .ok (.dup, 1) := by decide +kernel
theorem dc_C_init_48 : decode prog_5_method_1_code 48 = .ok (.sipush 1024, 3) := by decide +kernel
theorem dc_C_init_51 : decode prog_5_method_1_code 51 = .ok (.sipush 1000, 3) := by decide +kernel
theorem dc_C_init_54 : decode prog_5_method_1_code 54 = .ok (.invokespecial 11, 3) := by decide +kernel
theorem dc_C_init_57 : decode prog_5_method_1_code 57 = .ok (.putfield 31, 3) := by decide +kernel
theorem fp_C_init_31 : am_fp mt_C_init.1 31 7 6 (.object "WebFinder$Rows") := ⟨"WebFinder$Crawl", tt_C, 18, rfl, by decide, ct_C 6 (by decide), Or.inl ⟨(am_t2 2 rfl rfl), Or.inr ⟨rfl, rfl, rfl⟩⟩⟩
theorem dc_C_init_60 : decode prog_5_method_1_code 60 = .ok (.aload_n 0, 1) := by decide +kernel
theorem dc_C_init_61 : decode prog_5_method_1_code 61 = .ok (.sipush 1000, 3) := by decide +kernel
theorem dc_C_init_64 : decode prog_5_method_1_code 64 = .ok (.newarray .int, 2) := by decide +kernel
theorem dc_C_init_66 : decode prog_5_method_1_code 66 = .ok (.putfield 34, 3) := by decide +kernel
theorem fp_C_init_34 : am_fp mt_C_init.1 34 7 7 (.array .int) := ⟨"WebFinder$Crawl", tt_C, 18, rfl, by decide, ct_C 7 (by decide), Or.inl ⟨(am_t2 4 rfl rfl), Or.inr ⟨rfl, rfl, rfl⟩⟩⟩
theorem dc_C_init_69 : decode prog_5_method_1_code 69 = .ok (.aload_n 0, 1) := by decide +kernel
theorem dc_C_init_70 : decode prog_5_method_1_code 70 = .ok (.iconst 4, 1) := by decide +kernel
theorem dc_C_init_71 : decode prog_5_method_1_code 71 = .ok (.newarray .int, 2) := by decide +kernel
theorem dc_C_init_73 : decode prog_5_method_1_code 73 = .ok (.putfield 38, 3) := by decide +kernel
theorem fp_C_init_38 : am_fp mt_C_init.1 38 7 11 (.array .int) := ⟨"WebFinder$Crawl", tt_C, 18, rfl, by decide, ct_C 11 (by decide), Or.inl ⟨(am_t2 9 rfl rfl), Or.inr ⟨rfl, rfl, rfl⟩⟩⟩
theorem dc_C_init_76 : decode prog_5_method_1_code 76 = .ok (.aload_n 0, 1) := by decide +kernel
theorem dc_C_init_77 : decode prog_5_method_1_code 77 = .ok (.new 41, 3) := by decide +kernel
theorem mk_C_41 : am_mk "WebFinder$Crawl" 41 1 [.null, .int 0] := ⟨"WebFinder$Bytes", tt_B, 2, ty_B, rfl, ct_B, (am_t1 226 rfl rfl), (am_t1 40 rfl rfl), (am_t1 2 rfl rfl), rfl, fun _ => rfl, by decide +kernel⟩
theorem dc_C_init_80 : decode prog_5_method_1_code 80 = .ok (.dup, 1) := by decide +kernel
theorem dc_C_init_81 : decode prog_5_method_1_code 81 = .ok (.sipush 200, 3) := by decide +kernel
theorem dc_C_init_84 : decode prog_5_method_1_code 84 = .ok (.invokespecial 43, 3) := by decide +kernel
theorem ln_C_43 : am_ln "WebFinder$Crawl" 43 mt_B_init.1 := Or.inl (am_t1 227 rfl rfl)
theorem dc_C_init_87 : decode prog_5_method_1_code 87 = .ok (.putfield 46, 3) := by decide +kernel
theorem fp_C_init_46 : am_fp mt_C_init.1 46 7 12 (.object "WebFinder$Bytes") := ⟨"WebFinder$Crawl", tt_C, 18, rfl, by decide, ct_C 12 (by decide), Or.inl ⟨(am_t2 10 rfl rfl), Or.inr ⟨rfl, rfl, rfl⟩⟩⟩
theorem dc_C_init_90 : decode prog_5_method_1_code 90 = .ok (.aload_n 0, 1) := by decide +kernel
theorem dc_C_init_91 : decode prog_5_method_1_code 91 = .ok (.sipush 250, 3) := by decide +kernel
theorem dc_C_init_94 : decode prog_5_method_1_code 94 = .ok (.newarray .int, 2) := by decide +kernel
theorem dc_C_init_96 : decode prog_5_method_1_code 96 = .ok (.putfield 50, 3) := by decide +kernel
theorem fp_C_init_50 : am_fp mt_C_init.1 50 7 13 (.array .int) := ⟨"WebFinder$Crawl", tt_C, 18, rfl, by decide, ct_C 13 (by decide), Or.inl ⟨(am_t2 11 rfl rfl), Or.inr ⟨rfl, rfl, rfl⟩⟩⟩
theorem dc_C_init_99 : decode prog_5_method_1_code 99 = .ok (.aload_n 0, 1) := by decide +kernel
theorem dc_C_init_100 : decode prog_5_method_1_code 100 = .ok (.iconst 4, 1) := by decide +kernel
theorem dc_C_init_101 : decode prog_5_method_1_code 101 = .ok (.sipush 250, 3) := by decide +kernel
theorem dc_C_init_104 : decode prog_5_method_1_code 104 = .ok (.multianewarray 20 2, 4) := by decide +kernel
theorem dc_C_init_108 : decode prog_5_method_1_code 108 = .ok (.putfield 53, 3) := by decide +kernel
theorem fp_C_init_53 : am_fp mt_C_init.1 53 7 14 (.array (.array .int)) := ⟨"WebFinder$Crawl", tt_C, 18, rfl, by decide, ct_C 14 (by decide), Or.inl ⟨(am_t2 12 rfl rfl), Or.inr ⟨rfl, rfl, rfl⟩⟩⟩
theorem dc_C_init_111 : decode prog_5_method_1_code 111 = .ok (.aload_n 0, 1) := by decide +kernel
theorem dc_C_init_112 : decode prog_5_method_1_code 112 = .ok (.aload_n 1, 1) := by decide +kernel
theorem dc_C_init_113 : decode prog_5_method_1_code 113 = .ok (.putfield 56, 3) := by decide +kernel
theorem fp_C_init_56 : am_fp mt_C_init.1 56 7 8 (.object "WebFinder$Web") := ⟨"WebFinder$Crawl", tt_C, 18, rfl, by decide, ct_C 8 (by decide), Or.inl ⟨(am_t2 6 rfl rfl), Or.inr ⟨rfl, rfl, rfl⟩⟩⟩
theorem dc_C_init_116 : decode prog_5_method_1_code 116 = .ok (.aload_n 0, 1) := by decide +kernel
theorem dc_C_init_117 : decode prog_5_method_1_code 117 = .ok (.aload_n 2, 1) := by decide +kernel
theorem dc_C_init_118 : decode prog_5_method_1_code 118 = .ok (.putfield 60, 3) := by decide +kernel
theorem fp_C_init_60 : am_fp mt_C_init.1 60 7 9 (.object "WebFinder$AddressReader") := ⟨"WebFinder$Crawl", tt_C, 18, rfl, by decide, ct_C 9 (by decide), Or.inl ⟨(am_t2 7 rfl rfl), Or.inr ⟨rfl, rfl, rfl⟩⟩⟩
theorem dc_C_init_121 : decode prog_5_method_1_code 121 = .ok (.aload_n 0, 1) := by decide +kernel
theorem dc_C_init_122 : decode prog_5_method_1_code 122 = .ok (.aload_n 3, 1) := by decide +kernel
theorem dc_C_init_123 : decode prog_5_method_1_code 123 = .ok (.putfield 64, 3) := by decide +kernel
theorem fp_C_init_64 : am_fp mt_C_init.1 64 7 10 (.object "WebFinder$PageReader") := ⟨"WebFinder$Crawl", tt_C, 18, rfl, by decide, ct_C 10 (by decide), Or.inl ⟨(am_t2 8 rfl rfl), Or.inr ⟨rfl, rfl, rfl⟩⟩⟩
theorem dc_C_init_126 : decode prog_5_method_1_code 126 = .ok (.return_, 1) := by decide +kernel
theorem dc_D_init_0 : decode prog_6_method_1_code 0 = .ok (.aload_n 0, 1) := by decide +kernel
theorem dc_D_init_1 : decode prog_6_method_1_code 1 = .ok (.invokespecial 3, 3) := by decide +kernel
theorem ob_D_3 : Cond.methodLink "WebFinder$Documents" 3 Lib.objectInit ∈ am_gw := (am_t2 58 rfl rfl)
theorem dc_D_init_4 : decode prog_6_method_1_code 4 = .ok (.aload_n 0, 1) := by decide +kernel
theorem dc_D_init_5 : decode prog_6_method_1_code 5 = .ok (.sipush 250, 3) := by decide +kernel
theorem dc_D_init_8 : decode prog_6_method_1_code 8 = .ok (.anewarray 9, 3) := by decide +kernel
theorem dc_D_init_11 : decode prog_6_method_1_code 11 = .ok (.putfield 11, 3) := by decide +kernel
theorem fp_D_init_11 : am_fp mt_D_init.1 11 8 1 (.array (.object "WebFinder$Page")) := ⟨"WebFinder$Documents", tt_D, 15, rfl, by decide, ct_D 1 (by decide), Or.inl ⟨(am_t2 67 rfl rfl), Or.inr ⟨rfl, rfl, rfl⟩⟩⟩
theorem dc_D_init_14 : decode prog_6_method_1_code 14 = .ok (.aload_n 0, 1) := by decide +kernel
theorem dc_D_init_15 : decode prog_6_method_1_code 15 = .ok (.sipush 250, 3) := by decide +kernel
theorem dc_D_init_18 : decode prog_6_method_1_code 18 = .ok (.newarray .int, 2) := by decide +kernel
theorem dc_D_init_20 : decode prog_6_method_1_code 20 = .ok (.putfield 17, 3) := by decide +kernel
theorem fp_D_init_17 : am_fp mt_D_init.1 17 8 2 (.array .int) := ⟨"WebFinder$Documents", tt_D, 15, rfl, by decide, ct_D 2 (by decide), Or.inl ⟨(am_t2 69 rfl rfl), Or.inr ⟨rfl, rfl, rfl⟩⟩⟩
theorem dc_D_init_23 : decode prog_6_method_1_code 23 = .ok (.aload_n 0, 1) := by decide +kernel
theorem dc_D_init_24 : decode prog_6_method_1_code 24 = .ok (.sipush 250, 3) := by decide +kernel
theorem dc_D_init_27 : decode prog_6_method_1_code 27 = .ok (.newarray .int, 2) := by decide +kernel
theorem dc_D_init_29 : decode prog_6_method_1_code 29 = .ok (.putfield 21, 3) := by decide +kernel
theorem fp_D_init_21 : am_fp mt_D_init.1 21 8 3 (.array .int) := ⟨"WebFinder$Documents", tt_D, 15, rfl, by decide, ct_D 3 (by decide), Or.inl ⟨(am_t2 71 rfl rfl), Or.inr ⟨rfl, rfl, rfl⟩⟩⟩
theorem dc_D_init_32 : decode prog_6_method_1_code 32 = .ok (.aload_n 0, 1) := by decide +kernel
theorem dc_D_init_33 : decode prog_6_method_1_code 33 = .ok (.sipush 250, 3) := by decide +kernel
theorem dc_D_init_36 : decode prog_6_method_1_code 36 = .ok (.newarray .int, 2) := by decide +kernel
theorem dc_D_init_38 : decode prog_6_method_1_code 38 = .ok (.putfield 24, 3) := by decide +kernel
theorem fp_D_init_24 : am_fp mt_D_init.1 24 8 4 (.array .int) := ⟨"WebFinder$Documents", tt_D, 15, rfl, by decide, ct_D 4 (by decide), Or.inl ⟨(am_t2 74 rfl rfl), Or.inr ⟨rfl, rfl, rfl⟩⟩⟩
theorem dc_D_init_41 : decode prog_6_method_1_code 41 = .ok (.aload_n 0, 1) := by decide +kernel
theorem dc_D_init_42 : decode prog_6_method_1_code 42 = .ok (.sipush 250, 3) := by decide +kernel
theorem dc_D_init_45 : decode prog_6_method_1_code 45 = .ok (.newarray .int, 2) := by decide +kernel
theorem dc_D_init_47 : decode prog_6_method_1_code 47 = .ok (.putfield 27, 3) := by decide +kernel
theorem fp_D_init_27 : am_fp mt_D_init.1 27 8 5 (.array .int) := ⟨"WebFinder$Documents", tt_D, 15, rfl, by decide, ct_D 5 (by decide), Or.inl ⟨(am_t2 76 rfl rfl), Or.inr ⟨rfl, rfl, rfl⟩⟩⟩
theorem dc_D_init_50 : decode prog_6_method_1_code 50 = .ok (.aload_n 0, 1) := by decide +kernel
theorem dc_D_init_51 : decode prog_6_method_1_code 51 = .ok (.sipush 250, 3) := by decide +kernel
theorem dc_D_init_54 : decode prog_6_method_1_code 54 = .ok (.newarray .int, 2) := by decide +kernel
theorem dc_D_init_56 : decode prog_6_method_1_code 56 = .ok (.putfield 30, 3) := by decide +kernel
theorem fp_D_init_30 : am_fp mt_D_init.1 30 8 6 (.array .int) := ⟨"WebFinder$Documents", tt_D, 15, rfl, by decide, ct_D 6 (by decide), Or.inl ⟨(am_t2 78 rfl rfl), Or.inr ⟨rfl, rfl, rfl⟩⟩⟩
theorem dc_D_init_59 : decode prog_6_method_1_code 59 = .ok (.aload_n 0, 1) := by decide +kernel
theorem dc_D_init_60 : decode prog_6_method_1_code 60 = .ok (.sipush 251, 3) := by decide +kernel
theorem dc_D_init_63 : decode prog_6_method_1_code 63 = .ok (.newarray .int, 2) := by decide +kernel
theorem dc_D_init_65 : decode prog_6_method_1_code 65 = .ok (.putfield 33, 3) := by decide +kernel
theorem fp_D_init_33 : am_fp mt_D_init.1 33 8 7 (.array .int) := ⟨"WebFinder$Documents", tt_D, 15, rfl, by decide, ct_D 7 (by decide), Or.inl ⟨(am_t2 80 rfl rfl), Or.inr ⟨rfl, rfl, rfl⟩⟩⟩
theorem dc_D_init_68 : decode prog_6_method_1_code 68 = .ok (.aload_n 0, 1) := by decide +kernel
theorem dc_D_init_69 : decode prog_6_method_1_code 69 = .ok (.new 36, 3) := by decide +kernel
theorem mk_D_36 : am_mk "WebFinder$Documents" 36 4 [.null, .null, .int 0] := ⟨"WebFinder$Rows", tt_R, 3, ty_R, rfl, ct_R, (am_t2 60 rfl rfl), (am_t1 96 rfl rfl), (am_t1 5 rfl rfl), rfl, fun _ => rfl, by decide +kernel⟩
theorem dc_D_init_72 : decode prog_6_method_1_code 72 = .ok (.dup, 1) := by decide +kernel
theorem dc_D_init_73 : decode prog_6_method_1_code 73 = .ok (.sipush 512, 3) := by decide +kernel
theorem dc_D_init_76 : decode prog_6_method_1_code 76 = .ok (.sipush 128, 3) := by decide +kernel
theorem dc_D_init_79 : decode prog_6_method_1_code 79 = .ok (.invokespecial 38, 3) := by decide +kernel
theorem ln_D_38 : am_ln "WebFinder$Documents" 38 mt_R_init.1 := Or.inl (am_t2 61 rfl rfl)
theorem dc_D_init_82 : decode prog_6_method_1_code 82 = .ok (.putfield 41, 3) := by decide +kernel
theorem fp_D_init_41 : am_fp mt_D_init.1 41 8 8 (.object "WebFinder$Rows") := ⟨"WebFinder$Documents", tt_D, 15, rfl, by decide, ct_D 8 (by decide), Or.inl ⟨(am_t2 83 rfl rfl), Or.inr ⟨rfl, rfl, rfl⟩⟩⟩
theorem dc_D_init_85 : decode prog_6_method_1_code 85 = .ok (.aload_n 0, 1) := by decide +kernel
theorem dc_D_init_86 : decode prog_6_method_1_code 86 = .ok (.new 45, 3) := by decide +kernel
theorem mk_D_45 : am_mk "WebFinder$Documents" 45 1 [.null, .int 0] := ⟨"WebFinder$Bytes", tt_B, 2, ty_B, rfl, ct_B, (am_t2 62 rfl rfl), (am_t1 40 rfl rfl), (am_t1 2 rfl rfl), rfl, fun _ => rfl, by decide +kernel⟩
theorem dc_D_init_89 : decode prog_6_method_1_code 89 = .ok (.dup, 1) := by decide +kernel
theorem dc_D_init_90 : decode prog_6_method_1_code 90 = .ok (.sipush 200, 3) := by decide +kernel
theorem dc_D_init_93 : decode prog_6_method_1_code 93 = .ok (.invokespecial 47, 3) := by decide +kernel
theorem ln_D_47 : am_ln "WebFinder$Documents" 47 mt_B_init.1 := Or.inl (am_t2 63 rfl rfl)
theorem dc_D_init_96 : decode prog_6_method_1_code 96 = .ok (.putfield 50, 3) := by decide +kernel
theorem fp_D_init_50 : am_fp mt_D_init.1 50 8 10 (.object "WebFinder$Bytes") := ⟨"WebFinder$Documents", tt_D, 15, rfl, by decide, ct_D 10 (by decide), Or.inl ⟨(am_t2 86 rfl rfl), Or.inr ⟨rfl, rfl, rfl⟩⟩⟩
theorem dc_D_init_99 : decode prog_6_method_1_code 99 = .ok (.aload_n 0, 1) := by decide +kernel
theorem dc_D_init_100 : decode prog_6_method_1_code 100 = .ok (.sipush 15000, 3) := by decide +kernel
theorem dc_D_init_103 : decode prog_6_method_1_code 103 = .ok (.newarray .int, 2) := by decide +kernel
theorem dc_D_init_105 : decode prog_6_method_1_code 105 = .ok (.putfield 54, 3) := by decide +kernel
theorem fp_D_init_54 : am_fp mt_D_init.1 54 8 11 (.array .int) := ⟨"WebFinder$Documents", tt_D, 15, rfl, by decide, ct_D 11 (by decide), Or.inl ⟨(am_t2 87 rfl rfl), Or.inr ⟨rfl, rfl, rfl⟩⟩⟩
theorem dc_D_init_108 : decode prog_6_method_1_code 108 = .ok (.aload_n 0, 1) := by decide +kernel
theorem dc_D_init_109 : decode prog_6_method_1_code 109 = .ok (.sipush 250, 3) := by decide +kernel
theorem dc_D_init_112 : decode prog_6_method_1_code 112 = .ok (.newarray .int, 2) := by decide +kernel
theorem dc_D_init_114 : decode prog_6_method_1_code 114 = .ok (.putfield 57, 3) := by decide +kernel
theorem fp_D_init_57 : am_fp mt_D_init.1 57 8 12 (.array .int) := ⟨"WebFinder$Documents", tt_D, 15, rfl, by decide, ct_D 12 (by decide), Or.inl ⟨(am_t2 88 rfl rfl), Or.inr ⟨rfl, rfl, rfl⟩⟩⟩
theorem dc_D_init_117 : decode prog_6_method_1_code 117 = .ok (.aload_n 0, 1) := by decide +kernel
theorem dc_D_init_118 : decode prog_6_method_1_code 118 = .ok (.sipush 250, 3) := by decide +kernel
theorem dc_D_init_121 : decode prog_6_method_1_code 121 = .ok (.newarray .int, 2) := by decide +kernel
theorem dc_D_init_123 : decode prog_6_method_1_code 123 = .ok (.putfield 60, 3) := by decide +kernel
theorem fp_D_init_60 : am_fp mt_D_init.1 60 8 13 (.array .int) := ⟨"WebFinder$Documents", tt_D, 15, rfl, by decide, ct_D 13 (by decide), Or.inl ⟨(am_t2 89 rfl rfl), Or.inr ⟨rfl, rfl, rfl⟩⟩⟩
theorem dc_D_init_126 : decode prog_6_method_1_code 126 = .ok (.aload_n 0, 1) := by decide +kernel
theorem dc_D_init_127 : decode prog_6_method_1_code 127 = .ok (.sipush 250, 3) := by decide +kernel
theorem dc_D_init_130 : decode prog_6_method_1_code 130 = .ok (.newarray .int, 2) := by decide +kernel
theorem dc_D_init_132 : decode prog_6_method_1_code 132 = .ok (.putfield 63, 3) := by decide +kernel
theorem fp_D_init_63 : am_fp mt_D_init.1 63 8 14 (.array .int) := ⟨"WebFinder$Documents", tt_D, 15, rfl, by decide, ct_D 14 (by decide), Or.inl ⟨(am_t2 90 rfl rfl), Or.inr ⟨rfl, rfl, rfl⟩⟩⟩
theorem dc_D_init_135 : decode prog_6_method_1_code 135 = .ok (.aload_n 0, 1) := by decide +kernel
theorem dc_D_init_136 : decode prog_6_method_1_code 136 = .ok (.aload_n 1, 1) := by decide +kernel
theorem dc_D_init_137 : decode prog_6_method_1_code 137 = .ok (.putfield 66, 3) := by decide +kernel
theorem fp_D_init_66 : am_fp mt_D_init.1 66 8 9 (.object "WebFinder$PageReader") := ⟨"WebFinder$Documents", tt_D, 15, rfl, by decide, ct_D 9 (by decide), Or.inl ⟨(am_t2 85 rfl rfl), Or.inr ⟨rfl, rfl, rfl⟩⟩⟩
theorem dc_D_init_140 : decode prog_6_method_1_code 140 = .ok (.return_, 1) := by decide +kernel
theorem dc_N_init_0 : decode prog_3_method_1_code 0 = .ok (.aload_n 0, 1) := by decide +kernel
theorem dc_N_init_1 : decode prog_3_method_1_code 1 = .ok (.invokespecial 3, 3) := by decide +kernel
theorem ob_N_3 : Cond.methodLink "WebFinder$Answers" 3 Lib.objectInit ∈ am_gw := (am_t2 127 rfl rfl)
theorem dc_N_init_4 : decode prog_3_method_1_code 4 = .ok (.aload_n 0, 1) := by decide +kernel
theorem dc_N_init_5 : decode prog_3_method_1_code 5 = .ok (.sipush 250, 3) := by decide +kernel
theorem dc_N_init_8 : decode prog_3_method_1_code 8 = .ok (.newarray .int, 2) := by decide +kernel
theorem dc_N_init_10 : decode prog_3_method_1_code 10 = .ok (.putfield 9, 3) := by decide +kernel
theorem fp_N_init_9 : am_fp mt_N_init.1 9 9 1 (.array .int) := ⟨"WebFinder$Answers", tt_N, 4, rfl, by decide, ct_N 1 (by decide), Or.inl ⟨(am_t2 132 rfl rfl), Or.inr ⟨rfl, rfl, rfl⟩⟩⟩
theorem dc_N_init_13 : decode prog_3_method_1_code 13 = .ok (.aload_n 0, 1) := by decide +kernel
theorem dc_N_init_14 : decode prog_3_method_1_code 14 = .ok (.sipush 250, 3) := by decide +kernel
theorem dc_N_init_17 : decode prog_3_method_1_code 17 = .ok (.newarray .long, 2) := by decide +kernel
theorem dc_N_init_19 : decode prog_3_method_1_code 19 = .ok (.putfield 15, 3) := by decide +kernel
theorem fp_N_init_15 : am_fp mt_N_init.1 15 9 2 (.array .long) := ⟨"WebFinder$Answers", tt_N, 4, rfl, by decide, ct_N 2 (by decide), Or.inl ⟨(am_t2 134 rfl rfl), Or.inr ⟨rfl, rfl, rfl⟩⟩⟩
theorem dc_N_init_22 : decode prog_3_method_1_code 22 = .ok (.aload_n 0, 1) := by decide +kernel
theorem dc_N_init_23 : decode prog_3_method_1_code 23 = .ok (.new 19, 3) := by decide +kernel
theorem mk_N_19 : am_mk "WebFinder$Answers" 19 4 [.null, .null, .int 0] := ⟨"WebFinder$Rows", tt_R, 3, ty_R, rfl, ct_R, (am_t2 128 rfl rfl), (am_t1 96 rfl rfl), (am_t1 5 rfl rfl), rfl, fun _ => rfl, by decide +kernel⟩
theorem dc_N_init_26 : decode prog_3_method_1_code 26 = .ok (.dup, 1) := by decide +kernel
theorem dc_N_init_27 : decode prog_3_method_1_code 27 = .ok (.sipush 256, 3) := by decide +kernel
theorem dc_N_init_30 : decode prog_3_method_1_code 30 = .ok (.bipush 64, 2) := by decide +kernel
theorem dc_N_init_32 : decode prog_3_method_1_code 32 = .ok (.invokespecial 21, 3) := by decide +kernel
theorem ln_N_21 : am_ln "WebFinder$Answers" 21 mt_R_init.1 := Or.inl (am_t2 129 rfl rfl)
theorem dc_N_init_35 : decode prog_3_method_1_code 35 = .ok (.putfield 24, 3) := by decide +kernel
theorem fp_N_init_24 : am_fp mt_N_init.1 24 9 3 (.object "WebFinder$Rows") := ⟨"WebFinder$Answers", tt_N, 4, rfl, by decide, ct_N 3 (by decide), Or.inl ⟨(am_t2 136 rfl rfl), Or.inr ⟨rfl, rfl, rfl⟩⟩⟩
theorem dc_N_init_38 : decode prog_3_method_1_code 38 = .ok (.return_, 1) := by decide +kernel
theorem dc_W_read_0 : decode prog_1_method_4_code 0 = .ok (.aload_n 0, 1) := by decide +kernel
theorem dc_W_read_1 : decode prog_1_method_4_code 1 = .ok (.invokevirtual 98, 3) := by decide +kernel
theorem mo_W_resolveLine : am_mo mt_W_resolveLine 0 := ⟨⟨by decide +kernel, by decide +kernel⟩, by decide +kernel, ⟨by decide +kernel, by decide +kernel⟩, (am_t2 188 rfl rfl), (am_t1 1 rfl rfl), by decide +kernel⟩
theorem im_W_resolveLine : Cond.instanceMethod mt_W_resolveLine.1 ∈ am_gw := (am_t2 187 rfl rfl)
theorem se_W_resolveLine : Cond.selects mt_W_resolveLine.1.cls mt_W_resolveLine.1 mt_W_resolveLine.1 ∈ am_gw := am_in (List.mem_append_left _ (by decide +kernel)) rfl
theorem ln_W_98 : am_ln "WebFinder" 98 mt_W_resolveLine.1 := Or.inl (am_t2 185 rfl rfl)
theorem dc_W_read_4 : decode prog_1_method_4_code 4 = .ok (.pop, 1) := by decide +kernel
theorem dc_W_read_5 : decode prog_1_method_4_code 5 = .ok (.aload_n 0, 1) := by decide +kernel
theorem dc_W_read_6 : decode prog_1_method_4_code 6 = .ok (.getfield 21, 3) := by decide +kernel
theorem fl_W_21 : am_fl "WebFinder" 21 0 2 := ⟨"WebFinder", tt_W, 11, rfl, by decide, Or.inl (am_t2 149 rfl rfl)⟩
theorem dc_W_read_9 : decode prog_1_method_4_code 9 = .ok (.aload_n 0, 1) := by decide +kernel
theorem dc_W_read_10 : decode prog_1_method_4_code 10 = .ok (.getfield 27, 3) := by decide +kernel
theorem dc_W_read_13 : decode prog_1_method_4_code 13 = .ok (.getfield 102, 3) := by decide +kernel
theorem fl_W_102 : am_fl "WebFinder" 102 2 0 := ⟨"WebFinder$AddressReader", tt_A, 2, rfl, by decide, Or.inl (am_t1 81 rfl rfl)⟩
theorem dc_W_read_16 : decode prog_1_method_4_code 16 = .ok (.invokevirtual 105, 3) := by decide +kernel
theorem mo_B_become : am_mo mt_B_become 1 := ⟨⟨by decide +kernel, by decide +kernel⟩, by decide +kernel, ⟨by decide +kernel, by decide +kernel⟩, (am_t3 193 rfl rfl), (am_t1 2 rfl rfl), by decide +kernel⟩
theorem im_B_become : Cond.instanceMethod mt_B_become.1 ∈ am_gw := (am_t3 191 rfl rfl)
theorem se_B_become : Cond.selects mt_B_become.1.cls mt_B_become.1 mt_B_become.1 ∈ am_gw := (am_t3 192 rfl rfl)
theorem ln_W_105 : am_ln "WebFinder" 105 mt_B_become.1 := Or.inl (am_t3 190 rfl rfl)
theorem dc_W_read_19 : decode prog_1_method_4_code 19 = .ok (.aload_n 0, 1) := by decide +kernel
theorem dc_W_read_20 : decode prog_1_method_4_code 20 = .ok (.getfield 27, 3) := by decide +kernel
theorem dc_W_read_23 : decode prog_1_method_4_code 23 = .ok (.aload_n 0, 1) := by decide +kernel
theorem dc_W_read_24 : decode prog_1_method_4_code 24 = .ok (.getfield 12, 3) := by decide +kernel
theorem fl_W_12 : am_fl "WebFinder" 12 0 0 := ⟨"WebFinder", tt_W, 11, rfl, by decide, Or.inl (am_t2 147 rfl rfl)⟩
theorem dc_W_read_27 : decode prog_1_method_4_code 27 = .ok (.getfield 109, 3) := by decide +kernel
theorem fl_W_109 : am_fl "WebFinder" 109 1 0 := ⟨"WebFinder$Bytes", tt_B, 2, rfl, by decide, Or.inl (am_t1 49 rfl rfl)⟩
theorem dc_W_read_30 : decode prog_1_method_4_code 30 = .ok (.aload_n 0, 1) := by decide +kernel
theorem dc_W_read_31 : decode prog_1_method_4_code 31 = .ok (.invokevirtual 113, 3) := by decide +kernel
theorem mo_W_restFrom : am_mo mt_W_restFrom 0 := ⟨⟨by decide +kernel, by decide +kernel⟩, by decide +kernel, ⟨by decide +kernel, by decide +kernel⟩, (am_t3 198 rfl rfl), (am_t1 1 rfl rfl), by decide +kernel⟩
theorem im_W_restFrom : Cond.instanceMethod mt_W_restFrom.1 ∈ am_gw := (am_t3 197 rfl rfl)
theorem se_W_restFrom : Cond.selects mt_W_restFrom.1.cls mt_W_restFrom.1 mt_W_restFrom.1 ∈ am_gw := am_in (List.mem_append_left _ (by decide +kernel)) rfl
theorem ln_W_113 : am_ln "WebFinder" 113 mt_W_restFrom.1 := Or.inl (am_t3 195 rfl rfl)
theorem dc_W_read_34 : decode prog_1_method_4_code 34 = .ok (.aload_n 0, 1) := by decide +kernel
theorem dc_W_read_35 : decode prog_1_method_4_code 35 = .ok (.getfield 12, 3) := by decide +kernel
theorem dc_W_read_38 : decode prog_1_method_4_code 38 = .ok (.getfield 85, 3) := by decide +kernel
theorem fl_W_85 : am_fl "WebFinder" 85 1 1 := ⟨"WebFinder$Bytes", tt_B, 2, rfl, by decide, Or.inl (am_t1 58 rfl rfl)⟩
theorem dc_W_read_41 : decode prog_1_method_4_code 41 = .ok (.aload_n 0, 1) := by decide +kernel
theorem dc_W_read_42 : decode prog_1_method_4_code 42 = .ok (.getfield 21, 3) := by decide +kernel
theorem dc_W_read_45 : decode prog_1_method_4_code 45 = .ok (.invokevirtual 117, 3) := by decide +kernel
theorem mo_A_resolve : am_mo mt_A_resolve 4 := ⟨⟨by decide +kernel, by decide +kernel⟩, by decide +kernel, ⟨by decide +kernel, by decide +kernel⟩, (am_t2 199 rfl rfl), (am_t1 3 rfl rfl), by decide +kernel⟩
theorem im_A_resolve : Cond.instanceMethod mt_A_resolve.1 ∈ am_gw := (am_t2 197 rfl rfl)
theorem se_A_resolve : Cond.selects mt_A_resolve.1.cls mt_A_resolve.1 mt_A_resolve.1 ∈ am_gw := (am_t2 198 rfl rfl)
theorem ln_W_117 : am_ln "WebFinder" 117 mt_A_resolve.1 := Or.inl (am_t2 196 rfl rfl)
theorem dc_W_read_48 : decode prog_1_method_4_code 48 = .ok (.pop, 1) := by decide +kernel
theorem dc_W_read_49 : decode prog_1_method_4_code 49 = .ok (.aload_n 0, 1) := by decide +kernel
theorem dc_W_read_50 : decode prog_1_method_4_code 50 = .ok (.getfield 12, 3) := by decide +kernel
theorem dc_W_read_53 : decode prog_1_method_4_code 53 = .ok (.invokevirtual 121, 3) := by decide +kernel
theorem mo_B_clear : am_mo mt_B_clear 0 := ⟨⟨by decide +kernel, by decide +kernel⟩, by decide +kernel, ⟨by decide +kernel, by decide +kernel⟩, (am_t2 203 rfl rfl), (am_t1 2 rfl rfl), by decide +kernel⟩
theorem im_B_clear : Cond.instanceMethod mt_B_clear.1 ∈ am_gw := (am_t2 201 rfl rfl)
theorem se_B_clear : Cond.selects mt_B_clear.1.cls mt_B_clear.1 mt_B_clear.1 ∈ am_gw := (am_t2 202 rfl rfl)
theorem ln_W_121 : am_ln "WebFinder" 121 mt_B_clear.1 := Or.inl (am_t3 200 rfl rfl)
theorem dc_W_read_56 : decode prog_1_method_4_code 56 = .ok (.aload_n 0, 1) := by decide +kernel
theorem dc_W_read_57 : decode prog_1_method_4_code 57 = .ok (.getfield 18, 3) := by decide +kernel
theorem fl_W_18 : am_fl "WebFinder" 18 0 1 := ⟨"WebFinder", tt_W, 11, rfl, by decide, Or.inl (am_t2 148 rfl rfl)⟩
theorem dc_W_read_60 : decode prog_1_method_4_code 60 = .ok (.aload_n 0, 1) := by decide +kernel
theorem dc_W_read_61 : decode prog_1_method_4_code 61 = .ok (.getfield 27, 3) := by decide +kernel
theorem dc_W_read_64 : decode prog_1_method_4_code 64 = .ok (.getfield 102, 3) := by decide +kernel
theorem dc_W_read_67 : decode prog_1_method_4_code 67 = .ok (.invokevirtual 105, 3) := by decide +kernel
theorem dc_W_read_70 : decode prog_1_method_4_code 70 = .ok (.aload_n 0, 1) := by decide +kernel
theorem dc_W_read_71 : decode prog_1_method_4_code 71 = .ok (.getfield 18, 3) := by decide +kernel
theorem dc_W_read_74 : decode prog_1_method_4_code 74 = .ok (.getfield 85, 3) := by decide +kernel
theorem dc_W_read_77 : decode prog_1_method_4_code 77 = .ok (.ireturn, 1) := by decide +kernel
theorem dc_W_resolveLine_0 : decode prog_1_method_32_code 0 = .ok (.aload_n 0, 1) := by decide +kernel
theorem dc_W_resolveLine_1 : decode prog_1_method_32_code 1 = .ok (.getfield 27, 3) := by decide +kernel
theorem dc_W_resolveLine_4 : decode prog_1_method_32_code 4 = .ok (.aload_n 0, 1) := by decide +kernel
theorem dc_W_resolveLine_5 : decode prog_1_method_32_code 5 = .ok (.getfield 12, 3) := by decide +kernel
theorem dc_W_resolveLine_8 : decode prog_1_method_32_code 8 = .ok (.getfield 109, 3) := by decide +kernel
theorem dc_W_resolveLine_11 : decode prog_1_method_32_code 11 = .ok (.iconst 0, 1) := by decide +kernel
theorem dc_W_resolveLine_12 : decode prog_1_method_32_code 12 = .ok (.aload_n 0, 1) := by decide +kernel
theorem dc_W_resolveLine_13 : decode prog_1_method_32_code 13 = .ok (.invokevirtual 286, 3) := by decide +kernel
theorem mo_W_lineTo : am_mo mt_W_lineTo 0 := ⟨⟨by decide +kernel, by decide +kernel⟩, by decide +kernel, ⟨by decide +kernel, by decide +kernel⟩, (am_t2 192 rfl rfl), (am_t1 1 rfl rfl), by decide +kernel⟩
theorem im_W_lineTo : Cond.instanceMethod mt_W_lineTo.1 ∈ am_gw := (am_t2 191 rfl rfl)
theorem se_W_lineTo : Cond.selects mt_W_lineTo.1.cls mt_W_lineTo.1 mt_W_lineTo.1 ∈ am_gw := am_in (List.mem_append_left _ (by decide +kernel)) rfl
theorem ln_W_286 : am_ln "WebFinder" 286 mt_W_lineTo.1 := Or.inl (am_t2 189 rfl rfl)
theorem dc_W_resolveLine_16 : decode prog_1_method_32_code 16 = .ok (.aconst_null, 1) := by decide +kernel
theorem dc_W_resolveLine_17 : decode prog_1_method_32_code 17 = .ok (.invokevirtual 117, 3) := by decide +kernel
theorem dc_W_resolveLine_20 : decode prog_1_method_32_code 20 = .ok (.ireturn, 1) := by decide +kernel
theorem dc_W_lineTo_0 : decode prog_1_method_30_code 0 = .ok (.aload_n 0, 1) := by decide +kernel
theorem dc_W_lineTo_1 : decode prog_1_method_30_code 1 = .ok (.getfield 12, 3) := by decide +kernel
theorem dc_W_lineTo_4 : decode prog_1_method_30_code 4 = .ok (.getfield 109, 3) := by decide +kernel
theorem dc_W_lineTo_7 : decode prog_1_method_30_code 7 = .ok (.bipush 10, 2) := by decide +kernel
theorem dc_W_lineTo_9 : decode prog_1_method_30_code 9 = .ok (.iconst 0, 1) := by decide +kernel
theorem dc_W_lineTo_10 : decode prog_1_method_30_code 10 = .ok (.aload_n 0, 1) := by decide +kernel
theorem dc_W_lineTo_11 : decode prog_1_method_30_code 11 = .ok (.getfield 12, 3) := by decide +kernel
theorem dc_W_lineTo_14 : decode prog_1_method_30_code 14 = .ok (.getfield 85, 3) := by decide +kernel
theorem dc_W_lineTo_17 : decode prog_1_method_30_code 17 = .ok (.invokestatic 282, 3) := by decide +kernel
theorem mo_W_indexOf : am_mo mt_W_indexOf 4 := ⟨⟨by decide +kernel, by decide +kernel⟩, by decide +kernel, ⟨by decide +kernel, by decide +kernel⟩, (am_t2 195 rfl rfl), (am_t1 1 rfl rfl), by decide +kernel⟩
theorem st_W_indexOf : Cond.static mt_W_indexOf.1 ∈ am_gw := (am_t2 194 rfl rfl)
theorem ln_W_282 : am_ln "WebFinder" 282 mt_W_indexOf.1 := Or.inl (am_t2 193 rfl rfl)
theorem dc_W_lineTo_20 : decode prog_1_method_30_code 20 = .ok (.ireturn, 1) := by decide +kernel
theorem dc_W_indexOf_0 : decode prog_1_method_42_code 0 = .ok (.iload_n 2, 1) := by decide +kernel
theorem dc_W_indexOf_1 : decode prog_1_method_42_code 1 = .ok (.istore 4, 2) := by decide +kernel
theorem dc_W_indexOf_3 : decode prog_1_method_42_code 3 = .ok (.iload 4, 2) := by decide +kernel
theorem dc_W_indexOf_5 : decode prog_1_method_42_code 5 = .ok (.iload_n 3, 1) := by decide +kernel
theorem dc_W_indexOf_6 : decode prog_1_method_42_code 6 = .ok (.if_icmp .ge 17, 3) := by decide +kernel
theorem dc_W_indexOf_9 : decode prog_1_method_42_code 9 = .ok (.aload_n 0, 1) := by decide +kernel
theorem dc_W_indexOf_10 : decode prog_1_method_42_code 10 = .ok (.iload 4, 2) := by decide +kernel
theorem dc_W_indexOf_12 : decode prog_1_method_42_code 12 = .ok (.baload, 1) := by decide +kernel
theorem dc_W_indexOf_13 : decode prog_1_method_42_code 13 = .ok (.iload_n 1, 1) := by decide +kernel
theorem dc_W_indexOf_14 : decode prog_1_method_42_code 14 = .ok (.if_icmp .eq 9, 3) := by decide +kernel
theorem dc_W_indexOf_17 : decode prog_1_method_42_code 17 = .ok (.iinc 4 1, 3) := by decide +kernel
theorem dc_W_indexOf_20 : decode prog_1_method_42_code 20 = .ok (.goto (-17), 3) := by decide +kernel
theorem dc_W_indexOf_23 : decode prog_1_method_42_code 23 = .ok (.iload 4, 2) := by decide +kernel
theorem dc_W_indexOf_25 : decode prog_1_method_42_code 25 = .ok (.ireturn, 1) := by decide +kernel
theorem dc_A_resolve_0 : decode prog_2_method_2_code 0 = .ok (.aload_n 0, 1) := by decide +kernel
theorem dc_A_resolve_1 : decode prog_2_method_2_code 1 = .ok (.getfield 14, 3) := by decide +kernel
theorem fl_A_14 : am_fl "WebFinder$AddressReader" 14 2 0 := ⟨"WebFinder$AddressReader", tt_A, 2, rfl, by decide, Or.inl (am_t1 79 rfl rfl)⟩
theorem dc_A_resolve_4 : decode prog_2_method_2_code 4 = .ok (.invokevirtual 23, 3) := by decide +kernel
theorem ln_A_23 : am_ln "WebFinder$AddressReader" 23 mt_B_clear.1 := Or.inl (am_t2 200 rfl rfl)
theorem dc_A_resolve_7 : decode prog_2_method_2_code 7 = .ok (.aload_n 0, 1) := by decide +kernel
theorem dc_A_resolve_8 : decode prog_2_method_2_code 8 = .ok (.getfield 20, 3) := by decide +kernel
theorem fl_A_20 : am_fl "WebFinder$AddressReader" 20 2 1 := ⟨"WebFinder$AddressReader", tt_A, 2, rfl, by decide, Or.inl (am_t1 83 rfl rfl)⟩
theorem dc_A_resolve_11 : decode prog_2_method_2_code 11 = .ok (.invokevirtual 23, 3) := by decide +kernel
theorem dc_A_resolve_14 : decode prog_2_method_2_code 14 = .ok (.aload_n 1, 1) := by decide +kernel
theorem dc_A_resolve_15 : decode prog_2_method_2_code 15 = .ok (.iload_n 2, 1) := by decide +kernel
theorem dc_A_resolve_16 : decode prog_2_method_2_code 16 = .ok (.iload_n 3, 1) := by decide +kernel
theorem dc_A_resolve_17 : decode prog_2_method_2_code 17 = .ok (.invokestatic 26, 3) := by decide +kernel
theorem mo_W_trimmedFrom : am_mo mt_W_trimmedFrom 3 := ⟨⟨by decide +kernel, by decide +kernel⟩, by decide +kernel, ⟨by decide +kernel, by decide +kernel⟩, (am_t2 206 rfl rfl), (am_t1 1 rfl rfl), by decide +kernel⟩
theorem st_W_trimmedFrom : Cond.static mt_W_trimmedFrom.1 ∈ am_gw := (am_t2 205 rfl rfl)
theorem ln_A_26 : am_ln "WebFinder$AddressReader" 26 mt_W_trimmedFrom.1 := Or.inr ⟨"WebFinder", (am_n2 204 rfl rfl)⟩
theorem dc_A_resolve_20 : decode prog_2_method_2_code 20 = .ok (.istore 5, 2) := by decide +kernel
theorem dc_A_resolve_22 : decode prog_2_method_2_code 22 = .ok (.aload_n 1, 1) := by decide +kernel
theorem dc_A_resolve_23 : decode prog_2_method_2_code 23 = .ok (.bipush 35, 2) := by decide +kernel
theorem dc_A_resolve_25 : decode prog_2_method_2_code 25 = .ok (.iload 5, 2) := by decide +kernel
theorem dc_A_resolve_27 : decode prog_2_method_2_code 27 = .ok (.aload_n 1, 1) := by decide +kernel
theorem dc_A_resolve_28 : decode prog_2_method_2_code 28 = .ok (.iload 5, 2) := by decide +kernel
theorem dc_A_resolve_30 : decode prog_2_method_2_code 30 = .ok (.iload_n 3, 1) := by decide +kernel
theorem dc_A_resolve_31 : decode prog_2_method_2_code 31 = .ok (.invokestatic 30, 3) := by decide +kernel
theorem mo_W_trimmedTo : am_mo mt_W_trimmedTo 3 := ⟨⟨by decide +kernel, by decide +kernel⟩, by decide +kernel, ⟨by decide +kernel, by decide +kernel⟩, (am_t2 212 rfl rfl), (am_t1 1 rfl rfl), by decide +kernel⟩
theorem st_W_trimmedTo : Cond.static mt_W_trimmedTo.1 ∈ am_gw := (am_t2 211 rfl rfl)
theorem ln_A_30 : am_ln "WebFinder$AddressReader" 30 mt_W_trimmedTo.1 := Or.inr ⟨"WebFinder", (am_n2 210 rfl rfl)⟩
theorem dc_A_resolve_34 : decode prog_2_method_2_code 34 = .ok (.invokestatic 33, 3) := by decide +kernel
theorem ln_A_33 : am_ln "WebFinder$AddressReader" 33 mt_W_indexOf.1 := Or.inr ⟨"WebFinder", (am_n2 213 rfl rfl)⟩
theorem dc_A_resolve_37 : decode prog_2_method_2_code 37 = .ok (.istore 6, 2) := by decide +kernel
theorem dc_A_resolve_39 : decode prog_2_method_2_code 39 = .ok (.aload_n 1, 1) := by decide +kernel
theorem dc_A_resolve_40 : decode prog_2_method_2_code 40 = .ok (.iload 5, 2) := by decide +kernel
theorem dc_A_resolve_42 : decode prog_2_method_2_code 42 = .ok (.iload 6, 2) := by decide +kernel
theorem dc_A_resolve_44 : decode prog_2_method_2_code 44 = .ok (.invokestatic 37, 3) := by decide +kernel
theorem mo_A_isClean : am_mo mt_A_isClean 3 := ⟨⟨by decide +kernel, by decide +kernel⟩, by decide +kernel, ⟨by decide +kernel, by decide +kernel⟩, (am_t2 216 rfl rfl), (am_t1 3 rfl rfl), by decide +kernel⟩
theorem st_A_isClean : Cond.static mt_A_isClean.1 ∈ am_gw := (am_t2 215 rfl rfl)
theorem ln_A_37 : am_ln "WebFinder$AddressReader" 37 mt_A_isClean.1 := Or.inl (am_t2 214 rfl rfl)
theorem dc_A_resolve_47 : decode prog_2_method_2_code 47 = .ok (.ifCond .ne 5, 3) := by decide +kernel
theorem dc_A_resolve_50 : decode prog_2_method_2_code 50 = .ok (.iconst 0, 1) := by decide +kernel
theorem dc_A_resolve_51 : decode prog_2_method_2_code 51 = .ok (.ireturn, 1) := by decide +kernel
theorem dc_A_resolve_52 : decode prog_2_method_2_code 52 = .ok (.aload_n 1, 1) := by decide +kernel
theorem dc_A_resolve_53 : decode prog_2_method_2_code 53 = .ok (.bipush 58, 2) := by decide +kernel
theorem dc_A_resolve_55 : decode prog_2_method_2_code 55 = .ok (.iload 5, 2) := by decide +kernel
theorem dc_A_resolve_57 : decode prog_2_method_2_code 57 = .ok (.iload 6, 2) := by decide +kernel
theorem dc_A_resolve_59 : decode prog_2_method_2_code 59 = .ok (.invokestatic 33, 3) := by decide +kernel
theorem dc_A_resolve_62 : decode prog_2_method_2_code 62 = .ok (.istore 7, 2) := by decide +kernel
theorem dc_A_resolve_64 : decode prog_2_method_2_code 64 = .ok (.iload 7, 2) := by decide +kernel
theorem dc_A_resolve_66 : decode prog_2_method_2_code 66 = .ok (.aload_n 1, 1) := by decide +kernel
theorem dc_A_resolve_67 : decode prog_2_method_2_code 67 = .ok (.bipush 47, 2) := by decide +kernel
theorem dc_A_resolve_69 : decode prog_2_method_2_code 69 = .ok (.iload 5, 2) := by decide +kernel
theorem dc_A_resolve_71 : decode prog_2_method_2_code 71 = .ok (.iload 6, 2) := by decide +kernel
theorem dc_A_resolve_73 : decode prog_2_method_2_code 73 = .ok (.invokestatic 33, 3) := by decide +kernel
theorem dc_A_resolve_76 : decode prog_2_method_2_code 76 = .ok (.aload_n 1, 1) := by decide +kernel
theorem dc_A_resolve_77 : decode prog_2_method_2_code 77 = .ok (.bipush 63, 2) := by decide +kernel
theorem dc_A_resolve_79 : decode prog_2_method_2_code 79 = .ok (.iload 5, 2) := by decide +kernel
theorem dc_A_resolve_81 : decode prog_2_method_2_code 81 = .ok (.iload 6, 2) := by decide +kernel
theorem dc_A_resolve_83 : decode prog_2_method_2_code 83 = .ok (.invokestatic 33, 3) := by decide +kernel
theorem dc_A_resolve_86 : decode prog_2_method_2_code 86 = .ok (.invokestatic 41, 3) := by decide +kernel
theorem mo_JMath_min : am_mo mt_JMath_min 2 := ⟨⟨by decide +kernel, by decide +kernel⟩, by decide +kernel, ⟨by decide +kernel, by decide +kernel⟩, (am_t3 11 rfl rfl), (am_t1 17 rfl rfl), by decide +kernel⟩
theorem st_JMath_min : Cond.static mt_JMath_min.1 ∈ am_gw := (am_t3 10 rfl rfl)
theorem ln_A_41 : am_ln "WebFinder$AddressReader" 41 mt_JMath_min.1 := Or.inl (am_t3 70 rfl rfl)
theorem dc_A_resolve_89 : decode prog_2_method_2_code 89 = .ok (.if_icmp .ge 39, 3) := by decide +kernel
theorem dc_A_resolve_92 : decode prog_2_method_2_code 92 = .ok (.aload_n 1, 1) := by decide +kernel
theorem dc_A_resolve_93 : decode prog_2_method_2_code 93 = .ok (.iload 5, 2) := by decide +kernel
theorem dc_A_resolve_95 : decode prog_2_method_2_code 95 = .ok (.iload 7, 2) := by decide +kernel
theorem dc_A_resolve_97 : decode prog_2_method_2_code 97 = .ok (.ldc 47, 2) := by decide +kernel
theorem dc_A_resolve_99 : decode prog_2_method_2_code 99 = .ok (.invokestatic 49, 3) := by decide +kernel
theorem mo_W_isLower : am_mo mt_W_isLower 4 := ⟨⟨by decide +kernel, by decide +kernel⟩, by decide +kernel, ⟨by decide +kernel, by decide +kernel⟩, (am_t3 74 rfl rfl), (am_t1 1 rfl rfl), by decide +kernel⟩
theorem st_W_isLower : Cond.static mt_W_isLower.1 ∈ am_gw := (am_t3 73 rfl rfl)
theorem ln_A_49 : am_ln "WebFinder$AddressReader" 49 mt_W_isLower.1 := Or.inr ⟨"WebFinder", (am_n3 72 rfl rfl)⟩
theorem dc_A_resolve_102 : decode prog_2_method_2_code 102 = .ok (.ifCond .eq 18, 3) := by decide +kernel
theorem dc_A_resolve_105 : decode prog_2_method_2_code 105 = .ok (.aload_n 1, 1) := by decide +kernel
theorem dc_A_resolve_106 : decode prog_2_method_2_code 106 = .ok (.iload 7, 2) := by decide +kernel
theorem dc_A_resolve_108 : decode prog_2_method_2_code 108 = .ok (.iconst 1, 1) := by decide +kernel
theorem dc_A_resolve_109 : decode prog_2_method_2_code 109 = .ok (.iadd, 1) := by decide +kernel
theorem dc_A_resolve_110 : decode prog_2_method_2_code 110 = .ok (.iload 6, 2) := by decide +kernel
theorem dc_A_resolve_112 : decode prog_2_method_2_code 112 = .ok (.ldc 53, 2) := by decide +kernel
theorem dc_A_resolve_114 : decode prog_2_method_2_code 114 = .ok (.invokestatic 55, 3) := by decide +kernel
theorem mo_W_beginsWith : am_mo mt_W_beginsWith 4 := ⟨⟨by decide +kernel, by decide +kernel⟩, by decide +kernel, ⟨by decide +kernel, by decide +kernel⟩, (am_t3 102 rfl rfl), (am_t1 1 rfl rfl), by decide +kernel⟩
theorem st_W_beginsWith : Cond.static mt_W_beginsWith.1 ∈ am_gw := (am_t3 101 rfl rfl)
theorem ln_A_55 : am_ln "WebFinder$AddressReader" 55 mt_W_beginsWith.1 := Or.inr ⟨"WebFinder", (am_n3 100 rfl rfl)⟩
theorem dc_A_resolve_117 : decode prog_2_method_2_code 117 = .ok (.ifCond .ne 5, 3) := by decide +kernel
theorem dc_A_resolve_120 : decode prog_2_method_2_code 120 = .ok (.iconst 0, 1) := by decide +kernel
theorem dc_A_resolve_121 : decode prog_2_method_2_code 121 = .ok (.ireturn, 1) := by decide +kernel
theorem dc_A_resolve_122 : decode prog_2_method_2_code 122 = .ok (.iload 7, 2) := by decide +kernel
theorem dc_A_resolve_124 : decode prog_2_method_2_code 124 = .ok (.iconst 1, 1) := by decide +kernel
theorem dc_A_resolve_125 : decode prog_2_method_2_code 125 = .ok (.iadd, 1) := by decide +kernel
theorem dc_A_resolve_126 : decode prog_2_method_2_code 126 = .ok (.istore 5, 2) := by decide +kernel
theorem dc_A_resolve_128 : decode prog_2_method_2_code 128 = .ok (.aload_n 1, 1) := by decide +kernel
theorem dc_A_resolve_129 : decode prog_2_method_2_code 129 = .ok (.iload 5, 2) := by decide +kernel
theorem dc_A_resolve_131 : decode prog_2_method_2_code 131 = .ok (.iload 6, 2) := by decide +kernel
theorem dc_A_resolve_133 : decode prog_2_method_2_code 133 = .ok (.ldc 53, 2) := by decide +kernel
theorem dc_A_resolve_135 : decode prog_2_method_2_code 135 = .ok (.invokestatic 55, 3) := by decide +kernel
theorem dc_A_resolve_138 : decode prog_2_method_2_code 138 = .ok (.ifCond .eq 17, 3) := by decide +kernel
theorem dc_A_resolve_141 : decode prog_2_method_2_code 141 = .ok (.aload_n 0, 1) := by decide +kernel
theorem dc_A_resolve_142 : decode prog_2_method_2_code 142 = .ok (.aload_n 1, 1) := by decide +kernel
theorem dc_A_resolve_143 : decode prog_2_method_2_code 143 = .ok (.iload 5, 2) := by decide +kernel
theorem dc_A_resolve_145 : decode prog_2_method_2_code 145 = .ok (.iconst 2, 1) := by decide +kernel
theorem dc_A_resolve_146 : decode prog_2_method_2_code 146 = .ok (.iadd, 1) := by decide +kernel
theorem dc_A_resolve_147 : decode prog_2_method_2_code 147 = .ok (.iload 6, 2) := by decide +kernel
theorem dc_A_resolve_149 : decode prog_2_method_2_code 149 = .ok (.invokevirtual 58, 3) := by decide +kernel
theorem mo_A_joinHost : am_mo mt_A_joinHost 3 := ⟨⟨by decide +kernel, by decide +kernel⟩, by decide +kernel, ⟨by decide +kernel, by decide +kernel⟩, (am_t3 107 rfl rfl), (am_t1 3 rfl rfl), by decide +kernel⟩
theorem im_A_joinHost : Cond.instanceMethod mt_A_joinHost.1 ∈ am_gw := (am_t3 106 rfl rfl)
theorem se_A_joinHost : Cond.selects mt_A_joinHost.1.cls mt_A_joinHost.1 mt_A_joinHost.1 ∈ am_gw := am_in (List.mem_append_left _ (by decide +kernel)) rfl
theorem ln_A_58 : am_ln "WebFinder$AddressReader" 58 mt_A_joinHost.1 := Or.inl (am_t3 104 rfl rfl)
theorem dc_A_resolve_152 : decode prog_2_method_2_code 152 = .ok (.goto 14, 3) := by decide +kernel
theorem dc_A_resolve_155 : decode prog_2_method_2_code 155 = .ok (.aload_n 0, 1) := by decide +kernel
theorem dc_A_resolve_156 : decode prog_2_method_2_code 156 = .ok (.aload_n 1, 1) := by decide +kernel
theorem dc_A_resolve_157 : decode prog_2_method_2_code 157 = .ok (.iload 5, 2) := by decide +kernel
theorem dc_A_resolve_159 : decode prog_2_method_2_code 159 = .ok (.iload 6, 2) := by decide +kernel
theorem dc_A_resolve_161 : decode prog_2_method_2_code 161 = .ok (.aload 4, 2) := by decide +kernel
theorem dc_A_resolve_163 : decode prog_2_method_2_code 163 = .ok (.invokevirtual 61, 3) := by decide +kernel
theorem mo_A_joinBase : am_mo mt_A_joinBase 4 := ⟨⟨by decide +kernel, by decide +kernel⟩, by decide +kernel, ⟨by decide +kernel, by decide +kernel⟩, (am_t3 161 rfl rfl), (am_t1 3 rfl rfl), by decide +kernel⟩
theorem im_A_joinBase : Cond.instanceMethod mt_A_joinBase.1 ∈ am_gw := (am_t3 160 rfl rfl)
theorem se_A_joinBase : Cond.selects mt_A_joinBase.1.cls mt_A_joinBase.1 mt_A_joinBase.1 ∈ am_gw := am_in (List.mem_append_left _ (by decide +kernel)) rfl
theorem ln_A_61 : am_ln "WebFinder$AddressReader" 61 mt_A_joinBase.1 := Or.inl (am_t3 158 rfl rfl)
theorem dc_A_resolve_166 : decode prog_2_method_2_code 166 = .ok (.istore 8, 2) := by decide +kernel
theorem dc_A_resolve_168 : decode prog_2_method_2_code 168 = .ok (.iload 8, 2) := by decide +kernel
theorem dc_A_resolve_170 : decode prog_2_method_2_code 170 = .ok (.iconst (-1), 1) := by decide +kernel
theorem dc_A_resolve_171 : decode prog_2_method_2_code 171 = .ok (.if_icmp .ne 5, 3) := by decide +kernel
theorem dc_A_resolve_174 : decode prog_2_method_2_code 174 = .ok (.iconst 0, 1) := by decide +kernel
theorem dc_A_resolve_175 : decode prog_2_method_2_code 175 = .ok (.ireturn, 1) := by decide +kernel
theorem dc_A_resolve_176 : decode prog_2_method_2_code 176 = .ok (.aload_n 0, 1) := by decide +kernel
theorem dc_A_resolve_177 : decode prog_2_method_2_code 177 = .ok (.getfield 20, 3) := by decide +kernel
theorem dc_A_resolve_180 : decode prog_2_method_2_code 180 = .ok (.aload_n 1, 1) := by decide +kernel
theorem dc_A_resolve_181 : decode prog_2_method_2_code 181 = .ok (.iload 8, 2) := by decide +kernel
theorem dc_A_resolve_183 : decode prog_2_method_2_code 183 = .ok (.iload 6, 2) := by decide +kernel
theorem dc_A_resolve_185 : decode prog_2_method_2_code 185 = .ok (.invokevirtual 65, 3) := by decide +kernel
theorem mo_B_putUnescaped : am_mo mt_B_putUnescaped 3 := ⟨⟨by decide +kernel, by decide +kernel⟩, by decide +kernel, ⟨by decide +kernel, by decide +kernel⟩, (am_t3 172 rfl rfl), (am_t1 2 rfl rfl), by decide +kernel⟩
theorem im_B_putUnescaped : Cond.instanceMethod mt_B_putUnescaped.1 ∈ am_gw := (am_t3 170 rfl rfl)
theorem se_B_putUnescaped : Cond.selects mt_B_putUnescaped.1.cls mt_B_putUnescaped.1 mt_B_putUnescaped.1 ∈ am_gw := (am_t3 171 rfl rfl)
theorem ln_A_65 : am_ln "WebFinder$AddressReader" 65 mt_B_putUnescaped.1 := Or.inl (am_t3 169 rfl rfl)
theorem dc_A_resolve_188 : decode prog_2_method_2_code 188 = .ok (.aload_n 0, 1) := by decide +kernel
theorem dc_A_resolve_189 : decode prog_2_method_2_code 189 = .ok (.invokevirtual 69, 3) := by decide +kernel
theorem mo_A_foldPath : am_mo mt_A_foldPath 0 := ⟨⟨by decide +kernel, by decide +kernel⟩, by decide +kernel, ⟨by decide +kernel, by decide +kernel⟩, (am_t3 182 rfl rfl), (am_t1 3 rfl rfl), by decide +kernel⟩
theorem im_A_foldPath : Cond.instanceMethod mt_A_foldPath.1 ∈ am_gw := (am_t3 181 rfl rfl)
theorem se_A_foldPath : Cond.selects mt_A_foldPath.1.cls mt_A_foldPath.1 mt_A_foldPath.1 ∈ am_gw := am_in (List.mem_append_left _ (by decide +kernel)) rfl
theorem ln_A_69 : am_ln "WebFinder$AddressReader" 69 mt_A_foldPath.1 := Or.inl (am_t3 179 rfl rfl)
theorem dc_A_resolve_192 : decode prog_2_method_2_code 192 = .ok (.aload_n 0, 1) := by decide +kernel
theorem dc_A_resolve_193 : decode prog_2_method_2_code 193 = .ok (.getfield 14, 3) := by decide +kernel
theorem dc_A_resolve_196 : decode prog_2_method_2_code 196 = .ok (.getfield 72, 3) := by decide +kernel
theorem fl_A_72 : am_fl "WebFinder$AddressReader" 72 1 1 := ⟨"WebFinder$Bytes", tt_B, 2, rfl, by decide, Or.inl (am_t1 60 rfl rfl)⟩
theorem dc_A_resolve_199 : decode prog_2_method_2_code 199 = .ok (.sipush 200, 3) := by decide +kernel
theorem dc_A_resolve_202 : decode prog_2_method_2_code 202 = .ok (.if_icmp .le 10, 3) := by decide +kernel
theorem dc_A_resolve_205 : decode prog_2_method_2_code 205 = .ok (.aload_n 0, 1) := by decide +kernel
theorem dc_A_resolve_206 : decode prog_2_method_2_code 206 = .ok (.getfield 14, 3) := by decide +kernel
theorem dc_A_resolve_209 : decode prog_2_method_2_code 209 = .ok (.invokevirtual 23, 3) := by decide +kernel
theorem dc_A_resolve_212 : decode prog_2_method_2_code 212 = .ok (.aload_n 0, 1) := by decide +kernel
theorem dc_A_resolve_213 : decode prog_2_method_2_code 213 = .ok (.getfield 14, 3) := by decide +kernel
theorem dc_A_resolve_216 : decode prog_2_method_2_code 216 = .ok (.getfield 72, 3) := by decide +kernel
theorem dc_A_resolve_219 : decode prog_2_method_2_code 219 = .ok (.ifCond .le 7, 3) := by decide +kernel
theorem dc_A_resolve_222 : decode prog_2_method_2_code 222 = .ok (.iconst 1, 1) := by decide +kernel
theorem dc_A_resolve_223 : decode prog_2_method_2_code 223 = .ok (.goto 4, 3) := by decide +kernel
theorem dc_A_resolve_226 : decode prog_2_method_2_code 226 = .ok (.iconst 0, 1) := by decide +kernel
theorem dc_A_resolve_227 : decode prog_2_method_2_code 227 = .ok (.ireturn, 1) := by decide +kernel
theorem dc_B_clear_0 : decode prog_4_method_2_code 0 = .ok (.aload_n 0, 1) := by decide +kernel
theorem dc_B_clear_1 : decode prog_4_method_2_code 1 = .ok (.iconst 0, 1) := by decide +kernel
theorem dc_B_clear_2 : decode prog_4_method_2_code 2 = .ok (.putfield 15, 3) := by decide +kernel
theorem fp_B_clear_15 : am_fp mt_B_clear.1 15 1 1 (.int) := ⟨"WebFinder$Bytes", tt_B, 2, rfl, by decide, ct_B 1 (by decide), Or.inl ⟨(am_t1 57 rfl rfl), Or.inl rfl⟩⟩
theorem dc_B_clear_5 : decode prog_4_method_2_code 5 = .ok (.return_, 1) := by decide +kernel
theorem dc_W_trimmedFrom_0 : decode prog_1_method_43_code 0 = .ok (.iload_n 1, 1) := by decide +kernel
theorem dc_W_trimmedFrom_1 : decode prog_1_method_43_code 1 = .ok (.istore_n 3, 1) := by decide +kernel
theorem dc_W_trimmedFrom_2 : decode prog_1_method_43_code 2 = .ok (.iload_n 3, 1) := by decide +kernel
theorem dc_W_trimmedFrom_3 : decode prog_1_method_43_code 3 = .ok (.iload_n 2, 1) := by decide +kernel
theorem dc_W_trimmedFrom_4 : decode prog_1_method_43_code 4 = .ok (.if_icmp .ge 18, 3) := by decide +kernel
theorem dc_W_trimmedFrom_7 : decode prog_1_method_43_code 7 = .ok (.aload_n 0, 1) := by decide +kernel
theorem dc_W_trimmedFrom_8 : decode prog_1_method_43_code 8 = .ok (.iload_n 3, 1) := by decide +kernel
theorem dc_W_trimmedFrom_9 : decode prog_1_method_43_code 9 = .ok (.baload, 1) := by decide +kernel
theorem dc_W_trimmedFrom_10 : decode prog_1_method_43_code 10 = .ok (.invokestatic 305, 3) := by decide +kernel
theorem mo_W_isBlank : am_mo mt_W_isBlank 1 := ⟨⟨by decide +kernel, by decide +kernel⟩, by decide +kernel, ⟨by decide +kernel, by decide +kernel⟩, (am_t2 209 rfl rfl), (am_t1 1 rfl rfl), by decide +kernel⟩
theorem st_W_isBlank : Cond.static mt_W_isBlank.1 ∈ am_gw := (am_t2 208 rfl rfl)
theorem ln_W_305 : am_ln "WebFinder" 305 mt_W_isBlank.1 := Or.inl (am_t2 207 rfl rfl)
theorem dc_W_trimmedFrom_13 : decode prog_1_method_43_code 13 = .ok (.ifCond .eq 9, 3) := by decide +kernel
theorem dc_W_trimmedFrom_16 : decode prog_1_method_43_code 16 = .ok (.iinc 3 1, 3) := by decide +kernel
theorem dc_W_trimmedFrom_19 : decode prog_1_method_43_code 19 = .ok (.goto (-17), 3) := by decide +kernel
theorem dc_W_trimmedFrom_22 : decode prog_1_method_43_code 22 = .ok (.iload_n 3, 1) := by decide +kernel
theorem dc_W_trimmedFrom_23 : decode prog_1_method_43_code 23 = .ok (.ireturn, 1) := by decide +kernel
theorem dc_W_isBlank_0 : decode prog_1_method_36_code 0 = .ok (.iload_n 0, 1) := by decide +kernel
theorem dc_W_isBlank_1 : decode prog_1_method_36_code 1 = .ok (.bipush 32, 2) := by decide +kernel
theorem dc_W_isBlank_3 : decode prog_1_method_36_code 3 = .ok (.if_icmp .eq 27, 3) := by decide +kernel
theorem dc_W_isBlank_6 : decode prog_1_method_36_code 6 = .ok (.iload_n 0, 1) := by decide +kernel
theorem dc_W_isBlank_7 : decode prog_1_method_36_code 7 = .ok (.bipush 9, 2) := by decide +kernel
theorem dc_W_isBlank_9 : decode prog_1_method_36_code 9 = .ok (.if_icmp .eq 21, 3) := by decide +kernel
theorem dc_W_isBlank_12 : decode prog_1_method_36_code 12 = .ok (.iload_n 0, 1) := by decide +kernel
theorem dc_W_isBlank_13 : decode prog_1_method_36_code 13 = .ok (.bipush 10, 2) := by decide +kernel
theorem dc_W_isBlank_15 : decode prog_1_method_36_code 15 = .ok (.if_icmp .eq 15, 3) := by decide +kernel
theorem dc_W_isBlank_18 : decode prog_1_method_36_code 18 = .ok (.iload_n 0, 1) := by decide +kernel
theorem dc_W_isBlank_19 : decode prog_1_method_36_code 19 = .ok (.bipush 12, 2) := by decide +kernel
theorem dc_W_isBlank_21 : decode prog_1_method_36_code 21 = .ok (.if_icmp .eq 9, 3) := by decide +kernel
theorem dc_W_isBlank_24 : decode prog_1_method_36_code 24 = .ok (.iload_n 0, 1) := by decide +kernel
theorem dc_W_isBlank_25 : decode prog_1_method_36_code 25 = .ok (.bipush 13, 2) := by decide +kernel
theorem dc_W_isBlank_27 : decode prog_1_method_36_code 27 = .ok (.if_icmp .ne 7, 3) := by decide +kernel
theorem dc_W_isBlank_30 : decode prog_1_method_36_code 30 = .ok (.iconst 1, 1) := by decide +kernel
theorem dc_W_isBlank_31 : decode prog_1_method_36_code 31 = .ok (.goto 4, 3) := by decide +kernel
theorem dc_W_isBlank_34 : decode prog_1_method_36_code 34 = .ok (.iconst 0, 1) := by decide +kernel
theorem dc_W_isBlank_35 : decode prog_1_method_36_code 35 = .ok (.ireturn, 1) := by decide +kernel
theorem dc_W_trimmedTo_0 : decode prog_1_method_44_code 0 = .ok (.iload_n 2, 1) := by decide +kernel
theorem dc_W_trimmedTo_1 : decode prog_1_method_44_code 1 = .ok (.istore_n 3, 1) := by decide +kernel
theorem dc_W_trimmedTo_2 : decode prog_1_method_44_code 2 = .ok (.iload_n 3, 1) := by decide +kernel
theorem dc_W_trimmedTo_3 : decode prog_1_method_44_code 3 = .ok (.iload_n 1, 1) := by decide +kernel
theorem dc_W_trimmedTo_4 : decode prog_1_method_44_code 4 = .ok (.if_icmp .le 20, 3) := by decide +kernel
theorem dc_W_trimmedTo_7 : decode prog_1_method_44_code 7 = .ok (.aload_n 0, 1) := by decide +kernel
theorem dc_W_trimmedTo_8 : decode prog_1_method_44_code 8 = .ok (.iload_n 3, 1) := by decide +kernel
theorem dc_W_trimmedTo_9 : decode prog_1_method_44_code 9 = .ok (.iconst 1, 1) := by decide +kernel
theorem dc_W_trimmedTo_10 : decode prog_1_method_44_code 10 = .ok (.isub, 1) := by decide +kernel
theorem dc_W_trimmedTo_11 : decode prog_1_method_44_code 11 = .ok (.baload, 1) := by decide +kernel
theorem dc_W_trimmedTo_12 : decode prog_1_method_44_code 12 = .ok (.invokestatic 305, 3) := by decide +kernel
theorem dc_W_trimmedTo_15 : decode prog_1_method_44_code 15 = .ok (.ifCond .eq 9, 3) := by decide +kernel
theorem dc_W_trimmedTo_18 : decode prog_1_method_44_code 18 = .ok (.iinc 3 (-1), 3) := by decide +kernel
theorem dc_W_trimmedTo_21 : decode prog_1_method_44_code 21 = .ok (.goto (-19), 3) := by decide +kernel
theorem dc_W_trimmedTo_24 : decode prog_1_method_44_code 24 = .ok (.iload_n 3, 1) := by decide +kernel
theorem dc_W_trimmedTo_25 : decode prog_1_method_44_code 25 = .ok (.ireturn, 1) := by decide +kernel
theorem dc_A_isClean_0 : decode prog_2_method_3_code 0 = .ok (.iload_n 1, 1) := by decide +kernel
theorem dc_A_isClean_1 : decode prog_2_method_3_code 1 = .ok (.istore_n 3, 1) := by decide +kernel
theorem dc_A_isClean_2 : decode prog_2_method_3_code 2 = .ok (.iload_n 3, 1) := by decide +kernel
theorem dc_A_isClean_3 : decode prog_2_method_3_code 3 = .ok (.iload_n 2, 1) := by decide +kernel
theorem dc_A_isClean_4 : decode prog_2_method_3_code 4 = .ok (.if_icmp .ge 60, 3) := by decide +kernel
theorem dc_A_isClean_7 : decode prog_2_method_3_code 7 = .ok (.aload_n 0, 1) := by decide +kernel
theorem dc_A_isClean_8 : decode prog_2_method_3_code 8 = .ok (.iload_n 3, 1) := by decide +kernel
theorem dc_A_isClean_9 : decode prog_2_method_3_code 9 = .ok (.baload, 1) := by decide +kernel
theorem dc_A_isClean_10 : decode prog_2_method_3_code 10 = .ok (.istore 4, 2) := by decide +kernel
theorem dc_A_isClean_12 : decode prog_2_method_3_code 12 = .ok (.iload 4, 2) := by decide +kernel
theorem dc_A_isClean_14 : decode prog_2_method_3_code 14 = .ok (.bipush 33, 2) := by decide +kernel
theorem dc_A_isClean_16 : decode prog_2_method_3_code 16 = .ok (.if_icmp .lt 21, 3) := by decide +kernel
theorem dc_A_isClean_19 : decode prog_2_method_3_code 19 = .ok (.iload 4, 2) := by decide +kernel
theorem dc_A_isClean_21 : decode prog_2_method_3_code 21 = .ok (.bipush 126, 2) := by decide +kernel
theorem dc_A_isClean_23 : decode prog_2_method_3_code 23 = .ok (.if_icmp .gt 14, 3) := by decide +kernel
theorem dc_A_isClean_26 : decode prog_2_method_3_code 26 = .ok (.ldc 76, 2) := by decide +kernel
theorem dc_A_isClean_28 : decode prog_2_method_3_code 28 = .ok (.iload 4, 2) := by decide +kernel
theorem dc_A_isClean_30 : decode prog_2_method_3_code 30 = .ok (.i2c, 1) := by decide +kernel
theorem dc_A_isClean_31 : decode prog_2_method_3_code 31 = .ok (.invokevirtual 78, 3) := by decide +kernel
theorem mo_JString_indexOf_0 : am_mo mt_JString_indexOf_0 1 := ⟨⟨by decide +kernel, by decide +kernel⟩, by decide +kernel, ⟨by decide +kernel, by decide +kernel⟩, (am_t2 221 rfl rfl), (am_t1 20 rfl rfl), by decide +kernel⟩
theorem im_JString_indexOf_0 : Cond.instanceMethod mt_JString_indexOf_0.1 ∈ am_gw := (am_t2 219 rfl rfl)
theorem se_JString_indexOf_0 : Cond.selects mt_JString_indexOf_0.1.cls mt_JString_indexOf_0.1 mt_JString_indexOf_0.1 ∈ am_gw := (am_t2 220 rfl rfl)
theorem ln_A_78 : am_ln "WebFinder$AddressReader" 78 mt_JString_indexOf_0.1 := Or.inl (am_t2 218 rfl rfl)
theorem dc_A_isClean_34 : decode prog_2_method_3_code 34 = .ok (.ifCond .lt 5, 3) := by decide +kernel
theorem dc_A_isClean_37 : decode prog_2_method_3_code 37 = .ok (.iconst 0, 1) := by decide +kernel
theorem dc_A_isClean_38 : decode prog_2_method_3_code 38 = .ok (.ireturn, 1) := by decide +kernel
theorem dc_A_isClean_39 : decode prog_2_method_3_code 39 = .ok (.iload 4, 2) := by decide +kernel
theorem dc_A_isClean_41 : decode prog_2_method_3_code 41 = .ok (.bipush 37, 2) := by decide +kernel
theorem dc_A_isClean_43 : decode prog_2_method_3_code 43 = .ok (.if_icmp .ne 15, 3) := by decide +kernel
theorem dc_A_isClean_46 : decode prog_2_method_3_code 46 = .ok (.aload_n 0, 1) := by decide +kernel
theorem dc_A_isClean_47 : decode prog_2_method_3_code 47 = .ok (.iload_n 3, 1) := by decide +kernel
theorem dc_A_isClean_48 : decode prog_2_method_3_code 48 = .ok (.iload_n 2, 1) := by decide +kernel
theorem dc_A_isClean_49 : decode prog_2_method_3_code 49 = .ok (.invokestatic 83, 3) := by decide +kernel
theorem mo_W_escapedByte : am_mo mt_W_escapedByte 3 := ⟨⟨by decide +kernel, by decide +kernel⟩, by decide +kernel, ⟨by decide +kernel, by decide +kernel⟩, (am_t3 66 rfl rfl), (am_t1 1 rfl rfl), by decide +kernel⟩
theorem st_W_escapedByte : Cond.static mt_W_escapedByte.1 ∈ am_gw := (am_t3 65 rfl rfl)
theorem ln_A_83 : am_ln "WebFinder$AddressReader" 83 mt_W_escapedByte.1 := Or.inr ⟨"WebFinder", (am_n3 64 rfl rfl)⟩
theorem dc_A_isClean_52 : decode prog_2_method_3_code 52 = .ok (.iconst (-1), 1) := by decide +kernel
theorem dc_A_isClean_53 : decode prog_2_method_3_code 53 = .ok (.if_icmp .ne 5, 3) := by decide +kernel
theorem dc_A_isClean_56 : decode prog_2_method_3_code 56 = .ok (.iconst 0, 1) := by decide +kernel
theorem dc_A_isClean_57 : decode prog_2_method_3_code 57 = .ok (.ireturn, 1) := by decide +kernel
theorem dc_A_isClean_58 : decode prog_2_method_3_code 58 = .ok (.iinc 3 1, 3) := by decide +kernel
theorem dc_A_isClean_61 : decode prog_2_method_3_code 61 = .ok (.goto (-59), 3) := by decide +kernel
theorem dc_A_isClean_64 : decode prog_2_method_3_code 64 = .ok (.iconst 1, 1) := by decide +kernel
theorem dc_A_isClean_65 : decode prog_2_method_3_code 65 = .ok (.ireturn, 1) := by decide +kernel
