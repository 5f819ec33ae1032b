theorem dc_T_tell_0 : decode prog_11_method_2_code 0 = .ok (.aload_n 0, 1) := by decide +kernel
theorem dc_T_tell_1 : decode prog_11_method_2_code 1 = .ok (.aload_n 1, 1) := by decide +kernel
theorem dc_T_tell_2 : decode prog_11_method_2_code 2 = .ok (.iload_n 2, 1) := by decide +kernel
theorem dc_T_tell_3 : decode prog_11_method_2_code 3 = .ok (.iload_n 3, 1) := by decide +kernel
theorem dc_T_tell_4 : decode prog_11_method_2_code 4 = .ok (.ldc 32, 2) := by decide +kernel
theorem dc_T_tell_6 : decode prog_11_method_2_code 6 = .ok (.invokevirtual 34, 3) := by decide +kernel
theorem mo_T_collect : am_mo mt_T_collect 4 := ⟨⟨by decide +kernel, by decide +kernel⟩, by decide +kernel, ⟨by decide +kernel, by decide +kernel⟩, (am_t5 72 rfl rfl), (am_t1 30 rfl rfl), by decide +kernel⟩
theorem im_T_collect : Cond.instanceMethod mt_T_collect.1 ∈ am_gw := (am_t5 71 rfl rfl)
theorem se_T_collect : Cond.selects mt_T_collect.1.cls mt_T_collect.1 mt_T_collect.1 ∈ am_gw := am_in (List.mem_append_left _ (by decide +kernel)) rfl
theorem ln_T_34 : am_ln "WebFinder$SiteRules" 34 mt_T_collect.1 := Or.inl (am_t5 69 rfl rfl)
theorem dc_T_tell_9 : decode prog_11_method_2_code 9 = .ok (.ifCond .ne 13, 3) := by decide +kernel
theorem dc_T_tell_12 : decode prog_11_method_2_code 12 = .ok (.aload_n 0, 1) := by decide +kernel
theorem dc_T_tell_13 : decode prog_11_method_2_code 13 = .ok (.aload_n 1, 1) := by decide +kernel
theorem dc_T_tell_14 : decode prog_11_method_2_code 14 = .ok (.iload_n 2, 1) := by decide +kernel
theorem dc_T_tell_15 : decode prog_11_method_2_code 15 = .ok (.iload_n 3, 1) := by decide +kernel
theorem dc_T_tell_16 : decode prog_11_method_2_code 16 = .ok (.ldc 38, 2) := by decide +kernel
theorem dc_T_tell_18 : decode prog_11_method_2_code 18 = .ok (.invokevirtual 34, 3) := by decide +kernel
theorem dc_T_tell_21 : decode prog_11_method_2_code 21 = .ok (.pop, 1) := by decide +kernel
theorem dc_T_tell_22 : decode prog_11_method_2_code 22 = .ok (.aload_n 0, 1) := by decide +kernel
theorem dc_T_tell_23 : decode prog_11_method_2_code 23 = .ok (.getfield 25, 3) := by decide +kernel
theorem fl_T_25 : am_fl "WebFinder$SiteRules" 25 11 1 := ⟨"WebFinder$SiteRules", tt_T, 3, rfl, by decide, Or.inl (am_t5 54 rfl rfl)⟩
theorem dc_T_tell_26 : decode prog_11_method_2_code 26 = .ok (.getfield 40, 3) := by decide +kernel
theorem fl_T_40 : am_fl "WebFinder$SiteRules" 40 4 2 := ⟨"WebFinder$Rows", tt_R, 3, rfl, by decide, Or.inl (am_t1 112 rfl rfl)⟩
theorem dc_T_tell_29 : decode prog_11_method_2_code 29 = .ok (.aload_n 0, 1) := by decide +kernel
theorem dc_T_tell_30 : decode prog_11_method_2_code 30 = .ok (.getfield 29, 3) := by decide +kernel
theorem fl_T_29 : am_fl "WebFinder$SiteRules" 29 11 2 := ⟨"WebFinder$SiteRules", tt_T, 3, rfl, by decide, Or.inl (am_t5 55 rfl rfl)⟩
theorem dc_T_tell_33 : decode prog_11_method_2_code 33 = .ok (.getfield 40, 3) := by decide +kernel
theorem dc_T_tell_36 : decode prog_11_method_2_code 36 = .ok (.iadd, 1) := by decide +kernel
theorem dc_T_tell_37 : decode prog_11_method_2_code 37 = .ok (.ireturn, 1) := by decide +kernel
theorem dc_T_collect_0 : decode prog_11_method_3_code 0 = .ok (.aload_n 0, 1) := by decide +kernel
theorem dc_T_collect_1 : decode prog_11_method_3_code 1 = .ok (.getfield 25, 3) := by decide +kernel
theorem dc_T_collect_4 : decode prog_11_method_3_code 4 = .ok (.invokevirtual 44, 3) := by decide +kernel
theorem mo_R_clear : am_mo mt_R_clear 0 := ⟨⟨by decide +kernel, by decide +kernel⟩, by decide +kernel, ⟨by decide +kernel, by decide +kernel⟩, (am_t5 76 rfl rfl), (am_t1 5 rfl rfl), by decide +kernel⟩
theorem im_R_clear : Cond.instanceMethod mt_R_clear.1 ∈ am_gw := (am_t5 74 rfl rfl)
theorem se_R_clear : Cond.selects mt_R_clear.1.cls mt_R_clear.1 mt_R_clear.1 ∈ am_gw := (am_t5 75 rfl rfl)
theorem ln_T_44 : am_ln "WebFinder$SiteRules" 44 mt_R_clear.1 := Or.inl (am_t5 73 rfl rfl)
theorem dc_T_collect_7 : decode prog_11_method_3_code 7 = .ok (.aload_n 0, 1) := by decide +kernel
theorem dc_T_collect_8 : decode prog_11_method_3_code 8 = .ok (.getfield 29, 3) := by decide +kernel
theorem dc_T_collect_11 : decode prog_11_method_3_code 11 = .ok (.invokevirtual 44, 3) := by decide +kernel
theorem dc_T_collect_14 : decode prog_11_method_3_code 14 = .ok (.iconst 0, 1) := by decide +kernel
theorem dc_T_collect_15 : decode prog_11_method_3_code 15 = .ok (.istore 5, 2) := by decide +kernel
theorem dc_T_collect_17 : decode prog_11_method_3_code 17 = .ok (.iconst 0, 1) := by decide +kernel
theorem dc_T_collect_18 : decode prog_11_method_3_code 18 = .ok (.istore 6, 2) := by decide +kernel
theorem dc_T_collect_20 : decode prog_11_method_3_code 20 = .ok (.iconst 0, 1) := by decide +kernel
theorem dc_T_collect_21 : decode prog_11_method_3_code 21 = .ok (.istore 7, 2) := by decide +kernel
theorem dc_T_collect_23 : decode prog_11_method_3_code 23 = .ok (.iload_n 2, 1) := by decide +kernel
theorem dc_T_collect_24 : decode prog_11_method_3_code 24 = .ok (.istore 8, 2) := by decide +kernel
theorem dc_T_collect_26 : decode prog_11_method_3_code 26 = .ok (.iload 8, 2) := by decide +kernel
theorem dc_T_collect_28 : decode prog_11_method_3_code 28 = .ok (.iload_n 3, 1) := by decide +kernel
theorem dc_T_collect_29 : decode prog_11_method_3_code 29 = .ok (.if_icmp .ge 254, 3) := by decide +kernel
theorem dc_T_collect_32 : decode prog_11_method_3_code 32 = .ok (.aload_n 1, 1) := by decide +kernel
theorem dc_T_collect_33 : decode prog_11_method_3_code 33 = .ok (.bipush 10, 2) := by decide +kernel
theorem dc_T_collect_35 : decode prog_11_method_3_code 35 = .ok (.iload 8, 2) := by decide +kernel
theorem dc_T_collect_37 : decode prog_11_method_3_code 37 = .ok (.iload_n 3, 1) := by decide +kernel
theorem dc_T_collect_38 : decode prog_11_method_3_code 38 = .ok (.invokestatic 47, 3) := by decide +kernel
theorem ln_T_47 : am_ln "WebFinder$SiteRules" 47 mt_W_indexOf.1 := Or.inr ⟨"WebFinder", (am_n5 85 rfl rfl)⟩
theorem dc_T_collect_41 : decode prog_11_method_3_code 41 = .ok (.istore 9, 2) := by decide +kernel
theorem dc_T_collect_43 : decode prog_11_method_3_code 43 = .ok (.aload_n 1, 1) := by decide +kernel
theorem dc_T_collect_44 : decode prog_11_method_3_code 44 = .ok (.bipush 35, 2) := by decide +kernel
theorem dc_T_collect_46 : decode prog_11_method_3_code 46 = .ok (.iload 8, 2) := by decide +kernel
theorem dc_T_collect_48 : decode prog_11_method_3_code 48 = .ok (.iload 9, 2) := by decide +kernel
theorem dc_T_collect_50 : decode prog_11_method_3_code 50 = .ok (.invokestatic 47, 3) := by decide +kernel
theorem dc_T_collect_53 : decode prog_11_method_3_code 53 = .ok (.istore 10, 2) := by decide +kernel
theorem dc_T_collect_55 : decode prog_11_method_3_code 55 = .ok (.aload_n 1, 1) := by decide +kernel
theorem dc_T_collect_56 : decode prog_11_method_3_code 56 = .ok (.bipush 58, 2) := by decide +kernel
theorem dc_T_collect_58 : decode prog_11_method_3_code 58 = .ok (.iload 8, 2) := by decide +kernel
theorem dc_T_collect_60 : decode prog_11_method_3_code 60 = .ok (.iload 10, 2) := by decide +kernel
theorem dc_T_collect_62 : decode prog_11_method_3_code 62 = .ok (.invokestatic 47, 3) := by decide +kernel
theorem dc_T_collect_65 : decode prog_11_method_3_code 65 = .ok (.istore 11, 2) := by decide +kernel
theorem dc_T_collect_67 : decode prog_11_method_3_code 67 = .ok (.aload_n 1, 1) := by decide +kernel
theorem dc_T_collect_68 : decode prog_11_method_3_code 68 = .ok (.iload 8, 2) := by decide +kernel
theorem dc_T_collect_70 : decode prog_11_method_3_code 70 = .ok (.iload 11, 2) := by decide +kernel
theorem dc_T_collect_72 : decode prog_11_method_3_code 72 = .ok (.invokestatic 51, 3) := by decide +kernel
theorem ln_T_51 : am_ln "WebFinder$SiteRules" 51 mt_W_trimmedFrom.1 := Or.inr ⟨"WebFinder", (am_n5 86 rfl rfl)⟩
theorem dc_T_collect_75 : decode prog_11_method_3_code 75 = .ok (.istore 12, 2) := by decide +kernel
theorem dc_T_collect_77 : decode prog_11_method_3_code 77 = .ok (.aload_n 1, 1) := by decide +kernel
theorem dc_T_collect_78 : decode prog_11_method_3_code 78 = .ok (.iload 12, 2) := by decide +kernel
theorem dc_T_collect_80 : decode prog_11_method_3_code 80 = .ok (.iload 11, 2) := by decide +kernel
theorem dc_T_collect_82 : decode prog_11_method_3_code 82 = .ok (.invokestatic 55, 3) := by decide +kernel
theorem ln_T_55 : am_ln "WebFinder$SiteRules" 55 mt_W_trimmedTo.1 := Or.inr ⟨"WebFinder", (am_n5 87 rfl rfl)⟩
theorem dc_T_collect_85 : decode prog_11_method_3_code 85 = .ok (.istore 13, 2) := by decide +kernel
theorem dc_T_collect_87 : decode prog_11_method_3_code 87 = .ok (.aload_n 1, 1) := by decide +kernel
theorem dc_T_collect_88 : decode prog_11_method_3_code 88 = .ok (.iload 11, 2) := by decide +kernel
theorem dc_T_collect_90 : decode prog_11_method_3_code 90 = .ok (.iconst 1, 1) := by decide +kernel
theorem dc_T_collect_91 : decode prog_11_method_3_code 91 = .ok (.iadd, 1) := by decide +kernel
theorem dc_T_collect_92 : decode prog_11_method_3_code 92 = .ok (.iload 10, 2) := by decide +kernel
theorem dc_T_collect_94 : decode prog_11_method_3_code 94 = .ok (.invokestatic 58, 3) := by decide +kernel
theorem ln_T_58 : am_ln "WebFinder$SiteRules" 58 mt_JMath_min.1 := Or.inl (am_t5 88 rfl rfl)
theorem dc_T_collect_97 : decode prog_11_method_3_code 97 = .ok (.iload 10, 2) := by decide +kernel
theorem dc_T_collect_99 : decode prog_11_method_3_code 99 = .ok (.invokestatic 51, 3) := by decide +kernel
theorem dc_T_collect_102 : decode prog_11_method_3_code 102 = .ok (.istore 14, 2) := by decide +kernel
theorem dc_T_collect_104 : decode prog_11_method_3_code 104 = .ok (.aload_n 1, 1) := by decide +kernel
theorem dc_T_collect_105 : decode prog_11_method_3_code 105 = .ok (.iload 14, 2) := by decide +kernel
theorem dc_T_collect_107 : decode prog_11_method_3_code 107 = .ok (.iload 10, 2) := by decide +kernel
theorem dc_T_collect_109 : decode prog_11_method_3_code 109 = .ok (.invokestatic 55, 3) := by decide +kernel
theorem dc_T_collect_112 : decode prog_11_method_3_code 112 = .ok (.istore 15, 2) := by decide +kernel
theorem dc_T_collect_114 : decode prog_11_method_3_code 114 = .ok (.iload 9, 2) := by decide +kernel
theorem dc_T_collect_116 : decode prog_11_method_3_code 116 = .ok (.istore 8, 2) := by decide +kernel
theorem dc_T_collect_118 : decode prog_11_method_3_code 118 = .ok (.iload 11, 2) := by decide +kernel
theorem dc_T_collect_120 : decode prog_11_method_3_code 120 = .ok (.iload 10, 2) := by decide +kernel
theorem dc_T_collect_122 : decode prog_11_method_3_code 122 = .ok (.if_icmp .ne 6, 3) := by decide +kernel
theorem dc_T_collect_125 : decode prog_11_method_3_code 125 = .ok (.goto 152, 3) := by decide +kernel
theorem dc_T_collect_128 : decode prog_11_method_3_code 128 = .ok (.aload_n 1, 1) := by decide +kernel
theorem dc_T_collect_129 : decode prog_11_method_3_code 129 = .ok (.iload 12, 2) := by decide +kernel
theorem dc_T_collect_131 : decode prog_11_method_3_code 131 = .ok (.iload 13, 2) := by decide +kernel
theorem dc_T_collect_133 : decode prog_11_method_3_code 133 = .ok (.ldc 64, 2) := by decide +kernel
theorem dc_T_collect_135 : decode prog_11_method_3_code 135 = .ok (.invokestatic 66, 3) := by decide +kernel
theorem ln_T_66 : am_ln "WebFinder$SiteRules" 66 mt_W_isLower.1 := Or.inr ⟨"WebFinder", (am_n5 90 rfl rfl)⟩
theorem dc_T_collect_138 : decode prog_11_method_3_code 138 = .ok (.ifCond .eq 60, 3) := by decide +kernel
theorem dc_T_collect_141 : decode prog_11_method_3_code 141 = .ok (.aload_n 1, 1) := by decide +kernel
theorem dc_T_collect_142 : decode prog_11_method_3_code 142 = .ok (.iload 14, 2) := by decide +kernel
theorem dc_T_collect_144 : decode prog_11_method_3_code 144 = .ok (.iload 15, 2) := by decide +kernel
theorem dc_T_collect_146 : decode prog_11_method_3_code 146 = .ok (.aload 4, 2) := by decide +kernel
theorem dc_T_collect_148 : decode prog_11_method_3_code 148 = .ok (.invokestatic 66, 3) := by decide +kernel
theorem dc_T_collect_151 : decode prog_11_method_3_code 151 = .ok (.istore 16, 2) := by decide +kernel
theorem dc_T_collect_153 : decode prog_11_method_3_code 153 = .ok (.iload 16, 2) := by decide +kernel
theorem dc_T_collect_155 : decode prog_11_method_3_code 155 = .ok (.ifCond .ne 13, 3) := by decide +kernel
theorem dc_T_collect_158 : decode prog_11_method_3_code 158 = .ok (.iload 6, 2) := by decide +kernel
theorem dc_T_collect_160 : decode prog_11_method_3_code 160 = .ok (.ifCond .eq 12, 3) := by decide +kernel
theorem dc_T_collect_163 : decode prog_11_method_3_code 163 = .ok (.iload 7, 2) := by decide +kernel
theorem dc_T_collect_165 : decode prog_11_method_3_code 165 = .ok (.ifCond .eq 7, 3) := by decide +kernel
theorem dc_T_collect_168 : decode prog_11_method_3_code 168 = .ok (.iconst 1, 1) := by decide +kernel
theorem dc_T_collect_169 : decode prog_11_method_3_code 169 = .ok (.goto 4, 3) := by decide +kernel
theorem dc_T_collect_172 : decode prog_11_method_3_code 172 = .ok (.iconst 0, 1) := by decide +kernel
theorem dc_T_collect_173 : decode prog_11_method_3_code 173 = .ok (.istore 7, 2) := by decide +kernel
theorem dc_T_collect_175 : decode prog_11_method_3_code 175 = .ok (.iload 5, 2) := by decide +kernel
theorem dc_T_collect_177 : decode prog_11_method_3_code 177 = .ok (.ifCond .ne 8, 3) := by decide +kernel
theorem dc_T_collect_180 : decode prog_11_method_3_code 180 = .ok (.iload 16, 2) := by decide +kernel
theorem dc_T_collect_182 : decode prog_11_method_3_code 182 = .ok (.ifCond .eq 7, 3) := by decide +kernel
theorem dc_T_collect_185 : decode prog_11_method_3_code 185 = .ok (.iconst 1, 1) := by decide +kernel
theorem dc_T_collect_186 : decode prog_11_method_3_code 186 = .ok (.goto 4, 3) := by decide +kernel
theorem dc_T_collect_189 : decode prog_11_method_3_code 189 = .ok (.iconst 0, 1) := by decide +kernel
theorem dc_T_collect_190 : decode prog_11_method_3_code 190 = .ok (.istore 5, 2) := by decide +kernel
theorem dc_T_collect_192 : decode prog_11_method_3_code 192 = .ok (.iconst 1, 1) := by decide +kernel
theorem dc_T_collect_193 : decode prog_11_method_3_code 193 = .ok (.istore 6, 2) := by decide +kernel
theorem dc_T_collect_195 : decode prog_11_method_3_code 195 = .ok (.goto 82, 3) := by decide +kernel
theorem dc_T_collect_198 : decode prog_11_method_3_code 198 = .ok (.aload_n 1, 1) := by decide +kernel
theorem dc_T_collect_199 : decode prog_11_method_3_code 199 = .ok (.iload 12, 2) := by decide +kernel
theorem dc_T_collect_201 : decode prog_11_method_3_code 201 = .ok (.iload 13, 2) := by decide +kernel
theorem dc_T_collect_203 : decode prog_11_method_3_code 203 = .ok (.ldc 69, 2) := by decide +kernel
theorem dc_T_collect_205 : decode prog_11_method_3_code 205 = .ok (.invokestatic 66, 3) := by decide +kernel
theorem dc_T_collect_208 : decode prog_11_method_3_code 208 = .ok (.ifCond .eq 31, 3) := by decide +kernel
theorem dc_T_collect_211 : decode prog_11_method_3_code 211 = .ok (.iconst 0, 1) := by decide +kernel
theorem dc_T_collect_212 : decode prog_11_method_3_code 212 = .ok (.istore 6, 2) := by decide +kernel
theorem dc_T_collect_214 : decode prog_11_method_3_code 214 = .ok (.aload_n 0, 1) := by decide +kernel
theorem dc_T_collect_215 : decode prog_11_method_3_code 215 = .ok (.getfield 25, 3) := by decide +kernel
theorem dc_T_collect_218 : decode prog_11_method_3_code 218 = .ok (.aload_n 1, 1) := by decide +kernel
theorem dc_T_collect_219 : decode prog_11_method_3_code 219 = .ok (.iload 14, 2) := by decide +kernel
theorem dc_T_collect_221 : decode prog_11_method_3_code 221 = .ok (.iload 7, 2) := by decide +kernel
theorem dc_T_collect_223 : decode prog_11_method_3_code 223 = .ok (.ifCond .eq 8, 3) := by decide +kernel
theorem dc_T_collect_226 : decode prog_11_method_3_code 226 = .ok (.iload 15, 2) := by decide +kernel
theorem dc_T_collect_228 : decode prog_11_method_3_code 228 = .ok (.goto 5, 3) := by decide +kernel
theorem dc_T_collect_231 : decode prog_11_method_3_code 231 = .ok (.iload 14, 2) := by decide +kernel
theorem dc_T_collect_233 : decode prog_11_method_3_code 233 = .ok (.invokestatic 71, 3) := by decide +kernel
theorem mo_T_addPattern : am_mo mt_T_addPattern 4 := ⟨⟨by decide +kernel, by decide +kernel⟩, by decide +kernel, ⟨by decide +kernel, by decide +kernel⟩, (am_t5 94 rfl rfl), (am_t1 30 rfl rfl), by decide +kernel⟩
theorem st_T_addPattern : Cond.static mt_T_addPattern.1 ∈ am_gw := (am_t5 93 rfl rfl)
theorem ln_T_71 : am_ln "WebFinder$SiteRules" 71 mt_T_addPattern.1 := Or.inl (am_t5 92 rfl rfl)
theorem dc_T_collect_236 : decode prog_11_method_3_code 236 = .ok (.goto 41, 3) := by decide +kernel
theorem dc_T_collect_239 : decode prog_11_method_3_code 239 = .ok (.aload_n 1, 1) := by decide +kernel
theorem dc_T_collect_240 : decode prog_11_method_3_code 240 = .ok (.iload 12, 2) := by decide +kernel
theorem dc_T_collect_242 : decode prog_11_method_3_code 242 = .ok (.iload 13, 2) := by decide +kernel
theorem dc_T_collect_244 : decode prog_11_method_3_code 244 = .ok (.ldc 75, 2) := by decide +kernel
theorem dc_T_collect_246 : decode prog_11_method_3_code 246 = .ok (.invokestatic 66, 3) := by decide +kernel
theorem dc_T_collect_249 : decode prog_11_method_3_code 249 = .ok (.ifCond .eq 28, 3) := by decide +kernel
theorem dc_T_collect_252 : decode prog_11_method_3_code 252 = .ok (.iconst 0, 1) := by decide +kernel
theorem dc_T_collect_253 : decode prog_11_method_3_code 253 = .ok (.istore 6, 2) := by decide +kernel
theorem dc_T_collect_255 : decode prog_11_method_3_code 255 = .ok (.aload_n 0, 1) := by decide +kernel
theorem dc_T_collect_256 : decode prog_11_method_3_code 256 = .ok (.getfield 29, 3) := by decide +kernel
theorem dc_T_collect_259 : decode prog_11_method_3_code 259 = .ok (.aload_n 1, 1) := by decide +kernel
theorem dc_T_collect_260 : decode prog_11_method_3_code 260 = .ok (.iload 14, 2) := by decide +kernel
theorem dc_T_collect_262 : decode prog_11_method_3_code 262 = .ok (.iload 7, 2) := by decide +kernel
theorem dc_T_collect_264 : decode prog_11_method_3_code 264 = .ok (.ifCond .eq 8, 3) := by decide +kernel
theorem dc_T_collect_267 : decode prog_11_method_3_code 267 = .ok (.iload 15, 2) := by decide +kernel
theorem dc_T_collect_269 : decode prog_11_method_3_code 269 = .ok (.goto 5, 3) := by decide +kernel
theorem dc_T_collect_272 : decode prog_11_method_3_code 272 = .ok (.iload 14, 2) := by decide +kernel
theorem dc_T_collect_274 : decode prog_11_method_3_code 274 = .ok (.invokestatic 71, 3) := by decide +kernel
theorem dc_T_collect_277 : decode prog_11_method_3_code 277 = .ok (.iinc 8 1, 3) := by decide +kernel
theorem dc_T_collect_280 : decode prog_11_method_3_code 280 = .ok (.goto (-254), 3) := by decide +kernel
theorem dc_T_collect_283 : decode prog_11_method_3_code 283 = .ok (.iload 5, 2) := by decide +kernel
theorem dc_T_collect_285 : decode prog_11_method_3_code 285 = .ok (.ireturn, 1) := by decide +kernel
theorem dc_R_clear_0 : decode prog_10_method_2_code 0 = .ok (.aload_n 0, 1) := by decide +kernel
theorem dc_R_clear_1 : decode prog_10_method_2_code 1 = .ok (.iconst 0, 1) := by decide +kernel
theorem dc_R_clear_2 : decode prog_10_method_2_code 2 = .ok (.invokevirtual 24, 3) := by decide +kernel
theorem mo_R_cut : am_mo mt_R_cut 1 := ⟨⟨by decide +kernel, by decide +kernel⟩, by decide +kernel, ⟨by decide +kernel, by decide +kernel⟩, (am_t5 80 rfl rfl), (am_t1 5 rfl rfl), by decide +kernel⟩
theorem im_R_cut : Cond.instanceMethod mt_R_cut.1 ∈ am_gw := (am_t5 78 rfl rfl)
theorem se_R_cut : Cond.selects mt_R_cut.1.cls mt_R_cut.1 mt_R_cut.1 ∈ am_gw := (am_t5 79 rfl rfl)
theorem ln_R_24 : am_ln "WebFinder$Rows" 24 mt_R_cut.1 := Or.inl (am_t5 77 rfl rfl)
theorem dc_R_clear_5 : decode prog_10_method_2_code 5 = .ok (.return_, 1) := by decide +kernel
theorem dc_R_cut_0 : decode prog_10_method_3_code 0 = .ok (.iload_n 1, 1) := by decide +kernel
theorem dc_R_cut_1 : decode prog_10_method_3_code 1 = .ok (.aload_n 0, 1) := by decide +kernel
theorem dc_R_cut_2 : decode prog_10_method_3_code 2 = .ok (.getfield 27, 3) := by decide +kernel
theorem fl_R_27 : am_fl "WebFinder$Rows" 27 4 2 := ⟨"WebFinder$Rows", tt_R, 3, rfl, by decide, Or.inl (am_t1 115 rfl rfl)⟩
theorem dc_R_cut_5 : decode prog_10_method_3_code 5 = .ok (.if_icmp .gt 20, 3) := by decide +kernel
theorem dc_R_cut_8 : decode prog_10_method_3_code 8 = .ok (.aload_n 0, 1) := by decide +kernel
theorem dc_R_cut_9 : decode prog_10_method_3_code 9 = .ok (.iload_n 1, 1) := by decide +kernel
theorem dc_R_cut_10 : decode prog_10_method_3_code 10 = .ok (.putfield 27, 3) := by decide +kernel
theorem fp_R_cut_27 : am_fp mt_R_cut.1 27 4 2 (.int) := ⟨"WebFinder$Rows", tt_R, 3, rfl, by decide, ct_R 2 (by decide), Or.inl ⟨(am_t1 115 rfl rfl), Or.inl rfl⟩⟩
theorem dc_R_cut_13 : decode prog_10_method_3_code 13 = .ok (.aload_n 0, 1) := by decide +kernel
theorem dc_R_cut_14 : decode prog_10_method_3_code 14 = .ok (.getfield 14, 3) := by decide +kernel
theorem fl_R_14 : am_fl "WebFinder$Rows" 14 4 0 := ⟨"WebFinder$Rows", tt_R, 3, rfl, by decide, Or.inl (am_t1 103 rfl rfl)⟩
theorem dc_R_cut_17 : decode prog_10_method_3_code 17 = .ok (.aload_n 0, 1) := by decide +kernel
theorem dc_R_cut_18 : decode prog_10_method_3_code 18 = .ok (.iload_n 1, 1) := by decide +kernel
theorem dc_R_cut_19 : decode prog_10_method_3_code 19 = .ok (.invokevirtual 31, 3) := by decide +kernel
theorem mo_R_from : am_mo mt_R_from 1 := ⟨⟨by decide +kernel, by decide +kernel⟩, by decide +kernel, ⟨by decide +kernel, by decide +kernel⟩, (am_t5 84 rfl rfl), (am_t1 5 rfl rfl), by decide +kernel⟩
theorem im_R_from : Cond.instanceMethod mt_R_from.1 ∈ am_gw := (am_t5 82 rfl rfl)
theorem se_R_from : Cond.selects mt_R_from.1.cls mt_R_from.1 mt_R_from.1 ∈ am_gw := (am_t5 83 rfl rfl)
theorem ln_R_31 : am_ln "WebFinder$Rows" 31 mt_R_from.1 := Or.inl (am_t5 81 rfl rfl)
theorem dc_R_cut_22 : decode prog_10_method_3_code 22 = .ok (.putfield 35, 3) := by decide +kernel
theorem fp_R_cut_35 : am_fp mt_R_cut.1 35 1 1 (.int) := ⟨"WebFinder$Bytes", tt_B, 2, rfl, by decide, ct_B 1 (by decide), Or.inl ⟨(am_t1 61 rfl rfl), Or.inl rfl⟩⟩
theorem dc_R_cut_25 : decode prog_10_method_3_code 25 = .ok (.return_, 1) := by decide +kernel
theorem dc_R_from_0 : decode prog_10_method_4_code 0 = .ok (.iload_n 1, 1) := by decide +kernel
theorem dc_R_from_1 : decode prog_10_method_4_code 1 = .ok (.ifCond .ne 7, 3) := by decide +kernel
theorem dc_R_from_4 : decode prog_10_method_4_code 4 = .ok (.iconst 0, 1) := by decide +kernel
theorem dc_R_from_5 : decode prog_10_method_4_code 5 = .ok (.goto 11, 3) := by decide +kernel
theorem dc_R_from_8 : decode prog_10_method_4_code 8 = .ok (.aload_n 0, 1) := by decide +kernel
theorem dc_R_from_9 : decode prog_10_method_4_code 9 = .ok (.getfield 20, 3) := by decide +kernel
theorem fl_R_20 : am_fl "WebFinder$Rows" 20 4 1 := ⟨"WebFinder$Rows", tt_R, 3, rfl, by decide, Or.inl (am_t1 110 rfl rfl)⟩
theorem dc_R_from_12 : decode prog_10_method_4_code 12 = .ok (.iload_n 1, 1) := by decide +kernel
theorem dc_R_from_13 : decode prog_10_method_4_code 13 = .ok (.iconst 1, 1) := by decide +kernel
theorem dc_R_from_14 : decode prog_10_method_4_code 14 = .ok (.isub, 1) := by decide +kernel
theorem dc_R_from_15 : decode prog_10_method_4_code 15 = .ok (.iaload, 1) := by decide +kernel
theorem dc_R_from_16 : decode prog_10_method_4_code 16 = .ok (.ireturn, 1) := by decide +kernel
theorem dc_T_addPattern_0 : decode prog_11_method_4_code 0 = .ok (.iload_n 2, 1) := by decide +kernel
theorem dc_T_addPattern_1 : decode prog_11_method_4_code 1 = .ok (.iload_n 3, 1) := by decide +kernel
theorem dc_T_addPattern_2 : decode prog_11_method_4_code 2 = .ok (.if_icmp .ge 17, 3) := by decide +kernel
theorem dc_T_addPattern_5 : decode prog_11_method_4_code 5 = .ok (.aload_n 0, 1) := by decide +kernel
theorem dc_T_addPattern_6 : decode prog_11_method_4_code 6 = .ok (.getfield 77, 3) := by decide +kernel
theorem fl_T_77 : am_fl "WebFinder$SiteRules" 77 4 0 := ⟨"WebFinder$Rows", tt_R, 3, rfl, by decide, Or.inl (am_t1 105 rfl rfl)⟩
theorem dc_T_addPattern_9 : decode prog_11_method_4_code 9 = .ok (.aload_n 1, 1) := by decide +kernel
theorem dc_T_addPattern_10 : decode prog_11_method_4_code 10 = .ok (.iload_n 2, 1) := by decide +kernel
theorem dc_T_addPattern_11 : decode prog_11_method_4_code 11 = .ok (.iload_n 3, 1) := by decide +kernel
theorem dc_T_addPattern_12 : decode prog_11_method_4_code 12 = .ok (.invokevirtual 80, 3) := by decide +kernel
theorem ln_T_80 : am_ln "WebFinder$SiteRules" 80 mt_B_putUnescaped.1 := Or.inl (am_t5 95 rfl rfl)
theorem dc_T_addPattern_15 : decode prog_11_method_4_code 15 = .ok (.aload_n 0, 1) := by decide +kernel
theorem dc_T_addPattern_16 : decode prog_11_method_4_code 16 = .ok (.invokevirtual 84, 3) := by decide +kernel
theorem mo_R_close : am_mo mt_R_close 0 := ⟨⟨by decide +kernel, by decide +kernel⟩, by decide +kernel, ⟨by decide +kernel, by decide +kernel⟩, (am_t5 99 rfl rfl), (am_t1 5 rfl rfl), by decide +kernel⟩
theorem im_R_close : Cond.instanceMethod mt_R_close.1 ∈ am_gw := (am_t5 97 rfl rfl)
theorem se_R_close : Cond.selects mt_R_close.1.cls mt_R_close.1 mt_R_close.1 ∈ am_gw := (am_t5 98 rfl rfl)
theorem ln_T_84 : am_ln "WebFinder$SiteRules" 84 mt_R_close.1 := Or.inl (am_t5 96 rfl rfl)
theorem dc_T_addPattern_19 : decode prog_11_method_4_code 19 = .ok (.return_, 1) := by decide +kernel
theorem dc_R_close_0 : decode prog_10_method_7_code 0 = .ok (.aload_n 0, 1) := by decide +kernel
theorem dc_R_close_1 : decode prog_10_method_7_code 1 = .ok (.getfield 27, 3) := by decide +kernel
theorem dc_R_close_4 : decode prog_10_method_7_code 4 = .ok (.aload_n 0, 1) := by decide +kernel
theorem dc_R_close_5 : decode prog_10_method_7_code 5 = .ok (.getfield 20, 3) := by decide +kernel
theorem dc_R_close_8 : decode prog_10_method_7_code 8 = .ok (.arraylength, 1) := by decide +kernel
theorem dc_R_close_9 : decode prog_10_method_7_code 9 = .ok (.if_icmp .ne 23, 3) := by decide +kernel
theorem dc_R_close_12 : decode prog_10_method_7_code 12 = .ok (.aload_n 0, 1) := by decide +kernel
theorem dc_R_close_13 : decode prog_10_method_7_code 13 = .ok (.aload_n 0, 1) := by decide +kernel
theorem dc_R_close_14 : decode prog_10_method_7_code 14 = .ok (.getfield 20, 3) := by decide +kernel
theorem dc_R_close_17 : decode prog_10_method_7_code 17 = .ok (.iconst 2, 1) := by decide +kernel
theorem dc_R_close_18 : decode prog_10_method_7_code 18 = .ok (.aload_n 0, 1) := by decide +kernel
theorem dc_R_close_19 : decode prog_10_method_7_code 19 = .ok (.getfield 27, 3) := by decide +kernel
theorem dc_R_close_22 : decode prog_10_method_7_code 22 = .ok (.imul, 1) := by decide +kernel
theorem dc_R_close_23 : decode prog_10_method_7_code 23 = .ok (.bipush 16, 2) := by decide +kernel
theorem dc_R_close_25 : decode prog_10_method_7_code 25 = .ok (.iadd, 1) := by decide +kernel
theorem dc_R_close_26 : decode prog_10_method_7_code 26 = .ok (.invokestatic 45, 3) := by decide +kernel
theorem mo_JArrays_copyOf_1 : am_mo mt_JArrays_copyOf_1 2 := ⟨⟨by decide +kernel, by decide +kernel⟩, by decide +kernel, ⟨by decide +kernel, by decide +kernel⟩, (am_t5 102 rfl rfl), (am_t1 16 rfl rfl), by decide +kernel⟩
theorem st_JArrays_copyOf_1 : Cond.static mt_JArrays_copyOf_1.1 ∈ am_gw := (am_t5 101 rfl rfl)
theorem ln_R_45 : am_ln "WebFinder$Rows" 45 mt_JArrays_copyOf_1.1 := Or.inl (am_t5 100 rfl rfl)
theorem dc_R_close_29 : decode prog_10_method_7_code 29 = .ok (.putfield 20, 3) := by decide +kernel
theorem fp_R_close_20 : am_fp mt_R_close.1 20 4 1 (.array .int) := ⟨"WebFinder$Rows", tt_R, 3, rfl, by decide, ct_R 1 (by decide), Or.inl ⟨(am_t1 110 rfl rfl), Or.inl rfl⟩⟩
theorem dc_R_close_32 : decode prog_10_method_7_code 32 = .ok (.aload_n 0, 1) := by decide +kernel
theorem dc_R_close_33 : decode prog_10_method_7_code 33 = .ok (.getfield 20, 3) := by decide +kernel
theorem dc_R_close_36 : decode prog_10_method_7_code 36 = .ok (.aload_n 0, 1) := by decide +kernel
theorem dc_R_close_37 : decode prog_10_method_7_code 37 = .ok (.getfield 27, 3) := by decide +kernel
theorem dc_R_close_40 : decode prog_10_method_7_code 40 = .ok (.aload_n 0, 1) := by decide +kernel
theorem dc_R_close_41 : decode prog_10_method_7_code 41 = .ok (.getfield 14, 3) := by decide +kernel
theorem dc_R_close_44 : decode prog_10_method_7_code 44 = .ok (.getfield 35, 3) := by decide +kernel
theorem fl_R_35 : am_fl "WebFinder$Rows" 35 1 1 := ⟨"WebFinder$Bytes", tt_B, 2, rfl, by decide, Or.inl (am_t1 61 rfl rfl)⟩
theorem dc_R_close_47 : decode prog_10_method_7_code 47 = .ok (.iastore, 1) := by decide +kernel
theorem dc_R_close_48 : decode prog_10_method_7_code 48 = .ok (.aload_n 0, 1) := by decide +kernel
theorem dc_R_close_49 : decode prog_10_method_7_code 49 = .ok (.dup, 1) := by decide +kernel
theorem dc_R_close_50 : decode prog_10_method_7_code 50 = .ok (.getfield 27, 3) := by decide +kernel
theorem dc_R_close_53 : decode prog_10_method_7_code 53 = .ok (.iconst 1, 1) := by decide +kernel
theorem dc_R_close_54 : decode prog_10_method_7_code 54 = .ok (.iadd, 1) := by decide +kernel
theorem dc_R_close_55 : decode prog_10_method_7_code 55 = .ok (.putfield 27, 3) := by decide +kernel
theorem fp_R_close_27 : am_fp mt_R_close.1 27 4 2 (.int) := ⟨"WebFinder$Rows", tt_R, 3, rfl, by decide, ct_R 2 (by decide), Or.inl ⟨(am_t1 115 rfl rfl), Or.inl rfl⟩⟩
theorem dc_R_close_58 : decode prog_10_method_7_code 58 = .ok (.return_, 1) := by decide +kernel
theorem dc_JArrays_copyOf_1_0 : decode prog_30_method_123_code 0 = .ok (.iload_n 1, 1) := by decide +kernel
theorem dc_JArrays_copyOf_1_1 : decode prog_30_method_123_code 1 = .ok (.aload_n 0, 1) := by decide +kernel
theorem dc_JArrays_copyOf_1_2 : decode prog_30_method_123_code 2 = .ok (.arraylength, 1) := by decide +kernel
theorem dc_JArrays_copyOf_1_3 : decode prog_30_method_123_code 3 = .ok (.if_icmp .ne 11, 3) := by decide +kernel
theorem dc_JArrays_copyOf_1_6 : decode prog_30_method_123_code 6 = .ok (.aload_n 0, 1) := by decide +kernel
theorem dc_JArrays_copyOf_1_7 : decode prog_30_method_123_code 7 = .ok (.invokevirtual 316, 3) := by decide +kernel
theorem dc_JArrays_copyOf_1_10 : decode prog_30_method_123_code 10 = .ok (.checkcast 317, 3) := by decide +kernel
theorem dc_JArrays_copyOf_1_13 : decode prog_30_method_123_code 13 = .ok (.areturn, 1) := by decide +kernel
theorem dc_JArrays_copyOf_1_14 : decode prog_30_method_123_code 14 = .ok (.iload_n 1, 1) := by decide +kernel
theorem dc_JArrays_copyOf_1_15 : decode prog_30_method_123_code 15 = .ok (.newarray .int, 2) := by decide +kernel
theorem dc_JArrays_copyOf_1_17 : decode prog_30_method_123_code 17 = .ok (.astore_n 2, 1) := by decide +kernel
theorem dc_JArrays_copyOf_1_18 : decode prog_30_method_123_code 18 = .ok (.aload_n 0, 1) := by decide +kernel
theorem dc_JArrays_copyOf_1_19 : decode prog_30_method_123_code 19 = .ok (.iconst 0, 1) := by decide +kernel
theorem dc_JArrays_copyOf_1_20 : decode prog_30_method_123_code 20 = .ok (.aload_n 2, 1) := by decide +kernel
theorem dc_JArrays_copyOf_1_21 : decode prog_30_method_123_code 21 = .ok (.iconst 0, 1) := by decide +kernel
theorem dc_JArrays_copyOf_1_22 : decode prog_30_method_123_code 22 = .ok (.aload_n 0, 1) := by decide +kernel
theorem dc_JArrays_copyOf_1_23 : decode prog_30_method_123_code 23 = .ok (.arraylength, 1) := by decide +kernel
theorem dc_JArrays_copyOf_1_24 : decode prog_30_method_123_code 24 = .ok (.iload_n 1, 1) := by decide +kernel
theorem dc_JArrays_copyOf_1_25 : decode prog_30_method_123_code 25 = .ok (.invokestatic 304, 3) := by decide +kernel
theorem dc_JArrays_copyOf_1_28 : decode prog_30_method_123_code 28 = .ok (.invokestatic 150, 3) := by decide +kernel
theorem dc_JArrays_copyOf_1_31 : decode prog_30_method_123_code 31 = .ok (.aload_n 2, 1) := by decide +kernel
theorem dc_JArrays_copyOf_1_32 : decode prog_30_method_123_code 32 = .ok (.areturn, 1) := by decide +kernel
theorem dc_W_allowed_0 : decode prog_1_method_8_code 0 = .ok (.aload_n 0, 1) := by decide +kernel
theorem dc_W_allowed_1 : decode prog_1_method_8_code 1 = .ok (.invokevirtual 128, 3) := by decide +kernel
theorem dc_W_allowed_4 : decode prog_1_method_8_code 4 = .ok (.ifCond .ne 5, 3) := by decide +kernel
theorem dc_W_allowed_7 : decode prog_1_method_8_code 7 = .ok (.iconst (-1), 1) := by decide +kernel
theorem dc_W_allowed_8 : decode prog_1_method_8_code 8 = .ok (.ireturn, 1) := by decide +kernel
theorem dc_W_allowed_9 : decode prog_1_method_8_code 9 = .ok (.aload_n 0, 1) := by decide +kernel
theorem dc_W_allowed_10 : decode prog_1_method_8_code 10 = .ok (.getfield 43, 3) := by decide +kernel
theorem dc_W_allowed_13 : decode prog_1_method_8_code 13 = .ok (.aload_n 0, 1) := by decide +kernel
theorem dc_W_allowed_14 : decode prog_1_method_8_code 14 = .ok (.getfield 27, 3) := by decide +kernel
theorem dc_W_allowed_17 : decode prog_1_method_8_code 17 = .ok (.getfield 102, 3) := by decide +kernel
theorem dc_W_allowed_20 : decode prog_1_method_8_code 20 = .ok (.invokevirtual 139, 3) := by decide +kernel
theorem mo_V_allows : am_mo mt_V_allows 1 := ⟨⟨by decide +kernel, by decide +kernel⟩, by decide +kernel, ⟨by decide +kernel, by decide +kernel⟩, (am_t5 117 rfl rfl), (am_t1 7 rfl rfl), by decide +kernel⟩
theorem im_V_allows : Cond.instanceMethod mt_V_allows.1 ∈ am_gw := (am_t5 115 rfl rfl)
theorem se_V_allows : Cond.selects mt_V_allows.1.cls mt_V_allows.1 mt_V_allows.1 ∈ am_gw := (am_t5 116 rfl rfl)
theorem ln_W_139 : am_ln "WebFinder" 139 mt_V_allows.1 := Or.inl (am_t5 114 rfl rfl)
theorem dc_W_allowed_23 : decode prog_1_method_8_code 23 = .ok (.ifCond .eq 7, 3) := by decide +kernel
theorem dc_W_allowed_26 : decode prog_1_method_8_code 26 = .ok (.iconst 1, 1) := by decide +kernel
theorem dc_W_allowed_27 : decode prog_1_method_8_code 27 = .ok (.goto 4, 3) := by decide +kernel
theorem dc_W_allowed_30 : decode prog_1_method_8_code 30 = .ok (.iconst 0, 1) := by decide +kernel
theorem dc_W_allowed_31 : decode prog_1_method_8_code 31 = .ok (.ireturn, 1) := by decide +kernel
theorem dc_V_allows_0 : decode prog_12_method_8_code 0 = .ok (.aload_n 0, 1) := by decide +kernel
theorem dc_V_allows_1 : decode prog_12_method_8_code 1 = .ok (.aload_n 1, 1) := by decide +kernel
theorem dc_V_allows_2 : decode prog_12_method_8_code 2 = .ok (.invokevirtual 69, 3) := by decide +kernel
theorem dc_V_allows_5 : decode prog_12_method_8_code 5 = .ok (.istore_n 2, 1) := by decide +kernel
theorem dc_V_allows_6 : decode prog_12_method_8_code 6 = .ok (.iload_n 2, 1) := by decide +kernel
theorem dc_V_allows_7 : decode prog_12_method_8_code 7 = .ok (.iconst (-1), 1) := by decide +kernel
theorem dc_V_allows_8 : decode prog_12_method_8_code 8 = .ok (.if_icmp .eq 16, 3) := by decide +kernel
theorem dc_V_allows_11 : decode prog_12_method_8_code 11 = .ok (.aload_n 0, 1) := by decide +kernel
theorem dc_V_allows_12 : decode prog_12_method_8_code 12 = .ok (.getfield 19, 3) := by decide +kernel
theorem dc_V_allows_15 : decode prog_12_method_8_code 15 = .ok (.iload_n 2, 1) := by decide +kernel
theorem dc_V_allows_16 : decode prog_12_method_8_code 16 = .ok (.aaload, 1) := by decide +kernel
theorem dc_V_allows_17 : decode prog_12_method_8_code 17 = .ok (.aload_n 1, 1) := by decide +kernel
theorem dc_V_allows_18 : decode prog_12_method_8_code 18 = .ok (.invokevirtual 81, 3) := by decide +kernel
theorem mo_T_allows : am_mo mt_T_allows 1 := ⟨⟨by decide +kernel, by decide +kernel⟩, by decide +kernel, ⟨by decide +kernel, by decide +kernel⟩, (am_t5 121 rfl rfl), (am_t1 30 rfl rfl), by decide +kernel⟩
theorem im_T_allows : Cond.instanceMethod mt_T_allows.1 ∈ am_gw := (am_t5 119 rfl rfl)
theorem se_T_allows : Cond.selects mt_T_allows.1.cls mt_T_allows.1 mt_T_allows.1 ∈ am_gw := (am_t5 120 rfl rfl)
theorem ln_V_81 : am_ln "WebFinder$Web" 81 mt_T_allows.1 := Or.inl (am_t5 118 rfl rfl)
theorem dc_V_allows_21 : decode prog_12_method_8_code 21 = .ok (.ifCond .eq 7, 3) := by decide +kernel
theorem dc_V_allows_24 : decode prog_12_method_8_code 24 = .ok (.iconst 1, 1) := by decide +kernel
theorem dc_V_allows_25 : decode prog_12_method_8_code 25 = .ok (.goto 4, 3) := by decide +kernel
theorem dc_V_allows_28 : decode prog_12_method_8_code 28 = .ok (.iconst 0, 1) := by decide +kernel
theorem dc_V_allows_29 : decode prog_12_method_8_code 29 = .ok (.ireturn, 1) := by decide +kernel
theorem dc_T_allows_0 : decode prog_11_method_5_code 0 = .ok (.aload_n 0, 1) := by decide +kernel
theorem dc_T_allows_1 : decode prog_11_method_5_code 1 = .ok (.getfield 25, 3) := by decide +kernel
theorem dc_T_allows_4 : decode prog_11_method_5_code 4 = .ok (.aload_n 1, 1) := by decide +kernel
theorem dc_T_allows_5 : decode prog_11_method_5_code 5 = .ok (.invokestatic 87, 3) := by decide +kernel
theorem mo_T_longestMatch : am_mo mt_T_longestMatch 2 := ⟨⟨by decide +kernel, by decide +kernel⟩, by decide +kernel, ⟨by decide +kernel, by decide +kernel⟩, (am_t5 124 rfl rfl), (am_t1 30 rfl rfl), by decide +kernel⟩
theorem st_T_longestMatch : Cond.static mt_T_longestMatch.1 ∈ am_gw := (am_t5 123 rfl rfl)
theorem ln_T_87 : am_ln "WebFinder$SiteRules" 87 mt_T_longestMatch.1 := Or.inl (am_t5 122 rfl rfl)
theorem dc_T_allows_8 : decode prog_11_method_5_code 8 = .ok (.aload_n 0, 1) := by decide +kernel
theorem dc_T_allows_9 : decode prog_11_method_5_code 9 = .ok (.getfield 29, 3) := by decide +kernel
theorem dc_T_allows_12 : decode prog_11_method_5_code 12 = .ok (.aload_n 1, 1) := by decide +kernel
theorem dc_T_allows_13 : decode prog_11_method_5_code 13 = .ok (.invokestatic 87, 3) := by decide +kernel
theorem dc_T_allows_16 : decode prog_11_method_5_code 16 = .ok (.if_icmp .lt 7, 3) := by decide +kernel
theorem dc_T_allows_19 : decode prog_11_method_5_code 19 = .ok (.iconst 1, 1) := by decide +kernel
theorem dc_T_allows_20 : decode prog_11_method_5_code 20 = .ok (.goto 4, 3) := by decide +kernel
theorem dc_T_allows_23 : decode prog_11_method_5_code 23 = .ok (.iconst 0, 1) := by decide +kernel
theorem dc_T_allows_24 : decode prog_11_method_5_code 24 = .ok (.ireturn, 1) := by decide +kernel
theorem dc_T_longestMatch_0 : decode prog_11_method_6_code 0 = .ok (.iconst (-1), 1) := by decide +kernel
theorem dc_T_longestMatch_1 : decode prog_11_method_6_code 1 = .ok (.istore_n 2, 1) := by decide +kernel
theorem dc_T_longestMatch_2 : decode prog_11_method_6_code 2 = .ok (.iconst 0, 1) := by decide +kernel
theorem dc_T_longestMatch_3 : decode prog_11_method_6_code 3 = .ok (.istore_n 3, 1) := by decide +kernel
theorem dc_T_longestMatch_4 : decode prog_11_method_6_code 4 = .ok (.iload_n 3, 1) := by decide +kernel
theorem dc_T_longestMatch_5 : decode prog_11_method_6_code 5 = .ok (.aload_n 0, 1) := by decide +kernel
theorem dc_T_longestMatch_6 : decode prog_11_method_6_code 6 = .ok (.getfield 40, 3) := by decide +kernel
theorem dc_T_longestMatch_9 : decode prog_11_method_6_code 9 = .ok (.if_icmp .ge 40, 3) := by decide +kernel
theorem dc_T_longestMatch_12 : decode prog_11_method_6_code 12 = .ok (.aload_n 0, 1) := by decide +kernel
theorem dc_T_longestMatch_13 : decode prog_11_method_6_code 13 = .ok (.iload_n 3, 1) := by decide +kernel
theorem dc_T_longestMatch_14 : decode prog_11_method_6_code 14 = .ok (.invokevirtual 91, 3) := by decide +kernel
theorem mo_R_to : am_mo mt_R_to 1 := ⟨⟨by decide +kernel, by decide +kernel⟩, by decide +kernel, ⟨by decide +kernel, by decide +kernel⟩, (am_t5 128 rfl rfl), (am_t1 5 rfl rfl), by decide +kernel⟩
theorem im_R_to : Cond.instanceMethod mt_R_to.1 ∈ am_gw := (am_t5 126 rfl rfl)
theorem se_R_to : Cond.selects mt_R_to.1.cls mt_R_to.1 mt_R_to.1 ∈ am_gw := (am_t5 127 rfl rfl)
theorem ln_T_91 : am_ln "WebFinder$SiteRules" 91 mt_R_to.1 := Or.inl (am_t5 125 rfl rfl)
theorem dc_T_longestMatch_17 : decode prog_11_method_6_code 17 = .ok (.aload_n 0, 1) := by decide +kernel
theorem dc_T_longestMatch_18 : decode prog_11_method_6_code 18 = .ok (.iload_n 3, 1) := by decide +kernel
theorem dc_T_longestMatch_19 : decode prog_11_method_6_code 19 = .ok (.invokevirtual 95, 3) := by decide +kernel
theorem ln_T_95 : am_ln "WebFinder$SiteRules" 95 mt_R_from.1 := Or.inl (am_t5 129 rfl rfl)
theorem dc_T_longestMatch_22 : decode prog_11_method_6_code 22 = .ok (.isub, 1) := by decide +kernel
theorem dc_T_longestMatch_23 : decode prog_11_method_6_code 23 = .ok (.istore 4, 2) := by decide +kernel
theorem dc_T_longestMatch_25 : decode prog_11_method_6_code 25 = .ok (.iload 4, 2) := by decide +kernel
theorem dc_T_longestMatch_27 : decode prog_11_method_6_code 27 = .ok (.iload_n 2, 1) := by decide +kernel
theorem dc_T_longestMatch_28 : decode prog_11_method_6_code 28 = .ok (.if_icmp .le 15, 3) := by decide +kernel
theorem dc_T_longestMatch_31 : decode prog_11_method_6_code 31 = .ok (.aload_n 0, 1) := by decide +kernel
theorem dc_T_longestMatch_32 : decode prog_11_method_6_code 32 = .ok (.iload_n 3, 1) := by decide +kernel
theorem dc_T_longestMatch_33 : decode prog_11_method_6_code 33 = .ok (.aload_n 1, 1) := by decide +kernel
theorem dc_T_longestMatch_34 : decode prog_11_method_6_code 34 = .ok (.invokestatic 98, 3) := by decide +kernel
theorem mo_T_matches : am_mo mt_T_matches 3 := ⟨⟨by decide +kernel, by decide +kernel⟩, by decide +kernel, ⟨by decide +kernel, by decide +kernel⟩, (am_t5 132 rfl rfl), (am_t1 30 rfl rfl), by decide +kernel⟩
theorem st_T_matches : Cond.static mt_T_matches.1 ∈ am_gw := (am_t5 131 rfl rfl)
theorem ln_T_98 : am_ln "WebFinder$SiteRules" 98 mt_T_matches.1 := Or.inl (am_t5 130 rfl rfl)
theorem dc_T_longestMatch_37 : decode prog_11_method_6_code 37 = .ok (.ifCond .eq 6, 3) := by decide +kernel
theorem dc_T_longestMatch_40 : decode prog_11_method_6_code 40 = .ok (.iload 4, 2) := by decide +kernel
theorem dc_T_longestMatch_42 : decode prog_11_method_6_code 42 = .ok (.istore_n 2, 1) := by decide +kernel
theorem dc_T_longestMatch_43 : decode prog_11_method_6_code 43 = .ok (.iinc 3 1, 3) := by decide +kernel
theorem dc_T_longestMatch_46 : decode prog_11_method_6_code 46 = .ok (.goto (-42), 3) := by decide +kernel
theorem dc_T_longestMatch_49 : decode prog_11_method_6_code 49 = .ok (.iload_n 2, 1) := by decide +kernel
theorem dc_T_longestMatch_50 : decode prog_11_method_6_code 50 = .ok (.ireturn, 1) := by decide +kernel
theorem dc_R_to_0 : decode prog_10_method_5_code 0 = .ok (.aload_n 0, 1) := by decide +kernel
theorem dc_R_to_1 : decode prog_10_method_5_code 1 = .ok (.getfield 20, 3) := by decide +kernel
theorem dc_R_to_4 : decode prog_10_method_5_code 4 = .ok (.iload_n 1, 1) := by decide +kernel
theorem dc_R_to_5 : decode prog_10_method_5_code 5 = .ok (.iaload, 1) := by decide +kernel
theorem dc_R_to_6 : decode prog_10_method_5_code 6 = .ok (.ireturn, 1) := by decide +kernel
theorem dc_T_matches_0 : decode prog_11_method_7_code 0 = .ok (.aload_n 0, 1) := by decide +kernel
theorem dc_T_matches_1 : decode prog_11_method_7_code 1 = .ok (.getfield 77, 3) := by decide +kernel
theorem dc_T_matches_4 : decode prog_11_method_7_code 4 = .ok (.getfield 102, 3) := by decide +kernel
theorem fl_T_102 : am_fl "WebFinder$SiteRules" 102 1 0 := ⟨"WebFinder$Bytes", tt_B, 2, rfl, by decide, Or.inl (am_t1 52 rfl rfl)⟩
theorem dc_T_matches_7 : decode prog_11_method_7_code 7 = .ok (.astore_n 3, 1) := by decide +kernel
theorem dc_T_matches_8 : decode prog_11_method_7_code 8 = .ok (.aload_n 0, 1) := by decide +kernel
theorem dc_T_matches_9 : decode prog_11_method_7_code 9 = .ok (.iload_n 1, 1) := by decide +kernel
theorem dc_T_matches_10 : decode prog_11_method_7_code 10 = .ok (.invokevirtual 95, 3) := by decide +kernel
theorem dc_T_matches_13 : decode prog_11_method_7_code 13 = .ok (.istore 4, 2) := by decide +kernel
theorem dc_T_matches_15 : decode prog_11_method_7_code 15 = .ok (.aload_n 3, 1) := by decide +kernel
theorem dc_T_matches_16 : decode prog_11_method_7_code 16 = .ok (.aload_n 0, 1) := by decide +kernel
theorem dc_T_matches_17 : decode prog_11_method_7_code 17 = .ok (.iload_n 1, 1) := by decide +kernel
theorem dc_T_matches_18 : decode prog_11_method_7_code 18 = .ok (.invokevirtual 91, 3) := by decide +kernel
theorem dc_T_matches_21 : decode prog_11_method_7_code 21 = .ok (.iconst 1, 1) := by decide +kernel
theorem dc_T_matches_22 : decode prog_11_method_7_code 22 = .ok (.isub, 1) := by decide +kernel
theorem dc_T_matches_23 : decode prog_11_method_7_code 23 = .ok (.baload, 1) := by decide +kernel
theorem dc_T_matches_24 : decode prog_11_method_7_code 24 = .ok (.bipush 36, 2) := by decide +kernel
theorem dc_T_matches_26 : decode prog_11_method_7_code 26 = .ok (.if_icmp .ne 7, 3) := by decide +kernel
theorem dc_T_matches_29 : decode prog_11_method_7_code 29 = .ok (.iconst 1, 1) := by decide +kernel
theorem dc_T_matches_30 : decode prog_11_method_7_code 30 = .ok (.goto 4, 3) := by decide +kernel
theorem dc_T_matches_33 : decode prog_11_method_7_code 33 = .ok (.iconst 0, 1) := by decide +kernel
theorem dc_T_matches_34 : decode prog_11_method_7_code 34 = .ok (.istore 5, 2) := by decide +kernel
theorem dc_T_matches_36 : decode prog_11_method_7_code 36 = .ok (.iload 5, 2) := by decide +kernel
theorem dc_T_matches_38 : decode prog_11_method_7_code 38 = .ok (.ifCond .eq 13, 3) := by decide +kernel
theorem dc_T_matches_41 : decode prog_11_method_7_code 41 = .ok (.aload_n 0, 1) := by decide +kernel
theorem dc_T_matches_42 : decode prog_11_method_7_code 42 = .ok (.iload_n 1, 1) := by decide +kernel
theorem dc_T_matches_43 : decode prog_11_method_7_code 43 = .ok (.invokevirtual 91, 3) := by decide +kernel
theorem dc_T_matches_46 : decode prog_11_method_7_code 46 = .ok (.iconst 1, 1) := by decide +kernel
theorem dc_T_matches_47 : decode prog_11_method_7_code 47 = .ok (.isub, 1) := by decide +kernel
theorem dc_T_matches_48 : decode prog_11_method_7_code 48 = .ok (.goto 8, 3) := by decide +kernel
theorem dc_T_matches_51 : decode prog_11_method_7_code 51 = .ok (.aload_n 0, 1) := by decide +kernel
theorem dc_T_matches_52 : decode prog_11_method_7_code 52 = .ok (.iload_n 1, 1) := by decide +kernel
theorem dc_T_matches_53 : decode prog_11_method_7_code 53 = .ok (.invokevirtual 91, 3) := by decide +kernel
theorem dc_T_matches_56 : decode prog_11_method_7_code 56 = .ok (.istore 6, 2) := by decide +kernel
theorem dc_T_matches_58 : decode prog_11_method_7_code 58 = .ok (.aload_n 2, 1) := by decide +kernel
theorem dc_T_matches_59 : decode prog_11_method_7_code 59 = .ok (.getfield 102, 3) := by decide +kernel
theorem dc_T_matches_62 : decode prog_11_method_7_code 62 = .ok (.aload_n 2, 1) := by decide +kernel
theorem dc_T_matches_63 : decode prog_11_method_7_code 63 = .ok (.getfield 106, 3) := by decide +kernel
theorem fl_T_106 : am_fl "WebFinder$SiteRules" 106 1 1 := ⟨"WebFinder$Bytes", tt_B, 2, rfl, by decide, Or.inl (am_t1 64 rfl rfl)⟩
theorem dc_T_matches_66 : decode prog_11_method_7_code 66 = .ok (.invokestatic 109, 3) := by decide +kernel
theorem ln_T_109 : am_ln "WebFinder$SiteRules" 109 mt_W_siteTo.1 := Or.inr ⟨"WebFinder", (am_n5 133 rfl rfl)⟩
theorem dc_T_matches_69 : decode prog_11_method_7_code 69 = .ok (.istore 7, 2) := by decide +kernel
theorem dc_T_matches_71 : decode prog_11_method_7_code 71 = .ok (.aload_n 3, 1) := by decide +kernel
theorem dc_T_matches_72 : decode prog_11_method_7_code 72 = .ok (.bipush 42, 2) := by decide +kernel
theorem dc_T_matches_74 : decode prog_11_method_7_code 74 = .ok (.iload 4, 2) := by decide +kernel
theorem dc_T_matches_76 : decode prog_11_method_7_code 76 = .ok (.iload 6, 2) := by decide +kernel
theorem dc_T_matches_78 : decode prog_11_method_7_code 78 = .ok (.invokestatic 47, 3) := by decide +kernel
theorem dc_T_matches_81 : decode prog_11_method_7_code 81 = .ok (.istore 8, 2) := by decide +kernel
theorem dc_T_matches_83 : decode prog_11_method_7_code 83 = .ok (.aload_n 3, 1) := by decide +kernel
theorem dc_T_matches_84 : decode prog_11_method_7_code 84 = .ok (.iload 4, 2) := by decide +kernel
theorem dc_T_matches_86 : decode prog_11_method_7_code 86 = .ok (.iload 8, 2) := by decide +kernel
theorem dc_T_matches_88 : decode prog_11_method_7_code 88 = .ok (.aload_n 2, 1) := by decide +kernel
theorem dc_T_matches_89 : decode prog_11_method_7_code 89 = .ok (.iload 7, 2) := by decide +kernel
theorem dc_T_matches_91 : decode prog_11_method_7_code 91 = .ok (.invokestatic 113, 3) := by decide +kernel
theorem mo_T_standsAt : am_mo mt_T_standsAt 5 := ⟨⟨by decide +kernel, by decide +kernel⟩, by decide +kernel, ⟨by decide +kernel, by decide +kernel⟩, (am_t5 136 rfl rfl), (am_t1 30 rfl rfl), by decide +kernel⟩
theorem st_T_standsAt : Cond.static mt_T_standsAt.1 ∈ am_gw := (am_t5 135 rfl rfl)
theorem ln_T_113 : am_ln "WebFinder$SiteRules" 113 mt_T_standsAt.1 := Or.inl (am_t5 134 rfl rfl)
theorem dc_T_matches_94 : decode prog_11_method_7_code 94 = .ok (.ifCond .ne 5, 3) := by decide +kernel
theorem dc_T_matches_97 : decode prog_11_method_7_code 97 = .ok (.iconst 0, 1) := by decide +kernel
theorem dc_T_matches_98 : decode prog_11_method_7_code 98 = .ok (.ireturn, 1) := by decide +kernel
theorem dc_T_matches_99 : decode prog_11_method_7_code 99 = .ok (.iload 7, 2) := by decide +kernel
theorem dc_T_matches_101 : decode prog_11_method_7_code 101 = .ok (.iload 8, 2) := by decide +kernel
theorem dc_T_matches_103 : decode prog_11_method_7_code 103 = .ok (.iload 4, 2) := by decide +kernel
theorem dc_T_matches_105 : decode prog_11_method_7_code 105 = .ok (.isub, 1) := by decide +kernel
theorem dc_T_matches_106 : decode prog_11_method_7_code 106 = .ok (.iadd, 1) := by decide +kernel
theorem dc_T_matches_107 : decode prog_11_method_7_code 107 = .ok (.istore 7, 2) := by decide +kernel
theorem dc_T_matches_109 : decode prog_11_method_7_code 109 = .ok (.iload 8, 2) := by decide +kernel
theorem dc_T_matches_111 : decode prog_11_method_7_code 111 = .ok (.iload 6, 2) := by decide +kernel
theorem dc_T_matches_113 : decode prog_11_method_7_code 113 = .ok (.if_icmp .ge 7, 3) := by decide +kernel
theorem dc_T_matches_116 : decode prog_11_method_7_code 116 = .ok (.iconst 1, 1) := by decide +kernel
theorem dc_T_matches_117 : decode prog_11_method_7_code 117 = .ok (.goto 4, 3) := by decide +kernel
theorem dc_T_matches_120 : decode prog_11_method_7_code 120 = .ok (.iconst 0, 1) := by decide +kernel
theorem dc_T_matches_121 : decode prog_11_method_7_code 121 = .ok (.istore 9, 2) := by decide +kernel
theorem dc_T_matches_123 : decode prog_11_method_7_code 123 = .ok (.iload 8, 2) := by decide +kernel
theorem dc_T_matches_125 : decode prog_11_method_7_code 125 = .ok (.iconst 1, 1) := by decide +kernel
theorem dc_T_matches_126 : decode prog_11_method_7_code 126 = .ok (.iadd, 1) := by decide +kernel
theorem dc_T_matches_127 : decode prog_11_method_7_code 127 = .ok (.istore 10, 2) := by decide +kernel
theorem dc_T_matches_129 : decode prog_11_method_7_code 129 = .ok (.iload 10, 2) := by decide +kernel
theorem dc_T_matches_131 : decode prog_11_method_7_code 131 = .ok (.iload 6, 2) := by decide +kernel
theorem dc_T_matches_133 : decode prog_11_method_7_code 133 = .ok (.if_icmp .gt 106, 3) := by decide +kernel
theorem dc_T_matches_136 : decode prog_11_method_7_code 136 = .ok (.aload_n 3, 1) := by decide +kernel
theorem dc_T_matches_137 : decode prog_11_method_7_code 137 = .ok (.bipush 42, 2) := by decide +kernel
theorem dc_T_matches_139 : decode prog_11_method_7_code 139 = .ok (.iload 10, 2) := by decide +kernel
theorem dc_T_matches_141 : decode prog_11_method_7_code 141 = .ok (.iload 6, 2) := by decide +kernel
theorem dc_T_matches_143 : decode prog_11_method_7_code 143 = .ok (.invokestatic 47, 3) := by decide +kernel
theorem dc_T_matches_146 : decode prog_11_method_7_code 146 = .ok (.istore 8, 2) := by decide +kernel
theorem dc_T_matches_148 : decode prog_11_method_7_code 148 = .ok (.iload 5, 2) := by decide +kernel
theorem dc_T_matches_150 : decode prog_11_method_7_code 150 = .ok (.ifCond .eq 49, 3) := by decide +kernel
theorem dc_T_matches_153 : decode prog_11_method_7_code 153 = .ok (.iload 8, 2) := by decide +kernel
theorem dc_T_matches_155 : decode prog_11_method_7_code 155 = .ok (.iload 6, 2) := by decide +kernel
theorem dc_T_matches_157 : decode prog_11_method_7_code 157 = .ok (.if_icmp .ne 42, 3) := by decide +kernel
theorem dc_T_matches_160 : decode prog_11_method_7_code 160 = .ok (.aload_n 2, 1) := by decide +kernel
theorem dc_T_matches_161 : decode prog_11_method_7_code 161 = .ok (.getfield 106, 3) := by decide +kernel
theorem dc_T_matches_164 : decode prog_11_method_7_code 164 = .ok (.iload 8, 2) := by decide +kernel
theorem dc_T_matches_166 : decode prog_11_method_7_code 166 = .ok (.iload 10, 2) := by decide +kernel
theorem dc_T_matches_168 : decode prog_11_method_7_code 168 = .ok (.isub, 1) := by decide +kernel
theorem dc_T_matches_169 : decode prog_11_method_7_code 169 = .ok (.isub, 1) := by decide +kernel
theorem dc_T_matches_170 : decode prog_11_method_7_code 170 = .ok (.istore 11, 2) := by decide +kernel
theorem dc_T_matches_172 : decode prog_11_method_7_code 172 = .ok (.iload 11, 2) := by decide +kernel
theorem dc_T_matches_174 : decode prog_11_method_7_code 174 = .ok (.iload 7, 2) := by decide +kernel
theorem dc_T_matches_176 : decode prog_11_method_7_code 176 = .ok (.if_icmp .lt 21, 3) := by decide +kernel
theorem dc_T_matches_179 : decode prog_11_method_7_code 179 = .ok (.aload_n 3, 1) := by decide +kernel
theorem dc_T_matches_180 : decode prog_11_method_7_code 180 = .ok (.iload 10, 2) := by decide +kernel
theorem dc_T_matches_182 : decode prog_11_method_7_code 182 = .ok (.iload 8, 2) := by decide +kernel
theorem dc_T_matches_184 : decode prog_11_method_7_code 184 = .ok (.aload_n 2, 1) := by decide +kernel
theorem dc_T_matches_185 : decode prog_11_method_7_code 185 = .ok (.iload 11, 2) := by decide +kernel
theorem dc_T_matches_187 : decode prog_11_method_7_code 187 = .ok (.invokestatic 113, 3) := by decide +kernel
theorem dc_T_matches_190 : decode prog_11_method_7_code 190 = .ok (.ifCond .eq 7, 3) := by decide +kernel
theorem dc_T_matches_193 : decode prog_11_method_7_code 193 = .ok (.iconst 1, 1) := by decide +kernel
theorem dc_T_matches_194 : decode prog_11_method_7_code 194 = .ok (.goto 4, 3) := by decide +kernel
theorem dc_T_matches_197 : decode prog_11_method_7_code 197 = .ok (.iconst 0, 1) := by decide +kernel
theorem dc_T_matches_198 : decode prog_11_method_7_code 198 = .ok (.ireturn, 1) := by decide +kernel
theorem dc_T_matches_199 : decode prog_11_method_7_code 199 = .ok (.aload_n 3, 1) := by decide +kernel
theorem dc_T_matches_200 : decode prog_11_method_7_code 200 = .ok (.iload 10, 2) := by decide +kernel
theorem dc_T_matches_202 : decode prog_11_method_7_code 202 = .ok (.iload 8, 2) := by decide +kernel
theorem dc_T_matches_204 : decode prog_11_method_7_code 204 = .ok (.aload_n 2, 1) := by decide +kernel
theorem dc_T_matches_205 : decode prog_11_method_7_code 205 = .ok (.iload 7, 2) := by decide +kernel
theorem dc_T_matches_207 : decode prog_11_method_7_code 207 = .ok (.invokestatic 117, 3) := by decide +kernel
theorem mo_T_firstPlace : am_mo mt_T_firstPlace 5 := ⟨⟨by decide +kernel, by decide +kernel⟩, by decide +kernel, ⟨by decide +kernel, by decide +kernel⟩, (am_t5 140 rfl rfl), (am_t1 30 rfl rfl), by decide +kernel⟩
theorem st_T_firstPlace : Cond.static mt_T_firstPlace.1 ∈ am_gw := (am_t5 139 rfl rfl)
theorem ln_T_117 : am_ln "WebFinder$SiteRules" 117 mt_T_firstPlace.1 := Or.inl (am_t5 138 rfl rfl)
theorem dc_T_matches_210 : decode prog_11_method_7_code 210 = .ok (.istore 7, 2) := by decide +kernel
theorem dc_T_matches_212 : decode prog_11_method_7_code 212 = .ok (.iload 7, 2) := by decide +kernel
theorem dc_T_matches_214 : decode prog_11_method_7_code 214 = .ok (.iconst (-1), 1) := by decide +kernel
theorem dc_T_matches_215 : decode prog_11_method_7_code 215 = .ok (.if_icmp .ne 5, 3) := by decide +kernel
theorem dc_T_matches_218 : decode prog_11_method_7_code 218 = .ok (.iconst 0, 1) := by decide +kernel
theorem dc_T_matches_219 : decode prog_11_method_7_code 219 = .ok (.ireturn, 1) := by decide +kernel
theorem dc_T_matches_220 : decode prog_11_method_7_code 220 = .ok (.iload 7, 2) := by decide +kernel
theorem dc_T_matches_222 : decode prog_11_method_7_code 222 = .ok (.iload 8, 2) := by decide +kernel
theorem dc_T_matches_224 : decode prog_11_method_7_code 224 = .ok (.iload 10, 2) := by decide +kernel
theorem dc_T_matches_226 : decode prog_11_method_7_code 226 = .ok (.isub, 1) := by decide +kernel
theorem dc_T_matches_227 : decode prog_11_method_7_code 227 = .ok (.iadd, 1) := by decide +kernel
theorem dc_T_matches_228 : decode prog_11_method_7_code 228 = .ok (.istore 7, 2) := by decide +kernel
theorem dc_T_matches_230 : decode prog_11_method_7_code 230 = .ok (.iload 8, 2) := by decide +kernel
theorem dc_T_matches_232 : decode prog_11_method_7_code 232 = .ok (.iconst 1, 1) := by decide +kernel
theorem dc_T_matches_233 : decode prog_11_method_7_code 233 = .ok (.iadd, 1) := by decide +kernel
theorem dc_T_matches_234 : decode prog_11_method_7_code 234 = .ok (.istore 10, 2) := by decide +kernel
theorem dc_T_matches_236 : decode prog_11_method_7_code 236 = .ok (.goto (-107), 3) := by decide +kernel
theorem dc_T_matches_239 : decode prog_11_method_7_code 239 = .ok (.iload 9, 2) := by decide +kernel
theorem dc_T_matches_241 : decode prog_11_method_7_code 241 = .ok (.ifCond .ne 17, 3) := by decide +kernel
theorem dc_T_matches_244 : decode prog_11_method_7_code 244 = .ok (.iload 5, 2) := by decide +kernel
theorem dc_T_matches_246 : decode prog_11_method_7_code 246 = .ok (.ifCond .eq 12, 3) := by decide +kernel
theorem dc_T_matches_249 : decode prog_11_method_7_code 249 = .ok (.iload 7, 2) := by decide +kernel
theorem dc_T_matches_251 : decode prog_11_method_7_code 251 = .ok (.aload_n 2, 1) := by decide +kernel
theorem dc_T_matches_252 : decode prog_11_method_7_code 252 = .ok (.getfield 106, 3) := by decide +kernel
theorem dc_T_matches_255 : decode prog_11_method_7_code 255 = .ok (.if_icmp .ne 7, 3) := by decide +kernel
theorem dc_T_matches_258 : decode prog_11_method_7_code 258 = .ok (.iconst 1, 1) := by decide +kernel
theorem dc_T_matches_259 : decode prog_11_method_7_code 259 = .ok (.goto 4, 3) := by decide +kernel
theorem dc_T_matches_262 : decode prog_11_method_7_code 262 = .ok (.iconst 0, 1) := by decide +kernel
theorem dc_T_matches_263 : decode prog_11_method_7_code 263 = .ok (.ireturn, 1) := by decide +kernel
theorem dc_T_standsAt_0 : decode prog_11_method_8_code 0 = .ok (.iload 4, 2) := by decide +kernel
theorem dc_T_standsAt_2 : decode prog_11_method_8_code 2 = .ok (.iload_n 2, 1) := by decide +kernel
theorem dc_T_standsAt_3 : decode prog_11_method_8_code 3 = .ok (.iadd, 1) := by decide +kernel
theorem dc_T_standsAt_4 : decode prog_11_method_8_code 4 = .ok (.iload_n 1, 1) := by decide +kernel
theorem dc_T_standsAt_5 : decode prog_11_method_8_code 5 = .ok (.isub, 1) := by decide +kernel
theorem dc_T_standsAt_6 : decode prog_11_method_8_code 6 = .ok (.aload_n 3, 1) := by decide +kernel
theorem dc_T_standsAt_7 : decode prog_11_method_8_code 7 = .ok (.getfield 106, 3) := by decide +kernel
theorem dc_T_standsAt_10 : decode prog_11_method_8_code 10 = .ok (.if_icmp .gt 24, 3) := by decide +kernel
theorem dc_T_standsAt_13 : decode prog_11_method_8_code 13 = .ok (.aload_n 0, 1) := by decide +kernel
theorem dc_T_standsAt_14 : decode prog_11_method_8_code 14 = .ok (.iload_n 1, 1) := by decide +kernel
theorem dc_T_standsAt_15 : decode prog_11_method_8_code 15 = .ok (.aload_n 3, 1) := by decide +kernel
theorem dc_T_standsAt_16 : decode prog_11_method_8_code 16 = .ok (.getfield 102, 3) := by decide +kernel
theorem dc_T_standsAt_19 : decode prog_11_method_8_code 19 = .ok (.iload 4, 2) := by decide +kernel
theorem dc_T_standsAt_21 : decode prog_11_method_8_code 21 = .ok (.iload_n 2, 1) := by decide +kernel
theorem dc_T_standsAt_22 : decode prog_11_method_8_code 22 = .ok (.iload_n 1, 1) := by decide +kernel
theorem dc_T_standsAt_23 : decode prog_11_method_8_code 23 = .ok (.isub, 1) := by decide +kernel
theorem dc_T_standsAt_24 : decode prog_11_method_8_code 24 = .ok (.invokestatic 121, 3) := by decide +kernel
theorem ln_T_121 : am_ln "WebFinder$SiteRules" 121 mt_W_sameBytes.1 := Or.inr ⟨"WebFinder", (am_n5 137 rfl rfl)⟩
theorem dc_T_standsAt_27 : decode prog_11_method_8_code 27 = .ok (.ifCond .eq 7, 3) := by decide +kernel
theorem dc_T_standsAt_30 : decode prog_11_method_8_code 30 = .ok (.iconst 1, 1) := by decide +kernel
theorem dc_T_standsAt_31 : decode prog_11_method_8_code 31 = .ok (.goto 4, 3) := by decide +kernel
theorem dc_T_standsAt_34 : decode prog_11_method_8_code 34 = .ok (.iconst 0, 1) := by decide +kernel
theorem dc_T_standsAt_35 : decode prog_11_method_8_code 35 = .ok (.ireturn, 1) := by decide +kernel
theorem dc_T_firstPlace_0 : decode prog_11_method_9_code 0 = .ok (.iload 4, 2) := by decide +kernel
theorem dc_T_firstPlace_2 : decode prog_11_method_9_code 2 = .ok (.istore 5, 2) := by decide +kernel
theorem dc_T_firstPlace_4 : decode prog_11_method_9_code 4 = .ok (.iload 5, 2) := by decide +kernel
theorem dc_T_firstPlace_6 : decode prog_11_method_9_code 6 = .ok (.iload_n 2, 1) := by decide +kernel
theorem dc_T_firstPlace_7 : decode prog_11_method_9_code 7 = .ok (.iadd, 1) := by decide +kernel
theorem dc_T_firstPlace_8 : decode prog_11_method_9_code 8 = .ok (.iload_n 1, 1) := by decide +kernel
theorem dc_T_firstPlace_9 : decode prog_11_method_9_code 9 = .ok (.isub, 1) := by decide +kernel
theorem dc_T_firstPlace_10 : decode prog_11_method_9_code 10 = .ok (.aload_n 3, 1) := by decide +kernel
theorem dc_T_firstPlace_11 : decode prog_11_method_9_code 11 = .ok (.getfield 106, 3) := by decide +kernel
theorem dc_T_firstPlace_14 : decode prog_11_method_9_code 14 = .ok (.if_icmp .gt 29, 3) := by decide +kernel
theorem dc_T_firstPlace_17 : decode prog_11_method_9_code 17 = .ok (.aload_n 0, 1) := by decide +kernel
theorem dc_T_firstPlace_18 : decode prog_11_method_9_code 18 = .ok (.iload_n 1, 1) := by decide +kernel
theorem dc_T_firstPlace_19 : decode prog_11_method_9_code 19 = .ok (.aload_n 3, 1) := by decide +kernel
theorem dc_T_firstPlace_20 : decode prog_11_method_9_code 20 = .ok (.getfield 102, 3) := by decide +kernel
theorem dc_T_firstPlace_23 : decode prog_11_method_9_code 23 = .ok (.iload 5, 2) := by decide +kernel
theorem dc_T_firstPlace_25 : decode prog_11_method_9_code 25 = .ok (.iload_n 2, 1) := by decide +kernel
theorem dc_T_firstPlace_26 : decode prog_11_method_9_code 26 = .ok (.iload_n 1, 1) := by decide +kernel
theorem dc_T_firstPlace_27 : decode prog_11_method_9_code 27 = .ok (.isub, 1) := by decide +kernel
theorem dc_T_firstPlace_28 : decode prog_11_method_9_code 28 = .ok (.invokestatic 121, 3) := by decide +kernel
theorem dc_T_firstPlace_31 : decode prog_11_method_9_code 31 = .ok (.ifCond .eq 6, 3) := by decide +kernel
theorem dc_T_firstPlace_34 : decode prog_11_method_9_code 34 = .ok (.iload 5, 2) := by decide +kernel
theorem dc_T_firstPlace_36 : decode prog_11_method_9_code 36 = .ok (.ireturn, 1) := by decide +kernel
theorem dc_T_firstPlace_37 : decode prog_11_method_9_code 37 = .ok (.iinc 5 1, 3) := by decide +kernel
theorem dc_T_firstPlace_40 : decode prog_11_method_9_code 40 = .ok (.goto (-36), 3) := by decide +kernel
theorem dc_T_firstPlace_43 : decode prog_11_method_9_code 43 = .ok (.iconst (-1), 1) := by decide +kernel
theorem dc_T_firstPlace_44 : decode prog_11_method_9_code 44 = .ok (.ireturn, 1) := by decide +kernel
theorem dc_W_look_0 : decode prog_1_method_9_code 0 = .ok (.aload_n 0, 1) := by decide +kernel
theorem dc_W_look_1 : decode prog_1_method_9_code 1 = .ok (.invokevirtual 98, 3) := by decide +kernel
theorem dc_W_look_4 : decode prog_1_method_9_code 4 = .ok (.istore_n 2, 1) := by decide +kernel
theorem dc_W_look_5 : decode prog_1_method_9_code 5 = .ok (.iconst (-1), 1) := by decide +kernel
theorem dc_W_look_6 : decode prog_1_method_9_code 6 = .ok (.istore_n 3, 1) := by decide +kernel
theorem dc_W_look_7 : decode prog_1_method_9_code 7 = .ok (.iload_n 2, 1) := by decide +kernel
theorem dc_W_look_8 : decode prog_1_method_9_code 8 = .ok (.ifCond .eq 65, 3) := by decide +kernel
theorem dc_W_look_11 : decode prog_1_method_9_code 11 = .ok (.iload_n 1, 1) := by decide +kernel
theorem dc_W_look_12 : decode prog_1_method_9_code 12 = .ok (.ifCond .ne 61, 3) := by decide +kernel
theorem dc_W_look_15 : decode prog_1_method_9_code 15 = .ok (.aload_n 0, 1) := by decide +kernel
theorem dc_W_look_16 : decode prog_1_method_9_code 16 = .ok (.getfield 21, 3) := by decide +kernel
theorem dc_W_look_19 : decode prog_1_method_9_code 19 = .ok (.aload_n 0, 1) := by decide +kernel
theorem dc_W_look_20 : decode prog_1_method_9_code 20 = .ok (.getfield 27, 3) := by decide +kernel
theorem dc_W_look_23 : decode prog_1_method_9_code 23 = .ok (.getfield 102, 3) := by decide +kernel
theorem dc_W_look_26 : decode prog_1_method_9_code 26 = .ok (.invokevirtual 105, 3) := by decide +kernel
theorem dc_W_look_29 : decode prog_1_method_9_code 29 = .ok (.aload_n 0, 1) := by decide +kernel
theorem dc_W_look_30 : decode prog_1_method_9_code 30 = .ok (.getfield 36, 3) := by decide +kernel
theorem dc_W_look_33 : decode prog_1_method_9_code 33 = .ok (.aload_n 0, 1) := by decide +kernel
theorem dc_W_look_34 : decode prog_1_method_9_code 34 = .ok (.getfield 12, 3) := by decide +kernel
theorem dc_W_look_37 : decode prog_1_method_9_code 37 = .ok (.getfield 109, 3) := by decide +kernel
theorem dc_W_look_40 : decode prog_1_method_9_code 40 = .ok (.aload_n 0, 1) := by decide +kernel
theorem dc_W_look_41 : decode prog_1_method_9_code 41 = .ok (.invokevirtual 113, 3) := by decide +kernel
theorem dc_W_look_44 : decode prog_1_method_9_code 44 = .ok (.aload_n 0, 1) := by decide +kernel
theorem dc_W_look_45 : decode prog_1_method_9_code 45 = .ok (.getfield 12, 3) := by decide +kernel
theorem dc_W_look_48 : decode prog_1_method_9_code 48 = .ok (.getfield 85, 3) := by decide +kernel
theorem dc_W_look_51 : decode prog_1_method_9_code 51 = .ok (.aload_n 0, 1) := by decide +kernel
theorem dc_W_look_52 : decode prog_1_method_9_code 52 = .ok (.getfield 21, 3) := by decide +kernel
theorem dc_W_look_55 : decode prog_1_method_9_code 55 = .ok (.invokevirtual 142, 3) := by decide +kernel
theorem mo_P_readLinks : am_mo mt_P_readLinks 4 := ⟨⟨by decide +kernel, by decide +kernel⟩, by decide +kernel, ⟨by decide +kernel, by decide +kernel⟩, (am_t5 148 rfl rfl), (am_t1 4 rfl rfl), by decide +kernel⟩
theorem im_P_readLinks : Cond.instanceMethod mt_P_readLinks.1 ∈ am_gw := (am_t5 146 rfl rfl)
theorem se_P_readLinks : Cond.selects mt_P_readLinks.1.cls mt_P_readLinks.1 mt_P_readLinks.1 ∈ am_gw := (am_t5 147 rfl rfl)
theorem ln_W_142 : am_ln "WebFinder" 142 mt_P_readLinks.1 := Or.inl (am_t5 145 rfl rfl)
theorem dc_W_look_58 : decode prog_1_method_9_code 58 = .ok (.aload_n 0, 1) := by decide +kernel
theorem dc_W_look_59 : decode prog_1_method_9_code 59 = .ok (.aload_n 0, 1) := by decide +kernel
theorem dc_W_look_60 : decode prog_1_method_9_code 60 = .ok (.getfield 36, 3) := by decide +kernel
theorem dc_W_look_63 : decode prog_1_method_9_code 63 = .ok (.getfield 146, 3) := by decide +kernel
theorem fl_W_146 : am_fl "WebFinder" 146 3 0 := ⟨"WebFinder$PageReader", tt_P, 6, rfl, by decide, Or.inl (am_t1 169 rfl rfl)⟩
theorem dc_W_look_66 : decode prog_1_method_9_code 66 = .ok (.invokevirtual 149, 3) := by decide +kernel
theorem mo_W_produceLines : am_mo mt_W_produceLines 1 := ⟨⟨by decide +kernel, by decide +kernel⟩, by decide +kernel, ⟨by decide +kernel, by decide +kernel⟩, (am_t6 20 rfl rfl), (am_t1 1 rfl rfl), by decide +kernel⟩
theorem im_W_produceLines : Cond.instanceMethod mt_W_produceLines.1 ∈ am_gw := (am_t6 19 rfl rfl)
theorem se_W_produceLines : Cond.selects mt_W_produceLines.1.cls mt_W_produceLines.1 mt_W_produceLines.1 ∈ am_gw := am_in (List.mem_append_left _ (by decide +kernel)) rfl
theorem ln_W_149 : am_ln "WebFinder" 149 mt_W_produceLines.1 := Or.inl (am_t6 17 rfl rfl)
theorem dc_W_look_69 : decode prog_1_method_9_code 69 = .ok (.istore_n 3, 1) := by decide +kernel
theorem dc_W_look_70 : decode prog_1_method_9_code 70 = .ok (.goto 66, 3) := by decide +kernel
theorem dc_W_look_73 : decode prog_1_method_9_code 73 = .ok (.iload_n 2, 1) := by decide +kernel
theorem dc_W_look_74 : decode prog_1_method_9_code 74 = .ok (.ifCond .eq 62, 3) := by decide +kernel
theorem dc_W_look_77 : decode prog_1_method_9_code 77 = .ok (.iload_n 1, 1) := by decide +kernel
theorem dc_W_look_78 : decode prog_1_method_9_code 78 = .ok (.iconst 1, 1) := by decide +kernel
theorem dc_W_look_79 : decode prog_1_method_9_code 79 = .ok (.if_icmp .ne 57, 3) := by decide +kernel
theorem dc_W_look_82 : decode prog_1_method_9_code 82 = .ok (.aload_n 0, 1) := by decide +kernel
theorem dc_W_look_83 : decode prog_1_method_9_code 83 = .ok (.getfield 36, 3) := by decide +kernel
theorem dc_W_look_86 : decode prog_1_method_9_code 86 = .ok (.getfield 153, 3) := by decide +kernel
theorem fl_W_153 : am_fl "WebFinder" 153 3 1 := ⟨"WebFinder$PageReader", tt_P, 6, rfl, by decide, Or.inl (am_t1 171 rfl rfl)⟩
theorem dc_W_look_89 : decode prog_1_method_9_code 89 = .ok (.invokevirtual 156, 3) := by decide +kernel
theorem ln_W_156 : am_ln "WebFinder" 156 mt_R_clear.1 := Or.inl (am_t6 25 rfl rfl)
theorem dc_W_look_92 : decode prog_1_method_9_code 92 = .ok (.aload_n 0, 1) := by decide +kernel
theorem dc_W_look_93 : decode prog_1_method_9_code 93 = .ok (.getfield 36, 3) := by decide +kernel
theorem dc_W_look_96 : decode prog_1_method_9_code 96 = .ok (.aload_n 0, 1) := by decide +kernel
theorem dc_W_look_97 : decode prog_1_method_9_code 97 = .ok (.getfield 12, 3) := by decide +kernel
theorem dc_W_look_100 : decode prog_1_method_9_code 100 = .ok (.getfield 109, 3) := by decide +kernel
theorem dc_W_look_103 : decode prog_1_method_9_code 103 = .ok (.aload_n 0, 1) := by decide +kernel
theorem dc_W_look_104 : decode prog_1_method_9_code 104 = .ok (.invokevirtual 113, 3) := by decide +kernel
theorem dc_W_look_107 : decode prog_1_method_9_code 107 = .ok (.aload_n 0, 1) := by decide +kernel
theorem dc_W_look_108 : decode prog_1_method_9_code 108 = .ok (.getfield 12, 3) := by decide +kernel
theorem dc_W_look_111 : decode prog_1_method_9_code 111 = .ok (.getfield 85, 3) := by decide +kernel
theorem dc_W_look_114 : decode prog_1_method_9_code 114 = .ok (.aload_n 0, 1) := by decide +kernel
theorem dc_W_look_115 : decode prog_1_method_9_code 115 = .ok (.getfield 36, 3) := by decide +kernel
theorem dc_W_look_118 : decode prog_1_method_9_code 118 = .ok (.getfield 153, 3) := by decide +kernel
theorem dc_W_look_121 : decode prog_1_method_9_code 121 = .ok (.invokevirtual 157, 3) := by decide +kernel
theorem mo_P_readWords : am_mo mt_P_readWords 4 := ⟨⟨by decide +kernel, by decide +kernel⟩, by decide +kernel, ⟨by decide +kernel, by decide +kernel⟩, (am_t6 29 rfl rfl), (am_t1 4 rfl rfl), by decide +kernel⟩
theorem im_P_readWords : Cond.instanceMethod mt_P_readWords.1 ∈ am_gw := (am_t6 27 rfl rfl)
theorem se_P_readWords : Cond.selects mt_P_readWords.1.cls mt_P_readWords.1 mt_P_readWords.1 ∈ am_gw := (am_t6 28 rfl rfl)
theorem ln_W_157 : am_ln "WebFinder" 157 mt_P_readWords.1 := Or.inl (am_t6 26 rfl rfl)
theorem dc_W_look_124 : decode prog_1_method_9_code 124 = .ok (.aload_n 0, 1) := by decide +kernel
theorem dc_W_look_125 : decode prog_1_method_9_code 125 = .ok (.aload_n 0, 1) := by decide +kernel
theorem dc_W_look_126 : decode prog_1_method_9_code 126 = .ok (.getfield 36, 3) := by decide +kernel
theorem dc_W_look_129 : decode prog_1_method_9_code 129 = .ok (.getfield 153, 3) := by decide +kernel
theorem dc_W_look_132 : decode prog_1_method_9_code 132 = .ok (.invokevirtual 149, 3) := by decide +kernel
theorem dc_W_look_135 : decode prog_1_method_9_code 135 = .ok (.istore_n 3, 1) := by decide +kernel
theorem dc_W_look_136 : decode prog_1_method_9_code 136 = .ok (.aload_n 0, 1) := by decide +kernel
theorem dc_W_look_137 : decode prog_1_method_9_code 137 = .ok (.getfield 12, 3) := by decide +kernel
theorem dc_W_look_140 : decode prog_1_method_9_code 140 = .ok (.invokevirtual 121, 3) := by decide +kernel
theorem dc_W_look_143 : decode prog_1_method_9_code 143 = .ok (.iload_n 3, 1) := by decide +kernel
theorem dc_W_look_144 : decode prog_1_method_9_code 144 = .ok (.ireturn, 1) := by decide +kernel
theorem dc_P_readLinks_0 : decode prog_8_method_2_code 0 = .ok (.aload_n 0, 1) := by decide +kernel
theorem dc_P_readLinks_1 : decode prog_8_method_2_code 1 = .ok (.getfield 35, 3) := by decide +kernel
theorem fl_P_35 : am_fl "WebFinder$PageReader" 35 3 4 := ⟨"WebFinder$PageReader", tt_P, 6, rfl, by decide, Or.inl (am_t1 174 rfl rfl)⟩
theorem dc_P_readLinks_4 : decode prog_8_method_2_code 4 = .ok (.aload 4, 2) := by decide +kernel
theorem dc_P_readLinks_6 : decode prog_8_method_2_code 6 = .ok (.invokevirtual 46, 3) := by decide +kernel
theorem ln_P_46 : am_ln "WebFinder$PageReader" 46 mt_B_become.1 := Or.inl (am_t5 149 rfl rfl)
theorem dc_P_readLinks_9 : decode prog_8_method_2_code 9 = .ok (.aload_n 0, 1) := by decide +kernel
theorem dc_P_readLinks_10 : decode prog_8_method_2_code 10 = .ok (.getfield 26, 3) := by decide +kernel
theorem fl_P_26 : am_fl "WebFinder$PageReader" 26 3 3 := ⟨"WebFinder$PageReader", tt_P, 6, rfl, by decide, Or.inl (am_t1 173 rfl rfl)⟩
theorem dc_P_readLinks_13 : decode prog_8_method_2_code 13 = .ok (.aload_n 1, 1) := by decide +kernel
theorem dc_P_readLinks_14 : decode prog_8_method_2_code 14 = .ok (.iload_n 2, 1) := by decide +kernel
theorem dc_P_readLinks_15 : decode prog_8_method_2_code 15 = .ok (.iload_n 3, 1) := by decide +kernel
theorem dc_P_readLinks_16 : decode prog_8_method_2_code 16 = .ok (.invokevirtual 50, 3) := by decide +kernel
theorem mo_S_open : am_mo mt_S_open 3 := ⟨⟨by decide +kernel, by decide +kernel⟩, by decide +kernel, ⟨by decide +kernel, by decide +kernel⟩, (am_t5 153 rfl rfl), (am_t1 6 rfl rfl), by decide +kernel⟩
theorem im_S_open : Cond.instanceMethod mt_S_open.1 ∈ am_gw := (am_t5 151 rfl rfl)
theorem se_S_open : Cond.selects mt_S_open.1.cls mt_S_open.1 mt_S_open.1 ∈ am_gw := (am_t5 152 rfl rfl)
theorem ln_P_50 : am_ln "WebFinder$PageReader" 50 mt_S_open.1 := Or.inl (am_t5 150 rfl rfl)
theorem dc_P_readLinks_19 : decode prog_8_method_2_code 19 = .ok (.iload_n 3, 1) := by decide +kernel
theorem dc_P_readLinks_20 : decode prog_8_method_2_code 20 = .ok (.iload_n 2, 1) := by decide +kernel
theorem dc_P_readLinks_21 : decode prog_8_method_2_code 21 = .ok (.isub, 1) := by decide +kernel
theorem dc_P_readLinks_22 : decode prog_8_method_2_code 22 = .ok (.istore 5, 2) := by decide +kernel
theorem dc_P_readLinks_24 : decode prog_8_method_2_code 24 = .ok (.iload 5, 2) := by decide +kernel
theorem dc_P_readLinks_26 : decode prog_8_method_2_code 26 = .ok (.ifCond .le 94, 3) := by decide +kernel
theorem dc_P_readLinks_29 : decode prog_8_method_2_code 29 = .ok (.aload_n 0, 1) := by decide +kernel
theorem dc_P_readLinks_30 : decode prog_8_method_2_code 30 = .ok (.getfield 26, 3) := by decide +kernel
theorem dc_P_readLinks_33 : decode prog_8_method_2_code 33 = .ok (.invokevirtual 54, 3) := by decide +kernel
theorem mo_S_next : am_mo mt_S_next 0 := ⟨⟨by decide +kernel, by decide +kernel⟩, by decide +kernel, ⟨by decide +kernel, by decide +kernel⟩, (am_t5 157 rfl rfl), (am_t1 6 rfl rfl), by decide +kernel⟩
theorem im_S_next : Cond.instanceMethod mt_S_next.1 ∈ am_gw := (am_t5 155 rfl rfl)
theorem se_S_next : Cond.selects mt_S_next.1.cls mt_S_next.1 mt_S_next.1 ∈ am_gw := (am_t5 156 rfl rfl)
theorem ln_P_54 : am_ln "WebFinder$PageReader" 54 mt_S_next.1 := Or.inl (am_t5 154 rfl rfl)
theorem dc_P_readLinks_36 : decode prog_8_method_2_code 36 = .ok (.ifCond .eq 84, 3) := by decide +kernel
theorem dc_P_readLinks_39 : decode prog_8_method_2_code 39 = .ok (.aload_n 0, 1) := by decide +kernel
theorem dc_P_readLinks_40 : decode prog_8_method_2_code 40 = .ok (.getfield 26, 3) := by decide +kernel
theorem dc_P_readLinks_43 : decode prog_8_method_2_code 43 = .ok (.ldc 58, 2) := by decide +kernel
theorem dc_P_readLinks_45 : decode prog_8_method_2_code 45 = .ok (.invokevirtual 59, 3) := by decide +kernel
theorem mo_S_hasHref : am_mo mt_S_hasHref 1 := ⟨⟨by decide +kernel, by decide +kernel⟩, by decide +kernel, ⟨by decide +kernel, by decide +kernel⟩, (am_t5 208 rfl rfl), (am_t1 6 rfl rfl), by decide +kernel⟩
theorem im_S_hasHref : Cond.instanceMethod mt_S_hasHref.1 ∈ am_gw := (am_t5 206 rfl rfl)
theorem se_S_hasHref : Cond.selects mt_S_hasHref.1.cls mt_S_hasHref.1 mt_S_hasHref.1 ∈ am_gw := (am_t5 207 rfl rfl)
theorem ln_P_59 : am_ln "WebFinder$PageReader" 59 mt_S_hasHref.1 := Or.inl (am_t5 205 rfl rfl)
theorem dc_P_readLinks_48 : decode prog_8_method_2_code 48 = .ok (.ifCond .eq 66, 3) := by decide +kernel
theorem dc_P_readLinks_51 : decode prog_8_method_2_code 51 = .ok (.aload_n 0, 1) := by decide +kernel
theorem dc_P_readLinks_52 : decode prog_8_method_2_code 52 = .ok (.aload_n 1, 1) := by decide +kernel
theorem dc_P_readLinks_53 : decode prog_8_method_2_code 53 = .ok (.aload_n 0, 1) := by decide +kernel
theorem dc_P_readLinks_54 : decode prog_8_method_2_code 54 = .ok (.getfield 26, 3) := by decide +kernel
theorem dc_P_readLinks_57 : decode prog_8_method_2_code 57 = .ok (.getfield 63, 3) := by decide +kernel
theorem fl_P_63 : am_fl "WebFinder$PageReader" 63 5 1 := ⟨"WebFinder$PageScanner", tt_S, 9, rfl, by decide, Or.inl (am_t1 134 rfl rfl)⟩
theorem dc_P_readLinks_60 : decode prog_8_method_2_code 60 = .ok (.aload_n 0, 1) := by decide +kernel
theorem dc_P_readLinks_61 : decode prog_8_method_2_code 61 = .ok (.getfield 26, 3) := by decide +kernel
theorem dc_P_readLinks_64 : decode prog_8_method_2_code 64 = .ok (.getfield 67, 3) := by decide +kernel
theorem fl_P_67 : am_fl "WebFinder$PageReader" 67 5 2 := ⟨"WebFinder$PageScanner", tt_S, 9, rfl, by decide, Or.inl (am_t1 136 rfl rfl)⟩
theorem dc_P_readLinks_67 : decode prog_8_method_2_code 67 = .ok (.invokevirtual 70, 3) := by decide +kernel
theorem mo_P_decode : am_mo mt_P_decode 3 := ⟨⟨by decide +kernel, by decide +kernel⟩, by decide +kernel, ⟨by decide +kernel, by decide +kernel⟩, (am_t5 212 rfl rfl), (am_t1 4 rfl rfl), by decide +kernel⟩
theorem im_P_decode : Cond.instanceMethod mt_P_decode.1 ∈ am_gw := (am_t5 211 rfl rfl)
theorem se_P_decode : Cond.selects mt_P_decode.1.cls mt_P_decode.1 mt_P_decode.1 ∈ am_gw := am_in (List.mem_append_left _ (by decide +kernel)) rfl
theorem ln_P_70 : am_ln "WebFinder$PageReader" 70 mt_P_decode.1 := Or.inl (am_t5 209 rfl rfl)
theorem dc_P_readLinks_70 : decode prog_8_method_2_code 70 = .ok (.aload_n 0, 1) := by decide +kernel
theorem dc_P_readLinks_71 : decode prog_8_method_2_code 71 = .ok (.getfield 42, 3) := by decide +kernel
theorem fl_P_42 : am_fl "WebFinder$PageReader" 42 3 2 := ⟨"WebFinder$PageReader", tt_P, 6, rfl, by decide, Or.inl (am_t1 172 rfl rfl)⟩
theorem dc_P_readLinks_74 : decode prog_8_method_2_code 74 = .ok (.aload_n 0, 1) := by decide +kernel
theorem dc_P_readLinks_75 : decode prog_8_method_2_code 75 = .ok (.getfield 39, 3) := by decide +kernel
theorem fl_P_39 : am_fl "WebFinder$PageReader" 39 3 5 := ⟨"WebFinder$PageReader", tt_P, 6, rfl, by decide, Or.inl (am_t1 175 rfl rfl)⟩
theorem dc_P_readLinks_78 : decode prog_8_method_2_code 78 = .ok (.getfield 73, 3) := by decide +kernel
theorem fl_P_73 : am_fl "WebFinder$PageReader" 73 1 0 := ⟨"WebFinder$Bytes", tt_B, 2, rfl, by decide, Or.inl (am_t1 48 rfl rfl)⟩
theorem dc_P_readLinks_81 : decode prog_8_method_2_code 81 = .ok (.iconst 0, 1) := by decide +kernel
theorem dc_P_readLinks_82 : decode prog_8_method_2_code 82 = .ok (.aload_n 0, 1) := by decide +kernel
theorem dc_P_readLinks_83 : decode prog_8_method_2_code 83 = .ok (.getfield 39, 3) := by decide +kernel
theorem dc_P_readLinks_86 : decode prog_8_method_2_code 86 = .ok (.getfield 77, 3) := by decide +kernel
theorem fl_P_77 : am_fl "WebFinder$PageReader" 77 1 1 := ⟨"WebFinder$Bytes", tt_B, 2, rfl, by decide, Or.inl (am_t1 59 rfl rfl)⟩
theorem dc_P_readLinks_89 : decode prog_8_method_2_code 89 = .ok (.aload 4, 2) := by decide +kernel
theorem dc_P_readLinks_91 : decode prog_8_method_2_code 91 = .ok (.invokevirtual 80, 3) := by decide +kernel
theorem ln_P_80 : am_ln "WebFinder$PageReader" 80 mt_A_resolve.1 := Or.inl (am_t5 235 rfl rfl)
theorem dc_P_readLinks_94 : decode prog_8_method_2_code 94 = .ok (.ifCond .eq 20, 3) := by decide +kernel
theorem dc_P_readLinks_97 : decode prog_8_method_2_code 97 = .ok (.aload_n 0, 1) := by decide +kernel
theorem dc_P_readLinks_98 : decode prog_8_method_2_code 98 = .ok (.getfield 35, 3) := by decide +kernel
theorem dc_P_readLinks_101 : decode prog_8_method_2_code 101 = .ok (.aload_n 0, 1) := by decide +kernel
theorem dc_P_readLinks_102 : decode prog_8_method_2_code 102 = .ok (.getfield 42, 3) := by decide +kernel
theorem dc_P_readLinks_105 : decode prog_8_method_2_code 105 = .ok (.getfield 86, 3) := by decide +kernel
theorem fl_P_86 : am_fl "WebFinder$PageReader" 86 2 0 := ⟨"WebFinder$AddressReader", tt_A, 2, rfl, by decide, Or.inl (am_t1 80 rfl rfl)⟩
theorem dc_P_readLinks_108 : decode prog_8_method_2_code 108 = .ok (.invokevirtual 46, 3) := by decide +kernel
theorem dc_P_readLinks_111 : decode prog_8_method_2_code 111 = .ok (.goto 9, 3) := by decide +kernel
theorem dc_P_readLinks_114 : decode prog_8_method_2_code 114 = .ok (.iinc 5 (-1), 3) := by decide +kernel
theorem dc_P_readLinks_117 : decode prog_8_method_2_code 117 = .ok (.goto (-93), 3) := by decide +kernel
theorem dc_P_readLinks_120 : decode prog_8_method_2_code 120 = .ok (.aload_n 0, 1) := by decide +kernel
theorem dc_P_readLinks_121 : decode prog_8_method_2_code 121 = .ok (.getfield 14, 3) := by decide +kernel
theorem fl_P_14 : am_fl "WebFinder$PageReader" 14 3 0 := ⟨"WebFinder$PageReader", tt_P, 6, rfl, by decide, Or.inl (am_t1 166 rfl rfl)⟩
theorem dc_P_readLinks_124 : decode prog_8_method_2_code 124 = .ok (.invokevirtual 89, 3) := by decide +kernel
theorem ln_P_89 : am_ln "WebFinder$PageReader" 89 mt_R_clear.1 := Or.inl (am_t5 236 rfl rfl)
theorem dc_P_readLinks_127 : decode prog_8_method_2_code 127 = .ok (.aload_n 0, 1) := by decide +kernel
theorem dc_P_readLinks_128 : decode prog_8_method_2_code 128 = .ok (.getfield 26, 3) := by decide +kernel
theorem dc_P_readLinks_131 : decode prog_8_method_2_code 131 = .ok (.aload_n 1, 1) := by decide +kernel
theorem dc_P_readLinks_132 : decode prog_8_method_2_code 132 = .ok (.iload_n 2, 1) := by decide +kernel
theorem dc_P_readLinks_133 : decode prog_8_method_2_code 133 = .ok (.iload_n 3, 1) := by decide +kernel
theorem dc_P_readLinks_134 : decode prog_8_method_2_code 134 = .ok (.invokevirtual 50, 3) := by decide +kernel
theorem dc_P_readLinks_137 : decode prog_8_method_2_code 137 = .ok (.iload_n 3, 1) := by decide +kernel
theorem dc_P_readLinks_138 : decode prog_8_method_2_code 138 = .ok (.iload_n 2, 1) := by decide +kernel
theorem dc_P_readLinks_139 : decode prog_8_method_2_code 139 = .ok (.isub, 1) := by decide +kernel
theorem dc_P_readLinks_140 : decode prog_8_method_2_code 140 = .ok (.istore 5, 2) := by decide +kernel
theorem dc_P_readLinks_142 : decode prog_8_method_2_code 142 = .ok (.iload 5, 2) := by decide +kernel
theorem dc_P_readLinks_144 : decode prog_8_method_2_code 144 = .ok (.ifCond .le 102, 3) := by decide +kernel
theorem dc_P_readLinks_147 : decode prog_8_method_2_code 147 = .ok (.aload_n 0, 1) := by decide +kernel
theorem dc_P_readLinks_148 : decode prog_8_method_2_code 148 = .ok (.getfield 26, 3) := by decide +kernel
theorem dc_P_readLinks_151 : decode prog_8_method_2_code 151 = .ok (.invokevirtual 54, 3) := by decide +kernel
theorem dc_P_readLinks_154 : decode prog_8_method_2_code 154 = .ok (.ifCond .eq 92, 3) := by decide +kernel
theorem dc_P_readLinks_157 : decode prog_8_method_2_code 157 = .ok (.aload_n 0, 1) := by decide +kernel
theorem dc_P_readLinks_158 : decode prog_8_method_2_code 158 = .ok (.getfield 14, 3) := by decide +kernel
theorem dc_P_readLinks_161 : decode prog_8_method_2_code 161 = .ok (.getfield 92, 3) := by decide +kernel
theorem fl_P_92 : am_fl "WebFinder$PageReader" 92 4 2 := ⟨"WebFinder$Rows", tt_R, 3, rfl, by decide, Or.inl (am_t1 114 rfl rfl)⟩
theorem dc_P_readLinks_164 : decode prog_8_method_2_code 164 = .ok (.bipush 60, 2) := by decide +kernel
theorem dc_P_readLinks_166 : decode prog_8_method_2_code 166 = .ok (.if_icmp .ge 74, 3) := by decide +kernel
theorem dc_P_readLinks_169 : decode prog_8_method_2_code 169 = .ok (.aload_n 0, 1) := by decide +kernel
theorem dc_P_readLinks_170 : decode prog_8_method_2_code 170 = .ok (.getfield 26, 3) := by decide +kernel
theorem dc_P_readLinks_173 : decode prog_8_method_2_code 173 = .ok (.ldc 95, 2) := by decide +kernel
theorem dc_P_readLinks_175 : decode prog_8_method_2_code 175 = .ok (.invokevirtual 59, 3) := by decide +kernel
theorem dc_P_readLinks_178 : decode prog_8_method_2_code 178 = .ok (.ifCond .eq 62, 3) := by decide +kernel
theorem dc_P_readLinks_181 : decode prog_8_method_2_code 181 = .ok (.aload_n 0, 1) := by decide +kernel
theorem dc_P_readLinks_182 : decode prog_8_method_2_code 182 = .ok (.aload_n 1, 1) := by decide +kernel
theorem dc_P_readLinks_183 : decode prog_8_method_2_code 183 = .ok (.aload_n 0, 1) := by decide +kernel
theorem dc_P_readLinks_184 : decode prog_8_method_2_code 184 = .ok (.getfield 26, 3) := by decide +kernel
theorem dc_P_readLinks_187 : decode prog_8_method_2_code 187 = .ok (.getfield 63, 3) := by decide +kernel
theorem dc_P_readLinks_190 : decode prog_8_method_2_code 190 = .ok (.aload_n 0, 1) := by decide +kernel
theorem dc_P_readLinks_191 : decode prog_8_method_2_code 191 = .ok (.getfield 26, 3) := by decide +kernel
theorem dc_P_readLinks_194 : decode prog_8_method_2_code 194 = .ok (.getfield 67, 3) := by decide +kernel
theorem dc_P_readLinks_197 : decode prog_8_method_2_code 197 = .ok (.invokevirtual 70, 3) := by decide +kernel
theorem dc_P_readLinks_200 : decode prog_8_method_2_code 200 = .ok (.aload_n 0, 1) := by decide +kernel
theorem dc_P_readLinks_201 : decode prog_8_method_2_code 201 = .ok (.getfield 42, 3) := by decide +kernel
theorem dc_P_readLinks_204 : decode prog_8_method_2_code 204 = .ok (.aload_n 0, 1) := by decide +kernel
theorem dc_P_readLinks_205 : decode prog_8_method_2_code 205 = .ok (.getfield 39, 3) := by decide +kernel
theorem dc_P_readLinks_208 : decode prog_8_method_2_code 208 = .ok (.getfield 73, 3) := by decide +kernel
theorem dc_P_readLinks_211 : decode prog_8_method_2_code 211 = .ok (.iconst 0, 1) := by decide +kernel
theorem dc_P_readLinks_212 : decode prog_8_method_2_code 212 = .ok (.aload_n 0, 1) := by decide +kernel
theorem dc_P_readLinks_213 : decode prog_8_method_2_code 213 = .ok (.getfield 39, 3) := by decide +kernel
theorem dc_P_readLinks_216 : decode prog_8_method_2_code 216 = .ok (.getfield 77, 3) := by decide +kernel
theorem dc_P_readLinks_219 : decode prog_8_method_2_code 219 = .ok (.aload_n 0, 1) := by decide +kernel
theorem dc_P_readLinks_220 : decode prog_8_method_2_code 220 = .ok (.getfield 35, 3) := by decide +kernel
theorem dc_P_readLinks_223 : decode prog_8_method_2_code 223 = .ok (.invokevirtual 80, 3) := by decide +kernel
theorem dc_P_readLinks_226 : decode prog_8_method_2_code 226 = .ok (.ifCond .eq 14, 3) := by decide +kernel
theorem dc_P_readLinks_229 : decode prog_8_method_2_code 229 = .ok (.aload_n 0, 1) := by decide +kernel
theorem dc_P_readLinks_230 : decode prog_8_method_2_code 230 = .ok (.aload_n 0, 1) := by decide +kernel
theorem dc_P_readLinks_231 : decode prog_8_method_2_code 231 = .ok (.getfield 42, 3) := by decide +kernel
theorem dc_P_readLinks_234 : decode prog_8_method_2_code 234 = .ok (.getfield 86, 3) := by decide +kernel
theorem dc_P_readLinks_237 : decode prog_8_method_2_code 237 = .ok (.invokevirtual 97, 3) := by decide +kernel
theorem mo_P_addLink : am_mo mt_P_addLink 1 := ⟨⟨by decide +kernel, by decide +kernel⟩, by decide +kernel, ⟨by decide +kernel, by decide +kernel⟩, (am_t6 1 rfl rfl), (am_t1 4 rfl rfl), by decide +kernel⟩
theorem im_P_addLink : Cond.instanceMethod mt_P_addLink.1 ∈ am_gw := (am_t6 0 rfl rfl)
theorem se_P_addLink : Cond.selects mt_P_addLink.1.cls mt_P_addLink.1 mt_P_addLink.1 ∈ am_gw := am_in (List.mem_append_left _ (by decide +kernel)) rfl
theorem ln_P_97 : am_ln "WebFinder$PageReader" 97 mt_P_addLink.1 := Or.inl (am_t5 238 rfl rfl)
theorem dc_P_readLinks_240 : decode prog_8_method_2_code 240 = .ok (.iinc 5 (-1), 3) := by decide +kernel
theorem dc_P_readLinks_243 : decode prog_8_method_2_code 243 = .ok (.goto (-101), 3) := by decide +kernel
theorem dc_P_readLinks_246 : decode prog_8_method_2_code 246 = .ok (.return_, 1) := by decide +kernel
theorem dc_S_open_0 : decode prog_9_method_2_code 0 = .ok (.aload_n 0, 1) := by decide +kernel
theorem dc_S_open_1 : decode prog_9_method_2_code 1 = .ok (.aload_n 1, 1) := by decide +kernel
theorem dc_S_open_2 : decode prog_9_method_2_code 2 = .ok (.putfield 9, 3) := by decide +kernel
theorem fp_S_open_9 : am_fp mt_S_open.1 9 5 4 (.array .byte) := ⟨"WebFinder$PageScanner", tt_S, 9, rfl, by decide, ct_S 4 (by decide), Or.inl ⟨(am_t1 140 rfl rfl), Or.inl rfl⟩⟩
theorem dc_S_open_5 : decode prog_9_method_2_code 5 = .ok (.aload_n 0, 1) := by decide +kernel
theorem dc_S_open_6 : decode prog_9_method_2_code 6 = .ok (.iload_n 2, 1) := by decide +kernel
theorem dc_S_open_7 : decode prog_9_method_2_code 7 = .ok (.putfield 15, 3) := by decide +kernel
theorem fp_S_open_15 : am_fp mt_S_open.1 15 5 3 (.int) := ⟨"WebFinder$PageScanner", tt_S, 9, rfl, by decide, ct_S 3 (by decide), Or.inl ⟨(am_t1 138 rfl rfl), Or.inl rfl⟩⟩
theorem dc_S_open_10 : decode prog_9_method_2_code 10 = .ok (.aload_n 0, 1) := by decide +kernel
theorem dc_S_open_11 : decode prog_9_method_2_code 11 = .ok (.iload_n 3, 1) := by decide +kernel
theorem dc_S_open_12 : decode prog_9_method_2_code 12 = .ok (.putfield 19, 3) := by decide +kernel
theorem fp_S_open_19 : am_fp mt_S_open.1 19 5 5 (.int) := ⟨"WebFinder$PageScanner", tt_S, 9, rfl, by decide, ct_S 5 (by decide), Or.inl ⟨(am_t1 141 rfl rfl), Or.inl rfl⟩⟩
theorem dc_S_open_15 : decode prog_9_method_2_code 15 = .ok (.return_, 1) := by decide +kernel
theorem dc_S_next_0 : decode prog_9_method_3_code 0 = .ok (.aload_n 0, 1) := by decide +kernel
theorem dc_S_next_1 : decode prog_9_method_3_code 1 = .ok (.aload_n 0, 1) := by decide +kernel
theorem dc_S_next_2 : decode prog_9_method_3_code 2 = .ok (.getfield 15, 3) := by decide +kernel
theorem fl_S_15 : am_fl "WebFinder$PageScanner" 15 5 3 := ⟨"WebFinder$PageScanner", tt_S, 9, rfl, by decide, Or.inl (am_t1 138 rfl rfl)⟩
theorem dc_S_next_5 : decode prog_9_method_3_code 5 = .ok (.putfield 22, 3) := by decide +kernel
theorem fp_S_next_22 : am_fp mt_S_next.1 22 5 0 (.int) := ⟨"WebFinder$PageScanner", tt_S, 9, rfl, by decide, ct_S 0 (by decide), Or.inl ⟨(am_t1 132 rfl rfl), Or.inl rfl⟩⟩
theorem dc_S_next_8 : decode prog_9_method_3_code 8 = .ok (.aload_n 0, 1) := by decide +kernel
theorem dc_S_next_9 : decode prog_9_method_3_code 9 = .ok (.iconst (-1), 1) := by decide +kernel
theorem dc_S_next_10 : decode prog_9_method_3_code 10 = .ok (.putfield 25, 3) := by decide +kernel
theorem fp_S_next_25 : am_fp mt_S_next.1 25 5 1 (.int) := ⟨"WebFinder$PageScanner", tt_S, 9, rfl, by decide, ct_S 1 (by decide), Or.inl ⟨(am_t1 135 rfl rfl), Or.inl rfl⟩⟩
theorem dc_S_next_13 : decode prog_9_method_3_code 13 = .ok (.aload_n 0, 1) := by decide +kernel
theorem dc_S_next_14 : decode prog_9_method_3_code 14 = .ok (.getfield 15, 3) := by decide +kernel
theorem dc_S_next_17 : decode prog_9_method_3_code 17 = .ok (.aload_n 0, 1) := by decide +kernel
theorem dc_S_next_18 : decode prog_9_method_3_code 18 = .ok (.getfield 19, 3) := by decide +kernel
theorem fl_S_19 : am_fl "WebFinder$PageScanner" 19 5 5 := ⟨"WebFinder$PageScanner", tt_S, 9, rfl, by decide, Or.inl (am_t1 141 rfl rfl)⟩
theorem dc_S_next_21 : decode prog_9_method_3_code 21 = .ok (.if_icmp .lt 5, 3) := by decide +kernel
theorem dc_S_next_24 : decode prog_9_method_3_code 24 = .ok (.iconst 0, 1) := by decide +kernel
theorem dc_S_next_25 : decode prog_9_method_3_code 25 = .ok (.ireturn, 1) := by decide +kernel
theorem dc_S_next_26 : decode prog_9_method_3_code 26 = .ok (.aload_n 0, 1) := by decide +kernel
theorem dc_S_next_27 : decode prog_9_method_3_code 27 = .ok (.aload_n 0, 1) := by decide +kernel
theorem dc_S_next_28 : decode prog_9_method_3_code 28 = .ok (.getfield 15, 3) := by decide +kernel
theorem dc_S_next_31 : decode prog_9_method_3_code 31 = .ok (.invokevirtual 28, 3) := by decide +kernel
theorem mo_S_kindAt : am_mo mt_S_kindAt 1 := ⟨⟨by decide +kernel, by decide +kernel⟩, by decide +kernel, ⟨by decide +kernel, by decide +kernel⟩, (am_t5 161 rfl rfl), (am_t1 6 rfl rfl), by decide +kernel⟩
theorem im_S_kindAt : Cond.instanceMethod mt_S_kindAt.1 ∈ am_gw := (am_t5 160 rfl rfl)
theorem se_S_kindAt : Cond.selects mt_S_kindAt.1.cls mt_S_kindAt.1 mt_S_kindAt.1 ∈ am_gw := am_in (List.mem_append_left _ (by decide +kernel)) rfl
theorem ln_S_28 : am_ln "WebFinder$PageScanner" 28 mt_S_kindAt.1 := Or.inl (am_t5 158 rfl rfl)
theorem dc_S_next_34 : decode prog_9_method_3_code 34 = .ok (.istore_n 1, 1) := by decide +kernel
theorem dc_S_next_35 : decode prog_9_method_3_code 35 = .ok (.iload_n 1, 1) := by decide +kernel
theorem dc_S_next_36 : decode prog_9_method_3_code 36 = .ok (.iconst 2, 1) := by decide +kernel
theorem dc_S_next_37 : decode prog_9_method_3_code 37 = .ok (.if_icmp .ne 8, 3) := by decide +kernel
theorem dc_S_next_40 : decode prog_9_method_3_code 40 = .ok (.aload_n 0, 1) := by decide +kernel
theorem dc_S_next_41 : decode prog_9_method_3_code 41 = .ok (.invokevirtual 32, 3) := by decide +kernel
theorem mo_S_passTag : am_mo mt_S_passTag 0 := ⟨⟨by decide +kernel, by decide +kernel⟩, by decide +kernel, ⟨by decide +kernel, by decide +kernel⟩, (am_t5 166 rfl rfl), (am_t1 6 rfl rfl), by decide +kernel⟩
theorem im_S_passTag : Cond.instanceMethod mt_S_passTag.1 ∈ am_gw := (am_t5 165 rfl rfl)
theorem se_S_passTag : Cond.selects mt_S_passTag.1.cls mt_S_passTag.1 mt_S_passTag.1 ∈ am_gw := am_in (List.mem_append_left _ (by decide +kernel)) rfl
theorem ln_S_32 : am_ln "WebFinder$PageScanner" 32 mt_S_passTag.1 := Or.inl (am_t5 163 rfl rfl)
theorem dc_S_next_44 : decode prog_9_method_3_code 44 = .ok (.ireturn, 1) := by decide +kernel
theorem dc_S_next_45 : decode prog_9_method_3_code 45 = .ok (.iload_n 1, 1) := by decide +kernel
theorem dc_S_next_46 : decode prog_9_method_3_code 46 = .ok (.iconst 3, 1) := by decide +kernel
theorem dc_S_next_47 : decode prog_9_method_3_code 47 = .ok (.if_icmp .ne 13, 3) := by decide +kernel
theorem dc_S_next_50 : decode prog_9_method_3_code 50 = .ok (.aload_n 0, 1) := by decide +kernel
theorem dc_S_next_51 : decode prog_9_method_3_code 51 = .ok (.aload_n 0, 1) := by decide +kernel
theorem dc_S_next_52 : decode prog_9_method_3_code 52 = .ok (.invokevirtual 36, 3) := by decide +kernel
theorem mo_S_remarkTo : am_mo mt_S_remarkTo 0 := ⟨⟨by decide +kernel, by decide +kernel⟩, by decide +kernel, ⟨by decide +kernel, by decide +kernel⟩, (am_t5 201 rfl rfl), (am_t1 6 rfl rfl), by decide +kernel⟩
theorem im_S_remarkTo : Cond.instanceMethod mt_S_remarkTo.1 ∈ am_gw := (am_t5 200 rfl rfl)
theorem se_S_remarkTo : Cond.selects mt_S_remarkTo.1.cls mt_S_remarkTo.1 mt_S_remarkTo.1 ∈ am_gw := am_in (List.mem_append_left _ (by decide +kernel)) rfl
theorem ln_S_36 : am_ln "WebFinder$PageScanner" 36 mt_S_remarkTo.1 := Or.inl (am_t5 198 rfl rfl)
theorem dc_S_next_55 : decode prog_9_method_3_code 55 = .ok (.putfield 15, 3) := by decide +kernel
theorem fp_S_next_15 : am_fp mt_S_next.1 15 5 3 (.int) := ⟨"WebFinder$PageScanner", tt_S, 9, rfl, by decide, ct_S 3 (by decide), Or.inl ⟨(am_t1 138 rfl rfl), Or.inl rfl⟩⟩
theorem dc_S_next_58 : decode prog_9_method_3_code 58 = .ok (.iconst 3, 1) := by decide +kernel
theorem dc_S_next_59 : decode prog_9_method_3_code 59 = .ok (.ireturn, 1) := by decide +kernel
theorem dc_S_next_60 : decode prog_9_method_3_code 60 = .ok (.aload_n 0, 1) := by decide +kernel
theorem dc_S_next_61 : decode prog_9_method_3_code 61 = .ok (.dup, 1) := by decide +kernel
theorem dc_S_next_62 : decode prog_9_method_3_code 62 = .ok (.getfield 15, 3) := by decide +kernel
theorem dc_S_next_65 : decode prog_9_method_3_code 65 = .ok (.iconst 1, 1) := by decide +kernel
theorem dc_S_next_66 : decode prog_9_method_3_code 66 = .ok (.iadd, 1) := by decide +kernel
theorem dc_S_next_67 : decode prog_9_method_3_code 67 = .ok (.putfield 15, 3) := by decide +kernel
theorem dc_S_next_70 : decode prog_9_method_3_code 70 = .ok (.aload_n 0, 1) := by decide +kernel
theorem dc_S_next_71 : decode prog_9_method_3_code 71 = .ok (.getfield 15, 3) := by decide +kernel
theorem dc_S_next_74 : decode prog_9_method_3_code 74 = .ok (.aload_n 0, 1) := by decide +kernel
theorem dc_S_next_75 : decode prog_9_method_3_code 75 = .ok (.getfield 19, 3) := by decide +kernel
theorem dc_S_next_78 : decode prog_9_method_3_code 78 = .ok (.if_icmp .ge 28, 3) := by decide +kernel
theorem dc_S_next_81 : decode prog_9_method_3_code 81 = .ok (.aload_n 0, 1) := by decide +kernel
theorem dc_S_next_82 : decode prog_9_method_3_code 82 = .ok (.aload_n 0, 1) := by decide +kernel
theorem dc_S_next_83 : decode prog_9_method_3_code 83 = .ok (.getfield 15, 3) := by decide +kernel
theorem dc_S_next_86 : decode prog_9_method_3_code 86 = .ok (.invokevirtual 28, 3) := by decide +kernel
theorem dc_S_next_89 : decode prog_9_method_3_code 89 = .ok (.iconst 1, 1) := by decide +kernel
theorem dc_S_next_90 : decode prog_9_method_3_code 90 = .ok (.if_icmp .ne 16, 3) := by decide +kernel
theorem dc_S_next_93 : decode prog_9_method_3_code 93 = .ok (.aload_n 0, 1) := by decide +kernel
theorem dc_S_next_94 : decode prog_9_method_3_code 94 = .ok (.dup, 1) := by decide +kernel
theorem dc_S_next_95 : decode prog_9_method_3_code 95 = .ok (.getfield 15, 3) := by decide +kernel
theorem dc_S_next_98 : decode prog_9_method_3_code 98 = .ok (.iconst 1, 1) := by decide +kernel
theorem dc_S_next_99 : decode prog_9_method_3_code 99 = .ok (.iadd, 1) := by decide +kernel
theorem dc_S_next_100 : decode prog_9_method_3_code 100 = .ok (.putfield 15, 3) := by decide +kernel
theorem dc_S_next_103 : decode prog_9_method_3_code 103 = .ok (.goto (-33), 3) := by decide +kernel
theorem dc_S_next_106 : decode prog_9_method_3_code 106 = .ok (.iconst 1, 1) := by decide +kernel
theorem dc_S_next_107 : decode prog_9_method_3_code 107 = .ok (.ireturn, 1) := by decide +kernel
theorem dc_S_kindAt_0 : decode prog_9_method_5_code 0 = .ok (.aload_n 0, 1) := by decide +kernel
theorem dc_S_kindAt_1 : decode prog_9_method_5_code 1 = .ok (.getfield 9, 3) := by decide +kernel
theorem fl_S_9 : am_fl "WebFinder$PageScanner" 9 5 4 := ⟨"WebFinder$PageScanner", tt_S, 9, rfl, by decide, Or.inl (am_t1 140 rfl rfl)⟩
theorem dc_S_kindAt_4 : decode prog_9_method_5_code 4 = .ok (.iload_n 1, 1) := by decide +kernel
theorem dc_S_kindAt_5 : decode prog_9_method_5_code 5 = .ok (.baload, 1) := by decide +kernel
theorem dc_S_kindAt_6 : decode prog_9_method_5_code 6 = .ok (.bipush 60, 2) := by decide +kernel
theorem dc_S_kindAt_8 : decode prog_9_method_5_code 8 = .ok (.if_icmp .ne 13, 3) := by decide +kernel
theorem dc_S_kindAt_11 : decode prog_9_method_5_code 11 = .ok (.iload_n 1, 1) := by decide +kernel
theorem dc_S_kindAt_12 : decode prog_9_method_5_code 12 = .ok (.iconst 1, 1) := by decide +kernel
theorem dc_S_kindAt_13 : decode prog_9_method_5_code 13 = .ok (.iadd, 1) := by decide +kernel
theorem dc_S_kindAt_14 : decode prog_9_method_5_code 14 = .ok (.aload_n 0, 1) := by decide +kernel
theorem dc_S_kindAt_15 : decode prog_9_method_5_code 15 = .ok (.getfield 19, 3) := by decide +kernel
theorem dc_S_kindAt_18 : decode prog_9_method_5_code 18 = .ok (.if_icmp .lt 5, 3) := by decide +kernel
theorem dc_S_kindAt_21 : decode prog_9_method_5_code 21 = .ok (.iconst 1, 1) := by decide +kernel
theorem dc_S_kindAt_22 : decode prog_9_method_5_code 22 = .ok (.ireturn, 1) := by decide +kernel
theorem dc_S_kindAt_23 : decode prog_9_method_5_code 23 = .ok (.aload_n 0, 1) := by decide +kernel
theorem dc_S_kindAt_24 : decode prog_9_method_5_code 24 = .ok (.getfield 9, 3) := by decide +kernel
theorem dc_S_kindAt_27 : decode prog_9_method_5_code 27 = .ok (.iload_n 1, 1) := by decide +kernel
theorem dc_S_kindAt_28 : decode prog_9_method_5_code 28 = .ok (.iconst 1, 1) := by decide +kernel
theorem dc_S_kindAt_29 : decode prog_9_method_5_code 29 = .ok (.iadd, 1) := by decide +kernel
theorem dc_S_kindAt_30 : decode prog_9_method_5_code 30 = .ok (.baload, 1) := by decide +kernel
theorem dc_S_kindAt_31 : decode prog_9_method_5_code 31 = .ok (.istore_n 2, 1) := by decide +kernel
theorem dc_S_kindAt_32 : decode prog_9_method_5_code 32 = .ok (.iload_n 2, 1) := by decide +kernel
theorem dc_S_kindAt_33 : decode prog_9_method_5_code 33 = .ok (.invokestatic 53, 3) := by decide +kernel
theorem ln_S_53 : am_ln "WebFinder$PageScanner" 53 mt_W_isLetter.1 := Or.inr ⟨"WebFinder", (am_n5 162 rfl rfl)⟩
theorem dc_S_kindAt_36 : decode prog_9_method_5_code 36 = .ok (.ifCond .ne 33, 3) := by decide +kernel
theorem dc_S_kindAt_39 : decode prog_9_method_5_code 39 = .ok (.iload_n 2, 1) := by decide +kernel
theorem dc_S_kindAt_40 : decode prog_9_method_5_code 40 = .ok (.bipush 47, 2) := by decide +kernel
theorem dc_S_kindAt_42 : decode prog_9_method_5_code 42 = .ok (.if_icmp .ne 29, 3) := by decide +kernel
theorem dc_S_kindAt_45 : decode prog_9_method_5_code 45 = .ok (.iload_n 1, 1) := by decide +kernel
theorem dc_S_kindAt_46 : decode prog_9_method_5_code 46 = .ok (.iconst 2, 1) := by decide +kernel
theorem dc_S_kindAt_47 : decode prog_9_method_5_code 47 = .ok (.iadd, 1) := by decide +kernel
theorem dc_S_kindAt_48 : decode prog_9_method_5_code 48 = .ok (.aload_n 0, 1) := by decide +kernel
theorem dc_S_kindAt_49 : decode prog_9_method_5_code 49 = .ok (.getfield 19, 3) := by decide +kernel
theorem dc_S_kindAt_52 : decode prog_9_method_5_code 52 = .ok (.if_icmp .ge 19, 3) := by decide +kernel
theorem dc_S_kindAt_55 : decode prog_9_method_5_code 55 = .ok (.aload_n 0, 1) := by decide +kernel
theorem dc_S_kindAt_56 : decode prog_9_method_5_code 56 = .ok (.getfield 9, 3) := by decide +kernel
theorem dc_S_kindAt_59 : decode prog_9_method_5_code 59 = .ok (.iload_n 1, 1) := by decide +kernel
theorem dc_S_kindAt_60 : decode prog_9_method_5_code 60 = .ok (.iconst 2, 1) := by decide +kernel
theorem dc_S_kindAt_61 : decode prog_9_method_5_code 61 = .ok (.iadd, 1) := by decide +kernel
theorem dc_S_kindAt_62 : decode prog_9_method_5_code 62 = .ok (.baload, 1) := by decide +kernel
theorem dc_S_kindAt_63 : decode prog_9_method_5_code 63 = .ok (.invokestatic 53, 3) := by decide +kernel
theorem dc_S_kindAt_66 : decode prog_9_method_5_code 66 = .ok (.ifCond .eq 5, 3) := by decide +kernel
theorem dc_S_kindAt_69 : decode prog_9_method_5_code 69 = .ok (.iconst 2, 1) := by decide +kernel
theorem dc_S_kindAt_70 : decode prog_9_method_5_code 70 = .ok (.ireturn, 1) := by decide +kernel
theorem dc_S_kindAt_71 : decode prog_9_method_5_code 71 = .ok (.iload_n 2, 1) := by decide +kernel
theorem dc_S_kindAt_72 : decode prog_9_method_5_code 72 = .ok (.bipush 33, 2) := by decide +kernel
theorem dc_S_kindAt_74 : decode prog_9_method_5_code 74 = .ok (.if_icmp .eq 15, 3) := by decide +kernel
theorem dc_S_kindAt_77 : decode prog_9_method_5_code 77 = .ok (.iload_n 2, 1) := by decide +kernel
theorem dc_S_kindAt_78 : decode prog_9_method_5_code 78 = .ok (.bipush 63, 2) := by decide +kernel
theorem dc_S_kindAt_80 : decode prog_9_method_5_code 80 = .ok (.if_icmp .eq 9, 3) := by decide +kernel
theorem dc_S_kindAt_83 : decode prog_9_method_5_code 83 = .ok (.iload_n 2, 1) := by decide +kernel
theorem dc_S_kindAt_84 : decode prog_9_method_5_code 84 = .ok (.bipush 47, 2) := by decide +kernel
theorem dc_S_kindAt_86 : decode prog_9_method_5_code 86 = .ok (.if_icmp .ne 7, 3) := by decide +kernel
theorem dc_S_kindAt_89 : decode prog_9_method_5_code 89 = .ok (.iconst 3, 1) := by decide +kernel
theorem dc_S_kindAt_90 : decode prog_9_method_5_code 90 = .ok (.goto 4, 3) := by decide +kernel
theorem dc_S_kindAt_93 : decode prog_9_method_5_code 93 = .ok (.iconst 1, 1) := by decide +kernel
theorem dc_S_kindAt_94 : decode prog_9_method_5_code 94 = .ok (.ireturn, 1) := by decide +kernel
theorem dc_S_passTag_0 : decode prog_9_method_7_code 0 = .ok (.aload_n 0, 1) := by decide +kernel
theorem dc_S_passTag_1 : decode prog_9_method_7_code 1 = .ok (.aload_n 0, 1) := by decide +kernel
theorem dc_S_passTag_2 : decode prog_9_method_7_code 2 = .ok (.getfield 9, 3) := by decide +kernel
theorem dc_S_passTag_5 : decode prog_9_method_7_code 5 = .ok (.aload_n 0, 1) := by decide +kernel
theorem dc_S_passTag_6 : decode prog_9_method_7_code 6 = .ok (.getfield 15, 3) := by decide +kernel
theorem dc_S_passTag_9 : decode prog_9_method_7_code 9 = .ok (.iconst 1, 1) := by decide +kernel
theorem dc_S_passTag_10 : decode prog_9_method_7_code 10 = .ok (.iadd, 1) := by decide +kernel
theorem dc_S_passTag_11 : decode prog_9_method_7_code 11 = .ok (.baload, 1) := by decide +kernel
theorem dc_S_passTag_12 : decode prog_9_method_7_code 12 = .ok (.bipush 47, 2) := by decide +kernel
theorem dc_S_passTag_14 : decode prog_9_method_7_code 14 = .ok (.if_icmp .ne 7, 3) := by decide +kernel
theorem dc_S_passTag_17 : decode prog_9_method_7_code 17 = .ok (.iconst 1, 1) := by decide +kernel
theorem dc_S_passTag_18 : decode prog_9_method_7_code 18 = .ok (.goto 4, 3) := by decide +kernel
theorem dc_S_passTag_21 : decode prog_9_method_7_code 21 = .ok (.iconst 0, 1) := by decide +kernel
theorem dc_S_passTag_22 : decode prog_9_method_7_code 22 = .ok (.putfield 39, 3) := by decide +kernel
theorem fp_S_passTag_39 : am_fp mt_S_passTag.1 39 5 8 (.boolean) := ⟨"WebFinder$PageScanner", tt_S, 9, rfl, by decide, ct_S 8 (by decide), Or.inl ⟨(am_t1 144 rfl rfl), Or.inl rfl⟩⟩
theorem dc_S_passTag_25 : decode prog_9_method_7_code 25 = .ok (.aload_n 0, 1) := by decide +kernel
theorem dc_S_passTag_26 : decode prog_9_method_7_code 26 = .ok (.aload_n 0, 1) := by decide +kernel
theorem dc_S_passTag_27 : decode prog_9_method_7_code 27 = .ok (.getfield 39, 3) := by decide +kernel
theorem fl_S_39 : am_fl "WebFinder$PageScanner" 39 5 8 := ⟨"WebFinder$PageScanner", tt_S, 9, rfl, by decide, Or.inl (am_t1 144 rfl rfl)⟩
theorem dc_S_passTag_30 : decode prog_9_method_7_code 30 = .ok (.ifCond .eq 12, 3) := by decide +kernel
theorem dc_S_passTag_33 : decode prog_9_method_7_code 33 = .ok (.aload_n 0, 1) := by decide +kernel
theorem dc_S_passTag_34 : decode prog_9_method_7_code 34 = .ok (.getfield 15, 3) := by decide +kernel
theorem dc_S_passTag_37 : decode prog_9_method_7_code 37 = .ok (.iconst 2, 1) := by decide +kernel
theorem dc_S_passTag_38 : decode prog_9_method_7_code 38 = .ok (.iadd, 1) := by decide +kernel
theorem dc_S_passTag_39 : decode prog_9_method_7_code 39 = .ok (.goto 9, 3) := by decide +kernel
theorem dc_S_passTag_42 : decode prog_9_method_7_code 42 = .ok (.aload_n 0, 1) := by decide +kernel
theorem dc_S_passTag_43 : decode prog_9_method_7_code 43 = .ok (.getfield 15, 3) := by decide +kernel
theorem dc_S_passTag_46 : decode prog_9_method_7_code 46 = .ok (.iconst 1, 1) := by decide +kernel
theorem dc_S_passTag_47 : decode prog_9_method_7_code 47 = .ok (.iadd, 1) := by decide +kernel
theorem dc_S_passTag_48 : decode prog_9_method_7_code 48 = .ok (.putfield 43, 3) := by decide +kernel
theorem fp_S_passTag_43 : am_fp mt_S_passTag.1 43 5 6 (.int) := ⟨"WebFinder$PageScanner", tt_S, 9, rfl, by decide, ct_S 6 (by decide), Or.inl ⟨(am_t1 142 rfl rfl), Or.inl rfl⟩⟩
theorem dc_S_passTag_51 : decode prog_9_method_7_code 51 = .ok (.aload_n 0, 1) := by decide +kernel
theorem dc_S_passTag_52 : decode prog_9_method_7_code 52 = .ok (.aload_n 0, 1) := by decide +kernel
theorem dc_S_passTag_53 : decode prog_9_method_7_code 53 = .ok (.aload_n 0, 1) := by decide +kernel
theorem dc_S_passTag_54 : decode prog_9_method_7_code 54 = .ok (.getfield 43, 3) := by decide +kernel
theorem fl_S_43 : am_fl "WebFinder$PageScanner" 43 5 6 := ⟨"WebFinder$PageScanner", tt_S, 9, rfl, by decide, Or.inl (am_t1 142 rfl rfl)⟩
theorem dc_S_passTag_57 : decode prog_9_method_7_code 57 = .ok (.invokevirtual 72, 3) := by decide +kernel
theorem mo_S_tagNameEnd : am_mo mt_S_tagNameEnd 1 := ⟨⟨by decide +kernel, by decide +kernel⟩, by decide +kernel, ⟨by decide +kernel, by decide +kernel⟩, (am_t5 170 rfl rfl), (am_t1 6 rfl rfl), by decide +kernel⟩
theorem im_S_tagNameEnd : Cond.instanceMethod mt_S_tagNameEnd.1 ∈ am_gw := (am_t5 169 rfl rfl)
theorem se_S_tagNameEnd : Cond.selects mt_S_tagNameEnd.1.cls mt_S_tagNameEnd.1 mt_S_tagNameEnd.1 ∈ am_gw := am_in (List.mem_append_left _ (by decide +kernel)) rfl
theorem ln_S_72 : am_ln "WebFinder$PageScanner" 72 mt_S_tagNameEnd.1 := Or.inl (am_t5 167 rfl rfl)
theorem dc_S_passTag_60 : decode prog_9_method_7_code 60 = .ok (.putfield 46, 3) := by decide +kernel
theorem fp_S_passTag_46 : am_fp mt_S_passTag.1 46 5 7 (.int) := ⟨"WebFinder$PageScanner", tt_S, 9, rfl, by decide, ct_S 7 (by decide), Or.inl ⟨(am_t1 143 rfl rfl), Or.inl rfl⟩⟩
theorem dc_S_passTag_63 : decode prog_9_method_7_code 63 = .ok (.aload_n 0, 1) := by decide +kernel
theorem dc_S_passTag_64 : decode prog_9_method_7_code 64 = .ok (.aload_n 0, 1) := by decide +kernel
theorem dc_S_passTag_65 : decode prog_9_method_7_code 65 = .ok (.getfield 46, 3) := by decide +kernel
theorem fl_S_46 : am_fl "WebFinder$PageScanner" 46 5 7 := ⟨"WebFinder$PageScanner", tt_S, 9, rfl, by decide, Or.inl (am_t1 143 rfl rfl)⟩
theorem dc_S_passTag_68 : decode prog_9_method_7_code 68 = .ok (.putfield 15, 3) := by decide +kernel
theorem fp_S_passTag_15 : am_fp mt_S_passTag.1 15 5 3 (.int) := ⟨"WebFinder$PageScanner", tt_S, 9, rfl, by decide, ct_S 3 (by decide), Or.inl ⟨(am_t1 138 rfl rfl), Or.inl rfl⟩⟩
theorem dc_S_passTag_71 : decode prog_9_method_7_code 71 = .ok (.aload_n 0, 1) := by decide +kernel
theorem dc_S_passTag_72 : decode prog_9_method_7_code 72 = .ok (.getfield 19, 3) := by decide +kernel
theorem dc_S_passTag_75 : decode prog_9_method_7_code 75 = .ok (.aload_n 0, 1) := by decide +kernel
theorem dc_S_passTag_76 : decode prog_9_method_7_code 76 = .ok (.getfield 15, 3) := by decide +kernel
theorem dc_S_passTag_79 : decode prog_9_method_7_code 79 = .ok (.isub, 1) := by decide +kernel
theorem dc_S_passTag_80 : decode prog_9_method_7_code 80 = .ok (.istore_n 1, 1) := by decide +kernel
theorem dc_S_passTag_81 : decode prog_9_method_7_code 81 = .ok (.iload_n 1, 1) := by decide +kernel
theorem dc_S_passTag_82 : decode prog_9_method_7_code 82 = .ok (.ifCond .le 82, 3) := by decide +kernel
theorem dc_S_passTag_85 : decode prog_9_method_7_code 85 = .ok (.aload_n 0, 1) := by decide +kernel
theorem dc_S_passTag_86 : decode prog_9_method_7_code 86 = .ok (.getfield 15, 3) := by decide +kernel
theorem dc_S_passTag_89 : decode prog_9_method_7_code 89 = .ok (.aload_n 0, 1) := by decide +kernel
theorem dc_S_passTag_90 : decode prog_9_method_7_code 90 = .ok (.getfield 19, 3) := by decide +kernel
theorem dc_S_passTag_93 : decode prog_9_method_7_code 93 = .ok (.if_icmp .ge 71, 3) := by decide +kernel
theorem dc_S_passTag_96 : decode prog_9_method_7_code 96 = .ok (.aload_n 0, 1) := by decide +kernel
theorem dc_S_passTag_97 : decode prog_9_method_7_code 97 = .ok (.getfield 9, 3) := by decide +kernel
theorem dc_S_passTag_100 : decode prog_9_method_7_code 100 = .ok (.aload_n 0, 1) := by decide +kernel
theorem dc_S_passTag_101 : decode prog_9_method_7_code 101 = .ok (.getfield 15, 3) := by decide +kernel
theorem dc_S_passTag_104 : decode prog_9_method_7_code 104 = .ok (.baload, 1) := by decide +kernel
theorem dc_S_passTag_105 : decode prog_9_method_7_code 105 = .ok (.istore_n 2, 1) := by decide +kernel
theorem dc_S_passTag_106 : decode prog_9_method_7_code 106 = .ok (.iload_n 2, 1) := by decide +kernel
theorem dc_S_passTag_107 : decode prog_9_method_7_code 107 = .ok (.bipush 62, 2) := by decide +kernel
theorem dc_S_passTag_109 : decode prog_9_method_7_code 109 = .ok (.if_icmp .ne 19, 3) := by decide +kernel
theorem dc_S_passTag_112 : decode prog_9_method_7_code 112 = .ok (.aload_n 0, 1) := by decide +kernel
theorem dc_S_passTag_113 : decode prog_9_method_7_code 113 = .ok (.aload_n 0, 1) := by decide +kernel
theorem dc_S_passTag_114 : decode prog_9_method_7_code 114 = .ok (.aload_n 0, 1) := by decide +kernel
theorem dc_S_passTag_115 : decode prog_9_method_7_code 115 = .ok (.getfield 15, 3) := by decide +kernel
theorem dc_S_passTag_118 : decode prog_9_method_7_code 118 = .ok (.iconst 1, 1) := by decide +kernel
theorem dc_S_passTag_119 : decode prog_9_method_7_code 119 = .ok (.iadd, 1) := by decide +kernel
theorem dc_S_passTag_120 : decode prog_9_method_7_code 120 = .ok (.invokevirtual 75, 3) := by decide +kernel
theorem mo_S_rawTo : am_mo mt_S_rawTo 1 := ⟨⟨by decide +kernel, by decide +kernel⟩, by decide +kernel, ⟨by decide +kernel, by decide +kernel⟩, (am_t5 175 rfl rfl), (am_t1 6 rfl rfl), by decide +kernel⟩
theorem im_S_rawTo : Cond.instanceMethod mt_S_rawTo.1 ∈ am_gw := (am_t5 174 rfl rfl)
theorem se_S_rawTo : Cond.selects mt_S_rawTo.1.cls mt_S_rawTo.1 mt_S_rawTo.1 ∈ am_gw := am_in (List.mem_append_left _ (by decide +kernel)) rfl
theorem ln_S_75 : am_ln "WebFinder$PageScanner" 75 mt_S_rawTo.1 := Or.inl (am_t5 172 rfl rfl)
theorem dc_S_passTag_123 : decode prog_9_method_7_code 123 = .ok (.putfield 15, 3) := by decide +kernel
theorem dc_S_passTag_126 : decode prog_9_method_7_code 126 = .ok (.iconst 2, 1) := by decide +kernel
theorem dc_S_passTag_127 : decode prog_9_method_7_code 127 = .ok (.ireturn, 1) := by decide +kernel
theorem dc_S_passTag_128 : decode prog_9_method_7_code 128 = .ok (.iload_n 2, 1) := by decide +kernel
theorem dc_S_passTag_129 : decode prog_9_method_7_code 129 = .ok (.invokestatic 78, 3) := by decide +kernel
theorem ln_S_78 : am_ln "WebFinder$PageScanner" 78 mt_W_isBlank.1 := Or.inr ⟨"WebFinder", (am_n5 171 rfl rfl)⟩
theorem dc_S_passTag_132 : decode prog_9_method_7_code 132 = .ok (.ifCond .ne 9, 3) := by decide +kernel
theorem dc_S_passTag_135 : decode prog_9_method_7_code 135 = .ok (.iload_n 2, 1) := by decide +kernel
theorem dc_S_passTag_136 : decode prog_9_method_7_code 136 = .ok (.bipush 47, 2) := by decide +kernel
theorem dc_S_passTag_138 : decode prog_9_method_7_code 138 = .ok (.if_icmp .ne 16, 3) := by decide +kernel
theorem dc_S_passTag_141 : decode prog_9_method_7_code 141 = .ok (.aload_n 0, 1) := by decide +kernel
theorem dc_S_passTag_142 : decode prog_9_method_7_code 142 = .ok (.dup, 1) := by decide +kernel
theorem dc_S_passTag_143 : decode prog_9_method_7_code 143 = .ok (.getfield 15, 3) := by decide +kernel
theorem dc_S_passTag_146 : decode prog_9_method_7_code 146 = .ok (.iconst 1, 1) := by decide +kernel
theorem dc_S_passTag_147 : decode prog_9_method_7_code 147 = .ok (.iadd, 1) := by decide +kernel
theorem dc_S_passTag_148 : decode prog_9_method_7_code 148 = .ok (.putfield 15, 3) := by decide +kernel
theorem dc_S_passTag_151 : decode prog_9_method_7_code 151 = .ok (.goto 7, 3) := by decide +kernel
theorem dc_S_passTag_154 : decode prog_9_method_7_code 154 = .ok (.aload_n 0, 1) := by decide +kernel
theorem dc_S_passTag_155 : decode prog_9_method_7_code 155 = .ok (.invokevirtual 81, 3) := by decide +kernel
theorem mo_S_passAttribute : am_mo mt_S_passAttribute 0 := ⟨⟨by decide +kernel, by decide +kernel⟩, by decide +kernel, ⟨by decide +kernel, by decide +kernel⟩, (am_t5 185 rfl rfl), (am_t1 6 rfl rfl), by decide +kernel⟩
theorem im_S_passAttribute : Cond.instanceMethod mt_S_passAttribute.1 ∈ am_gw := (am_t5 184 rfl rfl)
theorem se_S_passAttribute : Cond.selects mt_S_passAttribute.1.cls mt_S_passAttribute.1 mt_S_passAttribute.1 ∈ am_gw := am_in (List.mem_append_left _ (by decide +kernel)) rfl
theorem ln_S_81 : am_ln "WebFinder$PageScanner" 81 mt_S_passAttribute.1 := Or.inl (am_t5 182 rfl rfl)
theorem dc_S_passTag_158 : decode prog_9_method_7_code 158 = .ok (.iinc 1 (-1), 3) := by decide +kernel
theorem dc_S_passTag_161 : decode prog_9_method_7_code 161 = .ok (.goto (-80), 3) := by decide +kernel
theorem dc_S_passTag_164 : decode prog_9_method_7_code 164 = .ok (.aload_n 0, 1) := by decide +kernel
theorem dc_S_passTag_165 : decode prog_9_method_7_code 165 = .ok (.iconst (-1), 1) := by decide +kernel
theorem dc_S_passTag_166 : decode prog_9_method_7_code 166 = .ok (.putfield 25, 3) := by decide +kernel
theorem fp_S_passTag_25 : am_fp mt_S_passTag.1 25 5 1 (.int) := ⟨"WebFinder$PageScanner", tt_S, 9, rfl, by decide, ct_S 1 (by decide), Or.inl ⟨(am_t1 135 rfl rfl), Or.inl rfl⟩⟩
theorem dc_S_passTag_169 : decode prog_9_method_7_code 169 = .ok (.iconst 3, 1) := by decide +kernel
theorem dc_S_passTag_170 : decode prog_9_method_7_code 170 = .ok (.ireturn, 1) := by decide +kernel
theorem dc_S_tagNameEnd_0 : decode prog_9_method_8_code 0 = .ok (.iload_n 1, 1) := by decide +kernel
theorem dc_S_tagNameEnd_1 : decode prog_9_method_8_code 1 = .ok (.istore_n 2, 1) := by decide +kernel
theorem dc_S_tagNameEnd_2 : decode prog_9_method_8_code 2 = .ok (.iload_n 2, 1) := by decide +kernel
theorem dc_S_tagNameEnd_3 : decode prog_9_method_8_code 3 = .ok (.aload_n 0, 1) := by decide +kernel
theorem dc_S_tagNameEnd_4 : decode prog_9_method_8_code 4 = .ok (.getfield 19, 3) := by decide +kernel
theorem dc_S_tagNameEnd_7 : decode prog_9_method_8_code 7 = .ok (.if_icmp .ge 43, 3) := by decide +kernel
theorem dc_S_tagNameEnd_10 : decode prog_9_method_8_code 10 = .ok (.aload_n 0, 1) := by decide +kernel
theorem dc_S_tagNameEnd_11 : decode prog_9_method_8_code 11 = .ok (.getfield 9, 3) := by decide +kernel
theorem dc_S_tagNameEnd_14 : decode prog_9_method_8_code 14 = .ok (.iload_n 2, 1) := by decide +kernel
theorem dc_S_tagNameEnd_15 : decode prog_9_method_8_code 15 = .ok (.baload, 1) := by decide +kernel
theorem dc_S_tagNameEnd_16 : decode prog_9_method_8_code 16 = .ok (.invokestatic 78, 3) := by decide +kernel
theorem dc_S_tagNameEnd_19 : decode prog_9_method_8_code 19 = .ok (.ifCond .ne 31, 3) := by decide +kernel
theorem dc_S_tagNameEnd_22 : decode prog_9_method_8_code 22 = .ok (.aload_n 0, 1) := by decide +kernel
theorem dc_S_tagNameEnd_23 : decode prog_9_method_8_code 23 = .ok (.getfield 9, 3) := by decide +kernel
theorem dc_S_tagNameEnd_26 : decode prog_9_method_8_code 26 = .ok (.iload_n 2, 1) := by decide +kernel
theorem dc_S_tagNameEnd_27 : decode prog_9_method_8_code 27 = .ok (.baload, 1) := by decide +kernel
theorem dc_S_tagNameEnd_28 : decode prog_9_method_8_code 28 = .ok (.bipush 47, 2) := by decide +kernel
theorem dc_S_tagNameEnd_30 : decode prog_9_method_8_code 30 = .ok (.if_icmp .eq 20, 3) := by decide +kernel
theorem dc_S_tagNameEnd_33 : decode prog_9_method_8_code 33 = .ok (.aload_n 0, 1) := by decide +kernel
theorem dc_S_tagNameEnd_34 : decode prog_9_method_8_code 34 = .ok (.getfield 9, 3) := by decide +kernel
theorem dc_S_tagNameEnd_37 : decode prog_9_method_8_code 37 = .ok (.iload_n 2, 1) := by decide +kernel
theorem dc_S_tagNameEnd_38 : decode prog_9_method_8_code 38 = .ok (.baload, 1) := by decide +kernel
theorem dc_S_tagNameEnd_39 : decode prog_9_method_8_code 39 = .ok (.bipush 62, 2) := by decide +kernel
theorem dc_S_tagNameEnd_41 : decode prog_9_method_8_code 41 = .ok (.if_icmp .eq 9, 3) := by decide +kernel
theorem dc_S_tagNameEnd_44 : decode prog_9_method_8_code 44 = .ok (.iinc 2 1, 3) := by decide +kernel
theorem dc_S_tagNameEnd_47 : decode prog_9_method_8_code 47 = .ok (.goto (-45), 3) := by decide +kernel
theorem dc_S_tagNameEnd_50 : decode prog_9_method_8_code 50 = .ok (.iload_n 2, 1) := by decide +kernel
theorem dc_S_tagNameEnd_51 : decode prog_9_method_8_code 51 = .ok (.ireturn, 1) := by decide +kernel
theorem dc_S_rawTo_0 : decode prog_9_method_12_code 0 = .ok (.aload_n 0, 1) := by decide +kernel
theorem dc_S_rawTo_1 : decode prog_9_method_12_code 1 = .ok (.getfield 9, 3) := by decide +kernel
theorem dc_S_rawTo_4 : decode prog_9_method_12_code 4 = .ok (.aload_n 0, 1) := by decide +kernel
theorem dc_S_rawTo_5 : decode prog_9_method_12_code 5 = .ok (.getfield 43, 3) := by decide +kernel
theorem dc_S_rawTo_8 : decode prog_9_method_12_code 8 = .ok (.aload_n 0, 1) := by decide +kernel
theorem dc_S_rawTo_9 : decode prog_9_method_12_code 9 = .ok (.getfield 46, 3) := by decide +kernel
theorem dc_S_rawTo_12 : decode prog_9_method_12_code 12 = .ok (.ldc 99, 2) := by decide +kernel
theorem dc_S_rawTo_14 : decode prog_9_method_12_code 14 = .ok (.invokestatic 49, 3) := by decide +kernel
theorem ln_S_49 : am_ln "WebFinder$PageScanner" 49 mt_W_isLower.1 := Or.inr ⟨"WebFinder", (am_n5 177 rfl rfl)⟩
theorem dc_S_rawTo_17 : decode prog_9_method_12_code 17 = .ok (.ifCond .ne 23, 3) := by decide +kernel
theorem dc_S_rawTo_20 : decode prog_9_method_12_code 20 = .ok (.aload_n 0, 1) := by decide +kernel
theorem dc_S_rawTo_21 : decode prog_9_method_12_code 21 = .ok (.getfield 9, 3) := by decide +kernel
theorem dc_S_rawTo_24 : decode prog_9_method_12_code 24 = .ok (.aload_n 0, 1) := by decide +kernel
theorem dc_S_rawTo_25 : decode prog_9_method_12_code 25 = .ok (.getfield 43, 3) := by decide +kernel
theorem dc_S_rawTo_28 : decode prog_9_method_12_code 28 = .ok (.aload_n 0, 1) := by decide +kernel
theorem dc_S_rawTo_29 : decode prog_9_method_12_code 29 = .ok (.getfield 46, 3) := by decide +kernel
theorem dc_S_rawTo_32 : decode prog_9_method_12_code 32 = .ok (.ldc 101, 2) := by decide +kernel
theorem dc_S_rawTo_34 : decode prog_9_method_12_code 34 = .ok (.invokestatic 49, 3) := by decide +kernel
theorem dc_S_rawTo_37 : decode prog_9_method_12_code 37 = .ok (.ifCond .eq 7, 3) := by decide +kernel
theorem dc_S_rawTo_40 : decode prog_9_method_12_code 40 = .ok (.iconst 1, 1) := by decide +kernel
theorem dc_S_rawTo_41 : decode prog_9_method_12_code 41 = .ok (.goto 4, 3) := by decide +kernel
theorem dc_S_rawTo_44 : decode prog_9_method_12_code 44 = .ok (.iconst 0, 1) := by decide +kernel
theorem dc_S_rawTo_45 : decode prog_9_method_12_code 45 = .ok (.istore_n 2, 1) := by decide +kernel
theorem dc_S_rawTo_46 : decode prog_9_method_12_code 46 = .ok (.aload_n 0, 1) := by decide +kernel
theorem dc_S_rawTo_47 : decode prog_9_method_12_code 47 = .ok (.getfield 39, 3) := by decide +kernel
theorem dc_S_rawTo_50 : decode prog_9_method_12_code 50 = .ok (.ifCond .ne 7, 3) := by decide +kernel
theorem dc_S_rawTo_53 : decode prog_9_method_12_code 53 = .ok (.iload_n 2, 1) := by decide +kernel
theorem dc_S_rawTo_54 : decode prog_9_method_12_code 54 = .ok (.ifCond .ne 5, 3) := by decide +kernel
theorem dc_S_rawTo_57 : decode prog_9_method_12_code 57 = .ok (.iload_n 1, 1) := by decide +kernel
theorem dc_S_rawTo_58 : decode prog_9_method_12_code 58 = .ok (.ireturn, 1) := by decide +kernel
theorem dc_S_rawTo_59 : decode prog_9_method_12_code 59 = .ok (.aload_n 0, 1) := by decide +kernel
theorem dc_S_rawTo_60 : decode prog_9_method_12_code 60 = .ok (.getfield 46, 3) := by decide +kernel
theorem dc_S_rawTo_63 : decode prog_9_method_12_code 63 = .ok (.aload_n 0, 1) := by decide +kernel
theorem dc_S_rawTo_64 : decode prog_9_method_12_code 64 = .ok (.getfield 43, 3) := by decide +kernel
theorem dc_S_rawTo_67 : decode prog_9_method_12_code 67 = .ok (.isub, 1) := by decide +kernel
theorem dc_S_rawTo_68 : decode prog_9_method_12_code 68 = .ok (.bipush 6, 2) := by decide +kernel
theorem dc_S_rawTo_70 : decode prog_9_method_12_code 70 = .ok (.if_icmp .ne 8, 3) := by decide +kernel
theorem dc_S_rawTo_73 : decode prog_9_method_12_code 73 = .ok (.ldc 103, 2) := by decide +kernel
theorem dc_S_rawTo_75 : decode prog_9_method_12_code 75 = .ok (.goto 5, 3) := by decide +kernel
theorem dc_S_rawTo_78 : decode prog_9_method_12_code 78 = .ok (.ldc 105, 2) := by decide +kernel
theorem dc_S_rawTo_80 : decode prog_9_method_12_code 80 = .ok (.astore_n 3, 1) := by decide +kernel
theorem dc_S_rawTo_81 : decode prog_9_method_12_code 81 = .ok (.iload_n 1, 1) := by decide +kernel
theorem dc_S_rawTo_82 : decode prog_9_method_12_code 82 = .ok (.istore 4, 2) := by decide +kernel
theorem dc_S_rawTo_84 : decode prog_9_method_12_code 84 = .ok (.iload 4, 2) := by decide +kernel
theorem dc_S_rawTo_86 : decode prog_9_method_12_code 86 = .ok (.aload_n 3, 1) := by decide +kernel
theorem dc_S_rawTo_87 : decode prog_9_method_12_code 87 = .ok (.invokevirtual 107, 3) := by decide +kernel
theorem ln_S_107 : am_ln "WebFinder$PageScanner" 107 mt_JString_length.1 := Or.inl (am_t5 181 rfl rfl)
theorem dc_S_rawTo_90 : decode prog_9_method_12_code 90 = .ok (.iadd, 1) := by decide +kernel
theorem dc_S_rawTo_91 : decode prog_9_method_12_code 91 = .ok (.aload_n 0, 1) := by decide +kernel
theorem dc_S_rawTo_92 : decode prog_9_method_12_code 92 = .ok (.getfield 19, 3) := by decide +kernel
theorem dc_S_rawTo_95 : decode prog_9_method_12_code 95 = .ok (.if_icmp .ge 68, 3) := by decide +kernel
theorem dc_S_rawTo_98 : decode prog_9_method_12_code 98 = .ok (.aload_n 0, 1) := by decide +kernel
theorem dc_S_rawTo_99 : decode prog_9_method_12_code 99 = .ok (.getfield 9, 3) := by decide +kernel
theorem dc_S_rawTo_102 : decode prog_9_method_12_code 102 = .ok (.iload 4, 2) := by decide +kernel
theorem dc_S_rawTo_104 : decode prog_9_method_12_code 104 = .ok (.aload_n 3, 1) := by decide +kernel
theorem dc_S_rawTo_105 : decode prog_9_method_12_code 105 = .ok (.invokevirtual 107, 3) := by decide +kernel
theorem dc_S_rawTo_108 : decode prog_9_method_12_code 108 = .ok (.iadd, 1) := by decide +kernel
theorem dc_S_rawTo_109 : decode prog_9_method_12_code 109 = .ok (.baload, 1) := by decide +kernel
theorem dc_S_rawTo_110 : decode prog_9_method_12_code 110 = .ok (.istore 5, 2) := by decide +kernel
theorem dc_S_rawTo_112 : decode prog_9_method_12_code 112 = .ok (.iload 5, 2) := by decide +kernel
theorem dc_S_rawTo_114 : decode prog_9_method_12_code 114 = .ok (.invokestatic 78, 3) := by decide +kernel
theorem dc_S_rawTo_117 : decode prog_9_method_12_code 117 = .ok (.ifCond .ne 17, 3) := by decide +kernel
theorem dc_S_rawTo_120 : decode prog_9_method_12_code 120 = .ok (.iload 5, 2) := by decide +kernel
theorem dc_S_rawTo_122 : decode prog_9_method_12_code 122 = .ok (.bipush 47, 2) := by decide +kernel
theorem dc_S_rawTo_124 : decode prog_9_method_12_code 124 = .ok (.if_icmp .eq 10, 3) := by decide +kernel
theorem dc_S_rawTo_127 : decode prog_9_method_12_code 127 = .ok (.iload 5, 2) := by decide +kernel
theorem dc_S_rawTo_129 : decode prog_9_method_12_code 129 = .ok (.bipush 62, 2) := by decide +kernel
theorem dc_S_rawTo_131 : decode prog_9_method_12_code 131 = .ok (.if_icmp .ne 26, 3) := by decide +kernel
theorem dc_S_rawTo_134 : decode prog_9_method_12_code 134 = .ok (.aload_n 0, 1) := by decide +kernel
theorem dc_S_rawTo_135 : decode prog_9_method_12_code 135 = .ok (.getfield 9, 3) := by decide +kernel
theorem dc_S_rawTo_138 : decode prog_9_method_12_code 138 = .ok (.iload 4, 2) := by decide +kernel
theorem dc_S_rawTo_140 : decode prog_9_method_12_code 140 = .ok (.iload 4, 2) := by decide +kernel
theorem dc_S_rawTo_142 : decode prog_9_method_12_code 142 = .ok (.aload_n 3, 1) := by decide +kernel
theorem dc_S_rawTo_143 : decode prog_9_method_12_code 143 = .ok (.invokevirtual 107, 3) := by decide +kernel
theorem dc_S_rawTo_146 : decode prog_9_method_12_code 146 = .ok (.iadd, 1) := by decide +kernel
theorem dc_S_rawTo_147 : decode prog_9_method_12_code 147 = .ok (.aload_n 3, 1) := by decide +kernel
theorem dc_S_rawTo_148 : decode prog_9_method_12_code 148 = .ok (.invokestatic 49, 3) := by decide +kernel
theorem dc_S_rawTo_151 : decode prog_9_method_12_code 151 = .ok (.ifCond .eq 6, 3) := by decide +kernel
theorem dc_S_rawTo_154 : decode prog_9_method_12_code 154 = .ok (.iload 4, 2) := by decide +kernel
theorem dc_S_rawTo_156 : decode prog_9_method_12_code 156 = .ok (.ireturn, 1) := by decide +kernel
theorem dc_S_rawTo_157 : decode prog_9_method_12_code 157 = .ok (.iinc 4 1, 3) := by decide +kernel
theorem dc_S_rawTo_160 : decode prog_9_method_12_code 160 = .ok (.goto (-76), 3) := by decide +kernel
theorem dc_S_rawTo_163 : decode prog_9_method_12_code 163 = .ok (.aload_n 0, 1) := by decide +kernel
theorem dc_S_rawTo_164 : decode prog_9_method_12_code 164 = .ok (.getfield 19, 3) := by decide +kernel
theorem dc_S_rawTo_167 : decode prog_9_method_12_code 167 = .ok (.ireturn, 1) := by decide +kernel
theorem dc_S_passAttribute_0 : decode prog_9_method_10_code 0 = .ok (.aload_n 0, 1) := by decide +kernel
theorem dc_S_passAttribute_1 : decode prog_9_method_10_code 1 = .ok (.getfield 15, 3) := by decide +kernel
theorem dc_S_passAttribute_4 : decode prog_9_method_10_code 4 = .ok (.istore_n 1, 1) := by decide +kernel
theorem dc_S_passAttribute_5 : decode prog_9_method_10_code 5 = .ok (.aload_n 0, 1) := by decide +kernel
theorem dc_S_passAttribute_6 : decode prog_9_method_10_code 6 = .ok (.aload_n 0, 1) := by decide +kernel
theorem dc_S_passAttribute_7 : decode prog_9_method_10_code 7 = .ok (.getfield 15, 3) := by decide +kernel
theorem dc_S_passAttribute_10 : decode prog_9_method_10_code 10 = .ok (.iconst 1, 1) := by decide +kernel
theorem dc_S_passAttribute_11 : decode prog_9_method_10_code 11 = .ok (.iadd, 1) := by decide +kernel
theorem dc_S_passAttribute_12 : decode prog_9_method_10_code 12 = .ok (.invokevirtual 84, 3) := by decide +kernel
theorem mo_S_attributeNameEnd : am_mo mt_S_attributeNameEnd 1 := ⟨⟨by decide +kernel, by decide +kernel⟩, by decide +kernel, ⟨by decide +kernel, by decide +kernel⟩, (am_t5 189 rfl rfl), (am_t1 6 rfl rfl), by decide +kernel⟩
theorem im_S_attributeNameEnd : Cond.instanceMethod mt_S_attributeNameEnd.1 ∈ am_gw := (am_t5 188 rfl rfl)
theorem se_S_attributeNameEnd : Cond.selects mt_S_attributeNameEnd.1.cls mt_S_attributeNameEnd.1 mt_S_attributeNameEnd.1 ∈ am_gw := am_in (List.mem_append_left _ (by decide +kernel)) rfl
theorem ln_S_84 : am_ln "WebFinder$PageScanner" 84 mt_S_attributeNameEnd.1 := Or.inl (am_t5 186 rfl rfl)
theorem dc_S_passAttribute_15 : decode prog_9_method_10_code 15 = .ok (.istore_n 2, 1) := by decide +kernel
theorem dc_S_passAttribute_16 : decode prog_9_method_10_code 16 = .ok (.iload_n 2, 1) := by decide +kernel
theorem dc_S_passAttribute_17 : decode prog_9_method_10_code 17 = .ok (.istore_n 3, 1) := by decide +kernel
theorem dc_S_passAttribute_18 : decode prog_9_method_10_code 18 = .ok (.iload_n 2, 1) := by decide +kernel
theorem dc_S_passAttribute_19 : decode prog_9_method_10_code 19 = .ok (.istore 4, 2) := by decide +kernel
theorem dc_S_passAttribute_21 : decode prog_9_method_10_code 21 = .ok (.aload_n 0, 1) := by decide +kernel
theorem dc_S_passAttribute_22 : decode prog_9_method_10_code 22 = .ok (.iload_n 2, 1) := by decide +kernel
theorem dc_S_passAttribute_23 : decode prog_9_method_10_code 23 = .ok (.putfield 15, 3) := by decide +kernel
theorem fp_S_passAttribute_15 : am_fp mt_S_passAttribute.1 15 5 3 (.int) := ⟨"WebFinder$PageScanner", tt_S, 9, rfl, by decide, ct_S 3 (by decide), Or.inl ⟨(am_t1 138 rfl rfl), Or.inl rfl⟩⟩
theorem dc_S_passAttribute_26 : decode prog_9_method_10_code 26 = .ok (.aload_n 0, 1) := by decide +kernel
theorem dc_S_passAttribute_27 : decode prog_9_method_10_code 27 = .ok (.getfield 9, 3) := by decide +kernel
theorem dc_S_passAttribute_30 : decode prog_9_method_10_code 30 = .ok (.iload_n 2, 1) := by decide +kernel
theorem dc_S_passAttribute_31 : decode prog_9_method_10_code 31 = .ok (.aload_n 0, 1) := by decide +kernel
theorem dc_S_passAttribute_32 : decode prog_9_method_10_code 32 = .ok (.getfield 19, 3) := by decide +kernel
theorem dc_S_passAttribute_35 : decode prog_9_method_10_code 35 = .ok (.invokestatic 87, 3) := by decide +kernel
theorem ln_S_87 : am_ln "WebFinder$PageScanner" 87 mt_W_trimmedFrom.1 := Or.inr ⟨"WebFinder", (am_n5 190 rfl rfl)⟩
theorem dc_S_passAttribute_38 : decode prog_9_method_10_code 38 = .ok (.istore 5, 2) := by decide +kernel
theorem dc_S_passAttribute_40 : decode prog_9_method_10_code 40 = .ok (.iload 5, 2) := by decide +kernel
theorem dc_S_passAttribute_42 : decode prog_9_method_10_code 42 = .ok (.aload_n 0, 1) := by decide +kernel
theorem dc_S_passAttribute_43 : decode prog_9_method_10_code 43 = .ok (.getfield 19, 3) := by decide +kernel
theorem dc_S_passAttribute_46 : decode prog_9_method_10_code 46 = .ok (.if_icmp .ge 141, 3) := by decide +kernel
theorem dc_S_passAttribute_49 : decode prog_9_method_10_code 49 = .ok (.aload_n 0, 1) := by decide +kernel
theorem dc_S_passAttribute_50 : decode prog_9_method_10_code 50 = .ok (.getfield 9, 3) := by decide +kernel
theorem dc_S_passAttribute_53 : decode prog_9_method_10_code 53 = .ok (.iload 5, 2) := by decide +kernel
theorem dc_S_passAttribute_55 : decode prog_9_method_10_code 55 = .ok (.baload, 1) := by decide +kernel
theorem dc_S_passAttribute_56 : decode prog_9_method_10_code 56 = .ok (.bipush 61, 2) := by decide +kernel
theorem dc_S_passAttribute_58 : decode prog_9_method_10_code 58 = .ok (.if_icmp .ne 129, 3) := by decide +kernel
theorem dc_S_passAttribute_61 : decode prog_9_method_10_code 61 = .ok (.aload_n 0, 1) := by decide +kernel
theorem dc_S_passAttribute_62 : decode prog_9_method_10_code 62 = .ok (.getfield 9, 3) := by decide +kernel
theorem dc_S_passAttribute_65 : decode prog_9_method_10_code 65 = .ok (.iload 5, 2) := by decide +kernel
theorem dc_S_passAttribute_67 : decode prog_9_method_10_code 67 = .ok (.iconst 1, 1) := by decide +kernel
theorem dc_S_passAttribute_68 : decode prog_9_method_10_code 68 = .ok (.iadd, 1) := by decide +kernel
theorem dc_S_passAttribute_69 : decode prog_9_method_10_code 69 = .ok (.aload_n 0, 1) := by decide +kernel
theorem dc_S_passAttribute_70 : decode prog_9_method_10_code 70 = .ok (.getfield 19, 3) := by decide +kernel
theorem dc_S_passAttribute_73 : decode prog_9_method_10_code 73 = .ok (.invokestatic 87, 3) := by decide +kernel
theorem dc_S_passAttribute_76 : decode prog_9_method_10_code 76 = .ok (.istore_n 3, 1) := by decide +kernel
theorem dc_S_passAttribute_77 : decode prog_9_method_10_code 77 = .ok (.iload_n 3, 1) := by decide +kernel
theorem dc_S_passAttribute_78 : decode prog_9_method_10_code 78 = .ok (.aload_n 0, 1) := by decide +kernel
theorem dc_S_passAttribute_79 : decode prog_9_method_10_code 79 = .ok (.getfield 19, 3) := by decide +kernel
theorem dc_S_passAttribute_82 : decode prog_9_method_10_code 82 = .ok (.if_icmp .ge 29, 3) := by decide +kernel
theorem dc_S_passAttribute_85 : decode prog_9_method_10_code 85 = .ok (.aload_n 0, 1) := by decide +kernel
theorem dc_S_passAttribute_86 : decode prog_9_method_10_code 86 = .ok (.getfield 9, 3) := by decide +kernel
theorem dc_S_passAttribute_89 : decode prog_9_method_10_code 89 = .ok (.iload_n 3, 1) := by decide +kernel
theorem dc_S_passAttribute_90 : decode prog_9_method_10_code 90 = .ok (.baload, 1) := by decide +kernel
theorem dc_S_passAttribute_91 : decode prog_9_method_10_code 91 = .ok (.bipush 34, 2) := by decide +kernel
theorem dc_S_passAttribute_93 : decode prog_9_method_10_code 93 = .ok (.if_icmp .eq 14, 3) := by decide +kernel
theorem dc_S_passAttribute_96 : decode prog_9_method_10_code 96 = .ok (.aload_n 0, 1) := by decide +kernel
theorem dc_S_passAttribute_97 : decode prog_9_method_10_code 97 = .ok (.getfield 9, 3) := by decide +kernel
theorem dc_S_passAttribute_100 : decode prog_9_method_10_code 100 = .ok (.iload_n 3, 1) := by decide +kernel
theorem dc_S_passAttribute_101 : decode prog_9_method_10_code 101 = .ok (.baload, 1) := by decide +kernel
theorem dc_S_passAttribute_102 : decode prog_9_method_10_code 102 = .ok (.bipush 39, 2) := by decide +kernel
theorem dc_S_passAttribute_104 : decode prog_9_method_10_code 104 = .ok (.if_icmp .ne 7, 3) := by decide +kernel
theorem dc_S_passAttribute_107 : decode prog_9_method_10_code 107 = .ok (.iconst 1, 1) := by decide +kernel
theorem dc_S_passAttribute_108 : decode prog_9_method_10_code 108 = .ok (.goto 4, 3) := by decide +kernel
theorem dc_S_passAttribute_111 : decode prog_9_method_10_code 111 = .ok (.iconst 0, 1) := by decide +kernel
theorem dc_S_passAttribute_112 : decode prog_9_method_10_code 112 = .ok (.istore 6, 2) := by decide +kernel
theorem dc_S_passAttribute_114 : decode prog_9_method_10_code 114 = .ok (.iload 6, 2) := by decide +kernel
theorem dc_S_passAttribute_116 : decode prog_9_method_10_code 116 = .ok (.ifCond .eq 9, 3) := by decide +kernel
theorem dc_S_passAttribute_119 : decode prog_9_method_10_code 119 = .ok (.iload_n 3, 1) := by decide +kernel
theorem dc_S_passAttribute_120 : decode prog_9_method_10_code 120 = .ok (.iconst 1, 1) := by decide +kernel
theorem dc_S_passAttribute_121 : decode prog_9_method_10_code 121 = .ok (.iadd, 1) := by decide +kernel
theorem dc_S_passAttribute_122 : decode prog_9_method_10_code 122 = .ok (.goto 4, 3) := by decide +kernel
theorem dc_S_passAttribute_125 : decode prog_9_method_10_code 125 = .ok (.iload_n 3, 1) := by decide +kernel
theorem dc_S_passAttribute_126 : decode prog_9_method_10_code 126 = .ok (.istore_n 3, 1) := by decide +kernel
theorem dc_S_passAttribute_127 : decode prog_9_method_10_code 127 = .ok (.iload 6, 2) := by decide +kernel
theorem dc_S_passAttribute_129 : decode prog_9_method_10_code 129 = .ok (.ifCond .eq 26, 3) := by decide +kernel
theorem dc_S_passAttribute_132 : decode prog_9_method_10_code 132 = .ok (.aload_n 0, 1) := by decide +kernel
theorem dc_S_passAttribute_133 : decode prog_9_method_10_code 133 = .ok (.getfield 9, 3) := by decide +kernel
theorem dc_S_passAttribute_136 : decode prog_9_method_10_code 136 = .ok (.aload_n 0, 1) := by decide +kernel
theorem dc_S_passAttribute_137 : decode prog_9_method_10_code 137 = .ok (.getfield 9, 3) := by decide +kernel
theorem dc_S_passAttribute_140 : decode prog_9_method_10_code 140 = .ok (.iload_n 3, 1) := by decide +kernel
theorem dc_S_passAttribute_141 : decode prog_9_method_10_code 141 = .ok (.iconst 1, 1) := by decide +kernel
theorem dc_S_passAttribute_142 : decode prog_9_method_10_code 142 = .ok (.isub, 1) := by decide +kernel
theorem dc_S_passAttribute_143 : decode prog_9_method_10_code 143 = .ok (.baload, 1) := by decide +kernel
theorem dc_S_passAttribute_144 : decode prog_9_method_10_code 144 = .ok (.iload_n 3, 1) := by decide +kernel
theorem dc_S_passAttribute_145 : decode prog_9_method_10_code 145 = .ok (.aload_n 0, 1) := by decide +kernel
theorem dc_S_passAttribute_146 : decode prog_9_method_10_code 146 = .ok (.getfield 19, 3) := by decide +kernel
theorem dc_S_passAttribute_149 : decode prog_9_method_10_code 149 = .ok (.invokestatic 62, 3) := by decide +kernel
theorem ln_S_62 : am_ln "WebFinder$PageScanner" 62 mt_W_indexOf.1 := Or.inr ⟨"WebFinder", (am_n5 191 rfl rfl)⟩
theorem dc_S_passAttribute_152 : decode prog_9_method_10_code 152 = .ok (.goto 8, 3) := by decide +kernel
theorem dc_S_passAttribute_155 : decode prog_9_method_10_code 155 = .ok (.aload_n 0, 1) := by decide +kernel
theorem dc_S_passAttribute_156 : decode prog_9_method_10_code 156 = .ok (.iload_n 3, 1) := by decide +kernel
theorem dc_S_passAttribute_157 : decode prog_9_method_10_code 157 = .ok (.invokevirtual 91, 3) := by decide +kernel
theorem mo_S_bareValueTo : am_mo mt_S_bareValueTo 1 := ⟨⟨by decide +kernel, by decide +kernel⟩, by decide +kernel, ⟨by decide +kernel, by decide +kernel⟩, (am_t5 195 rfl rfl), (am_t1 6 rfl rfl), by decide +kernel⟩
theorem im_S_bareValueTo : Cond.instanceMethod mt_S_bareValueTo.1 ∈ am_gw := (am_t5 194 rfl rfl)
theorem se_S_bareValueTo : Cond.selects mt_S_bareValueTo.1.cls mt_S_bareValueTo.1 mt_S_bareValueTo.1 ∈ am_gw := am_in (List.mem_append_left _ (by decide +kernel)) rfl
theorem ln_S_91 : am_ln "WebFinder$PageScanner" 91 mt_S_bareValueTo.1 := Or.inl (am_t5 192 rfl rfl)
theorem dc_S_passAttribute_160 : decode prog_9_method_10_code 160 = .ok (.istore 4, 2) := by decide +kernel
theorem dc_S_passAttribute_162 : decode prog_9_method_10_code 162 = .ok (.aload_n 0, 1) := by decide +kernel
theorem dc_S_passAttribute_163 : decode prog_9_method_10_code 163 = .ok (.iload 6, 2) := by decide +kernel
theorem dc_S_passAttribute_165 : decode prog_9_method_10_code 165 = .ok (.ifCond .eq 17, 3) := by decide +kernel
theorem dc_S_passAttribute_168 : decode prog_9_method_10_code 168 = .ok (.iload 4, 2) := by decide +kernel
theorem dc_S_passAttribute_170 : decode prog_9_method_10_code 170 = .ok (.iconst 1, 1) := by decide +kernel
theorem dc_S_passAttribute_171 : decode prog_9_method_10_code 171 = .ok (.iadd, 1) := by decide +kernel
theorem dc_S_passAttribute_172 : decode prog_9_method_10_code 172 = .ok (.aload_n 0, 1) := by decide +kernel
theorem dc_S_passAttribute_173 : decode prog_9_method_10_code 173 = .ok (.getfield 19, 3) := by decide +kernel
theorem dc_S_passAttribute_176 : decode prog_9_method_10_code 176 = .ok (.invokestatic 66, 3) := by decide +kernel
theorem ln_S_66 : am_ln "WebFinder$PageScanner" 66 mt_JMath_min.1 := Or.inl (am_t5 196 rfl rfl)
theorem dc_S_passAttribute_179 : decode prog_9_method_10_code 179 = .ok (.goto 5, 3) := by decide +kernel
theorem dc_S_passAttribute_182 : decode prog_9_method_10_code 182 = .ok (.iload 4, 2) := by decide +kernel
theorem dc_S_passAttribute_184 : decode prog_9_method_10_code 184 = .ok (.putfield 15, 3) := by decide +kernel
theorem dc_S_passAttribute_187 : decode prog_9_method_10_code 187 = .ok (.aload_n 0, 1) := by decide +kernel
theorem dc_S_passAttribute_188 : decode prog_9_method_10_code 188 = .ok (.getfield 25, 3) := by decide +kernel
theorem fl_S_25 : am_fl "WebFinder$PageScanner" 25 5 1 := ⟨"WebFinder$PageScanner", tt_S, 9, rfl, by decide, Or.inl (am_t1 135 rfl rfl)⟩
theorem dc_S_passAttribute_191 : decode prog_9_method_10_code 191 = .ok (.iconst (-1), 1) := by decide +kernel
theorem dc_S_passAttribute_192 : decode prog_9_method_10_code 192 = .ok (.if_icmp .ne 28, 3) := by decide +kernel
theorem dc_S_passAttribute_195 : decode prog_9_method_10_code 195 = .ok (.aload_n 0, 1) := by decide +kernel
theorem dc_S_passAttribute_196 : decode prog_9_method_10_code 196 = .ok (.getfield 9, 3) := by decide +kernel
theorem dc_S_passAttribute_199 : decode prog_9_method_10_code 199 = .ok (.iload_n 1, 1) := by decide +kernel
theorem dc_S_passAttribute_200 : decode prog_9_method_10_code 200 = .ok (.iload_n 2, 1) := by decide +kernel
theorem dc_S_passAttribute_201 : decode prog_9_method_10_code 201 = .ok (.ldc 94, 2) := by decide +kernel
theorem dc_S_passAttribute_203 : decode prog_9_method_10_code 203 = .ok (.invokestatic 49, 3) := by decide +kernel
theorem dc_S_passAttribute_206 : decode prog_9_method_10_code 206 = .ok (.ifCond .eq 14, 3) := by decide +kernel
theorem dc_S_passAttribute_209 : decode prog_9_method_10_code 209 = .ok (.aload_n 0, 1) := by decide +kernel
theorem dc_S_passAttribute_210 : decode prog_9_method_10_code 210 = .ok (.iload_n 3, 1) := by decide +kernel
theorem dc_S_passAttribute_211 : decode prog_9_method_10_code 211 = .ok (.putfield 25, 3) := by decide +kernel
theorem fp_S_passAttribute_25 : am_fp mt_S_passAttribute.1 25 5 1 (.int) := ⟨"WebFinder$PageScanner", tt_S, 9, rfl, by decide, ct_S 1 (by decide), Or.inl ⟨(am_t1 135 rfl rfl), Or.inl rfl⟩⟩
theorem dc_S_passAttribute_214 : decode prog_9_method_10_code 214 = .ok (.aload_n 0, 1) := by decide +kernel
theorem dc_S_passAttribute_215 : decode prog_9_method_10_code 215 = .ok (.iload 4, 2) := by decide +kernel
theorem dc_S_passAttribute_217 : decode prog_9_method_10_code 217 = .ok (.putfield 96, 3) := by decide +kernel
theorem fp_S_passAttribute_96 : am_fp mt_S_passAttribute.1 96 5 2 (.int) := ⟨"WebFinder$PageScanner", tt_S, 9, rfl, by decide, ct_S 2 (by decide), Or.inl ⟨(am_t1 137 rfl rfl), Or.inl rfl⟩⟩
theorem dc_S_passAttribute_220 : decode prog_9_method_10_code 220 = .ok (.return_, 1) := by decide +kernel
theorem dc_S_attributeNameEnd_0 : decode prog_9_method_9_code 0 = .ok (.iload_n 1, 1) := by decide +kernel
theorem dc_S_attributeNameEnd_1 : decode prog_9_method_9_code 1 = .ok (.istore_n 2, 1) := by decide +kernel
theorem dc_S_attributeNameEnd_2 : decode prog_9_method_9_code 2 = .ok (.iload_n 2, 1) := by decide +kernel
theorem dc_S_attributeNameEnd_3 : decode prog_9_method_9_code 3 = .ok (.aload_n 0, 1) := by decide +kernel
theorem dc_S_attributeNameEnd_4 : decode prog_9_method_9_code 4 = .ok (.getfield 19, 3) := by decide +kernel
theorem dc_S_attributeNameEnd_7 : decode prog_9_method_9_code 7 = .ok (.if_icmp .ge 54, 3) := by decide +kernel
theorem dc_S_attributeNameEnd_10 : decode prog_9_method_9_code 10 = .ok (.aload_n 0, 1) := by decide +kernel
theorem dc_S_attributeNameEnd_11 : decode prog_9_method_9_code 11 = .ok (.getfield 9, 3) := by decide +kernel
theorem dc_S_attributeNameEnd_14 : decode prog_9_method_9_code 14 = .ok (.iload_n 2, 1) := by decide +kernel
theorem dc_S_attributeNameEnd_15 : decode prog_9_method_9_code 15 = .ok (.baload, 1) := by decide +kernel
theorem dc_S_attributeNameEnd_16 : decode prog_9_method_9_code 16 = .ok (.invokestatic 78, 3) := by decide +kernel
theorem dc_S_attributeNameEnd_19 : decode prog_9_method_9_code 19 = .ok (.ifCond .ne 42, 3) := by decide +kernel
theorem dc_S_attributeNameEnd_22 : decode prog_9_method_9_code 22 = .ok (.aload_n 0, 1) := by decide +kernel
theorem dc_S_attributeNameEnd_23 : decode prog_9_method_9_code 23 = .ok (.getfield 9, 3) := by decide +kernel
theorem dc_S_attributeNameEnd_26 : decode prog_9_method_9_code 26 = .ok (.iload_n 2, 1) := by decide +kernel
theorem dc_S_attributeNameEnd_27 : decode prog_9_method_9_code 27 = .ok (.baload, 1) := by decide +kernel
theorem dc_S_attributeNameEnd_28 : decode prog_9_method_9_code 28 = .ok (.bipush 47, 2) := by decide +kernel
theorem dc_S_attributeNameEnd_30 : decode prog_9_method_9_code 30 = .ok (.if_icmp .eq 31, 3) := by decide +kernel
theorem dc_S_attributeNameEnd_33 : decode prog_9_method_9_code 33 = .ok (.aload_n 0, 1) := by decide +kernel
theorem dc_S_attributeNameEnd_34 : decode prog_9_method_9_code 34 = .ok (.getfield 9, 3) := by decide +kernel
theorem dc_S_attributeNameEnd_37 : decode prog_9_method_9_code 37 = .ok (.iload_n 2, 1) := by decide +kernel
theorem dc_S_attributeNameEnd_38 : decode prog_9_method_9_code 38 = .ok (.baload, 1) := by decide +kernel
theorem dc_S_attributeNameEnd_39 : decode prog_9_method_9_code 39 = .ok (.bipush 62, 2) := by decide +kernel
theorem dc_S_attributeNameEnd_41 : decode prog_9_method_9_code 41 = .ok (.if_icmp .eq 20, 3) := by decide +kernel
theorem dc_S_attributeNameEnd_44 : decode prog_9_method_9_code 44 = .ok (.aload_n 0, 1) := by decide +kernel
theorem dc_S_attributeNameEnd_45 : decode prog_9_method_9_code 45 = .ok (.getfield 9, 3) := by decide +kernel
theorem dc_S_attributeNameEnd_48 : decode prog_9_method_9_code 48 = .ok (.iload_n 2, 1) := by decide +kernel
theorem dc_S_attributeNameEnd_49 : decode prog_9_method_9_code 49 = .ok (.baload, 1) := by decide +kernel
theorem dc_S_attributeNameEnd_50 : decode prog_9_method_9_code 50 = .ok (.bipush 61, 2) := by decide +kernel
theorem dc_S_attributeNameEnd_52 : decode prog_9_method_9_code 52 = .ok (.if_icmp .eq 9, 3) := by decide +kernel
theorem dc_S_attributeNameEnd_55 : decode prog_9_method_9_code 55 = .ok (.iinc 2 1, 3) := by decide +kernel
theorem dc_S_attributeNameEnd_58 : decode prog_9_method_9_code 58 = .ok (.goto (-56), 3) := by decide +kernel
theorem dc_S_attributeNameEnd_61 : decode prog_9_method_9_code 61 = .ok (.iload_n 2, 1) := by decide +kernel
theorem dc_S_attributeNameEnd_62 : decode prog_9_method_9_code 62 = .ok (.ireturn, 1) := by decide +kernel
theorem dc_S_bareValueTo_0 : decode prog_9_method_11_code 0 = .ok (.iload_n 1, 1) := by decide +kernel
theorem dc_S_bareValueTo_1 : decode prog_9_method_11_code 1 = .ok (.istore_n 2, 1) := by decide +kernel
theorem dc_S_bareValueTo_2 : decode prog_9_method_11_code 2 = .ok (.iload_n 2, 1) := by decide +kernel
theorem dc_S_bareValueTo_3 : decode prog_9_method_11_code 3 = .ok (.aload_n 0, 1) := by decide +kernel
theorem dc_S_bareValueTo_4 : decode prog_9_method_11_code 4 = .ok (.getfield 19, 3) := by decide +kernel
theorem dc_S_bareValueTo_7 : decode prog_9_method_11_code 7 = .ok (.if_icmp .ge 32, 3) := by decide +kernel
theorem dc_S_bareValueTo_10 : decode prog_9_method_11_code 10 = .ok (.aload_n 0, 1) := by decide +kernel
theorem dc_S_bareValueTo_11 : decode prog_9_method_11_code 11 = .ok (.getfield 9, 3) := by decide +kernel
theorem dc_S_bareValueTo_14 : decode prog_9_method_11_code 14 = .ok (.iload_n 2, 1) := by decide +kernel
theorem dc_S_bareValueTo_15 : decode prog_9_method_11_code 15 = .ok (.baload, 1) := by decide +kernel
theorem dc_S_bareValueTo_16 : decode prog_9_method_11_code 16 = .ok (.invokestatic 78, 3) := by decide +kernel
theorem dc_S_bareValueTo_19 : decode prog_9_method_11_code 19 = .ok (.ifCond .ne 20, 3) := by decide +kernel
theorem dc_S_bareValueTo_22 : decode prog_9_method_11_code 22 = .ok (.aload_n 0, 1) := by decide +kernel
theorem dc_S_bareValueTo_23 : decode prog_9_method_11_code 23 = .ok (.getfield 9, 3) := by decide +kernel
theorem dc_S_bareValueTo_26 : decode prog_9_method_11_code 26 = .ok (.iload_n 2, 1) := by decide +kernel
theorem dc_S_bareValueTo_27 : decode prog_9_method_11_code 27 = .ok (.baload, 1) := by decide +kernel
theorem dc_S_bareValueTo_28 : decode prog_9_method_11_code 28 = .ok (.bipush 62, 2) := by decide +kernel
theorem dc_S_bareValueTo_30 : decode prog_9_method_11_code 30 = .ok (.if_icmp .eq 9, 3) := by decide +kernel
theorem dc_S_bareValueTo_33 : decode prog_9_method_11_code 33 = .ok (.iinc 2 1, 3) := by decide +kernel
theorem dc_S_bareValueTo_36 : decode prog_9_method_11_code 36 = .ok (.goto (-34), 3) := by decide +kernel
theorem dc_S_bareValueTo_39 : decode prog_9_method_11_code 39 = .ok (.iload_n 2, 1) := by decide +kernel
theorem dc_S_bareValueTo_40 : decode prog_9_method_11_code 40 = .ok (.ireturn, 1) := by decide +kernel
theorem dc_S_remarkTo_0 : decode prog_9_method_6_code 0 = .ok (.aload_n 0, 1) := by decide +kernel
theorem dc_S_remarkTo_1 : decode prog_9_method_6_code 1 = .ok (.getfield 9, 3) := by decide +kernel
theorem dc_S_remarkTo_4 : decode prog_9_method_6_code 4 = .ok (.aload_n 0, 1) := by decide +kernel
theorem dc_S_remarkTo_5 : decode prog_9_method_6_code 5 = .ok (.getfield 15, 3) := by decide +kernel
theorem dc_S_remarkTo_8 : decode prog_9_method_6_code 8 = .ok (.aload_n 0, 1) := by decide +kernel
theorem dc_S_remarkTo_9 : decode prog_9_method_6_code 9 = .ok (.getfield 19, 3) := by decide +kernel
theorem dc_S_remarkTo_12 : decode prog_9_method_6_code 12 = .ok (.ldc 57, 2) := by decide +kernel
theorem dc_S_remarkTo_14 : decode prog_9_method_6_code 14 = .ok (.invokestatic 59, 3) := by decide +kernel
theorem ln_S_59 : am_ln "WebFinder$PageScanner" 59 mt_W_beginsWith.1 := Or.inr ⟨"WebFinder", (am_n5 203 rfl rfl)⟩
theorem dc_S_remarkTo_17 : decode prog_9_method_6_code 17 = .ok (.ifCond .ne 30, 3) := by decide +kernel
theorem dc_S_remarkTo_20 : decode prog_9_method_6_code 20 = .ok (.aload_n 0, 1) := by decide +kernel
theorem dc_S_remarkTo_21 : decode prog_9_method_6_code 21 = .ok (.getfield 9, 3) := by decide +kernel
theorem dc_S_remarkTo_24 : decode prog_9_method_6_code 24 = .ok (.bipush 62, 2) := by decide +kernel
theorem dc_S_remarkTo_26 : decode prog_9_method_6_code 26 = .ok (.aload_n 0, 1) := by decide +kernel
theorem dc_S_remarkTo_27 : decode prog_9_method_6_code 27 = .ok (.getfield 15, 3) := by decide +kernel
theorem dc_S_remarkTo_30 : decode prog_9_method_6_code 30 = .ok (.aload_n 0, 1) := by decide +kernel
theorem dc_S_remarkTo_31 : decode prog_9_method_6_code 31 = .ok (.getfield 19, 3) := by decide +kernel
theorem dc_S_remarkTo_34 : decode prog_9_method_6_code 34 = .ok (.invokestatic 62, 3) := by decide +kernel
theorem dc_S_remarkTo_37 : decode prog_9_method_6_code 37 = .ok (.iconst 1, 1) := by decide +kernel
theorem dc_S_remarkTo_38 : decode prog_9_method_6_code 38 = .ok (.iadd, 1) := by decide +kernel
theorem dc_S_remarkTo_39 : decode prog_9_method_6_code 39 = .ok (.aload_n 0, 1) := by decide +kernel
theorem dc_S_remarkTo_40 : decode prog_9_method_6_code 40 = .ok (.getfield 19, 3) := by decide +kernel
theorem dc_S_remarkTo_43 : decode prog_9_method_6_code 43 = .ok (.invokestatic 66, 3) := by decide +kernel
theorem dc_S_remarkTo_46 : decode prog_9_method_6_code 46 = .ok (.ireturn, 1) := by decide +kernel
theorem dc_S_remarkTo_47 : decode prog_9_method_6_code 47 = .ok (.aload_n 0, 1) := by decide +kernel
theorem dc_S_remarkTo_48 : decode prog_9_method_6_code 48 = .ok (.getfield 15, 3) := by decide +kernel
theorem dc_S_remarkTo_51 : decode prog_9_method_6_code 51 = .ok (.iconst 4, 1) := by decide +kernel
theorem dc_S_remarkTo_52 : decode prog_9_method_6_code 52 = .ok (.iadd, 1) := by decide +kernel
theorem dc_S_remarkTo_53 : decode prog_9_method_6_code 53 = .ok (.istore_n 1, 1) := by decide +kernel
theorem dc_S_remarkTo_54 : decode prog_9_method_6_code 54 = .ok (.iload_n 1, 1) := by decide +kernel
theorem dc_S_remarkTo_55 : decode prog_9_method_6_code 55 = .ok (.iconst 2, 1) := by decide +kernel
theorem dc_S_remarkTo_56 : decode prog_9_method_6_code 56 = .ok (.iadd, 1) := by decide +kernel
theorem dc_S_remarkTo_57 : decode prog_9_method_6_code 57 = .ok (.aload_n 0, 1) := by decide +kernel
theorem dc_S_remarkTo_58 : decode prog_9_method_6_code 58 = .ok (.getfield 19, 3) := by decide +kernel
theorem dc_S_remarkTo_61 : decode prog_9_method_6_code 61 = .ok (.if_icmp .ge 50, 3) := by decide +kernel
theorem dc_S_remarkTo_64 : decode prog_9_method_6_code 64 = .ok (.aload_n 0, 1) := by decide +kernel
theorem dc_S_remarkTo_65 : decode prog_9_method_6_code 65 = .ok (.getfield 9, 3) := by decide +kernel
theorem dc_S_remarkTo_68 : decode prog_9_method_6_code 68 = .ok (.iload_n 1, 1) := by decide +kernel
theorem dc_S_remarkTo_69 : decode prog_9_method_6_code 69 = .ok (.baload, 1) := by decide +kernel
theorem dc_S_remarkTo_70 : decode prog_9_method_6_code 70 = .ok (.bipush 45, 2) := by decide +kernel
theorem dc_S_remarkTo_72 : decode prog_9_method_6_code 72 = .ok (.if_icmp .ne 33, 3) := by decide +kernel
theorem dc_S_remarkTo_75 : decode prog_9_method_6_code 75 = .ok (.aload_n 0, 1) := by decide +kernel
theorem dc_S_remarkTo_76 : decode prog_9_method_6_code 76 = .ok (.getfield 9, 3) := by decide +kernel
theorem dc_S_remarkTo_79 : decode prog_9_method_6_code 79 = .ok (.iload_n 1, 1) := by decide +kernel
theorem dc_S_remarkTo_80 : decode prog_9_method_6_code 80 = .ok (.iconst 1, 1) := by decide +kernel
theorem dc_S_remarkTo_81 : decode prog_9_method_6_code 81 = .ok (.iadd, 1) := by decide +kernel
theorem dc_S_remarkTo_82 : decode prog_9_method_6_code 82 = .ok (.baload, 1) := by decide +kernel
theorem dc_S_remarkTo_83 : decode prog_9_method_6_code 83 = .ok (.bipush 45, 2) := by decide +kernel
theorem dc_S_remarkTo_85 : decode prog_9_method_6_code 85 = .ok (.if_icmp .ne 20, 3) := by decide +kernel
theorem dc_S_remarkTo_88 : decode prog_9_method_6_code 88 = .ok (.aload_n 0, 1) := by decide +kernel
theorem dc_S_remarkTo_89 : decode prog_9_method_6_code 89 = .ok (.getfield 9, 3) := by decide +kernel
theorem dc_S_remarkTo_92 : decode prog_9_method_6_code 92 = .ok (.iload_n 1, 1) := by decide +kernel
theorem dc_S_remarkTo_93 : decode prog_9_method_6_code 93 = .ok (.iconst 2, 1) := by decide +kernel
theorem dc_S_remarkTo_94 : decode prog_9_method_6_code 94 = .ok (.iadd, 1) := by decide +kernel
theorem dc_S_remarkTo_95 : decode prog_9_method_6_code 95 = .ok (.baload, 1) := by decide +kernel
theorem dc_S_remarkTo_96 : decode prog_9_method_6_code 96 = .ok (.bipush 62, 2) := by decide +kernel
theorem dc_S_remarkTo_98 : decode prog_9_method_6_code 98 = .ok (.if_icmp .ne 7, 3) := by decide +kernel
theorem dc_S_remarkTo_101 : decode prog_9_method_6_code 101 = .ok (.iload_n 1, 1) := by decide +kernel
theorem dc_S_remarkTo_102 : decode prog_9_method_6_code 102 = .ok (.iconst 3, 1) := by decide +kernel
theorem dc_S_remarkTo_103 : decode prog_9_method_6_code 103 = .ok (.iadd, 1) := by decide +kernel
theorem dc_S_remarkTo_104 : decode prog_9_method_6_code 104 = .ok (.ireturn, 1) := by decide +kernel
theorem dc_S_remarkTo_105 : decode prog_9_method_6_code 105 = .ok (.iinc 1 1, 3) := by decide +kernel
theorem dc_S_remarkTo_108 : decode prog_9_method_6_code 108 = .ok (.goto (-54), 3) := by decide +kernel
theorem dc_S_remarkTo_111 : decode prog_9_method_6_code 111 = .ok (.aload_n 0, 1) := by decide +kernel
theorem dc_S_remarkTo_112 : decode prog_9_method_6_code 112 = .ok (.getfield 19, 3) := by decide +kernel
theorem dc_S_remarkTo_115 : decode prog_9_method_6_code 115 = .ok (.ireturn, 1) := by decide +kernel
theorem dc_S_hasHref_0 : decode prog_9_method_4_code 0 = .ok (.aload_n 0, 1) := by decide +kernel
theorem dc_S_hasHref_1 : decode prog_9_method_4_code 1 = .ok (.getfield 39, 3) := by decide +kernel
theorem dc_S_hasHref_4 : decode prog_9_method_4_code 4 = .ok (.ifCond .ne 34, 3) := by decide +kernel
theorem dc_S_hasHref_7 : decode prog_9_method_4_code 7 = .ok (.aload_n 0, 1) := by decide +kernel
theorem dc_S_hasHref_8 : decode prog_9_method_4_code 8 = .ok (.getfield 25, 3) := by decide +kernel
theorem dc_S_hasHref_11 : decode prog_9_method_4_code 11 = .ok (.iconst (-1), 1) := by decide +kernel
theorem dc_S_hasHref_12 : decode prog_9_method_4_code 12 = .ok (.if_icmp .eq 26, 3) := by decide +kernel
theorem dc_S_hasHref_15 : decode prog_9_method_4_code 15 = .ok (.aload_n 0, 1) := by decide +kernel
theorem dc_S_hasHref_16 : decode prog_9_method_4_code 16 = .ok (.getfield 9, 3) := by decide +kernel
theorem dc_S_hasHref_19 : decode prog_9_method_4_code 19 = .ok (.aload_n 0, 1) := by decide +kernel
theorem dc_S_hasHref_20 : decode prog_9_method_4_code 20 = .ok (.getfield 43, 3) := by decide +kernel
theorem dc_S_hasHref_23 : decode prog_9_method_4_code 23 = .ok (.aload_n 0, 1) := by decide +kernel
theorem dc_S_hasHref_24 : decode prog_9_method_4_code 24 = .ok (.getfield 46, 3) := by decide +kernel
theorem dc_S_hasHref_27 : decode prog_9_method_4_code 27 = .ok (.aload_n 1, 1) := by decide +kernel
theorem dc_S_hasHref_28 : decode prog_9_method_4_code 28 = .ok (.invokestatic 49, 3) := by decide +kernel
theorem dc_S_hasHref_31 : decode prog_9_method_4_code 31 = .ok (.ifCond .eq 7, 3) := by decide +kernel
theorem dc_S_hasHref_34 : decode prog_9_method_4_code 34 = .ok (.iconst 1, 1) := by decide +kernel
theorem dc_S_hasHref_35 : decode prog_9_method_4_code 35 = .ok (.goto 4, 3) := by decide +kernel
theorem dc_S_hasHref_38 : decode prog_9_method_4_code 38 = .ok (.iconst 0, 1) := by decide +kernel
theorem dc_S_hasHref_39 : decode prog_9_method_4_code 39 = .ok (.ireturn, 1) := by decide +kernel
theorem dc_P_decode_0 : decode prog_8_method_6_code 0 = .ok (.aload_n 0, 1) := by decide +kernel
theorem dc_P_decode_1 : decode prog_8_method_6_code 1 = .ok (.getfield 39, 3) := by decide +kernel
theorem dc_P_decode_4 : decode prog_8_method_6_code 4 = .ok (.invokevirtual 137, 3) := by decide +kernel
theorem ln_P_137 : am_ln "WebFinder$PageReader" 137 mt_B_clear.1 := Or.inl (am_t5 213 rfl rfl)
theorem dc_P_decode_7 : decode prog_8_method_6_code 7 = .ok (.iload_n 2, 1) := by decide +kernel
theorem dc_P_decode_8 : decode prog_8_method_6_code 8 = .ok (.istore 4, 2) := by decide +kernel
theorem dc_P_decode_10 : decode prog_8_method_6_code 10 = .ok (.iload 4, 2) := by decide +kernel
theorem dc_P_decode_12 : decode prog_8_method_6_code 12 = .ok (.iload_n 3, 1) := by decide +kernel
theorem dc_P_decode_13 : decode prog_8_method_6_code 13 = .ok (.if_icmp .ge 111, 3) := by decide +kernel
theorem dc_P_decode_16 : decode prog_8_method_6_code 16 = .ok (.iconst (-1), 1) := by decide +kernel
theorem dc_P_decode_17 : decode prog_8_method_6_code 17 = .ok (.istore 5, 2) := by decide +kernel
theorem dc_P_decode_19 : decode prog_8_method_6_code 19 = .ok (.iload 4, 2) := by decide +kernel
theorem dc_P_decode_21 : decode prog_8_method_6_code 21 = .ok (.iconst 1, 1) := by decide +kernel
theorem dc_P_decode_22 : decode prog_8_method_6_code 22 = .ok (.iadd, 1) := by decide +kernel
theorem dc_P_decode_23 : decode prog_8_method_6_code 23 = .ok (.istore 6, 2) := by decide +kernel
theorem dc_P_decode_25 : decode prog_8_method_6_code 25 = .ok (.aload_n 1, 1) := by decide +kernel
theorem dc_P_decode_26 : decode prog_8_method_6_code 26 = .ok (.iload 4, 2) := by decide +kernel
theorem dc_P_decode_28 : decode prog_8_method_6_code 28 = .ok (.baload, 1) := by decide +kernel
theorem dc_P_decode_29 : decode prog_8_method_6_code 29 = .ok (.bipush 38, 2) := by decide +kernel
theorem dc_P_decode_31 : decode prog_8_method_6_code 31 = .ok (.if_icmp .ne 64, 3) := by decide +kernel
theorem dc_P_decode_34 : decode prog_8_method_6_code 34 = .ok (.iload_n 3, 1) := by decide +kernel
theorem dc_P_decode_35 : decode prog_8_method_6_code 35 = .ok (.iload 4, 2) := by decide +kernel
theorem dc_P_decode_37 : decode prog_8_method_6_code 37 = .ok (.bipush 10, 2) := by decide +kernel
theorem dc_P_decode_39 : decode prog_8_method_6_code 39 = .ok (.iadd, 1) := by decide +kernel
theorem dc_P_decode_40 : decode prog_8_method_6_code 40 = .ok (.invokestatic 138, 3) := by decide +kernel
theorem ln_P_138 : am_ln "WebFinder$PageReader" 138 mt_JMath_min.1 := Or.inl (am_t5 214 rfl rfl)
theorem dc_P_decode_43 : decode prog_8_method_6_code 43 = .ok (.istore 7, 2) := by decide +kernel
theorem dc_P_decode_45 : decode prog_8_method_6_code 45 = .ok (.aload_n 1, 1) := by decide +kernel
theorem dc_P_decode_46 : decode prog_8_method_6_code 46 = .ok (.bipush 59, 2) := by decide +kernel
theorem dc_P_decode_48 : decode prog_8_method_6_code 48 = .ok (.iload 6, 2) := by decide +kernel
theorem dc_P_decode_50 : decode prog_8_method_6_code 50 = .ok (.iload 7, 2) := by decide +kernel
theorem dc_P_decode_52 : decode prog_8_method_6_code 52 = .ok (.invokestatic 144, 3) := by decide +kernel
theorem ln_P_144 : am_ln "WebFinder$PageReader" 144 mt_W_indexOf.1 := Or.inr ⟨"WebFinder", (am_n5 215 rfl rfl)⟩
theorem dc_P_decode_55 : decode prog_8_method_6_code 55 = .ok (.istore 8, 2) := by decide +kernel
theorem dc_P_decode_57 : decode prog_8_method_6_code 57 = .ok (.iload 8, 2) := by decide +kernel
theorem dc_P_decode_59 : decode prog_8_method_6_code 59 = .ok (.iload 7, 2) := by decide +kernel
theorem dc_P_decode_61 : decode prog_8_method_6_code 61 = .ok (.if_icmp .ne 7, 3) := by decide +kernel
theorem dc_P_decode_64 : decode prog_8_method_6_code 64 = .ok (.iconst (-1), 1) := by decide +kernel
theorem dc_P_decode_65 : decode prog_8_method_6_code 65 = .ok (.goto 11, 3) := by decide +kernel
theorem dc_P_decode_68 : decode prog_8_method_6_code 68 = .ok (.aload_n 1, 1) := by decide +kernel
theorem dc_P_decode_69 : decode prog_8_method_6_code 69 = .ok (.iload 6, 2) := by decide +kernel
theorem dc_P_decode_71 : decode prog_8_method_6_code 71 = .ok (.iload 8, 2) := by decide +kernel
theorem dc_P_decode_73 : decode prog_8_method_6_code 73 = .ok (.invokestatic 148, 3) := by decide +kernel
theorem mo_P_referenced : am_mo mt_P_referenced 3 := ⟨⟨by decide +kernel, by decide +kernel⟩, by decide +kernel, ⟨by decide +kernel, by decide +kernel⟩, (am_t5 218 rfl rfl), (am_t1 4 rfl rfl), by decide +kernel⟩
theorem st_P_referenced : Cond.static mt_P_referenced.1 ∈ am_gw := (am_t5 217 rfl rfl)
theorem ln_P_148 : am_ln "WebFinder$PageReader" 148 mt_P_referenced.1 := Or.inl (am_t5 216 rfl rfl)
theorem dc_P_decode_76 : decode prog_8_method_6_code 76 = .ok (.istore 5, 2) := by decide +kernel
theorem dc_P_decode_78 : decode prog_8_method_6_code 78 = .ok (.iload 5, 2) := by decide +kernel
theorem dc_P_decode_80 : decode prog_8_method_6_code 80 = .ok (.iconst (-1), 1) := by decide +kernel
theorem dc_P_decode_81 : decode prog_8_method_6_code 81 = .ok (.if_icmp .ne 8, 3) := by decide +kernel
theorem dc_P_decode_84 : decode prog_8_method_6_code 84 = .ok (.iload 6, 2) := by decide +kernel
theorem dc_P_decode_86 : decode prog_8_method_6_code 86 = .ok (.goto 7, 3) := by decide +kernel
theorem dc_P_decode_89 : decode prog_8_method_6_code 89 = .ok (.iload 8, 2) := by decide +kernel
theorem dc_P_decode_91 : decode prog_8_method_6_code 91 = .ok (.iconst 1, 1) := by decide +kernel
theorem dc_P_decode_92 : decode prog_8_method_6_code 92 = .ok (.iadd, 1) := by decide +kernel
theorem dc_P_decode_93 : decode prog_8_method_6_code 93 = .ok (.istore 6, 2) := by decide +kernel
theorem dc_P_decode_95 : decode prog_8_method_6_code 95 = .ok (.aload_n 0, 1) := by decide +kernel
theorem dc_P_decode_96 : decode prog_8_method_6_code 96 = .ok (.getfield 39, 3) := by decide +kernel
theorem dc_P_decode_99 : decode prog_8_method_6_code 99 = .ok (.iload 5, 2) := by decide +kernel
theorem dc_P_decode_101 : decode prog_8_method_6_code 101 = .ok (.iconst (-1), 1) := by decide +kernel
theorem dc_P_decode_102 : decode prog_8_method_6_code 102 = .ok (.if_icmp .ne 10, 3) := by decide +kernel
theorem dc_P_decode_105 : decode prog_8_method_6_code 105 = .ok (.aload_n 1, 1) := by decide +kernel
theorem dc_P_decode_106 : decode prog_8_method_6_code 106 = .ok (.iload 4, 2) := by decide +kernel
theorem dc_P_decode_108 : decode prog_8_method_6_code 108 = .ok (.baload, 1) := by decide +kernel
theorem dc_P_decode_109 : decode prog_8_method_6_code 109 = .ok (.goto 5, 3) := by decide +kernel
theorem dc_P_decode_112 : decode prog_8_method_6_code 112 = .ok (.iload 5, 2) := by decide +kernel
theorem dc_P_decode_114 : decode prog_8_method_6_code 114 = .ok (.invokevirtual 131, 3) := by decide +kernel
theorem ln_P_131 : am_ln "WebFinder$PageReader" 131 mt_B_put.1 := Or.inl (am_t5 234 rfl rfl)
theorem dc_P_decode_117 : decode prog_8_method_6_code 117 = .ok (.iload 6, 2) := by decide +kernel
theorem dc_P_decode_119 : decode prog_8_method_6_code 119 = .ok (.istore 4, 2) := by decide +kernel
theorem dc_P_decode_121 : decode prog_8_method_6_code 121 = .ok (.goto (-111), 3) := by decide +kernel
theorem dc_P_decode_124 : decode prog_8_method_6_code 124 = .ok (.return_, 1) := by decide +kernel
