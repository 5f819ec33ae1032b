theorem dc_M_use_0 : decode prog_14_method_67_code 0 = .ok (.aload_n 0, 1) := by decide +kernel
theorem dc_M_use_1 : decode prog_14_method_67_code 1 = .ok (.iconst 0, 1) := by decide +kernel
theorem dc_M_use_2 : decode prog_14_method_67_code 2 = .ok (.putfield 1, 3) := by decide +kernel
theorem fp_M_use_1 : am_fp mt_M_use.1 1 12 2 (.int) := ⟨"WebFinderModel", tt_M, 90, rfl, by decide, ct_M 2 (by decide), Or.inl ⟨(am_t7 113 rfl rfl), Or.inl rfl⟩⟩
theorem dc_M_use_5 : decode prog_14_method_67_code 5 = .ok (.aload_n 0, 1) := by decide +kernel
theorem dc_M_use_6 : decode prog_14_method_67_code 6 = .ok (.getfield 493, 3) := by decide +kernel
theorem dc_M_use_9 : decode prog_14_method_67_code 9 = .ok (.istore_n 1, 1) := by decide +kernel
theorem dc_M_use_10 : decode prog_14_method_67_code 10 = .ok (.aload_n 0, 1) := by decide +kernel
theorem dc_M_use_11 : decode prog_14_method_67_code 11 = .ok (.iconst 0, 1) := by decide +kernel
theorem dc_M_use_12 : decode prog_14_method_67_code 12 = .ok (.putfield 493, 3) := by decide +kernel
theorem fp_M_use_493 : am_fp mt_M_use.1 493 12 1 (.int) := ⟨"WebFinderModel", tt_M, 90, rfl, by decide, ct_M 1 (by decide), Or.inl ⟨(am_t7 112 rfl rfl), Or.inl rfl⟩⟩
theorem dc_M_use_15 : decode prog_14_method_67_code 15 = .ok (.iload_n 1, 1) := by decide +kernel
theorem dc_M_use_16 : decode prog_14_method_67_code 16 = .ok (.ireturn, 1) := by decide +kernel
theorem dc_M_readFirst_0 : decode prog_14_method_68_code 0 = .ok (.aload_n 0, 1) := by decide +kernel
theorem dc_M_readFirst_1 : decode prog_14_method_68_code 1 = .ok (.aload_n 0, 1) := by decide +kernel
theorem dc_M_readFirst_2 : decode prog_14_method_68_code 2 = .ok (.getfield 143, 3) := by decide +kernel
theorem dc_M_readFirst_5 : decode prog_14_method_68_code 5 = .ok (.iconst 0, 1) := by decide +kernel
theorem dc_M_readFirst_6 : decode prog_14_method_68_code 6 = .ok (.aload_n 0, 1) := by decide +kernel
theorem dc_M_readFirst_7 : decode prog_14_method_68_code 7 = .ok (.getfield 143, 3) := by decide +kernel
theorem dc_M_readFirst_10 : decode prog_14_method_68_code 10 = .ok (.iconst 0, 1) := by decide +kernel
theorem dc_M_readFirst_11 : decode prog_14_method_68_code 11 = .ok (.iload_n 1, 1) := by decide +kernel
theorem dc_M_readFirst_12 : decode prog_14_method_68_code 12 = .ok (.invokestatic 455, 3) := by decide +kernel
theorem mo_M_lineEnd : am_mo mt_M_lineEnd 3 := ⟨⟨by decide +kernel, by decide +kernel⟩, by decide +kernel, ⟨by decide +kernel, by decide +kernel⟩, (am_t8 169 rfl rfl), (am_t1 11 rfl rfl), by decide +kernel⟩
theorem st_M_lineEnd : Cond.static mt_M_lineEnd.1 ∈ am_gw := (am_t8 168 rfl rfl)
theorem ln_M_455 : am_ln "WebFinderModel" 455 mt_M_lineEnd.1 := Or.inl (am_t8 167 rfl rfl)
theorem dc_M_readFirst_15 : decode prog_14_method_68_code 15 = .ok (.iconst (-1), 1) := by decide +kernel
theorem dc_M_readFirst_16 : decode prog_14_method_68_code 16 = .ok (.invokevirtual 297, 3) := by decide +kernel
theorem dc_M_readFirst_19 : decode prog_14_method_68_code 19 = .ok (.ireturn, 1) := by decide +kernel
theorem dc_M_lineEnd_0 : decode prog_14_method_53_code 0 = .ok (.aload_n 0, 1) := by decide +kernel
theorem dc_M_lineEnd_1 : decode prog_14_method_53_code 1 = .ok (.iload_n 1, 1) := by decide +kernel
theorem dc_M_lineEnd_2 : decode prog_14_method_53_code 2 = .ok (.iload_n 2, 1) := by decide +kernel
theorem dc_M_lineEnd_3 : decode prog_14_method_53_code 3 = .ok (.bipush 10, 2) := by decide +kernel
theorem dc_M_lineEnd_5 : decode prog_14_method_53_code 5 = .ok (.invokestatic 48, 3) := by decide +kernel
theorem mo_M_seek : am_mo mt_M_seek 4 := ⟨⟨by decide +kernel, by decide +kernel⟩, by decide +kernel, ⟨by decide +kernel, by decide +kernel⟩, (am_t8 172 rfl rfl), (am_t1 11 rfl rfl), by decide +kernel⟩
theorem st_M_seek : Cond.static mt_M_seek.1 ∈ am_gw := (am_t8 171 rfl rfl)
theorem ln_M_48 : am_ln "WebFinderModel" 48 mt_M_seek.1 := Or.inl (am_t8 170 rfl rfl)
theorem dc_M_lineEnd_8 : decode prog_14_method_53_code 8 = .ok (.istore_n 3, 1) := by decide +kernel
theorem dc_M_lineEnd_9 : decode prog_14_method_53_code 9 = .ok (.iload_n 3, 1) := by decide +kernel
theorem dc_M_lineEnd_10 : decode prog_14_method_53_code 10 = .ok (.iload_n 2, 1) := by decide +kernel
theorem dc_M_lineEnd_11 : decode prog_14_method_53_code 11 = .ok (.if_icmp .ge 24, 3) := by decide +kernel
theorem dc_M_lineEnd_14 : decode prog_14_method_53_code 14 = .ok (.iload_n 3, 1) := by decide +kernel
theorem dc_M_lineEnd_15 : decode prog_14_method_53_code 15 = .ok (.iload_n 1, 1) := by decide +kernel
theorem dc_M_lineEnd_16 : decode prog_14_method_53_code 16 = .ok (.if_icmp .le 19, 3) := by decide +kernel
theorem dc_M_lineEnd_19 : decode prog_14_method_53_code 19 = .ok (.aload_n 0, 1) := by decide +kernel
theorem dc_M_lineEnd_20 : decode prog_14_method_53_code 20 = .ok (.iload_n 3, 1) := by decide +kernel
theorem dc_M_lineEnd_21 : decode prog_14_method_53_code 21 = .ok (.iconst 1, 1) := by decide +kernel
theorem dc_M_lineEnd_22 : decode prog_14_method_53_code 22 = .ok (.isub, 1) := by decide +kernel
theorem dc_M_lineEnd_23 : decode prog_14_method_53_code 23 = .ok (.baload, 1) := by decide +kernel
theorem dc_M_lineEnd_24 : decode prog_14_method_53_code 24 = .ok (.bipush 13, 2) := by decide +kernel
theorem dc_M_lineEnd_26 : decode prog_14_method_53_code 26 = .ok (.if_icmp .ne 9, 3) := by decide +kernel
theorem dc_M_lineEnd_29 : decode prog_14_method_53_code 29 = .ok (.iload_n 3, 1) := by decide +kernel
theorem dc_M_lineEnd_30 : decode prog_14_method_53_code 30 = .ok (.iconst 1, 1) := by decide +kernel
theorem dc_M_lineEnd_31 : decode prog_14_method_53_code 31 = .ok (.isub, 1) := by decide +kernel
theorem dc_M_lineEnd_32 : decode prog_14_method_53_code 32 = .ok (.goto 4, 3) := by decide +kernel
theorem dc_M_lineEnd_35 : decode prog_14_method_53_code 35 = .ok (.iload_n 3, 1) := by decide +kernel
theorem dc_M_lineEnd_36 : decode prog_14_method_53_code 36 = .ok (.ireturn, 1) := by decide +kernel
theorem dc_M_seek_0 : decode prog_14_method_7_code 0 = .ok (.iload_n 1, 1) := by decide +kernel
theorem dc_M_seek_1 : decode prog_14_method_7_code 1 = .ok (.istore 4, 2) := by decide +kernel
theorem dc_M_seek_3 : decode prog_14_method_7_code 3 = .ok (.iload 4, 2) := by decide +kernel
theorem dc_M_seek_5 : decode prog_14_method_7_code 5 = .ok (.iload_n 2, 1) := by decide +kernel
theorem dc_M_seek_6 : decode prog_14_method_7_code 6 = .ok (.if_icmp .ge 17, 3) := by decide +kernel
theorem dc_M_seek_9 : decode prog_14_method_7_code 9 = .ok (.aload_n 0, 1) := by decide +kernel
theorem dc_M_seek_10 : decode prog_14_method_7_code 10 = .ok (.iload 4, 2) := by decide +kernel
theorem dc_M_seek_12 : decode prog_14_method_7_code 12 = .ok (.baload, 1) := by decide +kernel
theorem dc_M_seek_13 : decode prog_14_method_7_code 13 = .ok (.iload_n 3, 1) := by decide +kernel
theorem dc_M_seek_14 : decode prog_14_method_7_code 14 = .ok (.if_icmp .eq 9, 3) := by decide +kernel
theorem dc_M_seek_17 : decode prog_14_method_7_code 17 = .ok (.iinc 4 1, 3) := by decide +kernel
theorem dc_M_seek_20 : decode prog_14_method_7_code 20 = .ok (.goto (-17), 3) := by decide +kernel
theorem dc_M_seek_23 : decode prog_14_method_7_code 23 = .ok (.iload 4, 2) := by decide +kernel
theorem dc_M_seek_25 : decode prog_14_method_7_code 25 = .ok (.ireturn, 1) := by decide +kernel
theorem dc_M_readReference_0 : decode prog_14_method_19_code 0 = .ok (.iload_n 2, 1) := by decide +kernel
theorem dc_M_readReference_1 : decode prog_14_method_19_code 1 = .ok (.istore 5, 2) := by decide +kernel
theorem dc_M_readReference_3 : decode prog_14_method_19_code 3 = .ok (.iload_n 3, 1) := by decide +kernel
theorem dc_M_readReference_4 : decode prog_14_method_19_code 4 = .ok (.istore 6, 2) := by decide +kernel
theorem dc_M_readReference_6 : decode prog_14_method_19_code 6 = .ok (.iload 5, 2) := by decide +kernel
theorem dc_M_readReference_8 : decode prog_14_method_19_code 8 = .ok (.iload 6, 2) := by decide +kernel
theorem dc_M_readReference_10 : decode prog_14_method_19_code 10 = .ok (.if_icmp .ge 19, 3) := by decide +kernel
theorem dc_M_readReference_13 : decode prog_14_method_19_code 13 = .ok (.aload_n 1, 1) := by decide +kernel
theorem dc_M_readReference_14 : decode prog_14_method_19_code 14 = .ok (.iload 5, 2) := by decide +kernel
theorem dc_M_readReference_16 : decode prog_14_method_19_code 16 = .ok (.baload, 1) := by decide +kernel
theorem dc_M_readReference_17 : decode prog_14_method_19_code 17 = .ok (.invokestatic 75, 3) := by decide +kernel
theorem mo_M_isBlank : am_mo mt_M_isBlank 1 := ⟨⟨by decide +kernel, by decide +kernel⟩, by decide +kernel, ⟨by decide +kernel, by decide +kernel⟩, (am_t8 179 rfl rfl), (am_t1 11 rfl rfl), by decide +kernel⟩
theorem st_M_isBlank : Cond.static mt_M_isBlank.1 ∈ am_gw := (am_t8 178 rfl rfl)
theorem ln_M_75 : am_ln "WebFinderModel" 75 mt_M_isBlank.1 := Or.inl (am_t8 177 rfl rfl)
theorem dc_M_readReference_20 : decode prog_14_method_19_code 20 = .ok (.ifCond .eq 9, 3) := by decide +kernel
theorem dc_M_readReference_23 : decode prog_14_method_19_code 23 = .ok (.iinc 5 1, 3) := by decide +kernel
theorem dc_M_readReference_26 : decode prog_14_method_19_code 26 = .ok (.goto (-20), 3) := by decide +kernel
theorem dc_M_readReference_29 : decode prog_14_method_19_code 29 = .ok (.iload 6, 2) := by decide +kernel
theorem dc_M_readReference_31 : decode prog_14_method_19_code 31 = .ok (.iload 5, 2) := by decide +kernel
theorem dc_M_readReference_33 : decode prog_14_method_19_code 33 = .ok (.if_icmp .le 21, 3) := by decide +kernel
theorem dc_M_readReference_36 : decode prog_14_method_19_code 36 = .ok (.aload_n 1, 1) := by decide +kernel
theorem dc_M_readReference_37 : decode prog_14_method_19_code 37 = .ok (.iload 6, 2) := by decide +kernel
theorem dc_M_readReference_39 : decode prog_14_method_19_code 39 = .ok (.iconst 1, 1) := by decide +kernel
theorem dc_M_readReference_40 : decode prog_14_method_19_code 40 = .ok (.isub, 1) := by decide +kernel
theorem dc_M_readReference_41 : decode prog_14_method_19_code 41 = .ok (.baload, 1) := by decide +kernel
theorem dc_M_readReference_42 : decode prog_14_method_19_code 42 = .ok (.invokestatic 75, 3) := by decide +kernel
theorem dc_M_readReference_45 : decode prog_14_method_19_code 45 = .ok (.ifCond .eq 9, 3) := by decide +kernel
theorem dc_M_readReference_48 : decode prog_14_method_19_code 48 = .ok (.iinc 6 (-1), 3) := by decide +kernel
theorem dc_M_readReference_51 : decode prog_14_method_19_code 51 = .ok (.goto (-22), 3) := by decide +kernel
theorem dc_M_readReference_54 : decode prog_14_method_19_code 54 = .ok (.aload_n 1, 1) := by decide +kernel
theorem dc_M_readReference_55 : decode prog_14_method_19_code 55 = .ok (.iload 5, 2) := by decide +kernel
theorem dc_M_readReference_57 : decode prog_14_method_19_code 57 = .ok (.iload 6, 2) := by decide +kernel
theorem dc_M_readReference_59 : decode prog_14_method_19_code 59 = .ok (.bipush 35, 2) := by decide +kernel
theorem dc_M_readReference_61 : decode prog_14_method_19_code 61 = .ok (.invokestatic 48, 3) := by decide +kernel
theorem dc_M_readReference_64 : decode prog_14_method_19_code 64 = .ok (.istore 6, 2) := by decide +kernel
theorem dc_M_readReference_66 : decode prog_14_method_19_code 66 = .ok (.iload 5, 2) := by decide +kernel
theorem dc_M_readReference_68 : decode prog_14_method_19_code 68 = .ok (.istore 7, 2) := by decide +kernel
theorem dc_M_readReference_70 : decode prog_14_method_19_code 70 = .ok (.iload 7, 2) := by decide +kernel
theorem dc_M_readReference_72 : decode prog_14_method_19_code 72 = .ok (.iload 6, 2) := by decide +kernel
theorem dc_M_readReference_74 : decode prog_14_method_19_code 74 = .ok (.if_icmp .ge 22, 3) := by decide +kernel
theorem dc_M_readReference_77 : decode prog_14_method_19_code 77 = .ok (.aload_n 1, 1) := by decide +kernel
theorem dc_M_readReference_78 : decode prog_14_method_19_code 78 = .ok (.iload 7, 2) := by decide +kernel
theorem dc_M_readReference_80 : decode prog_14_method_19_code 80 = .ok (.iload 6, 2) := by decide +kernel
theorem dc_M_readReference_82 : decode prog_14_method_19_code 82 = .ok (.invokestatic 78, 3) := by decide +kernel
theorem mo_M_isOfReference : am_mo mt_M_isOfReference 3 := ⟨⟨by decide +kernel, by decide +kernel⟩, by decide +kernel, ⟨by decide +kernel, by decide +kernel⟩, (am_t8 182 rfl rfl), (am_t1 11 rfl rfl), by decide +kernel⟩
theorem st_M_isOfReference : Cond.static mt_M_isOfReference.1 ∈ am_gw := (am_t8 181 rfl rfl)
theorem ln_M_78 : am_ln "WebFinderModel" 78 mt_M_isOfReference.1 := Or.inl (am_t8 180 rfl rfl)
theorem dc_M_readReference_85 : decode prog_14_method_19_code 85 = .ok (.ifCond .ne 5, 3) := by decide +kernel
theorem dc_M_readReference_88 : decode prog_14_method_19_code 88 = .ok (.iconst 0, 1) := by decide +kernel
theorem dc_M_readReference_89 : decode prog_14_method_19_code 89 = .ok (.ireturn, 1) := by decide +kernel
theorem dc_M_readReference_90 : decode prog_14_method_19_code 90 = .ok (.iinc 7 1, 3) := by decide +kernel
theorem dc_M_readReference_93 : decode prog_14_method_19_code 93 = .ok (.goto (-23), 3) := by decide +kernel
theorem dc_M_readReference_96 : decode prog_14_method_19_code 96 = .ok (.aload_n 1, 1) := by decide +kernel
theorem dc_M_readReference_97 : decode prog_14_method_19_code 97 = .ok (.iload 5, 2) := by decide +kernel
theorem dc_M_readReference_99 : decode prog_14_method_19_code 99 = .ok (.iload 6, 2) := by decide +kernel
theorem dc_M_readReference_101 : decode prog_14_method_19_code 101 = .ok (.bipush 58, 2) := by decide +kernel
theorem dc_M_readReference_103 : decode prog_14_method_19_code 103 = .ok (.invokestatic 48, 3) := by decide +kernel
theorem dc_M_readReference_106 : decode prog_14_method_19_code 106 = .ok (.istore 7, 2) := by decide +kernel
theorem dc_M_readReference_108 : decode prog_14_method_19_code 108 = .ok (.aload_n 1, 1) := by decide +kernel
theorem dc_M_readReference_109 : decode prog_14_method_19_code 109 = .ok (.iload 5, 2) := by decide +kernel
theorem dc_M_readReference_111 : decode prog_14_method_19_code 111 = .ok (.iload 6, 2) := by decide +kernel
theorem dc_M_readReference_113 : decode prog_14_method_19_code 113 = .ok (.bipush 47, 2) := by decide +kernel
theorem dc_M_readReference_115 : decode prog_14_method_19_code 115 = .ok (.invokestatic 48, 3) := by decide +kernel
theorem dc_M_readReference_118 : decode prog_14_method_19_code 118 = .ok (.istore 8, 2) := by decide +kernel
theorem dc_M_readReference_120 : decode prog_14_method_19_code 120 = .ok (.aload_n 1, 1) := by decide +kernel
theorem dc_M_readReference_121 : decode prog_14_method_19_code 121 = .ok (.iload 5, 2) := by decide +kernel
theorem dc_M_readReference_123 : decode prog_14_method_19_code 123 = .ok (.iload 6, 2) := by decide +kernel
theorem dc_M_readReference_125 : decode prog_14_method_19_code 125 = .ok (.bipush 63, 2) := by decide +kernel
theorem dc_M_readReference_127 : decode prog_14_method_19_code 127 = .ok (.invokestatic 48, 3) := by decide +kernel
theorem dc_M_readReference_130 : decode prog_14_method_19_code 130 = .ok (.istore 9, 2) := by decide +kernel
theorem dc_M_readReference_132 : decode prog_14_method_19_code 132 = .ok (.iload 7, 2) := by decide +kernel
theorem dc_M_readReference_134 : decode prog_14_method_19_code 134 = .ok (.iload 8, 2) := by decide +kernel
theorem dc_M_readReference_136 : decode prog_14_method_19_code 136 = .ok (.if_icmp .ge 62, 3) := by decide +kernel
theorem dc_M_readReference_139 : decode prog_14_method_19_code 139 = .ok (.iload 7, 2) := by decide +kernel
theorem dc_M_readReference_141 : decode prog_14_method_19_code 141 = .ok (.iload 9, 2) := by decide +kernel
theorem dc_M_readReference_143 : decode prog_14_method_19_code 143 = .ok (.if_icmp .ge 55, 3) := by decide +kernel
theorem dc_M_readReference_146 : decode prog_14_method_19_code 146 = .ok (.aload_n 1, 1) := by decide +kernel
theorem dc_M_readReference_147 : decode prog_14_method_19_code 147 = .ok (.iload 5, 2) := by decide +kernel
theorem dc_M_readReference_149 : decode prog_14_method_19_code 149 = .ok (.iload 7, 2) := by decide +kernel
theorem dc_M_readReference_151 : decode prog_14_method_19_code 151 = .ok (.ldc 81, 2) := by decide +kernel
theorem dc_M_readReference_153 : decode prog_14_method_19_code 153 = .ok (.invokestatic 83, 3) := by decide +kernel
theorem mo_M_isWord : am_mo mt_M_isWord 4 := ⟨⟨by decide +kernel, by decide +kernel⟩, by decide +kernel, ⟨by decide +kernel, by decide +kernel⟩, (am_t8 195 rfl rfl), (am_t1 11 rfl rfl), by decide +kernel⟩
theorem st_M_isWord : Cond.static mt_M_isWord.1 ∈ am_gw := (am_t8 194 rfl rfl)
theorem ln_M_83 : am_ln "WebFinderModel" 83 mt_M_isWord.1 := Or.inl (am_t8 193 rfl rfl)
theorem dc_M_readReference_156 : decode prog_14_method_19_code 156 = .ok (.ifCond .eq 34, 3) := by decide +kernel
theorem dc_M_readReference_159 : decode prog_14_method_19_code 159 = .ok (.iload 7, 2) := by decide +kernel
theorem dc_M_readReference_161 : decode prog_14_method_19_code 161 = .ok (.iconst 2, 1) := by decide +kernel
theorem dc_M_readReference_162 : decode prog_14_method_19_code 162 = .ok (.iadd, 1) := by decide +kernel
theorem dc_M_readReference_163 : decode prog_14_method_19_code 163 = .ok (.iload 6, 2) := by decide +kernel
theorem dc_M_readReference_165 : decode prog_14_method_19_code 165 = .ok (.if_icmp .ge 25, 3) := by decide +kernel
theorem dc_M_readReference_168 : decode prog_14_method_19_code 168 = .ok (.aload_n 1, 1) := by decide +kernel
theorem dc_M_readReference_169 : decode prog_14_method_19_code 169 = .ok (.iload 7, 2) := by decide +kernel
theorem dc_M_readReference_171 : decode prog_14_method_19_code 171 = .ok (.iconst 1, 1) := by decide +kernel
theorem dc_M_readReference_172 : decode prog_14_method_19_code 172 = .ok (.iadd, 1) := by decide +kernel
theorem dc_M_readReference_173 : decode prog_14_method_19_code 173 = .ok (.baload, 1) := by decide +kernel
theorem dc_M_readReference_174 : decode prog_14_method_19_code 174 = .ok (.bipush 47, 2) := by decide +kernel
theorem dc_M_readReference_176 : decode prog_14_method_19_code 176 = .ok (.if_icmp .ne 14, 3) := by decide +kernel
theorem dc_M_readReference_179 : decode prog_14_method_19_code 179 = .ok (.aload_n 1, 1) := by decide +kernel
theorem dc_M_readReference_180 : decode prog_14_method_19_code 180 = .ok (.iload 7, 2) := by decide +kernel
theorem dc_M_readReference_182 : decode prog_14_method_19_code 182 = .ok (.iconst 2, 1) := by decide +kernel
theorem dc_M_readReference_183 : decode prog_14_method_19_code 183 = .ok (.iadd, 1) := by decide +kernel
theorem dc_M_readReference_184 : decode prog_14_method_19_code 184 = .ok (.baload, 1) := by decide +kernel
theorem dc_M_readReference_185 : decode prog_14_method_19_code 185 = .ok (.bipush 47, 2) := by decide +kernel
theorem dc_M_readReference_187 : decode prog_14_method_19_code 187 = .ok (.if_icmp .eq 5, 3) := by decide +kernel
theorem dc_M_readReference_190 : decode prog_14_method_19_code 190 = .ok (.iconst 0, 1) := by decide +kernel
theorem dc_M_readReference_191 : decode prog_14_method_19_code 191 = .ok (.ireturn, 1) := by decide +kernel
theorem dc_M_readReference_192 : decode prog_14_method_19_code 192 = .ok (.iload 7, 2) := by decide +kernel
theorem dc_M_readReference_194 : decode prog_14_method_19_code 194 = .ok (.iconst 1, 1) := by decide +kernel
theorem dc_M_readReference_195 : decode prog_14_method_19_code 195 = .ok (.iadd, 1) := by decide +kernel
theorem dc_M_readReference_196 : decode prog_14_method_19_code 196 = .ok (.istore 5, 2) := by decide +kernel
theorem dc_M_readReference_198 : decode prog_14_method_19_code 198 = .ok (.iload 5, 2) := by decide +kernel
theorem dc_M_readReference_200 : decode prog_14_method_19_code 200 = .ok (.iconst 1, 1) := by decide +kernel
theorem dc_M_readReference_201 : decode prog_14_method_19_code 201 = .ok (.iadd, 1) := by decide +kernel
theorem dc_M_readReference_202 : decode prog_14_method_19_code 202 = .ok (.iload 6, 2) := by decide +kernel
theorem dc_M_readReference_204 : decode prog_14_method_19_code 204 = .ok (.if_icmp .ge 103, 3) := by decide +kernel
theorem dc_M_readReference_207 : decode prog_14_method_19_code 207 = .ok (.aload_n 1, 1) := by decide +kernel
theorem dc_M_readReference_208 : decode prog_14_method_19_code 208 = .ok (.iload 5, 2) := by decide +kernel
theorem dc_M_readReference_210 : decode prog_14_method_19_code 210 = .ok (.baload, 1) := by decide +kernel
theorem dc_M_readReference_211 : decode prog_14_method_19_code 211 = .ok (.bipush 47, 2) := by decide +kernel
theorem dc_M_readReference_213 : decode prog_14_method_19_code 213 = .ok (.if_icmp .ne 94, 3) := by decide +kernel
theorem dc_M_readReference_216 : decode prog_14_method_19_code 216 = .ok (.aload_n 1, 1) := by decide +kernel
theorem dc_M_readReference_217 : decode prog_14_method_19_code 217 = .ok (.iload 5, 2) := by decide +kernel
theorem dc_M_readReference_219 : decode prog_14_method_19_code 219 = .ok (.iconst 1, 1) := by decide +kernel
theorem dc_M_readReference_220 : decode prog_14_method_19_code 220 = .ok (.iadd, 1) := by decide +kernel
theorem dc_M_readReference_221 : decode prog_14_method_19_code 221 = .ok (.baload, 1) := by decide +kernel
theorem dc_M_readReference_222 : decode prog_14_method_19_code 222 = .ok (.bipush 47, 2) := by decide +kernel
theorem dc_M_readReference_224 : decode prog_14_method_19_code 224 = .ok (.if_icmp .ne 83, 3) := by decide +kernel
theorem dc_M_readReference_227 : decode prog_14_method_19_code 227 = .ok (.aload_n 0, 1) := by decide +kernel
theorem dc_M_readReference_228 : decode prog_14_method_19_code 228 = .ok (.aload_n 1, 1) := by decide +kernel
theorem dc_M_readReference_229 : decode prog_14_method_19_code 229 = .ok (.iload 5, 2) := by decide +kernel
theorem dc_M_readReference_231 : decode prog_14_method_19_code 231 = .ok (.iconst 2, 1) := by decide +kernel
theorem dc_M_readReference_232 : decode prog_14_method_19_code 232 = .ok (.iadd, 1) := by decide +kernel
theorem dc_M_readReference_233 : decode prog_14_method_19_code 233 = .ok (.iload 6, 2) := by decide +kernel
theorem dc_M_readReference_235 : decode prog_14_method_19_code 235 = .ok (.invokevirtual 87, 3) := by decide +kernel
theorem mo_M_readHost : am_mo mt_M_readHost 3 := ⟨⟨by decide +kernel, by decide +kernel⟩, by decide +kernel, ⟨by decide +kernel, by decide +kernel⟩, (am_t8 201 rfl rfl), (am_t1 11 rfl rfl), by decide +kernel⟩
theorem im_M_readHost : Cond.instanceMethod mt_M_readHost.1 ∈ am_gw := (am_t8 200 rfl rfl)
theorem se_M_readHost : Cond.selects mt_M_readHost.1.cls mt_M_readHost.1 mt_M_readHost.1 ∈ am_gw := am_in (List.mem_append_left _ (by decide +kernel)) rfl
theorem ln_M_87 : am_ln "WebFinderModel" 87 mt_M_readHost.1 := Or.inl (am_t8 198 rfl rfl)
theorem dc_M_readReference_238 : decode prog_14_method_19_code 238 = .ok (.istore 10, 2) := by decide +kernel
theorem dc_M_readReference_240 : decode prog_14_method_19_code 240 = .ok (.iload 10, 2) := by decide +kernel
theorem dc_M_readReference_242 : decode prog_14_method_19_code 242 = .ok (.ifCond .ge 5, 3) := by decide +kernel
theorem dc_M_readReference_245 : decode prog_14_method_19_code 245 = .ok (.iconst 0, 1) := by decide +kernel
theorem dc_M_readReference_246 : decode prog_14_method_19_code 246 = .ok (.ireturn, 1) := by decide +kernel
theorem dc_M_readReference_247 : decode prog_14_method_19_code 247 = .ok (.aload_n 1, 1) := by decide +kernel
theorem dc_M_readReference_248 : decode prog_14_method_19_code 248 = .ok (.iload 10, 2) := by decide +kernel
theorem dc_M_readReference_250 : decode prog_14_method_19_code 250 = .ok (.iload 6, 2) := by decide +kernel
theorem dc_M_readReference_252 : decode prog_14_method_19_code 252 = .ok (.bipush 63, 2) := by decide +kernel
theorem dc_M_readReference_254 : decode prog_14_method_19_code 254 = .ok (.invokestatic 48, 3) := by decide +kernel
theorem dc_M_readReference_257 : decode prog_14_method_19_code 257 = .ok (.istore 9, 2) := by decide +kernel
theorem dc_M_readReference_259 : decode prog_14_method_19_code 259 = .ok (.aload_n 0, 1) := by decide +kernel
theorem dc_M_readReference_260 : decode prog_14_method_19_code 260 = .ok (.aload_n 1, 1) := by decide +kernel
theorem dc_M_readReference_261 : decode prog_14_method_19_code 261 = .ok (.iload 10, 2) := by decide +kernel
theorem dc_M_readReference_263 : decode prog_14_method_19_code 263 = .ok (.iload 9, 2) := by decide +kernel
theorem dc_M_readReference_265 : decode prog_14_method_19_code 265 = .ok (.aload_n 0, 1) := by decide +kernel
theorem dc_M_readReference_266 : decode prog_14_method_19_code 266 = .ok (.getfield 91, 3) := by decide +kernel
theorem fl_M_91 : am_fl "WebFinderModel" 91 12 12 := ⟨"WebFinderModel", tt_M, 90, rfl, by decide, Or.inl (am_t7 123 rfl rfl)⟩
theorem dc_M_readReference_269 : decode prog_14_method_19_code 269 = .ok (.iconst 0, 1) := by decide +kernel
theorem dc_M_readReference_270 : decode prog_14_method_19_code 270 = .ok (.invokestatic 94, 3) := by decide +kernel
theorem mo_M_unfold : am_mo mt_M_unfold 5 := ⟨⟨by decide +kernel, by decide +kernel⟩, by decide +kernel, ⟨by decide +kernel, by decide +kernel⟩, (am_t8 212 rfl rfl), (am_t1 11 rfl rfl), by decide +kernel⟩
theorem st_M_unfold : Cond.static mt_M_unfold.1 ∈ am_gw := (am_t8 211 rfl rfl)
theorem ln_M_94 : am_ln "WebFinderModel" 94 mt_M_unfold.1 := Or.inl (am_t8 210 rfl rfl)
theorem dc_M_readReference_273 : decode prog_14_method_19_code 273 = .ok (.putfield 98, 3) := by decide +kernel
theorem fp_M_readReference_98 : am_fp mt_M_readReference.1 98 12 17 (.int) := ⟨"WebFinderModel", tt_M, 90, rfl, by decide, ct_M 17 (by decide), Or.inl ⟨(am_t7 128 rfl rfl), Or.inl rfl⟩⟩
theorem dc_M_readReference_276 : decode prog_14_method_19_code 276 = .ok (.aload_n 0, 1) := by decide +kernel
theorem dc_M_readReference_277 : decode prog_14_method_19_code 277 = .ok (.iload 9, 2) := by decide +kernel
theorem dc_M_readReference_279 : decode prog_14_method_19_code 279 = .ok (.iload 6, 2) := by decide +kernel
theorem dc_M_readReference_281 : decode prog_14_method_19_code 281 = .ok (.if_icmp .ge 19, 3) := by decide +kernel
theorem dc_M_readReference_284 : decode prog_14_method_19_code 284 = .ok (.aload_n 1, 1) := by decide +kernel
theorem dc_M_readReference_285 : decode prog_14_method_19_code 285 = .ok (.iload 9, 2) := by decide +kernel
theorem dc_M_readReference_287 : decode prog_14_method_19_code 287 = .ok (.iload 6, 2) := by decide +kernel
theorem dc_M_readReference_289 : decode prog_14_method_19_code 289 = .ok (.aload_n 0, 1) := by decide +kernel
theorem dc_M_readReference_290 : decode prog_14_method_19_code 290 = .ok (.getfield 101, 3) := by decide +kernel
theorem fl_M_101 : am_fl "WebFinderModel" 101 12 13 := ⟨"WebFinderModel", tt_M, 90, rfl, by decide, Or.inl (am_t7 124 rfl rfl)⟩
theorem dc_M_readReference_293 : decode prog_14_method_19_code 293 = .ok (.iconst 0, 1) := by decide +kernel
theorem dc_M_readReference_294 : decode prog_14_method_19_code 294 = .ok (.invokestatic 94, 3) := by decide +kernel
theorem dc_M_readReference_297 : decode prog_14_method_19_code 297 = .ok (.goto 4, 3) := by decide +kernel
theorem dc_M_readReference_300 : decode prog_14_method_19_code 300 = .ok (.iconst (-1), 1) := by decide +kernel
theorem dc_M_readReference_301 : decode prog_14_method_19_code 301 = .ok (.putfield 104, 3) := by decide +kernel
theorem fp_M_readReference_104 : am_fp mt_M_readReference.1 104 12 18 (.int) := ⟨"WebFinderModel", tt_M, 90, rfl, by decide, ct_M 18 (by decide), Or.inl ⟨(am_t7 129 rfl rfl), Or.inl rfl⟩⟩
theorem dc_M_readReference_304 : decode prog_14_method_19_code 304 = .ok (.goto 21, 3) := by decide +kernel
theorem dc_M_readReference_307 : decode prog_14_method_19_code 307 = .ok (.iload 4, 2) := by decide +kernel
theorem dc_M_readReference_309 : decode prog_14_method_19_code 309 = .ok (.ifCond .ge 5, 3) := by decide +kernel
theorem dc_M_readReference_312 : decode prog_14_method_19_code 312 = .ok (.iconst 0, 1) := by decide +kernel
theorem dc_M_readReference_313 : decode prog_14_method_19_code 313 = .ok (.ireturn, 1) := by decide +kernel
theorem dc_M_readReference_314 : decode prog_14_method_19_code 314 = .ok (.aload_n 0, 1) := by decide +kernel
theorem dc_M_readReference_315 : decode prog_14_method_19_code 315 = .ok (.aload_n 1, 1) := by decide +kernel
theorem dc_M_readReference_316 : decode prog_14_method_19_code 316 = .ok (.iload 5, 2) := by decide +kernel
theorem dc_M_readReference_318 : decode prog_14_method_19_code 318 = .ok (.iload 6, 2) := by decide +kernel
theorem dc_M_readReference_320 : decode prog_14_method_19_code 320 = .ok (.iload 4, 2) := by decide +kernel
theorem dc_M_readReference_322 : decode prog_14_method_19_code 322 = .ok (.invokevirtual 107, 3) := by decide +kernel
theorem mo_M_readBeside : am_mo mt_M_readBeside 4 := ⟨⟨by decide +kernel, by decide +kernel⟩, by decide +kernel, ⟨by decide +kernel, by decide +kernel⟩, (am_t8 219 rfl rfl), (am_t1 11 rfl rfl), by decide +kernel⟩
theorem im_M_readBeside : Cond.instanceMethod mt_M_readBeside.1 ∈ am_gw := (am_t8 218 rfl rfl)
theorem se_M_readBeside : Cond.selects mt_M_readBeside.1.cls mt_M_readBeside.1 mt_M_readBeside.1 ∈ am_gw := am_in (List.mem_append_left _ (by decide +kernel)) rfl
theorem ln_M_107 : am_ln "WebFinderModel" 107 mt_M_readBeside.1 := Or.inl (am_t8 216 rfl rfl)
theorem dc_M_readReference_325 : decode prog_14_method_19_code 325 = .ok (.aload_n 0, 1) := by decide +kernel
theorem dc_M_readReference_326 : decode prog_14_method_19_code 326 = .ok (.invokevirtual 111, 3) := by decide +kernel
theorem mo_M_neaten : am_mo mt_M_neaten 0 := ⟨⟨by decide +kernel, by decide +kernel⟩, by decide +kernel, ⟨by decide +kernel, by decide +kernel⟩, (am_t8 227 rfl rfl), (am_t1 11 rfl rfl), by decide +kernel⟩
theorem im_M_neaten : Cond.instanceMethod mt_M_neaten.1 ∈ am_gw := (am_t8 226 rfl rfl)
theorem se_M_neaten : Cond.selects mt_M_neaten.1.cls mt_M_neaten.1 mt_M_neaten.1 ∈ am_gw := am_in (List.mem_append_left _ (by decide +kernel)) rfl
theorem ln_M_111 : am_ln "WebFinderModel" 111 mt_M_neaten.1 := Or.inl (am_t8 224 rfl rfl)
theorem dc_M_readReference_329 : decode prog_14_method_19_code 329 = .ok (.ireturn, 1) := by decide +kernel
theorem dc_M_isBlank_0 : decode prog_14_method_2_code 0 = .ok (.iload_n 0, 1) := by decide +kernel
theorem dc_M_isBlank_1 : decode prog_14_method_2_code 1 = .ok (.bipush 32, 2) := by decide +kernel
theorem dc_M_isBlank_3 : decode prog_14_method_2_code 3 = .ok (.if_icmp .eq 27, 3) := by decide +kernel
theorem dc_M_isBlank_6 : decode prog_14_method_2_code 6 = .ok (.iload_n 0, 1) := by decide +kernel
theorem dc_M_isBlank_7 : decode prog_14_method_2_code 7 = .ok (.bipush 9, 2) := by decide +kernel
theorem dc_M_isBlank_9 : decode prog_14_method_2_code 9 = .ok (.if_icmp .eq 21, 3) := by decide +kernel
theorem dc_M_isBlank_12 : decode prog_14_method_2_code 12 = .ok (.iload_n 0, 1) := by decide +kernel
theorem dc_M_isBlank_13 : decode prog_14_method_2_code 13 = .ok (.bipush 10, 2) := by decide +kernel
theorem dc_M_isBlank_15 : decode prog_14_method_2_code 15 = .ok (.if_icmp .eq 15, 3) := by decide +kernel
theorem dc_M_isBlank_18 : decode prog_14_method_2_code 18 = .ok (.iload_n 0, 1) := by decide +kernel
theorem dc_M_isBlank_19 : decode prog_14_method_2_code 19 = .ok (.bipush 12, 2) := by decide +kernel
theorem dc_M_isBlank_21 : decode prog_14_method_2_code 21 = .ok (.if_icmp .eq 9, 3) := by decide +kernel
theorem dc_M_isBlank_24 : decode prog_14_method_2_code 24 = .ok (.iload_n 0, 1) := by decide +kernel
theorem dc_M_isBlank_25 : decode prog_14_method_2_code 25 = .ok (.bipush 13, 2) := by decide +kernel
theorem dc_M_isBlank_27 : decode prog_14_method_2_code 27 = .ok (.if_icmp .ne 7, 3) := by decide +kernel
theorem dc_M_isBlank_30 : decode prog_14_method_2_code 30 = .ok (.iconst 1, 1) := by decide +kernel
theorem dc_M_isBlank_31 : decode prog_14_method_2_code 31 = .ok (.goto 4, 3) := by decide +kernel
theorem dc_M_isBlank_34 : decode prog_14_method_2_code 34 = .ok (.iconst 0, 1) := by decide +kernel
theorem dc_M_isBlank_35 : decode prog_14_method_2_code 35 = .ok (.ireturn, 1) := by decide +kernel
theorem dc_M_isOfReference_0 : decode prog_14_method_14_code 0 = .ok (.aload_n 0, 1) := by decide +kernel
theorem dc_M_isOfReference_1 : decode prog_14_method_14_code 1 = .ok (.iload_n 1, 1) := by decide +kernel
theorem dc_M_isOfReference_2 : decode prog_14_method_14_code 2 = .ok (.baload, 1) := by decide +kernel
theorem dc_M_isOfReference_3 : decode prog_14_method_14_code 3 = .ok (.istore_n 3, 1) := by decide +kernel
theorem dc_M_isOfReference_4 : decode prog_14_method_14_code 4 = .ok (.iload_n 3, 1) := by decide +kernel
theorem dc_M_isOfReference_5 : decode prog_14_method_14_code 5 = .ok (.bipush 33, 2) := by decide +kernel
theorem dc_M_isOfReference_7 : decode prog_14_method_14_code 7 = .ok (.if_icmp .lt 9, 3) := by decide +kernel
theorem dc_M_isOfReference_10 : decode prog_14_method_14_code 10 = .ok (.iload_n 3, 1) := by decide +kernel
theorem dc_M_isOfReference_11 : decode prog_14_method_14_code 11 = .ok (.bipush 126, 2) := by decide +kernel
theorem dc_M_isOfReference_13 : decode prog_14_method_14_code 13 = .ok (.if_icmp .le 5, 3) := by decide +kernel
theorem dc_M_isOfReference_16 : decode prog_14_method_14_code 16 = .ok (.iconst 0, 1) := by decide +kernel
theorem dc_M_isOfReference_17 : decode prog_14_method_14_code 17 = .ok (.ireturn, 1) := by decide +kernel
theorem dc_M_isOfReference_18 : decode prog_14_method_14_code 18 = .ok (.iload_n 3, 1) := by decide +kernel
theorem dc_M_isOfReference_19 : decode prog_14_method_14_code 19 = .ok (.bipush 37, 2) := by decide +kernel
theorem dc_M_isOfReference_21 : decode prog_14_method_14_code 21 = .ok (.if_icmp .ne 38, 3) := by decide +kernel
theorem dc_M_isOfReference_24 : decode prog_14_method_14_code 24 = .ok (.iload_n 1, 1) := by decide +kernel
theorem dc_M_isOfReference_25 : decode prog_14_method_14_code 25 = .ok (.iconst 2, 1) := by decide +kernel
theorem dc_M_isOfReference_26 : decode prog_14_method_14_code 26 = .ok (.iadd, 1) := by decide +kernel
theorem dc_M_isOfReference_27 : decode prog_14_method_14_code 27 = .ok (.iload_n 2, 1) := by decide +kernel
theorem dc_M_isOfReference_28 : decode prog_14_method_14_code 28 = .ok (.if_icmp .ge 29, 3) := by decide +kernel
theorem dc_M_isOfReference_31 : decode prog_14_method_14_code 31 = .ok (.aload_n 0, 1) := by decide +kernel
theorem dc_M_isOfReference_32 : decode prog_14_method_14_code 32 = .ok (.iload_n 1, 1) := by decide +kernel
theorem dc_M_isOfReference_33 : decode prog_14_method_14_code 33 = .ok (.iconst 1, 1) := by decide +kernel
theorem dc_M_isOfReference_34 : decode prog_14_method_14_code 34 = .ok (.iadd, 1) := by decide +kernel
theorem dc_M_isOfReference_35 : decode prog_14_method_14_code 35 = .ok (.baload, 1) := by decide +kernel
theorem dc_M_isOfReference_36 : decode prog_14_method_14_code 36 = .ok (.invokestatic 55, 3) := by decide +kernel
theorem mo_M_hex : am_mo mt_M_hex 1 := ⟨⟨by decide +kernel, by decide +kernel⟩, by decide +kernel, ⟨by decide +kernel, by decide +kernel⟩, (am_t8 185 rfl rfl), (am_t1 11 rfl rfl), by decide +kernel⟩
theorem st_M_hex : Cond.static mt_M_hex.1 ∈ am_gw := (am_t8 184 rfl rfl)
theorem ln_M_55 : am_ln "WebFinderModel" 55 mt_M_hex.1 := Or.inl (am_t8 183 rfl rfl)
theorem dc_M_isOfReference_39 : decode prog_14_method_14_code 39 = .ok (.ifCond .lt 18, 3) := by decide +kernel
theorem dc_M_isOfReference_42 : decode prog_14_method_14_code 42 = .ok (.aload_n 0, 1) := by decide +kernel
theorem dc_M_isOfReference_43 : decode prog_14_method_14_code 43 = .ok (.iload_n 1, 1) := by decide +kernel
theorem dc_M_isOfReference_44 : decode prog_14_method_14_code 44 = .ok (.iconst 2, 1) := by decide +kernel
theorem dc_M_isOfReference_45 : decode prog_14_method_14_code 45 = .ok (.iadd, 1) := by decide +kernel
theorem dc_M_isOfReference_46 : decode prog_14_method_14_code 46 = .ok (.baload, 1) := by decide +kernel
theorem dc_M_isOfReference_47 : decode prog_14_method_14_code 47 = .ok (.invokestatic 55, 3) := by decide +kernel
theorem dc_M_isOfReference_50 : decode prog_14_method_14_code 50 = .ok (.ifCond .lt 7, 3) := by decide +kernel
theorem dc_M_isOfReference_53 : decode prog_14_method_14_code 53 = .ok (.iconst 1, 1) := by decide +kernel
theorem dc_M_isOfReference_54 : decode prog_14_method_14_code 54 = .ok (.goto 4, 3) := by decide +kernel
theorem dc_M_isOfReference_57 : decode prog_14_method_14_code 57 = .ok (.iconst 0, 1) := by decide +kernel
theorem dc_M_isOfReference_58 : decode prog_14_method_14_code 58 = .ok (.ireturn, 1) := by decide +kernel
theorem dc_M_isOfReference_59 : decode prog_14_method_14_code 59 = .ok (.iload_n 3, 1) := by decide +kernel
theorem dc_M_isOfReference_60 : decode prog_14_method_14_code 60 = .ok (.bipush 34, 2) := by decide +kernel
theorem dc_M_isOfReference_62 : decode prog_14_method_14_code 62 = .ok (.if_icmp .eq 55, 3) := by decide +kernel
theorem dc_M_isOfReference_65 : decode prog_14_method_14_code 65 = .ok (.iload_n 3, 1) := by decide +kernel
theorem dc_M_isOfReference_66 : decode prog_14_method_14_code 66 = .ok (.bipush 60, 2) := by decide +kernel
theorem dc_M_isOfReference_68 : decode prog_14_method_14_code 68 = .ok (.if_icmp .eq 49, 3) := by decide +kernel
theorem dc_M_isOfReference_71 : decode prog_14_method_14_code 71 = .ok (.iload_n 3, 1) := by decide +kernel
theorem dc_M_isOfReference_72 : decode prog_14_method_14_code 72 = .ok (.bipush 62, 2) := by decide +kernel
theorem dc_M_isOfReference_74 : decode prog_14_method_14_code 74 = .ok (.if_icmp .eq 43, 3) := by decide +kernel
theorem dc_M_isOfReference_77 : decode prog_14_method_14_code 77 = .ok (.iload_n 3, 1) := by decide +kernel
theorem dc_M_isOfReference_78 : decode prog_14_method_14_code 78 = .ok (.bipush 92, 2) := by decide +kernel
theorem dc_M_isOfReference_80 : decode prog_14_method_14_code 80 = .ok (.if_icmp .eq 37, 3) := by decide +kernel
theorem dc_M_isOfReference_83 : decode prog_14_method_14_code 83 = .ok (.iload_n 3, 1) := by decide +kernel
theorem dc_M_isOfReference_84 : decode prog_14_method_14_code 84 = .ok (.bipush 94, 2) := by decide +kernel
theorem dc_M_isOfReference_86 : decode prog_14_method_14_code 86 = .ok (.if_icmp .eq 31, 3) := by decide +kernel
theorem dc_M_isOfReference_89 : decode prog_14_method_14_code 89 = .ok (.iload_n 3, 1) := by decide +kernel
theorem dc_M_isOfReference_90 : decode prog_14_method_14_code 90 = .ok (.bipush 96, 2) := by decide +kernel
theorem dc_M_isOfReference_92 : decode prog_14_method_14_code 92 = .ok (.if_icmp .eq 25, 3) := by decide +kernel
theorem dc_M_isOfReference_95 : decode prog_14_method_14_code 95 = .ok (.iload_n 3, 1) := by decide +kernel
theorem dc_M_isOfReference_96 : decode prog_14_method_14_code 96 = .ok (.bipush 123, 2) := by decide +kernel
theorem dc_M_isOfReference_98 : decode prog_14_method_14_code 98 = .ok (.if_icmp .eq 19, 3) := by decide +kernel
theorem dc_M_isOfReference_101 : decode prog_14_method_14_code 101 = .ok (.iload_n 3, 1) := by decide +kernel
theorem dc_M_isOfReference_102 : decode prog_14_method_14_code 102 = .ok (.bipush 124, 2) := by decide +kernel
theorem dc_M_isOfReference_104 : decode prog_14_method_14_code 104 = .ok (.if_icmp .eq 13, 3) := by decide +kernel
theorem dc_M_isOfReference_107 : decode prog_14_method_14_code 107 = .ok (.iload_n 3, 1) := by decide +kernel
theorem dc_M_isOfReference_108 : decode prog_14_method_14_code 108 = .ok (.bipush 125, 2) := by decide +kernel
theorem dc_M_isOfReference_110 : decode prog_14_method_14_code 110 = .ok (.if_icmp .eq 7, 3) := by decide +kernel
theorem dc_M_isOfReference_113 : decode prog_14_method_14_code 113 = .ok (.iconst 1, 1) := by decide +kernel
theorem dc_M_isOfReference_114 : decode prog_14_method_14_code 114 = .ok (.goto 4, 3) := by decide +kernel
theorem dc_M_isOfReference_117 : decode prog_14_method_14_code 117 = .ok (.iconst 0, 1) := by decide +kernel
theorem dc_M_isOfReference_118 : decode prog_14_method_14_code 118 = .ok (.ireturn, 1) := by decide +kernel
theorem dc_M_hex_0 : decode prog_14_method_6_code 0 = .ok (.iload_n 0, 1) := by decide +kernel
theorem dc_M_hex_1 : decode prog_14_method_6_code 1 = .ok (.invokestatic 7, 3) := by decide +kernel
theorem mo_M_lower : am_mo mt_M_lower 1 := ⟨⟨by decide +kernel, by decide +kernel⟩, by decide +kernel, ⟨by decide +kernel, by decide +kernel⟩, (am_t8 188 rfl rfl), (am_t1 11 rfl rfl), by decide +kernel⟩
theorem st_M_lower : Cond.static mt_M_lower.1 ∈ am_gw := (am_t8 187 rfl rfl)
theorem ln_M_7 : am_ln "WebFinderModel" 7 mt_M_lower.1 := Or.inl (am_t8 186 rfl rfl)
theorem dc_M_hex_4 : decode prog_14_method_6_code 4 = .ok (.istore_n 1, 1) := by decide +kernel
theorem dc_M_hex_5 : decode prog_14_method_6_code 5 = .ok (.iload_n 0, 1) := by decide +kernel
theorem dc_M_hex_6 : decode prog_14_method_6_code 6 = .ok (.invokestatic 11, 3) := by decide +kernel
theorem mo_M_isDigit : am_mo mt_M_isDigit 1 := ⟨⟨by decide +kernel, by decide +kernel⟩, by decide +kernel, ⟨by decide +kernel, by decide +kernel⟩, (am_t8 191 rfl rfl), (am_t1 11 rfl rfl), by decide +kernel⟩
theorem st_M_isDigit : Cond.static mt_M_isDigit.1 ∈ am_gw := (am_t8 190 rfl rfl)
theorem ln_M_11 : am_ln "WebFinderModel" 11 mt_M_isDigit.1 := Or.inl (am_t8 189 rfl rfl)
theorem dc_M_hex_9 : decode prog_14_method_6_code 9 = .ok (.ifCond .eq 10, 3) := by decide +kernel
theorem dc_M_hex_12 : decode prog_14_method_6_code 12 = .ok (.iload_n 0, 1) := by decide +kernel
theorem dc_M_hex_13 : decode prog_14_method_6_code 13 = .ok (.bipush 48, 2) := by decide +kernel
theorem dc_M_hex_15 : decode prog_14_method_6_code 15 = .ok (.isub, 1) := by decide +kernel
theorem dc_M_hex_16 : decode prog_14_method_6_code 16 = .ok (.goto 26, 3) := by decide +kernel
theorem dc_M_hex_19 : decode prog_14_method_6_code 19 = .ok (.iload_n 1, 1) := by decide +kernel
theorem dc_M_hex_20 : decode prog_14_method_6_code 20 = .ok (.bipush 97, 2) := by decide +kernel
theorem dc_M_hex_22 : decode prog_14_method_6_code 22 = .ok (.if_icmp .lt 19, 3) := by decide +kernel
theorem dc_M_hex_25 : decode prog_14_method_6_code 25 = .ok (.iload_n 1, 1) := by decide +kernel
theorem dc_M_hex_26 : decode prog_14_method_6_code 26 = .ok (.bipush 102, 2) := by decide +kernel
theorem dc_M_hex_28 : decode prog_14_method_6_code 28 = .ok (.if_icmp .gt 13, 3) := by decide +kernel
theorem dc_M_hex_31 : decode prog_14_method_6_code 31 = .ok (.iload_n 1, 1) := by decide +kernel
theorem dc_M_hex_32 : decode prog_14_method_6_code 32 = .ok (.bipush 97, 2) := by decide +kernel
theorem dc_M_hex_34 : decode prog_14_method_6_code 34 = .ok (.isub, 1) := by decide +kernel
theorem dc_M_hex_35 : decode prog_14_method_6_code 35 = .ok (.bipush 10, 2) := by decide +kernel
theorem dc_M_hex_37 : decode prog_14_method_6_code 37 = .ok (.iadd, 1) := by decide +kernel
theorem dc_M_hex_38 : decode prog_14_method_6_code 38 = .ok (.goto 4, 3) := by decide +kernel
theorem dc_M_hex_41 : decode prog_14_method_6_code 41 = .ok (.iconst (-1), 1) := by decide +kernel
theorem dc_M_hex_42 : decode prog_14_method_6_code 42 = .ok (.ireturn, 1) := by decide +kernel
theorem dc_M_lower_0 : decode prog_14_method_5_code 0 = .ok (.iload_n 0, 1) := by decide +kernel
theorem dc_M_lower_1 : decode prog_14_method_5_code 1 = .ok (.bipush 65, 2) := by decide +kernel
theorem dc_M_lower_3 : decode prog_14_method_5_code 3 = .ok (.if_icmp .lt 16, 3) := by decide +kernel
theorem dc_M_lower_6 : decode prog_14_method_5_code 6 = .ok (.iload_n 0, 1) := by decide +kernel
theorem dc_M_lower_7 : decode prog_14_method_5_code 7 = .ok (.bipush 90, 2) := by decide +kernel
theorem dc_M_lower_9 : decode prog_14_method_5_code 9 = .ok (.if_icmp .gt 10, 3) := by decide +kernel
theorem dc_M_lower_12 : decode prog_14_method_5_code 12 = .ok (.iload_n 0, 1) := by decide +kernel
theorem dc_M_lower_13 : decode prog_14_method_5_code 13 = .ok (.bipush 32, 2) := by decide +kernel
theorem dc_M_lower_15 : decode prog_14_method_5_code 15 = .ok (.iadd, 1) := by decide +kernel
theorem dc_M_lower_16 : decode prog_14_method_5_code 16 = .ok (.goto 4, 3) := by decide +kernel
theorem dc_M_lower_19 : decode prog_14_method_5_code 19 = .ok (.iload_n 0, 1) := by decide +kernel
theorem dc_M_lower_20 : decode prog_14_method_5_code 20 = .ok (.ireturn, 1) := by decide +kernel
theorem dc_M_isDigit_0 : decode prog_14_method_4_code 0 = .ok (.iload_n 0, 1) := by decide +kernel
theorem dc_M_isDigit_1 : decode prog_14_method_4_code 1 = .ok (.bipush 48, 2) := by decide +kernel
theorem dc_M_isDigit_3 : decode prog_14_method_4_code 3 = .ok (.if_icmp .lt 13, 3) := by decide +kernel
theorem dc_M_isDigit_6 : decode prog_14_method_4_code 6 = .ok (.iload_n 0, 1) := by decide +kernel
theorem dc_M_isDigit_7 : decode prog_14_method_4_code 7 = .ok (.bipush 57, 2) := by decide +kernel
theorem dc_M_isDigit_9 : decode prog_14_method_4_code 9 = .ok (.if_icmp .gt 7, 3) := by decide +kernel
theorem dc_M_isDigit_12 : decode prog_14_method_4_code 12 = .ok (.iconst 1, 1) := by decide +kernel
theorem dc_M_isDigit_13 : decode prog_14_method_4_code 13 = .ok (.goto 4, 3) := by decide +kernel
theorem dc_M_isDigit_16 : decode prog_14_method_4_code 16 = .ok (.iconst 0, 1) := by decide +kernel
theorem dc_M_isDigit_17 : decode prog_14_method_4_code 17 = .ok (.ireturn, 1) := by decide +kernel
theorem dc_M_isWord_0 : decode prog_14_method_8_code 0 = .ok (.aload_n 3, 1) := by decide +kernel
theorem dc_M_isWord_1 : decode prog_14_method_8_code 1 = .ok (.invokevirtual 15, 3) := by decide +kernel
theorem ln_M_15 : am_ln "WebFinderModel" 15 mt_JString_length.1 := Or.inl (am_t8 196 rfl rfl)
theorem dc_M_isWord_4 : decode prog_14_method_8_code 4 = .ok (.istore 4, 2) := by decide +kernel
theorem dc_M_isWord_6 : decode prog_14_method_8_code 6 = .ok (.iload_n 2, 1) := by decide +kernel
theorem dc_M_isWord_7 : decode prog_14_method_8_code 7 = .ok (.iload_n 1, 1) := by decide +kernel
theorem dc_M_isWord_8 : decode prog_14_method_8_code 8 = .ok (.isub, 1) := by decide +kernel
theorem dc_M_isWord_9 : decode prog_14_method_8_code 9 = .ok (.iload 4, 2) := by decide +kernel
theorem dc_M_isWord_11 : decode prog_14_method_8_code 11 = .ok (.if_icmp .ne 7, 3) := by decide +kernel
theorem dc_M_isWord_14 : decode prog_14_method_8_code 14 = .ok (.iconst 1, 1) := by decide +kernel
theorem dc_M_isWord_15 : decode prog_14_method_8_code 15 = .ok (.goto 4, 3) := by decide +kernel
theorem dc_M_isWord_18 : decode prog_14_method_8_code 18 = .ok (.iconst 0, 1) := by decide +kernel
theorem dc_M_isWord_19 : decode prog_14_method_8_code 19 = .ok (.istore 5, 2) := by decide +kernel
theorem dc_M_isWord_21 : decode prog_14_method_8_code 21 = .ok (.iconst 0, 1) := by decide +kernel
theorem dc_M_isWord_22 : decode prog_14_method_8_code 22 = .ok (.istore 6, 2) := by decide +kernel
theorem dc_M_isWord_24 : decode prog_14_method_8_code 24 = .ok (.iload 6, 2) := by decide +kernel
theorem dc_M_isWord_26 : decode prog_14_method_8_code 26 = .ok (.iload 4, 2) := by decide +kernel
theorem dc_M_isWord_28 : decode prog_14_method_8_code 28 = .ok (.if_icmp .ge 39, 3) := by decide +kernel
theorem dc_M_isWord_31 : decode prog_14_method_8_code 31 = .ok (.iload 5, 2) := by decide +kernel
theorem dc_M_isWord_33 : decode prog_14_method_8_code 33 = .ok (.ifCond .eq 34, 3) := by decide +kernel
theorem dc_M_isWord_36 : decode prog_14_method_8_code 36 = .ok (.aload_n 0, 1) := by decide +kernel
theorem dc_M_isWord_37 : decode prog_14_method_8_code 37 = .ok (.iload_n 1, 1) := by decide +kernel
theorem dc_M_isWord_38 : decode prog_14_method_8_code 38 = .ok (.iload 6, 2) := by decide +kernel
theorem dc_M_isWord_40 : decode prog_14_method_8_code 40 = .ok (.iadd, 1) := by decide +kernel
theorem dc_M_isWord_41 : decode prog_14_method_8_code 41 = .ok (.baload, 1) := by decide +kernel
theorem dc_M_isWord_42 : decode prog_14_method_8_code 42 = .ok (.invokestatic 7, 3) := by decide +kernel
theorem dc_M_isWord_45 : decode prog_14_method_8_code 45 = .ok (.aload_n 3, 1) := by decide +kernel
theorem dc_M_isWord_46 : decode prog_14_method_8_code 46 = .ok (.iload 6, 2) := by decide +kernel
theorem dc_M_isWord_48 : decode prog_14_method_8_code 48 = .ok (.invokevirtual 21, 3) := by decide +kernel
theorem ln_M_21 : am_ln "WebFinderModel" 21 mt_JString_charAt.1 := Or.inl (am_t8 197 rfl rfl)
theorem dc_M_isWord_51 : decode prog_14_method_8_code 51 = .ok (.if_icmp .ne 7, 3) := by decide +kernel
theorem dc_M_isWord_54 : decode prog_14_method_8_code 54 = .ok (.iconst 1, 1) := by decide +kernel
theorem dc_M_isWord_55 : decode prog_14_method_8_code 55 = .ok (.goto 4, 3) := by decide +kernel
theorem dc_M_isWord_58 : decode prog_14_method_8_code 58 = .ok (.iconst 0, 1) := by decide +kernel
theorem dc_M_isWord_59 : decode prog_14_method_8_code 59 = .ok (.istore 5, 2) := by decide +kernel
theorem dc_M_isWord_61 : decode prog_14_method_8_code 61 = .ok (.iinc 6 1, 3) := by decide +kernel
theorem dc_M_isWord_64 : decode prog_14_method_8_code 64 = .ok (.goto (-40), 3) := by decide +kernel
theorem dc_M_isWord_67 : decode prog_14_method_8_code 67 = .ok (.iload 5, 2) := by decide +kernel
theorem dc_M_isWord_69 : decode prog_14_method_8_code 69 = .ok (.ireturn, 1) := by decide +kernel
theorem dc_M_readHost_0 : decode prog_14_method_17_code 0 = .ok (.aload_n 1, 1) := by decide +kernel
theorem dc_M_readHost_1 : decode prog_14_method_17_code 1 = .ok (.iload_n 2, 1) := by decide +kernel
theorem dc_M_readHost_2 : decode prog_14_method_17_code 2 = .ok (.iload_n 3, 1) := by decide +kernel
theorem dc_M_readHost_3 : decode prog_14_method_17_code 3 = .ok (.bipush 47, 2) := by decide +kernel
theorem dc_M_readHost_5 : decode prog_14_method_17_code 5 = .ok (.invokestatic 48, 3) := by decide +kernel
theorem dc_M_readHost_8 : decode prog_14_method_17_code 8 = .ok (.istore 4, 2) := by decide +kernel
theorem dc_M_readHost_10 : decode prog_14_method_17_code 10 = .ok (.aload_n 1, 1) := by decide +kernel
theorem dc_M_readHost_11 : decode prog_14_method_17_code 11 = .ok (.iload_n 2, 1) := by decide +kernel
theorem dc_M_readHost_12 : decode prog_14_method_17_code 12 = .ok (.iload_n 3, 1) := by decide +kernel
theorem dc_M_readHost_13 : decode prog_14_method_17_code 13 = .ok (.bipush 63, 2) := by decide +kernel
theorem dc_M_readHost_15 : decode prog_14_method_17_code 15 = .ok (.invokestatic 48, 3) := by decide +kernel
theorem dc_M_readHost_18 : decode prog_14_method_17_code 18 = .ok (.istore 5, 2) := by decide +kernel
theorem dc_M_readHost_20 : decode prog_14_method_17_code 20 = .ok (.iload 4, 2) := by decide +kernel
theorem dc_M_readHost_22 : decode prog_14_method_17_code 22 = .ok (.iload 5, 2) := by decide +kernel
theorem dc_M_readHost_24 : decode prog_14_method_17_code 24 = .ok (.if_icmp .ge 8, 3) := by decide +kernel
theorem dc_M_readHost_27 : decode prog_14_method_17_code 27 = .ok (.iload 4, 2) := by decide +kernel
theorem dc_M_readHost_29 : decode prog_14_method_17_code 29 = .ok (.goto 5, 3) := by decide +kernel
theorem dc_M_readHost_32 : decode prog_14_method_17_code 32 = .ok (.iload 5, 2) := by decide +kernel
theorem dc_M_readHost_34 : decode prog_14_method_17_code 34 = .ok (.istore 6, 2) := by decide +kernel
theorem dc_M_readHost_36 : decode prog_14_method_17_code 36 = .ok (.iload_n 2, 1) := by decide +kernel
theorem dc_M_readHost_37 : decode prog_14_method_17_code 37 = .ok (.istore 7, 2) := by decide +kernel
theorem dc_M_readHost_39 : decode prog_14_method_17_code 39 = .ok (.iload 7, 2) := by decide +kernel
theorem dc_M_readHost_41 : decode prog_14_method_17_code 41 = .ok (.iload 6, 2) := by decide +kernel
theorem dc_M_readHost_43 : decode prog_14_method_17_code 43 = .ok (.if_icmp .ge 47, 3) := by decide +kernel
theorem dc_M_readHost_46 : decode prog_14_method_17_code 46 = .ok (.aload_n 1, 1) := by decide +kernel
theorem dc_M_readHost_47 : decode prog_14_method_17_code 47 = .ok (.iload 7, 2) := by decide +kernel
theorem dc_M_readHost_49 : decode prog_14_method_17_code 49 = .ok (.baload, 1) := by decide +kernel
theorem dc_M_readHost_50 : decode prog_14_method_17_code 50 = .ok (.invokestatic 58, 3) := by decide +kernel
theorem mo_M_isLetter : am_mo mt_M_isLetter 1 := ⟨⟨by decide +kernel, by decide +kernel⟩, by decide +kernel, ⟨by decide +kernel, by decide +kernel⟩, (am_t8 204 rfl rfl), (am_t1 11 rfl rfl), by decide +kernel⟩
theorem st_M_isLetter : Cond.static mt_M_isLetter.1 ∈ am_gw := (am_t8 203 rfl rfl)
theorem ln_M_58 : am_ln "WebFinderModel" 58 mt_M_isLetter.1 := Or.inl (am_t8 202 rfl rfl)
theorem dc_M_readHost_53 : decode prog_14_method_17_code 53 = .ok (.ifCond .ne 31, 3) := by decide +kernel
theorem dc_M_readHost_56 : decode prog_14_method_17_code 56 = .ok (.aload_n 1, 1) := by decide +kernel
theorem dc_M_readHost_57 : decode prog_14_method_17_code 57 = .ok (.iload 7, 2) := by decide +kernel
theorem dc_M_readHost_59 : decode prog_14_method_17_code 59 = .ok (.baload, 1) := by decide +kernel
theorem dc_M_readHost_60 : decode prog_14_method_17_code 60 = .ok (.invokestatic 11, 3) := by decide +kernel
theorem dc_M_readHost_63 : decode prog_14_method_17_code 63 = .ok (.ifCond .ne 21, 3) := by decide +kernel
theorem dc_M_readHost_66 : decode prog_14_method_17_code 66 = .ok (.aload_n 1, 1) := by decide +kernel
theorem dc_M_readHost_67 : decode prog_14_method_17_code 67 = .ok (.iload 7, 2) := by decide +kernel
theorem dc_M_readHost_69 : decode prog_14_method_17_code 69 = .ok (.baload, 1) := by decide +kernel
theorem dc_M_readHost_70 : decode prog_14_method_17_code 70 = .ok (.bipush 45, 2) := by decide +kernel
theorem dc_M_readHost_72 : decode prog_14_method_17_code 72 = .ok (.if_icmp .eq 12, 3) := by decide +kernel
theorem dc_M_readHost_75 : decode prog_14_method_17_code 75 = .ok (.aload_n 1, 1) := by decide +kernel
theorem dc_M_readHost_76 : decode prog_14_method_17_code 76 = .ok (.iload 7, 2) := by decide +kernel
theorem dc_M_readHost_78 : decode prog_14_method_17_code 78 = .ok (.baload, 1) := by decide +kernel
theorem dc_M_readHost_79 : decode prog_14_method_17_code 79 = .ok (.bipush 46, 2) := by decide +kernel
theorem dc_M_readHost_81 : decode prog_14_method_17_code 81 = .ok (.if_icmp .ne 9, 3) := by decide +kernel
theorem dc_M_readHost_84 : decode prog_14_method_17_code 84 = .ok (.iinc 7 1, 3) := by decide +kernel
theorem dc_M_readHost_87 : decode prog_14_method_17_code 87 = .ok (.goto (-48), 3) := by decide +kernel
theorem dc_M_readHost_90 : decode prog_14_method_17_code 90 = .ok (.iload 7, 2) := by decide +kernel
theorem dc_M_readHost_92 : decode prog_14_method_17_code 92 = .ok (.iload_n 2, 1) := by decide +kernel
theorem dc_M_readHost_93 : decode prog_14_method_17_code 93 = .ok (.if_icmp .eq 12, 3) := by decide +kernel
theorem dc_M_readHost_96 : decode prog_14_method_17_code 96 = .ok (.iload 7, 2) := by decide +kernel
theorem dc_M_readHost_98 : decode prog_14_method_17_code 98 = .ok (.iload_n 2, 1) := by decide +kernel
theorem dc_M_readHost_99 : decode prog_14_method_17_code 99 = .ok (.isub, 1) := by decide +kernel
theorem dc_M_readHost_100 : decode prog_14_method_17_code 100 = .ok (.bipush 60, 2) := by decide +kernel
theorem dc_M_readHost_102 : decode prog_14_method_17_code 102 = .ok (.if_icmp .le 5, 3) := by decide +kernel
theorem dc_M_readHost_105 : decode prog_14_method_17_code 105 = .ok (.iconst (-1), 1) := by decide +kernel
theorem dc_M_readHost_106 : decode prog_14_method_17_code 106 = .ok (.ireturn, 1) := by decide +kernel
theorem dc_M_readHost_107 : decode prog_14_method_17_code 107 = .ok (.aload_n 0, 1) := by decide +kernel
theorem dc_M_readHost_108 : decode prog_14_method_17_code 108 = .ok (.iconst 0, 1) := by decide +kernel
theorem dc_M_readHost_109 : decode prog_14_method_17_code 109 = .ok (.putfield 64, 3) := by decide +kernel
theorem fp_M_readHost_64 : am_fp mt_M_readHost.1 64 12 16 (.int) := ⟨"WebFinderModel", tt_M, 90, rfl, by decide, ct_M 16 (by decide), Or.inl ⟨(am_t7 127 rfl rfl), Or.inl rfl⟩⟩
theorem dc_M_readHost_112 : decode prog_14_method_17_code 112 = .ok (.iload_n 2, 1) := by decide +kernel
theorem dc_M_readHost_113 : decode prog_14_method_17_code 113 = .ok (.istore 8, 2) := by decide +kernel
theorem dc_M_readHost_115 : decode prog_14_method_17_code 115 = .ok (.iload 8, 2) := by decide +kernel
theorem dc_M_readHost_117 : decode prog_14_method_17_code 117 = .ok (.iload 7, 2) := by decide +kernel
theorem dc_M_readHost_119 : decode prog_14_method_17_code 119 = .ok (.if_icmp .ge 36, 3) := by decide +kernel
theorem dc_M_readHost_122 : decode prog_14_method_17_code 122 = .ok (.aload_n 0, 1) := by decide +kernel
theorem dc_M_readHost_123 : decode prog_14_method_17_code 123 = .ok (.getfield 67, 3) := by decide +kernel
theorem fl_M_67 : am_fl "WebFinderModel" 67 12 11 := ⟨"WebFinderModel", tt_M, 90, rfl, by decide, Or.inl (am_t7 122 rfl rfl)⟩
theorem dc_M_readHost_126 : decode prog_14_method_17_code 126 = .ok (.aload_n 0, 1) := by decide +kernel
theorem dc_M_readHost_127 : decode prog_14_method_17_code 127 = .ok (.getfield 64, 3) := by decide +kernel
theorem fl_M_64 : am_fl "WebFinderModel" 64 12 16 := ⟨"WebFinderModel", tt_M, 90, rfl, by decide, Or.inl (am_t7 127 rfl rfl)⟩
theorem dc_M_readHost_130 : decode prog_14_method_17_code 130 = .ok (.aload_n 1, 1) := by decide +kernel
theorem dc_M_readHost_131 : decode prog_14_method_17_code 131 = .ok (.iload 8, 2) := by decide +kernel
theorem dc_M_readHost_133 : decode prog_14_method_17_code 133 = .ok (.baload, 1) := by decide +kernel
theorem dc_M_readHost_134 : decode prog_14_method_17_code 134 = .ok (.invokestatic 7, 3) := by decide +kernel
theorem dc_M_readHost_137 : decode prog_14_method_17_code 137 = .ok (.i2b, 1) := by decide +kernel
theorem dc_M_readHost_138 : decode prog_14_method_17_code 138 = .ok (.bastore, 1) := by decide +kernel
theorem dc_M_readHost_139 : decode prog_14_method_17_code 139 = .ok (.aload_n 0, 1) := by decide +kernel
theorem dc_M_readHost_140 : decode prog_14_method_17_code 140 = .ok (.dup, 1) := by decide +kernel
theorem dc_M_readHost_141 : decode prog_14_method_17_code 141 = .ok (.getfield 64, 3) := by decide +kernel
theorem dc_M_readHost_144 : decode prog_14_method_17_code 144 = .ok (.iconst 1, 1) := by decide +kernel
theorem dc_M_readHost_145 : decode prog_14_method_17_code 145 = .ok (.iadd, 1) := by decide +kernel
theorem dc_M_readHost_146 : decode prog_14_method_17_code 146 = .ok (.putfield 64, 3) := by decide +kernel
theorem dc_M_readHost_149 : decode prog_14_method_17_code 149 = .ok (.iinc 8 1, 3) := by decide +kernel
theorem dc_M_readHost_152 : decode prog_14_method_17_code 152 = .ok (.goto (-37), 3) := by decide +kernel
theorem dc_M_readHost_155 : decode prog_14_method_17_code 155 = .ok (.iload 7, 2) := by decide +kernel
theorem dc_M_readHost_157 : decode prog_14_method_17_code 157 = .ok (.iload 6, 2) := by decide +kernel
theorem dc_M_readHost_159 : decode prog_14_method_17_code 159 = .ok (.if_icmp .ne 8, 3) := by decide +kernel
theorem dc_M_readHost_162 : decode prog_14_method_17_code 162 = .ok (.iload 6, 2) := by decide +kernel
theorem dc_M_readHost_164 : decode prog_14_method_17_code 164 = .ok (.goto 21, 3) := by decide +kernel
theorem dc_M_readHost_167 : decode prog_14_method_17_code 167 = .ok (.aload_n 0, 1) := by decide +kernel
theorem dc_M_readHost_168 : decode prog_14_method_17_code 168 = .ok (.aload_n 1, 1) := by decide +kernel
theorem dc_M_readHost_169 : decode prog_14_method_17_code 169 = .ok (.iload 7, 2) := by decide +kernel
theorem dc_M_readHost_171 : decode prog_14_method_17_code 171 = .ok (.iload 6, 2) := by decide +kernel
theorem dc_M_readHost_173 : decode prog_14_method_17_code 173 = .ok (.invokevirtual 70, 3) := by decide +kernel
theorem mo_M_readPort : am_mo mt_M_readPort 3 := ⟨⟨by decide +kernel, by decide +kernel⟩, by decide +kernel, ⟨by decide +kernel, by decide +kernel⟩, (am_t8 208 rfl rfl), (am_t1 11 rfl rfl), by decide +kernel⟩
theorem im_M_readPort : Cond.instanceMethod mt_M_readPort.1 ∈ am_gw := (am_t8 207 rfl rfl)
theorem se_M_readPort : Cond.selects mt_M_readPort.1.cls mt_M_readPort.1 mt_M_readPort.1 ∈ am_gw := am_in (List.mem_append_left _ (by decide +kernel)) rfl
theorem ln_M_70 : am_ln "WebFinderModel" 70 mt_M_readPort.1 := Or.inl (am_t8 205 rfl rfl)
theorem dc_M_readHost_176 : decode prog_14_method_17_code 176 = .ok (.ifCond .eq 8, 3) := by decide +kernel
theorem dc_M_readHost_179 : decode prog_14_method_17_code 179 = .ok (.iload 6, 2) := by decide +kernel
theorem dc_M_readHost_181 : decode prog_14_method_17_code 181 = .ok (.goto 4, 3) := by decide +kernel
theorem dc_M_readHost_184 : decode prog_14_method_17_code 184 = .ok (.iconst (-1), 1) := by decide +kernel
theorem dc_M_readHost_185 : decode prog_14_method_17_code 185 = .ok (.ireturn, 1) := by decide +kernel
theorem dc_M_isLetter_0 : decode prog_14_method_3_code 0 = .ok (.iload_n 0, 1) := by decide +kernel
theorem dc_M_isLetter_1 : decode prog_14_method_3_code 1 = .ok (.bipush 97, 2) := by decide +kernel
theorem dc_M_isLetter_3 : decode prog_14_method_3_code 3 = .ok (.if_icmp .lt 9, 3) := by decide +kernel
theorem dc_M_isLetter_6 : decode prog_14_method_3_code 6 = .ok (.iload_n 0, 1) := by decide +kernel
theorem dc_M_isLetter_7 : decode prog_14_method_3_code 7 = .ok (.bipush 122, 2) := by decide +kernel
theorem dc_M_isLetter_9 : decode prog_14_method_3_code 9 = .ok (.if_icmp .le 15, 3) := by decide +kernel
theorem dc_M_isLetter_12 : decode prog_14_method_3_code 12 = .ok (.iload_n 0, 1) := by decide +kernel
theorem dc_M_isLetter_13 : decode prog_14_method_3_code 13 = .ok (.bipush 65, 2) := by decide +kernel
theorem dc_M_isLetter_15 : decode prog_14_method_3_code 15 = .ok (.if_icmp .lt 13, 3) := by decide +kernel
theorem dc_M_isLetter_18 : decode prog_14_method_3_code 18 = .ok (.iload_n 0, 1) := by decide +kernel
theorem dc_M_isLetter_19 : decode prog_14_method_3_code 19 = .ok (.bipush 90, 2) := by decide +kernel
theorem dc_M_isLetter_21 : decode prog_14_method_3_code 21 = .ok (.if_icmp .gt 7, 3) := by decide +kernel
theorem dc_M_isLetter_24 : decode prog_14_method_3_code 24 = .ok (.iconst 1, 1) := by decide +kernel
theorem dc_M_isLetter_25 : decode prog_14_method_3_code 25 = .ok (.goto 4, 3) := by decide +kernel
theorem dc_M_isLetter_28 : decode prog_14_method_3_code 28 = .ok (.iconst 0, 1) := by decide +kernel
theorem dc_M_isLetter_29 : decode prog_14_method_3_code 29 = .ok (.ireturn, 1) := by decide +kernel
theorem dc_M_readPort_0 : decode prog_14_method_18_code 0 = .ok (.aload_n 1, 1) := by decide +kernel
theorem dc_M_readPort_1 : decode prog_14_method_18_code 1 = .ok (.iload_n 2, 1) := by decide +kernel
theorem dc_M_readPort_2 : decode prog_14_method_18_code 2 = .ok (.baload, 1) := by decide +kernel
theorem dc_M_readPort_3 : decode prog_14_method_18_code 3 = .ok (.bipush 58, 2) := by decide +kernel
theorem dc_M_readPort_5 : decode prog_14_method_18_code 5 = .ok (.if_icmp .ne 11, 3) := by decide +kernel
theorem dc_M_readPort_8 : decode prog_14_method_18_code 8 = .ok (.iload_n 3, 1) := by decide +kernel
theorem dc_M_readPort_9 : decode prog_14_method_18_code 9 = .ok (.iload_n 2, 1) := by decide +kernel
theorem dc_M_readPort_10 : decode prog_14_method_18_code 10 = .ok (.isub, 1) := by decide +kernel
theorem dc_M_readPort_11 : decode prog_14_method_18_code 11 = .ok (.bipush 6, 2) := by decide +kernel
theorem dc_M_readPort_13 : decode prog_14_method_18_code 13 = .ok (.if_icmp .le 5, 3) := by decide +kernel
theorem dc_M_readPort_16 : decode prog_14_method_18_code 16 = .ok (.iconst 0, 1) := by decide +kernel
theorem dc_M_readPort_17 : decode prog_14_method_18_code 17 = .ok (.ireturn, 1) := by decide +kernel
theorem dc_M_readPort_18 : decode prog_14_method_18_code 18 = .ok (.iconst 0, 1) := by decide +kernel
theorem dc_M_readPort_19 : decode prog_14_method_18_code 19 = .ok (.istore 4, 2) := by decide +kernel
theorem dc_M_readPort_21 : decode prog_14_method_18_code 21 = .ok (.iload_n 2, 1) := by decide +kernel
theorem dc_M_readPort_22 : decode prog_14_method_18_code 22 = .ok (.iconst 1, 1) := by decide +kernel
theorem dc_M_readPort_23 : decode prog_14_method_18_code 23 = .ok (.iadd, 1) := by decide +kernel
theorem dc_M_readPort_24 : decode prog_14_method_18_code 24 = .ok (.istore 5, 2) := by decide +kernel
theorem dc_M_readPort_26 : decode prog_14_method_18_code 26 = .ok (.iload 5, 2) := by decide +kernel
theorem dc_M_readPort_28 : decode prog_14_method_18_code 28 = .ok (.iload_n 3, 1) := by decide +kernel
theorem dc_M_readPort_29 : decode prog_14_method_18_code 29 = .ok (.if_icmp .ge 36, 3) := by decide +kernel
theorem dc_M_readPort_32 : decode prog_14_method_18_code 32 = .ok (.aload_n 1, 1) := by decide +kernel
theorem dc_M_readPort_33 : decode prog_14_method_18_code 33 = .ok (.iload 5, 2) := by decide +kernel
theorem dc_M_readPort_35 : decode prog_14_method_18_code 35 = .ok (.baload, 1) := by decide +kernel
theorem dc_M_readPort_36 : decode prog_14_method_18_code 36 = .ok (.invokestatic 11, 3) := by decide +kernel
theorem dc_M_readPort_39 : decode prog_14_method_18_code 39 = .ok (.ifCond .ne 5, 3) := by decide +kernel
theorem dc_M_readPort_42 : decode prog_14_method_18_code 42 = .ok (.iconst 0, 1) := by decide +kernel
theorem dc_M_readPort_43 : decode prog_14_method_18_code 43 = .ok (.ireturn, 1) := by decide +kernel
theorem dc_M_readPort_44 : decode prog_14_method_18_code 44 = .ok (.bipush 10, 2) := by decide +kernel
theorem dc_M_readPort_46 : decode prog_14_method_18_code 46 = .ok (.iload 4, 2) := by decide +kernel
theorem dc_M_readPort_48 : decode prog_14_method_18_code 48 = .ok (.imul, 1) := by decide +kernel
theorem dc_M_readPort_49 : decode prog_14_method_18_code 49 = .ok (.aload_n 1, 1) := by decide +kernel
theorem dc_M_readPort_50 : decode prog_14_method_18_code 50 = .ok (.iload 5, 2) := by decide +kernel
theorem dc_M_readPort_52 : decode prog_14_method_18_code 52 = .ok (.baload, 1) := by decide +kernel
theorem dc_M_readPort_53 : decode prog_14_method_18_code 53 = .ok (.iadd, 1) := by decide +kernel
theorem dc_M_readPort_54 : decode prog_14_method_18_code 54 = .ok (.bipush 48, 2) := by decide +kernel
theorem dc_M_readPort_56 : decode prog_14_method_18_code 56 = .ok (.isub, 1) := by decide +kernel
theorem dc_M_readPort_57 : decode prog_14_method_18_code 57 = .ok (.istore 4, 2) := by decide +kernel
theorem dc_M_readPort_59 : decode prog_14_method_18_code 59 = .ok (.iinc 5 1, 3) := by decide +kernel
theorem dc_M_readPort_62 : decode prog_14_method_18_code 62 = .ok (.goto (-36), 3) := by decide +kernel
theorem dc_M_readPort_65 : decode prog_14_method_18_code 65 = .ok (.iload 4, 2) := by decide +kernel
theorem dc_M_readPort_67 : decode prog_14_method_18_code 67 = .ok (.ldc 74, 2) := by decide +kernel
theorem cs_M_74 : Cond.constant "WebFinderModel" 74 (65535) ∈ am_gw := (am_t8 209 rfl rfl)
theorem dc_M_readPort_69 : decode prog_14_method_18_code 69 = .ok (.if_icmp .le 5, 3) := by decide +kernel
theorem dc_M_readPort_72 : decode prog_14_method_18_code 72 = .ok (.iconst 0, 1) := by decide +kernel
theorem dc_M_readPort_73 : decode prog_14_method_18_code 73 = .ok (.ireturn, 1) := by decide +kernel
theorem dc_M_readPort_74 : decode prog_14_method_18_code 74 = .ok (.iload_n 3, 1) := by decide +kernel
theorem dc_M_readPort_75 : decode prog_14_method_18_code 75 = .ok (.iload_n 2, 1) := by decide +kernel
theorem dc_M_readPort_76 : decode prog_14_method_18_code 76 = .ok (.iconst 1, 1) := by decide +kernel
theorem dc_M_readPort_77 : decode prog_14_method_18_code 77 = .ok (.iadd, 1) := by decide +kernel
theorem dc_M_readPort_78 : decode prog_14_method_18_code 78 = .ok (.if_icmp .le 100, 3) := by decide +kernel
theorem dc_M_readPort_81 : decode prog_14_method_18_code 81 = .ok (.iload 4, 2) := by decide +kernel
theorem dc_M_readPort_83 : decode prog_14_method_18_code 83 = .ok (.bipush 80, 2) := by decide +kernel
theorem dc_M_readPort_85 : decode prog_14_method_18_code 85 = .ok (.if_icmp .eq 93, 3) := by decide +kernel
theorem dc_M_readPort_88 : decode prog_14_method_18_code 88 = .ok (.aload_n 0, 1) := by decide +kernel
theorem dc_M_readPort_89 : decode prog_14_method_18_code 89 = .ok (.getfield 67, 3) := by decide +kernel
theorem dc_M_readPort_92 : decode prog_14_method_18_code 92 = .ok (.aload_n 0, 1) := by decide +kernel
theorem dc_M_readPort_93 : decode prog_14_method_18_code 93 = .ok (.getfield 64, 3) := by decide +kernel
theorem dc_M_readPort_96 : decode prog_14_method_18_code 96 = .ok (.bipush 58, 2) := by decide +kernel
theorem dc_M_readPort_98 : decode prog_14_method_18_code 98 = .ok (.bastore, 1) := by decide +kernel
theorem dc_M_readPort_99 : decode prog_14_method_18_code 99 = .ok (.aload_n 0, 1) := by decide +kernel
theorem dc_M_readPort_100 : decode prog_14_method_18_code 100 = .ok (.dup, 1) := by decide +kernel
theorem dc_M_readPort_101 : decode prog_14_method_18_code 101 = .ok (.getfield 64, 3) := by decide +kernel
theorem dc_M_readPort_104 : decode prog_14_method_18_code 104 = .ok (.iconst 1, 1) := by decide +kernel
theorem dc_M_readPort_105 : decode prog_14_method_18_code 105 = .ok (.iadd, 1) := by decide +kernel
theorem dc_M_readPort_106 : decode prog_14_method_18_code 106 = .ok (.putfield 64, 3) := by decide +kernel
theorem fp_M_readPort_64 : am_fp mt_M_readPort.1 64 12 16 (.int) := ⟨"WebFinderModel", tt_M, 90, rfl, by decide, ct_M 16 (by decide), Or.inl ⟨(am_t7 127 rfl rfl), Or.inl rfl⟩⟩
theorem dc_M_readPort_109 : decode prog_14_method_18_code 109 = .ok (.iconst 1, 1) := by decide +kernel
theorem dc_M_readPort_110 : decode prog_14_method_18_code 110 = .ok (.istore 5, 2) := by decide +kernel
theorem dc_M_readPort_112 : decode prog_14_method_18_code 112 = .ok (.iload 4, 2) := by decide +kernel
theorem dc_M_readPort_114 : decode prog_14_method_18_code 114 = .ok (.iload 5, 2) := by decide +kernel
theorem dc_M_readPort_116 : decode prog_14_method_18_code 116 = .ok (.idiv, 1) := by decide +kernel
theorem dc_M_readPort_117 : decode prog_14_method_18_code 117 = .ok (.bipush 9, 2) := by decide +kernel
theorem dc_M_readPort_119 : decode prog_14_method_18_code 119 = .ok (.if_icmp .le 13, 3) := by decide +kernel
theorem dc_M_readPort_122 : decode prog_14_method_18_code 122 = .ok (.iload 5, 2) := by decide +kernel
theorem dc_M_readPort_124 : decode prog_14_method_18_code 124 = .ok (.bipush 10, 2) := by decide +kernel
theorem dc_M_readPort_126 : decode prog_14_method_18_code 126 = .ok (.imul, 1) := by decide +kernel
theorem dc_M_readPort_127 : decode prog_14_method_18_code 127 = .ok (.istore 5, 2) := by decide +kernel
theorem dc_M_readPort_129 : decode prog_14_method_18_code 129 = .ok (.goto (-17), 3) := by decide +kernel
theorem dc_M_readPort_132 : decode prog_14_method_18_code 132 = .ok (.iload 5, 2) := by decide +kernel
theorem dc_M_readPort_134 : decode prog_14_method_18_code 134 = .ok (.ifCond .le 44, 3) := by decide +kernel
theorem dc_M_readPort_137 : decode prog_14_method_18_code 137 = .ok (.aload_n 0, 1) := by decide +kernel
theorem dc_M_readPort_138 : decode prog_14_method_18_code 138 = .ok (.getfield 67, 3) := by decide +kernel
theorem dc_M_readPort_141 : decode prog_14_method_18_code 141 = .ok (.aload_n 0, 1) := by decide +kernel
theorem dc_M_readPort_142 : decode prog_14_method_18_code 142 = .ok (.getfield 64, 3) := by decide +kernel
theorem dc_M_readPort_145 : decode prog_14_method_18_code 145 = .ok (.bipush 48, 2) := by decide +kernel
theorem dc_M_readPort_147 : decode prog_14_method_18_code 147 = .ok (.iload 4, 2) := by decide +kernel
theorem dc_M_readPort_149 : decode prog_14_method_18_code 149 = .ok (.iload 5, 2) := by decide +kernel
theorem dc_M_readPort_151 : decode prog_14_method_18_code 151 = .ok (.idiv, 1) := by decide +kernel
theorem dc_M_readPort_152 : decode prog_14_method_18_code 152 = .ok (.bipush 10, 2) := by decide +kernel
theorem dc_M_readPort_154 : decode prog_14_method_18_code 154 = .ok (.irem, 1) := by decide +kernel
theorem dc_M_readPort_155 : decode prog_14_method_18_code 155 = .ok (.iadd, 1) := by decide +kernel
theorem dc_M_readPort_156 : decode prog_14_method_18_code 156 = .ok (.i2b, 1) := by decide +kernel
theorem dc_M_readPort_157 : decode prog_14_method_18_code 157 = .ok (.bastore, 1) := by decide +kernel
theorem dc_M_readPort_158 : decode prog_14_method_18_code 158 = .ok (.aload_n 0, 1) := by decide +kernel
theorem dc_M_readPort_159 : decode prog_14_method_18_code 159 = .ok (.dup, 1) := by decide +kernel
theorem dc_M_readPort_160 : decode prog_14_method_18_code 160 = .ok (.getfield 64, 3) := by decide +kernel
theorem dc_M_readPort_163 : decode prog_14_method_18_code 163 = .ok (.iconst 1, 1) := by decide +kernel
theorem dc_M_readPort_164 : decode prog_14_method_18_code 164 = .ok (.iadd, 1) := by decide +kernel
theorem dc_M_readPort_165 : decode prog_14_method_18_code 165 = .ok (.putfield 64, 3) := by decide +kernel
theorem dc_M_readPort_168 : decode prog_14_method_18_code 168 = .ok (.iload 5, 2) := by decide +kernel
theorem dc_M_readPort_170 : decode prog_14_method_18_code 170 = .ok (.bipush 10, 2) := by decide +kernel
theorem dc_M_readPort_172 : decode prog_14_method_18_code 172 = .ok (.idiv, 1) := by decide +kernel
theorem dc_M_readPort_173 : decode prog_14_method_18_code 173 = .ok (.istore 5, 2) := by decide +kernel
theorem dc_M_readPort_175 : decode prog_14_method_18_code 175 = .ok (.goto (-43), 3) := by decide +kernel
theorem dc_M_readPort_178 : decode prog_14_method_18_code 178 = .ok (.iconst 1, 1) := by decide +kernel
theorem dc_M_readPort_179 : decode prog_14_method_18_code 179 = .ok (.ireturn, 1) := by decide +kernel
theorem dc_M_unfold_0 : decode prog_14_method_16_code 0 = .ok (.iload 4, 2) := by decide +kernel
theorem dc_M_unfold_2 : decode prog_14_method_16_code 2 = .ok (.istore 5, 2) := by decide +kernel
theorem dc_M_unfold_4 : decode prog_14_method_16_code 4 = .ok (.iload_n 1, 1) := by decide +kernel
theorem dc_M_unfold_5 : decode prog_14_method_16_code 5 = .ok (.istore 6, 2) := by decide +kernel
theorem dc_M_unfold_7 : decode prog_14_method_16_code 7 = .ok (.iload 6, 2) := by decide +kernel
theorem dc_M_unfold_9 : decode prog_14_method_16_code 9 = .ok (.iload_n 2, 1) := by decide +kernel
theorem dc_M_unfold_10 : decode prog_14_method_16_code 10 = .ok (.if_icmp .ge 229, 3) := by decide +kernel
theorem dc_M_unfold_13 : decode prog_14_method_16_code 13 = .ok (.aload_n 0, 1) := by decide +kernel
theorem dc_M_unfold_14 : decode prog_14_method_16_code 14 = .ok (.iload 6, 2) := by decide +kernel
theorem dc_M_unfold_16 : decode prog_14_method_16_code 16 = .ok (.baload, 1) := by decide +kernel
theorem dc_M_unfold_17 : decode prog_14_method_16_code 17 = .ok (.bipush 37, 2) := by decide +kernel
theorem dc_M_unfold_19 : decode prog_14_method_16_code 19 = .ok (.if_icmp .ne 39, 3) := by decide +kernel
theorem dc_M_unfold_22 : decode prog_14_method_16_code 22 = .ok (.iload 6, 2) := by decide +kernel
theorem dc_M_unfold_24 : decode prog_14_method_16_code 24 = .ok (.iconst 2, 1) := by decide +kernel
theorem dc_M_unfold_25 : decode prog_14_method_16_code 25 = .ok (.iadd, 1) := by decide +kernel
theorem dc_M_unfold_26 : decode prog_14_method_16_code 26 = .ok (.iload_n 2, 1) := by decide +kernel
theorem dc_M_unfold_27 : decode prog_14_method_16_code 27 = .ok (.if_icmp .ge 31, 3) := by decide +kernel
theorem dc_M_unfold_30 : decode prog_14_method_16_code 30 = .ok (.aload_n 0, 1) := by decide +kernel
theorem dc_M_unfold_31 : decode prog_14_method_16_code 31 = .ok (.iload 6, 2) := by decide +kernel
theorem dc_M_unfold_33 : decode prog_14_method_16_code 33 = .ok (.iconst 1, 1) := by decide +kernel
theorem dc_M_unfold_34 : decode prog_14_method_16_code 34 = .ok (.iadd, 1) := by decide +kernel
theorem dc_M_unfold_35 : decode prog_14_method_16_code 35 = .ok (.baload, 1) := by decide +kernel
theorem dc_M_unfold_36 : decode prog_14_method_16_code 36 = .ok (.invokestatic 55, 3) := by decide +kernel
theorem dc_M_unfold_39 : decode prog_14_method_16_code 39 = .ok (.ifCond .lt 19, 3) := by decide +kernel
theorem dc_M_unfold_42 : decode prog_14_method_16_code 42 = .ok (.aload_n 0, 1) := by decide +kernel
theorem dc_M_unfold_43 : decode prog_14_method_16_code 43 = .ok (.iload 6, 2) := by decide +kernel
theorem dc_M_unfold_45 : decode prog_14_method_16_code 45 = .ok (.iconst 2, 1) := by decide +kernel
theorem dc_M_unfold_46 : decode prog_14_method_16_code 46 = .ok (.iadd, 1) := by decide +kernel
theorem dc_M_unfold_47 : decode prog_14_method_16_code 47 = .ok (.baload, 1) := by decide +kernel
theorem dc_M_unfold_48 : decode prog_14_method_16_code 48 = .ok (.invokestatic 55, 3) := by decide +kernel
theorem dc_M_unfold_51 : decode prog_14_method_16_code 51 = .ok (.ifCond .lt 7, 3) := by decide +kernel
theorem dc_M_unfold_54 : decode prog_14_method_16_code 54 = .ok (.iconst 1, 1) := by decide +kernel
theorem dc_M_unfold_55 : decode prog_14_method_16_code 55 = .ok (.goto 4, 3) := by decide +kernel
theorem dc_M_unfold_58 : decode prog_14_method_16_code 58 = .ok (.iconst 0, 1) := by decide +kernel
theorem dc_M_unfold_59 : decode prog_14_method_16_code 59 = .ok (.istore 7, 2) := by decide +kernel
theorem dc_M_unfold_61 : decode prog_14_method_16_code 61 = .ok (.iload 7, 2) := by decide +kernel
theorem dc_M_unfold_63 : decode prog_14_method_16_code 63 = .ok (.ifCond .eq 28, 3) := by decide +kernel
theorem dc_M_unfold_66 : decode prog_14_method_16_code 66 = .ok (.bipush 16, 2) := by decide +kernel
theorem dc_M_unfold_68 : decode prog_14_method_16_code 68 = .ok (.aload_n 0, 1) := by decide +kernel
theorem dc_M_unfold_69 : decode prog_14_method_16_code 69 = .ok (.iload 6, 2) := by decide +kernel
theorem dc_M_unfold_71 : decode prog_14_method_16_code 71 = .ok (.iconst 1, 1) := by decide +kernel
theorem dc_M_unfold_72 : decode prog_14_method_16_code 72 = .ok (.iadd, 1) := by decide +kernel
theorem dc_M_unfold_73 : decode prog_14_method_16_code 73 = .ok (.baload, 1) := by decide +kernel
theorem dc_M_unfold_74 : decode prog_14_method_16_code 74 = .ok (.invokestatic 55, 3) := by decide +kernel
theorem dc_M_unfold_77 : decode prog_14_method_16_code 77 = .ok (.imul, 1) := by decide +kernel
theorem dc_M_unfold_78 : decode prog_14_method_16_code 78 = .ok (.aload_n 0, 1) := by decide +kernel
theorem dc_M_unfold_79 : decode prog_14_method_16_code 79 = .ok (.iload 6, 2) := by decide +kernel
theorem dc_M_unfold_81 : decode prog_14_method_16_code 81 = .ok (.iconst 2, 1) := by decide +kernel
theorem dc_M_unfold_82 : decode prog_14_method_16_code 82 = .ok (.iadd, 1) := by decide +kernel
theorem dc_M_unfold_83 : decode prog_14_method_16_code 83 = .ok (.baload, 1) := by decide +kernel
theorem dc_M_unfold_84 : decode prog_14_method_16_code 84 = .ok (.invokestatic 55, 3) := by decide +kernel
theorem dc_M_unfold_87 : decode prog_14_method_16_code 87 = .ok (.iadd, 1) := by decide +kernel
theorem dc_M_unfold_88 : decode prog_14_method_16_code 88 = .ok (.goto 4, 3) := by decide +kernel
theorem dc_M_unfold_91 : decode prog_14_method_16_code 91 = .ok (.iconst 0, 1) := by decide +kernel
theorem dc_M_unfold_92 : decode prog_14_method_16_code 92 = .ok (.istore 8, 2) := by decide +kernel
theorem dc_M_unfold_94 : decode prog_14_method_16_code 94 = .ok (.iload 7, 2) := by decide +kernel
theorem dc_M_unfold_96 : decode prog_14_method_16_code 96 = .ok (.ifCond .eq 103, 3) := by decide +kernel
theorem dc_M_unfold_99 : decode prog_14_method_16_code 99 = .ok (.iload 8, 2) := by decide +kernel
theorem dc_M_unfold_101 : decode prog_14_method_16_code 101 = .ok (.invokestatic 61, 3) := by decide +kernel
theorem mo_M_isPlainByte : am_mo mt_M_isPlainByte 1 := ⟨⟨by decide +kernel, by decide +kernel⟩, by decide +kernel, ⟨by decide +kernel, by decide +kernel⟩, (am_t8 215 rfl rfl), (am_t1 11 rfl rfl), by decide +kernel⟩
theorem st_M_isPlainByte : Cond.static mt_M_isPlainByte.1 ∈ am_gw := (am_t8 214 rfl rfl)
theorem ln_M_61 : am_ln "WebFinderModel" 61 mt_M_isPlainByte.1 := Or.inl (am_t8 213 rfl rfl)
theorem dc_M_unfold_104 : decode prog_14_method_16_code 104 = .ok (.ifCond .ne 95, 3) := by decide +kernel
theorem dc_M_unfold_107 : decode prog_14_method_16_code 107 = .ok (.aload_n 3, 1) := by decide +kernel
theorem dc_M_unfold_108 : decode prog_14_method_16_code 108 = .ok (.iload 5, 2) := by decide +kernel
theorem dc_M_unfold_110 : decode prog_14_method_16_code 110 = .ok (.bipush 37, 2) := by decide +kernel
theorem dc_M_unfold_112 : decode prog_14_method_16_code 112 = .ok (.bastore, 1) := by decide +kernel
theorem dc_M_unfold_113 : decode prog_14_method_16_code 113 = .ok (.aload_n 3, 1) := by decide +kernel
theorem dc_M_unfold_114 : decode prog_14_method_16_code 114 = .ok (.iload 5, 2) := by decide +kernel
theorem dc_M_unfold_116 : decode prog_14_method_16_code 116 = .ok (.iconst 1, 1) := by decide +kernel
theorem dc_M_unfold_117 : decode prog_14_method_16_code 117 = .ok (.iadd, 1) := by decide +kernel
theorem dc_M_unfold_118 : decode prog_14_method_16_code 118 = .ok (.aload_n 0, 1) := by decide +kernel
theorem dc_M_unfold_119 : decode prog_14_method_16_code 119 = .ok (.iload 6, 2) := by decide +kernel
theorem dc_M_unfold_121 : decode prog_14_method_16_code 121 = .ok (.iconst 1, 1) := by decide +kernel
theorem dc_M_unfold_122 : decode prog_14_method_16_code 122 = .ok (.iadd, 1) := by decide +kernel
theorem dc_M_unfold_123 : decode prog_14_method_16_code 123 = .ok (.baload, 1) := by decide +kernel
theorem dc_M_unfold_124 : decode prog_14_method_16_code 124 = .ok (.invokestatic 58, 3) := by decide +kernel
theorem dc_M_unfold_127 : decode prog_14_method_16_code 127 = .ok (.ifCond .eq 18, 3) := by decide +kernel
theorem dc_M_unfold_130 : decode prog_14_method_16_code 130 = .ok (.aload_n 0, 1) := by decide +kernel
theorem dc_M_unfold_131 : decode prog_14_method_16_code 131 = .ok (.iload 6, 2) := by decide +kernel
theorem dc_M_unfold_133 : decode prog_14_method_16_code 133 = .ok (.iconst 1, 1) := by decide +kernel
theorem dc_M_unfold_134 : decode prog_14_method_16_code 134 = .ok (.iadd, 1) := by decide +kernel
theorem dc_M_unfold_135 : decode prog_14_method_16_code 135 = .ok (.baload, 1) := by decide +kernel
theorem dc_M_unfold_136 : decode prog_14_method_16_code 136 = .ok (.invokestatic 7, 3) := by decide +kernel
theorem dc_M_unfold_139 : decode prog_14_method_16_code 139 = .ok (.bipush 32, 2) := by decide +kernel
theorem dc_M_unfold_141 : decode prog_14_method_16_code 141 = .ok (.isub, 1) := by decide +kernel
theorem dc_M_unfold_142 : decode prog_14_method_16_code 142 = .ok (.goto 9, 3) := by decide +kernel
theorem dc_M_unfold_145 : decode prog_14_method_16_code 145 = .ok (.aload_n 0, 1) := by decide +kernel
theorem dc_M_unfold_146 : decode prog_14_method_16_code 146 = .ok (.iload 6, 2) := by decide +kernel
theorem dc_M_unfold_148 : decode prog_14_method_16_code 148 = .ok (.iconst 1, 1) := by decide +kernel
theorem dc_M_unfold_149 : decode prog_14_method_16_code 149 = .ok (.iadd, 1) := by decide +kernel
theorem dc_M_unfold_150 : decode prog_14_method_16_code 150 = .ok (.baload, 1) := by decide +kernel
theorem dc_M_unfold_151 : decode prog_14_method_16_code 151 = .ok (.i2b, 1) := by decide +kernel
theorem dc_M_unfold_152 : decode prog_14_method_16_code 152 = .ok (.bastore, 1) := by decide +kernel
theorem dc_M_unfold_153 : decode prog_14_method_16_code 153 = .ok (.aload_n 3, 1) := by decide +kernel
theorem dc_M_unfold_154 : decode prog_14_method_16_code 154 = .ok (.iload 5, 2) := by decide +kernel
theorem dc_M_unfold_156 : decode prog_14_method_16_code 156 = .ok (.iconst 2, 1) := by decide +kernel
theorem dc_M_unfold_157 : decode prog_14_method_16_code 157 = .ok (.iadd, 1) := by decide +kernel
theorem dc_M_unfold_158 : decode prog_14_method_16_code 158 = .ok (.aload_n 0, 1) := by decide +kernel
theorem dc_M_unfold_159 : decode prog_14_method_16_code 159 = .ok (.iload 6, 2) := by decide +kernel
theorem dc_M_unfold_161 : decode prog_14_method_16_code 161 = .ok (.iconst 2, 1) := by decide +kernel
theorem dc_M_unfold_162 : decode prog_14_method_16_code 162 = .ok (.iadd, 1) := by decide +kernel
theorem dc_M_unfold_163 : decode prog_14_method_16_code 163 = .ok (.baload, 1) := by decide +kernel
theorem dc_M_unfold_164 : decode prog_14_method_16_code 164 = .ok (.invokestatic 58, 3) := by decide +kernel
theorem dc_M_unfold_167 : decode prog_14_method_16_code 167 = .ok (.ifCond .eq 18, 3) := by decide +kernel
theorem dc_M_unfold_170 : decode prog_14_method_16_code 170 = .ok (.aload_n 0, 1) := by decide +kernel
theorem dc_M_unfold_171 : decode prog_14_method_16_code 171 = .ok (.iload 6, 2) := by decide +kernel
theorem dc_M_unfold_173 : decode prog_14_method_16_code 173 = .ok (.iconst 2, 1) := by decide +kernel
theorem dc_M_unfold_174 : decode prog_14_method_16_code 174 = .ok (.iadd, 1) := by decide +kernel
theorem dc_M_unfold_175 : decode prog_14_method_16_code 175 = .ok (.baload, 1) := by decide +kernel
theorem dc_M_unfold_176 : decode prog_14_method_16_code 176 = .ok (.invokestatic 7, 3) := by decide +kernel
theorem dc_M_unfold_179 : decode prog_14_method_16_code 179 = .ok (.bipush 32, 2) := by decide +kernel
theorem dc_M_unfold_181 : decode prog_14_method_16_code 181 = .ok (.isub, 1) := by decide +kernel
theorem dc_M_unfold_182 : decode prog_14_method_16_code 182 = .ok (.goto 9, 3) := by decide +kernel
theorem dc_M_unfold_185 : decode prog_14_method_16_code 185 = .ok (.aload_n 0, 1) := by decide +kernel
theorem dc_M_unfold_186 : decode prog_14_method_16_code 186 = .ok (.iload 6, 2) := by decide +kernel
theorem dc_M_unfold_188 : decode prog_14_method_16_code 188 = .ok (.iconst 2, 1) := by decide +kernel
theorem dc_M_unfold_189 : decode prog_14_method_16_code 189 = .ok (.iadd, 1) := by decide +kernel
theorem dc_M_unfold_190 : decode prog_14_method_16_code 190 = .ok (.baload, 1) := by decide +kernel
theorem dc_M_unfold_191 : decode prog_14_method_16_code 191 = .ok (.i2b, 1) := by decide +kernel
theorem dc_M_unfold_192 : decode prog_14_method_16_code 192 = .ok (.bastore, 1) := by decide +kernel
theorem dc_M_unfold_193 : decode prog_14_method_16_code 193 = .ok (.iinc 5 3, 3) := by decide +kernel
theorem dc_M_unfold_196 : decode prog_14_method_16_code 196 = .ok (.goto 25, 3) := by decide +kernel
theorem dc_M_unfold_199 : decode prog_14_method_16_code 199 = .ok (.aload_n 3, 1) := by decide +kernel
theorem dc_M_unfold_200 : decode prog_14_method_16_code 200 = .ok (.iload 5, 2) := by decide +kernel
theorem dc_M_unfold_202 : decode prog_14_method_16_code 202 = .ok (.iload 7, 2) := by decide +kernel
theorem dc_M_unfold_204 : decode prog_14_method_16_code 204 = .ok (.ifCond .eq 9, 3) := by decide +kernel
theorem dc_M_unfold_207 : decode prog_14_method_16_code 207 = .ok (.iload 8, 2) := by decide +kernel
theorem dc_M_unfold_209 : decode prog_14_method_16_code 209 = .ok (.i2b, 1) := by decide +kernel
theorem dc_M_unfold_210 : decode prog_14_method_16_code 210 = .ok (.goto 7, 3) := by decide +kernel
theorem dc_M_unfold_213 : decode prog_14_method_16_code 213 = .ok (.aload_n 0, 1) := by decide +kernel
theorem dc_M_unfold_214 : decode prog_14_method_16_code 214 = .ok (.iload 6, 2) := by decide +kernel
theorem dc_M_unfold_216 : decode prog_14_method_16_code 216 = .ok (.baload, 1) := by decide +kernel
theorem dc_M_unfold_217 : decode prog_14_method_16_code 217 = .ok (.bastore, 1) := by decide +kernel
theorem dc_M_unfold_218 : decode prog_14_method_16_code 218 = .ok (.iinc 5 1, 3) := by decide +kernel
theorem dc_M_unfold_221 : decode prog_14_method_16_code 221 = .ok (.iload 6, 2) := by decide +kernel
theorem dc_M_unfold_223 : decode prog_14_method_16_code 223 = .ok (.iload 7, 2) := by decide +kernel
theorem dc_M_unfold_225 : decode prog_14_method_16_code 225 = .ok (.ifCond .eq 7, 3) := by decide +kernel
theorem dc_M_unfold_228 : decode prog_14_method_16_code 228 = .ok (.iconst 3, 1) := by decide +kernel
theorem dc_M_unfold_229 : decode prog_14_method_16_code 229 = .ok (.goto 4, 3) := by decide +kernel
theorem dc_M_unfold_232 : decode prog_14_method_16_code 232 = .ok (.iconst 1, 1) := by decide +kernel
theorem dc_M_unfold_233 : decode prog_14_method_16_code 233 = .ok (.iadd, 1) := by decide +kernel
theorem dc_M_unfold_234 : decode prog_14_method_16_code 234 = .ok (.istore 6, 2) := by decide +kernel
theorem dc_M_unfold_236 : decode prog_14_method_16_code 236 = .ok (.goto (-229), 3) := by decide +kernel
theorem dc_M_unfold_239 : decode prog_14_method_16_code 239 = .ok (.iload 5, 2) := by decide +kernel
theorem dc_M_unfold_241 : decode prog_14_method_16_code 241 = .ok (.ireturn, 1) := by decide +kernel
theorem dc_M_isPlainByte_0 : decode prog_14_method_15_code 0 = .ok (.iload_n 0, 1) := by decide +kernel
theorem dc_M_isPlainByte_1 : decode prog_14_method_15_code 1 = .ok (.invokestatic 58, 3) := by decide +kernel
theorem dc_M_isPlainByte_4 : decode prog_14_method_15_code 4 = .ok (.ifCond .ne 34, 3) := by decide +kernel
theorem dc_M_isPlainByte_7 : decode prog_14_method_15_code 7 = .ok (.iload_n 0, 1) := by decide +kernel
theorem dc_M_isPlainByte_8 : decode prog_14_method_15_code 8 = .ok (.invokestatic 11, 3) := by decide +kernel
theorem dc_M_isPlainByte_11 : decode prog_14_method_15_code 11 = .ok (.ifCond .ne 27, 3) := by decide +kernel
theorem dc_M_isPlainByte_14 : decode prog_14_method_15_code 14 = .ok (.iload_n 0, 1) := by decide +kernel
theorem dc_M_isPlainByte_15 : decode prog_14_method_15_code 15 = .ok (.bipush 45, 2) := by decide +kernel
theorem dc_M_isPlainByte_17 : decode prog_14_method_15_code 17 = .ok (.if_icmp .eq 21, 3) := by decide +kernel
theorem dc_M_isPlainByte_20 : decode prog_14_method_15_code 20 = .ok (.iload_n 0, 1) := by decide +kernel
theorem dc_M_isPlainByte_21 : decode prog_14_method_15_code 21 = .ok (.bipush 46, 2) := by decide +kernel
theorem dc_M_isPlainByte_23 : decode prog_14_method_15_code 23 = .ok (.if_icmp .eq 15, 3) := by decide +kernel
theorem dc_M_isPlainByte_26 : decode prog_14_method_15_code 26 = .ok (.iload_n 0, 1) := by decide +kernel
theorem dc_M_isPlainByte_27 : decode prog_14_method_15_code 27 = .ok (.bipush 95, 2) := by decide +kernel
theorem dc_M_isPlainByte_29 : decode prog_14_method_15_code 29 = .ok (.if_icmp .eq 9, 3) := by decide +kernel
theorem dc_M_isPlainByte_32 : decode prog_14_method_15_code 32 = .ok (.iload_n 0, 1) := by decide +kernel
theorem dc_M_isPlainByte_33 : decode prog_14_method_15_code 33 = .ok (.bipush 126, 2) := by decide +kernel
theorem dc_M_isPlainByte_35 : decode prog_14_method_15_code 35 = .ok (.if_icmp .ne 7, 3) := by decide +kernel
theorem dc_M_isPlainByte_38 : decode prog_14_method_15_code 38 = .ok (.iconst 1, 1) := by decide +kernel
theorem dc_M_isPlainByte_39 : decode prog_14_method_15_code 39 = .ok (.goto 4, 3) := by decide +kernel
theorem dc_M_isPlainByte_42 : decode prog_14_method_15_code 42 = .ok (.iconst 0, 1) := by decide +kernel
theorem dc_M_isPlainByte_43 : decode prog_14_method_15_code 43 = .ok (.ireturn, 1) := by decide +kernel
theorem dc_M_readBeside_0 : decode prog_14_method_20_code 0 = .ok (.aload_n 0, 1) := by decide +kernel
theorem dc_M_readBeside_1 : decode prog_14_method_20_code 1 = .ok (.getfield 31, 3) := by decide +kernel
theorem fl_M_31 : am_fl "WebFinderModel" 31 12 6 := ⟨"WebFinderModel", tt_M, 90, rfl, by decide, Or.inl (am_t7 117 rfl rfl)⟩
theorem dc_M_readBeside_4 : decode prog_14_method_20_code 4 = .ok (.iload 4, 2) := by decide +kernel
theorem dc_M_readBeside_6 : decode prog_14_method_20_code 6 = .ok (.iaload, 1) := by decide +kernel
theorem dc_M_readBeside_7 : decode prog_14_method_20_code 7 = .ok (.istore 5, 2) := by decide +kernel
theorem dc_M_readBeside_9 : decode prog_14_method_20_code 9 = .ok (.iload 5, 2) := by decide +kernel
theorem dc_M_readBeside_11 : decode prog_14_method_20_code 11 = .ok (.aload_n 0, 1) := by decide +kernel
theorem dc_M_readBeside_12 : decode prog_14_method_20_code 12 = .ok (.getfield 35, 3) := by decide +kernel
theorem fl_M_35 : am_fl "WebFinderModel" 35 12 7 := ⟨"WebFinderModel", tt_M, 90, rfl, by decide, Or.inl (am_t7 118 rfl rfl)⟩
theorem dc_M_readBeside_15 : decode prog_14_method_20_code 15 = .ok (.iload 4, 2) := by decide +kernel
theorem dc_M_readBeside_17 : decode prog_14_method_20_code 17 = .ok (.iaload, 1) := by decide +kernel
theorem dc_M_readBeside_18 : decode prog_14_method_20_code 18 = .ok (.iadd, 1) := by decide +kernel
theorem dc_M_readBeside_19 : decode prog_14_method_20_code 19 = .ok (.istore 6, 2) := by decide +kernel
theorem dc_M_readBeside_21 : decode prog_14_method_20_code 21 = .ok (.aload_n 0, 1) := by decide +kernel
theorem dc_M_readBeside_22 : decode prog_14_method_20_code 22 = .ok (.iload 4, 2) := by decide +kernel
theorem dc_M_readBeside_24 : decode prog_14_method_20_code 24 = .ok (.invokevirtual 52, 3) := by decide +kernel
theorem mo_M_hostEnd : am_mo mt_M_hostEnd 1 := ⟨⟨by decide +kernel, by decide +kernel⟩, by decide +kernel, ⟨by decide +kernel, by decide +kernel⟩, (am_t8 223 rfl rfl), (am_t1 11 rfl rfl), by decide +kernel⟩
theorem im_M_hostEnd : Cond.instanceMethod mt_M_hostEnd.1 ∈ am_gw := (am_t8 222 rfl rfl)
theorem se_M_hostEnd : Cond.selects mt_M_hostEnd.1.cls mt_M_hostEnd.1 mt_M_hostEnd.1 ∈ am_gw := am_in (List.mem_append_left _ (by decide +kernel)) rfl
theorem ln_M_52 : am_ln "WebFinderModel" 52 mt_M_hostEnd.1 := Or.inl (am_t8 220 rfl rfl)
theorem dc_M_readBeside_27 : decode prog_14_method_20_code 27 = .ok (.istore 7, 2) := by decide +kernel
theorem dc_M_readBeside_29 : decode prog_14_method_20_code 29 = .ok (.aload_n 0, 1) := by decide +kernel
theorem dc_M_readBeside_30 : decode prog_14_method_20_code 30 = .ok (.iconst 0, 1) := by decide +kernel
theorem dc_M_readBeside_31 : decode prog_14_method_20_code 31 = .ok (.putfield 64, 3) := by decide +kernel
theorem fp_M_readBeside_64 : am_fp mt_M_readBeside.1 64 12 16 (.int) := ⟨"WebFinderModel", tt_M, 90, rfl, by decide, ct_M 16 (by decide), Or.inl ⟨(am_t7 127 rfl rfl), Or.inl rfl⟩⟩
theorem dc_M_readBeside_34 : decode prog_14_method_20_code 34 = .ok (.iload 5, 2) := by decide +kernel
theorem dc_M_readBeside_36 : decode prog_14_method_20_code 36 = .ok (.bipush 7, 2) := by decide +kernel
theorem dc_M_readBeside_38 : decode prog_14_method_20_code 38 = .ok (.iadd, 1) := by decide +kernel
theorem dc_M_readBeside_39 : decode prog_14_method_20_code 39 = .ok (.istore 8, 2) := by decide +kernel
theorem dc_M_readBeside_41 : decode prog_14_method_20_code 41 = .ok (.iload 8, 2) := by decide +kernel
theorem dc_M_readBeside_43 : decode prog_14_method_20_code 43 = .ok (.iload 7, 2) := by decide +kernel
theorem dc_M_readBeside_45 : decode prog_14_method_20_code 45 = .ok (.if_icmp .ge 35, 3) := by decide +kernel
theorem dc_M_readBeside_48 : decode prog_14_method_20_code 48 = .ok (.aload_n 0, 1) := by decide +kernel
theorem dc_M_readBeside_49 : decode prog_14_method_20_code 49 = .ok (.getfield 67, 3) := by decide +kernel
theorem dc_M_readBeside_52 : decode prog_14_method_20_code 52 = .ok (.aload_n 0, 1) := by decide +kernel
theorem dc_M_readBeside_53 : decode prog_14_method_20_code 53 = .ok (.getfield 64, 3) := by decide +kernel
theorem dc_M_readBeside_56 : decode prog_14_method_20_code 56 = .ok (.aload_n 0, 1) := by decide +kernel
theorem dc_M_readBeside_57 : decode prog_14_method_20_code 57 = .ok (.getfield 41, 3) := by decide +kernel
theorem fl_M_41 : am_fl "WebFinderModel" 41 12 5 := ⟨"WebFinderModel", tt_M, 90, rfl, by decide, Or.inl (am_t7 116 rfl rfl)⟩
theorem dc_M_readBeside_60 : decode prog_14_method_20_code 60 = .ok (.iload 8, 2) := by decide +kernel
theorem dc_M_readBeside_62 : decode prog_14_method_20_code 62 = .ok (.baload, 1) := by decide +kernel
theorem dc_M_readBeside_63 : decode prog_14_method_20_code 63 = .ok (.bastore, 1) := by decide +kernel
theorem dc_M_readBeside_64 : decode prog_14_method_20_code 64 = .ok (.aload_n 0, 1) := by decide +kernel
theorem dc_M_readBeside_65 : decode prog_14_method_20_code 65 = .ok (.dup, 1) := by decide +kernel
theorem dc_M_readBeside_66 : decode prog_14_method_20_code 66 = .ok (.getfield 64, 3) := by decide +kernel
theorem dc_M_readBeside_69 : decode prog_14_method_20_code 69 = .ok (.iconst 1, 1) := by decide +kernel
theorem dc_M_readBeside_70 : decode prog_14_method_20_code 70 = .ok (.iadd, 1) := by decide +kernel
theorem dc_M_readBeside_71 : decode prog_14_method_20_code 71 = .ok (.putfield 64, 3) := by decide +kernel
theorem dc_M_readBeside_74 : decode prog_14_method_20_code 74 = .ok (.iinc 8 1, 3) := by decide +kernel
theorem dc_M_readBeside_77 : decode prog_14_method_20_code 77 = .ok (.goto (-36), 3) := by decide +kernel
theorem dc_M_readBeside_80 : decode prog_14_method_20_code 80 = .ok (.aload_n 0, 1) := by decide +kernel
theorem dc_M_readBeside_81 : decode prog_14_method_20_code 81 = .ok (.getfield 41, 3) := by decide +kernel
theorem dc_M_readBeside_84 : decode prog_14_method_20_code 84 = .ok (.iload 7, 2) := by decide +kernel
theorem dc_M_readBeside_86 : decode prog_14_method_20_code 86 = .ok (.iload 6, 2) := by decide +kernel
theorem dc_M_readBeside_88 : decode prog_14_method_20_code 88 = .ok (.bipush 63, 2) := by decide +kernel
theorem dc_M_readBeside_90 : decode prog_14_method_20_code 90 = .ok (.invokestatic 48, 3) := by decide +kernel
theorem dc_M_readBeside_93 : decode prog_14_method_20_code 93 = .ok (.istore 8, 2) := by decide +kernel
theorem dc_M_readBeside_95 : decode prog_14_method_20_code 95 = .ok (.aload_n 1, 1) := by decide +kernel
theorem dc_M_readBeside_96 : decode prog_14_method_20_code 96 = .ok (.iload_n 2, 1) := by decide +kernel
theorem dc_M_readBeside_97 : decode prog_14_method_20_code 97 = .ok (.iload_n 3, 1) := by decide +kernel
theorem dc_M_readBeside_98 : decode prog_14_method_20_code 98 = .ok (.bipush 63, 2) := by decide +kernel
theorem dc_M_readBeside_100 : decode prog_14_method_20_code 100 = .ok (.invokestatic 48, 3) := by decide +kernel
theorem dc_M_readBeside_103 : decode prog_14_method_20_code 103 = .ok (.istore 9, 2) := by decide +kernel
theorem dc_M_readBeside_105 : decode prog_14_method_20_code 105 = .ok (.iload 9, 2) := by decide +kernel
theorem dc_M_readBeside_107 : decode prog_14_method_20_code 107 = .ok (.iload_n 2, 1) := by decide +kernel
theorem dc_M_readBeside_108 : decode prog_14_method_20_code 108 = .ok (.if_icmp .ne 26, 3) := by decide +kernel
theorem dc_M_readBeside_111 : decode prog_14_method_20_code 111 = .ok (.aload_n 0, 1) := by decide +kernel
theorem dc_M_readBeside_112 : decode prog_14_method_20_code 112 = .ok (.aload_n 0, 1) := by decide +kernel
theorem dc_M_readBeside_113 : decode prog_14_method_20_code 113 = .ok (.getfield 41, 3) := by decide +kernel
theorem dc_M_readBeside_116 : decode prog_14_method_20_code 116 = .ok (.iload 7, 2) := by decide +kernel
theorem dc_M_readBeside_118 : decode prog_14_method_20_code 118 = .ok (.iload 8, 2) := by decide +kernel
theorem dc_M_readBeside_120 : decode prog_14_method_20_code 120 = .ok (.aload_n 0, 1) := by decide +kernel
theorem dc_M_readBeside_121 : decode prog_14_method_20_code 121 = .ok (.getfield 91, 3) := by decide +kernel
theorem dc_M_readBeside_124 : decode prog_14_method_20_code 124 = .ok (.iconst 0, 1) := by decide +kernel
theorem dc_M_readBeside_125 : decode prog_14_method_20_code 125 = .ok (.invokestatic 94, 3) := by decide +kernel
theorem dc_M_readBeside_128 : decode prog_14_method_20_code 128 = .ok (.putfield 98, 3) := by decide +kernel
theorem fp_M_readBeside_98 : am_fp mt_M_readBeside.1 98 12 17 (.int) := ⟨"WebFinderModel", tt_M, 90, rfl, by decide, ct_M 17 (by decide), Or.inl ⟨(am_t7 128 rfl rfl), Or.inl rfl⟩⟩
theorem dc_M_readBeside_131 : decode prog_14_method_20_code 131 = .ok (.goto 93, 3) := by decide +kernel
theorem dc_M_readBeside_134 : decode prog_14_method_20_code 134 = .ok (.aload_n 1, 1) := by decide +kernel
theorem dc_M_readBeside_135 : decode prog_14_method_20_code 135 = .ok (.iload_n 2, 1) := by decide +kernel
theorem dc_M_readBeside_136 : decode prog_14_method_20_code 136 = .ok (.baload, 1) := by decide +kernel
theorem dc_M_readBeside_137 : decode prog_14_method_20_code 137 = .ok (.bipush 47, 2) := by decide +kernel
theorem dc_M_readBeside_139 : decode prog_14_method_20_code 139 = .ok (.if_icmp .ne 22, 3) := by decide +kernel
theorem dc_M_readBeside_142 : decode prog_14_method_20_code 142 = .ok (.aload_n 0, 1) := by decide +kernel
theorem dc_M_readBeside_143 : decode prog_14_method_20_code 143 = .ok (.aload_n 1, 1) := by decide +kernel
theorem dc_M_readBeside_144 : decode prog_14_method_20_code 144 = .ok (.iload_n 2, 1) := by decide +kernel
theorem dc_M_readBeside_145 : decode prog_14_method_20_code 145 = .ok (.iload 9, 2) := by decide +kernel
theorem dc_M_readBeside_147 : decode prog_14_method_20_code 147 = .ok (.aload_n 0, 1) := by decide +kernel
theorem dc_M_readBeside_148 : decode prog_14_method_20_code 148 = .ok (.getfield 91, 3) := by decide +kernel
theorem dc_M_readBeside_151 : decode prog_14_method_20_code 151 = .ok (.iconst 0, 1) := by decide +kernel
theorem dc_M_readBeside_152 : decode prog_14_method_20_code 152 = .ok (.invokestatic 94, 3) := by decide +kernel
theorem dc_M_readBeside_155 : decode prog_14_method_20_code 155 = .ok (.putfield 98, 3) := by decide +kernel
theorem dc_M_readBeside_158 : decode prog_14_method_20_code 158 = .ok (.goto 66, 3) := by decide +kernel
theorem dc_M_readBeside_161 : decode prog_14_method_20_code 161 = .ok (.iload 8, 2) := by decide +kernel
theorem dc_M_readBeside_163 : decode prog_14_method_20_code 163 = .ok (.istore 10, 2) := by decide +kernel
theorem dc_M_readBeside_165 : decode prog_14_method_20_code 165 = .ok (.aload_n 0, 1) := by decide +kernel
theorem dc_M_readBeside_166 : decode prog_14_method_20_code 166 = .ok (.getfield 41, 3) := by decide +kernel
theorem dc_M_readBeside_169 : decode prog_14_method_20_code 169 = .ok (.iload 10, 2) := by decide +kernel
theorem dc_M_readBeside_171 : decode prog_14_method_20_code 171 = .ok (.iconst 1, 1) := by decide +kernel
theorem dc_M_readBeside_172 : decode prog_14_method_20_code 172 = .ok (.isub, 1) := by decide +kernel
theorem dc_M_readBeside_173 : decode prog_14_method_20_code 173 = .ok (.baload, 1) := by decide +kernel
theorem dc_M_readBeside_174 : decode prog_14_method_20_code 174 = .ok (.bipush 47, 2) := by decide +kernel
theorem dc_M_readBeside_176 : decode prog_14_method_20_code 176 = .ok (.if_icmp .eq 9, 3) := by decide +kernel
theorem dc_M_readBeside_179 : decode prog_14_method_20_code 179 = .ok (.iinc 10 (-1), 3) := by decide +kernel
theorem dc_M_readBeside_182 : decode prog_14_method_20_code 182 = .ok (.goto (-17), 3) := by decide +kernel
theorem dc_M_readBeside_185 : decode prog_14_method_20_code 185 = .ok (.aload_n 0, 1) := by decide +kernel
theorem dc_M_readBeside_186 : decode prog_14_method_20_code 186 = .ok (.aload_n 0, 1) := by decide +kernel
theorem dc_M_readBeside_187 : decode prog_14_method_20_code 187 = .ok (.getfield 41, 3) := by decide +kernel
theorem dc_M_readBeside_190 : decode prog_14_method_20_code 190 = .ok (.iload 7, 2) := by decide +kernel
theorem dc_M_readBeside_192 : decode prog_14_method_20_code 192 = .ok (.iload 10, 2) := by decide +kernel
theorem dc_M_readBeside_194 : decode prog_14_method_20_code 194 = .ok (.aload_n 0, 1) := by decide +kernel
theorem dc_M_readBeside_195 : decode prog_14_method_20_code 195 = .ok (.getfield 91, 3) := by decide +kernel
theorem dc_M_readBeside_198 : decode prog_14_method_20_code 198 = .ok (.iconst 0, 1) := by decide +kernel
theorem dc_M_readBeside_199 : decode prog_14_method_20_code 199 = .ok (.invokestatic 94, 3) := by decide +kernel
theorem dc_M_readBeside_202 : decode prog_14_method_20_code 202 = .ok (.putfield 98, 3) := by decide +kernel
theorem dc_M_readBeside_205 : decode prog_14_method_20_code 205 = .ok (.aload_n 0, 1) := by decide +kernel
theorem dc_M_readBeside_206 : decode prog_14_method_20_code 206 = .ok (.aload_n 1, 1) := by decide +kernel
theorem dc_M_readBeside_207 : decode prog_14_method_20_code 207 = .ok (.iload_n 2, 1) := by decide +kernel
theorem dc_M_readBeside_208 : decode prog_14_method_20_code 208 = .ok (.iload 9, 2) := by decide +kernel
theorem dc_M_readBeside_210 : decode prog_14_method_20_code 210 = .ok (.aload_n 0, 1) := by decide +kernel
theorem dc_M_readBeside_211 : decode prog_14_method_20_code 211 = .ok (.getfield 91, 3) := by decide +kernel
theorem dc_M_readBeside_214 : decode prog_14_method_20_code 214 = .ok (.aload_n 0, 1) := by decide +kernel
theorem dc_M_readBeside_215 : decode prog_14_method_20_code 215 = .ok (.getfield 98, 3) := by decide +kernel
theorem fl_M_98 : am_fl "WebFinderModel" 98 12 17 := ⟨"WebFinderModel", tt_M, 90, rfl, by decide, Or.inl (am_t7 128 rfl rfl)⟩
theorem dc_M_readBeside_218 : decode prog_14_method_20_code 218 = .ok (.invokestatic 94, 3) := by decide +kernel
theorem dc_M_readBeside_221 : decode prog_14_method_20_code 221 = .ok (.putfield 98, 3) := by decide +kernel
theorem dc_M_readBeside_224 : decode prog_14_method_20_code 224 = .ok (.iload 9, 2) := by decide +kernel
theorem dc_M_readBeside_226 : decode prog_14_method_20_code 226 = .ok (.iload_n 3, 1) := by decide +kernel
theorem dc_M_readBeside_227 : decode prog_14_method_20_code 227 = .ok (.if_icmp .ge 22, 3) := by decide +kernel
theorem dc_M_readBeside_230 : decode prog_14_method_20_code 230 = .ok (.aload_n 0, 1) := by decide +kernel
theorem dc_M_readBeside_231 : decode prog_14_method_20_code 231 = .ok (.aload_n 1, 1) := by decide +kernel
theorem dc_M_readBeside_232 : decode prog_14_method_20_code 232 = .ok (.iload 9, 2) := by decide +kernel
theorem dc_M_readBeside_234 : decode prog_14_method_20_code 234 = .ok (.iload_n 3, 1) := by decide +kernel
theorem dc_M_readBeside_235 : decode prog_14_method_20_code 235 = .ok (.aload_n 0, 1) := by decide +kernel
theorem dc_M_readBeside_236 : decode prog_14_method_20_code 236 = .ok (.getfield 101, 3) := by decide +kernel
theorem dc_M_readBeside_239 : decode prog_14_method_20_code 239 = .ok (.iconst 0, 1) := by decide +kernel
theorem dc_M_readBeside_240 : decode prog_14_method_20_code 240 = .ok (.invokestatic 94, 3) := by decide +kernel
theorem dc_M_readBeside_243 : decode prog_14_method_20_code 243 = .ok (.putfield 104, 3) := by decide +kernel
theorem fp_M_readBeside_104 : am_fp mt_M_readBeside.1 104 12 18 (.int) := ⟨"WebFinderModel", tt_M, 90, rfl, by decide, ct_M 18 (by decide), Or.inl ⟨(am_t7 129 rfl rfl), Or.inl rfl⟩⟩
theorem dc_M_readBeside_246 : decode prog_14_method_20_code 246 = .ok (.goto 44, 3) := by decide +kernel
theorem dc_M_readBeside_249 : decode prog_14_method_20_code 249 = .ok (.iload 9, 2) := by decide +kernel
theorem dc_M_readBeside_251 : decode prog_14_method_20_code 251 = .ok (.iload_n 2, 1) := by decide +kernel
theorem dc_M_readBeside_252 : decode prog_14_method_20_code 252 = .ok (.if_icmp .ne 33, 3) := by decide +kernel
theorem dc_M_readBeside_255 : decode prog_14_method_20_code 255 = .ok (.iload 8, 2) := by decide +kernel
theorem dc_M_readBeside_257 : decode prog_14_method_20_code 257 = .ok (.iload 6, 2) := by decide +kernel
theorem dc_M_readBeside_259 : decode prog_14_method_20_code 259 = .ok (.if_icmp .ge 26, 3) := by decide +kernel
theorem dc_M_readBeside_262 : decode prog_14_method_20_code 262 = .ok (.aload_n 0, 1) := by decide +kernel
theorem dc_M_readBeside_263 : decode prog_14_method_20_code 263 = .ok (.aload_n 0, 1) := by decide +kernel
theorem dc_M_readBeside_264 : decode prog_14_method_20_code 264 = .ok (.getfield 41, 3) := by decide +kernel
theorem dc_M_readBeside_267 : decode prog_14_method_20_code 267 = .ok (.iload 8, 2) := by decide +kernel
theorem dc_M_readBeside_269 : decode prog_14_method_20_code 269 = .ok (.iload 6, 2) := by decide +kernel
theorem dc_M_readBeside_271 : decode prog_14_method_20_code 271 = .ok (.aload_n 0, 1) := by decide +kernel
theorem dc_M_readBeside_272 : decode prog_14_method_20_code 272 = .ok (.getfield 101, 3) := by decide +kernel
theorem dc_M_readBeside_275 : decode prog_14_method_20_code 275 = .ok (.iconst 0, 1) := by decide +kernel
theorem dc_M_readBeside_276 : decode prog_14_method_20_code 276 = .ok (.invokestatic 94, 3) := by decide +kernel
theorem dc_M_readBeside_279 : decode prog_14_method_20_code 279 = .ok (.putfield 104, 3) := by decide +kernel
theorem dc_M_readBeside_282 : decode prog_14_method_20_code 282 = .ok (.goto 8, 3) := by decide +kernel
theorem dc_M_readBeside_285 : decode prog_14_method_20_code 285 = .ok (.aload_n 0, 1) := by decide +kernel
theorem dc_M_readBeside_286 : decode prog_14_method_20_code 286 = .ok (.iconst (-1), 1) := by decide +kernel
theorem dc_M_readBeside_287 : decode prog_14_method_20_code 287 = .ok (.putfield 104, 3) := by decide +kernel
theorem dc_M_readBeside_290 : decode prog_14_method_20_code 290 = .ok (.return_, 1) := by decide +kernel
theorem dc_M_hostEnd_0 : decode prog_14_method_12_code 0 = .ok (.aload_n 0, 1) := by decide +kernel
theorem dc_M_hostEnd_1 : decode prog_14_method_12_code 1 = .ok (.getfield 41, 3) := by decide +kernel
theorem dc_M_hostEnd_4 : decode prog_14_method_12_code 4 = .ok (.aload_n 0, 1) := by decide +kernel
theorem dc_M_hostEnd_5 : decode prog_14_method_12_code 5 = .ok (.getfield 31, 3) := by decide +kernel
theorem dc_M_hostEnd_8 : decode prog_14_method_12_code 8 = .ok (.iload_n 1, 1) := by decide +kernel
theorem dc_M_hostEnd_9 : decode prog_14_method_12_code 9 = .ok (.iaload, 1) := by decide +kernel
theorem dc_M_hostEnd_10 : decode prog_14_method_12_code 10 = .ok (.bipush 7, 2) := by decide +kernel
theorem dc_M_hostEnd_12 : decode prog_14_method_12_code 12 = .ok (.iadd, 1) := by decide +kernel
theorem dc_M_hostEnd_13 : decode prog_14_method_12_code 13 = .ok (.aload_n 0, 1) := by decide +kernel
theorem dc_M_hostEnd_14 : decode prog_14_method_12_code 14 = .ok (.getfield 31, 3) := by decide +kernel
theorem dc_M_hostEnd_17 : decode prog_14_method_12_code 17 = .ok (.iload_n 1, 1) := by decide +kernel
theorem dc_M_hostEnd_18 : decode prog_14_method_12_code 18 = .ok (.iaload, 1) := by decide +kernel
theorem dc_M_hostEnd_19 : decode prog_14_method_12_code 19 = .ok (.aload_n 0, 1) := by decide +kernel
theorem dc_M_hostEnd_20 : decode prog_14_method_12_code 20 = .ok (.getfield 35, 3) := by decide +kernel
theorem dc_M_hostEnd_23 : decode prog_14_method_12_code 23 = .ok (.iload_n 1, 1) := by decide +kernel
theorem dc_M_hostEnd_24 : decode prog_14_method_12_code 24 = .ok (.iaload, 1) := by decide +kernel
theorem dc_M_hostEnd_25 : decode prog_14_method_12_code 25 = .ok (.iadd, 1) := by decide +kernel
theorem dc_M_hostEnd_26 : decode prog_14_method_12_code 26 = .ok (.bipush 47, 2) := by decide +kernel
theorem dc_M_hostEnd_28 : decode prog_14_method_12_code 28 = .ok (.invokestatic 48, 3) := by decide +kernel
theorem dc_M_hostEnd_31 : decode prog_14_method_12_code 31 = .ok (.ireturn, 1) := by decide +kernel
theorem dc_M_neaten_0 : decode prog_14_method_22_code 0 = .ok (.aload_n 0, 1) := by decide +kernel
theorem dc_M_neaten_1 : decode prog_14_method_22_code 1 = .ok (.getfield 98, 3) := by decide +kernel
theorem dc_M_neaten_4 : decode prog_14_method_22_code 4 = .ok (.ifCond .ne 16, 3) := by decide +kernel
theorem dc_M_neaten_7 : decode prog_14_method_22_code 7 = .ok (.aload_n 0, 1) := by decide +kernel
theorem dc_M_neaten_8 : decode prog_14_method_22_code 8 = .ok (.getfield 91, 3) := by decide +kernel
theorem dc_M_neaten_11 : decode prog_14_method_22_code 11 = .ok (.iconst 0, 1) := by decide +kernel
theorem dc_M_neaten_12 : decode prog_14_method_22_code 12 = .ok (.bipush 47, 2) := by decide +kernel
theorem dc_M_neaten_14 : decode prog_14_method_22_code 14 = .ok (.bastore, 1) := by decide +kernel
theorem dc_M_neaten_15 : decode prog_14_method_22_code 15 = .ok (.aload_n 0, 1) := by decide +kernel
theorem dc_M_neaten_16 : decode prog_14_method_22_code 16 = .ok (.iconst 1, 1) := by decide +kernel
theorem dc_M_neaten_17 : decode prog_14_method_22_code 17 = .ok (.putfield 98, 3) := by decide +kernel
theorem fp_M_neaten_98 : am_fp mt_M_neaten.1 98 12 17 (.int) := ⟨"WebFinderModel", tt_M, 90, rfl, by decide, ct_M 17 (by decide), Or.inl ⟨(am_t7 128 rfl rfl), Or.inl rfl⟩⟩
theorem dc_M_neaten_20 : decode prog_14_method_22_code 20 = .ok (.iconst 0, 1) := by decide +kernel
theorem dc_M_neaten_21 : decode prog_14_method_22_code 21 = .ok (.istore_n 1, 1) := by decide +kernel
theorem dc_M_neaten_22 : decode prog_14_method_22_code 22 = .ok (.iconst 0, 1) := by decide +kernel
theorem dc_M_neaten_23 : decode prog_14_method_22_code 23 = .ok (.istore_n 2, 1) := by decide +kernel
theorem dc_M_neaten_24 : decode prog_14_method_22_code 24 = .ok (.iconst 0, 1) := by decide +kernel
theorem dc_M_neaten_25 : decode prog_14_method_22_code 25 = .ok (.istore_n 3, 1) := by decide +kernel
theorem dc_M_neaten_26 : decode prog_14_method_22_code 26 = .ok (.iconst 1, 1) := by decide +kernel
theorem dc_M_neaten_27 : decode prog_14_method_22_code 27 = .ok (.istore 4, 2) := by decide +kernel
theorem dc_M_neaten_29 : decode prog_14_method_22_code 29 = .ok (.iload 4, 2) := by decide +kernel
theorem dc_M_neaten_31 : decode prog_14_method_22_code 31 = .ok (.aload_n 0, 1) := by decide +kernel
theorem dc_M_neaten_32 : decode prog_14_method_22_code 32 = .ok (.getfield 98, 3) := by decide +kernel
theorem dc_M_neaten_35 : decode prog_14_method_22_code 35 = .ok (.if_icmp .gt 158, 3) := by decide +kernel
theorem dc_M_neaten_38 : decode prog_14_method_22_code 38 = .ok (.aload_n 0, 1) := by decide +kernel
theorem dc_M_neaten_39 : decode prog_14_method_22_code 39 = .ok (.getfield 91, 3) := by decide +kernel
theorem dc_M_neaten_42 : decode prog_14_method_22_code 42 = .ok (.iload 4, 2) := by decide +kernel
theorem dc_M_neaten_44 : decode prog_14_method_22_code 44 = .ok (.aload_n 0, 1) := by decide +kernel
theorem dc_M_neaten_45 : decode prog_14_method_22_code 45 = .ok (.getfield 98, 3) := by decide +kernel
theorem dc_M_neaten_48 : decode prog_14_method_22_code 48 = .ok (.bipush 47, 2) := by decide +kernel
theorem dc_M_neaten_50 : decode prog_14_method_22_code 50 = .ok (.invokestatic 48, 3) := by decide +kernel
theorem dc_M_neaten_53 : decode prog_14_method_22_code 53 = .ok (.istore 5, 2) := by decide +kernel
theorem dc_M_neaten_55 : decode prog_14_method_22_code 55 = .ok (.aload_n 0, 1) := by decide +kernel
theorem dc_M_neaten_56 : decode prog_14_method_22_code 56 = .ok (.getfield 91, 3) := by decide +kernel
theorem dc_M_neaten_59 : decode prog_14_method_22_code 59 = .ok (.iload 4, 2) := by decide +kernel
theorem dc_M_neaten_61 : decode prog_14_method_22_code 61 = .ok (.iload 5, 2) := by decide +kernel
theorem dc_M_neaten_63 : decode prog_14_method_22_code 63 = .ok (.iconst 1, 1) := by decide +kernel
theorem dc_M_neaten_64 : decode prog_14_method_22_code 64 = .ok (.invokestatic 115, 3) := by decide +kernel
theorem mo_M_isDots : am_mo mt_M_isDots 4 := ⟨⟨by decide +kernel, by decide +kernel⟩, by decide +kernel, ⟨by decide +kernel, by decide +kernel⟩, (am_t8 230 rfl rfl), (am_t1 11 rfl rfl), by decide +kernel⟩
theorem st_M_isDots : Cond.static mt_M_isDots.1 ∈ am_gw := (am_t8 229 rfl rfl)
theorem ln_M_115 : am_ln "WebFinderModel" 115 mt_M_isDots.1 := Or.inl (am_t8 228 rfl rfl)
theorem dc_M_neaten_67 : decode prog_14_method_22_code 67 = .ok (.ifCond .ne 18, 3) := by decide +kernel
theorem dc_M_neaten_70 : decode prog_14_method_22_code 70 = .ok (.aload_n 0, 1) := by decide +kernel
theorem dc_M_neaten_71 : decode prog_14_method_22_code 71 = .ok (.getfield 91, 3) := by decide +kernel
theorem dc_M_neaten_74 : decode prog_14_method_22_code 74 = .ok (.iload 4, 2) := by decide +kernel
theorem dc_M_neaten_76 : decode prog_14_method_22_code 76 = .ok (.iload 5, 2) := by decide +kernel
theorem dc_M_neaten_78 : decode prog_14_method_22_code 78 = .ok (.iconst 2, 1) := by decide +kernel
theorem dc_M_neaten_79 : decode prog_14_method_22_code 79 = .ok (.invokestatic 115, 3) := by decide +kernel
theorem dc_M_neaten_82 : decode prog_14_method_22_code 82 = .ok (.ifCond .eq 7, 3) := by decide +kernel
theorem dc_M_neaten_85 : decode prog_14_method_22_code 85 = .ok (.iconst 1, 1) := by decide +kernel
theorem dc_M_neaten_86 : decode prog_14_method_22_code 86 = .ok (.goto 4, 3) := by decide +kernel
theorem dc_M_neaten_89 : decode prog_14_method_22_code 89 = .ok (.iconst 0, 1) := by decide +kernel
theorem dc_M_neaten_90 : decode prog_14_method_22_code 90 = .ok (.istore_n 3, 1) := by decide +kernel
theorem dc_M_neaten_91 : decode prog_14_method_22_code 91 = .ok (.aload_n 0, 1) := by decide +kernel
theorem dc_M_neaten_92 : decode prog_14_method_22_code 92 = .ok (.getfield 91, 3) := by decide +kernel
theorem dc_M_neaten_95 : decode prog_14_method_22_code 95 = .ok (.iload 4, 2) := by decide +kernel
theorem dc_M_neaten_97 : decode prog_14_method_22_code 97 = .ok (.iload 5, 2) := by decide +kernel
theorem dc_M_neaten_99 : decode prog_14_method_22_code 99 = .ok (.iconst 2, 1) := by decide +kernel
theorem dc_M_neaten_100 : decode prog_14_method_22_code 100 = .ok (.invokestatic 115, 3) := by decide +kernel
theorem dc_M_neaten_103 : decode prog_14_method_22_code 103 = .ok (.ifCond .eq 32, 3) := by decide +kernel
theorem dc_M_neaten_106 : decode prog_14_method_22_code 106 = .ok (.iload_n 2, 1) := by decide +kernel
theorem dc_M_neaten_107 : decode prog_14_method_22_code 107 = .ok (.ifCond .le 14, 3) := by decide +kernel
theorem dc_M_neaten_110 : decode prog_14_method_22_code 110 = .ok (.aload_n 0, 1) := by decide +kernel
theorem dc_M_neaten_111 : decode prog_14_method_22_code 111 = .ok (.getfield 119, 3) := by decide +kernel
theorem fl_M_119 : am_fl "WebFinderModel" 119 12 15 := ⟨"WebFinderModel", tt_M, 90, rfl, by decide, Or.inl (am_t7 126 rfl rfl)⟩
theorem dc_M_neaten_114 : decode prog_14_method_22_code 114 = .ok (.iload_n 2, 1) := by decide +kernel
theorem dc_M_neaten_115 : decode prog_14_method_22_code 115 = .ok (.iconst 1, 1) := by decide +kernel
theorem dc_M_neaten_116 : decode prog_14_method_22_code 116 = .ok (.isub, 1) := by decide +kernel
theorem dc_M_neaten_117 : decode prog_14_method_22_code 117 = .ok (.iaload, 1) := by decide +kernel
theorem dc_M_neaten_118 : decode prog_14_method_22_code 118 = .ok (.goto 4, 3) := by decide +kernel
theorem dc_M_neaten_121 : decode prog_14_method_22_code 121 = .ok (.iconst 0, 1) := by decide +kernel
theorem dc_M_neaten_122 : decode prog_14_method_22_code 122 = .ok (.istore_n 1, 1) := by decide +kernel
theorem dc_M_neaten_123 : decode prog_14_method_22_code 123 = .ok (.iload_n 2, 1) := by decide +kernel
theorem dc_M_neaten_124 : decode prog_14_method_22_code 124 = .ok (.ifCond .le 9, 3) := by decide +kernel
theorem dc_M_neaten_127 : decode prog_14_method_22_code 127 = .ok (.iload_n 2, 1) := by decide +kernel
theorem dc_M_neaten_128 : decode prog_14_method_22_code 128 = .ok (.iconst 1, 1) := by decide +kernel
theorem dc_M_neaten_129 : decode prog_14_method_22_code 129 = .ok (.isub, 1) := by decide +kernel
theorem dc_M_neaten_130 : decode prog_14_method_22_code 130 = .ok (.goto 4, 3) := by decide +kernel
theorem dc_M_neaten_133 : decode prog_14_method_22_code 133 = .ok (.iconst 0, 1) := by decide +kernel
theorem dc_M_neaten_134 : decode prog_14_method_22_code 134 = .ok (.istore_n 2, 1) := by decide +kernel
theorem dc_M_neaten_135 : decode prog_14_method_22_code 135 = .ok (.iload_n 3, 1) := by decide +kernel
theorem dc_M_neaten_136 : decode prog_14_method_22_code 136 = .ok (.ifCond .ne 48, 3) := by decide +kernel
theorem dc_M_neaten_139 : decode prog_14_method_22_code 139 = .ok (.aload_n 0, 1) := by decide +kernel
theorem dc_M_neaten_140 : decode prog_14_method_22_code 140 = .ok (.getfield 119, 3) := by decide +kernel
theorem dc_M_neaten_143 : decode prog_14_method_22_code 143 = .ok (.iload_n 2, 1) := by decide +kernel
theorem dc_M_neaten_144 : decode prog_14_method_22_code 144 = .ok (.iload_n 1, 1) := by decide +kernel
theorem dc_M_neaten_145 : decode prog_14_method_22_code 145 = .ok (.iastore, 1) := by decide +kernel
theorem dc_M_neaten_146 : decode prog_14_method_22_code 146 = .ok (.iinc 2 1, 3) := by decide +kernel
theorem dc_M_neaten_149 : decode prog_14_method_22_code 149 = .ok (.iload 4, 2) := by decide +kernel
theorem dc_M_neaten_151 : decode prog_14_method_22_code 151 = .ok (.iconst 1, 1) := by decide +kernel
theorem dc_M_neaten_152 : decode prog_14_method_22_code 152 = .ok (.isub, 1) := by decide +kernel
theorem dc_M_neaten_153 : decode prog_14_method_22_code 153 = .ok (.istore 6, 2) := by decide +kernel
theorem dc_M_neaten_155 : decode prog_14_method_22_code 155 = .ok (.iload 6, 2) := by decide +kernel
theorem dc_M_neaten_157 : decode prog_14_method_22_code 157 = .ok (.iload 5, 2) := by decide +kernel
theorem dc_M_neaten_159 : decode prog_14_method_22_code 159 = .ok (.if_icmp .ge 25, 3) := by decide +kernel
theorem dc_M_neaten_162 : decode prog_14_method_22_code 162 = .ok (.aload_n 0, 1) := by decide +kernel
theorem dc_M_neaten_163 : decode prog_14_method_22_code 163 = .ok (.getfield 122, 3) := by decide +kernel
theorem fl_M_122 : am_fl "WebFinderModel" 122 12 14 := ⟨"WebFinderModel", tt_M, 90, rfl, by decide, Or.inl (am_t7 125 rfl rfl)⟩
theorem dc_M_neaten_166 : decode prog_14_method_22_code 166 = .ok (.iload_n 1, 1) := by decide +kernel
theorem dc_M_neaten_167 : decode prog_14_method_22_code 167 = .ok (.aload_n 0, 1) := by decide +kernel
theorem dc_M_neaten_168 : decode prog_14_method_22_code 168 = .ok (.getfield 91, 3) := by decide +kernel
theorem dc_M_neaten_171 : decode prog_14_method_22_code 171 = .ok (.iload 6, 2) := by decide +kernel
theorem dc_M_neaten_173 : decode prog_14_method_22_code 173 = .ok (.baload, 1) := by decide +kernel
theorem dc_M_neaten_174 : decode prog_14_method_22_code 174 = .ok (.bastore, 1) := by decide +kernel
theorem dc_M_neaten_175 : decode prog_14_method_22_code 175 = .ok (.iinc 1 1, 3) := by decide +kernel
theorem dc_M_neaten_178 : decode prog_14_method_22_code 178 = .ok (.iinc 6 1, 3) := by decide +kernel
theorem dc_M_neaten_181 : decode prog_14_method_22_code 181 = .ok (.goto (-26), 3) := by decide +kernel
theorem dc_M_neaten_184 : decode prog_14_method_22_code 184 = .ok (.iload 5, 2) := by decide +kernel
theorem dc_M_neaten_186 : decode prog_14_method_22_code 186 = .ok (.iconst 1, 1) := by decide +kernel
theorem dc_M_neaten_187 : decode prog_14_method_22_code 187 = .ok (.iadd, 1) := by decide +kernel
theorem dc_M_neaten_188 : decode prog_14_method_22_code 188 = .ok (.istore 4, 2) := by decide +kernel
theorem dc_M_neaten_190 : decode prog_14_method_22_code 190 = .ok (.goto (-161), 3) := by decide +kernel
theorem dc_M_neaten_193 : decode prog_14_method_22_code 193 = .ok (.iload_n 3, 1) := by decide +kernel
theorem dc_M_neaten_194 : decode prog_14_method_22_code 194 = .ok (.ifCond .eq 14, 3) := by decide +kernel
theorem dc_M_neaten_197 : decode prog_14_method_22_code 197 = .ok (.aload_n 0, 1) := by decide +kernel
theorem dc_M_neaten_198 : decode prog_14_method_22_code 198 = .ok (.getfield 122, 3) := by decide +kernel
theorem dc_M_neaten_201 : decode prog_14_method_22_code 201 = .ok (.iload_n 1, 1) := by decide +kernel
theorem dc_M_neaten_202 : decode prog_14_method_22_code 202 = .ok (.bipush 47, 2) := by decide +kernel
theorem dc_M_neaten_204 : decode prog_14_method_22_code 204 = .ok (.bastore, 1) := by decide +kernel
theorem dc_M_neaten_205 : decode prog_14_method_22_code 205 = .ok (.iinc 1 1, 3) := by decide +kernel
theorem dc_M_neaten_208 : decode prog_14_method_22_code 208 = .ok (.aload_n 0, 1) := by decide +kernel
theorem dc_M_neaten_209 : decode prog_14_method_22_code 209 = .ok (.getfield 104, 3) := by decide +kernel
theorem fl_M_104 : am_fl "WebFinderModel" 104 12 18 := ⟨"WebFinderModel", tt_M, 90, rfl, by decide, Or.inl (am_t7 129 rfl rfl)⟩
theorem dc_M_neaten_212 : decode prog_14_method_22_code 212 = .ok (.ifCond .ge 7, 3) := by decide +kernel
theorem dc_M_neaten_215 : decode prog_14_method_22_code 215 = .ok (.iconst 0, 1) := by decide +kernel
theorem dc_M_neaten_216 : decode prog_14_method_22_code 216 = .ok (.goto 7, 3) := by decide +kernel
theorem dc_M_neaten_219 : decode prog_14_method_22_code 219 = .ok (.aload_n 0, 1) := by decide +kernel
theorem dc_M_neaten_220 : decode prog_14_method_22_code 220 = .ok (.getfield 104, 3) := by decide +kernel
theorem dc_M_neaten_223 : decode prog_14_method_22_code 223 = .ok (.istore 5, 2) := by decide +kernel
theorem dc_M_neaten_225 : decode prog_14_method_22_code 225 = .ok (.bipush 7, 2) := by decide +kernel
theorem dc_M_neaten_227 : decode prog_14_method_22_code 227 = .ok (.aload_n 0, 1) := by decide +kernel
theorem dc_M_neaten_228 : decode prog_14_method_22_code 228 = .ok (.getfield 64, 3) := by decide +kernel
theorem dc_M_neaten_231 : decode prog_14_method_22_code 231 = .ok (.iadd, 1) := by decide +kernel
theorem dc_M_neaten_232 : decode prog_14_method_22_code 232 = .ok (.iload_n 1, 1) := by decide +kernel
theorem dc_M_neaten_233 : decode prog_14_method_22_code 233 = .ok (.iadd, 1) := by decide +kernel
theorem dc_M_neaten_234 : decode prog_14_method_22_code 234 = .ok (.iload 5, 2) := by decide +kernel
theorem dc_M_neaten_236 : decode prog_14_method_22_code 236 = .ok (.iadd, 1) := by decide +kernel
theorem dc_M_neaten_237 : decode prog_14_method_22_code 237 = .ok (.sipush 200, 3) := by decide +kernel
theorem dc_M_neaten_240 : decode prog_14_method_22_code 240 = .ok (.if_icmp .le 5, 3) := by decide +kernel
theorem dc_M_neaten_243 : decode prog_14_method_22_code 243 = .ok (.iconst 0, 1) := by decide +kernel
theorem dc_M_neaten_244 : decode prog_14_method_22_code 244 = .ok (.ireturn, 1) := by decide +kernel
theorem dc_M_neaten_245 : decode prog_14_method_22_code 245 = .ok (.aload_n 0, 1) := by decide +kernel
theorem dc_M_neaten_246 : decode prog_14_method_22_code 246 = .ok (.iconst 0, 1) := by decide +kernel
theorem dc_M_neaten_247 : decode prog_14_method_22_code 247 = .ok (.putfield 38, 3) := by decide +kernel
theorem fp_M_neaten_38 : am_fp mt_M_neaten.1 38 12 10 (.int) := ⟨"WebFinderModel", tt_M, 90, rfl, by decide, ct_M 10 (by decide), Or.inl ⟨(am_t7 121 rfl rfl), Or.inl rfl⟩⟩
theorem dc_M_neaten_250 : decode prog_14_method_22_code 250 = .ok (.ldc 125, 2) := by decide +kernel
theorem dc_M_neaten_252 : decode prog_14_method_22_code 252 = .ok (.astore 6, 2) := by decide +kernel
theorem dc_M_neaten_254 : decode prog_14_method_22_code 254 = .ok (.iconst 0, 1) := by decide +kernel
theorem dc_M_neaten_255 : decode prog_14_method_22_code 255 = .ok (.istore 7, 2) := by decide +kernel
theorem dc_M_neaten_257 : decode prog_14_method_22_code 257 = .ok (.iload 7, 2) := by decide +kernel
theorem dc_M_neaten_259 : decode prog_14_method_22_code 259 = .ok (.bipush 7, 2) := by decide +kernel
theorem dc_M_neaten_261 : decode prog_14_method_22_code 261 = .ok (.if_icmp .ge 24, 3) := by decide +kernel
theorem dc_M_neaten_264 : decode prog_14_method_22_code 264 = .ok (.aload_n 0, 1) := by decide +kernel
theorem dc_M_neaten_265 : decode prog_14_method_22_code 265 = .ok (.getfield 45, 3) := by decide +kernel
theorem dc_M_neaten_268 : decode prog_14_method_22_code 268 = .ok (.iload 7, 2) := by decide +kernel
theorem dc_M_neaten_270 : decode prog_14_method_22_code 270 = .ok (.aload 6, 2) := by decide +kernel
theorem dc_M_neaten_272 : decode prog_14_method_22_code 272 = .ok (.iload 7, 2) := by decide +kernel
theorem dc_M_neaten_274 : decode prog_14_method_22_code 274 = .ok (.invokevirtual 21, 3) := by decide +kernel
theorem dc_M_neaten_277 : decode prog_14_method_22_code 277 = .ok (.i2b, 1) := by decide +kernel
theorem dc_M_neaten_278 : decode prog_14_method_22_code 278 = .ok (.bastore, 1) := by decide +kernel
theorem dc_M_neaten_279 : decode prog_14_method_22_code 279 = .ok (.iinc 7 1, 3) := by decide +kernel
theorem dc_M_neaten_282 : decode prog_14_method_22_code 282 = .ok (.goto (-25), 3) := by decide +kernel
theorem dc_M_neaten_285 : decode prog_14_method_22_code 285 = .ok (.aload_n 0, 1) := by decide +kernel
theorem dc_M_neaten_286 : decode prog_14_method_22_code 286 = .ok (.bipush 7, 2) := by decide +kernel
theorem dc_M_neaten_288 : decode prog_14_method_22_code 288 = .ok (.putfield 38, 3) := by decide +kernel
theorem dc_M_neaten_291 : decode prog_14_method_22_code 291 = .ok (.aload_n 0, 1) := by decide +kernel
theorem dc_M_neaten_292 : decode prog_14_method_22_code 292 = .ok (.aload_n 0, 1) := by decide +kernel
theorem dc_M_neaten_293 : decode prog_14_method_22_code 293 = .ok (.getfield 67, 3) := by decide +kernel
theorem dc_M_neaten_296 : decode prog_14_method_22_code 296 = .ok (.aload_n 0, 1) := by decide +kernel
theorem dc_M_neaten_297 : decode prog_14_method_22_code 297 = .ok (.getfield 64, 3) := by decide +kernel
theorem dc_M_neaten_300 : decode prog_14_method_22_code 300 = .ok (.invokevirtual 127, 3) := by decide +kernel
theorem mo_M_append : am_mo mt_M_append 2 := ⟨⟨by decide +kernel, by decide +kernel⟩, by decide +kernel, ⟨by decide +kernel, by decide +kernel⟩, (am_t8 235 rfl rfl), (am_t1 11 rfl rfl), by decide +kernel⟩
theorem im_M_append : Cond.instanceMethod mt_M_append.1 ∈ am_gw := (am_t8 234 rfl rfl)
theorem se_M_append : Cond.selects mt_M_append.1.cls mt_M_append.1 mt_M_append.1 ∈ am_gw := am_in (List.mem_append_left _ (by decide +kernel)) rfl
theorem ln_M_127 : am_ln "WebFinderModel" 127 mt_M_append.1 := Or.inl (am_t8 232 rfl rfl)
theorem dc_M_neaten_303 : decode prog_14_method_22_code 303 = .ok (.aload_n 0, 1) := by decide +kernel
theorem dc_M_neaten_304 : decode prog_14_method_22_code 304 = .ok (.aload_n 0, 1) := by decide +kernel
theorem dc_M_neaten_305 : decode prog_14_method_22_code 305 = .ok (.getfield 122, 3) := by decide +kernel
theorem dc_M_neaten_308 : decode prog_14_method_22_code 308 = .ok (.iload_n 1, 1) := by decide +kernel
theorem dc_M_neaten_309 : decode prog_14_method_22_code 309 = .ok (.invokevirtual 127, 3) := by decide +kernel
theorem dc_M_neaten_312 : decode prog_14_method_22_code 312 = .ok (.aload_n 0, 1) := by decide +kernel
theorem dc_M_neaten_313 : decode prog_14_method_22_code 313 = .ok (.aload_n 0, 1) := by decide +kernel
theorem dc_M_neaten_314 : decode prog_14_method_22_code 314 = .ok (.getfield 101, 3) := by decide +kernel
theorem dc_M_neaten_317 : decode prog_14_method_22_code 317 = .ok (.iload 5, 2) := by decide +kernel
theorem dc_M_neaten_319 : decode prog_14_method_22_code 319 = .ok (.invokevirtual 127, 3) := by decide +kernel
theorem dc_M_neaten_322 : decode prog_14_method_22_code 322 = .ok (.iconst 1, 1) := by decide +kernel
theorem dc_M_neaten_323 : decode prog_14_method_22_code 323 = .ok (.ireturn, 1) := by decide +kernel
theorem dc_M_isDots_0 : decode prog_14_method_21_code 0 = .ok (.iload_n 2, 1) := by decide +kernel
theorem dc_M_isDots_1 : decode prog_14_method_21_code 1 = .ok (.iload_n 1, 1) := by decide +kernel
theorem dc_M_isDots_2 : decode prog_14_method_21_code 2 = .ok (.isub, 1) := by decide +kernel
theorem dc_M_isDots_3 : decode prog_14_method_21_code 3 = .ok (.iload_n 3, 1) := by decide +kernel
theorem dc_M_isDots_4 : decode prog_14_method_21_code 4 = .ok (.if_icmp .ne 7, 3) := by decide +kernel
theorem dc_M_isDots_7 : decode prog_14_method_21_code 7 = .ok (.iconst 1, 1) := by decide +kernel
theorem dc_M_isDots_8 : decode prog_14_method_21_code 8 = .ok (.goto 4, 3) := by decide +kernel
theorem dc_M_isDots_11 : decode prog_14_method_21_code 11 = .ok (.iconst 0, 1) := by decide +kernel
theorem dc_M_isDots_12 : decode prog_14_method_21_code 12 = .ok (.istore 4, 2) := by decide +kernel
theorem dc_M_isDots_14 : decode prog_14_method_21_code 14 = .ok (.iload_n 1, 1) := by decide +kernel
theorem dc_M_isDots_15 : decode prog_14_method_21_code 15 = .ok (.istore 5, 2) := by decide +kernel
theorem dc_M_isDots_17 : decode prog_14_method_21_code 17 = .ok (.iload 5, 2) := by decide +kernel
theorem dc_M_isDots_19 : decode prog_14_method_21_code 19 = .ok (.iload_n 2, 1) := by decide +kernel
theorem dc_M_isDots_20 : decode prog_14_method_21_code 20 = .ok (.if_icmp .ge 30, 3) := by decide +kernel
theorem dc_M_isDots_23 : decode prog_14_method_21_code 23 = .ok (.iload 4, 2) := by decide +kernel
theorem dc_M_isDots_25 : decode prog_14_method_21_code 25 = .ok (.ifCond .eq 25, 3) := by decide +kernel
theorem dc_M_isDots_28 : decode prog_14_method_21_code 28 = .ok (.aload_n 0, 1) := by decide +kernel
theorem dc_M_isDots_29 : decode prog_14_method_21_code 29 = .ok (.iload 5, 2) := by decide +kernel
theorem dc_M_isDots_31 : decode prog_14_method_21_code 31 = .ok (.baload, 1) := by decide +kernel
theorem dc_M_isDots_32 : decode prog_14_method_21_code 32 = .ok (.bipush 46, 2) := by decide +kernel
theorem dc_M_isDots_34 : decode prog_14_method_21_code 34 = .ok (.if_icmp .ne 7, 3) := by decide +kernel
theorem dc_M_isDots_37 : decode prog_14_method_21_code 37 = .ok (.iconst 1, 1) := by decide +kernel
theorem dc_M_isDots_38 : decode prog_14_method_21_code 38 = .ok (.goto 4, 3) := by decide +kernel
theorem dc_M_isDots_41 : decode prog_14_method_21_code 41 = .ok (.iconst 0, 1) := by decide +kernel
theorem dc_M_isDots_42 : decode prog_14_method_21_code 42 = .ok (.istore 4, 2) := by decide +kernel
theorem dc_M_isDots_44 : decode prog_14_method_21_code 44 = .ok (.iinc 5 1, 3) := by decide +kernel
theorem dc_M_isDots_47 : decode prog_14_method_21_code 47 = .ok (.goto (-30), 3) := by decide +kernel
theorem dc_M_isDots_50 : decode prog_14_method_21_code 50 = .ok (.iload 4, 2) := by decide +kernel
theorem dc_M_isDots_52 : decode prog_14_method_21_code 52 = .ok (.ireturn, 1) := by decide +kernel
theorem dc_M_append_0 : decode prog_14_method_23_code 0 = .ok (.iconst 0, 1) := by decide +kernel
theorem dc_M_append_1 : decode prog_14_method_23_code 1 = .ok (.istore_n 3, 1) := by decide +kernel
theorem dc_M_append_2 : decode prog_14_method_23_code 2 = .ok (.iload_n 3, 1) := by decide +kernel
theorem dc_M_append_3 : decode prog_14_method_23_code 3 = .ok (.iload_n 2, 1) := by decide +kernel
theorem dc_M_append_4 : decode prog_14_method_23_code 4 = .ok (.if_icmp .ge 31, 3) := by decide +kernel
theorem dc_M_append_7 : decode prog_14_method_23_code 7 = .ok (.aload_n 0, 1) := by decide +kernel
theorem dc_M_append_8 : decode prog_14_method_23_code 8 = .ok (.getfield 45, 3) := by decide +kernel
theorem dc_M_append_11 : decode prog_14_method_23_code 11 = .ok (.aload_n 0, 1) := by decide +kernel
theorem dc_M_append_12 : decode prog_14_method_23_code 12 = .ok (.getfield 38, 3) := by decide +kernel
theorem dc_M_append_15 : decode prog_14_method_23_code 15 = .ok (.aload_n 1, 1) := by decide +kernel
theorem dc_M_append_16 : decode prog_14_method_23_code 16 = .ok (.iload_n 3, 1) := by decide +kernel
theorem dc_M_append_17 : decode prog_14_method_23_code 17 = .ok (.baload, 1) := by decide +kernel
theorem dc_M_append_18 : decode prog_14_method_23_code 18 = .ok (.bastore, 1) := by decide +kernel
theorem dc_M_append_19 : decode prog_14_method_23_code 19 = .ok (.aload_n 0, 1) := by decide +kernel
theorem dc_M_append_20 : decode prog_14_method_23_code 20 = .ok (.dup, 1) := by decide +kernel
theorem dc_M_append_21 : decode prog_14_method_23_code 21 = .ok (.getfield 38, 3) := by decide +kernel
theorem dc_M_append_24 : decode prog_14_method_23_code 24 = .ok (.iconst 1, 1) := by decide +kernel
theorem dc_M_append_25 : decode prog_14_method_23_code 25 = .ok (.iadd, 1) := by decide +kernel
theorem dc_M_append_26 : decode prog_14_method_23_code 26 = .ok (.putfield 38, 3) := by decide +kernel
theorem fp_M_append_38 : am_fp mt_M_append.1 38 12 10 (.int) := ⟨"WebFinderModel", tt_M, 90, rfl, by decide, ct_M 10 (by decide), Or.inl ⟨(am_t7 121 rfl rfl), Or.inl rfl⟩⟩
theorem dc_M_append_29 : decode prog_14_method_23_code 29 = .ok (.iinc 3 1, 3) := by decide +kernel
theorem dc_M_append_32 : decode prog_14_method_23_code 32 = .ok (.goto (-30), 3) := by decide +kernel
theorem dc_M_append_35 : decode prog_14_method_23_code 35 = .ok (.return_, 1) := by decide +kernel
theorem dc_M_keep_0 : decode prog_14_method_9_code 0 = .ok (.iconst 0, 1) := by decide +kernel
theorem dc_M_keep_1 : decode prog_14_method_9_code 1 = .ok (.istore_n 1, 1) := by decide +kernel
theorem dc_M_keep_2 : decode prog_14_method_9_code 2 = .ok (.iload_n 1, 1) := by decide +kernel
theorem dc_M_keep_3 : decode prog_14_method_9_code 3 = .ok (.aload_n 0, 1) := by decide +kernel
theorem dc_M_keep_4 : decode prog_14_method_9_code 4 = .ok (.getfield 25, 3) := by decide +kernel
theorem fl_M_25 : am_fl "WebFinderModel" 25 12 8 := ⟨"WebFinderModel", tt_M, 90, rfl, by decide, Or.inl (am_t7 119 rfl rfl)⟩
theorem dc_M_keep_7 : decode prog_14_method_9_code 7 = .ok (.if_icmp .ge 19, 3) := by decide +kernel
theorem dc_M_keep_10 : decode prog_14_method_9_code 10 = .ok (.aload_n 0, 1) := by decide +kernel
theorem dc_M_keep_11 : decode prog_14_method_9_code 11 = .ok (.iload_n 1, 1) := by decide +kernel
theorem dc_M_keep_12 : decode prog_14_method_9_code 12 = .ok (.invokevirtual 28, 3) := by decide +kernel
theorem mo_M_isMade : am_mo mt_M_isMade 1 := ⟨⟨by decide +kernel, by decide +kernel⟩, by decide +kernel, ⟨by decide +kernel, by decide +kernel⟩, (am_t9 3 rfl rfl), (am_t1 11 rfl rfl), by decide +kernel⟩
theorem im_M_isMade : Cond.instanceMethod mt_M_isMade.1 ∈ am_gw := (am_t9 2 rfl rfl)
theorem se_M_isMade : Cond.selects mt_M_isMade.1.cls mt_M_isMade.1 mt_M_isMade.1 ∈ am_gw := am_in (List.mem_append_left _ (by decide +kernel)) rfl
theorem ln_M_28 : am_ln "WebFinderModel" 28 mt_M_isMade.1 := Or.inl (am_t9 0 rfl rfl)
theorem dc_M_keep_15 : decode prog_14_method_9_code 15 = .ok (.ifCond .eq 5, 3) := by decide +kernel
theorem dc_M_keep_18 : decode prog_14_method_9_code 18 = .ok (.iload_n 1, 1) := by decide +kernel
theorem dc_M_keep_19 : decode prog_14_method_9_code 19 = .ok (.ireturn, 1) := by decide +kernel
theorem dc_M_keep_20 : decode prog_14_method_9_code 20 = .ok (.iinc 1 1, 3) := by decide +kernel
theorem dc_M_keep_23 : decode prog_14_method_9_code 23 = .ok (.goto (-21), 3) := by decide +kernel
theorem dc_M_keep_26 : decode prog_14_method_9_code 26 = .ok (.aload_n 0, 1) := by decide +kernel
theorem dc_M_keep_27 : decode prog_14_method_9_code 27 = .ok (.getfield 25, 3) := by decide +kernel
theorem dc_M_keep_30 : decode prog_14_method_9_code 30 = .ok (.ifCond .ne 7, 3) := by decide +kernel
theorem dc_M_keep_33 : decode prog_14_method_9_code 33 = .ok (.iconst 0, 1) := by decide +kernel
theorem dc_M_keep_34 : decode prog_14_method_9_code 34 = .ok (.goto 26, 3) := by decide +kernel
theorem dc_M_keep_37 : decode prog_14_method_9_code 37 = .ok (.aload_n 0, 1) := by decide +kernel
theorem dc_M_keep_38 : decode prog_14_method_9_code 38 = .ok (.getfield 31, 3) := by decide +kernel
theorem dc_M_keep_41 : decode prog_14_method_9_code 41 = .ok (.aload_n 0, 1) := by decide +kernel
theorem dc_M_keep_42 : decode prog_14_method_9_code 42 = .ok (.getfield 25, 3) := by decide +kernel
theorem dc_M_keep_45 : decode prog_14_method_9_code 45 = .ok (.iconst 1, 1) := by decide +kernel
theorem dc_M_keep_46 : decode prog_14_method_9_code 46 = .ok (.isub, 1) := by decide +kernel
theorem dc_M_keep_47 : decode prog_14_method_9_code 47 = .ok (.iaload, 1) := by decide +kernel
theorem dc_M_keep_48 : decode prog_14_method_9_code 48 = .ok (.aload_n 0, 1) := by decide +kernel
theorem dc_M_keep_49 : decode prog_14_method_9_code 49 = .ok (.getfield 35, 3) := by decide +kernel
theorem dc_M_keep_52 : decode prog_14_method_9_code 52 = .ok (.aload_n 0, 1) := by decide +kernel
theorem dc_M_keep_53 : decode prog_14_method_9_code 53 = .ok (.getfield 25, 3) := by decide +kernel
theorem dc_M_keep_56 : decode prog_14_method_9_code 56 = .ok (.iconst 1, 1) := by decide +kernel
theorem dc_M_keep_57 : decode prog_14_method_9_code 57 = .ok (.isub, 1) := by decide +kernel
theorem dc_M_keep_58 : decode prog_14_method_9_code 58 = .ok (.iaload, 1) := by decide +kernel
theorem dc_M_keep_59 : decode prog_14_method_9_code 59 = .ok (.iadd, 1) := by decide +kernel
theorem dc_M_keep_60 : decode prog_14_method_9_code 60 = .ok (.istore_n 1, 1) := by decide +kernel
theorem dc_M_keep_61 : decode prog_14_method_9_code 61 = .ok (.aload_n 0, 1) := by decide +kernel
theorem dc_M_keep_62 : decode prog_14_method_9_code 62 = .ok (.getfield 31, 3) := by decide +kernel
theorem dc_M_keep_65 : decode prog_14_method_9_code 65 = .ok (.aload_n 0, 1) := by decide +kernel
theorem dc_M_keep_66 : decode prog_14_method_9_code 66 = .ok (.getfield 25, 3) := by decide +kernel
theorem dc_M_keep_69 : decode prog_14_method_9_code 69 = .ok (.iload_n 1, 1) := by decide +kernel
theorem dc_M_keep_70 : decode prog_14_method_9_code 70 = .ok (.iastore, 1) := by decide +kernel
theorem dc_M_keep_71 : decode prog_14_method_9_code 71 = .ok (.aload_n 0, 1) := by decide +kernel
theorem dc_M_keep_72 : decode prog_14_method_9_code 72 = .ok (.getfield 35, 3) := by decide +kernel
theorem dc_M_keep_75 : decode prog_14_method_9_code 75 = .ok (.aload_n 0, 1) := by decide +kernel
theorem dc_M_keep_76 : decode prog_14_method_9_code 76 = .ok (.getfield 25, 3) := by decide +kernel
theorem dc_M_keep_79 : decode prog_14_method_9_code 79 = .ok (.aload_n 0, 1) := by decide +kernel
theorem dc_M_keep_80 : decode prog_14_method_9_code 80 = .ok (.getfield 38, 3) := by decide +kernel
theorem dc_M_keep_83 : decode prog_14_method_9_code 83 = .ok (.iastore, 1) := by decide +kernel
theorem dc_M_keep_84 : decode prog_14_method_9_code 84 = .ok (.iconst 0, 1) := by decide +kernel
theorem dc_M_keep_85 : decode prog_14_method_9_code 85 = .ok (.istore_n 2, 1) := by decide +kernel
theorem dc_M_keep_86 : decode prog_14_method_9_code 86 = .ok (.iload_n 2, 1) := by decide +kernel
theorem dc_M_keep_87 : decode prog_14_method_9_code 87 = .ok (.aload_n 0, 1) := by decide +kernel
theorem dc_M_keep_88 : decode prog_14_method_9_code 88 = .ok (.getfield 38, 3) := by decide +kernel
theorem dc_M_keep_91 : decode prog_14_method_9_code 91 = .ok (.if_icmp .ge 23, 3) := by decide +kernel
theorem dc_M_keep_94 : decode prog_14_method_9_code 94 = .ok (.aload_n 0, 1) := by decide +kernel
theorem dc_M_keep_95 : decode prog_14_method_9_code 95 = .ok (.getfield 41, 3) := by decide +kernel
theorem dc_M_keep_98 : decode prog_14_method_9_code 98 = .ok (.iload_n 1, 1) := by decide +kernel
theorem dc_M_keep_99 : decode prog_14_method_9_code 99 = .ok (.iload_n 2, 1) := by decide +kernel
theorem dc_M_keep_100 : decode prog_14_method_9_code 100 = .ok (.iadd, 1) := by decide +kernel
theorem dc_M_keep_101 : decode prog_14_method_9_code 101 = .ok (.aload_n 0, 1) := by decide +kernel
theorem dc_M_keep_102 : decode prog_14_method_9_code 102 = .ok (.getfield 45, 3) := by decide +kernel
theorem dc_M_keep_105 : decode prog_14_method_9_code 105 = .ok (.iload_n 2, 1) := by decide +kernel
theorem dc_M_keep_106 : decode prog_14_method_9_code 106 = .ok (.baload, 1) := by decide +kernel
theorem dc_M_keep_107 : decode prog_14_method_9_code 107 = .ok (.bastore, 1) := by decide +kernel
theorem dc_M_keep_108 : decode prog_14_method_9_code 108 = .ok (.iinc 2 1, 3) := by decide +kernel
theorem dc_M_keep_111 : decode prog_14_method_9_code 111 = .ok (.goto (-25), 3) := by decide +kernel
theorem dc_M_keep_114 : decode prog_14_method_9_code 114 = .ok (.aload_n 0, 1) := by decide +kernel
theorem dc_M_keep_115 : decode prog_14_method_9_code 115 = .ok (.dup, 1) := by decide +kernel
theorem dc_M_keep_116 : decode prog_14_method_9_code 116 = .ok (.getfield 25, 3) := by decide +kernel
theorem dc_M_keep_119 : decode prog_14_method_9_code 119 = .ok (.iconst 1, 1) := by decide +kernel
theorem dc_M_keep_120 : decode prog_14_method_9_code 120 = .ok (.iadd, 1) := by decide +kernel
theorem dc_M_keep_121 : decode prog_14_method_9_code 121 = .ok (.putfield 25, 3) := by decide +kernel
theorem fp_M_keep_25 : am_fp mt_M_keep.1 25 12 8 (.int) := ⟨"WebFinderModel", tt_M, 90, rfl, by decide, ct_M 8 (by decide), Or.inl ⟨(am_t7 119 rfl rfl), Or.inl rfl⟩⟩
theorem dc_M_keep_124 : decode prog_14_method_9_code 124 = .ok (.aload_n 0, 1) := by decide +kernel
theorem dc_M_keep_125 : decode prog_14_method_9_code 125 = .ok (.getfield 25, 3) := by decide +kernel
theorem dc_M_keep_128 : decode prog_14_method_9_code 128 = .ok (.iconst 1, 1) := by decide +kernel
theorem dc_M_keep_129 : decode prog_14_method_9_code 129 = .ok (.isub, 1) := by decide +kernel
theorem dc_M_keep_130 : decode prog_14_method_9_code 130 = .ok (.ireturn, 1) := by decide +kernel
theorem dc_M_isMade_0 : decode prog_14_method_10_code 0 = .ok (.aload_n 0, 1) := by decide +kernel
theorem dc_M_isMade_1 : decode prog_14_method_10_code 1 = .ok (.getfield 35, 3) := by decide +kernel
theorem dc_M_isMade_4 : decode prog_14_method_10_code 4 = .ok (.iload_n 1, 1) := by decide +kernel
theorem dc_M_isMade_5 : decode prog_14_method_10_code 5 = .ok (.iaload, 1) := by decide +kernel
theorem dc_M_isMade_6 : decode prog_14_method_10_code 6 = .ok (.aload_n 0, 1) := by decide +kernel
theorem dc_M_isMade_7 : decode prog_14_method_10_code 7 = .ok (.getfield 38, 3) := by decide +kernel
theorem dc_M_isMade_10 : decode prog_14_method_10_code 10 = .ok (.if_icmp .ne 7, 3) := by decide +kernel
theorem dc_M_isMade_13 : decode prog_14_method_10_code 13 = .ok (.iconst 1, 1) := by decide +kernel
theorem dc_M_isMade_14 : decode prog_14_method_10_code 14 = .ok (.goto 4, 3) := by decide +kernel
theorem dc_M_isMade_17 : decode prog_14_method_10_code 17 = .ok (.iconst 0, 1) := by decide +kernel
theorem dc_M_isMade_18 : decode prog_14_method_10_code 18 = .ok (.istore_n 2, 1) := by decide +kernel
theorem dc_M_isMade_19 : decode prog_14_method_10_code 19 = .ok (.iconst 0, 1) := by decide +kernel
theorem dc_M_isMade_20 : decode prog_14_method_10_code 20 = .ok (.istore_n 3, 1) := by decide +kernel
theorem dc_M_isMade_21 : decode prog_14_method_10_code 21 = .ok (.iload_n 3, 1) := by decide +kernel
theorem dc_M_isMade_22 : decode prog_14_method_10_code 22 = .ok (.aload_n 0, 1) := by decide +kernel
theorem dc_M_isMade_23 : decode prog_14_method_10_code 23 = .ok (.getfield 38, 3) := by decide +kernel
theorem dc_M_isMade_26 : decode prog_14_method_10_code 26 = .ok (.if_icmp .ge 41, 3) := by decide +kernel
theorem dc_M_isMade_29 : decode prog_14_method_10_code 29 = .ok (.iload_n 2, 1) := by decide +kernel
theorem dc_M_isMade_30 : decode prog_14_method_10_code 30 = .ok (.ifCond .eq 37, 3) := by decide +kernel
theorem dc_M_isMade_33 : decode prog_14_method_10_code 33 = .ok (.aload_n 0, 1) := by decide +kernel
theorem dc_M_isMade_34 : decode prog_14_method_10_code 34 = .ok (.getfield 41, 3) := by decide +kernel
theorem dc_M_isMade_37 : decode prog_14_method_10_code 37 = .ok (.aload_n 0, 1) := by decide +kernel
theorem dc_M_isMade_38 : decode prog_14_method_10_code 38 = .ok (.getfield 31, 3) := by decide +kernel
theorem dc_M_isMade_41 : decode prog_14_method_10_code 41 = .ok (.iload_n 1, 1) := by decide +kernel
theorem dc_M_isMade_42 : decode prog_14_method_10_code 42 = .ok (.iaload, 1) := by decide +kernel
theorem dc_M_isMade_43 : decode prog_14_method_10_code 43 = .ok (.iload_n 3, 1) := by decide +kernel
theorem dc_M_isMade_44 : decode prog_14_method_10_code 44 = .ok (.iadd, 1) := by decide +kernel
theorem dc_M_isMade_45 : decode prog_14_method_10_code 45 = .ok (.baload, 1) := by decide +kernel
theorem dc_M_isMade_46 : decode prog_14_method_10_code 46 = .ok (.aload_n 0, 1) := by decide +kernel
theorem dc_M_isMade_47 : decode prog_14_method_10_code 47 = .ok (.getfield 45, 3) := by decide +kernel
theorem dc_M_isMade_50 : decode prog_14_method_10_code 50 = .ok (.iload_n 3, 1) := by decide +kernel
theorem dc_M_isMade_51 : decode prog_14_method_10_code 51 = .ok (.baload, 1) := by decide +kernel
theorem dc_M_isMade_52 : decode prog_14_method_10_code 52 = .ok (.if_icmp .ne 7, 3) := by decide +kernel
theorem dc_M_isMade_55 : decode prog_14_method_10_code 55 = .ok (.iconst 1, 1) := by decide +kernel
theorem dc_M_isMade_56 : decode prog_14_method_10_code 56 = .ok (.goto 4, 3) := by decide +kernel
theorem dc_M_isMade_59 : decode prog_14_method_10_code 59 = .ok (.iconst 0, 1) := by decide +kernel
theorem dc_M_isMade_60 : decode prog_14_method_10_code 60 = .ok (.istore_n 2, 1) := by decide +kernel
theorem dc_M_isMade_61 : decode prog_14_method_10_code 61 = .ok (.iinc 3 1, 3) := by decide +kernel
theorem dc_M_isMade_64 : decode prog_14_method_10_code 64 = .ok (.goto (-43), 3) := by decide +kernel
theorem dc_M_isMade_67 : decode prog_14_method_10_code 67 = .ok (.iload_n 2, 1) := by decide +kernel
theorem dc_M_isMade_68 : decode prog_14_method_10_code 68 = .ok (.ireturn, 1) := by decide +kernel
theorem dc_M_behindFirst_0 : decode prog_14_method_69_code 0 = .ok (.aload_n 0, 1) := by decide +kernel
theorem dc_M_behindFirst_1 : decode prog_14_method_69_code 1 = .ok (.getfield 143, 3) := by decide +kernel
theorem dc_M_behindFirst_4 : decode prog_14_method_69_code 4 = .ok (.iconst 0, 1) := by decide +kernel
theorem dc_M_behindFirst_5 : decode prog_14_method_69_code 5 = .ok (.iload_n 1, 1) := by decide +kernel
theorem dc_M_behindFirst_6 : decode prog_14_method_69_code 6 = .ok (.bipush 10, 2) := by decide +kernel
theorem dc_M_behindFirst_8 : decode prog_14_method_69_code 8 = .ok (.invokestatic 48, 3) := by decide +kernel
theorem dc_M_behindFirst_11 : decode prog_14_method_69_code 11 = .ok (.istore_n 2, 1) := by decide +kernel
theorem dc_M_behindFirst_12 : decode prog_14_method_69_code 12 = .ok (.iload_n 2, 1) := by decide +kernel
theorem dc_M_behindFirst_13 : decode prog_14_method_69_code 13 = .ok (.iload_n 1, 1) := by decide +kernel
theorem dc_M_behindFirst_14 : decode prog_14_method_69_code 14 = .ok (.if_icmp .ge 9, 3) := by decide +kernel
theorem dc_M_behindFirst_17 : decode prog_14_method_69_code 17 = .ok (.iload_n 2, 1) := by decide +kernel
theorem dc_M_behindFirst_18 : decode prog_14_method_69_code 18 = .ok (.iconst 1, 1) := by decide +kernel
theorem dc_M_behindFirst_19 : decode prog_14_method_69_code 19 = .ok (.iadd, 1) := by decide +kernel
theorem dc_M_behindFirst_20 : decode prog_14_method_69_code 20 = .ok (.goto 4, 3) := by decide +kernel
theorem dc_M_behindFirst_23 : decode prog_14_method_69_code 23 = .ok (.iload_n 1, 1) := by decide +kernel
theorem dc_M_behindFirst_24 : decode prog_14_method_69_code 24 = .ok (.ireturn, 1) := by decide +kernel
theorem dc_M_show_0 : decode prog_14_method_70_code 0 = .ok (.aload_n 0, 1) := by decide +kernel
theorem dc_M_show_1 : decode prog_14_method_70_code 1 = .ok (.iload_n 3, 1) := by decide +kernel
theorem dc_M_show_2 : decode prog_14_method_70_code 2 = .ok (.putfield 499, 3) := by decide +kernel
theorem fp_M_show_499 : am_fp mt_M_show.1 499 12 4 (.int) := ⟨"WebFinderModel", tt_M, 90, rfl, by decide, ct_M 4 (by decide), Or.inl ⟨(am_t7 115 rfl rfl), Or.inl rfl⟩⟩
theorem dc_M_show_5 : decode prog_14_method_70_code 5 = .ok (.iconst 0, 1) := by decide +kernel
theorem dc_M_show_6 : decode prog_14_method_70_code 6 = .ok (.istore 4, 2) := by decide +kernel
theorem dc_M_show_8 : decode prog_14_method_70_code 8 = .ok (.iload 4, 2) := by decide +kernel
theorem dc_M_show_10 : decode prog_14_method_70_code 10 = .ok (.iload_n 3, 1) := by decide +kernel
theorem dc_M_show_11 : decode prog_14_method_70_code 11 = .ok (.if_icmp .ge 22, 3) := by decide +kernel
theorem dc_M_show_14 : decode prog_14_method_70_code 14 = .ok (.aload_n 0, 1) := by decide +kernel
theorem dc_M_show_15 : decode prog_14_method_70_code 15 = .ok (.getfield 337, 3) := by decide +kernel
theorem fl_M_337 : am_fl "WebFinderModel" 337 12 3 := ⟨"WebFinderModel", tt_M, 90, rfl, by decide, Or.inl (am_t7 114 rfl rfl)⟩
theorem dc_M_show_18 : decode prog_14_method_70_code 18 = .ok (.iload 4, 2) := by decide +kernel
theorem dc_M_show_20 : decode prog_14_method_70_code 20 = .ok (.aload_n 1, 1) := by decide +kernel
theorem dc_M_show_21 : decode prog_14_method_70_code 21 = .ok (.iload_n 2, 1) := by decide +kernel
theorem dc_M_show_22 : decode prog_14_method_70_code 22 = .ok (.iload 4, 2) := by decide +kernel
theorem dc_M_show_24 : decode prog_14_method_70_code 24 = .ok (.iadd, 1) := by decide +kernel
theorem dc_M_show_25 : decode prog_14_method_70_code 25 = .ok (.baload, 1) := by decide +kernel
theorem dc_M_show_26 : decode prog_14_method_70_code 26 = .ok (.bastore, 1) := by decide +kernel
theorem dc_M_show_27 : decode prog_14_method_70_code 27 = .ok (.iinc 4 1, 3) := by decide +kernel
theorem dc_M_show_30 : decode prog_14_method_70_code 30 = .ok (.goto (-22), 3) := by decide +kernel
theorem dc_M_show_33 : decode prog_14_method_70_code 33 = .ok (.iload_n 3, 1) := by decide +kernel
theorem dc_M_show_34 : decode prog_14_method_70_code 34 = .ok (.ireturn, 1) := by decide +kernel
theorem dc_M_made_0 : decode prog_14_method_73_code 0 = .ok (.aload_n 0, 1) := by decide +kernel
theorem dc_M_made_1 : decode prog_14_method_73_code 1 = .ok (.iconst 0, 1) := by decide +kernel
theorem dc_M_made_2 : decode prog_14_method_73_code 2 = .ok (.putfield 1, 3) := by decide +kernel
theorem fp_M_made_1 : am_fp mt_M_made.1 1 12 2 (.int) := ⟨"WebFinderModel", tt_M, 90, rfl, by decide, ct_M 2 (by decide), Or.inl ⟨(am_t7 113 rfl rfl), Or.inl rfl⟩⟩
theorem dc_M_made_5 : decode prog_14_method_73_code 5 = .ok (.aload_n 0, 1) := by decide +kernel
theorem dc_M_made_6 : decode prog_14_method_73_code 6 = .ok (.getfield 499, 3) := by decide +kernel
theorem fl_M_499 : am_fl "WebFinderModel" 499 12 4 := ⟨"WebFinderModel", tt_M, 90, rfl, by decide, Or.inl (am_t7 115 rfl rfl)⟩
theorem dc_M_made_9 : decode prog_14_method_73_code 9 = .ok (.ireturn, 1) := by decide +kernel
theorem dc_M_out_0 : decode prog_14_method_74_code 0 = .ok (.aload_n 0, 1) := by decide +kernel
theorem dc_M_out_1 : decode prog_14_method_74_code 1 = .ok (.iconst 0, 1) := by decide +kernel
theorem dc_M_out_2 : decode prog_14_method_74_code 2 = .ok (.putfield 1, 3) := by decide +kernel
theorem fp_M_out_1 : am_fp mt_M_out.1 1 12 2 (.int) := ⟨"WebFinderModel", tt_M, 90, rfl, by decide, ct_M 2 (by decide), Or.inl ⟨(am_t7 113 rfl rfl), Or.inl rfl⟩⟩
theorem dc_M_out_5 : decode prog_14_method_74_code 5 = .ok (.iload_n 1, 1) := by decide +kernel
theorem dc_M_out_6 : decode prog_14_method_74_code 6 = .ok (.ifCond .lt 24, 3) := by decide +kernel
theorem dc_M_out_9 : decode prog_14_method_74_code 9 = .ok (.iload_n 1, 1) := by decide +kernel
theorem dc_M_out_10 : decode prog_14_method_74_code 10 = .ok (.aload_n 0, 1) := by decide +kernel
theorem dc_M_out_11 : decode prog_14_method_74_code 11 = .ok (.getfield 499, 3) := by decide +kernel
theorem dc_M_out_14 : decode prog_14_method_74_code 14 = .ok (.if_icmp .ge 16, 3) := by decide +kernel
theorem dc_M_out_17 : decode prog_14_method_74_code 17 = .ok (.aload_n 0, 1) := by decide +kernel
theorem dc_M_out_18 : decode prog_14_method_74_code 18 = .ok (.getfield 337, 3) := by decide +kernel
theorem dc_M_out_21 : decode prog_14_method_74_code 21 = .ok (.iload_n 1, 1) := by decide +kernel
theorem dc_M_out_22 : decode prog_14_method_74_code 22 = .ok (.baload, 1) := by decide +kernel
theorem dc_M_out_23 : decode prog_14_method_74_code 23 = .ok (.sipush 255, 3) := by decide +kernel
theorem dc_M_out_26 : decode prog_14_method_74_code 26 = .ok (.iand, 1) := by decide +kernel
theorem dc_M_out_27 : decode prog_14_method_74_code 27 = .ok (.goto 4, 3) := by decide +kernel
theorem dc_M_out_30 : decode prog_14_method_74_code 30 = .ok (.iconst (-1), 1) := by decide +kernel
theorem dc_M_out_31 : decode prog_14_method_74_code 31 = .ok (.ireturn, 1) := by decide +kernel
theorem dc_M_page_0 : decode prog_14_method_75_code 0 = .ok (.aload_n 0, 1) := by decide +kernel
theorem dc_M_page_1 : decode prog_14_method_75_code 1 = .ok (.invokevirtual 505, 3) := by decide +kernel
theorem dc_M_page_4 : decode prog_14_method_75_code 4 = .ok (.istore_n 2, 1) := by decide +kernel
theorem dc_M_page_5 : decode prog_14_method_75_code 5 = .ok (.iload_n 1, 1) := by decide +kernel
theorem dc_M_page_6 : decode prog_14_method_75_code 6 = .ok (.bipush 100, 2) := by decide +kernel
theorem dc_M_page_8 : decode prog_14_method_75_code 8 = .ok (.if_icmp .lt 18, 3) := by decide +kernel
theorem dc_M_page_11 : decode prog_14_method_75_code 11 = .ok (.iload_n 1, 1) := by decide +kernel
theorem dc_M_page_12 : decode prog_14_method_75_code 12 = .ok (.sipush 599, 3) := by decide +kernel
theorem dc_M_page_15 : decode prog_14_method_75_code 15 = .ok (.if_icmp .gt 11, 3) := by decide +kernel
theorem dc_M_page_18 : decode prog_14_method_75_code 18 = .ok (.aload_n 0, 1) := by decide +kernel
theorem dc_M_page_19 : decode prog_14_method_75_code 19 = .ok (.iload_n 2, 1) := by decide +kernel
theorem dc_M_page_20 : decode prog_14_method_75_code 20 = .ok (.invokevirtual 508, 3) := by decide +kernel
theorem dc_M_page_23 : decode prog_14_method_75_code 23 = .ok (.ifCond .ne 5, 3) := by decide +kernel
theorem dc_M_page_26 : decode prog_14_method_75_code 26 = .ok (.iconst (-1), 1) := by decide +kernel
theorem dc_M_page_27 : decode prog_14_method_75_code 27 = .ok (.ireturn, 1) := by decide +kernel
theorem dc_M_page_28 : decode prog_14_method_75_code 28 = .ok (.aload_n 0, 1) := by decide +kernel
theorem dc_M_page_29 : decode prog_14_method_75_code 29 = .ok (.invokevirtual 300, 3) := by decide +kernel
theorem dc_M_page_32 : decode prog_14_method_75_code 32 = .ok (.istore_n 3, 1) := by decide +kernel
theorem dc_M_page_33 : decode prog_14_method_75_code 33 = .ok (.aload_n 0, 1) := by decide +kernel
theorem dc_M_page_34 : decode prog_14_method_75_code 34 = .ok (.iload_n 3, 1) := by decide +kernel
theorem dc_M_page_35 : decode prog_14_method_75_code 35 = .ok (.invokevirtual 446, 3) := by decide +kernel
theorem mo_M_pageOf : am_mo mt_M_pageOf 1 := ⟨⟨by decide +kernel, by decide +kernel⟩, by decide +kernel, ⟨by decide +kernel, by decide +kernel⟩, (am_t9 27 rfl rfl), (am_t1 11 rfl rfl), by decide +kernel⟩
theorem im_M_pageOf : Cond.instanceMethod mt_M_pageOf.1 ∈ am_gw := (am_t9 26 rfl rfl)
theorem se_M_pageOf : Cond.selects mt_M_pageOf.1.cls mt_M_pageOf.1 mt_M_pageOf.1 ∈ am_gw := am_in (List.mem_append_left _ (by decide +kernel)) rfl
theorem ln_M_446 : am_ln "WebFinderModel" 446 mt_M_pageOf.1 := Or.inl (am_t9 24 rfl rfl)
theorem dc_M_page_38 : decode prog_14_method_75_code 38 = .ok (.istore 4, 2) := by decide +kernel
theorem dc_M_page_40 : decode prog_14_method_75_code 40 = .ok (.iload 4, 2) := by decide +kernel
theorem dc_M_page_42 : decode prog_14_method_75_code 42 = .ok (.ifCond .ge 30, 3) := by decide +kernel
theorem dc_M_page_45 : decode prog_14_method_75_code 45 = .ok (.aload_n 0, 1) := by decide +kernel
theorem dc_M_page_46 : decode prog_14_method_75_code 46 = .ok (.getfield 312, 3) := by decide +kernel
theorem fl_M_312 : am_fl "WebFinderModel" 312 12 54 := ⟨"WebFinderModel", tt_M, 90, rfl, by decide, Or.inl (am_t7 165 rfl rfl)⟩
theorem dc_M_page_49 : decode prog_14_method_75_code 49 = .ok (.bipush 60, 2) := by decide +kernel
theorem dc_M_page_51 : decode prog_14_method_75_code 51 = .ok (.if_icmp .ne 5, 3) := by decide +kernel
theorem dc_M_page_54 : decode prog_14_method_75_code 54 = .ok (.iconst (-1), 1) := by decide +kernel
theorem dc_M_page_55 : decode prog_14_method_75_code 55 = .ok (.ireturn, 1) := by decide +kernel
theorem dc_M_page_56 : decode prog_14_method_75_code 56 = .ok (.aload_n 0, 1) := by decide +kernel
theorem dc_M_page_57 : decode prog_14_method_75_code 57 = .ok (.getfield 312, 3) := by decide +kernel
theorem dc_M_page_60 : decode prog_14_method_75_code 60 = .ok (.istore 4, 2) := by decide +kernel
theorem dc_M_page_62 : decode prog_14_method_75_code 62 = .ok (.aload_n 0, 1) := by decide +kernel
theorem dc_M_page_63 : decode prog_14_method_75_code 63 = .ok (.dup, 1) := by decide +kernel
theorem dc_M_page_64 : decode prog_14_method_75_code 64 = .ok (.getfield 312, 3) := by decide +kernel
theorem dc_M_page_67 : decode prog_14_method_75_code 67 = .ok (.iconst 1, 1) := by decide +kernel
theorem dc_M_page_68 : decode prog_14_method_75_code 68 = .ok (.iadd, 1) := by decide +kernel
theorem dc_M_page_69 : decode prog_14_method_75_code 69 = .ok (.putfield 312, 3) := by decide +kernel
theorem fp_M_page_312 : am_fp mt_M_page.1 312 12 54 (.int) := ⟨"WebFinderModel", tt_M, 90, rfl, by decide, ct_M 54 (by decide), Or.inl ⟨(am_t7 165 rfl rfl), Or.inl rfl⟩⟩
theorem dc_M_page_72 : decode prog_14_method_75_code 72 = .ok (.aload_n 0, 1) := by decide +kernel
theorem dc_M_page_73 : decode prog_14_method_75_code 73 = .ok (.getfield 315, 3) := by decide +kernel
theorem fl_M_315 : am_fl "WebFinderModel" 315 12 51 := ⟨"WebFinderModel", tt_M, 90, rfl, by decide, Or.inl (am_t7 162 rfl rfl)⟩
theorem dc_M_page_76 : decode prog_14_method_75_code 76 = .ok (.iload 4, 2) := by decide +kernel
theorem dc_M_page_78 : decode prog_14_method_75_code 78 = .ok (.iload_n 3, 1) := by decide +kernel
theorem dc_M_page_79 : decode prog_14_method_75_code 79 = .ok (.iastore, 1) := by decide +kernel
theorem dc_M_page_80 : decode prog_14_method_75_code 80 = .ok (.aload_n 0, 1) := by decide +kernel
theorem dc_M_page_81 : decode prog_14_method_75_code 81 = .ok (.getfield 341, 3) := by decide +kernel
theorem fl_M_341 : am_fl "WebFinderModel" 341 12 52 := ⟨"WebFinderModel", tt_M, 90, rfl, by decide, Or.inl (am_t7 163 rfl rfl)⟩
theorem dc_M_page_84 : decode prog_14_method_75_code 84 = .ok (.iload 4, 2) := by decide +kernel
theorem dc_M_page_86 : decode prog_14_method_75_code 86 = .ok (.iload_n 1, 1) := by decide +kernel
theorem dc_M_page_87 : decode prog_14_method_75_code 87 = .ok (.iastore, 1) := by decide +kernel
theorem dc_M_page_88 : decode prog_14_method_75_code 88 = .ok (.aload_n 0, 1) := by decide +kernel
theorem dc_M_page_89 : decode prog_14_method_75_code 89 = .ok (.getfield 344, 3) := by decide +kernel
theorem fl_M_344 : am_fl "WebFinderModel" 344 12 53 := ⟨"WebFinderModel", tt_M, 90, rfl, by decide, Or.inl (am_t7 164 rfl rfl)⟩
theorem dc_M_page_92 : decode prog_14_method_75_code 92 = .ok (.iload 4, 2) := by decide +kernel
theorem dc_M_page_94 : decode prog_14_method_75_code 94 = .ok (.aload_n 0, 1) := by decide +kernel
theorem dc_M_page_95 : decode prog_14_method_75_code 95 = .ok (.aload_n 0, 1) := by decide +kernel
theorem dc_M_page_96 : decode prog_14_method_75_code 96 = .ok (.iload_n 2, 1) := by decide +kernel
theorem dc_M_page_97 : decode prog_14_method_75_code 97 = .ok (.invokevirtual 511, 3) := by decide +kernel
theorem dc_M_page_100 : decode prog_14_method_75_code 100 = .ok (.iload_n 2, 1) := by decide +kernel
theorem dc_M_page_101 : decode prog_14_method_75_code 101 = .ok (.invokevirtual 514, 3) := by decide +kernel
theorem mo_M_tell : am_mo mt_M_tell 2 := ⟨⟨by decide +kernel, by decide +kernel⟩, by decide +kernel, ⟨by decide +kernel, by decide +kernel⟩, (am_t9 31 rfl rfl), (am_t1 11 rfl rfl), by decide +kernel⟩
theorem im_M_tell : Cond.instanceMethod mt_M_tell.1 ∈ am_gw := (am_t9 30 rfl rfl)
theorem se_M_tell : Cond.selects mt_M_tell.1.cls mt_M_tell.1 mt_M_tell.1 ∈ am_gw := am_in (List.mem_append_left _ (by decide +kernel)) rfl
theorem ln_M_514 : am_ln "WebFinderModel" 514 mt_M_tell.1 := Or.inl (am_t9 28 rfl rfl)
theorem dc_M_page_104 : decode prog_14_method_75_code 104 = .ok (.iastore, 1) := by decide +kernel
theorem dc_M_page_105 : decode prog_14_method_75_code 105 = .ok (.aload_n 0, 1) := by decide +kernel
theorem dc_M_page_106 : decode prog_14_method_75_code 106 = .ok (.getfield 312, 3) := by decide +kernel
theorem dc_M_page_109 : decode prog_14_method_75_code 109 = .ok (.ireturn, 1) := by decide +kernel
