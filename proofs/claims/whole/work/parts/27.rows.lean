theorem dc_M_split_0 : decode prog_14_method_34_code 0 = .ok (.iload_n 2, 1) := by decide +kernel
theorem dc_M_split_1 : decode prog_14_method_34_code 1 = .ok (.istore 4, 2) := by decide +kernel
theorem dc_M_split_3 : decode prog_14_method_34_code 3 = .ok (.iload 4, 2) := by decide +kernel
theorem dc_M_split_5 : decode prog_14_method_34_code 5 = .ok (.iload_n 3, 1) := by decide +kernel
theorem dc_M_split_6 : decode prog_14_method_34_code 6 = .ok (.if_icmp .ge 186, 3) := by decide +kernel
theorem dc_M_split_9 : decode prog_14_method_34_code 9 = .ok (.iload 4, 2) := by decide +kernel
theorem dc_M_split_11 : decode prog_14_method_34_code 11 = .ok (.istore 5, 2) := by decide +kernel
theorem dc_M_split_13 : decode prog_14_method_34_code 13 = .ok (.iload 5, 2) := by decide +kernel
theorem dc_M_split_15 : decode prog_14_method_34_code 15 = .ok (.iload_n 3, 1) := by decide +kernel
theorem dc_M_split_16 : decode prog_14_method_34_code 16 = .ok (.if_icmp .ge 29, 3) := by decide +kernel
theorem dc_M_split_19 : decode prog_14_method_34_code 19 = .ok (.aload_n 1, 1) := by decide +kernel
theorem dc_M_split_20 : decode prog_14_method_34_code 20 = .ok (.iload 5, 2) := by decide +kernel
theorem dc_M_split_22 : decode prog_14_method_34_code 22 = .ok (.baload, 1) := by decide +kernel
theorem dc_M_split_23 : decode prog_14_method_34_code 23 = .ok (.invokestatic 58, 3) := by decide +kernel
theorem dc_M_split_26 : decode prog_14_method_34_code 26 = .ok (.ifCond .ne 13, 3) := by decide +kernel
theorem dc_M_split_29 : decode prog_14_method_34_code 29 = .ok (.aload_n 1, 1) := by decide +kernel
theorem dc_M_split_30 : decode prog_14_method_34_code 30 = .ok (.iload 5, 2) := by decide +kernel
theorem dc_M_split_32 : decode prog_14_method_34_code 32 = .ok (.baload, 1) := by decide +kernel
theorem dc_M_split_33 : decode prog_14_method_34_code 33 = .ok (.invokestatic 11, 3) := by decide +kernel
theorem dc_M_split_36 : decode prog_14_method_34_code 36 = .ok (.ifCond .eq 9, 3) := by decide +kernel
theorem dc_M_split_39 : decode prog_14_method_34_code 39 = .ok (.iinc 5 1, 3) := by decide +kernel
theorem dc_M_split_42 : decode prog_14_method_34_code 42 = .ok (.goto (-29), 3) := by decide +kernel
theorem dc_M_split_45 : decode prog_14_method_34_code 45 = .ok (.iload 5, 2) := by decide +kernel
theorem dc_M_split_47 : decode prog_14_method_34_code 47 = .ok (.iload 4, 2) := by decide +kernel
theorem dc_M_split_49 : decode prog_14_method_34_code 49 = .ok (.if_icmp .le 137, 3) := by decide +kernel
theorem dc_M_split_52 : decode prog_14_method_34_code 52 = .ok (.aload_n 0, 1) := by decide +kernel
theorem dc_M_split_53 : decode prog_14_method_34_code 53 = .ok (.getfield 223, 3) := by decide +kernel
theorem dc_M_split_56 : decode prog_14_method_34_code 56 = .ok (.ifCond .ne 7, 3) := by decide +kernel
theorem dc_M_split_59 : decode prog_14_method_34_code 59 = .ok (.iconst 0, 1) := by decide +kernel
theorem dc_M_split_60 : decode prog_14_method_34_code 60 = .ok (.goto 26, 3) := by decide +kernel
theorem dc_M_split_63 : decode prog_14_method_34_code 63 = .ok (.aload_n 0, 1) := by decide +kernel
theorem dc_M_split_64 : decode prog_14_method_34_code 64 = .ok (.getfield 226, 3) := by decide +kernel
theorem dc_M_split_67 : decode prog_14_method_34_code 67 = .ok (.aload_n 0, 1) := by decide +kernel
theorem dc_M_split_68 : decode prog_14_method_34_code 68 = .ok (.getfield 223, 3) := by decide +kernel
theorem dc_M_split_71 : decode prog_14_method_34_code 71 = .ok (.iconst 1, 1) := by decide +kernel
theorem dc_M_split_72 : decode prog_14_method_34_code 72 = .ok (.isub, 1) := by decide +kernel
theorem dc_M_split_73 : decode prog_14_method_34_code 73 = .ok (.iaload, 1) := by decide +kernel
theorem dc_M_split_74 : decode prog_14_method_34_code 74 = .ok (.aload_n 0, 1) := by decide +kernel
theorem dc_M_split_75 : decode prog_14_method_34_code 75 = .ok (.getfield 229, 3) := by decide +kernel
theorem dc_M_split_78 : decode prog_14_method_34_code 78 = .ok (.aload_n 0, 1) := by decide +kernel
theorem dc_M_split_79 : decode prog_14_method_34_code 79 = .ok (.getfield 223, 3) := by decide +kernel
theorem dc_M_split_82 : decode prog_14_method_34_code 82 = .ok (.iconst 1, 1) := by decide +kernel
theorem dc_M_split_83 : decode prog_14_method_34_code 83 = .ok (.isub, 1) := by decide +kernel
theorem dc_M_split_84 : decode prog_14_method_34_code 84 = .ok (.iaload, 1) := by decide +kernel
theorem dc_M_split_85 : decode prog_14_method_34_code 85 = .ok (.iadd, 1) := by decide +kernel
theorem dc_M_split_86 : decode prog_14_method_34_code 86 = .ok (.istore 6, 2) := by decide +kernel
theorem dc_M_split_88 : decode prog_14_method_34_code 88 = .ok (.iload 5, 2) := by decide +kernel
theorem dc_M_split_90 : decode prog_14_method_34_code 90 = .ok (.iload 4, 2) := by decide +kernel
theorem dc_M_split_92 : decode prog_14_method_34_code 92 = .ok (.isub, 1) := by decide +kernel
theorem dc_M_split_93 : decode prog_14_method_34_code 93 = .ok (.bipush 20, 2) := by decide +kernel
theorem dc_M_split_95 : decode prog_14_method_34_code 95 = .ok (.if_icmp .ge 11, 3) := by decide +kernel
theorem dc_M_split_98 : decode prog_14_method_34_code 98 = .ok (.iload 5, 2) := by decide +kernel
theorem dc_M_split_100 : decode prog_14_method_34_code 100 = .ok (.iload 4, 2) := by decide +kernel
theorem dc_M_split_102 : decode prog_14_method_34_code 102 = .ok (.isub, 1) := by decide +kernel
theorem dc_M_split_103 : decode prog_14_method_34_code 103 = .ok (.goto 5, 3) := by decide +kernel
theorem dc_M_split_106 : decode prog_14_method_34_code 106 = .ok (.bipush 20, 2) := by decide +kernel
theorem dc_M_split_108 : decode prog_14_method_34_code 108 = .ok (.istore 7, 2) := by decide +kernel
theorem dc_M_split_110 : decode prog_14_method_34_code 110 = .ok (.aload_n 0, 1) := by decide +kernel
theorem dc_M_split_111 : decode prog_14_method_34_code 111 = .ok (.getfield 226, 3) := by decide +kernel
theorem dc_M_split_114 : decode prog_14_method_34_code 114 = .ok (.aload_n 0, 1) := by decide +kernel
theorem dc_M_split_115 : decode prog_14_method_34_code 115 = .ok (.getfield 223, 3) := by decide +kernel
theorem dc_M_split_118 : decode prog_14_method_34_code 118 = .ok (.iload 6, 2) := by decide +kernel
theorem dc_M_split_120 : decode prog_14_method_34_code 120 = .ok (.iastore, 1) := by decide +kernel
theorem dc_M_split_121 : decode prog_14_method_34_code 121 = .ok (.aload_n 0, 1) := by decide +kernel
theorem dc_M_split_122 : decode prog_14_method_34_code 122 = .ok (.getfield 229, 3) := by decide +kernel
theorem dc_M_split_125 : decode prog_14_method_34_code 125 = .ok (.aload_n 0, 1) := by decide +kernel
theorem dc_M_split_126 : decode prog_14_method_34_code 126 = .ok (.getfield 223, 3) := by decide +kernel
theorem dc_M_split_129 : decode prog_14_method_34_code 129 = .ok (.iload 7, 2) := by decide +kernel
theorem dc_M_split_131 : decode prog_14_method_34_code 131 = .ok (.iastore, 1) := by decide +kernel
theorem dc_M_split_132 : decode prog_14_method_34_code 132 = .ok (.iconst 0, 1) := by decide +kernel
theorem dc_M_split_133 : decode prog_14_method_34_code 133 = .ok (.istore 8, 2) := by decide +kernel
theorem dc_M_split_135 : decode prog_14_method_34_code 135 = .ok (.iload 8, 2) := by decide +kernel
theorem dc_M_split_137 : decode prog_14_method_34_code 137 = .ok (.iload 7, 2) := by decide +kernel
theorem dc_M_split_139 : decode prog_14_method_34_code 139 = .ok (.if_icmp .ge 30, 3) := by decide +kernel
theorem dc_M_split_142 : decode prog_14_method_34_code 142 = .ok (.aload_n 0, 1) := by decide +kernel
theorem dc_M_split_143 : decode prog_14_method_34_code 143 = .ok (.getfield 232, 3) := by decide +kernel
theorem dc_M_split_146 : decode prog_14_method_34_code 146 = .ok (.iload 6, 2) := by decide +kernel
theorem dc_M_split_148 : decode prog_14_method_34_code 148 = .ok (.iload 8, 2) := by decide +kernel
theorem dc_M_split_150 : decode prog_14_method_34_code 150 = .ok (.iadd, 1) := by decide +kernel
theorem dc_M_split_151 : decode prog_14_method_34_code 151 = .ok (.aload_n 1, 1) := by decide +kernel
theorem dc_M_split_152 : decode prog_14_method_34_code 152 = .ok (.iload 4, 2) := by decide +kernel
theorem dc_M_split_154 : decode prog_14_method_34_code 154 = .ok (.iload 8, 2) := by decide +kernel
theorem dc_M_split_156 : decode prog_14_method_34_code 156 = .ok (.iadd, 1) := by decide +kernel
theorem dc_M_split_157 : decode prog_14_method_34_code 157 = .ok (.baload, 1) := by decide +kernel
theorem dc_M_split_158 : decode prog_14_method_34_code 158 = .ok (.invokestatic 7, 3) := by decide +kernel
theorem dc_M_split_161 : decode prog_14_method_34_code 161 = .ok (.i2b, 1) := by decide +kernel
theorem dc_M_split_162 : decode prog_14_method_34_code 162 = .ok (.bastore, 1) := by decide +kernel
theorem dc_M_split_163 : decode prog_14_method_34_code 163 = .ok (.iinc 8 1, 3) := by decide +kernel
theorem dc_M_split_166 : decode prog_14_method_34_code 166 = .ok (.goto (-31), 3) := by decide +kernel
theorem dc_M_split_169 : decode prog_14_method_34_code 169 = .ok (.aload_n 0, 1) := by decide +kernel
theorem dc_M_split_170 : decode prog_14_method_34_code 170 = .ok (.dup, 1) := by decide +kernel
theorem dc_M_split_171 : decode prog_14_method_34_code 171 = .ok (.getfield 223, 3) := by decide +kernel
theorem dc_M_split_174 : decode prog_14_method_34_code 174 = .ok (.iconst 1, 1) := by decide +kernel
theorem dc_M_split_175 : decode prog_14_method_34_code 175 = .ok (.iadd, 1) := by decide +kernel
theorem dc_M_split_176 : decode prog_14_method_34_code 176 = .ok (.putfield 223, 3) := by decide +kernel
theorem fp_M_split_223 : am_fp mt_M_split.1 223 12 40 (.int) := ⟨"WebFinderModel", tt_M, 90, rfl, by decide, ct_M 40 (by decide), Or.inl ⟨(am_t7 151 rfl rfl), Or.inl rfl⟩⟩
theorem dc_M_split_179 : decode prog_14_method_34_code 179 = .ok (.iload 5, 2) := by decide +kernel
theorem dc_M_split_181 : decode prog_14_method_34_code 181 = .ok (.istore 4, 2) := by decide +kernel
theorem dc_M_split_183 : decode prog_14_method_34_code 183 = .ok (.goto 6, 3) := by decide +kernel
theorem dc_M_split_186 : decode prog_14_method_34_code 186 = .ok (.iinc 4 1, 3) := by decide +kernel
theorem dc_M_split_189 : decode prog_14_method_34_code 189 = .ok (.goto (-186), 3) := by decide +kernel
theorem dc_M_split_192 : decode prog_14_method_34_code 192 = .ok (.return_, 1) := by decide +kernel
theorem dc_M_tagEnd_0 : decode prog_14_method_39_code 0 = .ok (.iload_n 1, 1) := by decide +kernel
theorem dc_M_tagEnd_1 : decode prog_14_method_39_code 1 = .ok (.istore 5, 2) := by decide +kernel
theorem dc_M_tagEnd_3 : decode prog_14_method_39_code 3 = .ok (.iload 5, 2) := by decide +kernel
theorem dc_M_tagEnd_5 : decode prog_14_method_39_code 5 = .ok (.iload_n 2, 1) := by decide +kernel
theorem dc_M_tagEnd_6 : decode prog_14_method_39_code 6 = .ok (.if_icmp .ge 46, 3) := by decide +kernel
theorem dc_M_tagEnd_9 : decode prog_14_method_39_code 9 = .ok (.aload_n 0, 1) := by decide +kernel
theorem dc_M_tagEnd_10 : decode prog_14_method_39_code 10 = .ok (.getfield 140, 3) := by decide +kernel
theorem dc_M_tagEnd_13 : decode prog_14_method_39_code 13 = .ok (.iload 5, 2) := by decide +kernel
theorem dc_M_tagEnd_15 : decode prog_14_method_39_code 15 = .ok (.baload, 1) := by decide +kernel
theorem dc_M_tagEnd_16 : decode prog_14_method_39_code 16 = .ok (.invokestatic 75, 3) := by decide +kernel
theorem dc_M_tagEnd_19 : decode prog_14_method_39_code 19 = .ok (.ifCond .ne 33, 3) := by decide +kernel
theorem dc_M_tagEnd_22 : decode prog_14_method_39_code 22 = .ok (.aload_n 0, 1) := by decide +kernel
theorem dc_M_tagEnd_23 : decode prog_14_method_39_code 23 = .ok (.getfield 140, 3) := by decide +kernel
theorem dc_M_tagEnd_26 : decode prog_14_method_39_code 26 = .ok (.iload 5, 2) := by decide +kernel
theorem dc_M_tagEnd_28 : decode prog_14_method_39_code 28 = .ok (.baload, 1) := by decide +kernel
theorem dc_M_tagEnd_29 : decode prog_14_method_39_code 29 = .ok (.bipush 47, 2) := by decide +kernel
theorem dc_M_tagEnd_31 : decode prog_14_method_39_code 31 = .ok (.if_icmp .eq 21, 3) := by decide +kernel
theorem dc_M_tagEnd_34 : decode prog_14_method_39_code 34 = .ok (.aload_n 0, 1) := by decide +kernel
theorem dc_M_tagEnd_35 : decode prog_14_method_39_code 35 = .ok (.getfield 140, 3) := by decide +kernel
theorem dc_M_tagEnd_38 : decode prog_14_method_39_code 38 = .ok (.iload 5, 2) := by decide +kernel
theorem dc_M_tagEnd_40 : decode prog_14_method_39_code 40 = .ok (.baload, 1) := by decide +kernel
theorem dc_M_tagEnd_41 : decode prog_14_method_39_code 41 = .ok (.bipush 62, 2) := by decide +kernel
theorem dc_M_tagEnd_43 : decode prog_14_method_39_code 43 = .ok (.if_icmp .eq 9, 3) := by decide +kernel
theorem dc_M_tagEnd_46 : decode prog_14_method_39_code 46 = .ok (.iinc 5 1, 3) := by decide +kernel
theorem dc_M_tagEnd_49 : decode prog_14_method_39_code 49 = .ok (.goto (-46), 3) := by decide +kernel
theorem dc_M_tagEnd_52 : decode prog_14_method_39_code 52 = .ok (.iload 5, 2) := by decide +kernel
theorem dc_M_tagEnd_54 : decode prog_14_method_39_code 54 = .ok (.istore 6, 2) := by decide +kernel
theorem dc_M_tagEnd_56 : decode prog_14_method_39_code 56 = .ok (.aload_n 0, 1) := by decide +kernel
theorem dc_M_tagEnd_57 : decode prog_14_method_39_code 57 = .ok (.iconst 0, 1) := by decide +kernel
theorem dc_M_tagEnd_58 : decode prog_14_method_39_code 58 = .ok (.putfield 272, 3) := by decide +kernel
theorem fp_M_tagEnd_272 : am_fp mt_M_tagEnd.1 272 12 50 (.boolean) := ⟨"WebFinderModel", tt_M, 90, rfl, by decide, ct_M 50 (by decide), Or.inl ⟨(am_t7 161 rfl rfl), Or.inl rfl⟩⟩
theorem dc_M_tagEnd_61 : decode prog_14_method_39_code 61 = .ok (.iconst 1, 1) := by decide +kernel
theorem dc_M_tagEnd_62 : decode prog_14_method_39_code 62 = .ok (.istore 7, 2) := by decide +kernel
theorem dc_M_tagEnd_64 : decode prog_14_method_39_code 64 = .ok (.iload 7, 2) := by decide +kernel
theorem dc_M_tagEnd_66 : decode prog_14_method_39_code 66 = .ok (.ifCond .eq 82, 3) := by decide +kernel
theorem dc_M_tagEnd_69 : decode prog_14_method_39_code 69 = .ok (.iload 5, 2) := by decide +kernel
theorem dc_M_tagEnd_71 : decode prog_14_method_39_code 71 = .ok (.iload_n 2, 1) := by decide +kernel
theorem dc_M_tagEnd_72 : decode prog_14_method_39_code 72 = .ok (.if_icmp .ge 34, 3) := by decide +kernel
theorem dc_M_tagEnd_75 : decode prog_14_method_39_code 75 = .ok (.aload_n 0, 1) := by decide +kernel
theorem dc_M_tagEnd_76 : decode prog_14_method_39_code 76 = .ok (.getfield 140, 3) := by decide +kernel
theorem dc_M_tagEnd_79 : decode prog_14_method_39_code 79 = .ok (.iload 5, 2) := by decide +kernel
theorem dc_M_tagEnd_81 : decode prog_14_method_39_code 81 = .ok (.baload, 1) := by decide +kernel
theorem dc_M_tagEnd_82 : decode prog_14_method_39_code 82 = .ok (.invokestatic 75, 3) := by decide +kernel
theorem dc_M_tagEnd_85 : decode prog_14_method_39_code 85 = .ok (.ifCond .ne 15, 3) := by decide +kernel
theorem dc_M_tagEnd_88 : decode prog_14_method_39_code 88 = .ok (.aload_n 0, 1) := by decide +kernel
theorem dc_M_tagEnd_89 : decode prog_14_method_39_code 89 = .ok (.getfield 140, 3) := by decide +kernel
theorem dc_M_tagEnd_92 : decode prog_14_method_39_code 92 = .ok (.iload 5, 2) := by decide +kernel
theorem dc_M_tagEnd_94 : decode prog_14_method_39_code 94 = .ok (.baload, 1) := by decide +kernel
theorem dc_M_tagEnd_95 : decode prog_14_method_39_code 95 = .ok (.bipush 47, 2) := by decide +kernel
theorem dc_M_tagEnd_97 : decode prog_14_method_39_code 97 = .ok (.if_icmp .ne 9, 3) := by decide +kernel
theorem dc_M_tagEnd_100 : decode prog_14_method_39_code 100 = .ok (.iinc 5 1, 3) := by decide +kernel
theorem dc_M_tagEnd_103 : decode prog_14_method_39_code 103 = .ok (.goto (-34), 3) := by decide +kernel
theorem dc_M_tagEnd_106 : decode prog_14_method_39_code 106 = .ok (.iload 5, 2) := by decide +kernel
theorem dc_M_tagEnd_108 : decode prog_14_method_39_code 108 = .ok (.iload_n 2, 1) := by decide +kernel
theorem dc_M_tagEnd_109 : decode prog_14_method_39_code 109 = .ok (.if_icmp .ge 19, 3) := by decide +kernel
theorem dc_M_tagEnd_112 : decode prog_14_method_39_code 112 = .ok (.aload_n 0, 1) := by decide +kernel
theorem dc_M_tagEnd_113 : decode prog_14_method_39_code 113 = .ok (.getfield 140, 3) := by decide +kernel
theorem dc_M_tagEnd_116 : decode prog_14_method_39_code 116 = .ok (.iload 5, 2) := by decide +kernel
theorem dc_M_tagEnd_118 : decode prog_14_method_39_code 118 = .ok (.baload, 1) := by decide +kernel
theorem dc_M_tagEnd_119 : decode prog_14_method_39_code 119 = .ok (.bipush 62, 2) := by decide +kernel
theorem dc_M_tagEnd_121 : decode prog_14_method_39_code 121 = .ok (.if_icmp .eq 7, 3) := by decide +kernel
theorem dc_M_tagEnd_124 : decode prog_14_method_39_code 124 = .ok (.iconst 1, 1) := by decide +kernel
theorem dc_M_tagEnd_125 : decode prog_14_method_39_code 125 = .ok (.goto 4, 3) := by decide +kernel
theorem dc_M_tagEnd_128 : decode prog_14_method_39_code 128 = .ok (.iconst 0, 1) := by decide +kernel
theorem dc_M_tagEnd_129 : decode prog_14_method_39_code 129 = .ok (.istore 7, 2) := by decide +kernel
theorem dc_M_tagEnd_131 : decode prog_14_method_39_code 131 = .ok (.iload 7, 2) := by decide +kernel
theorem dc_M_tagEnd_133 : decode prog_14_method_39_code 133 = .ok (.ifCond .eq (-69), 3) := by decide +kernel
theorem dc_M_tagEnd_136 : decode prog_14_method_39_code 136 = .ok (.aload_n 0, 1) := by decide +kernel
theorem dc_M_tagEnd_137 : decode prog_14_method_39_code 137 = .ok (.iload 5, 2) := by decide +kernel
theorem dc_M_tagEnd_139 : decode prog_14_method_39_code 139 = .ok (.iload_n 2, 1) := by decide +kernel
theorem dc_M_tagEnd_140 : decode prog_14_method_39_code 140 = .ok (.invokevirtual 275, 3) := by decide +kernel
theorem mo_M_attributeEnd : am_mo mt_M_attributeEnd 2 := ⟨⟨by decide +kernel, by decide +kernel⟩, by decide +kernel, ⟨by decide +kernel, by decide +kernel⟩, (am_t9 117 rfl rfl), (am_t1 11 rfl rfl), by decide +kernel⟩
theorem im_M_attributeEnd : Cond.instanceMethod mt_M_attributeEnd.1 ∈ am_gw := (am_t9 116 rfl rfl)
theorem se_M_attributeEnd : Cond.selects mt_M_attributeEnd.1.cls mt_M_attributeEnd.1 mt_M_attributeEnd.1 ∈ am_gw := am_in (List.mem_append_left _ (by decide +kernel)) rfl
theorem ln_M_275 : am_ln "WebFinderModel" 275 mt_M_attributeEnd.1 := Or.inl (am_t9 114 rfl rfl)
theorem dc_M_tagEnd_143 : decode prog_14_method_39_code 143 = .ok (.istore 5, 2) := by decide +kernel
theorem dc_M_tagEnd_145 : decode prog_14_method_39_code 145 = .ok (.goto (-81), 3) := by decide +kernel
theorem dc_M_tagEnd_148 : decode prog_14_method_39_code 148 = .ok (.iload 5, 2) := by decide +kernel
theorem dc_M_tagEnd_150 : decode prog_14_method_39_code 150 = .ok (.iload_n 2, 1) := by decide +kernel
theorem dc_M_tagEnd_151 : decode prog_14_method_39_code 151 = .ok (.if_icmp .lt 5, 3) := by decide +kernel
theorem dc_M_tagEnd_154 : decode prog_14_method_39_code 154 = .ok (.iload_n 2, 1) := by decide +kernel
theorem dc_M_tagEnd_155 : decode prog_14_method_39_code 155 = .ok (.ireturn, 1) := by decide +kernel
theorem dc_M_tagEnd_156 : decode prog_14_method_39_code 156 = .ok (.iinc 5 1, 3) := by decide +kernel
theorem dc_M_tagEnd_159 : decode prog_14_method_39_code 159 = .ok (.iload_n 3, 1) := by decide +kernel
theorem dc_M_tagEnd_160 : decode prog_14_method_39_code 160 = .ok (.ifCond .ne 6, 3) := by decide +kernel
theorem dc_M_tagEnd_163 : decode prog_14_method_39_code 163 = .ok (.iload 5, 2) := by decide +kernel
theorem dc_M_tagEnd_165 : decode prog_14_method_39_code 165 = .ok (.ireturn, 1) := by decide +kernel
theorem dc_M_tagEnd_166 : decode prog_14_method_39_code 166 = .ok (.aload_n 0, 1) := by decide +kernel
theorem dc_M_tagEnd_167 : decode prog_14_method_39_code 167 = .ok (.getfield 272, 3) := by decide +kernel
theorem fl_M_272 : am_fl "WebFinderModel" 272 12 50 := ⟨"WebFinderModel", tt_M, 90, rfl, by decide, Or.inl (am_t7 161 rfl rfl)⟩
theorem dc_M_tagEnd_170 : decode prog_14_method_39_code 170 = .ok (.ifCond .eq 110, 3) := by decide +kernel
theorem dc_M_tagEnd_173 : decode prog_14_method_39_code 173 = .ok (.aload_n 0, 1) := by decide +kernel
theorem dc_M_tagEnd_174 : decode prog_14_method_39_code 174 = .ok (.getfield 140, 3) := by decide +kernel
theorem dc_M_tagEnd_177 : decode prog_14_method_39_code 177 = .ok (.iload_n 1, 1) := by decide +kernel
theorem dc_M_tagEnd_178 : decode prog_14_method_39_code 178 = .ok (.iload 6, 2) := by decide +kernel
theorem dc_M_tagEnd_180 : decode prog_14_method_39_code 180 = .ok (.ldc_w 278, 3) := by decide +kernel
theorem dc_M_tagEnd_183 : decode prog_14_method_39_code 183 = .ok (.invokestatic 83, 3) := by decide +kernel
theorem dc_M_tagEnd_186 : decode prog_14_method_39_code 186 = .ok (.ifCond .eq 94, 3) := by decide +kernel
theorem dc_M_tagEnd_189 : decode prog_14_method_39_code 189 = .ok (.aload_n 0, 1) := by decide +kernel
theorem dc_M_tagEnd_190 : decode prog_14_method_39_code 190 = .ok (.getfield 248, 3) := by decide +kernel
theorem dc_M_tagEnd_193 : decode prog_14_method_39_code 193 = .ok (.ifCond .ne 7, 3) := by decide +kernel
theorem dc_M_tagEnd_196 : decode prog_14_method_39_code 196 = .ok (.iconst 0, 1) := by decide +kernel
theorem dc_M_tagEnd_197 : decode prog_14_method_39_code 197 = .ok (.goto 26, 3) := by decide +kernel
theorem dc_M_tagEnd_200 : decode prog_14_method_39_code 200 = .ok (.aload_n 0, 1) := by decide +kernel
theorem dc_M_tagEnd_201 : decode prog_14_method_39_code 201 = .ok (.getfield 280, 3) := by decide +kernel
theorem fl_M_280 : am_fl "WebFinderModel" 280 12 42 := ⟨"WebFinderModel", tt_M, 90, rfl, by decide, Or.inl (am_t7 153 rfl rfl)⟩
theorem dc_M_tagEnd_204 : decode prog_14_method_39_code 204 = .ok (.aload_n 0, 1) := by decide +kernel
theorem dc_M_tagEnd_205 : decode prog_14_method_39_code 205 = .ok (.getfield 248, 3) := by decide +kernel
theorem dc_M_tagEnd_208 : decode prog_14_method_39_code 208 = .ok (.iconst 1, 1) := by decide +kernel
theorem dc_M_tagEnd_209 : decode prog_14_method_39_code 209 = .ok (.isub, 1) := by decide +kernel
theorem dc_M_tagEnd_210 : decode prog_14_method_39_code 210 = .ok (.iaload, 1) := by decide +kernel
theorem dc_M_tagEnd_211 : decode prog_14_method_39_code 211 = .ok (.aload_n 0, 1) := by decide +kernel
theorem dc_M_tagEnd_212 : decode prog_14_method_39_code 212 = .ok (.getfield 283, 3) := by decide +kernel
theorem fl_M_283 : am_fl "WebFinderModel" 283 12 43 := ⟨"WebFinderModel", tt_M, 90, rfl, by decide, Or.inl (am_t7 154 rfl rfl)⟩
theorem dc_M_tagEnd_215 : decode prog_14_method_39_code 215 = .ok (.aload_n 0, 1) := by decide +kernel
theorem dc_M_tagEnd_216 : decode prog_14_method_39_code 216 = .ok (.getfield 248, 3) := by decide +kernel
theorem dc_M_tagEnd_219 : decode prog_14_method_39_code 219 = .ok (.iconst 1, 1) := by decide +kernel
theorem dc_M_tagEnd_220 : decode prog_14_method_39_code 220 = .ok (.isub, 1) := by decide +kernel
theorem dc_M_tagEnd_221 : decode prog_14_method_39_code 221 = .ok (.iaload, 1) := by decide +kernel
theorem dc_M_tagEnd_222 : decode prog_14_method_39_code 222 = .ok (.iadd, 1) := by decide +kernel
theorem dc_M_tagEnd_223 : decode prog_14_method_39_code 223 = .ok (.istore 8, 2) := by decide +kernel
theorem dc_M_tagEnd_225 : decode prog_14_method_39_code 225 = .ok (.aload_n 0, 1) := by decide +kernel
theorem dc_M_tagEnd_226 : decode prog_14_method_39_code 226 = .ok (.getfield 280, 3) := by decide +kernel
theorem dc_M_tagEnd_229 : decode prog_14_method_39_code 229 = .ok (.aload_n 0, 1) := by decide +kernel
theorem dc_M_tagEnd_230 : decode prog_14_method_39_code 230 = .ok (.getfield 248, 3) := by decide +kernel
theorem dc_M_tagEnd_233 : decode prog_14_method_39_code 233 = .ok (.iload 8, 2) := by decide +kernel
theorem dc_M_tagEnd_235 : decode prog_14_method_39_code 235 = .ok (.iastore, 1) := by decide +kernel
theorem dc_M_tagEnd_236 : decode prog_14_method_39_code 236 = .ok (.aload_n 0, 1) := by decide +kernel
theorem dc_M_tagEnd_237 : decode prog_14_method_39_code 237 = .ok (.getfield 283, 3) := by decide +kernel
theorem dc_M_tagEnd_240 : decode prog_14_method_39_code 240 = .ok (.aload_n 0, 1) := by decide +kernel
theorem dc_M_tagEnd_241 : decode prog_14_method_39_code 241 = .ok (.getfield 248, 3) := by decide +kernel
theorem dc_M_tagEnd_244 : decode prog_14_method_39_code 244 = .ok (.aload_n 0, 1) := by decide +kernel
theorem dc_M_tagEnd_245 : decode prog_14_method_39_code 245 = .ok (.aload_n 0, 1) := by decide +kernel
theorem dc_M_tagEnd_246 : decode prog_14_method_39_code 246 = .ok (.getfield 140, 3) := by decide +kernel
theorem dc_M_tagEnd_249 : decode prog_14_method_39_code 249 = .ok (.aload_n 0, 1) := by decide +kernel
theorem dc_M_tagEnd_250 : decode prog_14_method_39_code 250 = .ok (.getfield 286, 3) := by decide +kernel
theorem fl_M_286 : am_fl "WebFinderModel" 286 12 48 := ⟨"WebFinderModel", tt_M, 90, rfl, by decide, Or.inl (am_t7 159 rfl rfl)⟩
theorem dc_M_tagEnd_253 : decode prog_14_method_39_code 253 = .ok (.aload_n 0, 1) := by decide +kernel
theorem dc_M_tagEnd_254 : decode prog_14_method_39_code 254 = .ok (.getfield 289, 3) := by decide +kernel
theorem fl_M_289 : am_fl "WebFinderModel" 289 12 49 := ⟨"WebFinderModel", tt_M, 90, rfl, by decide, Or.inl (am_t7 160 rfl rfl)⟩
theorem dc_M_tagEnd_257 : decode prog_14_method_39_code 257 = .ok (.aload_n 0, 1) := by decide +kernel
theorem dc_M_tagEnd_258 : decode prog_14_method_39_code 258 = .ok (.getfield 292, 3) := by decide +kernel
theorem fl_M_292 : am_fl "WebFinderModel" 292 12 41 := ⟨"WebFinderModel", tt_M, 90, rfl, by decide, Or.inl (am_t7 152 rfl rfl)⟩
theorem dc_M_tagEnd_261 : decode prog_14_method_39_code 261 = .ok (.iload 8, 2) := by decide +kernel
theorem dc_M_tagEnd_263 : decode prog_14_method_39_code 263 = .ok (.invokevirtual 238, 3) := by decide +kernel
theorem dc_M_tagEnd_266 : decode prog_14_method_39_code 266 = .ok (.iload 8, 2) := by decide +kernel
theorem dc_M_tagEnd_268 : decode prog_14_method_39_code 268 = .ok (.isub, 1) := by decide +kernel
theorem dc_M_tagEnd_269 : decode prog_14_method_39_code 269 = .ok (.iastore, 1) := by decide +kernel
theorem dc_M_tagEnd_270 : decode prog_14_method_39_code 270 = .ok (.aload_n 0, 1) := by decide +kernel
theorem dc_M_tagEnd_271 : decode prog_14_method_39_code 271 = .ok (.dup, 1) := by decide +kernel
theorem dc_M_tagEnd_272 : decode prog_14_method_39_code 272 = .ok (.getfield 248, 3) := by decide +kernel
theorem dc_M_tagEnd_275 : decode prog_14_method_39_code 275 = .ok (.iconst 1, 1) := by decide +kernel
theorem dc_M_tagEnd_276 : decode prog_14_method_39_code 276 = .ok (.iadd, 1) := by decide +kernel
theorem dc_M_tagEnd_277 : decode prog_14_method_39_code 277 = .ok (.putfield 248, 3) := by decide +kernel
theorem fp_M_tagEnd_248 : am_fp mt_M_tagEnd.1 248 12 44 (.int) := ⟨"WebFinderModel", tt_M, 90, rfl, by decide, ct_M 44 (by decide), Or.inl ⟨(am_t7 155 rfl rfl), Or.inl rfl⟩⟩
theorem dc_M_tagEnd_280 : decode prog_14_method_39_code 280 = .ok (.aload_n 0, 1) := by decide +kernel
theorem dc_M_tagEnd_281 : decode prog_14_method_39_code 281 = .ok (.getfield 272, 3) := by decide +kernel
theorem dc_M_tagEnd_284 : decode prog_14_method_39_code 284 = .ok (.ifCond .eq 82, 3) := by decide +kernel
theorem dc_M_tagEnd_287 : decode prog_14_method_39_code 287 = .ok (.aload_n 0, 1) := by decide +kernel
theorem dc_M_tagEnd_288 : decode prog_14_method_39_code 288 = .ok (.getfield 251, 3) := by decide +kernel
theorem fl_M_251 : am_fl "WebFinderModel" 251 12 46 := ⟨"WebFinderModel", tt_M, 90, rfl, by decide, Or.inl (am_t7 157 rfl rfl)⟩
theorem dc_M_tagEnd_291 : decode prog_14_method_39_code 291 = .ok (.ifCond .ne 75, 3) := by decide +kernel
theorem dc_M_tagEnd_294 : decode prog_14_method_39_code 294 = .ok (.aload_n 0, 1) := by decide +kernel
theorem dc_M_tagEnd_295 : decode prog_14_method_39_code 295 = .ok (.getfield 140, 3) := by decide +kernel
theorem dc_M_tagEnd_298 : decode prog_14_method_39_code 298 = .ok (.iload_n 1, 1) := by decide +kernel
theorem dc_M_tagEnd_299 : decode prog_14_method_39_code 299 = .ok (.iload 6, 2) := by decide +kernel
theorem dc_M_tagEnd_301 : decode prog_14_method_39_code 301 = .ok (.ldc_w 295, 3) := by decide +kernel
theorem dc_M_tagEnd_304 : decode prog_14_method_39_code 304 = .ok (.invokestatic 83, 3) := by decide +kernel
theorem dc_M_tagEnd_307 : decode prog_14_method_39_code 307 = .ok (.ifCond .eq 59, 3) := by decide +kernel
theorem dc_M_tagEnd_310 : decode prog_14_method_39_code 310 = .ok (.aload_n 0, 1) := by decide +kernel
theorem dc_M_tagEnd_311 : decode prog_14_method_39_code 311 = .ok (.aload_n 0, 1) := by decide +kernel
theorem dc_M_tagEnd_312 : decode prog_14_method_39_code 312 = .ok (.aload_n 0, 1) := by decide +kernel
theorem dc_M_tagEnd_313 : decode prog_14_method_39_code 313 = .ok (.getfield 140, 3) := by decide +kernel
theorem dc_M_tagEnd_316 : decode prog_14_method_39_code 316 = .ok (.aload_n 0, 1) := by decide +kernel
theorem dc_M_tagEnd_317 : decode prog_14_method_39_code 317 = .ok (.getfield 286, 3) := by decide +kernel
theorem dc_M_tagEnd_320 : decode prog_14_method_39_code 320 = .ok (.aload_n 0, 1) := by decide +kernel
theorem dc_M_tagEnd_321 : decode prog_14_method_39_code 321 = .ok (.getfield 289, 3) := by decide +kernel
theorem dc_M_tagEnd_324 : decode prog_14_method_39_code 324 = .ok (.aload_n 0, 1) := by decide +kernel
theorem dc_M_tagEnd_325 : decode prog_14_method_39_code 325 = .ok (.getfield 235, 3) := by decide +kernel
theorem dc_M_tagEnd_328 : decode prog_14_method_39_code 328 = .ok (.iconst 0, 1) := by decide +kernel
theorem dc_M_tagEnd_329 : decode prog_14_method_39_code 329 = .ok (.invokevirtual 238, 3) := by decide +kernel
theorem dc_M_tagEnd_332 : decode prog_14_method_39_code 332 = .ok (.putfield 241, 3) := by decide +kernel
theorem fp_M_tagEnd_241 : am_fp mt_M_tagEnd.1 241 12 36 (.int) := ⟨"WebFinderModel", tt_M, 90, rfl, by decide, ct_M 36 (by decide), Or.inl ⟨(am_t7 147 rfl rfl), Or.inl rfl⟩⟩
theorem dc_M_tagEnd_335 : decode prog_14_method_39_code 335 = .ok (.aload_n 0, 1) := by decide +kernel
theorem dc_M_tagEnd_336 : decode prog_14_method_39_code 336 = .ok (.aload_n 0, 1) := by decide +kernel
theorem dc_M_tagEnd_337 : decode prog_14_method_39_code 337 = .ok (.getfield 235, 3) := by decide +kernel
theorem dc_M_tagEnd_340 : decode prog_14_method_39_code 340 = .ok (.iconst 0, 1) := by decide +kernel
theorem dc_M_tagEnd_341 : decode prog_14_method_39_code 341 = .ok (.aload_n 0, 1) := by decide +kernel
theorem dc_M_tagEnd_342 : decode prog_14_method_39_code 342 = .ok (.getfield 241, 3) := by decide +kernel
theorem dc_M_tagEnd_345 : decode prog_14_method_39_code 345 = .ok (.iload 4, 2) := by decide +kernel
theorem dc_M_tagEnd_347 : decode prog_14_method_39_code 347 = .ok (.invokevirtual 297, 3) := by decide +kernel
theorem dc_M_tagEnd_350 : decode prog_14_method_39_code 350 = .ok (.ifCond .eq 16, 3) := by decide +kernel
theorem dc_M_tagEnd_353 : decode prog_14_method_39_code 353 = .ok (.aload_n 0, 1) := by decide +kernel
theorem dc_M_tagEnd_354 : decode prog_14_method_39_code 354 = .ok (.iconst 1, 1) := by decide +kernel
theorem dc_M_tagEnd_355 : decode prog_14_method_39_code 355 = .ok (.putfield 251, 3) := by decide +kernel
theorem fp_M_tagEnd_251 : am_fp mt_M_tagEnd.1 251 12 46 (.boolean) := ⟨"WebFinderModel", tt_M, 90, rfl, by decide, ct_M 46 (by decide), Or.inl ⟨(am_t7 157 rfl rfl), Or.inl rfl⟩⟩
theorem dc_M_tagEnd_358 : decode prog_14_method_39_code 358 = .ok (.aload_n 0, 1) := by decide +kernel
theorem dc_M_tagEnd_359 : decode prog_14_method_39_code 359 = .ok (.aload_n 0, 1) := by decide +kernel
theorem dc_M_tagEnd_360 : decode prog_14_method_39_code 360 = .ok (.invokevirtual 300, 3) := by decide +kernel
theorem dc_M_tagEnd_363 : decode prog_14_method_39_code 363 = .ok (.putfield 254, 3) := by decide +kernel
theorem fp_M_tagEnd_254 : am_fp mt_M_tagEnd.1 254 12 45 (.int) := ⟨"WebFinderModel", tt_M, 90, rfl, by decide, ct_M 45 (by decide), Or.inl ⟨(am_t7 156 rfl rfl), Or.inl rfl⟩⟩
theorem dc_M_tagEnd_366 : decode prog_14_method_39_code 366 = .ok (.aload_n 0, 1) := by decide +kernel
theorem dc_M_tagEnd_367 : decode prog_14_method_39_code 367 = .ok (.getfield 140, 3) := by decide +kernel
theorem dc_M_tagEnd_370 : decode prog_14_method_39_code 370 = .ok (.iload_n 1, 1) := by decide +kernel
theorem dc_M_tagEnd_371 : decode prog_14_method_39_code 371 = .ok (.iload 6, 2) := by decide +kernel
theorem dc_M_tagEnd_373 : decode prog_14_method_39_code 373 = .ok (.ldc_w 303, 3) := by decide +kernel
theorem dc_M_tagEnd_376 : decode prog_14_method_39_code 376 = .ok (.invokestatic 83, 3) := by decide +kernel
theorem dc_M_tagEnd_379 : decode prog_14_method_39_code 379 = .ok (.ifCond .ne 19, 3) := by decide +kernel
theorem dc_M_tagEnd_382 : decode prog_14_method_39_code 382 = .ok (.aload_n 0, 1) := by decide +kernel
theorem dc_M_tagEnd_383 : decode prog_14_method_39_code 383 = .ok (.getfield 140, 3) := by decide +kernel
theorem dc_M_tagEnd_386 : decode prog_14_method_39_code 386 = .ok (.iload_n 1, 1) := by decide +kernel
theorem dc_M_tagEnd_387 : decode prog_14_method_39_code 387 = .ok (.iload 6, 2) := by decide +kernel
theorem dc_M_tagEnd_389 : decode prog_14_method_39_code 389 = .ok (.ldc_w 305, 3) := by decide +kernel
theorem dc_M_tagEnd_392 : decode prog_14_method_39_code 392 = .ok (.invokestatic 83, 3) := by decide +kernel
theorem dc_M_tagEnd_395 : decode prog_14_method_39_code 395 = .ok (.ifCond .eq 7, 3) := by decide +kernel
theorem dc_M_tagEnd_398 : decode prog_14_method_39_code 398 = .ok (.iconst 1, 1) := by decide +kernel
theorem dc_M_tagEnd_399 : decode prog_14_method_39_code 399 = .ok (.goto 4, 3) := by decide +kernel
theorem dc_M_tagEnd_402 : decode prog_14_method_39_code 402 = .ok (.iconst 0, 1) := by decide +kernel
theorem dc_M_tagEnd_403 : decode prog_14_method_39_code 403 = .ok (.istore 8, 2) := by decide +kernel
theorem dc_M_tagEnd_405 : decode prog_14_method_39_code 405 = .ok (.iload 8, 2) := by decide +kernel
theorem dc_M_tagEnd_407 : decode prog_14_method_39_code 407 = .ok (.ifCond .eq 16, 3) := by decide +kernel
theorem dc_M_tagEnd_410 : decode prog_14_method_39_code 410 = .ok (.aload_n 0, 1) := by decide +kernel
theorem dc_M_tagEnd_411 : decode prog_14_method_39_code 411 = .ok (.iload 5, 2) := by decide +kernel
theorem dc_M_tagEnd_413 : decode prog_14_method_39_code 413 = .ok (.iload_n 2, 1) := by decide +kernel
theorem dc_M_tagEnd_414 : decode prog_14_method_39_code 414 = .ok (.iload_n 1, 1) := by decide +kernel
theorem dc_M_tagEnd_415 : decode prog_14_method_39_code 415 = .ok (.iload 6, 2) := by decide +kernel
theorem dc_M_tagEnd_417 : decode prog_14_method_39_code 417 = .ok (.invokevirtual 307, 3) := by decide +kernel
theorem mo_M_rawEnd : am_mo mt_M_rawEnd 4 := ⟨⟨by decide +kernel, by decide +kernel⟩, by decide +kernel, ⟨by decide +kernel, by decide +kernel⟩, (am_t9 126 rfl rfl), (am_t1 11 rfl rfl), by decide +kernel⟩
theorem im_M_rawEnd : Cond.instanceMethod mt_M_rawEnd.1 ∈ am_gw := (am_t9 125 rfl rfl)
theorem se_M_rawEnd : Cond.selects mt_M_rawEnd.1.cls mt_M_rawEnd.1 mt_M_rawEnd.1 ∈ am_gw := am_in (List.mem_append_left _ (by decide +kernel)) rfl
theorem ln_M_307 : am_ln "WebFinderModel" 307 mt_M_rawEnd.1 := Or.inl (am_t9 123 rfl rfl)
theorem dc_M_tagEnd_420 : decode prog_14_method_39_code 420 = .ok (.goto 5, 3) := by decide +kernel
theorem dc_M_tagEnd_423 : decode prog_14_method_39_code 423 = .ok (.iload 5, 2) := by decide +kernel
theorem dc_M_tagEnd_425 : decode prog_14_method_39_code 425 = .ok (.ireturn, 1) := by decide +kernel
theorem dc_M_attributeEnd_0 : decode prog_14_method_41_code 0 = .ok (.iload_n 1, 1) := by decide +kernel
theorem dc_M_attributeEnd_1 : decode prog_14_method_41_code 1 = .ok (.iconst 1, 1) := by decide +kernel
theorem dc_M_attributeEnd_2 : decode prog_14_method_41_code 2 = .ok (.iadd, 1) := by decide +kernel
theorem dc_M_attributeEnd_3 : decode prog_14_method_41_code 3 = .ok (.istore_n 3, 1) := by decide +kernel
theorem dc_M_attributeEnd_4 : decode prog_14_method_41_code 4 = .ok (.iload_n 3, 1) := by decide +kernel
theorem dc_M_attributeEnd_5 : decode prog_14_method_41_code 5 = .ok (.iload_n 2, 1) := by decide +kernel
theorem dc_M_attributeEnd_6 : decode prog_14_method_41_code 6 = .ok (.if_icmp .ge 54, 3) := by decide +kernel
theorem dc_M_attributeEnd_9 : decode prog_14_method_41_code 9 = .ok (.aload_n 0, 1) := by decide +kernel
theorem dc_M_attributeEnd_10 : decode prog_14_method_41_code 10 = .ok (.getfield 140, 3) := by decide +kernel
theorem dc_M_attributeEnd_13 : decode prog_14_method_41_code 13 = .ok (.iload_n 3, 1) := by decide +kernel
theorem dc_M_attributeEnd_14 : decode prog_14_method_41_code 14 = .ok (.baload, 1) := by decide +kernel
theorem dc_M_attributeEnd_15 : decode prog_14_method_41_code 15 = .ok (.invokestatic 75, 3) := by decide +kernel
theorem dc_M_attributeEnd_18 : decode prog_14_method_41_code 18 = .ok (.ifCond .ne 42, 3) := by decide +kernel
theorem dc_M_attributeEnd_21 : decode prog_14_method_41_code 21 = .ok (.aload_n 0, 1) := by decide +kernel
theorem dc_M_attributeEnd_22 : decode prog_14_method_41_code 22 = .ok (.getfield 140, 3) := by decide +kernel
theorem dc_M_attributeEnd_25 : decode prog_14_method_41_code 25 = .ok (.iload_n 3, 1) := by decide +kernel
theorem dc_M_attributeEnd_26 : decode prog_14_method_41_code 26 = .ok (.baload, 1) := by decide +kernel
theorem dc_M_attributeEnd_27 : decode prog_14_method_41_code 27 = .ok (.bipush 47, 2) := by decide +kernel
theorem dc_M_attributeEnd_29 : decode prog_14_method_41_code 29 = .ok (.if_icmp .eq 31, 3) := by decide +kernel
theorem dc_M_attributeEnd_32 : decode prog_14_method_41_code 32 = .ok (.aload_n 0, 1) := by decide +kernel
theorem dc_M_attributeEnd_33 : decode prog_14_method_41_code 33 = .ok (.getfield 140, 3) := by decide +kernel
theorem dc_M_attributeEnd_36 : decode prog_14_method_41_code 36 = .ok (.iload_n 3, 1) := by decide +kernel
theorem dc_M_attributeEnd_37 : decode prog_14_method_41_code 37 = .ok (.baload, 1) := by decide +kernel
theorem dc_M_attributeEnd_38 : decode prog_14_method_41_code 38 = .ok (.bipush 62, 2) := by decide +kernel
theorem dc_M_attributeEnd_40 : decode prog_14_method_41_code 40 = .ok (.if_icmp .eq 20, 3) := by decide +kernel
theorem dc_M_attributeEnd_43 : decode prog_14_method_41_code 43 = .ok (.aload_n 0, 1) := by decide +kernel
theorem dc_M_attributeEnd_44 : decode prog_14_method_41_code 44 = .ok (.getfield 140, 3) := by decide +kernel
theorem dc_M_attributeEnd_47 : decode prog_14_method_41_code 47 = .ok (.iload_n 3, 1) := by decide +kernel
theorem dc_M_attributeEnd_48 : decode prog_14_method_41_code 48 = .ok (.baload, 1) := by decide +kernel
theorem dc_M_attributeEnd_49 : decode prog_14_method_41_code 49 = .ok (.bipush 61, 2) := by decide +kernel
theorem dc_M_attributeEnd_51 : decode prog_14_method_41_code 51 = .ok (.if_icmp .eq 9, 3) := by decide +kernel
theorem dc_M_attributeEnd_54 : decode prog_14_method_41_code 54 = .ok (.iinc 3 1, 3) := by decide +kernel
theorem dc_M_attributeEnd_57 : decode prog_14_method_41_code 57 = .ok (.goto (-53), 3) := by decide +kernel
theorem dc_M_attributeEnd_60 : decode prog_14_method_41_code 60 = .ok (.aload_n 0, 1) := by decide +kernel
theorem dc_M_attributeEnd_61 : decode prog_14_method_41_code 61 = .ok (.getfield 272, 3) := by decide +kernel
theorem dc_M_attributeEnd_64 : decode prog_14_method_41_code 64 = .ok (.ifCond .ne 22, 3) := by decide +kernel
theorem dc_M_attributeEnd_67 : decode prog_14_method_41_code 67 = .ok (.aload_n 0, 1) := by decide +kernel
theorem dc_M_attributeEnd_68 : decode prog_14_method_41_code 68 = .ok (.getfield 140, 3) := by decide +kernel
theorem dc_M_attributeEnd_71 : decode prog_14_method_41_code 71 = .ok (.iload_n 1, 1) := by decide +kernel
theorem dc_M_attributeEnd_72 : decode prog_14_method_41_code 72 = .ok (.iload_n 3, 1) := by decide +kernel
theorem dc_M_attributeEnd_73 : decode prog_14_method_41_code 73 = .ok (.ldc_w 310, 3) := by decide +kernel
theorem dc_M_attributeEnd_76 : decode prog_14_method_41_code 76 = .ok (.invokestatic 83, 3) := by decide +kernel
theorem dc_M_attributeEnd_79 : decode prog_14_method_41_code 79 = .ok (.ifCond .eq 7, 3) := by decide +kernel
theorem dc_M_attributeEnd_82 : decode prog_14_method_41_code 82 = .ok (.iconst 1, 1) := by decide +kernel
theorem dc_M_attributeEnd_83 : decode prog_14_method_41_code 83 = .ok (.goto 4, 3) := by decide +kernel
theorem dc_M_attributeEnd_86 : decode prog_14_method_41_code 86 = .ok (.iconst 0, 1) := by decide +kernel
theorem dc_M_attributeEnd_87 : decode prog_14_method_41_code 87 = .ok (.istore 4, 2) := by decide +kernel
theorem dc_M_attributeEnd_89 : decode prog_14_method_41_code 89 = .ok (.aload_n 0, 1) := by decide +kernel
theorem dc_M_attributeEnd_90 : decode prog_14_method_41_code 90 = .ok (.aload_n 0, 1) := by decide +kernel
theorem dc_M_attributeEnd_91 : decode prog_14_method_41_code 91 = .ok (.getfield 272, 3) := by decide +kernel
theorem dc_M_attributeEnd_94 : decode prog_14_method_41_code 94 = .ok (.ifCond .ne 8, 3) := by decide +kernel
theorem dc_M_attributeEnd_97 : decode prog_14_method_41_code 97 = .ok (.iload 4, 2) := by decide +kernel
theorem dc_M_attributeEnd_99 : decode prog_14_method_41_code 99 = .ok (.ifCond .eq 7, 3) := by decide +kernel
theorem dc_M_attributeEnd_102 : decode prog_14_method_41_code 102 = .ok (.iconst 1, 1) := by decide +kernel
theorem dc_M_attributeEnd_103 : decode prog_14_method_41_code 103 = .ok (.goto 4, 3) := by decide +kernel
theorem dc_M_attributeEnd_106 : decode prog_14_method_41_code 106 = .ok (.iconst 0, 1) := by decide +kernel
theorem dc_M_attributeEnd_107 : decode prog_14_method_41_code 107 = .ok (.putfield 272, 3) := by decide +kernel
theorem fp_M_attributeEnd_272 : am_fp mt_M_attributeEnd.1 272 12 50 (.boolean) := ⟨"WebFinderModel", tt_M, 90, rfl, by decide, ct_M 50 (by decide), Or.inl ⟨(am_t7 161 rfl rfl), Or.inl rfl⟩⟩
theorem dc_M_attributeEnd_110 : decode prog_14_method_41_code 110 = .ok (.iload_n 3, 1) := by decide +kernel
theorem dc_M_attributeEnd_111 : decode prog_14_method_41_code 111 = .ok (.istore 5, 2) := by decide +kernel
theorem dc_M_attributeEnd_113 : decode prog_14_method_41_code 113 = .ok (.iload_n 3, 1) := by decide +kernel
theorem dc_M_attributeEnd_114 : decode prog_14_method_41_code 114 = .ok (.istore 6, 2) := by decide +kernel
theorem dc_M_attributeEnd_116 : decode prog_14_method_41_code 116 = .ok (.iload_n 3, 1) := by decide +kernel
theorem dc_M_attributeEnd_117 : decode prog_14_method_41_code 117 = .ok (.istore 7, 2) := by decide +kernel
theorem dc_M_attributeEnd_119 : decode prog_14_method_41_code 119 = .ok (.iload_n 3, 1) := by decide +kernel
theorem dc_M_attributeEnd_120 : decode prog_14_method_41_code 120 = .ok (.istore 8, 2) := by decide +kernel
theorem dc_M_attributeEnd_122 : decode prog_14_method_41_code 122 = .ok (.iload 8, 2) := by decide +kernel
theorem dc_M_attributeEnd_124 : decode prog_14_method_41_code 124 = .ok (.iload_n 2, 1) := by decide +kernel
theorem dc_M_attributeEnd_125 : decode prog_14_method_41_code 125 = .ok (.if_icmp .ge 22, 3) := by decide +kernel
theorem dc_M_attributeEnd_128 : decode prog_14_method_41_code 128 = .ok (.aload_n 0, 1) := by decide +kernel
theorem dc_M_attributeEnd_129 : decode prog_14_method_41_code 129 = .ok (.getfield 140, 3) := by decide +kernel
theorem dc_M_attributeEnd_132 : decode prog_14_method_41_code 132 = .ok (.iload 8, 2) := by decide +kernel
theorem dc_M_attributeEnd_134 : decode prog_14_method_41_code 134 = .ok (.baload, 1) := by decide +kernel
theorem dc_M_attributeEnd_135 : decode prog_14_method_41_code 135 = .ok (.invokestatic 75, 3) := by decide +kernel
theorem dc_M_attributeEnd_138 : decode prog_14_method_41_code 138 = .ok (.ifCond .eq 9, 3) := by decide +kernel
theorem dc_M_attributeEnd_141 : decode prog_14_method_41_code 141 = .ok (.iinc 8 1, 3) := by decide +kernel
theorem dc_M_attributeEnd_144 : decode prog_14_method_41_code 144 = .ok (.goto (-22), 3) := by decide +kernel
theorem dc_M_attributeEnd_147 : decode prog_14_method_41_code 147 = .ok (.iload 8, 2) := by decide +kernel
theorem dc_M_attributeEnd_149 : decode prog_14_method_41_code 149 = .ok (.iload_n 2, 1) := by decide +kernel
theorem dc_M_attributeEnd_150 : decode prog_14_method_41_code 150 = .ok (.if_icmp .ge 166, 3) := by decide +kernel
theorem dc_M_attributeEnd_153 : decode prog_14_method_41_code 153 = .ok (.aload_n 0, 1) := by decide +kernel
theorem dc_M_attributeEnd_154 : decode prog_14_method_41_code 154 = .ok (.getfield 140, 3) := by decide +kernel
theorem dc_M_attributeEnd_157 : decode prog_14_method_41_code 157 = .ok (.iload 8, 2) := by decide +kernel
theorem dc_M_attributeEnd_159 : decode prog_14_method_41_code 159 = .ok (.baload, 1) := by decide +kernel
theorem dc_M_attributeEnd_160 : decode prog_14_method_41_code 160 = .ok (.bipush 61, 2) := by decide +kernel
theorem dc_M_attributeEnd_162 : decode prog_14_method_41_code 162 = .ok (.if_icmp .ne 154, 3) := by decide +kernel
theorem dc_M_attributeEnd_165 : decode prog_14_method_41_code 165 = .ok (.iinc 8 1, 3) := by decide +kernel
theorem dc_M_attributeEnd_168 : decode prog_14_method_41_code 168 = .ok (.iload 8, 2) := by decide +kernel
theorem dc_M_attributeEnd_170 : decode prog_14_method_41_code 170 = .ok (.iload_n 2, 1) := by decide +kernel
theorem dc_M_attributeEnd_171 : decode prog_14_method_41_code 171 = .ok (.if_icmp .ge 22, 3) := by decide +kernel
theorem dc_M_attributeEnd_174 : decode prog_14_method_41_code 174 = .ok (.aload_n 0, 1) := by decide +kernel
theorem dc_M_attributeEnd_175 : decode prog_14_method_41_code 175 = .ok (.getfield 140, 3) := by decide +kernel
theorem dc_M_attributeEnd_178 : decode prog_14_method_41_code 178 = .ok (.iload 8, 2) := by decide +kernel
theorem dc_M_attributeEnd_180 : decode prog_14_method_41_code 180 = .ok (.baload, 1) := by decide +kernel
theorem dc_M_attributeEnd_181 : decode prog_14_method_41_code 181 = .ok (.invokestatic 75, 3) := by decide +kernel
theorem dc_M_attributeEnd_184 : decode prog_14_method_41_code 184 = .ok (.ifCond .eq 9, 3) := by decide +kernel
theorem dc_M_attributeEnd_187 : decode prog_14_method_41_code 187 = .ok (.iinc 8 1, 3) := by decide +kernel
theorem dc_M_attributeEnd_190 : decode prog_14_method_41_code 190 = .ok (.goto (-22), 3) := by decide +kernel
theorem dc_M_attributeEnd_193 : decode prog_14_method_41_code 193 = .ok (.iload 8, 2) := by decide +kernel
theorem dc_M_attributeEnd_195 : decode prog_14_method_41_code 195 = .ok (.iload_n 2, 1) := by decide +kernel
theorem dc_M_attributeEnd_196 : decode prog_14_method_41_code 196 = .ok (.if_icmp .ge 71, 3) := by decide +kernel
theorem dc_M_attributeEnd_199 : decode prog_14_method_41_code 199 = .ok (.aload_n 0, 1) := by decide +kernel
theorem dc_M_attributeEnd_200 : decode prog_14_method_41_code 200 = .ok (.getfield 140, 3) := by decide +kernel
theorem dc_M_attributeEnd_203 : decode prog_14_method_41_code 203 = .ok (.iload 8, 2) := by decide +kernel
theorem dc_M_attributeEnd_205 : decode prog_14_method_41_code 205 = .ok (.baload, 1) := by decide +kernel
theorem dc_M_attributeEnd_206 : decode prog_14_method_41_code 206 = .ok (.bipush 34, 2) := by decide +kernel
theorem dc_M_attributeEnd_208 : decode prog_14_method_41_code 208 = .ok (.if_icmp .eq 15, 3) := by decide +kernel
theorem dc_M_attributeEnd_211 : decode prog_14_method_41_code 211 = .ok (.aload_n 0, 1) := by decide +kernel
theorem dc_M_attributeEnd_212 : decode prog_14_method_41_code 212 = .ok (.getfield 140, 3) := by decide +kernel
theorem dc_M_attributeEnd_215 : decode prog_14_method_41_code 215 = .ok (.iload 8, 2) := by decide +kernel
theorem dc_M_attributeEnd_217 : decode prog_14_method_41_code 217 = .ok (.baload, 1) := by decide +kernel
theorem dc_M_attributeEnd_218 : decode prog_14_method_41_code 218 = .ok (.bipush 39, 2) := by decide +kernel
theorem dc_M_attributeEnd_220 : decode prog_14_method_41_code 220 = .ok (.if_icmp .ne 47, 3) := by decide +kernel
theorem dc_M_attributeEnd_223 : decode prog_14_method_41_code 223 = .ok (.iload 8, 2) := by decide +kernel
theorem dc_M_attributeEnd_225 : decode prog_14_method_41_code 225 = .ok (.iconst 1, 1) := by decide +kernel
theorem dc_M_attributeEnd_226 : decode prog_14_method_41_code 226 = .ok (.iadd, 1) := by decide +kernel
theorem dc_M_attributeEnd_227 : decode prog_14_method_41_code 227 = .ok (.istore 6, 2) := by decide +kernel
theorem dc_M_attributeEnd_229 : decode prog_14_method_41_code 229 = .ok (.aload_n 0, 1) := by decide +kernel
theorem dc_M_attributeEnd_230 : decode prog_14_method_41_code 230 = .ok (.getfield 140, 3) := by decide +kernel
theorem dc_M_attributeEnd_233 : decode prog_14_method_41_code 233 = .ok (.iload 6, 2) := by decide +kernel
theorem dc_M_attributeEnd_235 : decode prog_14_method_41_code 235 = .ok (.iload_n 2, 1) := by decide +kernel
theorem dc_M_attributeEnd_236 : decode prog_14_method_41_code 236 = .ok (.aload_n 0, 1) := by decide +kernel
theorem dc_M_attributeEnd_237 : decode prog_14_method_41_code 237 = .ok (.getfield 140, 3) := by decide +kernel
theorem dc_M_attributeEnd_240 : decode prog_14_method_41_code 240 = .ok (.iload 8, 2) := by decide +kernel
theorem dc_M_attributeEnd_242 : decode prog_14_method_41_code 242 = .ok (.baload, 1) := by decide +kernel
theorem dc_M_attributeEnd_243 : decode prog_14_method_41_code 243 = .ok (.invokestatic 48, 3) := by decide +kernel
theorem dc_M_attributeEnd_246 : decode prog_14_method_41_code 246 = .ok (.istore 7, 2) := by decide +kernel
theorem dc_M_attributeEnd_248 : decode prog_14_method_41_code 248 = .ok (.iload 7, 2) := by decide +kernel
theorem dc_M_attributeEnd_250 : decode prog_14_method_41_code 250 = .ok (.iload_n 2, 1) := by decide +kernel
theorem dc_M_attributeEnd_251 : decode prog_14_method_41_code 251 = .ok (.if_icmp .ge 10, 3) := by decide +kernel
theorem dc_M_attributeEnd_254 : decode prog_14_method_41_code 254 = .ok (.iload 7, 2) := by decide +kernel
theorem dc_M_attributeEnd_256 : decode prog_14_method_41_code 256 = .ok (.iconst 1, 1) := by decide +kernel
theorem dc_M_attributeEnd_257 : decode prog_14_method_41_code 257 = .ok (.iadd, 1) := by decide +kernel
theorem dc_M_attributeEnd_258 : decode prog_14_method_41_code 258 = .ok (.goto 4, 3) := by decide +kernel
theorem dc_M_attributeEnd_261 : decode prog_14_method_41_code 261 = .ok (.iload_n 2, 1) := by decide +kernel
theorem dc_M_attributeEnd_262 : decode prog_14_method_41_code 262 = .ok (.istore 5, 2) := by decide +kernel
theorem dc_M_attributeEnd_264 : decode prog_14_method_41_code 264 = .ok (.goto 52, 3) := by decide +kernel
theorem dc_M_attributeEnd_267 : decode prog_14_method_41_code 267 = .ok (.iload 8, 2) := by decide +kernel
theorem dc_M_attributeEnd_269 : decode prog_14_method_41_code 269 = .ok (.istore 6, 2) := by decide +kernel
theorem dc_M_attributeEnd_271 : decode prog_14_method_41_code 271 = .ok (.iload 8, 2) := by decide +kernel
theorem dc_M_attributeEnd_273 : decode prog_14_method_41_code 273 = .ok (.istore 7, 2) := by decide +kernel
theorem dc_M_attributeEnd_275 : decode prog_14_method_41_code 275 = .ok (.iload 7, 2) := by decide +kernel
theorem dc_M_attributeEnd_277 : decode prog_14_method_41_code 277 = .ok (.iload_n 2, 1) := by decide +kernel
theorem dc_M_attributeEnd_278 : decode prog_14_method_41_code 278 = .ok (.if_icmp .ge 34, 3) := by decide +kernel
theorem dc_M_attributeEnd_281 : decode prog_14_method_41_code 281 = .ok (.aload_n 0, 1) := by decide +kernel
theorem dc_M_attributeEnd_282 : decode prog_14_method_41_code 282 = .ok (.getfield 140, 3) := by decide +kernel
theorem dc_M_attributeEnd_285 : decode prog_14_method_41_code 285 = .ok (.iload 7, 2) := by decide +kernel
theorem dc_M_attributeEnd_287 : decode prog_14_method_41_code 287 = .ok (.baload, 1) := by decide +kernel
theorem dc_M_attributeEnd_288 : decode prog_14_method_41_code 288 = .ok (.invokestatic 75, 3) := by decide +kernel
theorem dc_M_attributeEnd_291 : decode prog_14_method_41_code 291 = .ok (.ifCond .ne 21, 3) := by decide +kernel
theorem dc_M_attributeEnd_294 : decode prog_14_method_41_code 294 = .ok (.aload_n 0, 1) := by decide +kernel
theorem dc_M_attributeEnd_295 : decode prog_14_method_41_code 295 = .ok (.getfield 140, 3) := by decide +kernel
theorem dc_M_attributeEnd_298 : decode prog_14_method_41_code 298 = .ok (.iload 7, 2) := by decide +kernel
theorem dc_M_attributeEnd_300 : decode prog_14_method_41_code 300 = .ok (.baload, 1) := by decide +kernel
theorem dc_M_attributeEnd_301 : decode prog_14_method_41_code 301 = .ok (.bipush 62, 2) := by decide +kernel
theorem dc_M_attributeEnd_303 : decode prog_14_method_41_code 303 = .ok (.if_icmp .eq 9, 3) := by decide +kernel
theorem dc_M_attributeEnd_306 : decode prog_14_method_41_code 306 = .ok (.iinc 7 1, 3) := by decide +kernel
theorem dc_M_attributeEnd_309 : decode prog_14_method_41_code 309 = .ok (.goto (-34), 3) := by decide +kernel
theorem dc_M_attributeEnd_312 : decode prog_14_method_41_code 312 = .ok (.iload 7, 2) := by decide +kernel
theorem dc_M_attributeEnd_314 : decode prog_14_method_41_code 314 = .ok (.istore 5, 2) := by decide +kernel
theorem dc_M_attributeEnd_316 : decode prog_14_method_41_code 316 = .ok (.iload 4, 2) := by decide +kernel
theorem dc_M_attributeEnd_318 : decode prog_14_method_41_code 318 = .ok (.ifCond .eq 15, 3) := by decide +kernel
theorem dc_M_attributeEnd_321 : decode prog_14_method_41_code 321 = .ok (.aload_n 0, 1) := by decide +kernel
theorem dc_M_attributeEnd_322 : decode prog_14_method_41_code 322 = .ok (.iload 6, 2) := by decide +kernel
theorem dc_M_attributeEnd_324 : decode prog_14_method_41_code 324 = .ok (.putfield 286, 3) := by decide +kernel
theorem fp_M_attributeEnd_286 : am_fp mt_M_attributeEnd.1 286 12 48 (.int) := ⟨"WebFinderModel", tt_M, 90, rfl, by decide, ct_M 48 (by decide), Or.inl ⟨(am_t7 159 rfl rfl), Or.inl rfl⟩⟩
theorem dc_M_attributeEnd_327 : decode prog_14_method_41_code 327 = .ok (.aload_n 0, 1) := by decide +kernel
theorem dc_M_attributeEnd_328 : decode prog_14_method_41_code 328 = .ok (.iload 7, 2) := by decide +kernel
theorem dc_M_attributeEnd_330 : decode prog_14_method_41_code 330 = .ok (.putfield 289, 3) := by decide +kernel
theorem fp_M_attributeEnd_289 : am_fp mt_M_attributeEnd.1 289 12 49 (.int) := ⟨"WebFinderModel", tt_M, 90, rfl, by decide, ct_M 49 (by decide), Or.inl ⟨(am_t7 160 rfl rfl), Or.inl rfl⟩⟩
theorem dc_M_attributeEnd_333 : decode prog_14_method_41_code 333 = .ok (.iload 5, 2) := by decide +kernel
theorem dc_M_attributeEnd_335 : decode prog_14_method_41_code 335 = .ok (.ireturn, 1) := by decide +kernel
theorem dc_M_rawEnd_0 : decode prog_14_method_40_code 0 = .ok (.iload 4, 2) := by decide +kernel
theorem dc_M_rawEnd_2 : decode prog_14_method_40_code 2 = .ok (.iload_n 3, 1) := by decide +kernel
theorem dc_M_rawEnd_3 : decode prog_14_method_40_code 3 = .ok (.isub, 1) := by decide +kernel
theorem dc_M_rawEnd_4 : decode prog_14_method_40_code 4 = .ok (.istore 5, 2) := by decide +kernel
theorem dc_M_rawEnd_6 : decode prog_14_method_40_code 6 = .ok (.iload_n 1, 1) := by decide +kernel
theorem dc_M_rawEnd_7 : decode prog_14_method_40_code 7 = .ok (.istore 6, 2) := by decide +kernel
theorem dc_M_rawEnd_9 : decode prog_14_method_40_code 9 = .ok (.iload 6, 2) := by decide +kernel
theorem dc_M_rawEnd_11 : decode prog_14_method_40_code 11 = .ok (.iconst 2, 1) := by decide +kernel
theorem dc_M_rawEnd_12 : decode prog_14_method_40_code 12 = .ok (.iadd, 1) := by decide +kernel
theorem dc_M_rawEnd_13 : decode prog_14_method_40_code 13 = .ok (.iload 5, 2) := by decide +kernel
theorem dc_M_rawEnd_15 : decode prog_14_method_40_code 15 = .ok (.iadd, 1) := by decide +kernel
theorem dc_M_rawEnd_16 : decode prog_14_method_40_code 16 = .ok (.iload_n 2, 1) := by decide +kernel
theorem dc_M_rawEnd_17 : decode prog_14_method_40_code 17 = .ok (.if_icmp .ge 144, 3) := by decide +kernel
theorem dc_M_rawEnd_20 : decode prog_14_method_40_code 20 = .ok (.aload_n 0, 1) := by decide +kernel
theorem dc_M_rawEnd_21 : decode prog_14_method_40_code 21 = .ok (.getfield 140, 3) := by decide +kernel
theorem dc_M_rawEnd_24 : decode prog_14_method_40_code 24 = .ok (.iload 6, 2) := by decide +kernel
theorem dc_M_rawEnd_26 : decode prog_14_method_40_code 26 = .ok (.iconst 2, 1) := by decide +kernel
theorem dc_M_rawEnd_27 : decode prog_14_method_40_code 27 = .ok (.iadd, 1) := by decide +kernel
theorem dc_M_rawEnd_28 : decode prog_14_method_40_code 28 = .ok (.iload 5, 2) := by decide +kernel
theorem dc_M_rawEnd_30 : decode prog_14_method_40_code 30 = .ok (.iadd, 1) := by decide +kernel
theorem dc_M_rawEnd_31 : decode prog_14_method_40_code 31 = .ok (.baload, 1) := by decide +kernel
theorem dc_M_rawEnd_32 : decode prog_14_method_40_code 32 = .ok (.istore 7, 2) := by decide +kernel
theorem dc_M_rawEnd_34 : decode prog_14_method_40_code 34 = .ok (.aload_n 0, 1) := by decide +kernel
theorem dc_M_rawEnd_35 : decode prog_14_method_40_code 35 = .ok (.getfield 140, 3) := by decide +kernel
theorem dc_M_rawEnd_38 : decode prog_14_method_40_code 38 = .ok (.iload 6, 2) := by decide +kernel
theorem dc_M_rawEnd_40 : decode prog_14_method_40_code 40 = .ok (.baload, 1) := by decide +kernel
theorem dc_M_rawEnd_41 : decode prog_14_method_40_code 41 = .ok (.bipush 60, 2) := by decide +kernel
theorem dc_M_rawEnd_43 : decode prog_14_method_40_code 43 = .ok (.if_icmp .ne 43, 3) := by decide +kernel
theorem dc_M_rawEnd_46 : decode prog_14_method_40_code 46 = .ok (.aload_n 0, 1) := by decide +kernel
theorem dc_M_rawEnd_47 : decode prog_14_method_40_code 47 = .ok (.getfield 140, 3) := by decide +kernel
theorem dc_M_rawEnd_50 : decode prog_14_method_40_code 50 = .ok (.iload 6, 2) := by decide +kernel
theorem dc_M_rawEnd_52 : decode prog_14_method_40_code 52 = .ok (.iconst 1, 1) := by decide +kernel
theorem dc_M_rawEnd_53 : decode prog_14_method_40_code 53 = .ok (.iadd, 1) := by decide +kernel
theorem dc_M_rawEnd_54 : decode prog_14_method_40_code 54 = .ok (.baload, 1) := by decide +kernel
theorem dc_M_rawEnd_55 : decode prog_14_method_40_code 55 = .ok (.bipush 47, 2) := by decide +kernel
theorem dc_M_rawEnd_57 : decode prog_14_method_40_code 57 = .ok (.if_icmp .ne 29, 3) := by decide +kernel
theorem dc_M_rawEnd_60 : decode prog_14_method_40_code 60 = .ok (.iload 7, 2) := by decide +kernel
theorem dc_M_rawEnd_62 : decode prog_14_method_40_code 62 = .ok (.invokestatic 75, 3) := by decide +kernel
theorem dc_M_rawEnd_65 : decode prog_14_method_40_code 65 = .ok (.ifCond .ne 17, 3) := by decide +kernel
theorem dc_M_rawEnd_68 : decode prog_14_method_40_code 68 = .ok (.iload 7, 2) := by decide +kernel
theorem dc_M_rawEnd_70 : decode prog_14_method_40_code 70 = .ok (.bipush 47, 2) := by decide +kernel
theorem dc_M_rawEnd_72 : decode prog_14_method_40_code 72 = .ok (.if_icmp .eq 10, 3) := by decide +kernel
theorem dc_M_rawEnd_75 : decode prog_14_method_40_code 75 = .ok (.iload 7, 2) := by decide +kernel
theorem dc_M_rawEnd_77 : decode prog_14_method_40_code 77 = .ok (.bipush 62, 2) := by decide +kernel
theorem dc_M_rawEnd_79 : decode prog_14_method_40_code 79 = .ok (.if_icmp .ne 7, 3) := by decide +kernel
theorem dc_M_rawEnd_82 : decode prog_14_method_40_code 82 = .ok (.iconst 1, 1) := by decide +kernel
theorem dc_M_rawEnd_83 : decode prog_14_method_40_code 83 = .ok (.goto 4, 3) := by decide +kernel
theorem dc_M_rawEnd_86 : decode prog_14_method_40_code 86 = .ok (.iconst 0, 1) := by decide +kernel
theorem dc_M_rawEnd_87 : decode prog_14_method_40_code 87 = .ok (.istore 8, 2) := by decide +kernel
theorem dc_M_rawEnd_89 : decode prog_14_method_40_code 89 = .ok (.iconst 0, 1) := by decide +kernel
theorem dc_M_rawEnd_90 : decode prog_14_method_40_code 90 = .ok (.istore 9, 2) := by decide +kernel
theorem dc_M_rawEnd_92 : decode prog_14_method_40_code 92 = .ok (.iload 9, 2) := by decide +kernel
theorem dc_M_rawEnd_94 : decode prog_14_method_40_code 94 = .ok (.iload 5, 2) := by decide +kernel
theorem dc_M_rawEnd_96 : decode prog_14_method_40_code 96 = .ok (.if_icmp .ge 51, 3) := by decide +kernel
theorem dc_M_rawEnd_99 : decode prog_14_method_40_code 99 = .ok (.iload 8, 2) := by decide +kernel
theorem dc_M_rawEnd_101 : decode prog_14_method_40_code 101 = .ok (.ifCond .eq 46, 3) := by decide +kernel
theorem dc_M_rawEnd_104 : decode prog_14_method_40_code 104 = .ok (.aload_n 0, 1) := by decide +kernel
theorem dc_M_rawEnd_105 : decode prog_14_method_40_code 105 = .ok (.getfield 140, 3) := by decide +kernel
theorem dc_M_rawEnd_108 : decode prog_14_method_40_code 108 = .ok (.iload 6, 2) := by decide +kernel
theorem dc_M_rawEnd_110 : decode prog_14_method_40_code 110 = .ok (.iconst 2, 1) := by decide +kernel
theorem dc_M_rawEnd_111 : decode prog_14_method_40_code 111 = .ok (.iadd, 1) := by decide +kernel
theorem dc_M_rawEnd_112 : decode prog_14_method_40_code 112 = .ok (.iload 9, 2) := by decide +kernel
theorem dc_M_rawEnd_114 : decode prog_14_method_40_code 114 = .ok (.iadd, 1) := by decide +kernel
theorem dc_M_rawEnd_115 : decode prog_14_method_40_code 115 = .ok (.baload, 1) := by decide +kernel
theorem dc_M_rawEnd_116 : decode prog_14_method_40_code 116 = .ok (.invokestatic 7, 3) := by decide +kernel
theorem dc_M_rawEnd_119 : decode prog_14_method_40_code 119 = .ok (.aload_n 0, 1) := by decide +kernel
theorem dc_M_rawEnd_120 : decode prog_14_method_40_code 120 = .ok (.getfield 140, 3) := by decide +kernel
theorem dc_M_rawEnd_123 : decode prog_14_method_40_code 123 = .ok (.iload_n 3, 1) := by decide +kernel
theorem dc_M_rawEnd_124 : decode prog_14_method_40_code 124 = .ok (.iload 9, 2) := by decide +kernel
theorem dc_M_rawEnd_126 : decode prog_14_method_40_code 126 = .ok (.iadd, 1) := by decide +kernel
theorem dc_M_rawEnd_127 : decode prog_14_method_40_code 127 = .ok (.baload, 1) := by decide +kernel
theorem dc_M_rawEnd_128 : decode prog_14_method_40_code 128 = .ok (.invokestatic 7, 3) := by decide +kernel
theorem dc_M_rawEnd_131 : decode prog_14_method_40_code 131 = .ok (.if_icmp .ne 7, 3) := by decide +kernel
theorem dc_M_rawEnd_134 : decode prog_14_method_40_code 134 = .ok (.iconst 1, 1) := by decide +kernel
theorem dc_M_rawEnd_135 : decode prog_14_method_40_code 135 = .ok (.goto 4, 3) := by decide +kernel
theorem dc_M_rawEnd_138 : decode prog_14_method_40_code 138 = .ok (.iconst 0, 1) := by decide +kernel
theorem dc_M_rawEnd_139 : decode prog_14_method_40_code 139 = .ok (.istore 8, 2) := by decide +kernel
theorem dc_M_rawEnd_141 : decode prog_14_method_40_code 141 = .ok (.iinc 9 1, 3) := by decide +kernel
theorem dc_M_rawEnd_144 : decode prog_14_method_40_code 144 = .ok (.goto (-52), 3) := by decide +kernel
theorem dc_M_rawEnd_147 : decode prog_14_method_40_code 147 = .ok (.iload 8, 2) := by decide +kernel
theorem dc_M_rawEnd_149 : decode prog_14_method_40_code 149 = .ok (.ifCond .eq 6, 3) := by decide +kernel
theorem dc_M_rawEnd_152 : decode prog_14_method_40_code 152 = .ok (.iload 6, 2) := by decide +kernel
theorem dc_M_rawEnd_154 : decode prog_14_method_40_code 154 = .ok (.ireturn, 1) := by decide +kernel
theorem dc_M_rawEnd_155 : decode prog_14_method_40_code 155 = .ok (.iinc 6 1, 3) := by decide +kernel
theorem dc_M_rawEnd_158 : decode prog_14_method_40_code 158 = .ok (.goto (-149), 3) := by decide +kernel
theorem dc_M_rawEnd_161 : decode prog_14_method_40_code 161 = .ok (.iload_n 2, 1) := by decide +kernel
theorem dc_M_rawEnd_162 : decode prog_14_method_40_code 162 = .ok (.ireturn, 1) := by decide +kernel
theorem dc_M_remarkEnd_0 : decode prog_14_method_36_code 0 = .ok (.iload_n 1, 1) := by decide +kernel
theorem dc_M_remarkEnd_1 : decode prog_14_method_36_code 1 = .ok (.istore_n 3, 1) := by decide +kernel
theorem dc_M_remarkEnd_2 : decode prog_14_method_36_code 2 = .ok (.iload_n 3, 1) := by decide +kernel
theorem dc_M_remarkEnd_3 : decode prog_14_method_36_code 3 = .ok (.iconst 2, 1) := by decide +kernel
theorem dc_M_remarkEnd_4 : decode prog_14_method_36_code 4 = .ok (.iadd, 1) := by decide +kernel
theorem dc_M_remarkEnd_5 : decode prog_14_method_36_code 5 = .ok (.iload_n 2, 1) := by decide +kernel
theorem dc_M_remarkEnd_6 : decode prog_14_method_36_code 6 = .ok (.if_icmp .ge 37, 3) := by decide +kernel
theorem dc_M_remarkEnd_9 : decode prog_14_method_36_code 9 = .ok (.aload_n 0, 1) := by decide +kernel
theorem dc_M_remarkEnd_10 : decode prog_14_method_36_code 10 = .ok (.iload_n 3, 1) := by decide +kernel
theorem dc_M_remarkEnd_11 : decode prog_14_method_36_code 11 = .ok (.baload, 1) := by decide +kernel
theorem dc_M_remarkEnd_12 : decode prog_14_method_36_code 12 = .ok (.bipush 45, 2) := by decide +kernel
theorem dc_M_remarkEnd_14 : decode prog_14_method_36_code 14 = .ok (.if_icmp .ne 23, 3) := by decide +kernel
theorem dc_M_remarkEnd_17 : decode prog_14_method_36_code 17 = .ok (.aload_n 0, 1) := by decide +kernel
theorem dc_M_remarkEnd_18 : decode prog_14_method_36_code 18 = .ok (.iload_n 3, 1) := by decide +kernel
theorem dc_M_remarkEnd_19 : decode prog_14_method_36_code 19 = .ok (.iconst 1, 1) := by decide +kernel
theorem dc_M_remarkEnd_20 : decode prog_14_method_36_code 20 = .ok (.iadd, 1) := by decide +kernel
theorem dc_M_remarkEnd_21 : decode prog_14_method_36_code 21 = .ok (.baload, 1) := by decide +kernel
theorem dc_M_remarkEnd_22 : decode prog_14_method_36_code 22 = .ok (.bipush 45, 2) := by decide +kernel
theorem dc_M_remarkEnd_24 : decode prog_14_method_36_code 24 = .ok (.if_icmp .ne 13, 3) := by decide +kernel
theorem dc_M_remarkEnd_27 : decode prog_14_method_36_code 27 = .ok (.aload_n 0, 1) := by decide +kernel
theorem dc_M_remarkEnd_28 : decode prog_14_method_36_code 28 = .ok (.iload_n 3, 1) := by decide +kernel
theorem dc_M_remarkEnd_29 : decode prog_14_method_36_code 29 = .ok (.iconst 2, 1) := by decide +kernel
theorem dc_M_remarkEnd_30 : decode prog_14_method_36_code 30 = .ok (.iadd, 1) := by decide +kernel
theorem dc_M_remarkEnd_31 : decode prog_14_method_36_code 31 = .ok (.baload, 1) := by decide +kernel
theorem dc_M_remarkEnd_32 : decode prog_14_method_36_code 32 = .ok (.bipush 62, 2) := by decide +kernel
theorem dc_M_remarkEnd_34 : decode prog_14_method_36_code 34 = .ok (.if_icmp .eq 9, 3) := by decide +kernel
theorem dc_M_remarkEnd_37 : decode prog_14_method_36_code 37 = .ok (.iinc 3 1, 3) := by decide +kernel
theorem dc_M_remarkEnd_40 : decode prog_14_method_36_code 40 = .ok (.goto (-38), 3) := by decide +kernel
theorem dc_M_remarkEnd_43 : decode prog_14_method_36_code 43 = .ok (.iload_n 3, 1) := by decide +kernel
theorem dc_M_remarkEnd_44 : decode prog_14_method_36_code 44 = .ok (.iconst 2, 1) := by decide +kernel
theorem dc_M_remarkEnd_45 : decode prog_14_method_36_code 45 = .ok (.iadd, 1) := by decide +kernel
theorem dc_M_remarkEnd_46 : decode prog_14_method_36_code 46 = .ok (.iload_n 2, 1) := by decide +kernel
theorem dc_M_remarkEnd_47 : decode prog_14_method_36_code 47 = .ok (.if_icmp .ge 9, 3) := by decide +kernel
theorem dc_M_remarkEnd_50 : decode prog_14_method_36_code 50 = .ok (.iload_n 3, 1) := by decide +kernel
theorem dc_M_remarkEnd_51 : decode prog_14_method_36_code 51 = .ok (.iconst 3, 1) := by decide +kernel
theorem dc_M_remarkEnd_52 : decode prog_14_method_36_code 52 = .ok (.iadd, 1) := by decide +kernel
theorem dc_M_remarkEnd_53 : decode prog_14_method_36_code 53 = .ok (.goto 4, 3) := by decide +kernel
theorem dc_M_remarkEnd_56 : decode prog_14_method_36_code 56 = .ok (.iload_n 2, 1) := by decide +kernel
theorem dc_M_remarkEnd_57 : decode prog_14_method_36_code 57 = .ok (.ireturn, 1) := by decide +kernel
theorem dc_M_readLink_0 : decode prog_14_method_42_code 0 = .ok (.aload_n 0, 1) := by decide +kernel
theorem dc_M_readLink_1 : decode prog_14_method_42_code 1 = .ok (.aload_n 0, 1) := by decide +kernel
theorem dc_M_readLink_2 : decode prog_14_method_42_code 2 = .ok (.getfield 292, 3) := by decide +kernel
theorem dc_M_readLink_5 : decode prog_14_method_42_code 5 = .ok (.aload_n 0, 1) := by decide +kernel
theorem dc_M_readLink_6 : decode prog_14_method_42_code 6 = .ok (.getfield 280, 3) := by decide +kernel
theorem dc_M_readLink_9 : decode prog_14_method_42_code 9 = .ok (.iload_n 1, 1) := by decide +kernel
theorem dc_M_readLink_10 : decode prog_14_method_42_code 10 = .ok (.iaload, 1) := by decide +kernel
theorem dc_M_readLink_11 : decode prog_14_method_42_code 11 = .ok (.aload_n 0, 1) := by decide +kernel
theorem dc_M_readLink_12 : decode prog_14_method_42_code 12 = .ok (.getfield 280, 3) := by decide +kernel
theorem dc_M_readLink_15 : decode prog_14_method_42_code 15 = .ok (.iload_n 1, 1) := by decide +kernel
theorem dc_M_readLink_16 : decode prog_14_method_42_code 16 = .ok (.iaload, 1) := by decide +kernel
theorem dc_M_readLink_17 : decode prog_14_method_42_code 17 = .ok (.aload_n 0, 1) := by decide +kernel
theorem dc_M_readLink_18 : decode prog_14_method_42_code 18 = .ok (.getfield 283, 3) := by decide +kernel
theorem dc_M_readLink_21 : decode prog_14_method_42_code 21 = .ok (.iload_n 1, 1) := by decide +kernel
theorem dc_M_readLink_22 : decode prog_14_method_42_code 22 = .ok (.iaload, 1) := by decide +kernel
theorem dc_M_readLink_23 : decode prog_14_method_42_code 23 = .ok (.iadd, 1) := by decide +kernel
theorem dc_M_readLink_24 : decode prog_14_method_42_code 24 = .ok (.aload_n 0, 1) := by decide +kernel
theorem dc_M_readLink_25 : decode prog_14_method_42_code 25 = .ok (.getfield 254, 3) := by decide +kernel
theorem fl_M_254 : am_fl "WebFinderModel" 254 12 45 := ⟨"WebFinderModel", tt_M, 90, rfl, by decide, Or.inl (am_t7 156 rfl rfl)⟩
theorem dc_M_readLink_28 : decode prog_14_method_42_code 28 = .ok (.invokevirtual 297, 3) := by decide +kernel
theorem dc_M_readLink_31 : decode prog_14_method_42_code 31 = .ok (.ireturn, 1) := by decide +kernel
theorem dc_M_set_0 : decode prog_14_method_80_code 0 = .ok (.aload_n 0, 1) := by decide +kernel
theorem dc_M_set_1 : decode prog_14_method_80_code 1 = .ok (.iconst 0, 1) := by decide +kernel
theorem dc_M_set_2 : decode prog_14_method_80_code 2 = .ok (.putfield 1, 3) := by decide +kernel
theorem fp_M_set_1 : am_fp mt_M_set.1 1 12 2 (.int) := ⟨"WebFinderModel", tt_M, 90, rfl, by decide, ct_M 2 (by decide), Or.inl ⟨(am_t7 113 rfl rfl), Or.inl rfl⟩⟩
theorem dc_M_set_5 : decode prog_14_method_80_code 5 = .ok (.iload_n 1, 1) := by decide +kernel
theorem dc_M_set_6 : decode prog_14_method_80_code 6 = .ok (.ifCond .ne 13, 3) := by decide +kernel
theorem dc_M_set_9 : decode prog_14_method_80_code 9 = .ok (.iload_n 2, 1) := by decide +kernel
theorem dc_M_set_10 : decode prog_14_method_80_code 10 = .ok (.ifCond .lt 9, 3) := by decide +kernel
theorem dc_M_set_13 : decode prog_14_method_80_code 13 = .ok (.iload_n 2, 1) := by decide +kernel
theorem dc_M_set_14 : decode prog_14_method_80_code 14 = .ok (.bipush 20, 2) := by decide +kernel
theorem dc_M_set_16 : decode prog_14_method_80_code 16 = .ok (.if_icmp .le 50, 3) := by decide +kernel
theorem dc_M_set_19 : decode prog_14_method_80_code 19 = .ok (.iload_n 1, 1) := by decide +kernel
theorem dc_M_set_20 : decode prog_14_method_80_code 20 = .ok (.iconst 1, 1) := by decide +kernel
theorem dc_M_set_21 : decode prog_14_method_80_code 21 = .ok (.if_icmp .ne 13, 3) := by decide +kernel
theorem dc_M_set_24 : decode prog_14_method_80_code 24 = .ok (.iload_n 2, 1) := by decide +kernel
theorem dc_M_set_25 : decode prog_14_method_80_code 25 = .ok (.ifCond .lt 9, 3) := by decide +kernel
theorem dc_M_set_28 : decode prog_14_method_80_code 28 = .ok (.iload_n 2, 1) := by decide +kernel
theorem dc_M_set_29 : decode prog_14_method_80_code 29 = .ok (.bipush 8, 2) := by decide +kernel
theorem dc_M_set_31 : decode prog_14_method_80_code 31 = .ok (.if_icmp .le 35, 3) := by decide +kernel
theorem dc_M_set_34 : decode prog_14_method_80_code 34 = .ok (.iload_n 1, 1) := by decide +kernel
theorem dc_M_set_35 : decode prog_14_method_80_code 35 = .ok (.iconst 2, 1) := by decide +kernel
theorem dc_M_set_36 : decode prog_14_method_80_code 36 = .ok (.if_icmp .ne 14, 3) := by decide +kernel
theorem dc_M_set_39 : decode prog_14_method_80_code 39 = .ok (.iload_n 2, 1) := by decide +kernel
theorem dc_M_set_40 : decode prog_14_method_80_code 40 = .ok (.ifCond .lt 10, 3) := by decide +kernel
theorem dc_M_set_43 : decode prog_14_method_80_code 43 = .ok (.iload_n 2, 1) := by decide +kernel
theorem dc_M_set_44 : decode prog_14_method_80_code 44 = .ok (.sipush 1000, 3) := by decide +kernel
theorem dc_M_set_47 : decode prog_14_method_80_code 47 = .ok (.if_icmp .le 19, 3) := by decide +kernel
theorem dc_M_set_50 : decode prog_14_method_80_code 50 = .ok (.iload_n 1, 1) := by decide +kernel
theorem dc_M_set_51 : decode prog_14_method_80_code 51 = .ok (.iconst 3, 1) := by decide +kernel
theorem dc_M_set_52 : decode prog_14_method_80_code 52 = .ok (.if_icmp .ne 18, 3) := by decide +kernel
theorem dc_M_set_55 : decode prog_14_method_80_code 55 = .ok (.iload_n 2, 1) := by decide +kernel
theorem dc_M_set_56 : decode prog_14_method_80_code 56 = .ok (.iconst 1, 1) := by decide +kernel
theorem dc_M_set_57 : decode prog_14_method_80_code 57 = .ok (.if_icmp .lt 13, 3) := by decide +kernel
theorem dc_M_set_60 : decode prog_14_method_80_code 60 = .ok (.iload_n 2, 1) := by decide +kernel
theorem dc_M_set_61 : decode prog_14_method_80_code 61 = .ok (.bipush 50, 2) := by decide +kernel
theorem dc_M_set_63 : decode prog_14_method_80_code 63 = .ok (.if_icmp .gt 7, 3) := by decide +kernel
theorem dc_M_set_66 : decode prog_14_method_80_code 66 = .ok (.iconst 1, 1) := by decide +kernel
theorem dc_M_set_67 : decode prog_14_method_80_code 67 = .ok (.goto 4, 3) := by decide +kernel
theorem dc_M_set_70 : decode prog_14_method_80_code 70 = .ok (.iconst 0, 1) := by decide +kernel
theorem dc_M_set_71 : decode prog_14_method_80_code 71 = .ok (.istore_n 3, 1) := by decide +kernel
theorem dc_M_set_72 : decode prog_14_method_80_code 72 = .ok (.iload_n 3, 1) := by decide +kernel
theorem dc_M_set_73 : decode prog_14_method_80_code 73 = .ok (.ifCond .eq 10, 3) := by decide +kernel
theorem dc_M_set_76 : decode prog_14_method_80_code 76 = .ok (.aload_n 0, 1) := by decide +kernel
theorem dc_M_set_77 : decode prog_14_method_80_code 77 = .ok (.getfield 347, 3) := by decide +kernel
theorem dc_M_set_80 : decode prog_14_method_80_code 80 = .ok (.iload_n 1, 1) := by decide +kernel
theorem dc_M_set_81 : decode prog_14_method_80_code 81 = .ok (.iload_n 2, 1) := by decide +kernel
theorem dc_M_set_82 : decode prog_14_method_80_code 82 = .ok (.iastore, 1) := by decide +kernel
theorem dc_M_set_83 : decode prog_14_method_80_code 83 = .ok (.iload_n 3, 1) := by decide +kernel
theorem dc_M_set_84 : decode prog_14_method_80_code 84 = .ok (.ireturn, 1) := by decide +kernel
theorem dc_M_seed_0 : decode prog_14_method_81_code 0 = .ok (.aload_n 0, 1) := by decide +kernel
theorem dc_M_seed_1 : decode prog_14_method_81_code 1 = .ok (.invokevirtual 505, 3) := by decide +kernel
theorem dc_M_seed_4 : decode prog_14_method_81_code 4 = .ok (.istore_n 1, 1) := by decide +kernel
theorem dc_M_seed_5 : decode prog_14_method_81_code 5 = .ok (.aload_n 0, 1) := by decide +kernel
theorem dc_M_seed_6 : decode prog_14_method_81_code 6 = .ok (.aload_n 0, 1) := by decide +kernel
theorem dc_M_seed_7 : decode prog_14_method_81_code 7 = .ok (.getfield 143, 3) := by decide +kernel
theorem dc_M_seed_10 : decode prog_14_method_81_code 10 = .ok (.iconst 0, 1) := by decide +kernel
theorem dc_M_seed_11 : decode prog_14_method_81_code 11 = .ok (.iload_n 1, 1) := by decide +kernel
theorem dc_M_seed_12 : decode prog_14_method_81_code 12 = .ok (.iconst (-1), 1) := by decide +kernel
theorem dc_M_seed_13 : decode prog_14_method_81_code 13 = .ok (.invokevirtual 297, 3) := by decide +kernel
theorem dc_M_seed_16 : decode prog_14_method_81_code 16 = .ok (.ifCond .eq 12, 3) := by decide +kernel
theorem dc_M_seed_19 : decode prog_14_method_81_code 19 = .ok (.aload_n 0, 1) := by decide +kernel
theorem dc_M_seed_20 : decode prog_14_method_81_code 20 = .ok (.getfield 517, 3) := by decide +kernel
theorem fl_M_517 : am_fl "WebFinderModel" 517 12 60 := ⟨"WebFinderModel", tt_M, 90, rfl, by decide, Or.inl (am_t7 171 rfl rfl)⟩
theorem dc_M_seed_23 : decode prog_14_method_81_code 23 = .ok (.bipush 20, 2) := by decide +kernel
theorem dc_M_seed_25 : decode prog_14_method_81_code 25 = .ok (.if_icmp .ne 5, 3) := by decide +kernel
theorem dc_M_seed_28 : decode prog_14_method_81_code 28 = .ok (.iconst (-1), 1) := by decide +kernel
theorem dc_M_seed_29 : decode prog_14_method_81_code 29 = .ok (.ireturn, 1) := by decide +kernel
theorem dc_M_seed_30 : decode prog_14_method_81_code 30 = .ok (.aload_n 0, 1) := by decide +kernel
theorem dc_M_seed_31 : decode prog_14_method_81_code 31 = .ok (.getfield 353, 3) := by decide +kernel
theorem fl_M_353 : am_fl "WebFinderModel" 353 12 59 := ⟨"WebFinderModel", tt_M, 90, rfl, by decide, Or.inl (am_t7 170 rfl rfl)⟩
theorem dc_M_seed_34 : decode prog_14_method_81_code 34 = .ok (.aload_n 0, 1) := by decide +kernel
theorem dc_M_seed_35 : decode prog_14_method_81_code 35 = .ok (.getfield 517, 3) := by decide +kernel
theorem dc_M_seed_38 : decode prog_14_method_81_code 38 = .ok (.aload_n 0, 1) := by decide +kernel
theorem dc_M_seed_39 : decode prog_14_method_81_code 39 = .ok (.invokevirtual 300, 3) := by decide +kernel
theorem dc_M_seed_42 : decode prog_14_method_81_code 42 = .ok (.iastore, 1) := by decide +kernel
theorem dc_M_seed_43 : decode prog_14_method_81_code 43 = .ok (.aload_n 0, 1) := by decide +kernel
theorem dc_M_seed_44 : decode prog_14_method_81_code 44 = .ok (.dup, 1) := by decide +kernel
theorem dc_M_seed_45 : decode prog_14_method_81_code 45 = .ok (.getfield 517, 3) := by decide +kernel
theorem dc_M_seed_48 : decode prog_14_method_81_code 48 = .ok (.iconst 1, 1) := by decide +kernel
theorem dc_M_seed_49 : decode prog_14_method_81_code 49 = .ok (.iadd, 1) := by decide +kernel
theorem dc_M_seed_50 : decode prog_14_method_81_code 50 = .ok (.putfield 517, 3) := by decide +kernel
theorem fp_M_seed_517 : am_fp mt_M_seed.1 517 12 60 (.int) := ⟨"WebFinderModel", tt_M, 90, rfl, by decide, ct_M 60 (by decide), Or.inl ⟨(am_t7 171 rfl rfl), Or.inl rfl⟩⟩
theorem dc_M_seed_53 : decode prog_14_method_81_code 53 = .ok (.aload_n 0, 1) := by decide +kernel
theorem dc_M_seed_54 : decode prog_14_method_81_code 54 = .ok (.getfield 517, 3) := by decide +kernel
theorem dc_M_seed_57 : decode prog_14_method_81_code 57 = .ok (.ireturn, 1) := by decide +kernel
theorem dc_M_noSeeds_0 : decode prog_14_method_82_code 0 = .ok (.aload_n 0, 1) := by decide +kernel
theorem dc_M_noSeeds_1 : decode prog_14_method_82_code 1 = .ok (.iconst 0, 1) := by decide +kernel
theorem dc_M_noSeeds_2 : decode prog_14_method_82_code 2 = .ok (.putfield 1, 3) := by decide +kernel
theorem fp_M_noSeeds_1 : am_fp mt_M_noSeeds.1 1 12 2 (.int) := ⟨"WebFinderModel", tt_M, 90, rfl, by decide, ct_M 2 (by decide), Or.inl ⟨(am_t7 113 rfl rfl), Or.inl rfl⟩⟩
theorem dc_M_noSeeds_5 : decode prog_14_method_82_code 5 = .ok (.aload_n 0, 1) := by decide +kernel
theorem dc_M_noSeeds_6 : decode prog_14_method_82_code 6 = .ok (.iconst 0, 1) := by decide +kernel
theorem dc_M_noSeeds_7 : decode prog_14_method_82_code 7 = .ok (.putfield 517, 3) := by decide +kernel
theorem fp_M_noSeeds_517 : am_fp mt_M_noSeeds.1 517 12 60 (.int) := ⟨"WebFinderModel", tt_M, 90, rfl, by decide, ct_M 60 (by decide), Or.inl ⟨(am_t7 171 rfl rfl), Or.inl rfl⟩⟩
theorem dc_M_noSeeds_10 : decode prog_14_method_82_code 10 = .ok (.return_, 1) := by decide +kernel
theorem dc_M_start_0 : decode prog_14_method_83_code 0 = .ok (.aload_n 0, 1) := by decide +kernel
theorem dc_M_start_1 : decode prog_14_method_83_code 1 = .ok (.iconst 0, 1) := by decide +kernel
theorem dc_M_start_2 : decode prog_14_method_83_code 2 = .ok (.putfield 1, 3) := by decide +kernel
theorem fp_M_start_1 : am_fp mt_M_start.1 1 12 2 (.int) := ⟨"WebFinderModel", tt_M, 90, rfl, by decide, ct_M 2 (by decide), Or.inl ⟨(am_t7 113 rfl rfl), Or.inl rfl⟩⟩
theorem dc_M_start_5 : decode prog_14_method_83_code 5 = .ok (.aload_n 0, 1) := by decide +kernel
theorem dc_M_start_6 : decode prog_14_method_83_code 6 = .ok (.iconst 1, 1) := by decide +kernel
theorem dc_M_start_7 : decode prog_14_method_83_code 7 = .ok (.putfield 520, 3) := by decide +kernel
theorem fp_M_start_520 : am_fp mt_M_start.1 520 12 61 (.boolean) := ⟨"WebFinderModel", tt_M, 90, rfl, by decide, ct_M 61 (by decide), Or.inl ⟨(am_t7 172 rfl rfl), Or.inl rfl⟩⟩
theorem dc_M_start_10 : decode prog_14_method_83_code 10 = .ok (.aload_n 0, 1) := by decide +kernel
theorem dc_M_start_11 : decode prog_14_method_83_code 11 = .ok (.iconst 0, 1) := by decide +kernel
theorem dc_M_start_12 : decode prog_14_method_83_code 12 = .ok (.putfield 433, 3) := by decide +kernel
theorem fp_M_start_433 : am_fp mt_M_start.1 433 12 62 (.int) := ⟨"WebFinderModel", tt_M, 90, rfl, by decide, ct_M 62 (by decide), Or.inl ⟨(am_t7 173 rfl rfl), Or.inl rfl⟩⟩
theorem dc_M_start_15 : decode prog_14_method_83_code 15 = .ok (.aload_n 0, 1) := by decide +kernel
theorem dc_M_start_16 : decode prog_14_method_83_code 16 = .ok (.iconst 0, 1) := by decide +kernel
theorem dc_M_start_17 : decode prog_14_method_83_code 17 = .ok (.putfield 412, 3) := by decide +kernel
theorem fp_M_start_412 : am_fp mt_M_start.1 412 12 64 (.int) := ⟨"WebFinderModel", tt_M, 90, rfl, by decide, ct_M 64 (by decide), Or.inl ⟨(am_t7 175 rfl rfl), Or.inl rfl⟩⟩
theorem dc_M_start_20 : decode prog_14_method_83_code 20 = .ok (.aload_n 0, 1) := by decide +kernel
theorem dc_M_start_21 : decode prog_14_method_83_code 21 = .ok (.iconst 0, 1) := by decide +kernel
theorem dc_M_start_22 : decode prog_14_method_83_code 22 = .ok (.putfield 436, 3) := by decide +kernel
theorem fp_M_start_436 : am_fp mt_M_start.1 436 12 68 (.int) := ⟨"WebFinderModel", tt_M, 90, rfl, by decide, ct_M 68 (by decide), Or.inl ⟨(am_t7 179 rfl rfl), Or.inl rfl⟩⟩
theorem dc_M_start_25 : decode prog_14_method_83_code 25 = .ok (.aload_n 0, 1) := by decide +kernel
theorem dc_M_start_26 : decode prog_14_method_83_code 26 = .ok (.iconst 0, 1) := by decide +kernel
theorem dc_M_start_27 : decode prog_14_method_83_code 27 = .ok (.putfield 427, 3) := by decide +kernel
theorem fp_M_start_427 : am_fp mt_M_start.1 427 12 73 (.int) := ⟨"WebFinderModel", tt_M, 90, rfl, by decide, ct_M 73 (by decide), Or.inl ⟨(am_t7 184 rfl rfl), Or.inl rfl⟩⟩
theorem dc_M_start_30 : decode prog_14_method_83_code 30 = .ok (.aload_n 0, 1) := by decide +kernel
theorem dc_M_start_31 : decode prog_14_method_83_code 31 = .ok (.iconst (-1), 1) := by decide +kernel
theorem dc_M_start_32 : decode prog_14_method_83_code 32 = .ok (.putfield 430, 3) := by decide +kernel
theorem fp_M_start_430 : am_fp mt_M_start.1 430 12 74 (.int) := ⟨"WebFinderModel", tt_M, 90, rfl, by decide, ct_M 74 (by decide), Or.inl ⟨(am_t7 185 rfl rfl), Or.inl rfl⟩⟩
theorem dc_M_start_35 : decode prog_14_method_83_code 35 = .ok (.iconst 0, 1) := by decide +kernel
theorem dc_M_start_36 : decode prog_14_method_83_code 36 = .ok (.istore_n 1, 1) := by decide +kernel
theorem dc_M_start_37 : decode prog_14_method_83_code 37 = .ok (.iload_n 1, 1) := by decide +kernel
theorem dc_M_start_38 : decode prog_14_method_83_code 38 = .ok (.iconst 4, 1) := by decide +kernel
theorem dc_M_start_39 : decode prog_14_method_83_code 39 = .ok (.if_icmp .ge 21, 3) := by decide +kernel
theorem dc_M_start_42 : decode prog_14_method_83_code 42 = .ok (.aload_n 0, 1) := by decide +kernel
theorem dc_M_start_43 : decode prog_14_method_83_code 43 = .ok (.getfield 350, 3) := by decide +kernel
theorem fl_M_350 : am_fl "WebFinderModel" 350 12 58 := ⟨"WebFinderModel", tt_M, 90, rfl, by decide, Or.inl (am_t7 169 rfl rfl)⟩
theorem dc_M_start_46 : decode prog_14_method_83_code 46 = .ok (.iload_n 1, 1) := by decide +kernel
theorem dc_M_start_47 : decode prog_14_method_83_code 47 = .ok (.aload_n 0, 1) := by decide +kernel
theorem dc_M_start_48 : decode prog_14_method_83_code 48 = .ok (.getfield 347, 3) := by decide +kernel
theorem dc_M_start_51 : decode prog_14_method_83_code 51 = .ok (.iload_n 1, 1) := by decide +kernel
theorem dc_M_start_52 : decode prog_14_method_83_code 52 = .ok (.iaload, 1) := by decide +kernel
theorem dc_M_start_53 : decode prog_14_method_83_code 53 = .ok (.iastore, 1) := by decide +kernel
theorem dc_M_start_54 : decode prog_14_method_83_code 54 = .ok (.iinc 1 1, 3) := by decide +kernel
theorem dc_M_start_57 : decode prog_14_method_83_code 57 = .ok (.goto (-20), 3) := by decide +kernel
theorem dc_M_start_60 : decode prog_14_method_83_code 60 = .ok (.iconst 0, 1) := by decide +kernel
theorem dc_M_start_61 : decode prog_14_method_83_code 61 = .ok (.istore_n 1, 1) := by decide +kernel
theorem dc_M_start_62 : decode prog_14_method_83_code 62 = .ok (.iload_n 1, 1) := by decide +kernel
theorem dc_M_start_63 : decode prog_14_method_83_code 63 = .ok (.aload_n 0, 1) := by decide +kernel
theorem dc_M_start_64 : decode prog_14_method_83_code 64 = .ok (.getfield 517, 3) := by decide +kernel
theorem dc_M_start_67 : decode prog_14_method_83_code 67 = .ok (.if_icmp .ge 21, 3) := by decide +kernel
theorem dc_M_start_70 : decode prog_14_method_83_code 70 = .ok (.aload_n 0, 1) := by decide +kernel
theorem dc_M_start_71 : decode prog_14_method_83_code 71 = .ok (.aload_n 0, 1) := by decide +kernel
theorem dc_M_start_72 : decode prog_14_method_83_code 72 = .ok (.getfield 353, 3) := by decide +kernel
theorem dc_M_start_75 : decode prog_14_method_83_code 75 = .ok (.iload_n 1, 1) := by decide +kernel
theorem dc_M_start_76 : decode prog_14_method_83_code 76 = .ok (.iaload, 1) := by decide +kernel
theorem dc_M_start_77 : decode prog_14_method_83_code 77 = .ok (.iconst 0, 1) := by decide +kernel
theorem dc_M_start_78 : decode prog_14_method_83_code 78 = .ok (.iconst 0, 1) := by decide +kernel
theorem dc_M_start_79 : decode prog_14_method_83_code 79 = .ok (.invokevirtual 452, 3) := by decide +kernel
theorem mo_M_meet : am_mo mt_M_meet 3 := ⟨⟨by decide +kernel, by decide +kernel⟩, by decide +kernel, ⟨by decide +kernel, by decide +kernel⟩, (am_t9 153 rfl rfl), (am_t1 11 rfl rfl), by decide +kernel⟩
theorem im_M_meet : Cond.instanceMethod mt_M_meet.1 ∈ am_gw := (am_t9 152 rfl rfl)
theorem se_M_meet : Cond.selects mt_M_meet.1.cls mt_M_meet.1 mt_M_meet.1 ∈ am_gw := am_in (List.mem_append_left _ (by decide +kernel)) rfl
theorem ln_M_452 : am_ln "WebFinderModel" 452 mt_M_meet.1 := Or.inl (am_t9 150 rfl rfl)
theorem dc_M_start_82 : decode prog_14_method_83_code 82 = .ok (.iinc 1 1, 3) := by decide +kernel
theorem dc_M_start_85 : decode prog_14_method_83_code 85 = .ok (.goto (-23), 3) := by decide +kernel
theorem dc_M_start_88 : decode prog_14_method_83_code 88 = .ok (.aload_n 0, 1) := by decide +kernel
theorem dc_M_start_89 : decode prog_14_method_83_code 89 = .ok (.invokevirtual 523, 3) := by decide +kernel
theorem mo_M_save : am_mo mt_M_save 0 := ⟨⟨by decide +kernel, by decide +kernel⟩, by decide +kernel, ⟨by decide +kernel, by decide +kernel⟩, (am_t9 165 rfl rfl), (am_t1 11 rfl rfl), by decide +kernel⟩
theorem im_M_save : Cond.instanceMethod mt_M_save.1 ∈ am_gw := (am_t9 164 rfl rfl)
theorem se_M_save : Cond.selects mt_M_save.1.cls mt_M_save.1 mt_M_save.1 ∈ am_gw := am_in (List.mem_append_left _ (by decide +kernel)) rfl
theorem ln_M_523 : am_ln "WebFinderModel" 523 mt_M_save.1 := Or.inl (am_t9 162 rfl rfl)
theorem dc_M_start_92 : decode prog_14_method_83_code 92 = .ok (.aload_n 0, 1) := by decide +kernel
theorem dc_M_start_93 : decode prog_14_method_83_code 93 = .ok (.getfield 412, 3) := by decide +kernel
theorem fl_M_412 : am_fl "WebFinderModel" 412 12 64 := ⟨"WebFinderModel", tt_M, 90, rfl, by decide, Or.inl (am_t7 175 rfl rfl)⟩
theorem dc_M_start_96 : decode prog_14_method_83_code 96 = .ok (.ireturn, 1) := by decide +kernel
theorem dc_M_meet_0 : decode prog_14_method_48_code 0 = .ok (.aload_n 0, 1) := by decide +kernel
theorem dc_M_meet_1 : decode prog_14_method_48_code 1 = .ok (.iload_n 1, 1) := by decide +kernel
theorem dc_M_meet_2 : decode prog_14_method_48_code 2 = .ok (.invokevirtual 418, 3) := by decide +kernel
theorem mo_M_numberOf : am_mo mt_M_numberOf 1 := ⟨⟨by decide +kernel, by decide +kernel⟩, by decide +kernel, ⟨by decide +kernel, by decide +kernel⟩, (am_t9 157 rfl rfl), (am_t1 11 rfl rfl), by decide +kernel⟩
theorem im_M_numberOf : Cond.instanceMethod mt_M_numberOf.1 ∈ am_gw := (am_t9 156 rfl rfl)
theorem se_M_numberOf : Cond.selects mt_M_numberOf.1.cls mt_M_numberOf.1 mt_M_numberOf.1 ∈ am_gw := am_in (List.mem_append_left _ (by decide +kernel)) rfl
theorem ln_M_418 : am_ln "WebFinderModel" 418 mt_M_numberOf.1 := Or.inl (am_t9 154 rfl rfl)
theorem dc_M_meet_5 : decode prog_14_method_48_code 5 = .ok (.istore 4, 2) := by decide +kernel
theorem dc_M_meet_7 : decode prog_14_method_48_code 7 = .ok (.iload 4, 2) := by decide +kernel
theorem dc_M_meet_9 : decode prog_14_method_48_code 9 = .ok (.ifCond .ge 111, 3) := by decide +kernel
theorem dc_M_meet_12 : decode prog_14_method_48_code 12 = .ok (.iload_n 2, 1) := by decide +kernel
theorem dc_M_meet_13 : decode prog_14_method_48_code 13 = .ok (.aload_n 0, 1) := by decide +kernel
theorem dc_M_meet_14 : decode prog_14_method_48_code 14 = .ok (.getfield 350, 3) := by decide +kernel
theorem dc_M_meet_17 : decode prog_14_method_48_code 17 = .ok (.iconst 0, 1) := by decide +kernel
theorem dc_M_meet_18 : decode prog_14_method_48_code 18 = .ok (.iaload, 1) := by decide +kernel
theorem dc_M_meet_19 : decode prog_14_method_48_code 19 = .ok (.if_icmp .gt 100, 3) := by decide +kernel
theorem dc_M_meet_22 : decode prog_14_method_48_code 22 = .ok (.iload_n 3, 1) := by decide +kernel
theorem dc_M_meet_23 : decode prog_14_method_48_code 23 = .ok (.aload_n 0, 1) := by decide +kernel
theorem dc_M_meet_24 : decode prog_14_method_48_code 24 = .ok (.getfield 350, 3) := by decide +kernel
theorem dc_M_meet_27 : decode prog_14_method_48_code 27 = .ok (.iconst 1, 1) := by decide +kernel
theorem dc_M_meet_28 : decode prog_14_method_48_code 28 = .ok (.iaload, 1) := by decide +kernel
theorem dc_M_meet_29 : decode prog_14_method_48_code 29 = .ok (.if_icmp .gt 90, 3) := by decide +kernel
theorem dc_M_meet_32 : decode prog_14_method_48_code 32 = .ok (.aload_n 0, 1) := by decide +kernel
theorem dc_M_meet_33 : decode prog_14_method_48_code 33 = .ok (.getfield 412, 3) := by decide +kernel
theorem dc_M_meet_36 : decode prog_14_method_48_code 36 = .ok (.sipush 250, 3) := by decide +kernel
theorem dc_M_meet_39 : decode prog_14_method_48_code 39 = .ok (.if_icmp .ge 80, 3) := by decide +kernel
theorem dc_M_meet_42 : decode prog_14_method_48_code 42 = .ok (.bipush 6, 2) := by decide +kernel
theorem dc_M_meet_44 : decode prog_14_method_48_code 44 = .ok (.aload_n 0, 1) := by decide +kernel
theorem dc_M_meet_45 : decode prog_14_method_48_code 45 = .ok (.getfield 412, 3) := by decide +kernel
theorem dc_M_meet_48 : decode prog_14_method_48_code 48 = .ok (.imul, 1) := by decide +kernel
theorem dc_M_meet_49 : decode prog_14_method_48_code 49 = .ok (.istore 5, 2) := by decide +kernel
theorem dc_M_meet_51 : decode prog_14_method_48_code 51 = .ok (.aload_n 0, 1) := by decide +kernel
theorem dc_M_meet_52 : decode prog_14_method_48_code 52 = .ok (.getfield 356, 3) := by decide +kernel
theorem fl_M_356 : am_fl "WebFinderModel" 356 12 63 := ⟨"WebFinderModel", tt_M, 90, rfl, by decide, Or.inl (am_t7 174 rfl rfl)⟩
theorem dc_M_meet_55 : decode prog_14_method_48_code 55 = .ok (.iload 5, 2) := by decide +kernel
theorem dc_M_meet_57 : decode prog_14_method_48_code 57 = .ok (.iload_n 1, 1) := by decide +kernel
theorem dc_M_meet_58 : decode prog_14_method_48_code 58 = .ok (.iastore, 1) := by decide +kernel
theorem dc_M_meet_59 : decode prog_14_method_48_code 59 = .ok (.aload_n 0, 1) := by decide +kernel
theorem dc_M_meet_60 : decode prog_14_method_48_code 60 = .ok (.getfield 356, 3) := by decide +kernel
theorem dc_M_meet_63 : decode prog_14_method_48_code 63 = .ok (.iload 5, 2) := by decide +kernel
theorem dc_M_meet_65 : decode prog_14_method_48_code 65 = .ok (.iconst 1, 1) := by decide +kernel
theorem dc_M_meet_66 : decode prog_14_method_48_code 66 = .ok (.iadd, 1) := by decide +kernel
theorem dc_M_meet_67 : decode prog_14_method_48_code 67 = .ok (.iconst 1, 1) := by decide +kernel
theorem dc_M_meet_68 : decode prog_14_method_48_code 68 = .ok (.iastore, 1) := by decide +kernel
theorem dc_M_meet_69 : decode prog_14_method_48_code 69 = .ok (.aload_n 0, 1) := by decide +kernel
theorem dc_M_meet_70 : decode prog_14_method_48_code 70 = .ok (.getfield 356, 3) := by decide +kernel
theorem dc_M_meet_73 : decode prog_14_method_48_code 73 = .ok (.iload 5, 2) := by decide +kernel
theorem dc_M_meet_75 : decode prog_14_method_48_code 75 = .ok (.iconst 2, 1) := by decide +kernel
theorem dc_M_meet_76 : decode prog_14_method_48_code 76 = .ok (.iadd, 1) := by decide +kernel
theorem dc_M_meet_77 : decode prog_14_method_48_code 77 = .ok (.iload_n 2, 1) := by decide +kernel
theorem dc_M_meet_78 : decode prog_14_method_48_code 78 = .ok (.iastore, 1) := by decide +kernel
theorem dc_M_meet_79 : decode prog_14_method_48_code 79 = .ok (.aload_n 0, 1) := by decide +kernel
theorem dc_M_meet_80 : decode prog_14_method_48_code 80 = .ok (.getfield 356, 3) := by decide +kernel
theorem dc_M_meet_83 : decode prog_14_method_48_code 83 = .ok (.iload 5, 2) := by decide +kernel
theorem dc_M_meet_85 : decode prog_14_method_48_code 85 = .ok (.iconst 3, 1) := by decide +kernel
theorem dc_M_meet_86 : decode prog_14_method_48_code 86 = .ok (.iadd, 1) := by decide +kernel
theorem dc_M_meet_87 : decode prog_14_method_48_code 87 = .ok (.iload_n 3, 1) := by decide +kernel
theorem dc_M_meet_88 : decode prog_14_method_48_code 88 = .ok (.iastore, 1) := by decide +kernel
theorem dc_M_meet_89 : decode prog_14_method_48_code 89 = .ok (.aload_n 0, 1) := by decide +kernel
theorem dc_M_meet_90 : decode prog_14_method_48_code 90 = .ok (.getfield 356, 3) := by decide +kernel
theorem dc_M_meet_93 : decode prog_14_method_48_code 93 = .ok (.iload 5, 2) := by decide +kernel
theorem dc_M_meet_95 : decode prog_14_method_48_code 95 = .ok (.iconst 4, 1) := by decide +kernel
theorem dc_M_meet_96 : decode prog_14_method_48_code 96 = .ok (.iadd, 1) := by decide +kernel
theorem dc_M_meet_97 : decode prog_14_method_48_code 97 = .ok (.iconst (-1), 1) := by decide +kernel
theorem dc_M_meet_98 : decode prog_14_method_48_code 98 = .ok (.iastore, 1) := by decide +kernel
theorem dc_M_meet_99 : decode prog_14_method_48_code 99 = .ok (.aload_n 0, 1) := by decide +kernel
theorem dc_M_meet_100 : decode prog_14_method_48_code 100 = .ok (.getfield 356, 3) := by decide +kernel
theorem dc_M_meet_103 : decode prog_14_method_48_code 103 = .ok (.iload 5, 2) := by decide +kernel
theorem dc_M_meet_105 : decode prog_14_method_48_code 105 = .ok (.iconst 5, 1) := by decide +kernel
theorem dc_M_meet_106 : decode prog_14_method_48_code 106 = .ok (.iadd, 1) := by decide +kernel
theorem dc_M_meet_107 : decode prog_14_method_48_code 107 = .ok (.iconst (-1), 1) := by decide +kernel
theorem dc_M_meet_108 : decode prog_14_method_48_code 108 = .ok (.iastore, 1) := by decide +kernel
theorem dc_M_meet_109 : decode prog_14_method_48_code 109 = .ok (.aload_n 0, 1) := by decide +kernel
theorem dc_M_meet_110 : decode prog_14_method_48_code 110 = .ok (.dup, 1) := by decide +kernel
theorem dc_M_meet_111 : decode prog_14_method_48_code 111 = .ok (.getfield 412, 3) := by decide +kernel
theorem dc_M_meet_114 : decode prog_14_method_48_code 114 = .ok (.iconst 1, 1) := by decide +kernel
theorem dc_M_meet_115 : decode prog_14_method_48_code 115 = .ok (.iadd, 1) := by decide +kernel
theorem dc_M_meet_116 : decode prog_14_method_48_code 116 = .ok (.putfield 412, 3) := by decide +kernel
theorem fp_M_meet_412 : am_fp mt_M_meet.1 412 12 64 (.int) := ⟨"WebFinderModel", tt_M, 90, rfl, by decide, ct_M 64 (by decide), Or.inl ⟨(am_t7 175 rfl rfl), Or.inl rfl⟩⟩
theorem dc_M_meet_119 : decode prog_14_method_48_code 119 = .ok (.return_, 1) := by decide +kernel
theorem dc_M_meet_120 : decode prog_14_method_48_code 120 = .ok (.aload_n 0, 1) := by decide +kernel
theorem dc_M_meet_121 : decode prog_14_method_48_code 121 = .ok (.iload 4, 2) := by decide +kernel
theorem dc_M_meet_123 : decode prog_14_method_48_code 123 = .ok (.iconst 1, 1) := by decide +kernel
theorem dc_M_meet_124 : decode prog_14_method_48_code 124 = .ok (.invokevirtual 415, 3) := by decide +kernel
theorem mo_M_of : am_mo mt_M_of 2 := ⟨⟨by decide +kernel, by decide +kernel⟩, by decide +kernel, ⟨by decide +kernel, by decide +kernel⟩, (am_t9 161 rfl rfl), (am_t1 11 rfl rfl), by decide +kernel⟩
theorem im_M_of : Cond.instanceMethod mt_M_of.1 ∈ am_gw := (am_t9 160 rfl rfl)
theorem se_M_of : Cond.selects mt_M_of.1.cls mt_M_of.1 mt_M_of.1 ∈ am_gw := am_in (List.mem_append_left _ (by decide +kernel)) rfl
theorem ln_M_415 : am_ln "WebFinderModel" 415 mt_M_of.1 := Or.inl (am_t9 158 rfl rfl)
theorem dc_M_meet_127 : decode prog_14_method_48_code 127 = .ok (.iconst 1, 1) := by decide +kernel
theorem dc_M_meet_128 : decode prog_14_method_48_code 128 = .ok (.if_icmp .ne 62, 3) := by decide +kernel
theorem dc_M_meet_131 : decode prog_14_method_48_code 131 = .ok (.iload_n 2, 1) := by decide +kernel
theorem dc_M_meet_132 : decode prog_14_method_48_code 132 = .ok (.aload_n 0, 1) := by decide +kernel
theorem dc_M_meet_133 : decode prog_14_method_48_code 133 = .ok (.iload 4, 2) := by decide +kernel
theorem dc_M_meet_135 : decode prog_14_method_48_code 135 = .ok (.iconst 2, 1) := by decide +kernel
theorem dc_M_meet_136 : decode prog_14_method_48_code 136 = .ok (.invokevirtual 415, 3) := by decide +kernel
theorem dc_M_meet_139 : decode prog_14_method_48_code 139 = .ok (.if_icmp .lt 25, 3) := by decide +kernel
theorem dc_M_meet_142 : decode prog_14_method_48_code 142 = .ok (.iload_n 2, 1) := by decide +kernel
theorem dc_M_meet_143 : decode prog_14_method_48_code 143 = .ok (.aload_n 0, 1) := by decide +kernel
theorem dc_M_meet_144 : decode prog_14_method_48_code 144 = .ok (.iload 4, 2) := by decide +kernel
theorem dc_M_meet_146 : decode prog_14_method_48_code 146 = .ok (.iconst 2, 1) := by decide +kernel
theorem dc_M_meet_147 : decode prog_14_method_48_code 147 = .ok (.invokevirtual 415, 3) := by decide +kernel
theorem dc_M_meet_150 : decode prog_14_method_48_code 150 = .ok (.if_icmp .ne 40, 3) := by decide +kernel
theorem dc_M_meet_153 : decode prog_14_method_48_code 153 = .ok (.iload_n 3, 1) := by decide +kernel
theorem dc_M_meet_154 : decode prog_14_method_48_code 154 = .ok (.aload_n 0, 1) := by decide +kernel
theorem dc_M_meet_155 : decode prog_14_method_48_code 155 = .ok (.iload 4, 2) := by decide +kernel
theorem dc_M_meet_157 : decode prog_14_method_48_code 157 = .ok (.iconst 3, 1) := by decide +kernel
theorem dc_M_meet_158 : decode prog_14_method_48_code 158 = .ok (.invokevirtual 415, 3) := by decide +kernel
theorem dc_M_meet_161 : decode prog_14_method_48_code 161 = .ok (.if_icmp .ge 29, 3) := by decide +kernel
theorem dc_M_meet_164 : decode prog_14_method_48_code 164 = .ok (.aload_n 0, 1) := by decide +kernel
theorem dc_M_meet_165 : decode prog_14_method_48_code 165 = .ok (.getfield 356, 3) := by decide +kernel
theorem dc_M_meet_168 : decode prog_14_method_48_code 168 = .ok (.bipush 6, 2) := by decide +kernel
theorem dc_M_meet_170 : decode prog_14_method_48_code 170 = .ok (.iload 4, 2) := by decide +kernel
theorem dc_M_meet_172 : decode prog_14_method_48_code 172 = .ok (.imul, 1) := by decide +kernel
theorem dc_M_meet_173 : decode prog_14_method_48_code 173 = .ok (.iconst 2, 1) := by decide +kernel
theorem dc_M_meet_174 : decode prog_14_method_48_code 174 = .ok (.iadd, 1) := by decide +kernel
theorem dc_M_meet_175 : decode prog_14_method_48_code 175 = .ok (.iload_n 2, 1) := by decide +kernel
theorem dc_M_meet_176 : decode prog_14_method_48_code 176 = .ok (.iastore, 1) := by decide +kernel
theorem dc_M_meet_177 : decode prog_14_method_48_code 177 = .ok (.aload_n 0, 1) := by decide +kernel
theorem dc_M_meet_178 : decode prog_14_method_48_code 178 = .ok (.getfield 356, 3) := by decide +kernel
theorem dc_M_meet_181 : decode prog_14_method_48_code 181 = .ok (.bipush 6, 2) := by decide +kernel
theorem dc_M_meet_183 : decode prog_14_method_48_code 183 = .ok (.iload 4, 2) := by decide +kernel
theorem dc_M_meet_185 : decode prog_14_method_48_code 185 = .ok (.imul, 1) := by decide +kernel
theorem dc_M_meet_186 : decode prog_14_method_48_code 186 = .ok (.iconst 3, 1) := by decide +kernel
theorem dc_M_meet_187 : decode prog_14_method_48_code 187 = .ok (.iadd, 1) := by decide +kernel
theorem dc_M_meet_188 : decode prog_14_method_48_code 188 = .ok (.iload_n 3, 1) := by decide +kernel
theorem dc_M_meet_189 : decode prog_14_method_48_code 189 = .ok (.iastore, 1) := by decide +kernel
theorem dc_M_meet_190 : decode prog_14_method_48_code 190 = .ok (.return_, 1) := by decide +kernel
theorem dc_M_numberOf_0 : decode prog_14_method_47_code 0 = .ok (.iconst (-1), 1) := by decide +kernel
theorem dc_M_numberOf_1 : decode prog_14_method_47_code 1 = .ok (.istore_n 2, 1) := by decide +kernel
theorem dc_M_numberOf_2 : decode prog_14_method_47_code 2 = .ok (.iconst 0, 1) := by decide +kernel
theorem dc_M_numberOf_3 : decode prog_14_method_47_code 3 = .ok (.istore_n 3, 1) := by decide +kernel
theorem dc_M_numberOf_4 : decode prog_14_method_47_code 4 = .ok (.iload_n 3, 1) := by decide +kernel
theorem dc_M_numberOf_5 : decode prog_14_method_47_code 5 = .ok (.aload_n 0, 1) := by decide +kernel
theorem dc_M_numberOf_6 : decode prog_14_method_47_code 6 = .ok (.getfield 412, 3) := by decide +kernel
theorem dc_M_numberOf_9 : decode prog_14_method_47_code 9 = .ok (.if_icmp .ge 25, 3) := by decide +kernel
theorem dc_M_numberOf_12 : decode prog_14_method_47_code 12 = .ok (.aload_n 0, 1) := by decide +kernel
theorem dc_M_numberOf_13 : decode prog_14_method_47_code 13 = .ok (.iload_n 3, 1) := by decide +kernel
theorem dc_M_numberOf_14 : decode prog_14_method_47_code 14 = .ok (.iconst 0, 1) := by decide +kernel
theorem dc_M_numberOf_15 : decode prog_14_method_47_code 15 = .ok (.invokevirtual 415, 3) := by decide +kernel
theorem dc_M_numberOf_18 : decode prog_14_method_47_code 18 = .ok (.iload_n 1, 1) := by decide +kernel
theorem dc_M_numberOf_19 : decode prog_14_method_47_code 19 = .ok (.if_icmp .ne 7, 3) := by decide +kernel
theorem dc_M_numberOf_22 : decode prog_14_method_47_code 22 = .ok (.iload_n 3, 1) := by decide +kernel
theorem dc_M_numberOf_23 : decode prog_14_method_47_code 23 = .ok (.goto 4, 3) := by decide +kernel
theorem dc_M_numberOf_26 : decode prog_14_method_47_code 26 = .ok (.iload_n 2, 1) := by decide +kernel
theorem dc_M_numberOf_27 : decode prog_14_method_47_code 27 = .ok (.istore_n 2, 1) := by decide +kernel
theorem dc_M_numberOf_28 : decode prog_14_method_47_code 28 = .ok (.iinc 3 1, 3) := by decide +kernel
theorem dc_M_numberOf_31 : decode prog_14_method_47_code 31 = .ok (.goto (-27), 3) := by decide +kernel
theorem dc_M_numberOf_34 : decode prog_14_method_47_code 34 = .ok (.iload_n 2, 1) := by decide +kernel
theorem dc_M_numberOf_35 : decode prog_14_method_47_code 35 = .ok (.ireturn, 1) := by decide +kernel
theorem dc_M_of_0 : decode prog_14_method_46_code 0 = .ok (.aload_n 0, 1) := by decide +kernel
theorem dc_M_of_1 : decode prog_14_method_46_code 1 = .ok (.getfield 356, 3) := by decide +kernel
theorem dc_M_of_4 : decode prog_14_method_46_code 4 = .ok (.bipush 6, 2) := by decide +kernel
theorem dc_M_of_6 : decode prog_14_method_46_code 6 = .ok (.iload_n 1, 1) := by decide +kernel
theorem dc_M_of_7 : decode prog_14_method_46_code 7 = .ok (.imul, 1) := by decide +kernel
theorem dc_M_of_8 : decode prog_14_method_46_code 8 = .ok (.iload_n 2, 1) := by decide +kernel
theorem dc_M_of_9 : decode prog_14_method_46_code 9 = .ok (.iadd, 1) := by decide +kernel
theorem dc_M_of_10 : decode prog_14_method_46_code 10 = .ok (.iaload, 1) := by decide +kernel
theorem dc_M_of_11 : decode prog_14_method_46_code 11 = .ok (.ireturn, 1) := by decide +kernel
theorem dc_M_save_0 : decode prog_14_method_49_code 0 = .ok (.iconst 0, 1) := by decide +kernel
theorem dc_M_save_1 : decode prog_14_method_49_code 1 = .ok (.istore_n 1, 1) := by decide +kernel
theorem dc_M_save_2 : decode prog_14_method_49_code 2 = .ok (.iload_n 1, 1) := by decide +kernel
theorem dc_M_save_3 : decode prog_14_method_49_code 3 = .ok (.bipush 6, 2) := by decide +kernel
theorem dc_M_save_5 : decode prog_14_method_49_code 5 = .ok (.aload_n 0, 1) := by decide +kernel
theorem dc_M_save_6 : decode prog_14_method_49_code 6 = .ok (.getfield 412, 3) := by decide +kernel
theorem dc_M_save_9 : decode prog_14_method_49_code 9 = .ok (.imul, 1) := by decide +kernel
theorem dc_M_save_10 : decode prog_14_method_49_code 10 = .ok (.if_icmp .ge 21, 3) := by decide +kernel
theorem dc_M_save_13 : decode prog_14_method_49_code 13 = .ok (.aload_n 0, 1) := by decide +kernel
theorem dc_M_save_14 : decode prog_14_method_49_code 14 = .ok (.getfield 359, 3) := by decide +kernel
theorem fl_M_359 : am_fl "WebFinderModel" 359 12 65 := ⟨"WebFinderModel", tt_M, 90, rfl, by decide, Or.inl (am_t7 176 rfl rfl)⟩
theorem dc_M_save_17 : decode prog_14_method_49_code 17 = .ok (.iload_n 1, 1) := by decide +kernel
theorem dc_M_save_18 : decode prog_14_method_49_code 18 = .ok (.aload_n 0, 1) := by decide +kernel
theorem dc_M_save_19 : decode prog_14_method_49_code 19 = .ok (.getfield 356, 3) := by decide +kernel
theorem dc_M_save_22 : decode prog_14_method_49_code 22 = .ok (.iload_n 1, 1) := by decide +kernel
theorem dc_M_save_23 : decode prog_14_method_49_code 23 = .ok (.iaload, 1) := by decide +kernel
theorem dc_M_save_24 : decode prog_14_method_49_code 24 = .ok (.iastore, 1) := by decide +kernel
theorem dc_M_save_25 : decode prog_14_method_49_code 25 = .ok (.iinc 1 1, 3) := by decide +kernel
theorem dc_M_save_28 : decode prog_14_method_49_code 28 = .ok (.goto (-26), 3) := by decide +kernel
theorem dc_M_save_31 : decode prog_14_method_49_code 31 = .ok (.aload_n 0, 1) := by decide +kernel
theorem dc_M_save_32 : decode prog_14_method_49_code 32 = .ok (.aload_n 0, 1) := by decide +kernel
theorem dc_M_save_33 : decode prog_14_method_49_code 33 = .ok (.getfield 412, 3) := by decide +kernel
theorem dc_M_save_36 : decode prog_14_method_49_code 36 = .ok (.putfield 421, 3) := by decide +kernel
theorem fp_M_save_421 : am_fp mt_M_save.1 421 12 66 (.int) := ⟨"WebFinderModel", tt_M, 90, rfl, by decide, ct_M 66 (by decide), Or.inl ⟨(am_t7 177 rfl rfl), Or.inl rfl⟩⟩
theorem dc_M_save_39 : decode prog_14_method_49_code 39 = .ok (.aload_n 0, 1) := by decide +kernel
theorem dc_M_save_40 : decode prog_14_method_49_code 40 = .ok (.iconst 0, 1) := by decide +kernel
theorem dc_M_save_41 : decode prog_14_method_49_code 41 = .ok (.putfield 424, 3) := by decide +kernel
theorem fp_M_save_424 : am_fp mt_M_save.1 424 12 67 (.int) := ⟨"WebFinderModel", tt_M, 90, rfl, by decide, ct_M 67 (by decide), Or.inl ⟨(am_t7 178 rfl rfl), Or.inl rfl⟩⟩
theorem dc_M_save_44 : decode prog_14_method_49_code 44 = .ok (.return_, 1) := by decide +kernel
theorem dc_M_step_0 : decode prog_14_method_84_code 0 = .ok (.aload_n 0, 1) := by decide +kernel
theorem dc_M_step_1 : decode prog_14_method_84_code 1 = .ok (.iconst 0, 1) := by decide +kernel
theorem dc_M_step_2 : decode prog_14_method_84_code 2 = .ok (.putfield 1, 3) := by decide +kernel
theorem fp_M_step_1 : am_fp mt_M_step.1 1 12 2 (.int) := ⟨"WebFinderModel", tt_M, 90, rfl, by decide, ct_M 2 (by decide), Or.inl ⟨(am_t7 113 rfl rfl), Or.inl rfl⟩⟩
theorem dc_M_step_5 : decode prog_14_method_84_code 5 = .ok (.aload_n 0, 1) := by decide +kernel
theorem dc_M_step_6 : decode prog_14_method_84_code 6 = .ok (.getfield 520, 3) := by decide +kernel
theorem fl_M_520 : am_fl "WebFinderModel" 520 12 61 := ⟨"WebFinderModel", tt_M, 90, rfl, by decide, Or.inl (am_t7 172 rfl rfl)⟩
theorem dc_M_step_9 : decode prog_14_method_84_code 9 = .ok (.ifCond .eq 10, 3) := by decide +kernel
theorem dc_M_step_12 : decode prog_14_method_84_code 12 = .ok (.aload_n 0, 1) := by decide +kernel
theorem dc_M_step_13 : decode prog_14_method_84_code 13 = .ok (.invokevirtual 458, 3) := by decide +kernel
theorem mo_M_next : am_mo mt_M_next 0 := ⟨⟨by decide +kernel, by decide +kernel⟩, by decide +kernel, ⟨by decide +kernel, by decide +kernel⟩, (am_t9 173 rfl rfl), (am_t1 11 rfl rfl), by decide +kernel⟩
theorem im_M_next : Cond.instanceMethod mt_M_next.1 ∈ am_gw := (am_t9 172 rfl rfl)
theorem se_M_next : Cond.selects mt_M_next.1.cls mt_M_next.1 mt_M_next.1 ∈ am_gw := am_in (List.mem_append_left _ (by decide +kernel)) rfl
theorem ln_M_458 : am_ln "WebFinderModel" 458 mt_M_next.1 := Or.inl (am_t9 170 rfl rfl)
theorem dc_M_step_16 : decode prog_14_method_84_code 16 = .ok (.goto 4, 3) := by decide +kernel
theorem dc_M_step_19 : decode prog_14_method_84_code 19 = .ok (.iconst (-1), 1) := by decide +kernel
theorem dc_M_step_20 : decode prog_14_method_84_code 20 = .ok (.istore_n 1, 1) := by decide +kernel
theorem dc_M_step_21 : decode prog_14_method_84_code 21 = .ok (.iload_n 1, 1) := by decide +kernel
theorem dc_M_step_22 : decode prog_14_method_84_code 22 = .ok (.ifCond .ge 5, 3) := by decide +kernel
theorem dc_M_step_25 : decode prog_14_method_84_code 25 = .ok (.iconst (-1), 1) := by decide +kernel
theorem dc_M_step_26 : decode prog_14_method_84_code 26 = .ok (.ireturn, 1) := by decide +kernel
theorem dc_M_step_27 : decode prog_14_method_84_code 27 = .ok (.aload_n 0, 1) := by decide +kernel
theorem dc_M_step_28 : decode prog_14_method_84_code 28 = .ok (.iload_n 1, 1) := by decide +kernel
theorem dc_M_step_29 : decode prog_14_method_84_code 29 = .ok (.invokevirtual 526, 3) := by decide +kernel
theorem mo_M_take : am_mo mt_M_take 1 := ⟨⟨by decide +kernel, by decide +kernel⟩, by decide +kernel, ⟨by decide +kernel, by decide +kernel⟩, (am_t9 177 rfl rfl), (am_t1 11 rfl rfl), by decide +kernel⟩
theorem im_M_take : Cond.instanceMethod mt_M_take.1 ∈ am_gw := (am_t9 176 rfl rfl)
theorem se_M_take : Cond.selects mt_M_take.1.cls mt_M_take.1 mt_M_take.1 ∈ am_gw := am_in (List.mem_append_left _ (by decide +kernel)) rfl
theorem ln_M_526 : am_ln "WebFinderModel" 526 mt_M_take.1 := Or.inl (am_t9 174 rfl rfl)
theorem dc_M_step_32 : decode prog_14_method_84_code 32 = .ok (.istore_n 2, 1) := by decide +kernel
theorem dc_M_step_33 : decode prog_14_method_84_code 33 = .ok (.aload_n 0, 1) := by decide +kernel
theorem dc_M_step_34 : decode prog_14_method_84_code 34 = .ok (.getfield 356, 3) := by decide +kernel
theorem dc_M_step_37 : decode prog_14_method_84_code 37 = .ok (.bipush 6, 2) := by decide +kernel
theorem dc_M_step_39 : decode prog_14_method_84_code 39 = .ok (.iload_n 1, 1) := by decide +kernel
theorem dc_M_step_40 : decode prog_14_method_84_code 40 = .ok (.imul, 1) := by decide +kernel
theorem dc_M_step_41 : decode prog_14_method_84_code 41 = .ok (.iconst 1, 1) := by decide +kernel
theorem dc_M_step_42 : decode prog_14_method_84_code 42 = .ok (.iadd, 1) := by decide +kernel
theorem dc_M_step_43 : decode prog_14_method_84_code 43 = .ok (.iload_n 2, 1) := by decide +kernel
theorem dc_M_step_44 : decode prog_14_method_84_code 44 = .ok (.iastore, 1) := by decide +kernel
theorem dc_M_step_45 : decode prog_14_method_84_code 45 = .ok (.aload_n 0, 1) := by decide +kernel
theorem dc_M_step_46 : decode prog_14_method_84_code 46 = .ok (.getfield 424, 3) := by decide +kernel
theorem fl_M_424 : am_fl "WebFinderModel" 424 12 67 := ⟨"WebFinderModel", tt_M, 90, rfl, by decide, Or.inl (am_t7 178 rfl rfl)⟩
theorem dc_M_step_49 : decode prog_14_method_84_code 49 = .ok (.aload_n 0, 1) := by decide +kernel
theorem dc_M_step_50 : decode prog_14_method_84_code 50 = .ok (.getfield 350, 3) := by decide +kernel
theorem dc_M_step_53 : decode prog_14_method_84_code 53 = .ok (.iconst 3, 1) := by decide +kernel
theorem dc_M_step_54 : decode prog_14_method_84_code 54 = .ok (.iaload, 1) := by decide +kernel
theorem dc_M_step_55 : decode prog_14_method_84_code 55 = .ok (.if_icmp .lt 7, 3) := by decide +kernel
theorem dc_M_step_58 : decode prog_14_method_84_code 58 = .ok (.aload_n 0, 1) := by decide +kernel
theorem dc_M_step_59 : decode prog_14_method_84_code 59 = .ok (.invokevirtual 523, 3) := by decide +kernel
theorem dc_M_step_62 : decode prog_14_method_84_code 62 = .ok (.iload_n 2, 1) := by decide +kernel
theorem dc_M_step_63 : decode prog_14_method_84_code 63 = .ok (.ireturn, 1) := by decide +kernel
theorem dc_M_next_0 : decode prog_14_method_50_code 0 = .ok (.iconst (-1), 1) := by decide +kernel
theorem dc_M_next_1 : decode prog_14_method_50_code 1 = .ok (.istore_n 1, 1) := by decide +kernel
theorem dc_M_next_2 : decode prog_14_method_50_code 2 = .ok (.iconst 0, 1) := by decide +kernel
theorem dc_M_next_3 : decode prog_14_method_50_code 3 = .ok (.istore_n 2, 1) := by decide +kernel
theorem dc_M_next_4 : decode prog_14_method_50_code 4 = .ok (.iload_n 2, 1) := by decide +kernel
theorem dc_M_next_5 : decode prog_14_method_50_code 5 = .ok (.aload_n 0, 1) := by decide +kernel
theorem dc_M_next_6 : decode prog_14_method_50_code 6 = .ok (.getfield 412, 3) := by decide +kernel
theorem dc_M_next_9 : decode prog_14_method_50_code 9 = .ok (.if_icmp .ge 84, 3) := by decide +kernel
theorem dc_M_next_12 : decode prog_14_method_50_code 12 = .ok (.aload_n 0, 1) := by decide +kernel
theorem dc_M_next_13 : decode prog_14_method_50_code 13 = .ok (.iload_n 2, 1) := by decide +kernel
theorem dc_M_next_14 : decode prog_14_method_50_code 14 = .ok (.iconst 1, 1) := by decide +kernel
theorem dc_M_next_15 : decode prog_14_method_50_code 15 = .ok (.invokevirtual 415, 3) := by decide +kernel
theorem dc_M_next_18 : decode prog_14_method_50_code 18 = .ok (.iconst 1, 1) := by decide +kernel
theorem dc_M_next_19 : decode prog_14_method_50_code 19 = .ok (.if_icmp .ne 68, 3) := by decide +kernel
theorem dc_M_next_22 : decode prog_14_method_50_code 22 = .ok (.iload_n 1, 1) := by decide +kernel
theorem dc_M_next_23 : decode prog_14_method_50_code 23 = .ok (.ifCond .lt 48, 3) := by decide +kernel
theorem dc_M_next_26 : decode prog_14_method_50_code 26 = .ok (.aload_n 0, 1) := by decide +kernel
theorem dc_M_next_27 : decode prog_14_method_50_code 27 = .ok (.iload_n 2, 1) := by decide +kernel
theorem dc_M_next_28 : decode prog_14_method_50_code 28 = .ok (.iconst 2, 1) := by decide +kernel
theorem dc_M_next_29 : decode prog_14_method_50_code 29 = .ok (.invokevirtual 415, 3) := by decide +kernel
theorem dc_M_next_32 : decode prog_14_method_50_code 32 = .ok (.aload_n 0, 1) := by decide +kernel
theorem dc_M_next_33 : decode prog_14_method_50_code 33 = .ok (.iload_n 1, 1) := by decide +kernel
theorem dc_M_next_34 : decode prog_14_method_50_code 34 = .ok (.iconst 2, 1) := by decide +kernel
theorem dc_M_next_35 : decode prog_14_method_50_code 35 = .ok (.invokevirtual 415, 3) := by decide +kernel
theorem dc_M_next_38 : decode prog_14_method_50_code 38 = .ok (.if_icmp .lt 33, 3) := by decide +kernel
theorem dc_M_next_41 : decode prog_14_method_50_code 41 = .ok (.aload_n 0, 1) := by decide +kernel
theorem dc_M_next_42 : decode prog_14_method_50_code 42 = .ok (.iload_n 2, 1) := by decide +kernel
theorem dc_M_next_43 : decode prog_14_method_50_code 43 = .ok (.iconst 2, 1) := by decide +kernel
theorem dc_M_next_44 : decode prog_14_method_50_code 44 = .ok (.invokevirtual 415, 3) := by decide +kernel
theorem dc_M_next_47 : decode prog_14_method_50_code 47 = .ok (.aload_n 0, 1) := by decide +kernel
theorem dc_M_next_48 : decode prog_14_method_50_code 48 = .ok (.iload_n 1, 1) := by decide +kernel
theorem dc_M_next_49 : decode prog_14_method_50_code 49 = .ok (.iconst 2, 1) := by decide +kernel
theorem dc_M_next_50 : decode prog_14_method_50_code 50 = .ok (.invokevirtual 415, 3) := by decide +kernel
theorem dc_M_next_53 : decode prog_14_method_50_code 53 = .ok (.if_icmp .ne 22, 3) := by decide +kernel
theorem dc_M_next_56 : decode prog_14_method_50_code 56 = .ok (.aload_n 0, 1) := by decide +kernel
theorem dc_M_next_57 : decode prog_14_method_50_code 57 = .ok (.iload_n 2, 1) := by decide +kernel
theorem dc_M_next_58 : decode prog_14_method_50_code 58 = .ok (.iconst 3, 1) := by decide +kernel
theorem dc_M_next_59 : decode prog_14_method_50_code 59 = .ok (.invokevirtual 415, 3) := by decide +kernel
theorem dc_M_next_62 : decode prog_14_method_50_code 62 = .ok (.aload_n 0, 1) := by decide +kernel
theorem dc_M_next_63 : decode prog_14_method_50_code 63 = .ok (.iload_n 1, 1) := by decide +kernel
theorem dc_M_next_64 : decode prog_14_method_50_code 64 = .ok (.iconst 3, 1) := by decide +kernel
theorem dc_M_next_65 : decode prog_14_method_50_code 65 = .ok (.invokevirtual 415, 3) := by decide +kernel
theorem dc_M_next_68 : decode prog_14_method_50_code 68 = .ok (.if_icmp .ge 7, 3) := by decide +kernel
theorem dc_M_next_71 : decode prog_14_method_50_code 71 = .ok (.iconst 1, 1) := by decide +kernel
theorem dc_M_next_72 : decode prog_14_method_50_code 72 = .ok (.goto 4, 3) := by decide +kernel
theorem dc_M_next_75 : decode prog_14_method_50_code 75 = .ok (.iconst 0, 1) := by decide +kernel
theorem dc_M_next_76 : decode prog_14_method_50_code 76 = .ok (.istore_n 3, 1) := by decide +kernel
theorem dc_M_next_77 : decode prog_14_method_50_code 77 = .ok (.iload_n 3, 1) := by decide +kernel
theorem dc_M_next_78 : decode prog_14_method_50_code 78 = .ok (.ifCond .eq 7, 3) := by decide +kernel
theorem dc_M_next_81 : decode prog_14_method_50_code 81 = .ok (.iload_n 2, 1) := by decide +kernel
theorem dc_M_next_82 : decode prog_14_method_50_code 82 = .ok (.goto 4, 3) := by decide +kernel
theorem dc_M_next_85 : decode prog_14_method_50_code 85 = .ok (.iload_n 1, 1) := by decide +kernel
theorem dc_M_next_86 : decode prog_14_method_50_code 86 = .ok (.istore_n 1, 1) := by decide +kernel
theorem dc_M_next_87 : decode prog_14_method_50_code 87 = .ok (.iinc 2 1, 3) := by decide +kernel
theorem dc_M_next_90 : decode prog_14_method_50_code 90 = .ok (.goto (-86), 3) := by decide +kernel
theorem dc_M_next_93 : decode prog_14_method_50_code 93 = .ok (.iload_n 1, 1) := by decide +kernel
theorem dc_M_next_94 : decode prog_14_method_50_code 94 = .ok (.ireturn, 1) := by decide +kernel
theorem dc_M_take_0 : decode prog_14_method_52_code 0 = .ok (.aload_n 0, 1) := by decide +kernel
theorem dc_M_take_1 : decode prog_14_method_52_code 1 = .ok (.iload_n 1, 1) := by decide +kernel
theorem dc_M_take_2 : decode prog_14_method_52_code 2 = .ok (.iconst 0, 1) := by decide +kernel
theorem dc_M_take_3 : decode prog_14_method_52_code 3 = .ok (.invokevirtual 415, 3) := by decide +kernel
theorem dc_M_take_6 : decode prog_14_method_52_code 6 = .ok (.istore_n 2, 1) := by decide +kernel
theorem dc_M_take_7 : decode prog_14_method_52_code 7 = .ok (.aload_n 0, 1) := by decide +kernel
theorem dc_M_take_8 : decode prog_14_method_52_code 8 = .ok (.iload_n 2, 1) := by decide +kernel
theorem dc_M_take_9 : decode prog_14_method_52_code 9 = .ok (.invokevirtual 439, 3) := by decide +kernel
theorem dc_M_take_12 : decode prog_14_method_52_code 12 = .ok (.aload_n 0, 1) := by decide +kernel
theorem dc_M_take_13 : decode prog_14_method_52_code 13 = .ok (.getfield 197, 3) := by decide +kernel
theorem dc_M_take_16 : decode prog_14_method_52_code 16 = .ok (.ifCond .ne 5, 3) := by decide +kernel
theorem dc_M_take_19 : decode prog_14_method_52_code 19 = .ok (.iconst 4, 1) := by decide +kernel
theorem dc_M_take_20 : decode prog_14_method_52_code 20 = .ok (.ireturn, 1) := by decide +kernel
theorem dc_M_take_21 : decode prog_14_method_52_code 21 = .ok (.aload_n 0, 1) := by decide +kernel
theorem dc_M_take_22 : decode prog_14_method_52_code 22 = .ok (.iload_n 2, 1) := by decide +kernel
theorem dc_M_take_23 : decode prog_14_method_52_code 23 = .ok (.invokevirtual 443, 3) := by decide +kernel
theorem mo_M_askFor : am_mo mt_M_askFor 1 := ⟨⟨by decide +kernel, by decide +kernel⟩, by decide +kernel, ⟨by decide +kernel, by decide +kernel⟩, (am_t9 181 rfl rfl), (am_t1 11 rfl rfl), by decide +kernel⟩
theorem im_M_askFor : Cond.instanceMethod mt_M_askFor.1 ∈ am_gw := (am_t9 180 rfl rfl)
theorem se_M_askFor : Cond.selects mt_M_askFor.1.cls mt_M_askFor.1 mt_M_askFor.1 ∈ am_gw := am_in (List.mem_append_left _ (by decide +kernel)) rfl
theorem ln_M_443 : am_ln "WebFinderModel" 443 mt_M_askFor.1 := Or.inl (am_t9 178 rfl rfl)
theorem dc_M_take_26 : decode prog_14_method_52_code 26 = .ok (.aload_n 0, 1) := by decide +kernel
theorem dc_M_take_27 : decode prog_14_method_52_code 27 = .ok (.iload_n 2, 1) := by decide +kernel
theorem dc_M_take_28 : decode prog_14_method_52_code 28 = .ok (.invokevirtual 446, 3) := by decide +kernel
theorem dc_M_take_31 : decode prog_14_method_52_code 31 = .ok (.istore_n 3, 1) := by decide +kernel
theorem dc_M_take_32 : decode prog_14_method_52_code 32 = .ok (.iload_n 3, 1) := by decide +kernel
theorem dc_M_take_33 : decode prog_14_method_52_code 33 = .ok (.ifCond .ge 7, 3) := by decide +kernel
theorem dc_M_take_36 : decode prog_14_method_52_code 36 = .ok (.iconst 0, 1) := by decide +kernel
theorem dc_M_take_37 : decode prog_14_method_52_code 37 = .ok (.goto 9, 3) := by decide +kernel
theorem dc_M_take_40 : decode prog_14_method_52_code 40 = .ok (.aload_n 0, 1) := by decide +kernel
theorem dc_M_take_41 : decode prog_14_method_52_code 41 = .ok (.getfield 341, 3) := by decide +kernel
theorem dc_M_take_44 : decode prog_14_method_52_code 44 = .ok (.iload_n 3, 1) := by decide +kernel
theorem dc_M_take_45 : decode prog_14_method_52_code 45 = .ok (.iaload, 1) := by decide +kernel
theorem dc_M_take_46 : decode prog_14_method_52_code 46 = .ok (.istore 4, 2) := by decide +kernel
theorem dc_M_take_48 : decode prog_14_method_52_code 48 = .ok (.iload 4, 2) := by decide +kernel
theorem dc_M_take_50 : decode prog_14_method_52_code 50 = .ok (.sipush 200, 3) := by decide +kernel
theorem dc_M_take_53 : decode prog_14_method_52_code 53 = .ok (.if_icmp .ne 83, 3) := by decide +kernel
theorem dc_M_take_56 : decode prog_14_method_52_code 56 = .ok (.aload_n 0, 1) := by decide +kernel
theorem dc_M_take_57 : decode prog_14_method_52_code 57 = .ok (.getfield 356, 3) := by decide +kernel
theorem dc_M_take_60 : decode prog_14_method_52_code 60 = .ok (.bipush 6, 2) := by decide +kernel
theorem dc_M_take_62 : decode prog_14_method_52_code 62 = .ok (.iload_n 1, 1) := by decide +kernel
theorem dc_M_take_63 : decode prog_14_method_52_code 63 = .ok (.imul, 1) := by decide +kernel
theorem dc_M_take_64 : decode prog_14_method_52_code 64 = .ok (.iconst 1, 1) := by decide +kernel
theorem dc_M_take_65 : decode prog_14_method_52_code 65 = .ok (.iadd, 1) := by decide +kernel
theorem dc_M_take_66 : decode prog_14_method_52_code 66 = .ok (.iconst 2, 1) := by decide +kernel
theorem dc_M_take_67 : decode prog_14_method_52_code 67 = .ok (.iastore, 1) := by decide +kernel
theorem dc_M_take_68 : decode prog_14_method_52_code 68 = .ok (.aload_n 0, 1) := by decide +kernel
theorem dc_M_take_69 : decode prog_14_method_52_code 69 = .ok (.getfield 356, 3) := by decide +kernel
theorem dc_M_take_72 : decode prog_14_method_52_code 72 = .ok (.bipush 6, 2) := by decide +kernel
theorem dc_M_take_74 : decode prog_14_method_52_code 74 = .ok (.iload_n 1, 1) := by decide +kernel
theorem dc_M_take_75 : decode prog_14_method_52_code 75 = .ok (.imul, 1) := by decide +kernel
theorem dc_M_take_76 : decode prog_14_method_52_code 76 = .ok (.iconst 5, 1) := by decide +kernel
theorem dc_M_take_77 : decode prog_14_method_52_code 77 = .ok (.iadd, 1) := by decide +kernel
theorem dc_M_take_78 : decode prog_14_method_52_code 78 = .ok (.aload_n 0, 1) := by decide +kernel
theorem dc_M_take_79 : decode prog_14_method_52_code 79 = .ok (.getfield 344, 3) := by decide +kernel
theorem dc_M_take_82 : decode prog_14_method_52_code 82 = .ok (.iload_n 3, 1) := by decide +kernel
theorem dc_M_take_83 : decode prog_14_method_52_code 83 = .ok (.iaload, 1) := by decide +kernel
theorem dc_M_take_84 : decode prog_14_method_52_code 84 = .ok (.iastore, 1) := by decide +kernel
theorem dc_M_take_85 : decode prog_14_method_52_code 85 = .ok (.aload_n 0, 1) := by decide +kernel
theorem dc_M_take_86 : decode prog_14_method_52_code 86 = .ok (.aload_n 0, 1) := by decide +kernel
theorem dc_M_take_87 : decode prog_14_method_52_code 87 = .ok (.getfield 344, 3) := by decide +kernel
theorem dc_M_take_90 : decode prog_14_method_52_code 90 = .ok (.iload_n 3, 1) := by decide +kernel
theorem dc_M_take_91 : decode prog_14_method_52_code 91 = .ok (.iaload, 1) := by decide +kernel
theorem dc_M_take_92 : decode prog_14_method_52_code 92 = .ok (.iload_n 2, 1) := by decide +kernel
theorem dc_M_take_93 : decode prog_14_method_52_code 93 = .ok (.invokevirtual 449, 3) := by decide +kernel
theorem dc_M_take_96 : decode prog_14_method_52_code 96 = .ok (.iconst 0, 1) := by decide +kernel
theorem dc_M_take_97 : decode prog_14_method_52_code 97 = .ok (.istore 5, 2) := by decide +kernel
theorem dc_M_take_99 : decode prog_14_method_52_code 99 = .ok (.iload 5, 2) := by decide +kernel
theorem dc_M_take_101 : decode prog_14_method_52_code 101 = .ok (.aload_n 0, 1) := by decide +kernel
theorem dc_M_take_102 : decode prog_14_method_52_code 102 = .ok (.getfield 322, 3) := by decide +kernel
theorem dc_M_take_105 : decode prog_14_method_52_code 105 = .ok (.if_icmp .ge 29, 3) := by decide +kernel
theorem dc_M_take_108 : decode prog_14_method_52_code 108 = .ok (.aload_n 0, 1) := by decide +kernel
theorem dc_M_take_109 : decode prog_14_method_52_code 109 = .ok (.aload_n 0, 1) := by decide +kernel
theorem dc_M_take_110 : decode prog_14_method_52_code 110 = .ok (.getfield 328, 3) := by decide +kernel
theorem dc_M_take_113 : decode prog_14_method_52_code 113 = .ok (.iload 5, 2) := by decide +kernel
theorem dc_M_take_115 : decode prog_14_method_52_code 115 = .ok (.iaload, 1) := by decide +kernel
theorem dc_M_take_116 : decode prog_14_method_52_code 116 = .ok (.aload_n 0, 1) := by decide +kernel
theorem dc_M_take_117 : decode prog_14_method_52_code 117 = .ok (.iload_n 1, 1) := by decide +kernel
theorem dc_M_take_118 : decode prog_14_method_52_code 118 = .ok (.iconst 2, 1) := by decide +kernel
theorem dc_M_take_119 : decode prog_14_method_52_code 119 = .ok (.invokevirtual 415, 3) := by decide +kernel
theorem dc_M_take_122 : decode prog_14_method_52_code 122 = .ok (.iconst 1, 1) := by decide +kernel
theorem dc_M_take_123 : decode prog_14_method_52_code 123 = .ok (.iadd, 1) := by decide +kernel
theorem dc_M_take_124 : decode prog_14_method_52_code 124 = .ok (.iconst 0, 1) := by decide +kernel
theorem dc_M_take_125 : decode prog_14_method_52_code 125 = .ok (.invokevirtual 452, 3) := by decide +kernel
theorem dc_M_take_128 : decode prog_14_method_52_code 128 = .ok (.iinc 5 1, 3) := by decide +kernel
theorem dc_M_take_131 : decode prog_14_method_52_code 131 = .ok (.goto (-32), 3) := by decide +kernel
theorem dc_M_take_134 : decode prog_14_method_52_code 134 = .ok (.iconst 2, 1) := by decide +kernel
theorem dc_M_take_135 : decode prog_14_method_52_code 135 = .ok (.ireturn, 1) := by decide +kernel
theorem dc_M_take_136 : decode prog_14_method_52_code 136 = .ok (.iload 4, 2) := by decide +kernel
theorem dc_M_take_138 : decode prog_14_method_52_code 138 = .ok (.sipush 300, 3) := by decide +kernel
theorem dc_M_take_141 : decode prog_14_method_52_code 141 = .ok (.if_icmp .lt 130, 3) := by decide +kernel
theorem dc_M_take_144 : decode prog_14_method_52_code 144 = .ok (.iload 4, 2) := by decide +kernel
theorem dc_M_take_146 : decode prog_14_method_52_code 146 = .ok (.sipush 400, 3) := by decide +kernel
theorem dc_M_take_149 : decode prog_14_method_52_code 149 = .ok (.if_icmp .ge 122, 3) := by decide +kernel
theorem dc_M_take_152 : decode prog_14_method_52_code 152 = .ok (.aload_n 0, 1) := by decide +kernel
theorem dc_M_take_153 : decode prog_14_method_52_code 153 = .ok (.getfield 131, 3) := by decide +kernel
theorem dc_M_take_156 : decode prog_14_method_52_code 156 = .ok (.aload_n 0, 1) := by decide +kernel
theorem dc_M_take_157 : decode prog_14_method_52_code 157 = .ok (.getfield 344, 3) := by decide +kernel
theorem dc_M_take_160 : decode prog_14_method_52_code 160 = .ok (.iload_n 3, 1) := by decide +kernel
theorem dc_M_take_161 : decode prog_14_method_52_code 161 = .ok (.iaload, 1) := by decide +kernel
theorem dc_M_take_162 : decode prog_14_method_52_code 162 = .ok (.iaload, 1) := by decide +kernel
theorem dc_M_take_163 : decode prog_14_method_52_code 163 = .ok (.istore 5, 2) := by decide +kernel
theorem dc_M_take_165 : decode prog_14_method_52_code 165 = .ok (.aload_n 0, 1) := by decide +kernel
theorem dc_M_take_166 : decode prog_14_method_52_code 166 = .ok (.getfield 140, 3) := by decide +kernel
theorem dc_M_take_169 : decode prog_14_method_52_code 169 = .ok (.iload 5, 2) := by decide +kernel
theorem dc_M_take_171 : decode prog_14_method_52_code 171 = .ok (.aload_n 0, 1) := by decide +kernel
theorem dc_M_take_172 : decode prog_14_method_52_code 172 = .ok (.getfield 146, 3) := by decide +kernel
theorem dc_M_take_175 : decode prog_14_method_52_code 175 = .ok (.aload_n 0, 1) := by decide +kernel
theorem dc_M_take_176 : decode prog_14_method_52_code 176 = .ok (.getfield 344, 3) := by decide +kernel
theorem dc_M_take_179 : decode prog_14_method_52_code 179 = .ok (.iload_n 3, 1) := by decide +kernel
theorem dc_M_take_180 : decode prog_14_method_52_code 180 = .ok (.iaload, 1) := by decide +kernel
theorem dc_M_take_181 : decode prog_14_method_52_code 181 = .ok (.iaload, 1) := by decide +kernel
theorem dc_M_take_182 : decode prog_14_method_52_code 182 = .ok (.invokestatic 455, 3) := by decide +kernel
theorem dc_M_take_185 : decode prog_14_method_52_code 185 = .ok (.istore 6, 2) := by decide +kernel
theorem dc_M_take_187 : decode prog_14_method_52_code 187 = .ok (.aload_n 0, 1) := by decide +kernel
theorem dc_M_take_188 : decode prog_14_method_52_code 188 = .ok (.iload_n 1, 1) := by decide +kernel
theorem dc_M_take_189 : decode prog_14_method_52_code 189 = .ok (.iconst 3, 1) := by decide +kernel
theorem dc_M_take_190 : decode prog_14_method_52_code 190 = .ok (.invokevirtual 415, 3) := by decide +kernel
theorem dc_M_take_193 : decode prog_14_method_52_code 193 = .ok (.aload_n 0, 1) := by decide +kernel
theorem dc_M_take_194 : decode prog_14_method_52_code 194 = .ok (.getfield 350, 3) := by decide +kernel
theorem dc_M_take_197 : decode prog_14_method_52_code 197 = .ok (.iconst 1, 1) := by decide +kernel
theorem dc_M_take_198 : decode prog_14_method_52_code 198 = .ok (.iaload, 1) := by decide +kernel
theorem dc_M_take_199 : decode prog_14_method_52_code 199 = .ok (.if_icmp .ge 72, 3) := by decide +kernel
theorem dc_M_take_202 : decode prog_14_method_52_code 202 = .ok (.aload_n 0, 1) := by decide +kernel
theorem dc_M_take_203 : decode prog_14_method_52_code 203 = .ok (.aload_n 0, 1) := by decide +kernel
theorem dc_M_take_204 : decode prog_14_method_52_code 204 = .ok (.getfield 140, 3) := by decide +kernel
theorem dc_M_take_207 : decode prog_14_method_52_code 207 = .ok (.iload 5, 2) := by decide +kernel
theorem dc_M_take_209 : decode prog_14_method_52_code 209 = .ok (.iload 6, 2) := by decide +kernel
theorem dc_M_take_211 : decode prog_14_method_52_code 211 = .ok (.iload_n 2, 1) := by decide +kernel
theorem dc_M_take_212 : decode prog_14_method_52_code 212 = .ok (.invokevirtual 297, 3) := by decide +kernel
theorem dc_M_take_215 : decode prog_14_method_52_code 215 = .ok (.ifCond .eq 56, 3) := by decide +kernel
theorem dc_M_take_218 : decode prog_14_method_52_code 218 = .ok (.aload_n 0, 1) := by decide +kernel
theorem dc_M_take_219 : decode prog_14_method_52_code 219 = .ok (.getfield 356, 3) := by decide +kernel
theorem dc_M_take_222 : decode prog_14_method_52_code 222 = .ok (.bipush 6, 2) := by decide +kernel
theorem dc_M_take_224 : decode prog_14_method_52_code 224 = .ok (.iload_n 1, 1) := by decide +kernel
theorem dc_M_take_225 : decode prog_14_method_52_code 225 = .ok (.imul, 1) := by decide +kernel
theorem dc_M_take_226 : decode prog_14_method_52_code 226 = .ok (.iconst 1, 1) := by decide +kernel
theorem dc_M_take_227 : decode prog_14_method_52_code 227 = .ok (.iadd, 1) := by decide +kernel
theorem dc_M_take_228 : decode prog_14_method_52_code 228 = .ok (.iconst 3, 1) := by decide +kernel
theorem dc_M_take_229 : decode prog_14_method_52_code 229 = .ok (.iastore, 1) := by decide +kernel
theorem dc_M_take_230 : decode prog_14_method_52_code 230 = .ok (.aload_n 0, 1) := by decide +kernel
theorem dc_M_take_231 : decode prog_14_method_52_code 231 = .ok (.getfield 356, 3) := by decide +kernel
theorem dc_M_take_234 : decode prog_14_method_52_code 234 = .ok (.bipush 6, 2) := by decide +kernel
theorem dc_M_take_236 : decode prog_14_method_52_code 236 = .ok (.iload_n 1, 1) := by decide +kernel
theorem dc_M_take_237 : decode prog_14_method_52_code 237 = .ok (.imul, 1) := by decide +kernel
theorem dc_M_take_238 : decode prog_14_method_52_code 238 = .ok (.iconst 4, 1) := by decide +kernel
theorem dc_M_take_239 : decode prog_14_method_52_code 239 = .ok (.iadd, 1) := by decide +kernel
theorem dc_M_take_240 : decode prog_14_method_52_code 240 = .ok (.aload_n 0, 1) := by decide +kernel
theorem dc_M_take_241 : decode prog_14_method_52_code 241 = .ok (.invokevirtual 300, 3) := by decide +kernel
theorem dc_M_take_244 : decode prog_14_method_52_code 244 = .ok (.iastore, 1) := by decide +kernel
theorem dc_M_take_245 : decode prog_14_method_52_code 245 = .ok (.aload_n 0, 1) := by decide +kernel
theorem dc_M_take_246 : decode prog_14_method_52_code 246 = .ok (.aload_n 0, 1) := by decide +kernel
theorem dc_M_take_247 : decode prog_14_method_52_code 247 = .ok (.iload_n 1, 1) := by decide +kernel
theorem dc_M_take_248 : decode prog_14_method_52_code 248 = .ok (.iconst 4, 1) := by decide +kernel
theorem dc_M_take_249 : decode prog_14_method_52_code 249 = .ok (.invokevirtual 415, 3) := by decide +kernel
theorem dc_M_take_252 : decode prog_14_method_52_code 252 = .ok (.aload_n 0, 1) := by decide +kernel
theorem dc_M_take_253 : decode prog_14_method_52_code 253 = .ok (.iload_n 1, 1) := by decide +kernel
theorem dc_M_take_254 : decode prog_14_method_52_code 254 = .ok (.iconst 2, 1) := by decide +kernel
theorem dc_M_take_255 : decode prog_14_method_52_code 255 = .ok (.invokevirtual 415, 3) := by decide +kernel
theorem dc_M_take_258 : decode prog_14_method_52_code 258 = .ok (.aload_n 0, 1) := by decide +kernel
theorem dc_M_take_259 : decode prog_14_method_52_code 259 = .ok (.iload_n 1, 1) := by decide +kernel
theorem dc_M_take_260 : decode prog_14_method_52_code 260 = .ok (.iconst 3, 1) := by decide +kernel
theorem dc_M_take_261 : decode prog_14_method_52_code 261 = .ok (.invokevirtual 415, 3) := by decide +kernel
theorem dc_M_take_264 : decode prog_14_method_52_code 264 = .ok (.iconst 1, 1) := by decide +kernel
theorem dc_M_take_265 : decode prog_14_method_52_code 265 = .ok (.iadd, 1) := by decide +kernel
theorem dc_M_take_266 : decode prog_14_method_52_code 266 = .ok (.invokevirtual 452, 3) := by decide +kernel
theorem dc_M_take_269 : decode prog_14_method_52_code 269 = .ok (.iconst 3, 1) := by decide +kernel
theorem dc_M_take_270 : decode prog_14_method_52_code 270 = .ok (.ireturn, 1) := by decide +kernel
theorem dc_M_take_271 : decode prog_14_method_52_code 271 = .ok (.iconst 5, 1) := by decide +kernel
theorem dc_M_take_272 : decode prog_14_method_52_code 272 = .ok (.ireturn, 1) := by decide +kernel
theorem dc_M_askFor_0 : decode prog_14_method_51_code 0 = .ok (.iconst 0, 1) := by decide +kernel
theorem dc_M_askFor_1 : decode prog_14_method_51_code 1 = .ok (.istore_n 2, 1) := by decide +kernel
theorem dc_M_askFor_2 : decode prog_14_method_51_code 2 = .ok (.iload_n 2, 1) := by decide +kernel
theorem dc_M_askFor_3 : decode prog_14_method_51_code 3 = .ok (.aload_n 0, 1) := by decide +kernel
theorem dc_M_askFor_4 : decode prog_14_method_51_code 4 = .ok (.getfield 427, 3) := by decide +kernel
theorem fl_M_427 : am_fl "WebFinderModel" 427 12 73 := ⟨"WebFinderModel", tt_M, 90, rfl, by decide, Or.inl (am_t7 184 rfl rfl)⟩
theorem dc_M_askFor_7 : decode prog_14_method_51_code 7 = .ok (.if_icmp .ge 23, 3) := by decide +kernel
theorem dc_M_askFor_10 : decode prog_14_method_51_code 10 = .ok (.aload_n 0, 1) := by decide +kernel
theorem dc_M_askFor_11 : decode prog_14_method_51_code 11 = .ok (.aload_n 0, 1) := by decide +kernel
theorem dc_M_askFor_12 : decode prog_14_method_51_code 12 = .ok (.getfield 368, 3) := by decide +kernel
theorem fl_M_368 : am_fl "WebFinderModel" 368 12 71 := ⟨"WebFinderModel", tt_M, 90, rfl, by decide, Or.inl (am_t7 182 rfl rfl)⟩
theorem dc_M_askFor_15 : decode prog_14_method_51_code 15 = .ok (.iload_n 2, 1) := by decide +kernel
theorem dc_M_askFor_16 : decode prog_14_method_51_code 16 = .ok (.iaload, 1) := by decide +kernel
theorem dc_M_askFor_17 : decode prog_14_method_51_code 17 = .ok (.iload_n 1, 1) := by decide +kernel
theorem dc_M_askFor_18 : decode prog_14_method_51_code 18 = .ok (.invokevirtual 155, 3) := by decide +kernel
theorem dc_M_askFor_21 : decode prog_14_method_51_code 21 = .ok (.ifCond .ne 9, 3) := by decide +kernel
theorem dc_M_askFor_24 : decode prog_14_method_51_code 24 = .ok (.iinc 2 1, 3) := by decide +kernel
theorem dc_M_askFor_27 : decode prog_14_method_51_code 27 = .ok (.goto (-25), 3) := by decide +kernel
theorem dc_M_askFor_30 : decode prog_14_method_51_code 30 = .ok (.iload_n 2, 1) := by decide +kernel
theorem dc_M_askFor_31 : decode prog_14_method_51_code 31 = .ok (.aload_n 0, 1) := by decide +kernel
theorem dc_M_askFor_32 : decode prog_14_method_51_code 32 = .ok (.getfield 427, 3) := by decide +kernel
theorem dc_M_askFor_35 : decode prog_14_method_51_code 35 = .ok (.if_icmp .ge 12, 3) := by decide +kernel
theorem dc_M_askFor_38 : decode prog_14_method_51_code 38 = .ok (.aload_n 0, 1) := by decide +kernel
theorem dc_M_askFor_39 : decode prog_14_method_51_code 39 = .ok (.getfield 371, 3) := by decide +kernel
theorem fl_M_371 : am_fl "WebFinderModel" 371 12 72 := ⟨"WebFinderModel", tt_M, 90, rfl, by decide, Or.inl (am_t7 183 rfl rfl)⟩
theorem dc_M_askFor_42 : decode prog_14_method_51_code 42 = .ok (.iload_n 2, 1) := by decide +kernel
theorem dc_M_askFor_43 : decode prog_14_method_51_code 43 = .ok (.iaload, 1) := by decide +kernel
theorem dc_M_askFor_44 : decode prog_14_method_51_code 44 = .ok (.goto 7, 3) := by decide +kernel
theorem dc_M_askFor_47 : decode prog_14_method_51_code 47 = .ok (.aload_n 0, 1) := by decide +kernel
theorem dc_M_askFor_48 : decode prog_14_method_51_code 48 = .ok (.getfield 430, 3) := by decide +kernel
theorem fl_M_430 : am_fl "WebFinderModel" 430 12 74 := ⟨"WebFinderModel", tt_M, 90, rfl, by decide, Or.inl (am_t7 185 rfl rfl)⟩
theorem dc_M_askFor_51 : decode prog_14_method_51_code 51 = .ok (.istore_n 3, 1) := by decide +kernel
theorem dc_M_askFor_52 : decode prog_14_method_51_code 52 = .ok (.iload_n 3, 1) := by decide +kernel
theorem dc_M_askFor_53 : decode prog_14_method_51_code 53 = .ok (.ifCond .lt 30, 3) := by decide +kernel
theorem dc_M_askFor_56 : decode prog_14_method_51_code 56 = .ok (.aload_n 0, 1) := by decide +kernel
theorem dc_M_askFor_57 : decode prog_14_method_51_code 57 = .ok (.getfield 433, 3) := by decide +kernel
theorem fl_M_433 : am_fl "WebFinderModel" 433 12 62 := ⟨"WebFinderModel", tt_M, 90, rfl, by decide, Or.inl (am_t7 173 rfl rfl)⟩
theorem dc_M_askFor_60 : decode prog_14_method_51_code 60 = .ok (.iload_n 3, 1) := by decide +kernel
theorem dc_M_askFor_61 : decode prog_14_method_51_code 61 = .ok (.aload_n 0, 1) := by decide +kernel
theorem dc_M_askFor_62 : decode prog_14_method_51_code 62 = .ok (.getfield 350, 3) := by decide +kernel
theorem dc_M_askFor_65 : decode prog_14_method_51_code 65 = .ok (.iconst 2, 1) := by decide +kernel
theorem dc_M_askFor_66 : decode prog_14_method_51_code 66 = .ok (.iaload, 1) := by decide +kernel
theorem dc_M_askFor_67 : decode prog_14_method_51_code 67 = .ok (.iadd, 1) := by decide +kernel
theorem dc_M_askFor_68 : decode prog_14_method_51_code 68 = .ok (.if_icmp .ge 15, 3) := by decide +kernel
theorem dc_M_askFor_71 : decode prog_14_method_51_code 71 = .ok (.aload_n 0, 1) := by decide +kernel
theorem dc_M_askFor_72 : decode prog_14_method_51_code 72 = .ok (.iload_n 3, 1) := by decide +kernel
theorem dc_M_askFor_73 : decode prog_14_method_51_code 73 = .ok (.aload_n 0, 1) := by decide +kernel
theorem dc_M_askFor_74 : decode prog_14_method_51_code 74 = .ok (.getfield 350, 3) := by decide +kernel
theorem dc_M_askFor_77 : decode prog_14_method_51_code 77 = .ok (.iconst 2, 1) := by decide +kernel
theorem dc_M_askFor_78 : decode prog_14_method_51_code 78 = .ok (.iaload, 1) := by decide +kernel
theorem dc_M_askFor_79 : decode prog_14_method_51_code 79 = .ok (.iadd, 1) := by decide +kernel
theorem dc_M_askFor_80 : decode prog_14_method_51_code 80 = .ok (.putfield 433, 3) := by decide +kernel
theorem fp_M_askFor_433 : am_fp mt_M_askFor.1 433 12 62 (.int) := ⟨"WebFinderModel", tt_M, 90, rfl, by decide, ct_M 62 (by decide), Or.inl ⟨(am_t7 173 rfl rfl), Or.inl rfl⟩⟩
theorem dc_M_askFor_83 : decode prog_14_method_51_code 83 = .ok (.aload_n 0, 1) := by decide +kernel
theorem dc_M_askFor_84 : decode prog_14_method_51_code 84 = .ok (.getfield 368, 3) := by decide +kernel
theorem dc_M_askFor_87 : decode prog_14_method_51_code 87 = .ok (.iload_n 2, 1) := by decide +kernel
theorem dc_M_askFor_88 : decode prog_14_method_51_code 88 = .ok (.iload_n 1, 1) := by decide +kernel
theorem dc_M_askFor_89 : decode prog_14_method_51_code 89 = .ok (.iastore, 1) := by decide +kernel
theorem dc_M_askFor_90 : decode prog_14_method_51_code 90 = .ok (.aload_n 0, 1) := by decide +kernel
theorem dc_M_askFor_91 : decode prog_14_method_51_code 91 = .ok (.getfield 371, 3) := by decide +kernel
theorem dc_M_askFor_94 : decode prog_14_method_51_code 94 = .ok (.iload_n 2, 1) := by decide +kernel
theorem dc_M_askFor_95 : decode prog_14_method_51_code 95 = .ok (.aload_n 0, 1) := by decide +kernel
theorem dc_M_askFor_96 : decode prog_14_method_51_code 96 = .ok (.getfield 433, 3) := by decide +kernel
theorem dc_M_askFor_99 : decode prog_14_method_51_code 99 = .ok (.iastore, 1) := by decide +kernel
theorem dc_M_askFor_100 : decode prog_14_method_51_code 100 = .ok (.aload_n 0, 1) := by decide +kernel
theorem dc_M_askFor_101 : decode prog_14_method_51_code 101 = .ok (.iload_n 2, 1) := by decide +kernel
theorem dc_M_askFor_102 : decode prog_14_method_51_code 102 = .ok (.aload_n 0, 1) := by decide +kernel
theorem dc_M_askFor_103 : decode prog_14_method_51_code 103 = .ok (.getfield 427, 3) := by decide +kernel
theorem dc_M_askFor_106 : decode prog_14_method_51_code 106 = .ok (.if_icmp .ne 12, 3) := by decide +kernel
theorem dc_M_askFor_109 : decode prog_14_method_51_code 109 = .ok (.aload_n 0, 1) := by decide +kernel
theorem dc_M_askFor_110 : decode prog_14_method_51_code 110 = .ok (.getfield 427, 3) := by decide +kernel
theorem dc_M_askFor_113 : decode prog_14_method_51_code 113 = .ok (.iconst 1, 1) := by decide +kernel
theorem dc_M_askFor_114 : decode prog_14_method_51_code 114 = .ok (.iadd, 1) := by decide +kernel
theorem dc_M_askFor_115 : decode prog_14_method_51_code 115 = .ok (.goto 7, 3) := by decide +kernel
theorem dc_M_askFor_118 : decode prog_14_method_51_code 118 = .ok (.aload_n 0, 1) := by decide +kernel
theorem dc_M_askFor_119 : decode prog_14_method_51_code 119 = .ok (.getfield 427, 3) := by decide +kernel
theorem dc_M_askFor_122 : decode prog_14_method_51_code 122 = .ok (.putfield 427, 3) := by decide +kernel
theorem fp_M_askFor_427 : am_fp mt_M_askFor.1 427 12 73 (.int) := ⟨"WebFinderModel", tt_M, 90, rfl, by decide, ct_M 73 (by decide), Or.inl ⟨(am_t7 184 rfl rfl), Or.inl rfl⟩⟩
theorem dc_M_askFor_125 : decode prog_14_method_51_code 125 = .ok (.aload_n 0, 1) := by decide +kernel
theorem dc_M_askFor_126 : decode prog_14_method_51_code 126 = .ok (.getfield 436, 3) := by decide +kernel
theorem fl_M_436 : am_fl "WebFinderModel" 436 12 68 := ⟨"WebFinderModel", tt_M, 90, rfl, by decide, Or.inl (am_t7 179 rfl rfl)⟩
theorem dc_M_askFor_129 : decode prog_14_method_51_code 129 = .ok (.sipush 1000, 3) := by decide +kernel
theorem dc_M_askFor_132 : decode prog_14_method_51_code 132 = .ok (.if_icmp .ge 26, 3) := by decide +kernel
theorem dc_M_askFor_135 : decode prog_14_method_51_code 135 = .ok (.aload_n 0, 1) := by decide +kernel
theorem dc_M_askFor_136 : decode prog_14_method_51_code 136 = .ok (.getfield 362, 3) := by decide +kernel
theorem fl_M_362 : am_fl "WebFinderModel" 362 12 69 := ⟨"WebFinderModel", tt_M, 90, rfl, by decide, Or.inl (am_t7 180 rfl rfl)⟩
theorem dc_M_askFor_139 : decode prog_14_method_51_code 139 = .ok (.aload_n 0, 1) := by decide +kernel
theorem dc_M_askFor_140 : decode prog_14_method_51_code 140 = .ok (.getfield 436, 3) := by decide +kernel
theorem dc_M_askFor_143 : decode prog_14_method_51_code 143 = .ok (.aload_n 0, 1) := by decide +kernel
theorem dc_M_askFor_144 : decode prog_14_method_51_code 144 = .ok (.getfield 433, 3) := by decide +kernel
theorem dc_M_askFor_147 : decode prog_14_method_51_code 147 = .ok (.iastore, 1) := by decide +kernel
theorem dc_M_askFor_148 : decode prog_14_method_51_code 148 = .ok (.aload_n 0, 1) := by decide +kernel
theorem dc_M_askFor_149 : decode prog_14_method_51_code 149 = .ok (.getfield 365, 3) := by decide +kernel
theorem fl_M_365 : am_fl "WebFinderModel" 365 12 70 := ⟨"WebFinderModel", tt_M, 90, rfl, by decide, Or.inl (am_t7 181 rfl rfl)⟩
theorem dc_M_askFor_152 : decode prog_14_method_51_code 152 = .ok (.aload_n 0, 1) := by decide +kernel
theorem dc_M_askFor_153 : decode prog_14_method_51_code 153 = .ok (.getfield 436, 3) := by decide +kernel
theorem dc_M_askFor_156 : decode prog_14_method_51_code 156 = .ok (.iload_n 1, 1) := by decide +kernel
theorem dc_M_askFor_157 : decode prog_14_method_51_code 157 = .ok (.iastore, 1) := by decide +kernel
theorem dc_M_askFor_158 : decode prog_14_method_51_code 158 = .ok (.aload_n 0, 1) := by decide +kernel
theorem dc_M_askFor_159 : decode prog_14_method_51_code 159 = .ok (.dup, 1) := by decide +kernel
theorem dc_M_askFor_160 : decode prog_14_method_51_code 160 = .ok (.getfield 436, 3) := by decide +kernel
theorem dc_M_askFor_163 : decode prog_14_method_51_code 163 = .ok (.iconst 1, 1) := by decide +kernel
theorem dc_M_askFor_164 : decode prog_14_method_51_code 164 = .ok (.iadd, 1) := by decide +kernel
theorem dc_M_askFor_165 : decode prog_14_method_51_code 165 = .ok (.putfield 436, 3) := by decide +kernel
theorem fp_M_askFor_436 : am_fp mt_M_askFor.1 436 12 68 (.int) := ⟨"WebFinderModel", tt_M, 90, rfl, by decide, ct_M 68 (by decide), Or.inl ⟨(am_t7 179 rfl rfl), Or.inl rfl⟩⟩
theorem dc_M_askFor_168 : decode prog_14_method_51_code 168 = .ok (.aload_n 0, 1) := by decide +kernel
theorem dc_M_askFor_169 : decode prog_14_method_51_code 169 = .ok (.dup, 1) := by decide +kernel
theorem dc_M_askFor_170 : decode prog_14_method_51_code 170 = .ok (.getfield 424, 3) := by decide +kernel
theorem dc_M_askFor_173 : decode prog_14_method_51_code 173 = .ok (.iconst 1, 1) := by decide +kernel
theorem dc_M_askFor_174 : decode prog_14_method_51_code 174 = .ok (.iadd, 1) := by decide +kernel
theorem dc_M_askFor_175 : decode prog_14_method_51_code 175 = .ok (.putfield 424, 3) := by decide +kernel
theorem fp_M_askFor_424 : am_fp mt_M_askFor.1 424 12 67 (.int) := ⟨"WebFinderModel", tt_M, 90, rfl, by decide, ct_M 67 (by decide), Or.inl ⟨(am_t7 178 rfl rfl), Or.inl rfl⟩⟩
theorem dc_M_askFor_178 : decode prog_14_method_51_code 178 = .ok (.aload_n 0, 1) := by decide +kernel
theorem dc_M_askFor_179 : decode prog_14_method_51_code 179 = .ok (.dup, 1) := by decide +kernel
theorem dc_M_askFor_180 : decode prog_14_method_51_code 180 = .ok (.getfield 433, 3) := by decide +kernel
theorem dc_M_askFor_183 : decode prog_14_method_51_code 183 = .ok (.iconst 1, 1) := by decide +kernel
theorem dc_M_askFor_184 : decode prog_14_method_51_code 184 = .ok (.iadd, 1) := by decide +kernel
theorem dc_M_askFor_185 : decode prog_14_method_51_code 185 = .ok (.putfield 433, 3) := by decide +kernel
theorem dc_M_askFor_188 : decode prog_14_method_51_code 188 = .ok (.return_, 1) := by decide +kernel
theorem dc_M_run_0 : decode prog_14_method_85_code 0 = .ok (.aload_n 0, 1) := by decide +kernel
theorem dc_M_run_1 : decode prog_14_method_85_code 1 = .ok (.iconst 0, 1) := by decide +kernel
theorem dc_M_run_2 : decode prog_14_method_85_code 2 = .ok (.putfield 1, 3) := by decide +kernel
theorem fp_M_run_1 : am_fp mt_M_run.1 1 12 2 (.int) := ⟨"WebFinderModel", tt_M, 90, rfl, by decide, ct_M 2 (by decide), Or.inl ⟨(am_t7 113 rfl rfl), Or.inl rfl⟩⟩
theorem dc_M_run_5 : decode prog_14_method_85_code 5 = .ok (.aload_n 0, 1) := by decide +kernel
theorem dc_M_run_6 : decode prog_14_method_85_code 6 = .ok (.getfield 520, 3) := by decide +kernel
theorem dc_M_run_9 : decode prog_14_method_85_code 9 = .ok (.ifCond .eq 7, 3) := by decide +kernel
theorem dc_M_run_12 : decode prog_14_method_85_code 12 = .ok (.iload_n 1, 1) := by decide +kernel
theorem dc_M_run_13 : decode prog_14_method_85_code 13 = .ok (.ifCond .ge 5, 3) := by decide +kernel
theorem dc_M_run_16 : decode prog_14_method_85_code 16 = .ok (.iconst (-1), 1) := by decide +kernel
theorem dc_M_run_17 : decode prog_14_method_85_code 17 = .ok (.ireturn, 1) := by decide +kernel
theorem dc_M_run_18 : decode prog_14_method_85_code 18 = .ok (.iconst 0, 1) := by decide +kernel
theorem dc_M_run_19 : decode prog_14_method_85_code 19 = .ok (.istore_n 2, 1) := by decide +kernel
theorem dc_M_run_20 : decode prog_14_method_85_code 20 = .ok (.iload_n 2, 1) := by decide +kernel
theorem dc_M_run_21 : decode prog_14_method_85_code 21 = .ok (.iload_n 1, 1) := by decide +kernel
theorem dc_M_run_22 : decode prog_14_method_85_code 22 = .ok (.if_icmp .ge 16, 3) := by decide +kernel
theorem dc_M_run_25 : decode prog_14_method_85_code 25 = .ok (.aload_n 0, 1) := by decide +kernel
theorem dc_M_run_26 : decode prog_14_method_85_code 26 = .ok (.invokevirtual 529, 3) := by decide +kernel
theorem ln_M_529 : am_ln "WebFinderModel" 529 mt_M_step.1 := Or.inl (am_t9 186 rfl rfl)
theorem dc_M_run_29 : decode prog_14_method_85_code 29 = .ok (.ifCond .lt 9, 3) := by decide +kernel
theorem dc_M_run_32 : decode prog_14_method_85_code 32 = .ok (.iinc 2 1, 3) := by decide +kernel
theorem dc_M_run_35 : decode prog_14_method_85_code 35 = .ok (.goto (-15), 3) := by decide +kernel
theorem dc_M_run_38 : decode prog_14_method_85_code 38 = .ok (.iload_n 2, 1) := by decide +kernel
theorem dc_M_run_39 : decode prog_14_method_85_code 39 = .ok (.ireturn, 1) := by decide +kernel
theorem dc_M_crash_0 : decode prog_14_method_86_code 0 = .ok (.aload_n 0, 1) := by decide +kernel
theorem dc_M_crash_1 : decode prog_14_method_86_code 1 = .ok (.iconst 0, 1) := by decide +kernel
theorem dc_M_crash_2 : decode prog_14_method_86_code 2 = .ok (.putfield 1, 3) := by decide +kernel
theorem fp_M_crash_1 : am_fp mt_M_crash.1 1 12 2 (.int) := ⟨"WebFinderModel", tt_M, 90, rfl, by decide, ct_M 2 (by decide), Or.inl ⟨(am_t7 113 rfl rfl), Or.inl rfl⟩⟩
theorem dc_M_crash_5 : decode prog_14_method_86_code 5 = .ok (.aload_n 0, 1) := by decide +kernel
theorem dc_M_crash_6 : decode prog_14_method_86_code 6 = .ok (.getfield 520, 3) := by decide +kernel
theorem dc_M_crash_9 : decode prog_14_method_86_code 9 = .ok (.ifCond .eq 60, 3) := by decide +kernel
theorem dc_M_crash_12 : decode prog_14_method_86_code 12 = .ok (.iconst 0, 1) := by decide +kernel
theorem dc_M_crash_13 : decode prog_14_method_86_code 13 = .ok (.istore_n 1, 1) := by decide +kernel
theorem dc_M_crash_14 : decode prog_14_method_86_code 14 = .ok (.iload_n 1, 1) := by decide +kernel
theorem dc_M_crash_15 : decode prog_14_method_86_code 15 = .ok (.bipush 6, 2) := by decide +kernel
theorem dc_M_crash_17 : decode prog_14_method_86_code 17 = .ok (.aload_n 0, 1) := by decide +kernel
theorem dc_M_crash_18 : decode prog_14_method_86_code 18 = .ok (.getfield 421, 3) := by decide +kernel
theorem fl_M_421 : am_fl "WebFinderModel" 421 12 66 := ⟨"WebFinderModel", tt_M, 90, rfl, by decide, Or.inl (am_t7 177 rfl rfl)⟩
theorem dc_M_crash_21 : decode prog_14_method_86_code 21 = .ok (.imul, 1) := by decide +kernel
theorem dc_M_crash_22 : decode prog_14_method_86_code 22 = .ok (.if_icmp .ge 21, 3) := by decide +kernel
theorem dc_M_crash_25 : decode prog_14_method_86_code 25 = .ok (.aload_n 0, 1) := by decide +kernel
theorem dc_M_crash_26 : decode prog_14_method_86_code 26 = .ok (.getfield 356, 3) := by decide +kernel
theorem dc_M_crash_29 : decode prog_14_method_86_code 29 = .ok (.iload_n 1, 1) := by decide +kernel
theorem dc_M_crash_30 : decode prog_14_method_86_code 30 = .ok (.aload_n 0, 1) := by decide +kernel
theorem dc_M_crash_31 : decode prog_14_method_86_code 31 = .ok (.getfield 359, 3) := by decide +kernel
theorem dc_M_crash_34 : decode prog_14_method_86_code 34 = .ok (.iload_n 1, 1) := by decide +kernel
theorem dc_M_crash_35 : decode prog_14_method_86_code 35 = .ok (.iaload, 1) := by decide +kernel
theorem dc_M_crash_36 : decode prog_14_method_86_code 36 = .ok (.iastore, 1) := by decide +kernel
theorem dc_M_crash_37 : decode prog_14_method_86_code 37 = .ok (.iinc 1 1, 3) := by decide +kernel
theorem dc_M_crash_40 : decode prog_14_method_86_code 40 = .ok (.goto (-26), 3) := by decide +kernel
theorem dc_M_crash_43 : decode prog_14_method_86_code 43 = .ok (.aload_n 0, 1) := by decide +kernel
theorem dc_M_crash_44 : decode prog_14_method_86_code 44 = .ok (.aload_n 0, 1) := by decide +kernel
theorem dc_M_crash_45 : decode prog_14_method_86_code 45 = .ok (.getfield 421, 3) := by decide +kernel
theorem dc_M_crash_48 : decode prog_14_method_86_code 48 = .ok (.putfield 412, 3) := by decide +kernel
theorem fp_M_crash_412 : am_fp mt_M_crash.1 412 12 64 (.int) := ⟨"WebFinderModel", tt_M, 90, rfl, by decide, ct_M 64 (by decide), Or.inl ⟨(am_t7 175 rfl rfl), Or.inl rfl⟩⟩
theorem dc_M_crash_51 : decode prog_14_method_86_code 51 = .ok (.aload_n 0, 1) := by decide +kernel
theorem dc_M_crash_52 : decode prog_14_method_86_code 52 = .ok (.iconst 0, 1) := by decide +kernel
theorem dc_M_crash_53 : decode prog_14_method_86_code 53 = .ok (.putfield 424, 3) := by decide +kernel
theorem fp_M_crash_424 : am_fp mt_M_crash.1 424 12 67 (.int) := ⟨"WebFinderModel", tt_M, 90, rfl, by decide, ct_M 67 (by decide), Or.inl ⟨(am_t7 178 rfl rfl), Or.inl rfl⟩⟩
theorem dc_M_crash_56 : decode prog_14_method_86_code 56 = .ok (.aload_n 0, 1) := by decide +kernel
theorem dc_M_crash_57 : decode prog_14_method_86_code 57 = .ok (.iconst 0, 1) := by decide +kernel
theorem dc_M_crash_58 : decode prog_14_method_86_code 58 = .ok (.putfield 427, 3) := by decide +kernel
theorem fp_M_crash_427 : am_fp mt_M_crash.1 427 12 73 (.int) := ⟨"WebFinderModel", tt_M, 90, rfl, by decide, ct_M 73 (by decide), Or.inl ⟨(am_t7 184 rfl rfl), Or.inl rfl⟩⟩
theorem dc_M_crash_61 : decode prog_14_method_86_code 61 = .ok (.aload_n 0, 1) := by decide +kernel
theorem dc_M_crash_62 : decode prog_14_method_86_code 62 = .ok (.aload_n 0, 1) := by decide +kernel
theorem dc_M_crash_63 : decode prog_14_method_86_code 63 = .ok (.getfield 433, 3) := by decide +kernel
theorem dc_M_crash_66 : decode prog_14_method_86_code 66 = .ok (.putfield 430, 3) := by decide +kernel
theorem fp_M_crash_430 : am_fp mt_M_crash.1 430 12 74 (.int) := ⟨"WebFinderModel", tt_M, 90, rfl, by decide, ct_M 74 (by decide), Or.inl ⟨(am_t7 185 rfl rfl), Or.inl rfl⟩⟩
theorem dc_M_crash_69 : decode prog_14_method_86_code 69 = .ok (.aload_n 0, 1) := by decide +kernel
theorem dc_M_crash_70 : decode prog_14_method_86_code 70 = .ok (.getfield 520, 3) := by decide +kernel
theorem dc_M_crash_73 : decode prog_14_method_86_code 73 = .ok (.ireturn, 1) := by decide +kernel
theorem dc_M_clock_0 : decode prog_14_method_87_code 0 = .ok (.aload_n 0, 1) := by decide +kernel
theorem dc_M_clock_1 : decode prog_14_method_87_code 1 = .ok (.iconst 0, 1) := by decide +kernel
theorem dc_M_clock_2 : decode prog_14_method_87_code 2 = .ok (.putfield 1, 3) := by decide +kernel
theorem fp_M_clock_1 : am_fp mt_M_clock.1 1 12 2 (.int) := ⟨"WebFinderModel", tt_M, 90, rfl, by decide, ct_M 2 (by decide), Or.inl ⟨(am_t7 113 rfl rfl), Or.inl rfl⟩⟩
theorem dc_M_clock_5 : decode prog_14_method_87_code 5 = .ok (.aload_n 0, 1) := by decide +kernel
theorem dc_M_clock_6 : decode prog_14_method_87_code 6 = .ok (.getfield 520, 3) := by decide +kernel
theorem dc_M_clock_9 : decode prog_14_method_87_code 9 = .ok (.ifCond .eq 10, 3) := by decide +kernel
theorem dc_M_clock_12 : decode prog_14_method_87_code 12 = .ok (.aload_n 0, 1) := by decide +kernel
theorem dc_M_clock_13 : decode prog_14_method_87_code 13 = .ok (.getfield 433, 3) := by decide +kernel
theorem dc_M_clock_16 : decode prog_14_method_87_code 16 = .ok (.goto 4, 3) := by decide +kernel
theorem dc_M_clock_19 : decode prog_14_method_87_code 19 = .ok (.iconst (-1), 1) := by decide +kernel
theorem dc_M_clock_20 : decode prog_14_method_87_code 20 = .ok (.ireturn, 1) := by decide +kernel
theorem dc_M_count_0 : decode prog_14_method_88_code 0 = .ok (.aload_n 0, 1) := by decide +kernel
theorem dc_M_count_1 : decode prog_14_method_88_code 1 = .ok (.iconst 0, 1) := by decide +kernel
theorem dc_M_count_2 : decode prog_14_method_88_code 2 = .ok (.putfield 1, 3) := by decide +kernel
theorem fp_M_count_1 : am_fp mt_M_count.1 1 12 2 (.int) := ⟨"WebFinderModel", tt_M, 90, rfl, by decide, ct_M 2 (by decide), Or.inl ⟨(am_t7 113 rfl rfl), Or.inl rfl⟩⟩
theorem dc_M_count_5 : decode prog_14_method_88_code 5 = .ok (.iload_n 1, 1) := by decide +kernel
theorem dc_M_count_6 : decode prog_14_method_88_code 6 = .ok (.ifCond .eq 8, 3) := by decide +kernel
theorem dc_M_count_9 : decode prog_14_method_88_code 9 = .ok (.iload_n 1, 1) := by decide +kernel
theorem dc_M_count_10 : decode prog_14_method_88_code 10 = .ok (.iconst 1, 1) := by decide +kernel
theorem dc_M_count_11 : decode prog_14_method_88_code 11 = .ok (.if_icmp .ne 19, 3) := by decide +kernel
theorem dc_M_count_14 : decode prog_14_method_88_code 14 = .ok (.iload_n 1, 1) := by decide +kernel
theorem dc_M_count_15 : decode prog_14_method_88_code 15 = .ok (.ifCond .ne 10, 3) := by decide +kernel
theorem dc_M_count_18 : decode prog_14_method_88_code 18 = .ok (.aload_n 0, 1) := by decide +kernel
theorem dc_M_count_19 : decode prog_14_method_88_code 19 = .ok (.getfield 312, 3) := by decide +kernel
theorem dc_M_count_22 : decode prog_14_method_88_code 22 = .ok (.goto 7, 3) := by decide +kernel
theorem dc_M_count_25 : decode prog_14_method_88_code 25 = .ok (.aload_n 0, 1) := by decide +kernel
theorem dc_M_count_26 : decode prog_14_method_88_code 26 = .ok (.getfield 517, 3) := by decide +kernel
theorem dc_M_count_29 : decode prog_14_method_88_code 29 = .ok (.ireturn, 1) := by decide +kernel
theorem dc_M_count_30 : decode prog_14_method_88_code 30 = .ok (.iload_n 1, 1) := by decide +kernel
theorem dc_M_count_31 : decode prog_14_method_88_code 31 = .ok (.ifCond .lt 8, 3) := by decide +kernel
theorem dc_M_count_34 : decode prog_14_method_88_code 34 = .ok (.iload_n 1, 1) := by decide +kernel
theorem dc_M_count_35 : decode prog_14_method_88_code 35 = .ok (.iconst 4, 1) := by decide +kernel
theorem dc_M_count_36 : decode prog_14_method_88_code 36 = .ok (.if_icmp .le 5, 3) := by decide +kernel
theorem dc_M_count_39 : decode prog_14_method_88_code 39 = .ok (.iconst (-1), 1) := by decide +kernel
theorem dc_M_count_40 : decode prog_14_method_88_code 40 = .ok (.ireturn, 1) := by decide +kernel
theorem dc_M_count_41 : decode prog_14_method_88_code 41 = .ok (.iconst 0, 1) := by decide +kernel
theorem dc_M_count_42 : decode prog_14_method_88_code 42 = .ok (.istore_n 2, 1) := by decide +kernel
theorem dc_M_count_43 : decode prog_14_method_88_code 43 = .ok (.iconst 0, 1) := by decide +kernel
theorem dc_M_count_44 : decode prog_14_method_88_code 44 = .ok (.istore_n 3, 1) := by decide +kernel
theorem dc_M_count_45 : decode prog_14_method_88_code 45 = .ok (.iload_n 3, 1) := by decide +kernel
theorem dc_M_count_46 : decode prog_14_method_88_code 46 = .ok (.aload_n 0, 1) := by decide +kernel
theorem dc_M_count_47 : decode prog_14_method_88_code 47 = .ok (.getfield 412, 3) := by decide +kernel
theorem dc_M_count_50 : decode prog_14_method_88_code 50 = .ok (.if_icmp .ge 27, 3) := by decide +kernel
theorem dc_M_count_53 : decode prog_14_method_88_code 53 = .ok (.aload_n 0, 1) := by decide +kernel
theorem dc_M_count_54 : decode prog_14_method_88_code 54 = .ok (.iload_n 3, 1) := by decide +kernel
theorem dc_M_count_55 : decode prog_14_method_88_code 55 = .ok (.iconst 1, 1) := by decide +kernel
theorem dc_M_count_56 : decode prog_14_method_88_code 56 = .ok (.invokevirtual 415, 3) := by decide +kernel
theorem dc_M_count_59 : decode prog_14_method_88_code 59 = .ok (.iconst 1, 1) := by decide +kernel
theorem dc_M_count_60 : decode prog_14_method_88_code 60 = .ok (.if_icmp .ne 9, 3) := by decide +kernel
theorem dc_M_count_63 : decode prog_14_method_88_code 63 = .ok (.iload_n 2, 1) := by decide +kernel
theorem dc_M_count_64 : decode prog_14_method_88_code 64 = .ok (.iconst 1, 1) := by decide +kernel
theorem dc_M_count_65 : decode prog_14_method_88_code 65 = .ok (.iadd, 1) := by decide +kernel
theorem dc_M_count_66 : decode prog_14_method_88_code 66 = .ok (.goto 4, 3) := by decide +kernel
theorem dc_M_count_69 : decode prog_14_method_88_code 69 = .ok (.iload_n 2, 1) := by decide +kernel
theorem dc_M_count_70 : decode prog_14_method_88_code 70 = .ok (.istore_n 2, 1) := by decide +kernel
theorem dc_M_count_71 : decode prog_14_method_88_code 71 = .ok (.iinc 3 1, 3) := by decide +kernel
theorem dc_M_count_74 : decode prog_14_method_88_code 74 = .ok (.goto (-29), 3) := by decide +kernel
theorem dc_M_count_77 : decode prog_14_method_88_code 77 = .ok (.iload_n 1, 1) := by decide +kernel
theorem dc_M_count_78 : decode prog_14_method_88_code 78 = .ok (.iconst 2, 1) := by decide +kernel
theorem dc_M_count_79 : decode prog_14_method_88_code 79 = .ok (.if_icmp .ne 10, 3) := by decide +kernel
theorem dc_M_count_82 : decode prog_14_method_88_code 82 = .ok (.aload_n 0, 1) := by decide +kernel
theorem dc_M_count_83 : decode prog_14_method_88_code 83 = .ok (.getfield 412, 3) := by decide +kernel
theorem dc_M_count_86 : decode prog_14_method_88_code 86 = .ok (.goto 16, 3) := by decide +kernel
theorem dc_M_count_89 : decode prog_14_method_88_code 89 = .ok (.iload_n 1, 1) := by decide +kernel
theorem dc_M_count_90 : decode prog_14_method_88_code 90 = .ok (.iconst 3, 1) := by decide +kernel
theorem dc_M_count_91 : decode prog_14_method_88_code 91 = .ok (.if_icmp .ne 7, 3) := by decide +kernel
theorem dc_M_count_94 : decode prog_14_method_88_code 94 = .ok (.iload_n 2, 1) := by decide +kernel
theorem dc_M_count_95 : decode prog_14_method_88_code 95 = .ok (.goto 7, 3) := by decide +kernel
theorem dc_M_count_98 : decode prog_14_method_88_code 98 = .ok (.aload_n 0, 1) := by decide +kernel
theorem dc_M_count_99 : decode prog_14_method_88_code 99 = .ok (.getfield 436, 3) := by decide +kernel
theorem dc_M_count_102 : decode prog_14_method_88_code 102 = .ok (.ireturn, 1) := by decide +kernel
