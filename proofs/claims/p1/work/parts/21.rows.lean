theorem dc_JString_indexOf_0_0 : decode prog_24_method_79_code 0 = .ok (.aload_n 0, 1) := by decide +kernel
theorem dc_JString_indexOf_0_1 : decode prog_24_method_79_code 1 = .ok (.iload_n 1, 1) := by decide +kernel
theorem dc_JString_indexOf_0_2 : decode prog_24_method_79_code 2 = .ok (.iconst 0, 1) := by decide +kernel
theorem dc_JString_indexOf_0_3 : decode prog_24_method_79_code 3 = .ok (.invokevirtual 633, 3) := by decide +kernel
theorem mo_JString_indexOf_1 : am_mo mt_JString_indexOf_1 2 := ⟨⟨by decide +kernel, by decide +kernel⟩, by decide +kernel, ⟨by decide +kernel, by decide +kernel⟩, (am_t2 225 rfl rfl), (am_t1 20 rfl rfl), by decide +kernel⟩
theorem im_JString_indexOf_1 : Cond.instanceMethod mt_JString_indexOf_1.1 ∈ am_gw := (am_t2 223 rfl rfl)
theorem se_JString_indexOf_1 : Cond.selects mt_JString_indexOf_1.1.cls mt_JString_indexOf_1.1 mt_JString_indexOf_1.1 ∈ am_gw := (am_t2 224 rfl rfl)
theorem ln_J_633 : am_ln "java/lang/String" 633 mt_JString_indexOf_1.1 := Or.inl (am_t2 222 rfl rfl)
theorem dc_JString_indexOf_0_6 : decode prog_24_method_79_code 6 = .ok (.ireturn, 1) := by decide +kernel
theorem dc_JString_indexOf_1_0 : decode prog_24_method_80_code 0 = .ok (.aload_n 0, 1) := by decide +kernel
theorem dc_JString_indexOf_1_1 : decode prog_24_method_80_code 1 = .ok (.invokevirtual 492, 3) := by decide +kernel
theorem mo_JString_isLatin1 : am_mo mt_JString_isLatin1 0 := ⟨⟨by decide +kernel, by decide +kernel⟩, by decide +kernel, ⟨by decide +kernel, by decide +kernel⟩, (am_t2 229 rfl rfl), (am_t1 20 rfl rfl), by decide +kernel⟩
theorem im_JString_isLatin1 : Cond.instanceMethod mt_JString_isLatin1.1 ∈ am_gw := (am_t2 227 rfl rfl)
theorem se_JString_isLatin1 : Cond.selects mt_JString_isLatin1.1.cls mt_JString_isLatin1.1 mt_JString_isLatin1.1 ∈ am_gw := (am_t2 228 rfl rfl)
theorem ln_J_492 : am_ln "java/lang/String" 492 mt_JString_isLatin1.1 := Or.inl (am_t2 226 rfl rfl)
theorem dc_JString_indexOf_1_4 : decode prog_24_method_80_code 4 = .ok (.ifCond .eq 19, 3) := by decide +kernel
theorem dc_JString_indexOf_1_7 : decode prog_24_method_80_code 7 = .ok (.aload_n 0, 1) := by decide +kernel
theorem dc_JString_indexOf_1_8 : decode prog_24_method_80_code 8 = .ok (.getfield 9, 3) := by decide +kernel
theorem dc_JString_indexOf_1_11 : decode prog_24_method_80_code 11 = .ok (.iload_n 1, 1) := by decide +kernel
theorem dc_JString_indexOf_1_12 : decode prog_24_method_80_code 12 = .ok (.iload_n 2, 1) := by decide +kernel
theorem dc_JString_indexOf_1_13 : decode prog_24_method_80_code 13 = .ok (.aload_n 0, 1) := by decide +kernel
theorem dc_JString_indexOf_1_14 : decode prog_24_method_80_code 14 = .ok (.invokevirtual 505, 3) := by decide +kernel
theorem mo_JString_length : am_mo mt_JString_length 0 := ⟨⟨by decide +kernel, by decide +kernel⟩, by decide +kernel, ⟨by decide +kernel, by decide +kernel⟩, (am_t2 235 rfl rfl), (am_t1 20 rfl rfl), by decide +kernel⟩
theorem im_JString_length : Cond.instanceMethod mt_JString_length.1 ∈ am_gw := (am_t2 233 rfl rfl)
theorem se_JString_length : Cond.selects mt_JString_length.1.cls mt_JString_length.1 mt_JString_length.1 ∈ am_gw := (am_t2 234 rfl rfl)
theorem ln_J_505 : am_ln "java/lang/String" 505 mt_JString_length.1 := Or.inl (am_t2 232 rfl rfl)
theorem dc_JString_indexOf_1_17 : decode prog_24_method_80_code 17 = .ok (.invokestatic 637, 3) := by decide +kernel
theorem mo_JStringLatin1_indexOf : am_mo mt_JStringLatin1_indexOf 4 := ⟨⟨by decide +kernel, by decide +kernel⟩, by decide +kernel, ⟨by decide +kernel, by decide +kernel⟩, (am_t3 2 rfl rfl), (am_t1 21 rfl rfl), by decide +kernel⟩
theorem st_JStringLatin1_indexOf : Cond.static mt_JStringLatin1_indexOf.1 ∈ am_gw := (am_t3 1 rfl rfl)
theorem ln_J_637 : am_ln "java/lang/String" 637 mt_JStringLatin1_indexOf.1 := Or.inl (am_t3 0 rfl rfl)
theorem dc_JString_indexOf_1_20 : decode prog_24_method_80_code 20 = .ok (.goto 16, 3) := by decide +kernel
theorem dc_JString_indexOf_1_23 : decode prog_24_method_80_code 23 = .ok (.aload_n 0, 1) := by decide +kernel
theorem dc_JString_indexOf_1_24 : decode prog_24_method_80_code 24 = .ok (.getfield 9, 3) := by decide +kernel
theorem dc_JString_indexOf_1_27 : decode prog_24_method_80_code 27 = .ok (.iload_n 1, 1) := by decide +kernel
theorem dc_JString_indexOf_1_28 : decode prog_24_method_80_code 28 = .ok (.iload_n 2, 1) := by decide +kernel
theorem dc_JString_indexOf_1_29 : decode prog_24_method_80_code 29 = .ok (.aload_n 0, 1) := by decide +kernel
theorem dc_JString_indexOf_1_30 : decode prog_24_method_80_code 30 = .ok (.invokevirtual 505, 3) := by decide +kernel
theorem dc_JString_indexOf_1_33 : decode prog_24_method_80_code 33 = .ok (.invokestatic 640, 3) := by decide +kernel
theorem mo_JStringUTF16_indexOf : am_mo mt_JStringUTF16_indexOf 4 := ⟨⟨by decide +kernel, by decide +kernel⟩, by decide +kernel, ⟨by decide +kernel, by decide +kernel⟩, (am_t3 17 rfl rfl), (am_t1 22 rfl rfl), by decide +kernel⟩
theorem st_JStringUTF16_indexOf : Cond.static mt_JStringUTF16_indexOf.1 ∈ am_gw := (am_t3 16 rfl rfl)
theorem ln_J_640 : am_ln "java/lang/String" 640 mt_JStringUTF16_indexOf.1 := Or.inl (am_t3 15 rfl rfl)
theorem dc_JString_indexOf_1_36 : decode prog_24_method_80_code 36 = .ok (.ireturn, 1) := by decide +kernel
theorem dc_JString_isLatin1_0 : decode prog_24_method_154_code 0 = .ok (.getstatic 38, 3) := by decide +kernel
theorem dc_JString_isLatin1_3 : decode prog_24_method_154_code 3 = .ok (.ifCond .eq 14, 3) := by decide +kernel
theorem dc_JString_isLatin1_6 : decode prog_24_method_154_code 6 = .ok (.aload_n 0, 1) := by decide +kernel
theorem dc_JString_isLatin1_7 : decode prog_24_method_154_code 7 = .ok (.getfield 15, 3) := by decide +kernel
theorem dc_JString_isLatin1_10 : decode prog_24_method_154_code 10 = .ok (.ifCond .ne 7, 3) := by decide +kernel
theorem dc_JString_isLatin1_13 : decode prog_24_method_154_code 13 = .ok (.iconst 1, 1) := by decide +kernel
theorem dc_JString_isLatin1_14 : decode prog_24_method_154_code 14 = .ok (.goto 4, 3) := by decide +kernel
theorem dc_JString_isLatin1_17 : decode prog_24_method_154_code 17 = .ok (.iconst 0, 1) := by decide +kernel
theorem dc_JString_isLatin1_18 : decode prog_24_method_154_code 18 = .ok (.ireturn, 1) := by decide +kernel
theorem dc_JString_length_0 : decode prog_24_method_54_code 0 = .ok (.aload_n 0, 1) := by decide +kernel
theorem dc_JString_length_1 : decode prog_24_method_54_code 1 = .ok (.getfield 9, 3) := by decide +kernel
theorem dc_JString_length_4 : decode prog_24_method_54_code 4 = .ok (.arraylength, 1) := by decide +kernel
theorem dc_JString_length_5 : decode prog_24_method_54_code 5 = .ok (.aload_n 0, 1) := by decide +kernel
theorem dc_JString_length_6 : decode prog_24_method_54_code 6 = .ok (.invokevirtual 335, 3) := by decide +kernel
theorem mo_JString_coder : am_mo mt_JString_coder 0 := ⟨⟨by decide +kernel, by decide +kernel⟩, by decide +kernel, ⟨by decide +kernel, by decide +kernel⟩, (am_t2 239 rfl rfl), (am_t1 20 rfl rfl), by decide +kernel⟩
theorem im_JString_coder : Cond.instanceMethod mt_JString_coder.1 ∈ am_gw := (am_t2 237 rfl rfl)
theorem se_JString_coder : Cond.selects mt_JString_coder.1.cls mt_JString_coder.1 mt_JString_coder.1 ∈ am_gw := (am_t2 238 rfl rfl)
theorem ln_J_335 : am_ln "java/lang/String" 335 mt_JString_coder.1 := Or.inl (am_t2 236 rfl rfl)
theorem dc_JString_length_9 : decode prog_24_method_54_code 9 = .ok (.ishr, 1) := by decide +kernel
theorem dc_JString_length_10 : decode prog_24_method_54_code 10 = .ok (.ireturn, 1) := by decide +kernel
theorem dc_JString_coder_0 : decode prog_24_method_152_code 0 = .ok (.getstatic 38, 3) := by decide +kernel
theorem dc_JString_coder_3 : decode prog_24_method_152_code 3 = .ok (.ifCond .eq 10, 3) := by decide +kernel
theorem dc_JString_coder_6 : decode prog_24_method_152_code 6 = .ok (.aload_n 0, 1) := by decide +kernel
theorem dc_JString_coder_7 : decode prog_24_method_152_code 7 = .ok (.getfield 15, 3) := by decide +kernel
theorem dc_JString_coder_10 : decode prog_24_method_152_code 10 = .ok (.goto 4, 3) := by decide +kernel
theorem dc_JString_coder_13 : decode prog_24_method_152_code 13 = .ok (.iconst 1, 1) := by decide +kernel
theorem dc_JString_coder_14 : decode prog_24_method_152_code 14 = .ok (.ireturn, 1) := by decide +kernel
theorem dc_JStringLatin1_indexOf_0 : decode prog_26_method_22_code 0 = .ok (.iload_n 1, 1) := by decide +kernel
theorem dc_JStringLatin1_indexOf_1 : decode prog_26_method_22_code 1 = .ok (.invokestatic 88, 3) := by decide +kernel
theorem mo_JStringLatin1_canEncode : am_mo mt_JStringLatin1_canEncode 1 := ⟨⟨by decide +kernel, by decide +kernel⟩, by decide +kernel, ⟨by decide +kernel, by decide +kernel⟩, (am_t3 5 rfl rfl), (am_t1 21 rfl rfl), by decide +kernel⟩
theorem st_JStringLatin1_canEncode : Cond.static mt_JStringLatin1_canEncode.1 ∈ am_gw := (am_t3 4 rfl rfl)
theorem ln_J_88 : am_ln "java/lang/StringLatin1" 88 mt_JStringLatin1_canEncode.1 := Or.inl (am_t3 3 rfl rfl)
theorem dc_JStringLatin1_indexOf_4 : decode prog_26_method_22_code 4 = .ok (.ifCond .ne 5, 3) := by decide +kernel
theorem dc_JStringLatin1_indexOf_7 : decode prog_26_method_22_code 7 = .ok (.iconst (-1), 1) := by decide +kernel
theorem dc_JStringLatin1_indexOf_8 : decode prog_26_method_22_code 8 = .ok (.ireturn, 1) := by decide +kernel
theorem dc_JStringLatin1_indexOf_9 : decode prog_26_method_22_code 9 = .ok (.iload_n 2, 1) := by decide +kernel
theorem dc_JStringLatin1_indexOf_10 : decode prog_26_method_22_code 10 = .ok (.iconst 0, 1) := by decide +kernel
theorem dc_JStringLatin1_indexOf_11 : decode prog_26_method_22_code 11 = .ok (.invokestatic 92, 3) := by decide +kernel
theorem mo_JMath_max : am_mo mt_JMath_max 2 := ⟨⟨by decide +kernel, by decide +kernel⟩, by decide +kernel, ⟨by decide +kernel, by decide +kernel⟩, (am_t3 8 rfl rfl), (am_t1 17 rfl rfl), by decide +kernel⟩
theorem st_JMath_max : Cond.static mt_JMath_max.1 ∈ am_gw := (am_t3 7 rfl rfl)
theorem ln_J_92 : am_ln "java/lang/StringLatin1" 92 mt_JMath_max.1 := Or.inl (am_t3 6 rfl rfl)
theorem dc_JStringLatin1_indexOf_14 : decode prog_26_method_22_code 14 = .ok (.istore_n 2, 1) := by decide +kernel
theorem dc_JStringLatin1_indexOf_15 : decode prog_26_method_22_code 15 = .ok (.iload_n 3, 1) := by decide +kernel
theorem dc_JStringLatin1_indexOf_16 : decode prog_26_method_22_code 16 = .ok (.aload_n 0, 1) := by decide +kernel
theorem dc_JStringLatin1_indexOf_17 : decode prog_26_method_22_code 17 = .ok (.arraylength, 1) := by decide +kernel
theorem dc_JStringLatin1_indexOf_18 : decode prog_26_method_22_code 18 = .ok (.invokestatic 38, 3) := by decide +kernel
theorem ln_J_38 : am_ln "java/lang/StringLatin1" 38 mt_JMath_min.1 := Or.inl (am_t3 9 rfl rfl)
theorem dc_JStringLatin1_indexOf_21 : decode prog_26_method_22_code 21 = .ok (.istore_n 3, 1) := by decide +kernel
theorem dc_JStringLatin1_indexOf_22 : decode prog_26_method_22_code 22 = .ok (.iload_n 2, 1) := by decide +kernel
theorem dc_JStringLatin1_indexOf_23 : decode prog_26_method_22_code 23 = .ok (.iload_n 3, 1) := by decide +kernel
theorem dc_JStringLatin1_indexOf_24 : decode prog_26_method_22_code 24 = .ok (.if_icmp .lt 5, 3) := by decide +kernel
theorem dc_JStringLatin1_indexOf_27 : decode prog_26_method_22_code 27 = .ok (.iconst (-1), 1) := by decide +kernel
theorem dc_JStringLatin1_indexOf_28 : decode prog_26_method_22_code 28 = .ok (.ireturn, 1) := by decide +kernel
theorem dc_JStringLatin1_indexOf_29 : decode prog_26_method_22_code 29 = .ok (.aload_n 0, 1) := by decide +kernel
theorem dc_JStringLatin1_indexOf_30 : decode prog_26_method_22_code 30 = .ok (.iload_n 1, 1) := by decide +kernel
theorem dc_JStringLatin1_indexOf_31 : decode prog_26_method_22_code 31 = .ok (.iload_n 2, 1) := by decide +kernel
theorem dc_JStringLatin1_indexOf_32 : decode prog_26_method_22_code 32 = .ok (.iload_n 3, 1) := by decide +kernel
theorem dc_JStringLatin1_indexOf_33 : decode prog_26_method_22_code 33 = .ok (.invokestatic 95, 3) := by decide +kernel
theorem mo_JStringLatin1_indexOfChar : am_mo mt_JStringLatin1_indexOfChar 4 := ⟨⟨by decide +kernel, by decide +kernel⟩, by decide +kernel, ⟨by decide +kernel, by decide +kernel⟩, (am_t3 14 rfl rfl), (am_t1 21 rfl rfl), by decide +kernel⟩
theorem st_JStringLatin1_indexOfChar : Cond.static mt_JStringLatin1_indexOfChar.1 ∈ am_gw := (am_t3 13 rfl rfl)
theorem ln_J_95 : am_ln "java/lang/StringLatin1" 95 mt_JStringLatin1_indexOfChar.1 := Or.inl (am_t3 12 rfl rfl)
theorem dc_JStringLatin1_indexOf_36 : decode prog_26_method_22_code 36 = .ok (.ireturn, 1) := by decide +kernel
theorem dc_JStringLatin1_canEncode_0 : decode prog_26_method_4_code 0 = .ok (.iload_n 0, 1) := by decide +kernel
theorem dc_JStringLatin1_canEncode_1 : decode prog_26_method_4_code 1 = .ok (.ifCond .lt 14, 3) := by decide +kernel
theorem dc_JStringLatin1_canEncode_4 : decode prog_26_method_4_code 4 = .ok (.iload_n 0, 1) := by decide +kernel
theorem dc_JStringLatin1_canEncode_5 : decode prog_26_method_4_code 5 = .ok (.sipush 255, 3) := by decide +kernel
theorem dc_JStringLatin1_canEncode_8 : decode prog_26_method_4_code 8 = .ok (.if_icmp .gt 7, 3) := by decide +kernel
theorem dc_JStringLatin1_canEncode_11 : decode prog_26_method_4_code 11 = .ok (.iconst 1, 1) := by decide +kernel
theorem dc_JStringLatin1_canEncode_12 : decode prog_26_method_4_code 12 = .ok (.goto 4, 3) := by decide +kernel
theorem dc_JStringLatin1_canEncode_15 : decode prog_26_method_4_code 15 = .ok (.iconst 0, 1) := by decide +kernel
theorem dc_JStringLatin1_canEncode_16 : decode prog_26_method_4_code 16 = .ok (.ireturn, 1) := by decide +kernel
theorem dc_JMath_max_0 : decode prog_22_method_65_code 0 = .ok (.iload_n 0, 1) := by decide +kernel
theorem dc_JMath_max_1 : decode prog_22_method_65_code 1 = .ok (.iload_n 1, 1) := by decide +kernel
theorem dc_JMath_max_2 : decode prog_22_method_65_code 2 = .ok (.if_icmp .lt 7, 3) := by decide +kernel
theorem dc_JMath_max_5 : decode prog_22_method_65_code 5 = .ok (.iload_n 0, 1) := by decide +kernel
theorem dc_JMath_max_6 : decode prog_22_method_65_code 6 = .ok (.goto 4, 3) := by decide +kernel
theorem dc_JMath_max_9 : decode prog_22_method_65_code 9 = .ok (.iload_n 1, 1) := by decide +kernel
theorem dc_JMath_max_10 : decode prog_22_method_65_code 10 = .ok (.ireturn, 1) := by decide +kernel
theorem dc_JMath_min_0 : decode prog_22_method_69_code 0 = .ok (.iload_n 0, 1) := by decide +kernel
theorem dc_JMath_min_1 : decode prog_22_method_69_code 1 = .ok (.iload_n 1, 1) := by decide +kernel
theorem dc_JMath_min_2 : decode prog_22_method_69_code 2 = .ok (.if_icmp .gt 7, 3) := by decide +kernel
theorem dc_JMath_min_5 : decode prog_22_method_69_code 5 = .ok (.iload_n 0, 1) := by decide +kernel
theorem dc_JMath_min_6 : decode prog_22_method_69_code 6 = .ok (.goto 4, 3) := by decide +kernel
theorem dc_JMath_min_9 : decode prog_22_method_69_code 9 = .ok (.iload_n 1, 1) := by decide +kernel
theorem dc_JMath_min_10 : decode prog_22_method_69_code 10 = .ok (.ireturn, 1) := by decide +kernel
theorem dc_JStringLatin1_indexOfChar_0 : decode prog_26_method_23_code 0 = .ok (.iload_n 1, 1) := by decide +kernel
theorem dc_JStringLatin1_indexOfChar_1 : decode prog_26_method_23_code 1 = .ok (.i2b, 1) := by decide +kernel
theorem dc_JStringLatin1_indexOfChar_2 : decode prog_26_method_23_code 2 = .ok (.istore 4, 2) := by decide +kernel
theorem dc_JStringLatin1_indexOfChar_4 : decode prog_26_method_23_code 4 = .ok (.iload_n 2, 1) := by decide +kernel
theorem dc_JStringLatin1_indexOfChar_5 : decode prog_26_method_23_code 5 = .ok (.istore 5, 2) := by decide +kernel
theorem dc_JStringLatin1_indexOfChar_7 : decode prog_26_method_23_code 7 = .ok (.iload 5, 2) := by decide +kernel
theorem dc_JStringLatin1_indexOfChar_9 : decode prog_26_method_23_code 9 = .ok (.iload_n 3, 1) := by decide +kernel
theorem dc_JStringLatin1_indexOfChar_10 : decode prog_26_method_23_code 10 = .ok (.if_icmp .ge 21, 3) := by decide +kernel
theorem dc_JStringLatin1_indexOfChar_13 : decode prog_26_method_23_code 13 = .ok (.aload_n 0, 1) := by decide +kernel
theorem dc_JStringLatin1_indexOfChar_14 : decode prog_26_method_23_code 14 = .ok (.iload 5, 2) := by decide +kernel
theorem dc_JStringLatin1_indexOfChar_16 : decode prog_26_method_23_code 16 = .ok (.baload, 1) := by decide +kernel
theorem dc_JStringLatin1_indexOfChar_17 : decode prog_26_method_23_code 17 = .ok (.iload 4, 2) := by decide +kernel
theorem dc_JStringLatin1_indexOfChar_19 : decode prog_26_method_23_code 19 = .ok (.if_icmp .ne 6, 3) := by decide +kernel
theorem dc_JStringLatin1_indexOfChar_22 : decode prog_26_method_23_code 22 = .ok (.iload 5, 2) := by decide +kernel
theorem dc_JStringLatin1_indexOfChar_24 : decode prog_26_method_23_code 24 = .ok (.ireturn, 1) := by decide +kernel
theorem dc_JStringLatin1_indexOfChar_25 : decode prog_26_method_23_code 25 = .ok (.iinc 5 1, 3) := by decide +kernel
theorem dc_JStringLatin1_indexOfChar_28 : decode prog_26_method_23_code 28 = .ok (.goto (-21), 3) := by decide +kernel
theorem dc_JStringLatin1_indexOfChar_31 : decode prog_26_method_23_code 31 = .ok (.iconst (-1), 1) := by decide +kernel
theorem dc_JStringLatin1_indexOfChar_32 : decode prog_26_method_23_code 32 = .ok (.ireturn, 1) := by decide +kernel
theorem dc_W_escapedByte_0 : decode prog_1_method_41_code 0 = .ok (.aload_n 0, 1) := by decide +kernel
theorem dc_W_escapedByte_1 : decode prog_1_method_41_code 1 = .ok (.iload_n 1, 1) := by decide +kernel
theorem dc_W_escapedByte_2 : decode prog_1_method_41_code 2 = .ok (.baload, 1) := by decide +kernel
theorem dc_W_escapedByte_3 : decode prog_1_method_41_code 3 = .ok (.bipush 37, 2) := by decide +kernel
theorem dc_W_escapedByte_5 : decode prog_1_method_41_code 5 = .ok (.if_icmp .ne 10, 3) := by decide +kernel
theorem dc_W_escapedByte_8 : decode prog_1_method_41_code 8 = .ok (.iload_n 1, 1) := by decide +kernel
theorem dc_W_escapedByte_9 : decode prog_1_method_41_code 9 = .ok (.iconst 2, 1) := by decide +kernel
theorem dc_W_escapedByte_10 : decode prog_1_method_41_code 10 = .ok (.iadd, 1) := by decide +kernel
theorem dc_W_escapedByte_11 : decode prog_1_method_41_code 11 = .ok (.iload_n 2, 1) := by decide +kernel
theorem dc_W_escapedByte_12 : decode prog_1_method_41_code 12 = .ok (.if_icmp .lt 5, 3) := by decide +kernel
theorem dc_W_escapedByte_15 : decode prog_1_method_41_code 15 = .ok (.iconst (-1), 1) := by decide +kernel
theorem dc_W_escapedByte_16 : decode prog_1_method_41_code 16 = .ok (.ireturn, 1) := by decide +kernel
theorem dc_W_escapedByte_17 : decode prog_1_method_41_code 17 = .ok (.aload_n 0, 1) := by decide +kernel
theorem dc_W_escapedByte_18 : decode prog_1_method_41_code 18 = .ok (.iload_n 1, 1) := by decide +kernel
theorem dc_W_escapedByte_19 : decode prog_1_method_41_code 19 = .ok (.iconst 1, 1) := by decide +kernel
theorem dc_W_escapedByte_20 : decode prog_1_method_41_code 20 = .ok (.iadd, 1) := by decide +kernel
theorem dc_W_escapedByte_21 : decode prog_1_method_41_code 21 = .ok (.baload, 1) := by decide +kernel
theorem dc_W_escapedByte_22 : decode prog_1_method_41_code 22 = .ok (.invokestatic 302, 3) := by decide +kernel
theorem mo_W_hexValue : am_mo mt_W_hexValue 1 := ⟨⟨by decide +kernel, by decide +kernel⟩, by decide +kernel, ⟨by decide +kernel, by decide +kernel⟩, (am_t3 69 rfl rfl), (am_t1 1 rfl rfl), by decide +kernel⟩
theorem st_W_hexValue : Cond.static mt_W_hexValue.1 ∈ am_gw := (am_t3 68 rfl rfl)
theorem ln_W_302 : am_ln "WebFinder" 302 mt_W_hexValue.1 := Or.inl (am_t3 67 rfl rfl)
theorem dc_W_escapedByte_25 : decode prog_1_method_41_code 25 = .ok (.istore_n 3, 1) := by decide +kernel
theorem dc_W_escapedByte_26 : decode prog_1_method_41_code 26 = .ok (.aload_n 0, 1) := by decide +kernel
theorem dc_W_escapedByte_27 : decode prog_1_method_41_code 27 = .ok (.iload_n 1, 1) := by decide +kernel
theorem dc_W_escapedByte_28 : decode prog_1_method_41_code 28 = .ok (.iconst 2, 1) := by decide +kernel
theorem dc_W_escapedByte_29 : decode prog_1_method_41_code 29 = .ok (.iadd, 1) := by decide +kernel
theorem dc_W_escapedByte_30 : decode prog_1_method_41_code 30 = .ok (.baload, 1) := by decide +kernel
theorem dc_W_escapedByte_31 : decode prog_1_method_41_code 31 = .ok (.invokestatic 302, 3) := by decide +kernel
theorem dc_W_escapedByte_34 : decode prog_1_method_41_code 34 = .ok (.istore 4, 2) := by decide +kernel
theorem dc_W_escapedByte_36 : decode prog_1_method_41_code 36 = .ok (.iload_n 3, 1) := by decide +kernel
theorem dc_W_escapedByte_37 : decode prog_1_method_41_code 37 = .ok (.iconst (-1), 1) := by decide +kernel
theorem dc_W_escapedByte_38 : decode prog_1_method_41_code 38 = .ok (.if_icmp .eq 9, 3) := by decide +kernel
theorem dc_W_escapedByte_41 : decode prog_1_method_41_code 41 = .ok (.iload 4, 2) := by decide +kernel
theorem dc_W_escapedByte_43 : decode prog_1_method_41_code 43 = .ok (.iconst (-1), 1) := by decide +kernel
theorem dc_W_escapedByte_44 : decode prog_1_method_41_code 44 = .ok (.if_icmp .ne 7, 3) := by decide +kernel
theorem dc_W_escapedByte_47 : decode prog_1_method_41_code 47 = .ok (.iconst (-1), 1) := by decide +kernel
theorem dc_W_escapedByte_48 : decode prog_1_method_41_code 48 = .ok (.goto 10, 3) := by decide +kernel
theorem dc_W_escapedByte_51 : decode prog_1_method_41_code 51 = .ok (.bipush 16, 2) := by decide +kernel
theorem dc_W_escapedByte_53 : decode prog_1_method_41_code 53 = .ok (.iload_n 3, 1) := by decide +kernel
theorem dc_W_escapedByte_54 : decode prog_1_method_41_code 54 = .ok (.imul, 1) := by decide +kernel
theorem dc_W_escapedByte_55 : decode prog_1_method_41_code 55 = .ok (.iload 4, 2) := by decide +kernel
theorem dc_W_escapedByte_57 : decode prog_1_method_41_code 57 = .ok (.iadd, 1) := by decide +kernel
theorem dc_W_escapedByte_58 : decode prog_1_method_41_code 58 = .ok (.ireturn, 1) := by decide +kernel
theorem dc_W_hexValue_0 : decode prog_1_method_40_code 0 = .ok (.iload_n 0, 1) := by decide +kernel
theorem dc_W_hexValue_1 : decode prog_1_method_40_code 1 = .ok (.bipush 48, 2) := by decide +kernel
theorem dc_W_hexValue_3 : decode prog_1_method_40_code 3 = .ok (.if_icmp .lt 14, 3) := by decide +kernel
theorem dc_W_hexValue_6 : decode prog_1_method_40_code 6 = .ok (.iload_n 0, 1) := by decide +kernel
theorem dc_W_hexValue_7 : decode prog_1_method_40_code 7 = .ok (.bipush 57, 2) := by decide +kernel
theorem dc_W_hexValue_9 : decode prog_1_method_40_code 9 = .ok (.if_icmp .gt 8, 3) := by decide +kernel
theorem dc_W_hexValue_12 : decode prog_1_method_40_code 12 = .ok (.iload_n 0, 1) := by decide +kernel
theorem dc_W_hexValue_13 : decode prog_1_method_40_code 13 = .ok (.bipush 48, 2) := by decide +kernel
theorem dc_W_hexValue_15 : decode prog_1_method_40_code 15 = .ok (.isub, 1) := by decide +kernel
theorem dc_W_hexValue_16 : decode prog_1_method_40_code 16 = .ok (.ireturn, 1) := by decide +kernel
theorem dc_W_hexValue_17 : decode prog_1_method_40_code 17 = .ok (.iload_n 0, 1) := by decide +kernel
theorem dc_W_hexValue_18 : decode prog_1_method_40_code 18 = .ok (.bipush 97, 2) := by decide +kernel
theorem dc_W_hexValue_20 : decode prog_1_method_40_code 20 = .ok (.if_icmp .lt 17, 3) := by decide +kernel
theorem dc_W_hexValue_23 : decode prog_1_method_40_code 23 = .ok (.iload_n 0, 1) := by decide +kernel
theorem dc_W_hexValue_24 : decode prog_1_method_40_code 24 = .ok (.bipush 102, 2) := by decide +kernel
theorem dc_W_hexValue_26 : decode prog_1_method_40_code 26 = .ok (.if_icmp .gt 11, 3) := by decide +kernel
theorem dc_W_hexValue_29 : decode prog_1_method_40_code 29 = .ok (.iload_n 0, 1) := by decide +kernel
theorem dc_W_hexValue_30 : decode prog_1_method_40_code 30 = .ok (.bipush 97, 2) := by decide +kernel
theorem dc_W_hexValue_32 : decode prog_1_method_40_code 32 = .ok (.isub, 1) := by decide +kernel
theorem dc_W_hexValue_33 : decode prog_1_method_40_code 33 = .ok (.bipush 10, 2) := by decide +kernel
theorem dc_W_hexValue_35 : decode prog_1_method_40_code 35 = .ok (.iadd, 1) := by decide +kernel
theorem dc_W_hexValue_36 : decode prog_1_method_40_code 36 = .ok (.ireturn, 1) := by decide +kernel
theorem dc_W_hexValue_37 : decode prog_1_method_40_code 37 = .ok (.iload_n 0, 1) := by decide +kernel
theorem dc_W_hexValue_38 : decode prog_1_method_40_code 38 = .ok (.bipush 65, 2) := by decide +kernel
theorem dc_W_hexValue_40 : decode prog_1_method_40_code 40 = .ok (.if_icmp .lt 19, 3) := by decide +kernel
theorem dc_W_hexValue_43 : decode prog_1_method_40_code 43 = .ok (.iload_n 0, 1) := by decide +kernel
theorem dc_W_hexValue_44 : decode prog_1_method_40_code 44 = .ok (.bipush 70, 2) := by decide +kernel
theorem dc_W_hexValue_46 : decode prog_1_method_40_code 46 = .ok (.if_icmp .gt 13, 3) := by decide +kernel
theorem dc_W_hexValue_49 : decode prog_1_method_40_code 49 = .ok (.iload_n 0, 1) := by decide +kernel
theorem dc_W_hexValue_50 : decode prog_1_method_40_code 50 = .ok (.bipush 65, 2) := by decide +kernel
theorem dc_W_hexValue_52 : decode prog_1_method_40_code 52 = .ok (.isub, 1) := by decide +kernel
theorem dc_W_hexValue_53 : decode prog_1_method_40_code 53 = .ok (.bipush 10, 2) := by decide +kernel
theorem dc_W_hexValue_55 : decode prog_1_method_40_code 55 = .ok (.iadd, 1) := by decide +kernel
theorem dc_W_hexValue_56 : decode prog_1_method_40_code 56 = .ok (.goto 4, 3) := by decide +kernel
theorem dc_W_hexValue_59 : decode prog_1_method_40_code 59 = .ok (.iconst (-1), 1) := by decide +kernel
theorem dc_W_hexValue_60 : decode prog_1_method_40_code 60 = .ok (.ireturn, 1) := by decide +kernel
theorem dc_W_isLower_0 : decode prog_1_method_46_code 0 = .ok (.iload_n 2, 1) := by decide +kernel
theorem dc_W_isLower_1 : decode prog_1_method_46_code 1 = .ok (.iload_n 1, 1) := by decide +kernel
theorem dc_W_isLower_2 : decode prog_1_method_46_code 2 = .ok (.isub, 1) := by decide +kernel
theorem dc_W_isLower_3 : decode prog_1_method_46_code 3 = .ok (.aload_n 3, 1) := by decide +kernel
theorem dc_W_isLower_4 : decode prog_1_method_46_code 4 = .ok (.invokevirtual 309, 3) := by decide +kernel
theorem ln_W_309 : am_ln "WebFinder" 309 mt_JString_length.1 := Or.inl (am_t3 75 rfl rfl)
theorem dc_W_isLower_7 : decode prog_1_method_46_code 7 = .ok (.if_icmp .eq 5, 3) := by decide +kernel
theorem dc_W_isLower_10 : decode prog_1_method_46_code 10 = .ok (.iconst 0, 1) := by decide +kernel
theorem dc_W_isLower_11 : decode prog_1_method_46_code 11 = .ok (.ireturn, 1) := by decide +kernel
theorem dc_W_isLower_12 : decode prog_1_method_46_code 12 = .ok (.iconst 0, 1) := by decide +kernel
theorem dc_W_isLower_13 : decode prog_1_method_46_code 13 = .ok (.istore 4, 2) := by decide +kernel
theorem dc_W_isLower_15 : decode prog_1_method_46_code 15 = .ok (.iload 4, 2) := by decide +kernel
theorem dc_W_isLower_17 : decode prog_1_method_46_code 17 = .ok (.aload_n 3, 1) := by decide +kernel
theorem dc_W_isLower_18 : decode prog_1_method_46_code 18 = .ok (.invokevirtual 309, 3) := by decide +kernel
theorem dc_W_isLower_21 : decode prog_1_method_46_code 21 = .ok (.if_icmp .ge 29, 3) := by decide +kernel
theorem dc_W_isLower_24 : decode prog_1_method_46_code 24 = .ok (.aload_n 0, 1) := by decide +kernel
theorem dc_W_isLower_25 : decode prog_1_method_46_code 25 = .ok (.iload_n 1, 1) := by decide +kernel
theorem dc_W_isLower_26 : decode prog_1_method_46_code 26 = .ok (.iload 4, 2) := by decide +kernel
theorem dc_W_isLower_28 : decode prog_1_method_46_code 28 = .ok (.iadd, 1) := by decide +kernel
theorem dc_W_isLower_29 : decode prog_1_method_46_code 29 = .ok (.baload, 1) := by decide +kernel
theorem dc_W_isLower_30 : decode prog_1_method_46_code 30 = .ok (.invokestatic 313, 3) := by decide +kernel
theorem mo_W_lower : am_mo mt_W_lower 1 := ⟨⟨by decide +kernel, by decide +kernel⟩, by decide +kernel, ⟨by decide +kernel, by decide +kernel⟩, (am_t3 78 rfl rfl), (am_t1 1 rfl rfl), by decide +kernel⟩
theorem st_W_lower : Cond.static mt_W_lower.1 ∈ am_gw := (am_t3 77 rfl rfl)
theorem ln_W_313 : am_ln "WebFinder" 313 mt_W_lower.1 := Or.inl (am_t3 76 rfl rfl)
theorem dc_W_isLower_33 : decode prog_1_method_46_code 33 = .ok (.aload_n 3, 1) := by decide +kernel
theorem dc_W_isLower_34 : decode prog_1_method_46_code 34 = .ok (.iload 4, 2) := by decide +kernel
theorem dc_W_isLower_36 : decode prog_1_method_46_code 36 = .ok (.invokevirtual 316, 3) := by decide +kernel
theorem mo_JString_charAt : am_mo mt_JString_charAt 1 := ⟨⟨by decide +kernel, by decide +kernel⟩, by decide +kernel, ⟨by decide +kernel, by decide +kernel⟩, (am_t3 82 rfl rfl), (am_t1 20 rfl rfl), by decide +kernel⟩
theorem im_JString_charAt : Cond.instanceMethod mt_JString_charAt.1 ∈ am_gw := (am_t3 80 rfl rfl)
theorem se_JString_charAt : Cond.selects mt_JString_charAt.1.cls mt_JString_charAt.1 mt_JString_charAt.1 ∈ am_gw := (am_t3 81 rfl rfl)
theorem ln_W_316 : am_ln "WebFinder" 316 mt_JString_charAt.1 := Or.inl (am_t3 79 rfl rfl)
theorem dc_W_isLower_39 : decode prog_1_method_46_code 39 = .ok (.if_icmp .eq 5, 3) := by decide +kernel
theorem dc_W_isLower_42 : decode prog_1_method_46_code 42 = .ok (.iconst 0, 1) := by decide +kernel
theorem dc_W_isLower_43 : decode prog_1_method_46_code 43 = .ok (.ireturn, 1) := by decide +kernel
theorem dc_W_isLower_44 : decode prog_1_method_46_code 44 = .ok (.iinc 4 1, 3) := by decide +kernel
theorem dc_W_isLower_47 : decode prog_1_method_46_code 47 = .ok (.goto (-32), 3) := by decide +kernel
theorem dc_W_isLower_50 : decode prog_1_method_46_code 50 = .ok (.iconst 1, 1) := by decide +kernel
theorem dc_W_isLower_51 : decode prog_1_method_46_code 51 = .ok (.ireturn, 1) := by decide +kernel
theorem dc_W_lower_0 : decode prog_1_method_39_code 0 = .ok (.iload_n 0, 1) := by decide +kernel
theorem dc_W_lower_1 : decode prog_1_method_39_code 1 = .ok (.bipush 65, 2) := by decide +kernel
theorem dc_W_lower_3 : decode prog_1_method_39_code 3 = .ok (.if_icmp .lt 16, 3) := by decide +kernel
theorem dc_W_lower_6 : decode prog_1_method_39_code 6 = .ok (.iload_n 0, 1) := by decide +kernel
theorem dc_W_lower_7 : decode prog_1_method_39_code 7 = .ok (.bipush 90, 2) := by decide +kernel
theorem dc_W_lower_9 : decode prog_1_method_39_code 9 = .ok (.if_icmp .gt 10, 3) := by decide +kernel
theorem dc_W_lower_12 : decode prog_1_method_39_code 12 = .ok (.iload_n 0, 1) := by decide +kernel
theorem dc_W_lower_13 : decode prog_1_method_39_code 13 = .ok (.bipush 32, 2) := by decide +kernel
theorem dc_W_lower_15 : decode prog_1_method_39_code 15 = .ok (.iadd, 1) := by decide +kernel
theorem dc_W_lower_16 : decode prog_1_method_39_code 16 = .ok (.goto 4, 3) := by decide +kernel
theorem dc_W_lower_19 : decode prog_1_method_39_code 19 = .ok (.iload_n 0, 1) := by decide +kernel
theorem dc_W_lower_20 : decode prog_1_method_39_code 20 = .ok (.ireturn, 1) := by decide +kernel
theorem dc_JString_charAt_0 : decode prog_24_method_56_code 0 = .ok (.aload_n 0, 1) := by decide +kernel
theorem dc_JString_charAt_1 : decode prog_24_method_56_code 1 = .ok (.invokevirtual 492, 3) := by decide +kernel
theorem dc_JString_charAt_4 : decode prog_24_method_56_code 4 = .ok (.ifCond .eq 12, 3) := by decide +kernel
theorem dc_JString_charAt_7 : decode prog_24_method_56_code 7 = .ok (.aload_n 0, 1) := by decide +kernel
theorem dc_JString_charAt_8 : decode prog_24_method_56_code 8 = .ok (.getfield 9, 3) := by decide +kernel
theorem dc_JString_charAt_11 : decode prog_24_method_56_code 11 = .ok (.iload_n 1, 1) := by decide +kernel
theorem dc_JString_charAt_12 : decode prog_24_method_56_code 12 = .ok (.invokestatic 495, 3) := by decide +kernel
theorem mo_JStringLatin1_charAt : am_mo mt_JStringLatin1_charAt 2 := ⟨⟨by decide +kernel, by decide +kernel⟩, by decide +kernel, ⟨by decide +kernel, by decide +kernel⟩, (am_t3 85 rfl rfl), (am_t1 21 rfl rfl), by decide +kernel⟩
theorem st_JStringLatin1_charAt : Cond.static mt_JStringLatin1_charAt.1 ∈ am_gw := (am_t3 84 rfl rfl)
theorem ln_J_495 : am_ln "java/lang/String" 495 mt_JStringLatin1_charAt.1 := Or.inl (am_t3 83 rfl rfl)
theorem dc_JString_charAt_15 : decode prog_24_method_56_code 15 = .ok (.ireturn, 1) := by decide +kernel
theorem dc_JString_charAt_16 : decode prog_24_method_56_code 16 = .ok (.aload_n 0, 1) := by decide +kernel
theorem dc_JString_charAt_17 : decode prog_24_method_56_code 17 = .ok (.getfield 9, 3) := by decide +kernel
theorem dc_JString_charAt_20 : decode prog_24_method_56_code 20 = .ok (.iload_n 1, 1) := by decide +kernel
theorem dc_JString_charAt_21 : decode prog_24_method_56_code 21 = .ok (.invokestatic 498, 3) := by decide +kernel
theorem mo_JStringUTF16_charAt : am_mo mt_JStringUTF16_charAt 2 := ⟨⟨by decide +kernel, by decide +kernel⟩, by decide +kernel, ⟨by decide +kernel, by decide +kernel⟩, (am_t3 94 rfl rfl), (am_t1 22 rfl rfl), by decide +kernel⟩
theorem st_JStringUTF16_charAt : Cond.static mt_JStringUTF16_charAt.1 ∈ am_gw := (am_t3 93 rfl rfl)
theorem ln_J_498 : am_ln "java/lang/String" 498 mt_JStringUTF16_charAt.1 := Or.inl (am_t3 92 rfl rfl)
theorem dc_JString_charAt_24 : decode prog_24_method_56_code 24 = .ok (.ireturn, 1) := by decide +kernel
theorem dc_JStringLatin1_charAt_0 : decode prog_26_method_2_code 0 = .ok (.iload_n 1, 1) := by decide +kernel
theorem dc_JStringLatin1_charAt_1 : decode prog_26_method_2_code 1 = .ok (.aload_n 0, 1) := by decide +kernel
theorem dc_JStringLatin1_charAt_2 : decode prog_26_method_2_code 2 = .ok (.arraylength, 1) := by decide +kernel
theorem dc_JStringLatin1_charAt_3 : decode prog_26_method_2_code 3 = .ok (.invokestatic 9, 3) := by decide +kernel
theorem mo_JString_checkIndex : am_mo mt_JString_checkIndex 2 := ⟨⟨by decide +kernel, by decide +kernel⟩, by decide +kernel, ⟨by decide +kernel, by decide +kernel⟩, (am_t3 88 rfl rfl), (am_t1 20 rfl rfl), by decide +kernel⟩
theorem st_JString_checkIndex : Cond.static mt_JString_checkIndex.1 ∈ am_gw := (am_t3 87 rfl rfl)
theorem ln_J_9 : am_ln "java/lang/StringLatin1" 9 mt_JString_checkIndex.1 := Or.inl (am_t3 86 rfl rfl)
theorem dc_JStringLatin1_charAt_6 : decode prog_26_method_2_code 6 = .ok (.aload_n 0, 1) := by decide +kernel
theorem dc_JStringLatin1_charAt_7 : decode prog_26_method_2_code 7 = .ok (.iload_n 1, 1) := by decide +kernel
theorem dc_JStringLatin1_charAt_8 : decode prog_26_method_2_code 8 = .ok (.baload, 1) := by decide +kernel
theorem dc_JStringLatin1_charAt_9 : decode prog_26_method_2_code 9 = .ok (.sipush 255, 3) := by decide +kernel
theorem dc_JStringLatin1_charAt_12 : decode prog_26_method_2_code 12 = .ok (.iand, 1) := by decide +kernel
theorem dc_JStringLatin1_charAt_13 : decode prog_26_method_2_code 13 = .ok (.i2c, 1) := by decide +kernel
theorem dc_JStringLatin1_charAt_14 : decode prog_26_method_2_code 14 = .ok (.ireturn, 1) := by decide +kernel
theorem dc_JString_checkIndex_0 : decode prog_24_method_155_code 0 = .ok (.iload_n 0, 1) := by decide +kernel
theorem dc_JString_checkIndex_1 : decode prog_24_method_155_code 1 = .ok (.iload_n 1, 1) := by decide +kernel
theorem dc_JString_checkIndex_2 : decode prog_24_method_155_code 2 = .ok (.getstatic 1053, 3) := by decide +kernel
theorem dc_JString_checkIndex_5 : decode prog_24_method_155_code 5 = .ok (.invokestatic 1059, 3) := by decide +kernel
theorem mo_JPreconditions_checkIndex : am_mo mt_JPreconditions_checkIndex 3 := ⟨⟨by decide +kernel, by decide +kernel⟩, by decide +kernel, ⟨by decide +kernel, by decide +kernel⟩, (am_t3 91 rfl rfl), (am_t1 23 rfl rfl), by decide +kernel⟩
theorem st_JPreconditions_checkIndex : Cond.static mt_JPreconditions_checkIndex.1 ∈ am_gw := (am_t3 90 rfl rfl)
theorem ln_J_1059 : am_ln "java/lang/String" 1059 mt_JPreconditions_checkIndex.1 := Or.inl (am_t3 89 rfl rfl)
theorem dc_JString_checkIndex_8 : decode prog_24_method_155_code 8 = .ok (.pop, 1) := by decide +kernel
theorem dc_JString_checkIndex_9 : decode prog_24_method_155_code 9 = .ok (.return_, 1) := by decide +kernel
theorem dc_JPreconditions_checkIndex_0 : decode prog_32_method_11_code 0 = .ok (.iload_n 0, 1) := by decide +kernel
theorem dc_JPreconditions_checkIndex_1 : decode prog_32_method_11_code 1 = .ok (.ifCond .lt 8, 3) := by decide +kernel
theorem dc_JPreconditions_checkIndex_4 : decode prog_32_method_11_code 4 = .ok (.iload_n 0, 1) := by decide +kernel
theorem dc_JPreconditions_checkIndex_5 : decode prog_32_method_11_code 5 = .ok (.iload_n 1, 1) := by decide +kernel
theorem dc_JPreconditions_checkIndex_6 : decode prog_32_method_11_code 6 = .ok (.if_icmp .lt 10, 3) := by decide +kernel
theorem dc_JPreconditions_checkIndex_9 : decode prog_32_method_11_code 9 = .ok (.aload_n 2, 1) := by decide +kernel
theorem dc_JPreconditions_checkIndex_10 : decode prog_32_method_11_code 10 = .ok (.iload_n 0, 1) := by decide +kernel
theorem dc_JPreconditions_checkIndex_11 : decode prog_32_method_11_code 11 = .ok (.iload_n 1, 1) := by decide +kernel
theorem dc_JPreconditions_checkIndex_12 : decode prog_32_method_11_code 12 = .ok (.invokestatic 95, 3) := by decide +kernel
theorem dc_W_beginsWith_0 : decode prog_1_method_47_code 0 = .ok (.iload_n 1, 1) := by decide +kernel
theorem dc_W_beginsWith_1 : decode prog_1_method_47_code 1 = .ok (.aload_n 3, 1) := by decide +kernel
theorem dc_W_beginsWith_2 : decode prog_1_method_47_code 2 = .ok (.invokevirtual 309, 3) := by decide +kernel
theorem dc_W_beginsWith_5 : decode prog_1_method_47_code 5 = .ok (.iadd, 1) := by decide +kernel
theorem dc_W_beginsWith_6 : decode prog_1_method_47_code 6 = .ok (.istore 4, 2) := by decide +kernel
theorem dc_W_beginsWith_8 : decode prog_1_method_47_code 8 = .ok (.iload 4, 2) := by decide +kernel
theorem dc_W_beginsWith_10 : decode prog_1_method_47_code 10 = .ok (.iload_n 2, 1) := by decide +kernel
theorem dc_W_beginsWith_11 : decode prog_1_method_47_code 11 = .ok (.if_icmp .gt 18, 3) := by decide +kernel
theorem dc_W_beginsWith_14 : decode prog_1_method_47_code 14 = .ok (.aload_n 0, 1) := by decide +kernel
theorem dc_W_beginsWith_15 : decode prog_1_method_47_code 15 = .ok (.iload_n 1, 1) := by decide +kernel
theorem dc_W_beginsWith_16 : decode prog_1_method_47_code 16 = .ok (.iload 4, 2) := by decide +kernel
theorem dc_W_beginsWith_18 : decode prog_1_method_47_code 18 = .ok (.aload_n 3, 1) := by decide +kernel
theorem dc_W_beginsWith_19 : decode prog_1_method_47_code 19 = .ok (.invokestatic 320, 3) := by decide +kernel
theorem ln_W_320 : am_ln "WebFinder" 320 mt_W_isLower.1 := Or.inl (am_t3 103 rfl rfl)
theorem dc_W_beginsWith_22 : decode prog_1_method_47_code 22 = .ok (.ifCond .eq 7, 3) := by decide +kernel
theorem dc_W_beginsWith_25 : decode prog_1_method_47_code 25 = .ok (.iconst 1, 1) := by decide +kernel
theorem dc_W_beginsWith_26 : decode prog_1_method_47_code 26 = .ok (.goto 4, 3) := by decide +kernel
theorem dc_W_beginsWith_29 : decode prog_1_method_47_code 29 = .ok (.iconst 0, 1) := by decide +kernel
theorem dc_W_beginsWith_30 : decode prog_1_method_47_code 30 = .ok (.ireturn, 1) := by decide +kernel
theorem dc_A_joinHost_0 : decode prog_2_method_4_code 0 = .ok (.aload_n 1, 1) := by decide +kernel
theorem dc_A_joinHost_1 : decode prog_2_method_4_code 1 = .ok (.bipush 47, 2) := by decide +kernel
theorem dc_A_joinHost_3 : decode prog_2_method_4_code 3 = .ok (.iload_n 2, 1) := by decide +kernel
theorem dc_A_joinHost_4 : decode prog_2_method_4_code 4 = .ok (.iload_n 3, 1) := by decide +kernel
theorem dc_A_joinHost_5 : decode prog_2_method_4_code 5 = .ok (.invokestatic 33, 3) := by decide +kernel
theorem dc_A_joinHost_8 : decode prog_2_method_4_code 8 = .ok (.aload_n 1, 1) := by decide +kernel
theorem dc_A_joinHost_9 : decode prog_2_method_4_code 9 = .ok (.bipush 63, 2) := by decide +kernel
theorem dc_A_joinHost_11 : decode prog_2_method_4_code 11 = .ok (.iload_n 2, 1) := by decide +kernel
theorem dc_A_joinHost_12 : decode prog_2_method_4_code 12 = .ok (.iload_n 3, 1) := by decide +kernel
theorem dc_A_joinHost_13 : decode prog_2_method_4_code 13 = .ok (.invokestatic 33, 3) := by decide +kernel
theorem dc_A_joinHost_16 : decode prog_2_method_4_code 16 = .ok (.invokestatic 41, 3) := by decide +kernel
theorem dc_A_joinHost_19 : decode prog_2_method_4_code 19 = .ok (.istore 4, 2) := by decide +kernel
theorem dc_A_joinHost_21 : decode prog_2_method_4_code 21 = .ok (.aload_n 1, 1) := by decide +kernel
theorem dc_A_joinHost_22 : decode prog_2_method_4_code 22 = .ok (.bipush 58, 2) := by decide +kernel
theorem dc_A_joinHost_24 : decode prog_2_method_4_code 24 = .ok (.iload_n 2, 1) := by decide +kernel
theorem dc_A_joinHost_25 : decode prog_2_method_4_code 25 = .ok (.iload 4, 2) := by decide +kernel
theorem dc_A_joinHost_27 : decode prog_2_method_4_code 27 = .ok (.invokestatic 33, 3) := by decide +kernel
theorem dc_A_joinHost_30 : decode prog_2_method_4_code 30 = .ok (.istore 5, 2) := by decide +kernel
theorem dc_A_joinHost_32 : decode prog_2_method_4_code 32 = .ok (.iload 5, 2) := by decide +kernel
theorem dc_A_joinHost_34 : decode prog_2_method_4_code 34 = .ok (.iconst 1, 1) := by decide +kernel
theorem dc_A_joinHost_35 : decode prog_2_method_4_code 35 = .ok (.iadd, 1) := by decide +kernel
theorem dc_A_joinHost_36 : decode prog_2_method_4_code 36 = .ok (.iload 4, 2) := by decide +kernel
theorem dc_A_joinHost_38 : decode prog_2_method_4_code 38 = .ok (.invokestatic 41, 3) := by decide +kernel
theorem dc_A_joinHost_41 : decode prog_2_method_4_code 41 = .ok (.istore 6, 2) := by decide +kernel
theorem dc_A_joinHost_43 : decode prog_2_method_4_code 43 = .ok (.aload_n 1, 1) := by decide +kernel
theorem dc_A_joinHost_44 : decode prog_2_method_4_code 44 = .ok (.iload 6, 2) := by decide +kernel
theorem dc_A_joinHost_46 : decode prog_2_method_4_code 46 = .ok (.iload 4, 2) := by decide +kernel
theorem dc_A_joinHost_48 : decode prog_2_method_4_code 48 = .ok (.invokestatic 86, 3) := by decide +kernel
theorem mo_A_portOf : am_mo mt_A_portOf 3 := ⟨⟨by decide +kernel, by decide +kernel⟩, by decide +kernel, ⟨by decide +kernel, by decide +kernel⟩, (am_t3 110 rfl rfl), (am_t1 3 rfl rfl), by decide +kernel⟩
theorem st_A_portOf : Cond.static mt_A_portOf.1 ∈ am_gw := (am_t3 109 rfl rfl)
theorem ln_A_86 : am_ln "WebFinder$AddressReader" 86 mt_A_portOf.1 := Or.inl (am_t3 108 rfl rfl)
theorem dc_A_joinHost_51 : decode prog_2_method_4_code 51 = .ok (.istore 7, 2) := by decide +kernel
theorem dc_A_joinHost_53 : decode prog_2_method_4_code 53 = .ok (.aload_n 1, 1) := by decide +kernel
theorem dc_A_joinHost_54 : decode prog_2_method_4_code 54 = .ok (.iload_n 2, 1) := by decide +kernel
theorem dc_A_joinHost_55 : decode prog_2_method_4_code 55 = .ok (.iload 5, 2) := by decide +kernel
theorem dc_A_joinHost_57 : decode prog_2_method_4_code 57 = .ok (.invokestatic 89, 3) := by decide +kernel
theorem mo_A_isHost : am_mo mt_A_isHost 3 := ⟨⟨by decide +kernel, by decide +kernel⟩, by decide +kernel, ⟨by decide +kernel, by decide +kernel⟩, (am_t3 117 rfl rfl), (am_t1 3 rfl rfl), by decide +kernel⟩
theorem st_A_isHost : Cond.static mt_A_isHost.1 ∈ am_gw := (am_t3 116 rfl rfl)
theorem ln_A_89 : am_ln "WebFinder$AddressReader" 89 mt_A_isHost.1 := Or.inl (am_t3 115 rfl rfl)
theorem dc_A_joinHost_60 : decode prog_2_method_4_code 60 = .ok (.ifCond .eq 9, 3) := by decide +kernel
theorem dc_A_joinHost_63 : decode prog_2_method_4_code 63 = .ok (.iload 7, 2) := by decide +kernel
theorem dc_A_joinHost_65 : decode prog_2_method_4_code 65 = .ok (.iconst (-1), 1) := by decide +kernel
theorem dc_A_joinHost_66 : decode prog_2_method_4_code 66 = .ok (.if_icmp .ne 5, 3) := by decide +kernel
theorem dc_A_joinHost_69 : decode prog_2_method_4_code 69 = .ok (.iconst (-1), 1) := by decide +kernel
theorem dc_A_joinHost_70 : decode prog_2_method_4_code 70 = .ok (.ireturn, 1) := by decide +kernel
theorem dc_A_joinHost_71 : decode prog_2_method_4_code 71 = .ok (.aload_n 0, 1) := by decide +kernel
theorem dc_A_joinHost_72 : decode prog_2_method_4_code 72 = .ok (.getfield 14, 3) := by decide +kernel
theorem dc_A_joinHost_75 : decode prog_2_method_4_code 75 = .ok (.ldc 92, 2) := by decide +kernel
theorem dc_A_joinHost_77 : decode prog_2_method_4_code 77 = .ok (.invokevirtual 94, 3) := by decide +kernel
theorem mo_B_putText : am_mo mt_B_putText 1 := ⟨⟨by decide +kernel, by decide +kernel⟩, by decide +kernel, ⟨by decide +kernel, by decide +kernel⟩, (am_t3 125 rfl rfl), (am_t1 2 rfl rfl), by decide +kernel⟩
theorem im_B_putText : Cond.instanceMethod mt_B_putText.1 ∈ am_gw := (am_t3 123 rfl rfl)
theorem se_B_putText : Cond.selects mt_B_putText.1.cls mt_B_putText.1 mt_B_putText.1 ∈ am_gw := (am_t3 124 rfl rfl)
theorem ln_A_94 : am_ln "WebFinder$AddressReader" 94 mt_B_putText.1 := Or.inl (am_t3 122 rfl rfl)
theorem dc_A_joinHost_80 : decode prog_2_method_4_code 80 = .ok (.aload_n 0, 1) := by decide +kernel
theorem dc_A_joinHost_81 : decode prog_2_method_4_code 81 = .ok (.getfield 14, 3) := by decide +kernel
theorem dc_A_joinHost_84 : decode prog_2_method_4_code 84 = .ok (.aload_n 1, 1) := by decide +kernel
theorem dc_A_joinHost_85 : decode prog_2_method_4_code 85 = .ok (.iload_n 2, 1) := by decide +kernel
theorem dc_A_joinHost_86 : decode prog_2_method_4_code 86 = .ok (.iload 5, 2) := by decide +kernel
theorem dc_A_joinHost_88 : decode prog_2_method_4_code 88 = .ok (.invokevirtual 98, 3) := by decide +kernel
theorem mo_B_putLower : am_mo mt_B_putLower 3 := ⟨⟨by decide +kernel, by decide +kernel⟩, by decide +kernel, ⟨by decide +kernel, by decide +kernel⟩, (am_t3 149 rfl rfl), (am_t1 2 rfl rfl), by decide +kernel⟩
theorem im_B_putLower : Cond.instanceMethod mt_B_putLower.1 ∈ am_gw := (am_t3 147 rfl rfl)
theorem se_B_putLower : Cond.selects mt_B_putLower.1.cls mt_B_putLower.1 mt_B_putLower.1 ∈ am_gw := (am_t3 148 rfl rfl)
theorem ln_A_98 : am_ln "WebFinder$AddressReader" 98 mt_B_putLower.1 := Or.inl (am_t3 146 rfl rfl)
theorem dc_A_joinHost_91 : decode prog_2_method_4_code 91 = .ok (.iload 7, 2) := by decide +kernel
theorem dc_A_joinHost_93 : decode prog_2_method_4_code 93 = .ok (.bipush 80, 2) := by decide +kernel
theorem dc_A_joinHost_95 : decode prog_2_method_4_code 95 = .ok (.if_icmp .eq 48, 3) := by decide +kernel
theorem dc_A_joinHost_98 : decode prog_2_method_4_code 98 = .ok (.iload 6, 2) := by decide +kernel
theorem dc_A_joinHost_100 : decode prog_2_method_4_code 100 = .ok (.iload 4, 2) := by decide +kernel
theorem dc_A_joinHost_102 : decode prog_2_method_4_code 102 = .ok (.iconst 1, 1) := by decide +kernel
theorem dc_A_joinHost_103 : decode prog_2_method_4_code 103 = .ok (.isub, 1) := by decide +kernel
theorem dc_A_joinHost_104 : decode prog_2_method_4_code 104 = .ok (.if_icmp .ge 18, 3) := by decide +kernel
theorem dc_A_joinHost_107 : decode prog_2_method_4_code 107 = .ok (.aload_n 1, 1) := by decide +kernel
theorem dc_A_joinHost_108 : decode prog_2_method_4_code 108 = .ok (.iload 6, 2) := by decide +kernel
theorem dc_A_joinHost_110 : decode prog_2_method_4_code 110 = .ok (.baload, 1) := by decide +kernel
theorem dc_A_joinHost_111 : decode prog_2_method_4_code 111 = .ok (.bipush 48, 2) := by decide +kernel
theorem dc_A_joinHost_113 : decode prog_2_method_4_code 113 = .ok (.if_icmp .ne 9, 3) := by decide +kernel
theorem dc_A_joinHost_116 : decode prog_2_method_4_code 116 = .ok (.iinc 6 1, 3) := by decide +kernel
theorem dc_A_joinHost_119 : decode prog_2_method_4_code 119 = .ok (.goto (-21), 3) := by decide +kernel
theorem dc_A_joinHost_122 : decode prog_2_method_4_code 122 = .ok (.aload_n 0, 1) := by decide +kernel
theorem dc_A_joinHost_123 : decode prog_2_method_4_code 123 = .ok (.getfield 14, 3) := by decide +kernel
theorem dc_A_joinHost_126 : decode prog_2_method_4_code 126 = .ok (.bipush 58, 2) := by decide +kernel
theorem dc_A_joinHost_128 : decode prog_2_method_4_code 128 = .ok (.invokevirtual 101, 3) := by decide +kernel
theorem mo_B_put : am_mo mt_B_put 1 := ⟨⟨by decide +kernel, by decide +kernel⟩, by decide +kernel, ⟨by decide +kernel, by decide +kernel⟩, (am_t3 131 rfl rfl), (am_t1 2 rfl rfl), by decide +kernel⟩
theorem im_B_put : Cond.instanceMethod mt_B_put.1 ∈ am_gw := (am_t3 129 rfl rfl)
theorem se_B_put : Cond.selects mt_B_put.1.cls mt_B_put.1 mt_B_put.1 ∈ am_gw := (am_t3 130 rfl rfl)
theorem ln_A_101 : am_ln "WebFinder$AddressReader" 101 mt_B_put.1 := Or.inl (am_t3 151 rfl rfl)
theorem dc_A_joinHost_131 : decode prog_2_method_4_code 131 = .ok (.aload_n 0, 1) := by decide +kernel
theorem dc_A_joinHost_132 : decode prog_2_method_4_code 132 = .ok (.getfield 14, 3) := by decide +kernel
theorem dc_A_joinHost_135 : decode prog_2_method_4_code 135 = .ok (.aload_n 1, 1) := by decide +kernel
theorem dc_A_joinHost_136 : decode prog_2_method_4_code 136 = .ok (.iload 6, 2) := by decide +kernel
theorem dc_A_joinHost_138 : decode prog_2_method_4_code 138 = .ok (.iload 4, 2) := by decide +kernel
theorem dc_A_joinHost_140 : decode prog_2_method_4_code 140 = .ok (.invokevirtual 104, 3) := by decide +kernel
theorem mo_B_putAll : am_mo mt_B_putAll 3 := ⟨⟨by decide +kernel, by decide +kernel⟩, by decide +kernel, ⟨by decide +kernel, by decide +kernel⟩, (am_t3 155 rfl rfl), (am_t1 2 rfl rfl), by decide +kernel⟩
theorem im_B_putAll : Cond.instanceMethod mt_B_putAll.1 ∈ am_gw := (am_t3 153 rfl rfl)
theorem se_B_putAll : Cond.selects mt_B_putAll.1.cls mt_B_putAll.1 mt_B_putAll.1 ∈ am_gw := (am_t3 154 rfl rfl)
theorem ln_A_104 : am_ln "WebFinder$AddressReader" 104 mt_B_putAll.1 := Or.inl (am_t3 152 rfl rfl)
theorem dc_A_joinHost_143 : decode prog_2_method_4_code 143 = .ok (.iload 4, 2) := by decide +kernel
theorem dc_A_joinHost_145 : decode prog_2_method_4_code 145 = .ok (.ireturn, 1) := by decide +kernel
theorem dc_A_portOf_0 : decode prog_2_method_6_code 0 = .ok (.iload_n 2, 1) := by decide +kernel
theorem dc_A_portOf_1 : decode prog_2_method_6_code 1 = .ok (.iload_n 1, 1) := by decide +kernel
theorem dc_A_portOf_2 : decode prog_2_method_6_code 2 = .ok (.isub, 1) := by decide +kernel
theorem dc_A_portOf_3 : decode prog_2_method_6_code 3 = .ok (.iconst 5, 1) := by decide +kernel
theorem dc_A_portOf_4 : decode prog_2_method_6_code 4 = .ok (.if_icmp .le 5, 3) := by decide +kernel
theorem dc_A_portOf_7 : decode prog_2_method_6_code 7 = .ok (.iconst (-1), 1) := by decide +kernel
theorem dc_A_portOf_8 : decode prog_2_method_6_code 8 = .ok (.ireturn, 1) := by decide +kernel
theorem dc_A_portOf_9 : decode prog_2_method_6_code 9 = .ok (.iconst 0, 1) := by decide +kernel
theorem dc_A_portOf_10 : decode prog_2_method_6_code 10 = .ok (.istore_n 3, 1) := by decide +kernel
theorem dc_A_portOf_11 : decode prog_2_method_6_code 11 = .ok (.iload_n 1, 1) := by decide +kernel
theorem dc_A_portOf_12 : decode prog_2_method_6_code 12 = .ok (.istore 4, 2) := by decide +kernel
theorem dc_A_portOf_14 : decode prog_2_method_6_code 14 = .ok (.iload 4, 2) := by decide +kernel
theorem dc_A_portOf_16 : decode prog_2_method_6_code 16 = .ok (.iload_n 2, 1) := by decide +kernel
theorem dc_A_portOf_17 : decode prog_2_method_6_code 17 = .ok (.if_icmp .ge 34, 3) := by decide +kernel
theorem dc_A_portOf_20 : decode prog_2_method_6_code 20 = .ok (.aload_n 0, 1) := by decide +kernel
theorem dc_A_portOf_21 : decode prog_2_method_6_code 21 = .ok (.iload 4, 2) := by decide +kernel
theorem dc_A_portOf_23 : decode prog_2_method_6_code 23 = .ok (.baload, 1) := by decide +kernel
theorem dc_A_portOf_24 : decode prog_2_method_6_code 24 = .ok (.invokestatic 111, 3) := by decide +kernel
theorem mo_W_isDigit : am_mo mt_W_isDigit 1 := ⟨⟨by decide +kernel, by decide +kernel⟩, by decide +kernel, ⟨by decide +kernel, by decide +kernel⟩, (am_t3 113 rfl rfl), (am_t1 1 rfl rfl), by decide +kernel⟩
theorem st_W_isDigit : Cond.static mt_W_isDigit.1 ∈ am_gw := (am_t3 112 rfl rfl)
theorem ln_A_111 : am_ln "WebFinder$AddressReader" 111 mt_W_isDigit.1 := Or.inr ⟨"WebFinder", (am_n3 111 rfl rfl)⟩
theorem dc_A_portOf_27 : decode prog_2_method_6_code 27 = .ok (.ifCond .ne 5, 3) := by decide +kernel
theorem dc_A_portOf_30 : decode prog_2_method_6_code 30 = .ok (.iconst (-1), 1) := by decide +kernel
theorem dc_A_portOf_31 : decode prog_2_method_6_code 31 = .ok (.ireturn, 1) := by decide +kernel
theorem dc_A_portOf_32 : decode prog_2_method_6_code 32 = .ok (.bipush 10, 2) := by decide +kernel
theorem dc_A_portOf_34 : decode prog_2_method_6_code 34 = .ok (.iload_n 3, 1) := by decide +kernel
theorem dc_A_portOf_35 : decode prog_2_method_6_code 35 = .ok (.imul, 1) := by decide +kernel
theorem dc_A_portOf_36 : decode prog_2_method_6_code 36 = .ok (.aload_n 0, 1) := by decide +kernel
theorem dc_A_portOf_37 : decode prog_2_method_6_code 37 = .ok (.iload 4, 2) := by decide +kernel
theorem dc_A_portOf_39 : decode prog_2_method_6_code 39 = .ok (.baload, 1) := by decide +kernel
theorem dc_A_portOf_40 : decode prog_2_method_6_code 40 = .ok (.iadd, 1) := by decide +kernel
theorem dc_A_portOf_41 : decode prog_2_method_6_code 41 = .ok (.bipush 48, 2) := by decide +kernel
theorem dc_A_portOf_43 : decode prog_2_method_6_code 43 = .ok (.isub, 1) := by decide +kernel
theorem dc_A_portOf_44 : decode prog_2_method_6_code 44 = .ok (.istore_n 3, 1) := by decide +kernel
theorem dc_A_portOf_45 : decode prog_2_method_6_code 45 = .ok (.iinc 4 1, 3) := by decide +kernel
theorem dc_A_portOf_48 : decode prog_2_method_6_code 48 = .ok (.goto (-34), 3) := by decide +kernel
theorem dc_A_portOf_51 : decode prog_2_method_6_code 51 = .ok (.iload_n 1, 1) := by decide +kernel
theorem dc_A_portOf_52 : decode prog_2_method_6_code 52 = .ok (.iload_n 2, 1) := by decide +kernel
theorem dc_A_portOf_53 : decode prog_2_method_6_code 53 = .ok (.if_icmp .ne 6, 3) := by decide +kernel
theorem dc_A_portOf_56 : decode prog_2_method_6_code 56 = .ok (.bipush 80, 2) := by decide +kernel
theorem dc_A_portOf_58 : decode prog_2_method_6_code 58 = .ok (.ireturn, 1) := by decide +kernel
theorem dc_A_portOf_59 : decode prog_2_method_6_code 59 = .ok (.iload_n 3, 1) := by decide +kernel
theorem dc_A_portOf_60 : decode prog_2_method_6_code 60 = .ok (.ldc 114, 2) := by decide +kernel
theorem cs_A_114 : Cond.constant "WebFinder$AddressReader" 114 (65535) ∈ am_gw := (am_t3 114 rfl rfl)
theorem dc_A_portOf_62 : decode prog_2_method_6_code 62 = .ok (.if_icmp .le 7, 3) := by decide +kernel
theorem dc_A_portOf_65 : decode prog_2_method_6_code 65 = .ok (.iconst (-1), 1) := by decide +kernel
theorem dc_A_portOf_66 : decode prog_2_method_6_code 66 = .ok (.goto 4, 3) := by decide +kernel
theorem dc_A_portOf_69 : decode prog_2_method_6_code 69 = .ok (.iload_n 3, 1) := by decide +kernel
theorem dc_A_portOf_70 : decode prog_2_method_6_code 70 = .ok (.ireturn, 1) := by decide +kernel
theorem dc_W_isDigit_0 : decode prog_1_method_38_code 0 = .ok (.iload_n 0, 1) := by decide +kernel
theorem dc_W_isDigit_1 : decode prog_1_method_38_code 1 = .ok (.bipush 48, 2) := by decide +kernel
theorem dc_W_isDigit_3 : decode prog_1_method_38_code 3 = .ok (.if_icmp .lt 13, 3) := by decide +kernel
theorem dc_W_isDigit_6 : decode prog_1_method_38_code 6 = .ok (.iload_n 0, 1) := by decide +kernel
theorem dc_W_isDigit_7 : decode prog_1_method_38_code 7 = .ok (.bipush 57, 2) := by decide +kernel
theorem dc_W_isDigit_9 : decode prog_1_method_38_code 9 = .ok (.if_icmp .gt 7, 3) := by decide +kernel
theorem dc_W_isDigit_12 : decode prog_1_method_38_code 12 = .ok (.iconst 1, 1) := by decide +kernel
theorem dc_W_isDigit_13 : decode prog_1_method_38_code 13 = .ok (.goto 4, 3) := by decide +kernel
theorem dc_W_isDigit_16 : decode prog_1_method_38_code 16 = .ok (.iconst 0, 1) := by decide +kernel
theorem dc_W_isDigit_17 : decode prog_1_method_38_code 17 = .ok (.ireturn, 1) := by decide +kernel
theorem dc_A_isHost_0 : decode prog_2_method_5_code 0 = .ok (.iload_n 2, 1) := by decide +kernel
theorem dc_A_isHost_1 : decode prog_2_method_5_code 1 = .ok (.iload_n 1, 1) := by decide +kernel
theorem dc_A_isHost_2 : decode prog_2_method_5_code 2 = .ok (.if_icmp .eq 11, 3) := by decide +kernel
theorem dc_A_isHost_5 : decode prog_2_method_5_code 5 = .ok (.iload_n 2, 1) := by decide +kernel
theorem dc_A_isHost_6 : decode prog_2_method_5_code 6 = .ok (.iload_n 1, 1) := by decide +kernel
theorem dc_A_isHost_7 : decode prog_2_method_5_code 7 = .ok (.isub, 1) := by decide +kernel
theorem dc_A_isHost_8 : decode prog_2_method_5_code 8 = .ok (.bipush 60, 2) := by decide +kernel
theorem dc_A_isHost_10 : decode prog_2_method_5_code 10 = .ok (.if_icmp .le 5, 3) := by decide +kernel
theorem dc_A_isHost_13 : decode prog_2_method_5_code 13 = .ok (.iconst 0, 1) := by decide +kernel
theorem dc_A_isHost_14 : decode prog_2_method_5_code 14 = .ok (.ireturn, 1) := by decide +kernel
theorem dc_A_isHost_15 : decode prog_2_method_5_code 15 = .ok (.iload_n 1, 1) := by decide +kernel
theorem dc_A_isHost_16 : decode prog_2_method_5_code 16 = .ok (.istore_n 3, 1) := by decide +kernel
theorem dc_A_isHost_17 : decode prog_2_method_5_code 17 = .ok (.iload_n 3, 1) := by decide +kernel
theorem dc_A_isHost_18 : decode prog_2_method_5_code 18 = .ok (.iload_n 2, 1) := by decide +kernel
theorem dc_A_isHost_19 : decode prog_2_method_5_code 19 = .ok (.if_icmp .ge 46, 3) := by decide +kernel
theorem dc_A_isHost_22 : decode prog_2_method_5_code 22 = .ok (.aload_n 0, 1) := by decide +kernel
theorem dc_A_isHost_23 : decode prog_2_method_5_code 23 = .ok (.iload_n 3, 1) := by decide +kernel
theorem dc_A_isHost_24 : decode prog_2_method_5_code 24 = .ok (.baload, 1) := by decide +kernel
theorem dc_A_isHost_25 : decode prog_2_method_5_code 25 = .ok (.istore 4, 2) := by decide +kernel
theorem dc_A_isHost_27 : decode prog_2_method_5_code 27 = .ok (.iload 4, 2) := by decide +kernel
theorem dc_A_isHost_29 : decode prog_2_method_5_code 29 = .ok (.invokestatic 107, 3) := by decide +kernel
theorem mo_W_isLetter : am_mo mt_W_isLetter 1 := ⟨⟨by decide +kernel, by decide +kernel⟩, by decide +kernel, ⟨by decide +kernel, by decide +kernel⟩, (am_t3 120 rfl rfl), (am_t1 1 rfl rfl), by decide +kernel⟩
theorem st_W_isLetter : Cond.static mt_W_isLetter.1 ∈ am_gw := (am_t3 119 rfl rfl)
theorem ln_A_107 : am_ln "WebFinder$AddressReader" 107 mt_W_isLetter.1 := Or.inr ⟨"WebFinder", (am_n3 118 rfl rfl)⟩
theorem dc_A_isHost_32 : decode prog_2_method_5_code 32 = .ok (.ifCond .ne 27, 3) := by decide +kernel
theorem dc_A_isHost_35 : decode prog_2_method_5_code 35 = .ok (.iload 4, 2) := by decide +kernel
theorem dc_A_isHost_37 : decode prog_2_method_5_code 37 = .ok (.invokestatic 111, 3) := by decide +kernel
theorem dc_A_isHost_40 : decode prog_2_method_5_code 40 = .ok (.ifCond .ne 19, 3) := by decide +kernel
theorem dc_A_isHost_43 : decode prog_2_method_5_code 43 = .ok (.iload 4, 2) := by decide +kernel
theorem dc_A_isHost_45 : decode prog_2_method_5_code 45 = .ok (.bipush 45, 2) := by decide +kernel
theorem dc_A_isHost_47 : decode prog_2_method_5_code 47 = .ok (.if_icmp .eq 12, 3) := by decide +kernel
theorem dc_A_isHost_50 : decode prog_2_method_5_code 50 = .ok (.iload 4, 2) := by decide +kernel
theorem dc_A_isHost_52 : decode prog_2_method_5_code 52 = .ok (.bipush 46, 2) := by decide +kernel
theorem dc_A_isHost_54 : decode prog_2_method_5_code 54 = .ok (.if_icmp .eq 5, 3) := by decide +kernel
theorem dc_A_isHost_57 : decode prog_2_method_5_code 57 = .ok (.iconst 0, 1) := by decide +kernel
theorem dc_A_isHost_58 : decode prog_2_method_5_code 58 = .ok (.ireturn, 1) := by decide +kernel
theorem dc_A_isHost_59 : decode prog_2_method_5_code 59 = .ok (.iinc 3 1, 3) := by decide +kernel
theorem dc_A_isHost_62 : decode prog_2_method_5_code 62 = .ok (.goto (-45), 3) := by decide +kernel
theorem dc_A_isHost_65 : decode prog_2_method_5_code 65 = .ok (.iconst 1, 1) := by decide +kernel
theorem dc_A_isHost_66 : decode prog_2_method_5_code 66 = .ok (.ireturn, 1) := by decide +kernel
theorem dc_W_isLetter_0 : decode prog_1_method_37_code 0 = .ok (.iload_n 0, 1) := by decide +kernel
theorem dc_W_isLetter_1 : decode prog_1_method_37_code 1 = .ok (.bipush 97, 2) := by decide +kernel
theorem dc_W_isLetter_3 : decode prog_1_method_37_code 3 = .ok (.if_icmp .lt 9, 3) := by decide +kernel
theorem dc_W_isLetter_6 : decode prog_1_method_37_code 6 = .ok (.iload_n 0, 1) := by decide +kernel
theorem dc_W_isLetter_7 : decode prog_1_method_37_code 7 = .ok (.bipush 122, 2) := by decide +kernel
theorem dc_W_isLetter_9 : decode prog_1_method_37_code 9 = .ok (.if_icmp .le 15, 3) := by decide +kernel
theorem dc_W_isLetter_12 : decode prog_1_method_37_code 12 = .ok (.iload_n 0, 1) := by decide +kernel
theorem dc_W_isLetter_13 : decode prog_1_method_37_code 13 = .ok (.bipush 65, 2) := by decide +kernel
theorem dc_W_isLetter_15 : decode prog_1_method_37_code 15 = .ok (.if_icmp .lt 13, 3) := by decide +kernel
theorem dc_W_isLetter_18 : decode prog_1_method_37_code 18 = .ok (.iload_n 0, 1) := by decide +kernel
theorem dc_W_isLetter_19 : decode prog_1_method_37_code 19 = .ok (.bipush 90, 2) := by decide +kernel
theorem dc_W_isLetter_21 : decode prog_1_method_37_code 21 = .ok (.if_icmp .gt 7, 3) := by decide +kernel
theorem dc_W_isLetter_24 : decode prog_1_method_37_code 24 = .ok (.iconst 1, 1) := by decide +kernel
theorem dc_W_isLetter_25 : decode prog_1_method_37_code 25 = .ok (.goto 4, 3) := by decide +kernel
theorem dc_W_isLetter_28 : decode prog_1_method_37_code 28 = .ok (.iconst 0, 1) := by decide +kernel
theorem dc_W_isLetter_29 : decode prog_1_method_37_code 29 = .ok (.ireturn, 1) := by decide +kernel
theorem dc_B_putText_0 : decode prog_4_method_8_code 0 = .ok (.iconst 0, 1) := by decide +kernel
theorem dc_B_putText_1 : decode prog_4_method_8_code 1 = .ok (.istore_n 2, 1) := by decide +kernel
theorem dc_B_putText_2 : decode prog_4_method_8_code 2 = .ok (.iload_n 2, 1) := by decide +kernel
theorem dc_B_putText_3 : decode prog_4_method_8_code 3 = .ok (.aload_n 1, 1) := by decide +kernel
theorem dc_B_putText_4 : decode prog_4_method_8_code 4 = .ok (.invokevirtual 49, 3) := by decide +kernel
theorem ln_B_49 : am_ln "WebFinder$Bytes" 49 mt_JString_length.1 := Or.inl (am_t3 126 rfl rfl)
theorem dc_B_putText_7 : decode prog_4_method_8_code 7 = .ok (.if_icmp .ge 18, 3) := by decide +kernel
theorem dc_B_putText_10 : decode prog_4_method_8_code 10 = .ok (.aload_n 0, 1) := by decide +kernel
theorem dc_B_putText_11 : decode prog_4_method_8_code 11 = .ok (.aload_n 1, 1) := by decide +kernel
theorem dc_B_putText_12 : decode prog_4_method_8_code 12 = .ok (.iload_n 2, 1) := by decide +kernel
theorem dc_B_putText_13 : decode prog_4_method_8_code 13 = .ok (.invokevirtual 54, 3) := by decide +kernel
theorem ln_B_54 : am_ln "WebFinder$Bytes" 54 mt_JString_charAt.1 := Or.inl (am_t3 127 rfl rfl)
theorem dc_B_putText_16 : decode prog_4_method_8_code 16 = .ok (.invokevirtual 29, 3) := by decide +kernel
theorem ln_B_29 : am_ln "WebFinder$Bytes" 29 mt_B_put.1 := Or.inl (am_t3 128 rfl rfl)
theorem dc_B_putText_19 : decode prog_4_method_8_code 19 = .ok (.iinc 2 1, 3) := by decide +kernel
theorem dc_B_putText_22 : decode prog_4_method_8_code 22 = .ok (.goto (-20), 3) := by decide +kernel
theorem dc_B_putText_25 : decode prog_4_method_8_code 25 = .ok (.return_, 1) := by decide +kernel
theorem dc_B_put_0 : decode prog_4_method_4_code 0 = .ok (.aload_n 0, 1) := by decide +kernel
theorem dc_B_put_1 : decode prog_4_method_4_code 1 = .ok (.getfield 15, 3) := by decide +kernel
theorem fl_B_15 : am_fl "WebFinder$Bytes" 15 1 1 := ⟨"WebFinder$Bytes", tt_B, 2, rfl, by decide, Or.inl (am_t1 57 rfl rfl)⟩
theorem dc_B_put_4 : decode prog_4_method_4_code 4 = .ok (.aload_n 0, 1) := by decide +kernel
theorem dc_B_put_5 : decode prog_4_method_4_code 5 = .ok (.getfield 9, 3) := by decide +kernel
theorem fl_B_9 : am_fl "WebFinder$Bytes" 9 1 0 := ⟨"WebFinder$Bytes", tt_B, 2, rfl, by decide, Or.inl (am_t1 46 rfl rfl)⟩
theorem dc_B_put_8 : decode prog_4_method_4_code 8 = .ok (.arraylength, 1) := by decide +kernel
theorem dc_B_put_9 : decode prog_4_method_4_code 9 = .ok (.if_icmp .ne 23, 3) := by decide +kernel
theorem dc_B_put_12 : decode prog_4_method_4_code 12 = .ok (.aload_n 0, 1) := by decide +kernel
theorem dc_B_put_13 : decode prog_4_method_4_code 13 = .ok (.aload_n 0, 1) := by decide +kernel
theorem dc_B_put_14 : decode prog_4_method_4_code 14 = .ok (.getfield 9, 3) := by decide +kernel
theorem dc_B_put_17 : decode prog_4_method_4_code 17 = .ok (.iconst 2, 1) := by decide +kernel
theorem dc_B_put_18 : decode prog_4_method_4_code 18 = .ok (.aload_n 0, 1) := by decide +kernel
theorem dc_B_put_19 : decode prog_4_method_4_code 19 = .ok (.getfield 15, 3) := by decide +kernel
theorem dc_B_put_22 : decode prog_4_method_4_code 22 = .ok (.imul, 1) := by decide +kernel
theorem dc_B_put_23 : decode prog_4_method_4_code 23 = .ok (.bipush 16, 2) := by decide +kernel
theorem dc_B_put_25 : decode prog_4_method_4_code 25 = .ok (.iadd, 1) := by decide +kernel
theorem dc_B_put_26 : decode prog_4_method_4_code 26 = .ok (.invokestatic 23, 3) := by decide +kernel
theorem mo_JArrays_copyOf_0 : am_mo mt_JArrays_copyOf_0 2 := ⟨⟨by decide +kernel, by decide +kernel⟩, by decide +kernel, ⟨by decide +kernel, by decide +kernel⟩, (am_t3 134 rfl rfl), (am_t1 16 rfl rfl), by decide +kernel⟩
theorem st_JArrays_copyOf_0 : Cond.static mt_JArrays_copyOf_0.1 ∈ am_gw := (am_t3 133 rfl rfl)
theorem ln_B_23 : am_ln "WebFinder$Bytes" 23 mt_JArrays_copyOf_0.1 := Or.inl (am_t3 132 rfl rfl)
theorem dc_B_put_29 : decode prog_4_method_4_code 29 = .ok (.putfield 9, 3) := by decide +kernel
theorem fp_B_put_9 : am_fp mt_B_put.1 9 1 0 (.array .byte) := ⟨"WebFinder$Bytes", tt_B, 2, rfl, by decide, ct_B 0 (by decide), Or.inl ⟨(am_t1 46 rfl rfl), Or.inl rfl⟩⟩
theorem dc_B_put_32 : decode prog_4_method_4_code 32 = .ok (.aload_n 0, 1) := by decide +kernel
theorem dc_B_put_33 : decode prog_4_method_4_code 33 = .ok (.getfield 9, 3) := by decide +kernel
theorem dc_B_put_36 : decode prog_4_method_4_code 36 = .ok (.aload_n 0, 1) := by decide +kernel
theorem dc_B_put_37 : decode prog_4_method_4_code 37 = .ok (.getfield 15, 3) := by decide +kernel
theorem dc_B_put_40 : decode prog_4_method_4_code 40 = .ok (.iload_n 1, 1) := by decide +kernel
theorem dc_B_put_41 : decode prog_4_method_4_code 41 = .ok (.i2b, 1) := by decide +kernel
theorem dc_B_put_42 : decode prog_4_method_4_code 42 = .ok (.bastore, 1) := by decide +kernel
theorem dc_B_put_43 : decode prog_4_method_4_code 43 = .ok (.aload_n 0, 1) := by decide +kernel
theorem dc_B_put_44 : decode prog_4_method_4_code 44 = .ok (.dup, 1) := by decide +kernel
theorem dc_B_put_45 : decode prog_4_method_4_code 45 = .ok (.getfield 15, 3) := by decide +kernel
theorem dc_B_put_48 : decode prog_4_method_4_code 48 = .ok (.iconst 1, 1) := by decide +kernel
theorem dc_B_put_49 : decode prog_4_method_4_code 49 = .ok (.iadd, 1) := by decide +kernel
theorem dc_B_put_50 : decode prog_4_method_4_code 50 = .ok (.putfield 15, 3) := by decide +kernel
theorem fp_B_put_15 : am_fp mt_B_put.1 15 1 1 (.int) := ⟨"WebFinder$Bytes", tt_B, 2, rfl, by decide, ct_B 1 (by decide), Or.inl ⟨(am_t1 57 rfl rfl), Or.inl rfl⟩⟩
theorem dc_B_put_53 : decode prog_4_method_4_code 53 = .ok (.return_, 1) := by decide +kernel
theorem dc_JArrays_copyOf_0_0 : decode prog_30_method_121_code 0 = .ok (.iload_n 1, 1) := by decide +kernel
theorem dc_JArrays_copyOf_0_1 : decode prog_30_method_121_code 1 = .ok (.aload_n 0, 1) := by decide +kernel
theorem dc_JArrays_copyOf_0_2 : decode prog_30_method_121_code 2 = .ok (.arraylength, 1) := by decide +kernel
theorem dc_JArrays_copyOf_0_3 : decode prog_30_method_121_code 3 = .ok (.if_icmp .ne 11, 3) := by decide +kernel
theorem dc_JArrays_copyOf_0_6 : decode prog_30_method_121_code 6 = .ok (.aload_n 0, 1) := by decide +kernel
theorem dc_JArrays_copyOf_0_7 : decode prog_30_method_121_code 7 = .ok (.invokevirtual 310, 3) := by decide +kernel
theorem dc_JArrays_copyOf_0_10 : decode prog_30_method_121_code 10 = .ok (.checkcast 311, 3) := by decide +kernel
theorem dc_JArrays_copyOf_0_13 : decode prog_30_method_121_code 13 = .ok (.areturn, 1) := by decide +kernel
theorem dc_JArrays_copyOf_0_14 : decode prog_30_method_121_code 14 = .ok (.iload_n 1, 1) := by decide +kernel
theorem dc_JArrays_copyOf_0_15 : decode prog_30_method_121_code 15 = .ok (.newarray .byte, 2) := by decide +kernel
theorem dc_JArrays_copyOf_0_17 : decode prog_30_method_121_code 17 = .ok (.astore_n 2, 1) := by decide +kernel
theorem dc_JArrays_copyOf_0_18 : decode prog_30_method_121_code 18 = .ok (.aload_n 0, 1) := by decide +kernel
theorem dc_JArrays_copyOf_0_19 : decode prog_30_method_121_code 19 = .ok (.iconst 0, 1) := by decide +kernel
theorem dc_JArrays_copyOf_0_20 : decode prog_30_method_121_code 20 = .ok (.aload_n 2, 1) := by decide +kernel
theorem dc_JArrays_copyOf_0_21 : decode prog_30_method_121_code 21 = .ok (.iconst 0, 1) := by decide +kernel
theorem dc_JArrays_copyOf_0_22 : decode prog_30_method_121_code 22 = .ok (.aload_n 0, 1) := by decide +kernel
theorem dc_JArrays_copyOf_0_23 : decode prog_30_method_121_code 23 = .ok (.arraylength, 1) := by decide +kernel
theorem dc_JArrays_copyOf_0_24 : decode prog_30_method_121_code 24 = .ok (.iload_n 1, 1) := by decide +kernel
theorem dc_JArrays_copyOf_0_25 : decode prog_30_method_121_code 25 = .ok (.invokestatic 304, 3) := by decide +kernel
theorem ln_J_304 : am_ln "java/util/Arrays" 304 mt_JMath_min.1 := Or.inl (am_t3 142 rfl rfl)
theorem dc_JArrays_copyOf_0_28 : decode prog_30_method_121_code 28 = .ok (.invokestatic 150, 3) := by decide +kernel
theorem dc_JArrays_copyOf_0_31 : decode prog_30_method_121_code 31 = .ok (.aload_n 2, 1) := by decide +kernel
theorem dc_JArrays_copyOf_0_32 : decode prog_30_method_121_code 32 = .ok (.areturn, 1) := by decide +kernel
theorem dc_B_putLower_0 : decode prog_4_method_7_code 0 = .ok (.iload_n 2, 1) := by decide +kernel
theorem dc_B_putLower_1 : decode prog_4_method_7_code 1 = .ok (.istore 4, 2) := by decide +kernel
theorem dc_B_putLower_3 : decode prog_4_method_7_code 3 = .ok (.iload 4, 2) := by decide +kernel
theorem dc_B_putLower_5 : decode prog_4_method_7_code 5 = .ok (.iload_n 3, 1) := by decide +kernel
theorem dc_B_putLower_6 : decode prog_4_method_7_code 6 = .ok (.if_icmp .ge 20, 3) := by decide +kernel
theorem dc_B_putLower_9 : decode prog_4_method_7_code 9 = .ok (.aload_n 0, 1) := by decide +kernel
theorem dc_B_putLower_10 : decode prog_4_method_7_code 10 = .ok (.aload_n 1, 1) := by decide +kernel
theorem dc_B_putLower_11 : decode prog_4_method_7_code 11 = .ok (.iload 4, 2) := by decide +kernel
theorem dc_B_putLower_13 : decode prog_4_method_7_code 13 = .ok (.baload, 1) := by decide +kernel
theorem dc_B_putLower_14 : decode prog_4_method_7_code 14 = .ok (.invokestatic 45, 3) := by decide +kernel
theorem ln_B_45 : am_ln "WebFinder$Bytes" 45 mt_W_lower.1 := Or.inr ⟨"WebFinder", (am_n3 150 rfl rfl)⟩
theorem dc_B_putLower_17 : decode prog_4_method_7_code 17 = .ok (.invokevirtual 29, 3) := by decide +kernel
theorem dc_B_putLower_20 : decode prog_4_method_7_code 20 = .ok (.iinc 4 1, 3) := by decide +kernel
theorem dc_B_putLower_23 : decode prog_4_method_7_code 23 = .ok (.goto (-20), 3) := by decide +kernel
theorem dc_B_putLower_26 : decode prog_4_method_7_code 26 = .ok (.return_, 1) := by decide +kernel
theorem dc_B_putAll_0 : decode prog_4_method_6_code 0 = .ok (.iload_n 3, 1) := by decide +kernel
theorem dc_B_putAll_1 : decode prog_4_method_6_code 1 = .ok (.iload_n 2, 1) := by decide +kernel
theorem dc_B_putAll_2 : decode prog_4_method_6_code 2 = .ok (.isub, 1) := by decide +kernel
theorem dc_B_putAll_3 : decode prog_4_method_6_code 3 = .ok (.istore 4, 2) := by decide +kernel
theorem dc_B_putAll_5 : decode prog_4_method_6_code 5 = .ok (.aload_n 0, 1) := by decide +kernel
theorem dc_B_putAll_6 : decode prog_4_method_6_code 6 = .ok (.getfield 15, 3) := by decide +kernel
theorem dc_B_putAll_9 : decode prog_4_method_6_code 9 = .ok (.iload 4, 2) := by decide +kernel
theorem dc_B_putAll_11 : decode prog_4_method_6_code 11 = .ok (.iadd, 1) := by decide +kernel
theorem dc_B_putAll_12 : decode prog_4_method_6_code 12 = .ok (.aload_n 0, 1) := by decide +kernel
theorem dc_B_putAll_13 : decode prog_4_method_6_code 13 = .ok (.getfield 9, 3) := by decide +kernel
theorem dc_B_putAll_16 : decode prog_4_method_6_code 16 = .ok (.arraylength, 1) := by decide +kernel
theorem dc_B_putAll_17 : decode prog_4_method_6_code 17 = .ok (.if_icmp .le 31, 3) := by decide +kernel
theorem dc_B_putAll_20 : decode prog_4_method_6_code 20 = .ok (.aload_n 0, 1) := by decide +kernel
theorem dc_B_putAll_21 : decode prog_4_method_6_code 21 = .ok (.aload_n 0, 1) := by decide +kernel
theorem dc_B_putAll_22 : decode prog_4_method_6_code 22 = .ok (.getfield 9, 3) := by decide +kernel
theorem dc_B_putAll_25 : decode prog_4_method_6_code 25 = .ok (.iconst 2, 1) := by decide +kernel
theorem dc_B_putAll_26 : decode prog_4_method_6_code 26 = .ok (.aload_n 0, 1) := by decide +kernel
theorem dc_B_putAll_27 : decode prog_4_method_6_code 27 = .ok (.getfield 9, 3) := by decide +kernel
theorem dc_B_putAll_30 : decode prog_4_method_6_code 30 = .ok (.arraylength, 1) := by decide +kernel
theorem dc_B_putAll_31 : decode prog_4_method_6_code 31 = .ok (.imul, 1) := by decide +kernel
theorem dc_B_putAll_32 : decode prog_4_method_6_code 32 = .ok (.aload_n 0, 1) := by decide +kernel
theorem dc_B_putAll_33 : decode prog_4_method_6_code 33 = .ok (.getfield 15, 3) := by decide +kernel
theorem dc_B_putAll_36 : decode prog_4_method_6_code 36 = .ok (.iload 4, 2) := by decide +kernel
theorem dc_B_putAll_38 : decode prog_4_method_6_code 38 = .ok (.iadd, 1) := by decide +kernel
theorem dc_B_putAll_39 : decode prog_4_method_6_code 39 = .ok (.invokestatic 33, 3) := by decide +kernel
theorem ln_B_33 : am_ln "WebFinder$Bytes" 33 mt_JMath_max.1 := Or.inl (am_t3 156 rfl rfl)
theorem dc_B_putAll_42 : decode prog_4_method_6_code 42 = .ok (.invokestatic 23, 3) := by decide +kernel
theorem dc_B_putAll_45 : decode prog_4_method_6_code 45 = .ok (.putfield 9, 3) := by decide +kernel
theorem fp_B_putAll_9 : am_fp mt_B_putAll.1 9 1 0 (.array .byte) := ⟨"WebFinder$Bytes", tt_B, 2, rfl, by decide, ct_B 0 (by decide), Or.inl ⟨(am_t1 46 rfl rfl), Or.inl rfl⟩⟩
theorem dc_B_putAll_48 : decode prog_4_method_6_code 48 = .ok (.aload_n 1, 1) := by decide +kernel
theorem dc_B_putAll_49 : decode prog_4_method_6_code 49 = .ok (.iload_n 2, 1) := by decide +kernel
theorem dc_B_putAll_50 : decode prog_4_method_6_code 50 = .ok (.aload_n 0, 1) := by decide +kernel
theorem dc_B_putAll_51 : decode prog_4_method_6_code 51 = .ok (.getfield 9, 3) := by decide +kernel
theorem dc_B_putAll_54 : decode prog_4_method_6_code 54 = .ok (.aload_n 0, 1) := by decide +kernel
theorem dc_B_putAll_55 : decode prog_4_method_6_code 55 = .ok (.getfield 15, 3) := by decide +kernel
theorem dc_B_putAll_58 : decode prog_4_method_6_code 58 = .ok (.iload 4, 2) := by decide +kernel
theorem dc_B_putAll_60 : decode prog_4_method_6_code 60 = .ok (.invokestatic 39, 3) := by decide +kernel
theorem dc_B_putAll_63 : decode prog_4_method_6_code 63 = .ok (.aload_n 0, 1) := by decide +kernel
theorem dc_B_putAll_64 : decode prog_4_method_6_code 64 = .ok (.dup, 1) := by decide +kernel
theorem dc_B_putAll_65 : decode prog_4_method_6_code 65 = .ok (.getfield 15, 3) := by decide +kernel
theorem dc_B_putAll_68 : decode prog_4_method_6_code 68 = .ok (.iload 4, 2) := by decide +kernel
theorem dc_B_putAll_70 : decode prog_4_method_6_code 70 = .ok (.iadd, 1) := by decide +kernel
theorem dc_B_putAll_71 : decode prog_4_method_6_code 71 = .ok (.putfield 15, 3) := by decide +kernel
theorem fp_B_putAll_15 : am_fp mt_B_putAll.1 15 1 1 (.int) := ⟨"WebFinder$Bytes", tt_B, 2, rfl, by decide, ct_B 1 (by decide), Or.inl ⟨(am_t1 57 rfl rfl), Or.inl rfl⟩⟩
theorem dc_B_putAll_74 : decode prog_4_method_6_code 74 = .ok (.return_, 1) := by decide +kernel
theorem dc_A_joinBase_0 : decode prog_2_method_7_code 0 = .ok (.aload 4, 2) := by decide +kernel
theorem dc_A_joinBase_2 : decode prog_2_method_7_code 2 = .ok (.ifnull 11, 3) := by decide +kernel
theorem dc_A_joinBase_5 : decode prog_2_method_7_code 5 = .ok (.aload 4, 2) := by decide +kernel
theorem dc_A_joinBase_7 : decode prog_2_method_7_code 7 = .ok (.getfield 72, 3) := by decide +kernel
theorem dc_A_joinBase_10 : decode prog_2_method_7_code 10 = .ok (.ifCond .ne 5, 3) := by decide +kernel
theorem dc_A_joinBase_13 : decode prog_2_method_7_code 13 = .ok (.iconst (-1), 1) := by decide +kernel
theorem dc_A_joinBase_14 : decode prog_2_method_7_code 14 = .ok (.ireturn, 1) := by decide +kernel
theorem dc_A_joinBase_15 : decode prog_2_method_7_code 15 = .ok (.aload 4, 2) := by decide +kernel
theorem dc_A_joinBase_17 : decode prog_2_method_7_code 17 = .ok (.getfield 115, 3) := by decide +kernel
theorem fl_A_115 : am_fl "WebFinder$AddressReader" 115 1 0 := ⟨"WebFinder$Bytes", tt_B, 2, rfl, by decide, Or.inl (am_t1 54 rfl rfl)⟩
theorem dc_A_joinBase_20 : decode prog_2_method_7_code 20 = .ok (.aload 4, 2) := by decide +kernel
theorem dc_A_joinBase_22 : decode prog_2_method_7_code 22 = .ok (.getfield 72, 3) := by decide +kernel
theorem dc_A_joinBase_25 : decode prog_2_method_7_code 25 = .ok (.invokestatic 119, 3) := by decide +kernel
theorem mo_W_siteTo : am_mo mt_W_siteTo 2 := ⟨⟨by decide +kernel, by decide +kernel⟩, by decide +kernel, ⟨by decide +kernel, by decide +kernel⟩, (am_t3 164 rfl rfl), (am_t1 1 rfl rfl), by decide +kernel⟩
theorem st_W_siteTo : Cond.static mt_W_siteTo.1 ∈ am_gw := (am_t3 163 rfl rfl)
theorem ln_A_119 : am_ln "WebFinder$AddressReader" 119 mt_W_siteTo.1 := Or.inr ⟨"WebFinder", (am_n3 162 rfl rfl)⟩
theorem dc_A_joinBase_28 : decode prog_2_method_7_code 28 = .ok (.istore 5, 2) := by decide +kernel
theorem dc_A_joinBase_30 : decode prog_2_method_7_code 30 = .ok (.aload 4, 2) := by decide +kernel
theorem dc_A_joinBase_32 : decode prog_2_method_7_code 32 = .ok (.getfield 115, 3) := by decide +kernel
theorem dc_A_joinBase_35 : decode prog_2_method_7_code 35 = .ok (.bipush 63, 2) := by decide +kernel
theorem dc_A_joinBase_37 : decode prog_2_method_7_code 37 = .ok (.iload 5, 2) := by decide +kernel
theorem dc_A_joinBase_39 : decode prog_2_method_7_code 39 = .ok (.aload 4, 2) := by decide +kernel
theorem dc_A_joinBase_41 : decode prog_2_method_7_code 41 = .ok (.getfield 72, 3) := by decide +kernel
theorem dc_A_joinBase_44 : decode prog_2_method_7_code 44 = .ok (.invokestatic 33, 3) := by decide +kernel
theorem dc_A_joinBase_47 : decode prog_2_method_7_code 47 = .ok (.istore 6, 2) := by decide +kernel
theorem dc_A_joinBase_49 : decode prog_2_method_7_code 49 = .ok (.aload_n 0, 1) := by decide +kernel
theorem dc_A_joinBase_50 : decode prog_2_method_7_code 50 = .ok (.getfield 14, 3) := by decide +kernel
theorem dc_A_joinBase_53 : decode prog_2_method_7_code 53 = .ok (.aload 4, 2) := by decide +kernel
theorem dc_A_joinBase_55 : decode prog_2_method_7_code 55 = .ok (.getfield 115, 3) := by decide +kernel
theorem dc_A_joinBase_58 : decode prog_2_method_7_code 58 = .ok (.iconst 0, 1) := by decide +kernel
theorem dc_A_joinBase_59 : decode prog_2_method_7_code 59 = .ok (.iload 5, 2) := by decide +kernel
theorem dc_A_joinBase_61 : decode prog_2_method_7_code 61 = .ok (.invokevirtual 104, 3) := by decide +kernel
theorem dc_A_joinBase_64 : decode prog_2_method_7_code 64 = .ok (.aload_n 1, 1) := by decide +kernel
theorem dc_A_joinBase_65 : decode prog_2_method_7_code 65 = .ok (.bipush 63, 2) := by decide +kernel
theorem dc_A_joinBase_67 : decode prog_2_method_7_code 67 = .ok (.iload_n 2, 1) := by decide +kernel
theorem dc_A_joinBase_68 : decode prog_2_method_7_code 68 = .ok (.iload_n 3, 1) := by decide +kernel
theorem dc_A_joinBase_69 : decode prog_2_method_7_code 69 = .ok (.invokestatic 33, 3) := by decide +kernel
theorem dc_A_joinBase_72 : decode prog_2_method_7_code 72 = .ok (.istore 7, 2) := by decide +kernel
theorem dc_A_joinBase_74 : decode prog_2_method_7_code 74 = .ok (.iload 7, 2) := by decide +kernel
theorem dc_A_joinBase_76 : decode prog_2_method_7_code 76 = .ok (.iload_n 2, 1) := by decide +kernel
theorem dc_A_joinBase_77 : decode prog_2_method_7_code 77 = .ok (.if_icmp .ne 36, 3) := by decide +kernel
theorem dc_A_joinBase_80 : decode prog_2_method_7_code 80 = .ok (.aload_n 0, 1) := by decide +kernel
theorem dc_A_joinBase_81 : decode prog_2_method_7_code 81 = .ok (.getfield 20, 3) := by decide +kernel
theorem dc_A_joinBase_84 : decode prog_2_method_7_code 84 = .ok (.aload 4, 2) := by decide +kernel
theorem dc_A_joinBase_86 : decode prog_2_method_7_code 86 = .ok (.getfield 115, 3) := by decide +kernel
theorem dc_A_joinBase_89 : decode prog_2_method_7_code 89 = .ok (.iload 5, 2) := by decide +kernel
theorem dc_A_joinBase_91 : decode prog_2_method_7_code 91 = .ok (.iload 7, 2) := by decide +kernel
theorem dc_A_joinBase_93 : decode prog_2_method_7_code 93 = .ok (.iload_n 3, 1) := by decide +kernel
theorem dc_A_joinBase_94 : decode prog_2_method_7_code 94 = .ok (.if_icmp .ne 11, 3) := by decide +kernel
theorem dc_A_joinBase_97 : decode prog_2_method_7_code 97 = .ok (.aload 4, 2) := by decide +kernel
theorem dc_A_joinBase_99 : decode prog_2_method_7_code 99 = .ok (.getfield 72, 3) := by decide +kernel
theorem dc_A_joinBase_102 : decode prog_2_method_7_code 102 = .ok (.goto 5, 3) := by decide +kernel
theorem dc_A_joinBase_105 : decode prog_2_method_7_code 105 = .ok (.iload 6, 2) := by decide +kernel
theorem dc_A_joinBase_107 : decode prog_2_method_7_code 107 = .ok (.invokevirtual 104, 3) := by decide +kernel
theorem dc_A_joinBase_110 : decode prog_2_method_7_code 110 = .ok (.goto 37, 3) := by decide +kernel
theorem dc_A_joinBase_113 : decode prog_2_method_7_code 113 = .ok (.aload_n 1, 1) := by decide +kernel
theorem dc_A_joinBase_114 : decode prog_2_method_7_code 114 = .ok (.iload_n 2, 1) := by decide +kernel
theorem dc_A_joinBase_115 : decode prog_2_method_7_code 115 = .ok (.baload, 1) := by decide +kernel
theorem dc_A_joinBase_116 : decode prog_2_method_7_code 116 = .ok (.bipush 47, 2) := by decide +kernel
theorem dc_A_joinBase_118 : decode prog_2_method_7_code 118 = .ok (.if_icmp .eq 29, 3) := by decide +kernel
theorem dc_A_joinBase_121 : decode prog_2_method_7_code 121 = .ok (.aload_n 0, 1) := by decide +kernel
theorem dc_A_joinBase_122 : decode prog_2_method_7_code 122 = .ok (.getfield 20, 3) := by decide +kernel
theorem dc_A_joinBase_125 : decode prog_2_method_7_code 125 = .ok (.aload 4, 2) := by decide +kernel
theorem dc_A_joinBase_127 : decode prog_2_method_7_code 127 = .ok (.getfield 115, 3) := by decide +kernel
theorem dc_A_joinBase_130 : decode prog_2_method_7_code 130 = .ok (.iload 5, 2) := by decide +kernel
theorem dc_A_joinBase_132 : decode prog_2_method_7_code 132 = .ok (.aload 4, 2) := by decide +kernel
theorem dc_A_joinBase_134 : decode prog_2_method_7_code 134 = .ok (.getfield 115, 3) := by decide +kernel
theorem dc_A_joinBase_137 : decode prog_2_method_7_code 137 = .ok (.iload 5, 2) := by decide +kernel
theorem dc_A_joinBase_139 : decode prog_2_method_7_code 139 = .ok (.iload 6, 2) := by decide +kernel
theorem dc_A_joinBase_141 : decode prog_2_method_7_code 141 = .ok (.invokestatic 123, 3) := by decide +kernel
theorem mo_A_behindLastSlash : am_mo mt_A_behindLastSlash 3 := ⟨⟨by decide +kernel, by decide +kernel⟩, by decide +kernel, ⟨by decide +kernel, by decide +kernel⟩, (am_t3 168 rfl rfl), (am_t1 3 rfl rfl), by decide +kernel⟩
theorem st_A_behindLastSlash : Cond.static mt_A_behindLastSlash.1 ∈ am_gw := (am_t3 167 rfl rfl)
theorem ln_A_123 : am_ln "WebFinder$AddressReader" 123 mt_A_behindLastSlash.1 := Or.inl (am_t3 166 rfl rfl)
theorem dc_A_joinBase_144 : decode prog_2_method_7_code 144 = .ok (.invokevirtual 104, 3) := by decide +kernel
theorem dc_A_joinBase_147 : decode prog_2_method_7_code 147 = .ok (.iload_n 2, 1) := by decide +kernel
theorem dc_A_joinBase_148 : decode prog_2_method_7_code 148 = .ok (.ireturn, 1) := by decide +kernel
theorem dc_W_siteTo_0 : decode prog_1_method_48_code 0 = .ok (.aload_n 0, 1) := by decide +kernel
theorem dc_W_siteTo_1 : decode prog_1_method_48_code 1 = .ok (.bipush 47, 2) := by decide +kernel
theorem dc_W_siteTo_3 : decode prog_1_method_48_code 3 = .ok (.ldc_w 324, 3) := by decide +kernel
theorem dc_W_siteTo_6 : decode prog_1_method_48_code 6 = .ok (.invokevirtual 309, 3) := by decide +kernel
theorem dc_W_siteTo_9 : decode prog_1_method_48_code 9 = .ok (.iload_n 1, 1) := by decide +kernel
theorem dc_W_siteTo_10 : decode prog_1_method_48_code 10 = .ok (.invokestatic 282, 3) := by decide +kernel
theorem dc_W_siteTo_13 : decode prog_1_method_48_code 13 = .ok (.ireturn, 1) := by decide +kernel
theorem dc_A_behindLastSlash_0 : decode prog_2_method_8_code 0 = .ok (.iload_n 2, 1) := by decide +kernel
theorem dc_A_behindLastSlash_1 : decode prog_2_method_8_code 1 = .ok (.istore_n 3, 1) := by decide +kernel
theorem dc_A_behindLastSlash_2 : decode prog_2_method_8_code 2 = .ok (.iload_n 3, 1) := by decide +kernel
theorem dc_A_behindLastSlash_3 : decode prog_2_method_8_code 3 = .ok (.iload_n 1, 1) := by decide +kernel
theorem dc_A_behindLastSlash_4 : decode prog_2_method_8_code 4 = .ok (.if_icmp .le 19, 3) := by decide +kernel
theorem dc_A_behindLastSlash_7 : decode prog_2_method_8_code 7 = .ok (.aload_n 0, 1) := by decide +kernel
theorem dc_A_behindLastSlash_8 : decode prog_2_method_8_code 8 = .ok (.iload_n 3, 1) := by decide +kernel
theorem dc_A_behindLastSlash_9 : decode prog_2_method_8_code 9 = .ok (.iconst 1, 1) := by decide +kernel
theorem dc_A_behindLastSlash_10 : decode prog_2_method_8_code 10 = .ok (.isub, 1) := by decide +kernel
theorem dc_A_behindLastSlash_11 : decode prog_2_method_8_code 11 = .ok (.baload, 1) := by decide +kernel
theorem dc_A_behindLastSlash_12 : decode prog_2_method_8_code 12 = .ok (.bipush 47, 2) := by decide +kernel
theorem dc_A_behindLastSlash_14 : decode prog_2_method_8_code 14 = .ok (.if_icmp .eq 9, 3) := by decide +kernel
theorem dc_A_behindLastSlash_17 : decode prog_2_method_8_code 17 = .ok (.iinc 3 (-1), 3) := by decide +kernel
theorem dc_A_behindLastSlash_20 : decode prog_2_method_8_code 20 = .ok (.goto (-18), 3) := by decide +kernel
theorem dc_A_behindLastSlash_23 : decode prog_2_method_8_code 23 = .ok (.iload_n 3, 1) := by decide +kernel
theorem dc_A_behindLastSlash_24 : decode prog_2_method_8_code 24 = .ok (.ireturn, 1) := by decide +kernel
theorem dc_B_putUnescaped_0 : decode prog_4_method_9_code 0 = .ok (.iload_n 2, 1) := by decide +kernel
theorem dc_B_putUnescaped_1 : decode prog_4_method_9_code 1 = .ok (.istore 4, 2) := by decide +kernel
theorem dc_B_putUnescaped_3 : decode prog_4_method_9_code 3 = .ok (.iload 4, 2) := by decide +kernel
theorem dc_B_putUnescaped_5 : decode prog_4_method_9_code 5 = .ok (.iload_n 3, 1) := by decide +kernel
theorem dc_B_putUnescaped_6 : decode prog_4_method_9_code 6 = .ok (.if_icmp .ge 108, 3) := by decide +kernel
theorem dc_B_putUnescaped_9 : decode prog_4_method_9_code 9 = .ok (.aload_n 1, 1) := by decide +kernel
theorem dc_B_putUnescaped_10 : decode prog_4_method_9_code 10 = .ok (.iload 4, 2) := by decide +kernel
theorem dc_B_putUnescaped_12 : decode prog_4_method_9_code 12 = .ok (.iload_n 3, 1) := by decide +kernel
theorem dc_B_putUnescaped_13 : decode prog_4_method_9_code 13 = .ok (.invokestatic 58, 3) := by decide +kernel
theorem ln_B_58 : am_ln "WebFinder$Bytes" 58 mt_W_escapedByte.1 := Or.inr ⟨"WebFinder", (am_n3 173 rfl rfl)⟩
theorem dc_B_putUnescaped_16 : decode prog_4_method_9_code 16 = .ok (.istore 5, 2) := by decide +kernel
theorem dc_B_putUnescaped_18 : decode prog_4_method_9_code 18 = .ok (.iload 5, 2) := by decide +kernel
theorem dc_B_putUnescaped_20 : decode prog_4_method_9_code 20 = .ok (.iconst (-1), 1) := by decide +kernel
theorem dc_B_putUnescaped_21 : decode prog_4_method_9_code 21 = .ok (.if_icmp .ne 17, 3) := by decide +kernel
theorem dc_B_putUnescaped_24 : decode prog_4_method_9_code 24 = .ok (.aload_n 0, 1) := by decide +kernel
theorem dc_B_putUnescaped_25 : decode prog_4_method_9_code 25 = .ok (.aload_n 1, 1) := by decide +kernel
theorem dc_B_putUnescaped_26 : decode prog_4_method_9_code 26 = .ok (.iload 4, 2) := by decide +kernel
theorem dc_B_putUnescaped_28 : decode prog_4_method_9_code 28 = .ok (.baload, 1) := by decide +kernel
theorem dc_B_putUnescaped_29 : decode prog_4_method_9_code 29 = .ok (.invokevirtual 29, 3) := by decide +kernel
theorem dc_B_putUnescaped_32 : decode prog_4_method_9_code 32 = .ok (.iinc 4 1, 3) := by decide +kernel
theorem dc_B_putUnescaped_35 : decode prog_4_method_9_code 35 = .ok (.goto (-32), 3) := by decide +kernel
theorem dc_B_putUnescaped_38 : decode prog_4_method_9_code 38 = .ok (.iload 5, 2) := by decide +kernel
theorem dc_B_putUnescaped_40 : decode prog_4_method_9_code 40 = .ok (.invokestatic 62, 3) := by decide +kernel
theorem ln_B_62 : am_ln "WebFinder$Bytes" 62 mt_W_isLetter.1 := Or.inr ⟨"WebFinder", (am_n3 174 rfl rfl)⟩
theorem dc_B_putUnescaped_43 : decode prog_4_method_9_code 43 = .ok (.ifCond .ne 22, 3) := by decide +kernel
theorem dc_B_putUnescaped_46 : decode prog_4_method_9_code 46 = .ok (.iload 5, 2) := by decide +kernel
theorem dc_B_putUnescaped_48 : decode prog_4_method_9_code 48 = .ok (.invokestatic 66, 3) := by decide +kernel
theorem ln_B_66 : am_ln "WebFinder$Bytes" 66 mt_W_isDigit.1 := Or.inr ⟨"WebFinder", (am_n3 175 rfl rfl)⟩
theorem dc_B_putUnescaped_51 : decode prog_4_method_9_code 51 = .ok (.ifCond .ne 14, 3) := by decide +kernel
theorem dc_B_putUnescaped_54 : decode prog_4_method_9_code 54 = .ok (.ldc 69, 2) := by decide +kernel
theorem dc_B_putUnescaped_56 : decode prog_4_method_9_code 56 = .ok (.iload 5, 2) := by decide +kernel
theorem dc_B_putUnescaped_58 : decode prog_4_method_9_code 58 = .ok (.i2c, 1) := by decide +kernel
theorem dc_B_putUnescaped_59 : decode prog_4_method_9_code 59 = .ok (.invokevirtual 71, 3) := by decide +kernel
theorem ln_B_71 : am_ln "WebFinder$Bytes" 71 mt_JString_indexOf_0.1 := Or.inl (am_t3 177 rfl rfl)
theorem dc_B_putUnescaped_62 : decode prog_4_method_9_code 62 = .ok (.ifCond .lt 12, 3) := by decide +kernel
theorem dc_B_putUnescaped_65 : decode prog_4_method_9_code 65 = .ok (.aload_n 0, 1) := by decide +kernel
theorem dc_B_putUnescaped_66 : decode prog_4_method_9_code 66 = .ok (.iload 5, 2) := by decide +kernel
theorem dc_B_putUnescaped_68 : decode prog_4_method_9_code 68 = .ok (.invokevirtual 29, 3) := by decide +kernel
theorem dc_B_putUnescaped_71 : decode prog_4_method_9_code 71 = .ok (.goto 37, 3) := by decide +kernel
theorem dc_B_putUnescaped_74 : decode prog_4_method_9_code 74 = .ok (.aload_n 0, 1) := by decide +kernel
theorem dc_B_putUnescaped_75 : decode prog_4_method_9_code 75 = .ok (.bipush 37, 2) := by decide +kernel
theorem dc_B_putUnescaped_77 : decode prog_4_method_9_code 77 = .ok (.invokevirtual 29, 3) := by decide +kernel
theorem dc_B_putUnescaped_80 : decode prog_4_method_9_code 80 = .ok (.aload_n 0, 1) := by decide +kernel
theorem dc_B_putUnescaped_81 : decode prog_4_method_9_code 81 = .ok (.ldc 74, 2) := by decide +kernel
theorem dc_B_putUnescaped_83 : decode prog_4_method_9_code 83 = .ok (.iload 5, 2) := by decide +kernel
theorem dc_B_putUnescaped_85 : decode prog_4_method_9_code 85 = .ok (.bipush 16, 2) := by decide +kernel
theorem dc_B_putUnescaped_87 : decode prog_4_method_9_code 87 = .ok (.idiv, 1) := by decide +kernel
theorem dc_B_putUnescaped_88 : decode prog_4_method_9_code 88 = .ok (.invokevirtual 54, 3) := by decide +kernel
theorem dc_B_putUnescaped_91 : decode prog_4_method_9_code 91 = .ok (.invokevirtual 29, 3) := by decide +kernel
theorem dc_B_putUnescaped_94 : decode prog_4_method_9_code 94 = .ok (.aload_n 0, 1) := by decide +kernel
theorem dc_B_putUnescaped_95 : decode prog_4_method_9_code 95 = .ok (.ldc 74, 2) := by decide +kernel
theorem dc_B_putUnescaped_97 : decode prog_4_method_9_code 97 = .ok (.iload 5, 2) := by decide +kernel
theorem dc_B_putUnescaped_99 : decode prog_4_method_9_code 99 = .ok (.bipush 16, 2) := by decide +kernel
theorem dc_B_putUnescaped_101 : decode prog_4_method_9_code 101 = .ok (.irem, 1) := by decide +kernel
theorem dc_B_putUnescaped_102 : decode prog_4_method_9_code 102 = .ok (.invokevirtual 54, 3) := by decide +kernel
theorem dc_B_putUnescaped_105 : decode prog_4_method_9_code 105 = .ok (.invokevirtual 29, 3) := by decide +kernel
theorem dc_B_putUnescaped_108 : decode prog_4_method_9_code 108 = .ok (.iinc 4 3, 3) := by decide +kernel
theorem dc_B_putUnescaped_111 : decode prog_4_method_9_code 111 = .ok (.goto (-108), 3) := by decide +kernel
theorem dc_B_putUnescaped_114 : decode prog_4_method_9_code 114 = .ok (.return_, 1) := by decide +kernel
theorem dc_A_foldPath_0 : decode prog_2_method_9_code 0 = .ok (.aload_n 0, 1) := by decide +kernel
theorem dc_A_foldPath_1 : decode prog_2_method_9_code 1 = .ok (.getfield 14, 3) := by decide +kernel
theorem dc_A_foldPath_4 : decode prog_2_method_9_code 4 = .ok (.getfield 72, 3) := by decide +kernel
theorem dc_A_foldPath_7 : decode prog_2_method_9_code 7 = .ok (.istore_n 1, 1) := by decide +kernel
theorem dc_A_foldPath_8 : decode prog_2_method_9_code 8 = .ok (.aload_n 0, 1) := by decide +kernel
theorem dc_A_foldPath_9 : decode prog_2_method_9_code 9 = .ok (.getfield 20, 3) := by decide +kernel
theorem dc_A_foldPath_12 : decode prog_2_method_9_code 12 = .ok (.getfield 115, 3) := by decide +kernel
theorem dc_A_foldPath_15 : decode prog_2_method_9_code 15 = .ok (.bipush 63, 2) := by decide +kernel
theorem dc_A_foldPath_17 : decode prog_2_method_9_code 17 = .ok (.iconst 0, 1) := by decide +kernel
theorem dc_A_foldPath_18 : decode prog_2_method_9_code 18 = .ok (.aload_n 0, 1) := by decide +kernel
theorem dc_A_foldPath_19 : decode prog_2_method_9_code 19 = .ok (.getfield 20, 3) := by decide +kernel
theorem dc_A_foldPath_22 : decode prog_2_method_9_code 22 = .ok (.getfield 72, 3) := by decide +kernel
theorem dc_A_foldPath_25 : decode prog_2_method_9_code 25 = .ok (.invokestatic 33, 3) := by decide +kernel
theorem dc_A_foldPath_28 : decode prog_2_method_9_code 28 = .ok (.istore_n 2, 1) := by decide +kernel
theorem dc_A_foldPath_29 : decode prog_2_method_9_code 29 = .ok (.iload_n 2, 1) := by decide +kernel
theorem dc_A_foldPath_30 : decode prog_2_method_9_code 30 = .ok (.ifCond .ne 7, 3) := by decide +kernel
theorem dc_A_foldPath_33 : decode prog_2_method_9_code 33 = .ok (.iconst 1, 1) := by decide +kernel
theorem dc_A_foldPath_34 : decode prog_2_method_9_code 34 = .ok (.goto 4, 3) := by decide +kernel
theorem dc_A_foldPath_37 : decode prog_2_method_9_code 37 = .ok (.iconst 0, 1) := by decide +kernel
theorem dc_A_foldPath_38 : decode prog_2_method_9_code 38 = .ok (.istore_n 3, 1) := by decide +kernel
theorem dc_A_foldPath_39 : decode prog_2_method_9_code 39 = .ok (.iconst 1, 1) := by decide +kernel
theorem dc_A_foldPath_40 : decode prog_2_method_9_code 40 = .ok (.istore 4, 2) := by decide +kernel
theorem dc_A_foldPath_42 : decode prog_2_method_9_code 42 = .ok (.iload 4, 2) := by decide +kernel
theorem dc_A_foldPath_44 : decode prog_2_method_9_code 44 = .ok (.iload_n 2, 1) := by decide +kernel
theorem dc_A_foldPath_45 : decode prog_2_method_9_code 45 = .ok (.if_icmp .gt 127, 3) := by decide +kernel
theorem dc_A_foldPath_48 : decode prog_2_method_9_code 48 = .ok (.aload_n 0, 1) := by decide +kernel
theorem dc_A_foldPath_49 : decode prog_2_method_9_code 49 = .ok (.getfield 20, 3) := by decide +kernel
theorem dc_A_foldPath_52 : decode prog_2_method_9_code 52 = .ok (.getfield 115, 3) := by decide +kernel
theorem dc_A_foldPath_55 : decode prog_2_method_9_code 55 = .ok (.bipush 47, 2) := by decide +kernel
theorem dc_A_foldPath_57 : decode prog_2_method_9_code 57 = .ok (.iload 4, 2) := by decide +kernel
theorem dc_A_foldPath_59 : decode prog_2_method_9_code 59 = .ok (.iload_n 2, 1) := by decide +kernel
theorem dc_A_foldPath_60 : decode prog_2_method_9_code 60 = .ok (.invokestatic 33, 3) := by decide +kernel
theorem dc_A_foldPath_63 : decode prog_2_method_9_code 63 = .ok (.istore 5, 2) := by decide +kernel
theorem dc_A_foldPath_65 : decode prog_2_method_9_code 65 = .ok (.aload_n 0, 1) := by decide +kernel
theorem dc_A_foldPath_66 : decode prog_2_method_9_code 66 = .ok (.getfield 20, 3) := by decide +kernel
theorem dc_A_foldPath_69 : decode prog_2_method_9_code 69 = .ok (.getfield 115, 3) := by decide +kernel
theorem dc_A_foldPath_72 : decode prog_2_method_9_code 72 = .ok (.iload 4, 2) := by decide +kernel
theorem dc_A_foldPath_74 : decode prog_2_method_9_code 74 = .ok (.iload 5, 2) := by decide +kernel
theorem dc_A_foldPath_76 : decode prog_2_method_9_code 76 = .ok (.ldc 126, 2) := by decide +kernel
theorem dc_A_foldPath_78 : decode prog_2_method_9_code 78 = .ok (.invokestatic 49, 3) := by decide +kernel
theorem dc_A_foldPath_81 : decode prog_2_method_9_code 81 = .ok (.istore 6, 2) := by decide +kernel
theorem dc_A_foldPath_83 : decode prog_2_method_9_code 83 = .ok (.aload_n 0, 1) := by decide +kernel
theorem dc_A_foldPath_84 : decode prog_2_method_9_code 84 = .ok (.getfield 20, 3) := by decide +kernel
theorem dc_A_foldPath_87 : decode prog_2_method_9_code 87 = .ok (.getfield 115, 3) := by decide +kernel
theorem dc_A_foldPath_90 : decode prog_2_method_9_code 90 = .ok (.iload 4, 2) := by decide +kernel
theorem dc_A_foldPath_92 : decode prog_2_method_9_code 92 = .ok (.iload 5, 2) := by decide +kernel
theorem dc_A_foldPath_94 : decode prog_2_method_9_code 94 = .ok (.ldc 128, 2) := by decide +kernel
theorem dc_A_foldPath_96 : decode prog_2_method_9_code 96 = .ok (.invokestatic 49, 3) := by decide +kernel
theorem dc_A_foldPath_99 : decode prog_2_method_9_code 99 = .ok (.istore 7, 2) := by decide +kernel
theorem dc_A_foldPath_101 : decode prog_2_method_9_code 101 = .ok (.iload 6, 2) := by decide +kernel
theorem dc_A_foldPath_103 : decode prog_2_method_9_code 103 = .ok (.ifCond .ne 8, 3) := by decide +kernel
theorem dc_A_foldPath_106 : decode prog_2_method_9_code 106 = .ok (.iload 7, 2) := by decide +kernel
theorem dc_A_foldPath_108 : decode prog_2_method_9_code 108 = .ok (.ifCond .eq 7, 3) := by decide +kernel
theorem dc_A_foldPath_111 : decode prog_2_method_9_code 111 = .ok (.iconst 1, 1) := by decide +kernel
theorem dc_A_foldPath_112 : decode prog_2_method_9_code 112 = .ok (.goto 4, 3) := by decide +kernel
theorem dc_A_foldPath_115 : decode prog_2_method_9_code 115 = .ok (.iconst 0, 1) := by decide +kernel
theorem dc_A_foldPath_116 : decode prog_2_method_9_code 116 = .ok (.istore_n 3, 1) := by decide +kernel
theorem dc_A_foldPath_117 : decode prog_2_method_9_code 117 = .ok (.iload 7, 2) := by decide +kernel
theorem dc_A_foldPath_119 : decode prog_2_method_9_code 119 = .ok (.ifCond .eq 11, 3) := by decide +kernel
theorem dc_A_foldPath_122 : decode prog_2_method_9_code 122 = .ok (.aload_n 0, 1) := by decide +kernel
theorem dc_A_foldPath_123 : decode prog_2_method_9_code 123 = .ok (.iload_n 1, 1) := by decide +kernel
theorem dc_A_foldPath_124 : decode prog_2_method_9_code 124 = .ok (.invokevirtual 130, 3) := by decide +kernel
theorem mo_A_dropSegment : am_mo mt_A_dropSegment 1 := ⟨⟨by decide +kernel, by decide +kernel⟩, by decide +kernel, ⟨by decide +kernel, by decide +kernel⟩, (am_t3 188 rfl rfl), (am_t1 3 rfl rfl), by decide +kernel⟩
theorem im_A_dropSegment : Cond.instanceMethod mt_A_dropSegment.1 ∈ am_gw := (am_t3 187 rfl rfl)
theorem se_A_dropSegment : Cond.selects mt_A_dropSegment.1.cls mt_A_dropSegment.1 mt_A_dropSegment.1 ∈ am_gw := am_in (List.mem_append_left _ (by decide +kernel)) rfl
theorem ln_A_130 : am_ln "WebFinder$AddressReader" 130 mt_A_dropSegment.1 := Or.inl (am_t3 185 rfl rfl)
theorem dc_A_foldPath_127 : decode prog_2_method_9_code 127 = .ok (.goto 35, 3) := by decide +kernel
theorem dc_A_foldPath_130 : decode prog_2_method_9_code 130 = .ok (.iload 6, 2) := by decide +kernel
theorem dc_A_foldPath_132 : decode prog_2_method_9_code 132 = .ok (.ifCond .ne 30, 3) := by decide +kernel
theorem dc_A_foldPath_135 : decode prog_2_method_9_code 135 = .ok (.aload_n 0, 1) := by decide +kernel
theorem dc_A_foldPath_136 : decode prog_2_method_9_code 136 = .ok (.getfield 14, 3) := by decide +kernel
theorem dc_A_foldPath_139 : decode prog_2_method_9_code 139 = .ok (.bipush 47, 2) := by decide +kernel
theorem dc_A_foldPath_141 : decode prog_2_method_9_code 141 = .ok (.invokevirtual 101, 3) := by decide +kernel
theorem dc_A_foldPath_144 : decode prog_2_method_9_code 144 = .ok (.aload_n 0, 1) := by decide +kernel
theorem dc_A_foldPath_145 : decode prog_2_method_9_code 145 = .ok (.getfield 14, 3) := by decide +kernel
theorem dc_A_foldPath_148 : decode prog_2_method_9_code 148 = .ok (.aload_n 0, 1) := by decide +kernel
theorem dc_A_foldPath_149 : decode prog_2_method_9_code 149 = .ok (.getfield 20, 3) := by decide +kernel
theorem dc_A_foldPath_152 : decode prog_2_method_9_code 152 = .ok (.getfield 115, 3) := by decide +kernel
theorem dc_A_foldPath_155 : decode prog_2_method_9_code 155 = .ok (.iload 4, 2) := by decide +kernel
theorem dc_A_foldPath_157 : decode prog_2_method_9_code 157 = .ok (.iload 5, 2) := by decide +kernel
theorem dc_A_foldPath_159 : decode prog_2_method_9_code 159 = .ok (.invokevirtual 104, 3) := by decide +kernel
theorem dc_A_foldPath_162 : decode prog_2_method_9_code 162 = .ok (.iload 5, 2) := by decide +kernel
theorem dc_A_foldPath_164 : decode prog_2_method_9_code 164 = .ok (.istore 4, 2) := by decide +kernel
theorem dc_A_foldPath_166 : decode prog_2_method_9_code 166 = .ok (.iinc 4 1, 3) := by decide +kernel
theorem dc_A_foldPath_169 : decode prog_2_method_9_code 169 = .ok (.goto (-127), 3) := by decide +kernel
theorem dc_A_foldPath_172 : decode prog_2_method_9_code 172 = .ok (.iload_n 3, 1) := by decide +kernel
theorem dc_A_foldPath_173 : decode prog_2_method_9_code 173 = .ok (.ifCond .eq 12, 3) := by decide +kernel
theorem dc_A_foldPath_176 : decode prog_2_method_9_code 176 = .ok (.aload_n 0, 1) := by decide +kernel
theorem dc_A_foldPath_177 : decode prog_2_method_9_code 177 = .ok (.getfield 14, 3) := by decide +kernel
theorem dc_A_foldPath_180 : decode prog_2_method_9_code 180 = .ok (.bipush 47, 2) := by decide +kernel
theorem dc_A_foldPath_182 : decode prog_2_method_9_code 182 = .ok (.invokevirtual 101, 3) := by decide +kernel
theorem dc_A_foldPath_185 : decode prog_2_method_9_code 185 = .ok (.aload_n 0, 1) := by decide +kernel
theorem dc_A_foldPath_186 : decode prog_2_method_9_code 186 = .ok (.getfield 14, 3) := by decide +kernel
theorem dc_A_foldPath_189 : decode prog_2_method_9_code 189 = .ok (.aload_n 0, 1) := by decide +kernel
theorem dc_A_foldPath_190 : decode prog_2_method_9_code 190 = .ok (.getfield 20, 3) := by decide +kernel
theorem dc_A_foldPath_193 : decode prog_2_method_9_code 193 = .ok (.getfield 115, 3) := by decide +kernel
theorem dc_A_foldPath_196 : decode prog_2_method_9_code 196 = .ok (.iload_n 2, 1) := by decide +kernel
theorem dc_A_foldPath_197 : decode prog_2_method_9_code 197 = .ok (.aload_n 0, 1) := by decide +kernel
theorem dc_A_foldPath_198 : decode prog_2_method_9_code 198 = .ok (.getfield 20, 3) := by decide +kernel
theorem dc_A_foldPath_201 : decode prog_2_method_9_code 201 = .ok (.getfield 72, 3) := by decide +kernel
theorem dc_A_foldPath_204 : decode prog_2_method_9_code 204 = .ok (.invokevirtual 104, 3) := by decide +kernel
theorem dc_A_foldPath_207 : decode prog_2_method_9_code 207 = .ok (.return_, 1) := by decide +kernel
theorem dc_A_dropSegment_0 : decode prog_2_method_10_code 0 = .ok (.aload_n 0, 1) := by decide +kernel
theorem dc_A_dropSegment_1 : decode prog_2_method_10_code 1 = .ok (.getfield 14, 3) := by decide +kernel
theorem dc_A_dropSegment_4 : decode prog_2_method_10_code 4 = .ok (.getfield 115, 3) := by decide +kernel
theorem dc_A_dropSegment_7 : decode prog_2_method_10_code 7 = .ok (.iload_n 1, 1) := by decide +kernel
theorem dc_A_dropSegment_8 : decode prog_2_method_10_code 8 = .ok (.aload_n 0, 1) := by decide +kernel
theorem dc_A_dropSegment_9 : decode prog_2_method_10_code 9 = .ok (.getfield 14, 3) := by decide +kernel
theorem dc_A_dropSegment_12 : decode prog_2_method_10_code 12 = .ok (.getfield 72, 3) := by decide +kernel
theorem dc_A_dropSegment_15 : decode prog_2_method_10_code 15 = .ok (.invokestatic 123, 3) := by decide +kernel
theorem dc_A_dropSegment_18 : decode prog_2_method_10_code 18 = .ok (.istore_n 2, 1) := by decide +kernel
theorem dc_A_dropSegment_19 : decode prog_2_method_10_code 19 = .ok (.aload_n 0, 1) := by decide +kernel
theorem dc_A_dropSegment_20 : decode prog_2_method_10_code 20 = .ok (.getfield 14, 3) := by decide +kernel
theorem dc_A_dropSegment_23 : decode prog_2_method_10_code 23 = .ok (.iload_n 1, 1) := by decide +kernel
theorem dc_A_dropSegment_24 : decode prog_2_method_10_code 24 = .ok (.iload_n 2, 1) := by decide +kernel
theorem dc_A_dropSegment_25 : decode prog_2_method_10_code 25 = .ok (.iconst 1, 1) := by decide +kernel
theorem dc_A_dropSegment_26 : decode prog_2_method_10_code 26 = .ok (.isub, 1) := by decide +kernel
theorem dc_A_dropSegment_27 : decode prog_2_method_10_code 27 = .ok (.invokestatic 133, 3) := by decide +kernel
theorem ln_A_133 : am_ln "WebFinder$AddressReader" 133 mt_JMath_max.1 := Or.inl (am_t3 189 rfl rfl)
theorem dc_A_dropSegment_30 : decode prog_2_method_10_code 30 = .ok (.putfield 72, 3) := by decide +kernel
theorem fp_A_dropSegment_72 : am_fp mt_A_dropSegment.1 72 1 1 (.int) := ⟨"WebFinder$Bytes", tt_B, 2, rfl, by decide, ct_B 1 (by decide), Or.inl ⟨(am_t1 60 rfl rfl), Or.inl rfl⟩⟩
theorem dc_A_dropSegment_33 : decode prog_2_method_10_code 33 = .ok (.return_, 1) := by decide +kernel
theorem dc_B_become_0 : decode prog_4_method_3_code 0 = .ok (.aload_n 0, 1) := by decide +kernel
theorem dc_B_become_1 : decode prog_4_method_3_code 1 = .ok (.iconst 0, 1) := by decide +kernel
theorem dc_B_become_2 : decode prog_4_method_3_code 2 = .ok (.putfield 15, 3) := by decide +kernel
theorem fp_B_become_15 : am_fp mt_B_become.1 15 1 1 (.int) := ⟨"WebFinder$Bytes", tt_B, 2, rfl, by decide, ct_B 1 (by decide), Or.inl ⟨(am_t1 57 rfl rfl), Or.inl rfl⟩⟩
theorem dc_B_become_5 : decode prog_4_method_3_code 5 = .ok (.aload_n 0, 1) := by decide +kernel
theorem dc_B_become_6 : decode prog_4_method_3_code 6 = .ok (.aload_n 1, 1) := by decide +kernel
theorem dc_B_become_7 : decode prog_4_method_3_code 7 = .ok (.getfield 9, 3) := by decide +kernel
theorem dc_B_become_10 : decode prog_4_method_3_code 10 = .ok (.iconst 0, 1) := by decide +kernel
theorem dc_B_become_11 : decode prog_4_method_3_code 11 = .ok (.aload_n 1, 1) := by decide +kernel
theorem dc_B_become_12 : decode prog_4_method_3_code 12 = .ok (.getfield 15, 3) := by decide +kernel
theorem dc_B_become_15 : decode prog_4_method_3_code 15 = .ok (.invokevirtual 19, 3) := by decide +kernel
theorem ln_B_19 : am_ln "WebFinder$Bytes" 19 mt_B_putAll.1 := Or.inl (am_t3 194 rfl rfl)
theorem dc_B_become_18 : decode prog_4_method_3_code 18 = .ok (.return_, 1) := by decide +kernel
theorem dc_W_restFrom_0 : decode prog_1_method_31_code 0 = .ok (.aload_n 0, 1) := by decide +kernel
theorem dc_W_restFrom_1 : decode prog_1_method_31_code 1 = .ok (.invokevirtual 286, 3) := by decide +kernel
theorem dc_W_restFrom_4 : decode prog_1_method_31_code 4 = .ok (.iconst 1, 1) := by decide +kernel
theorem dc_W_restFrom_5 : decode prog_1_method_31_code 5 = .ok (.iadd, 1) := by decide +kernel
theorem dc_W_restFrom_6 : decode prog_1_method_31_code 6 = .ok (.aload_n 0, 1) := by decide +kernel
theorem dc_W_restFrom_7 : decode prog_1_method_31_code 7 = .ok (.getfield 12, 3) := by decide +kernel
theorem dc_W_restFrom_10 : decode prog_1_method_31_code 10 = .ok (.getfield 85, 3) := by decide +kernel
theorem dc_W_restFrom_13 : decode prog_1_method_31_code 13 = .ok (.invokestatic 187, 3) := by decide +kernel
theorem ln_W_187 : am_ln "WebFinder" 187 mt_JMath_min.1 := Or.inl (am_t3 199 rfl rfl)
theorem dc_W_restFrom_16 : decode prog_1_method_31_code 16 = .ok (.ireturn, 1) := by decide +kernel
theorem dc_W_page_0 : decode prog_1_method_5_code 0 = .ok (.aload_n 0, 1) := by decide +kernel
theorem dc_W_page_1 : decode prog_1_method_5_code 1 = .ok (.invokevirtual 98, 3) := by decide +kernel
theorem dc_W_page_4 : decode prog_1_method_5_code 4 = .ok (.istore_n 2, 1) := by decide +kernel
theorem dc_W_page_5 : decode prog_1_method_5_code 5 = .ok (.iconst (-1), 1) := by decide +kernel
theorem dc_W_page_6 : decode prog_1_method_5_code 6 = .ok (.istore_n 3, 1) := by decide +kernel
theorem dc_W_page_7 : decode prog_1_method_5_code 7 = .ok (.iload_n 2, 1) := by decide +kernel
theorem dc_W_page_8 : decode prog_1_method_5_code 8 = .ok (.ifCond .eq 40, 3) := by decide +kernel
theorem dc_W_page_11 : decode prog_1_method_5_code 11 = .ok (.iload_n 1, 1) := by decide +kernel
theorem dc_W_page_12 : decode prog_1_method_5_code 12 = .ok (.bipush 100, 2) := by decide +kernel
theorem dc_W_page_14 : decode prog_1_method_5_code 14 = .ok (.if_icmp .lt 34, 3) := by decide +kernel
theorem dc_W_page_17 : decode prog_1_method_5_code 17 = .ok (.iload_n 1, 1) := by decide +kernel
theorem dc_W_page_18 : decode prog_1_method_5_code 18 = .ok (.sipush 599, 3) := by decide +kernel
theorem dc_W_page_21 : decode prog_1_method_5_code 21 = .ok (.if_icmp .gt 27, 3) := by decide +kernel
theorem dc_W_page_24 : decode prog_1_method_5_code 24 = .ok (.aload_n 0, 1) := by decide +kernel
theorem dc_W_page_25 : decode prog_1_method_5_code 25 = .ok (.getfield 43, 3) := by decide +kernel
theorem dc_W_page_28 : decode prog_1_method_5_code 28 = .ok (.aload_n 0, 1) := by decide +kernel
theorem dc_W_page_29 : decode prog_1_method_5_code 29 = .ok (.getfield 27, 3) := by decide +kernel
theorem dc_W_page_32 : decode prog_1_method_5_code 32 = .ok (.getfield 102, 3) := by decide +kernel
theorem dc_W_page_35 : decode prog_1_method_5_code 35 = .ok (.iload_n 1, 1) := by decide +kernel
theorem dc_W_page_36 : decode prog_1_method_5_code 36 = .ok (.aload_n 0, 1) := by decide +kernel
theorem dc_W_page_37 : decode prog_1_method_5_code 37 = .ok (.getfield 12, 3) := by decide +kernel
theorem dc_W_page_40 : decode prog_1_method_5_code 40 = .ok (.aload_n 0, 1) := by decide +kernel
theorem dc_W_page_41 : decode prog_1_method_5_code 41 = .ok (.invokevirtual 113, 3) := by decide +kernel
theorem dc_W_page_44 : decode prog_1_method_5_code 44 = .ok (.invokevirtual 124, 3) := by decide +kernel
theorem mo_V_tellPage : am_mo mt_V_tellPage 4 := ⟨⟨by decide +kernel, by decide +kernel⟩, by decide +kernel, ⟨by decide +kernel, by decide +kernel⟩, (am_t3 208 rfl rfl), (am_t1 7 rfl rfl), by decide +kernel⟩
theorem im_V_tellPage : Cond.instanceMethod mt_V_tellPage.1 ∈ am_gw := (am_t3 206 rfl rfl)
theorem se_V_tellPage : Cond.selects mt_V_tellPage.1.cls mt_V_tellPage.1 mt_V_tellPage.1 ∈ am_gw := (am_t3 207 rfl rfl)
theorem ln_W_124 : am_ln "WebFinder" 124 mt_V_tellPage.1 := Or.inl (am_t3 205 rfl rfl)
theorem dc_W_page_47 : decode prog_1_method_5_code 47 = .ok (.istore_n 3, 1) := by decide +kernel
theorem dc_W_page_48 : decode prog_1_method_5_code 48 = .ok (.aload_n 0, 1) := by decide +kernel
theorem dc_W_page_49 : decode prog_1_method_5_code 49 = .ok (.getfield 12, 3) := by decide +kernel
theorem dc_W_page_52 : decode prog_1_method_5_code 52 = .ok (.invokevirtual 121, 3) := by decide +kernel
theorem dc_W_page_55 : decode prog_1_method_5_code 55 = .ok (.iload_n 3, 1) := by decide +kernel
theorem dc_W_page_56 : decode prog_1_method_5_code 56 = .ok (.ireturn, 1) := by decide +kernel
theorem dc_V_tellPage_0 : decode prog_12_method_4_code 0 = .ok (.aload_n 0, 1) := by decide +kernel
theorem dc_V_tellPage_1 : decode prog_12_method_4_code 1 = .ok (.aload_n 1, 1) := by decide +kernel
theorem dc_V_tellPage_2 : decode prog_12_method_4_code 2 = .ok (.invokevirtual 31, 3) := by decide +kernel
theorem mo_V_pageNumber : am_mo mt_V_pageNumber 1 := ⟨⟨by decide +kernel, by decide +kernel⟩, by decide +kernel, ⟨by decide +kernel, by decide +kernel⟩, (am_t3 212 rfl rfl), (am_t1 7 rfl rfl), by decide +kernel⟩
theorem im_V_pageNumber : Cond.instanceMethod mt_V_pageNumber.1 ∈ am_gw := (am_t3 211 rfl rfl)
theorem se_V_pageNumber : Cond.selects mt_V_pageNumber.1.cls mt_V_pageNumber.1 mt_V_pageNumber.1 ∈ am_gw := am_in (List.mem_append_left _ (by decide +kernel)) rfl
theorem ln_V_31 : am_ln "WebFinder$Web" 31 mt_V_pageNumber.1 := Or.inl (am_t3 209 rfl rfl)
theorem dc_V_tellPage_5 : decode prog_12_method_4_code 5 = .ok (.istore 5, 2) := by decide +kernel
theorem dc_V_tellPage_7 : decode prog_12_method_4_code 7 = .ok (.iload 5, 2) := by decide +kernel
theorem dc_V_tellPage_9 : decode prog_12_method_4_code 9 = .ok (.iconst (-1), 1) := by decide +kernel
theorem dc_V_tellPage_10 : decode prog_12_method_4_code 10 = .ok (.if_icmp .ne 14, 3) := by decide +kernel
theorem dc_V_tellPage_13 : decode prog_12_method_4_code 13 = .ok (.aload_n 0, 1) := by decide +kernel
theorem dc_V_tellPage_14 : decode prog_12_method_4_code 14 = .ok (.getfield 23, 3) := by decide +kernel
theorem fl_V_23 : am_fl "WebFinder$Web" 23 6 0 := ⟨"WebFinder$Web", tt_V, 4, rfl, by decide, Or.inl (am_t1 199 rfl rfl)⟩
theorem dc_V_tellPage_17 : decode prog_12_method_4_code 17 = .ok (.bipush 60, 2) := by decide +kernel
theorem dc_V_tellPage_19 : decode prog_12_method_4_code 19 = .ok (.if_icmp .ne 5, 3) := by decide +kernel
theorem dc_V_tellPage_22 : decode prog_12_method_4_code 22 = .ok (.iconst (-1), 1) := by decide +kernel
theorem dc_V_tellPage_23 : decode prog_12_method_4_code 23 = .ok (.ireturn, 1) := by decide +kernel
theorem dc_V_tellPage_24 : decode prog_12_method_4_code 24 = .ok (.iload 5, 2) := by decide +kernel
theorem dc_V_tellPage_26 : decode prog_12_method_4_code 26 = .ok (.iconst (-1), 1) := by decide +kernel
theorem dc_V_tellPage_27 : decode prog_12_method_4_code 27 = .ok (.if_icmp .ne 19, 3) := by decide +kernel
theorem dc_V_tellPage_30 : decode prog_12_method_4_code 30 = .ok (.aload_n 0, 1) := by decide +kernel
theorem dc_V_tellPage_31 : decode prog_12_method_4_code 31 = .ok (.getfield 23, 3) := by decide +kernel
theorem dc_V_tellPage_34 : decode prog_12_method_4_code 34 = .ok (.istore 5, 2) := by decide +kernel
theorem dc_V_tellPage_36 : decode prog_12_method_4_code 36 = .ok (.aload_n 0, 1) := by decide +kernel
theorem dc_V_tellPage_37 : decode prog_12_method_4_code 37 = .ok (.dup, 1) := by decide +kernel
theorem dc_V_tellPage_38 : decode prog_12_method_4_code 38 = .ok (.getfield 23, 3) := by decide +kernel
theorem dc_V_tellPage_41 : decode prog_12_method_4_code 41 = .ok (.iconst 1, 1) := by decide +kernel
theorem dc_V_tellPage_42 : decode prog_12_method_4_code 42 = .ok (.iadd, 1) := by decide +kernel
theorem dc_V_tellPage_43 : decode prog_12_method_4_code 43 = .ok (.putfield 23, 3) := by decide +kernel
theorem fp_V_tellPage_23 : am_fp mt_V_tellPage.1 23 6 0 (.int) := ⟨"WebFinder$Web", tt_V, 4, rfl, by decide, ct_V 0 (by decide), Or.inl ⟨(am_t1 199 rfl rfl), Or.inl rfl⟩⟩
theorem dc_V_tellPage_46 : decode prog_12_method_4_code 46 = .ok (.aload_n 0, 1) := by decide +kernel
theorem dc_V_tellPage_47 : decode prog_12_method_4_code 47 = .ok (.getfield 11, 3) := by decide +kernel
theorem fl_V_11 : am_fl "WebFinder$Web" 11 6 1 := ⟨"WebFinder$Web", tt_V, 4, rfl, by decide, Or.inl (am_t1 201 rfl rfl)⟩
theorem dc_V_tellPage_50 : decode prog_12_method_4_code 50 = .ok (.iload 5, 2) := by decide +kernel
theorem dc_V_tellPage_52 : decode prog_12_method_4_code 52 = .ok (.new 9, 3) := by decide +kernel
theorem mk_V_9 : am_mk "WebFinder$Web" 9 10 [.null, .int 0, .null] := ⟨"WebFinder$Page", tt_G, 3, ty_G, rfl, ct_G, (am_t1 195 rfl rfl), (am_t3 220 rfl rfl), (am_t1 25 rfl rfl), rfl, fun _ => rfl, by decide +kernel⟩
theorem dc_V_tellPage_55 : decode prog_12_method_4_code 55 = .ok (.dup, 1) := by decide +kernel
theorem dc_V_tellPage_56 : decode prog_12_method_4_code 56 = .ok (.aload_n 1, 1) := by decide +kernel
theorem dc_V_tellPage_57 : decode prog_12_method_4_code 57 = .ok (.iload_n 2, 1) := by decide +kernel
theorem dc_V_tellPage_58 : decode prog_12_method_4_code 58 = .ok (.aload_n 3, 1) := by decide +kernel
theorem dc_V_tellPage_59 : decode prog_12_method_4_code 59 = .ok (.iload 4, 2) := by decide +kernel
theorem dc_V_tellPage_61 : decode prog_12_method_4_code 61 = .ok (.invokespecial 35, 3) := by decide +kernel
theorem mo_G_init : am_mo mt_G_init 4 := ⟨⟨by decide +kernel, by decide +kernel⟩, by decide +kernel, ⟨by decide +kernel, by decide +kernel⟩, (am_t3 223 rfl rfl), (am_t1 25 rfl rfl), by decide +kernel⟩
theorem im_G_init : Cond.instanceMethod mt_G_init.1 ∈ am_gw := (am_t3 222 rfl rfl)
theorem ln_V_35 : am_ln "WebFinder$Web" 35 mt_G_init.1 := Or.inl (am_t3 221 rfl rfl)
theorem dc_V_tellPage_64 : decode prog_12_method_4_code 64 = .ok (.aastore, 1) := by decide +kernel
theorem dc_V_tellPage_65 : decode prog_12_method_4_code 65 = .ok (.aload_n 0, 1) := by decide +kernel
theorem dc_V_tellPage_66 : decode prog_12_method_4_code 66 = .ok (.getfield 23, 3) := by decide +kernel
theorem dc_V_tellPage_69 : decode prog_12_method_4_code 69 = .ok (.ireturn, 1) := by decide +kernel
theorem dc_V_pageNumber_0 : decode prog_12_method_2_code 0 = .ok (.iconst 0, 1) := by decide +kernel
theorem dc_V_pageNumber_1 : decode prog_12_method_2_code 1 = .ok (.istore_n 2, 1) := by decide +kernel
theorem dc_V_pageNumber_2 : decode prog_12_method_2_code 2 = .ok (.iload_n 2, 1) := by decide +kernel
theorem dc_V_pageNumber_3 : decode prog_12_method_2_code 3 = .ok (.aload_n 0, 1) := by decide +kernel
theorem dc_V_pageNumber_4 : decode prog_12_method_2_code 4 = .ok (.getfield 23, 3) := by decide +kernel
theorem dc_V_pageNumber_7 : decode prog_12_method_2_code 7 = .ok (.if_icmp .ge 24, 3) := by decide +kernel
theorem dc_V_pageNumber_10 : decode prog_12_method_2_code 10 = .ok (.aload_n 0, 1) := by decide +kernel
theorem dc_V_pageNumber_11 : decode prog_12_method_2_code 11 = .ok (.getfield 11, 3) := by decide +kernel
theorem dc_V_pageNumber_14 : decode prog_12_method_2_code 14 = .ok (.iload_n 2, 1) := by decide +kernel
theorem dc_V_pageNumber_15 : decode prog_12_method_2_code 15 = .ok (.aaload, 1) := by decide +kernel
theorem dc_V_pageNumber_16 : decode prog_12_method_2_code 16 = .ok (.aload_n 1, 1) := by decide +kernel
theorem dc_V_pageNumber_17 : decode prog_12_method_2_code 17 = .ok (.invokevirtual 27, 3) := by decide +kernel
theorem mo_G_isAt : am_mo mt_G_isAt 1 := ⟨⟨by decide +kernel, by decide +kernel⟩, by decide +kernel, ⟨by decide +kernel, by decide +kernel⟩, (am_t3 216 rfl rfl), (am_t1 25 rfl rfl), by decide +kernel⟩
theorem im_G_isAt : Cond.instanceMethod mt_G_isAt.1 ∈ am_gw := (am_t3 214 rfl rfl)
theorem se_G_isAt : Cond.selects mt_G_isAt.1.cls mt_G_isAt.1 mt_G_isAt.1 ∈ am_gw := (am_t3 215 rfl rfl)
theorem ln_V_27 : am_ln "WebFinder$Web" 27 mt_G_isAt.1 := Or.inl (am_t3 213 rfl rfl)
theorem dc_V_pageNumber_20 : decode prog_12_method_2_code 20 = .ok (.ifCond .eq 5, 3) := by decide +kernel
theorem dc_V_pageNumber_23 : decode prog_12_method_2_code 23 = .ok (.iload_n 2, 1) := by decide +kernel
theorem dc_V_pageNumber_24 : decode prog_12_method_2_code 24 = .ok (.ireturn, 1) := by decide +kernel
theorem dc_V_pageNumber_25 : decode prog_12_method_2_code 25 = .ok (.iinc 2 1, 3) := by decide +kernel
theorem dc_V_pageNumber_28 : decode prog_12_method_2_code 28 = .ok (.goto (-26), 3) := by decide +kernel
theorem dc_V_pageNumber_31 : decode prog_12_method_2_code 31 = .ok (.iconst (-1), 1) := by decide +kernel
theorem dc_V_pageNumber_32 : decode prog_12_method_2_code 32 = .ok (.ireturn, 1) := by decide +kernel
theorem dc_G_isAt_0 : decode prog_7_method_2_code 0 = .ok (.aload_n 0, 1) := by decide +kernel
theorem dc_G_isAt_1 : decode prog_7_method_2_code 1 = .ok (.getfield 23, 3) := by decide +kernel
theorem fl_G_23 : am_fl "WebFinder$Page" 23 10 0 := ⟨"WebFinder$Page", tt_G, 3, rfl, by decide, Or.inl (am_t5 0 rfl rfl)⟩
theorem dc_G_isAt_4 : decode prog_7_method_2_code 4 = .ok (.arraylength, 1) := by decide +kernel
theorem dc_G_isAt_5 : decode prog_7_method_2_code 5 = .ok (.aload_n 1, 1) := by decide +kernel
theorem dc_G_isAt_6 : decode prog_7_method_2_code 6 = .ok (.getfield 13, 3) := by decide +kernel
theorem fl_G_13 : am_fl "WebFinder$Page" 13 1 1 := ⟨"WebFinder$Bytes", tt_B, 2, rfl, by decide, Or.inl (am_t1 56 rfl rfl)⟩
theorem dc_G_isAt_9 : decode prog_7_method_2_code 9 = .ok (.if_icmp .ne 27, 3) := by decide +kernel
theorem dc_G_isAt_12 : decode prog_7_method_2_code 12 = .ok (.aload_n 0, 1) := by decide +kernel
theorem dc_G_isAt_13 : decode prog_7_method_2_code 13 = .ok (.getfield 23, 3) := by decide +kernel
theorem dc_G_isAt_16 : decode prog_7_method_2_code 16 = .ok (.iconst 0, 1) := by decide +kernel
theorem dc_G_isAt_17 : decode prog_7_method_2_code 17 = .ok (.aload_n 1, 1) := by decide +kernel
theorem dc_G_isAt_18 : decode prog_7_method_2_code 18 = .ok (.getfield 7, 3) := by decide +kernel
theorem fl_G_7 : am_fl "WebFinder$Page" 7 1 0 := ⟨"WebFinder$Bytes", tt_B, 2, rfl, by decide, Or.inl (am_t1 45 rfl rfl)⟩
theorem dc_G_isAt_21 : decode prog_7_method_2_code 21 = .ok (.iconst 0, 1) := by decide +kernel
theorem dc_G_isAt_22 : decode prog_7_method_2_code 22 = .ok (.aload_n 1, 1) := by decide +kernel
theorem dc_G_isAt_23 : decode prog_7_method_2_code 23 = .ok (.getfield 13, 3) := by decide +kernel
theorem dc_G_isAt_26 : decode prog_7_method_2_code 26 = .ok (.invokestatic 38, 3) := by decide +kernel
theorem mo_W_sameBytes : am_mo mt_W_sameBytes 5 := ⟨⟨by decide +kernel, by decide +kernel⟩, by decide +kernel, ⟨by decide +kernel, by decide +kernel⟩, (am_t3 219 rfl rfl), (am_t1 1 rfl rfl), by decide +kernel⟩
theorem st_W_sameBytes : Cond.static mt_W_sameBytes.1 ∈ am_gw := (am_t3 218 rfl rfl)
theorem ln_G_38 : am_ln "WebFinder$Page" 38 mt_W_sameBytes.1 := Or.inr ⟨"WebFinder", (am_n3 217 rfl rfl)⟩
theorem dc_G_isAt_29 : decode prog_7_method_2_code 29 = .ok (.ifCond .eq 7, 3) := by decide +kernel
theorem dc_G_isAt_32 : decode prog_7_method_2_code 32 = .ok (.iconst 1, 1) := by decide +kernel
theorem dc_G_isAt_33 : decode prog_7_method_2_code 33 = .ok (.goto 4, 3) := by decide +kernel
theorem dc_G_isAt_36 : decode prog_7_method_2_code 36 = .ok (.iconst 0, 1) := by decide +kernel
theorem dc_G_isAt_37 : decode prog_7_method_2_code 37 = .ok (.ireturn, 1) := by decide +kernel
theorem dc_W_sameBytes_0 : decode prog_1_method_45_code 0 = .ok (.iload 4, 2) := by decide +kernel
theorem dc_W_sameBytes_2 : decode prog_1_method_45_code 2 = .ok (.iconst 1, 1) := by decide +kernel
theorem dc_W_sameBytes_3 : decode prog_1_method_45_code 3 = .ok (.isub, 1) := by decide +kernel
theorem dc_W_sameBytes_4 : decode prog_1_method_45_code 4 = .ok (.istore 5, 2) := by decide +kernel
theorem dc_W_sameBytes_6 : decode prog_1_method_45_code 6 = .ok (.iload 5, 2) := by decide +kernel
theorem dc_W_sameBytes_8 : decode prog_1_method_45_code 8 = .ok (.ifCond .lt 26, 3) := by decide +kernel
theorem dc_W_sameBytes_11 : decode prog_1_method_45_code 11 = .ok (.aload_n 0, 1) := by decide +kernel
theorem dc_W_sameBytes_12 : decode prog_1_method_45_code 12 = .ok (.iload_n 1, 1) := by decide +kernel
theorem dc_W_sameBytes_13 : decode prog_1_method_45_code 13 = .ok (.iload 5, 2) := by decide +kernel
theorem dc_W_sameBytes_15 : decode prog_1_method_45_code 15 = .ok (.iadd, 1) := by decide +kernel
theorem dc_W_sameBytes_16 : decode prog_1_method_45_code 16 = .ok (.baload, 1) := by decide +kernel
theorem dc_W_sameBytes_17 : decode prog_1_method_45_code 17 = .ok (.aload_n 2, 1) := by decide +kernel
theorem dc_W_sameBytes_18 : decode prog_1_method_45_code 18 = .ok (.iload_n 3, 1) := by decide +kernel
theorem dc_W_sameBytes_19 : decode prog_1_method_45_code 19 = .ok (.iload 5, 2) := by decide +kernel
theorem dc_W_sameBytes_21 : decode prog_1_method_45_code 21 = .ok (.iadd, 1) := by decide +kernel
theorem dc_W_sameBytes_22 : decode prog_1_method_45_code 22 = .ok (.baload, 1) := by decide +kernel
theorem dc_W_sameBytes_23 : decode prog_1_method_45_code 23 = .ok (.if_icmp .eq 5, 3) := by decide +kernel
theorem dc_W_sameBytes_26 : decode prog_1_method_45_code 26 = .ok (.iconst 0, 1) := by decide +kernel
theorem dc_W_sameBytes_27 : decode prog_1_method_45_code 27 = .ok (.ireturn, 1) := by decide +kernel
theorem dc_W_sameBytes_28 : decode prog_1_method_45_code 28 = .ok (.iinc 5 (-1), 3) := by decide +kernel
theorem dc_W_sameBytes_31 : decode prog_1_method_45_code 31 = .ok (.goto (-25), 3) := by decide +kernel
theorem dc_W_sameBytes_34 : decode prog_1_method_45_code 34 = .ok (.iconst 1, 1) := by decide +kernel
theorem dc_W_sameBytes_35 : decode prog_1_method_45_code 35 = .ok (.ireturn, 1) := by decide +kernel
theorem dc_G_init_0 : decode prog_7_method_1_code 0 = .ok (.aload_n 0, 1) := by decide +kernel
theorem dc_G_init_1 : decode prog_7_method_1_code 1 = .ok (.invokespecial 1, 3) := by decide +kernel
theorem ob_G_1 : Cond.methodLink "WebFinder$Page" 1 Lib.objectInit ∈ am_gw := (am_t3 224 rfl rfl)
theorem dc_G_init_4 : decode prog_7_method_1_code 4 = .ok (.aload_n 0, 1) := by decide +kernel
theorem dc_G_init_5 : decode prog_7_method_1_code 5 = .ok (.aload_n 1, 1) := by decide +kernel
theorem dc_G_init_6 : decode prog_7_method_1_code 6 = .ok (.getfield 7, 3) := by decide +kernel
theorem dc_G_init_9 : decode prog_7_method_1_code 9 = .ok (.aload_n 1, 1) := by decide +kernel
theorem dc_G_init_10 : decode prog_7_method_1_code 10 = .ok (.getfield 13, 3) := by decide +kernel
theorem dc_G_init_13 : decode prog_7_method_1_code 13 = .ok (.invokestatic 17, 3) := by decide +kernel
theorem ln_G_17 : am_ln "WebFinder$Page" 17 mt_JArrays_copyOf_0.1 := Or.inl (am_t3 225 rfl rfl)
theorem dc_G_init_16 : decode prog_7_method_1_code 16 = .ok (.putfield 23, 3) := by decide +kernel
theorem fp_G_init_23 : am_fp mt_G_init.1 23 10 0 (.array .byte) := ⟨"WebFinder$Page", tt_G, 3, rfl, by decide, ct_G 0 (by decide), Or.inl ⟨(am_t5 0 rfl rfl), Or.inr ⟨rfl, rfl, rfl⟩⟩⟩
theorem dc_G_init_19 : decode prog_7_method_1_code 19 = .ok (.aload_n 0, 1) := by decide +kernel
theorem dc_G_init_20 : decode prog_7_method_1_code 20 = .ok (.iload_n 2, 1) := by decide +kernel
theorem dc_G_init_21 : decode prog_7_method_1_code 21 = .ok (.putfield 28, 3) := by decide +kernel
theorem fp_G_init_28 : am_fp mt_G_init.1 28 10 1 (.int) := ⟨"WebFinder$Page", tt_G, 3, rfl, by decide, ct_G 1 (by decide), Or.inl ⟨(am_t5 3 rfl rfl), Or.inr ⟨rfl, rfl, rfl⟩⟩⟩
theorem dc_G_init_24 : decode prog_7_method_1_code 24 = .ok (.aload_n 0, 1) := by decide +kernel
theorem dc_G_init_25 : decode prog_7_method_1_code 25 = .ok (.aload_n 3, 1) := by decide +kernel
theorem dc_G_init_26 : decode prog_7_method_1_code 26 = .ok (.getfield 7, 3) := by decide +kernel
theorem dc_G_init_29 : decode prog_7_method_1_code 29 = .ok (.iload 4, 2) := by decide +kernel
theorem dc_G_init_31 : decode prog_7_method_1_code 31 = .ok (.aload_n 3, 1) := by decide +kernel
theorem dc_G_init_32 : decode prog_7_method_1_code 32 = .ok (.getfield 13, 3) := by decide +kernel
theorem dc_G_init_35 : decode prog_7_method_1_code 35 = .ok (.invokestatic 31, 3) := by decide +kernel
theorem mo_JArrays_copyOfRange : am_mo mt_JArrays_copyOfRange 3 := ⟨⟨by decide +kernel, by decide +kernel⟩, by decide +kernel, ⟨by decide +kernel, by decide +kernel⟩, (am_t3 228 rfl rfl), (am_t1 16 rfl rfl), by decide +kernel⟩
theorem st_JArrays_copyOfRange : Cond.static mt_JArrays_copyOfRange.1 ∈ am_gw := (am_t3 227 rfl rfl)
theorem ln_G_31 : am_ln "WebFinder$Page" 31 mt_JArrays_copyOfRange.1 := Or.inl (am_t3 226 rfl rfl)
theorem dc_G_init_38 : decode prog_7_method_1_code 38 = .ok (.putfield 35, 3) := by decide +kernel
theorem fp_G_init_35 : am_fp mt_G_init.1 35 10 2 (.array .byte) := ⟨"WebFinder$Page", tt_G, 3, rfl, by decide, ct_G 2 (by decide), Or.inl ⟨(am_t5 5 rfl rfl), Or.inr ⟨rfl, rfl, rfl⟩⟩⟩
theorem dc_G_init_41 : decode prog_7_method_1_code 41 = .ok (.return_, 1) := by decide +kernel
theorem dc_JArrays_copyOfRange_0 : decode prog_30_method_132_code 0 = .ok (.iload_n 1, 1) := by decide +kernel
theorem dc_JArrays_copyOfRange_1 : decode prog_30_method_132_code 1 = .ok (.ifCond .ne 9, 3) := by decide +kernel
theorem dc_JArrays_copyOfRange_4 : decode prog_30_method_132_code 4 = .ok (.iload_n 2, 1) := by decide +kernel
theorem dc_JArrays_copyOfRange_5 : decode prog_30_method_132_code 5 = .ok (.aload_n 0, 1) := by decide +kernel
theorem dc_JArrays_copyOfRange_6 : decode prog_30_method_132_code 6 = .ok (.arraylength, 1) := by decide +kernel
theorem dc_JArrays_copyOfRange_7 : decode prog_30_method_132_code 7 = .ok (.if_icmp .eq 10, 3) := by decide +kernel
theorem dc_JArrays_copyOfRange_10 : decode prog_30_method_132_code 10 = .ok (.aload_n 0, 1) := by decide +kernel
theorem dc_JArrays_copyOfRange_11 : decode prog_30_method_132_code 11 = .ok (.iload_n 1, 1) := by decide +kernel
theorem dc_JArrays_copyOfRange_12 : decode prog_30_method_132_code 12 = .ok (.iload_n 2, 1) := by decide +kernel
theorem dc_JArrays_copyOfRange_13 : decode prog_30_method_132_code 13 = .ok (.invokestatic 339, 3) := by decide +kernel
theorem mo_JArrays_copyOfRangeByte : am_mo mt_JArrays_copyOfRangeByte 3 := ⟨⟨by decide +kernel, by decide +kernel⟩, by decide +kernel, ⟨by decide +kernel, by decide +kernel⟩, (am_t3 231 rfl rfl), (am_t1 16 rfl rfl), by decide +kernel⟩
theorem st_JArrays_copyOfRangeByte : Cond.static mt_JArrays_copyOfRangeByte.1 ∈ am_gw := (am_t3 230 rfl rfl)
theorem ln_J_339 : am_ln "java/util/Arrays" 339 mt_JArrays_copyOfRangeByte.1 := Or.inl (am_t3 229 rfl rfl)
theorem dc_JArrays_copyOfRange_16 : decode prog_30_method_132_code 16 = .ok (.areturn, 1) := by decide +kernel
theorem dc_JArrays_copyOfRange_17 : decode prog_30_method_132_code 17 = .ok (.aload_n 0, 1) := by decide +kernel
theorem dc_JArrays_copyOfRange_18 : decode prog_30_method_132_code 18 = .ok (.invokevirtual 310, 3) := by decide +kernel
theorem dc_JArrays_copyOfRange_21 : decode prog_30_method_132_code 21 = .ok (.checkcast 311, 3) := by decide +kernel
theorem dc_JArrays_copyOfRange_24 : decode prog_30_method_132_code 24 = .ok (.areturn, 1) := by decide +kernel
theorem dc_JArrays_copyOfRangeByte_0 : decode prog_30_method_133_code 0 = .ok (.iload_n 1, 1) := by decide +kernel
theorem dc_JArrays_copyOfRangeByte_1 : decode prog_30_method_133_code 1 = .ok (.iload_n 2, 1) := by decide +kernel
theorem dc_JArrays_copyOfRangeByte_2 : decode prog_30_method_133_code 2 = .ok (.invokestatic 343, 3) := by decide +kernel
theorem mo_JArrays_checkLength : am_mo mt_JArrays_checkLength 2 := ⟨⟨by decide +kernel, by decide +kernel⟩, by decide +kernel, ⟨by decide +kernel, by decide +kernel⟩, (am_t3 234 rfl rfl), (am_t1 16 rfl rfl), by decide +kernel⟩
theorem st_JArrays_checkLength : Cond.static mt_JArrays_checkLength.1 ∈ am_gw := (am_t3 233 rfl rfl)
theorem ln_J_343 : am_ln "java/util/Arrays" 343 mt_JArrays_checkLength.1 := Or.inl (am_t3 232 rfl rfl)
theorem dc_JArrays_copyOfRangeByte_5 : decode prog_30_method_133_code 5 = .ok (.iload_n 2, 1) := by decide +kernel
theorem dc_JArrays_copyOfRangeByte_6 : decode prog_30_method_133_code 6 = .ok (.iload_n 1, 1) := by decide +kernel
theorem dc_JArrays_copyOfRangeByte_7 : decode prog_30_method_133_code 7 = .ok (.isub, 1) := by decide +kernel
theorem dc_JArrays_copyOfRangeByte_8 : decode prog_30_method_133_code 8 = .ok (.istore_n 3, 1) := by decide +kernel
theorem dc_JArrays_copyOfRangeByte_9 : decode prog_30_method_133_code 9 = .ok (.iload_n 3, 1) := by decide +kernel
theorem dc_JArrays_copyOfRangeByte_10 : decode prog_30_method_133_code 10 = .ok (.newarray .byte, 2) := by decide +kernel
theorem dc_JArrays_copyOfRangeByte_12 : decode prog_30_method_133_code 12 = .ok (.astore 4, 2) := by decide +kernel
theorem dc_JArrays_copyOfRangeByte_14 : decode prog_30_method_133_code 14 = .ok (.aload_n 0, 1) := by decide +kernel
theorem dc_JArrays_copyOfRangeByte_15 : decode prog_30_method_133_code 15 = .ok (.iload_n 1, 1) := by decide +kernel
theorem dc_JArrays_copyOfRangeByte_16 : decode prog_30_method_133_code 16 = .ok (.aload 4, 2) := by decide +kernel
theorem dc_JArrays_copyOfRangeByte_18 : decode prog_30_method_133_code 18 = .ok (.iconst 0, 1) := by decide +kernel
theorem dc_JArrays_copyOfRangeByte_19 : decode prog_30_method_133_code 19 = .ok (.aload_n 0, 1) := by decide +kernel
theorem dc_JArrays_copyOfRangeByte_20 : decode prog_30_method_133_code 20 = .ok (.arraylength, 1) := by decide +kernel
theorem dc_JArrays_copyOfRangeByte_21 : decode prog_30_method_133_code 21 = .ok (.iload_n 1, 1) := by decide +kernel
theorem dc_JArrays_copyOfRangeByte_22 : decode prog_30_method_133_code 22 = .ok (.isub, 1) := by decide +kernel
theorem dc_JArrays_copyOfRangeByte_23 : decode prog_30_method_133_code 23 = .ok (.iload_n 3, 1) := by decide +kernel
theorem dc_JArrays_copyOfRangeByte_24 : decode prog_30_method_133_code 24 = .ok (.invokestatic 304, 3) := by decide +kernel
theorem dc_JArrays_copyOfRangeByte_27 : decode prog_30_method_133_code 27 = .ok (.invokestatic 150, 3) := by decide +kernel
theorem dc_JArrays_copyOfRangeByte_30 : decode prog_30_method_133_code 30 = .ok (.aload 4, 2) := by decide +kernel
theorem dc_JArrays_copyOfRangeByte_32 : decode prog_30_method_133_code 32 = .ok (.areturn, 1) := by decide +kernel
theorem dc_JArrays_checkLength_0 : decode prog_30_method_131_code 0 = .ok (.iload_n 1, 1) := by decide +kernel
theorem dc_JArrays_checkLength_1 : decode prog_30_method_131_code 1 = .ok (.iload_n 0, 1) := by decide +kernel
theorem dc_JArrays_checkLength_2 : decode prog_30_method_131_code 2 = .ok (.if_icmp .ge 35, 3) := by decide +kernel
theorem dc_JArrays_checkLength_5 : decode prog_30_method_131_code 5 = .ok (.new 43, 3) := by decide +kernel
theorem dc_JArrays_checkLength_8 : decode prog_30_method_131_code 8 = .ok (.dup, 1) := by decide +kernel
theorem dc_JArrays_checkLength_9 : decode prog_30_method_131_code 9 = .ok (.new 45, 3) := by decide +kernel
theorem dc_JArrays_checkLength_12 : decode prog_30_method_131_code 12 = .ok (.dup, 1) := by decide +kernel
theorem dc_JArrays_checkLength_13 : decode prog_30_method_131_code 13 = .ok (.invokespecial 47, 3) := by decide +kernel
theorem mo_JStringBuilder_init : am_mo mt_JStringBuilder_init 0 := ⟨⟨by decide +kernel, by decide +kernel⟩, by decide +kernel, ⟨by decide +kernel, by decide +kernel⟩, (am_t4 39 rfl rfl), (am_t1 27 rfl rfl), by decide +kernel⟩
theorem im_JStringBuilder_init : Cond.instanceMethod mt_JStringBuilder_init.1 ∈ am_gw := (am_t4 38 rfl rfl)
theorem ln_J_47 : am_ln "java/util/Arrays" 47 mt_JStringBuilder_init.1 := Or.inl (am_t4 37 rfl rfl)
theorem dc_JArrays_checkLength_16 : decode prog_30_method_131_code 16 = .ok (.iload_n 0, 1) := by decide +kernel
theorem dc_JArrays_checkLength_17 : decode prog_30_method_131_code 17 = .ok (.invokevirtual 54, 3) := by decide +kernel
theorem mo_JStringBuilder_append_0 : am_mo mt_JStringBuilder_append_0 1 := ⟨⟨by decide +kernel, by decide +kernel⟩, by decide +kernel, ⟨by decide +kernel, by decide +kernel⟩, (am_t4 68 rfl rfl), (am_t1 27 rfl rfl), by decide +kernel⟩
theorem im_JStringBuilder_append_0 : Cond.instanceMethod mt_JStringBuilder_append_0.1 ∈ am_gw := (am_t4 66 rfl rfl)
theorem se_JStringBuilder_append_0 : Cond.selects mt_JStringBuilder_append_0.1.cls mt_JStringBuilder_append_0.1 mt_JStringBuilder_append_0.1 ∈ am_gw := (am_t4 67 rfl rfl)
theorem ln_J_54 : am_ln "java/util/Arrays" 54 mt_JStringBuilder_append_0.1 := Or.inl (am_t4 65 rfl rfl)
theorem dc_JArrays_checkLength_20 : decode prog_30_method_131_code 20 = .ok (.ldc_w 337, 3) := by decide +kernel
theorem dc_JArrays_checkLength_23 : decode prog_30_method_131_code 23 = .ok (.invokevirtual 50, 3) := by decide +kernel
theorem mo_JStringBuilder_append_1 : am_mo mt_JStringBuilder_append_1 1 := ⟨⟨by decide +kernel, by decide +kernel⟩, by decide +kernel, ⟨by decide +kernel, by decide +kernel⟩, (am_t4 120 rfl rfl), (am_t1 27 rfl rfl), by decide +kernel⟩
theorem im_JStringBuilder_append_1 : Cond.instanceMethod mt_JStringBuilder_append_1.1 ∈ am_gw := (am_t4 118 rfl rfl)
theorem se_JStringBuilder_append_1 : Cond.selects mt_JStringBuilder_append_1.1.cls mt_JStringBuilder_append_1.1 mt_JStringBuilder_append_1.1 ∈ am_gw := (am_t4 119 rfl rfl)
theorem ln_J_50 : am_ln "java/util/Arrays" 50 mt_JStringBuilder_append_1.1 := Or.inl (am_t4 117 rfl rfl)
theorem dc_JArrays_checkLength_26 : decode prog_30_method_131_code 26 = .ok (.iload_n 1, 1) := by decide +kernel
theorem dc_JArrays_checkLength_27 : decode prog_30_method_131_code 27 = .ok (.invokevirtual 54, 3) := by decide +kernel
theorem dc_JArrays_checkLength_30 : decode prog_30_method_131_code 30 = .ok (.invokevirtual 61, 3) := by decide +kernel
theorem mo_JStringBuilder_toString : am_mo mt_JStringBuilder_toString 0 := ⟨⟨by decide +kernel, by decide +kernel⟩, by decide +kernel, ⟨by decide +kernel, by decide +kernel⟩, (am_t4 169 rfl rfl), (am_t1 27 rfl rfl), by decide +kernel⟩
theorem im_JStringBuilder_toString : Cond.instanceMethod mt_JStringBuilder_toString.1 ∈ am_gw := (am_t4 167 rfl rfl)
theorem se_JStringBuilder_toString : Cond.selects mt_JStringBuilder_toString.1.cls mt_JStringBuilder_toString.1 mt_JStringBuilder_toString.1 ∈ am_gw := (am_t4 168 rfl rfl)
theorem ln_J_61 : am_ln "java/util/Arrays" 61 mt_JStringBuilder_toString.1 := Or.inl (am_t4 166 rfl rfl)
theorem dc_JArrays_checkLength_33 : decode prog_30_method_131_code 33 = .ok (.invokespecial 65, 3) := by decide +kernel
theorem mo_JIllegalArgumentException_init_1 : am_mo mt_JIllegalArgumentException_init_1 1 := ⟨⟨by decide +kernel, by decide +kernel⟩, by decide +kernel, ⟨by decide +kernel, by decide +kernel⟩, (am_t4 217 rfl rfl), (am_t1 19 rfl rfl), by decide +kernel⟩
theorem im_JIllegalArgumentException_init_1 : Cond.instanceMethod mt_JIllegalArgumentException_init_1.1 ∈ am_gw := (am_t4 216 rfl rfl)
theorem ln_J_65 : am_ln "java/util/Arrays" 65 mt_JIllegalArgumentException_init_1.1 := Or.inl (am_t4 215 rfl rfl)
theorem dc_JArrays_checkLength_36 : decode prog_30_method_131_code 36 = .ok (.athrow, 1) := by decide +kernel
theorem dc_JArrays_checkLength_37 : decode prog_30_method_131_code 37 = .ok (.return_, 1) := by decide +kernel
theorem dc_W_drop_0 : decode prog_1_method_6_code 0 = .ok (.aload_n 0, 1) := by decide +kernel
theorem dc_W_drop_1 : decode prog_1_method_6_code 1 = .ok (.invokevirtual 128, 3) := by decide +kernel
theorem mo_W_resolveTape : am_mo mt_W_resolveTape 0 := ⟨⟨by decide +kernel, by decide +kernel⟩, by decide +kernel, ⟨by decide +kernel, by decide +kernel⟩, (am_t5 22 rfl rfl), (am_t1 1 rfl rfl), by decide +kernel⟩
theorem im_W_resolveTape : Cond.instanceMethod mt_W_resolveTape.1 ∈ am_gw := (am_t5 21 rfl rfl)
theorem se_W_resolveTape : Cond.selects mt_W_resolveTape.1.cls mt_W_resolveTape.1 mt_W_resolveTape.1 ∈ am_gw := am_in (List.mem_append_left _ (by decide +kernel)) rfl
theorem ln_W_128 : am_ln "WebFinder" 128 mt_W_resolveTape.1 := Or.inl (am_t5 19 rfl rfl)
theorem dc_W_drop_4 : decode prog_1_method_6_code 4 = .ok (.ifCond .eq 24, 3) := by decide +kernel
theorem dc_W_drop_7 : decode prog_1_method_6_code 7 = .ok (.aload_n 0, 1) := by decide +kernel
theorem dc_W_drop_8 : decode prog_1_method_6_code 8 = .ok (.getfield 43, 3) := by decide +kernel
theorem dc_W_drop_11 : decode prog_1_method_6_code 11 = .ok (.aload_n 0, 1) := by decide +kernel
theorem dc_W_drop_12 : decode prog_1_method_6_code 12 = .ok (.getfield 27, 3) := by decide +kernel
theorem dc_W_drop_15 : decode prog_1_method_6_code 15 = .ok (.getfield 102, 3) := by decide +kernel
theorem dc_W_drop_18 : decode prog_1_method_6_code 18 = .ok (.invokevirtual 131, 3) := by decide +kernel
theorem mo_V_dropPage : am_mo mt_V_dropPage 1 := ⟨⟨by decide +kernel, by decide +kernel⟩, by decide +kernel, ⟨by decide +kernel, by decide +kernel⟩, (am_t5 26 rfl rfl), (am_t1 7 rfl rfl), by decide +kernel⟩
theorem im_V_dropPage : Cond.instanceMethod mt_V_dropPage.1 ∈ am_gw := (am_t5 24 rfl rfl)
theorem se_V_dropPage : Cond.selects mt_V_dropPage.1.cls mt_V_dropPage.1 mt_V_dropPage.1 ∈ am_gw := (am_t5 25 rfl rfl)
theorem ln_W_131 : am_ln "WebFinder" 131 mt_V_dropPage.1 := Or.inl (am_t5 23 rfl rfl)
theorem dc_W_drop_21 : decode prog_1_method_6_code 21 = .ok (.ifCond .eq 7, 3) := by decide +kernel
theorem dc_W_drop_24 : decode prog_1_method_6_code 24 = .ok (.iconst 1, 1) := by decide +kernel
theorem dc_W_drop_25 : decode prog_1_method_6_code 25 = .ok (.goto 4, 3) := by decide +kernel
theorem dc_W_drop_28 : decode prog_1_method_6_code 28 = .ok (.iconst 0, 1) := by decide +kernel
theorem dc_W_drop_29 : decode prog_1_method_6_code 29 = .ok (.ireturn, 1) := by decide +kernel
theorem dc_W_resolveTape_0 : decode prog_1_method_33_code 0 = .ok (.aload_n 0, 1) := by decide +kernel
theorem dc_W_resolveTape_1 : decode prog_1_method_33_code 1 = .ok (.getfield 27, 3) := by decide +kernel
theorem dc_W_resolveTape_4 : decode prog_1_method_33_code 4 = .ok (.aload_n 0, 1) := by decide +kernel
theorem dc_W_resolveTape_5 : decode prog_1_method_33_code 5 = .ok (.getfield 12, 3) := by decide +kernel
theorem dc_W_resolveTape_8 : decode prog_1_method_33_code 8 = .ok (.getfield 109, 3) := by decide +kernel
theorem dc_W_resolveTape_11 : decode prog_1_method_33_code 11 = .ok (.iconst 0, 1) := by decide +kernel
theorem dc_W_resolveTape_12 : decode prog_1_method_33_code 12 = .ok (.aload_n 0, 1) := by decide +kernel
theorem dc_W_resolveTape_13 : decode prog_1_method_33_code 13 = .ok (.getfield 12, 3) := by decide +kernel
theorem dc_W_resolveTape_16 : decode prog_1_method_33_code 16 = .ok (.getfield 85, 3) := by decide +kernel
theorem dc_W_resolveTape_19 : decode prog_1_method_33_code 19 = .ok (.aconst_null, 1) := by decide +kernel
theorem dc_W_resolveTape_20 : decode prog_1_method_33_code 20 = .ok (.invokevirtual 117, 3) := by decide +kernel
theorem dc_W_resolveTape_23 : decode prog_1_method_33_code 23 = .ok (.istore_n 1, 1) := by decide +kernel
theorem dc_W_resolveTape_24 : decode prog_1_method_33_code 24 = .ok (.aload_n 0, 1) := by decide +kernel
theorem dc_W_resolveTape_25 : decode prog_1_method_33_code 25 = .ok (.getfield 12, 3) := by decide +kernel
theorem dc_W_resolveTape_28 : decode prog_1_method_33_code 28 = .ok (.invokevirtual 121, 3) := by decide +kernel
theorem dc_W_resolveTape_31 : decode prog_1_method_33_code 31 = .ok (.iload_n 1, 1) := by decide +kernel
theorem dc_W_resolveTape_32 : decode prog_1_method_33_code 32 = .ok (.ireturn, 1) := by decide +kernel
theorem dc_V_dropPage_0 : decode prog_12_method_5_code 0 = .ok (.aload_n 0, 1) := by decide +kernel
theorem dc_V_dropPage_1 : decode prog_12_method_5_code 1 = .ok (.aload_n 1, 1) := by decide +kernel
theorem dc_V_dropPage_2 : decode prog_12_method_5_code 2 = .ok (.invokevirtual 31, 3) := by decide +kernel
theorem dc_V_dropPage_5 : decode prog_12_method_5_code 5 = .ok (.istore_n 2, 1) := by decide +kernel
theorem dc_V_dropPage_6 : decode prog_12_method_5_code 6 = .ok (.iload_n 2, 1) := by decide +kernel
theorem dc_V_dropPage_7 : decode prog_12_method_5_code 7 = .ok (.iconst (-1), 1) := by decide +kernel
theorem dc_V_dropPage_8 : decode prog_12_method_5_code 8 = .ok (.if_icmp .ne 5, 3) := by decide +kernel
theorem dc_V_dropPage_11 : decode prog_12_method_5_code 11 = .ok (.iconst 0, 1) := by decide +kernel
theorem dc_V_dropPage_12 : decode prog_12_method_5_code 12 = .ok (.ireturn, 1) := by decide +kernel
theorem dc_V_dropPage_13 : decode prog_12_method_5_code 13 = .ok (.aload_n 0, 1) := by decide +kernel
theorem dc_V_dropPage_14 : decode prog_12_method_5_code 14 = .ok (.dup, 1) := by decide +kernel
theorem dc_V_dropPage_15 : decode prog_12_method_5_code 15 = .ok (.getfield 23, 3) := by decide +kernel
theorem dc_V_dropPage_18 : decode prog_12_method_5_code 18 = .ok (.iconst 1, 1) := by decide +kernel
theorem dc_V_dropPage_19 : decode prog_12_method_5_code 19 = .ok (.isub, 1) := by decide +kernel
theorem dc_V_dropPage_20 : decode prog_12_method_5_code 20 = .ok (.putfield 23, 3) := by decide +kernel
theorem fp_V_dropPage_23 : am_fp mt_V_dropPage.1 23 6 0 (.int) := ⟨"WebFinder$Web", tt_V, 4, rfl, by decide, ct_V 0 (by decide), Or.inl ⟨(am_t1 199 rfl rfl), Or.inl rfl⟩⟩
theorem dc_V_dropPage_23 : decode prog_12_method_5_code 23 = .ok (.aload_n 0, 1) := by decide +kernel
theorem dc_V_dropPage_24 : decode prog_12_method_5_code 24 = .ok (.getfield 11, 3) := by decide +kernel
theorem dc_V_dropPage_27 : decode prog_12_method_5_code 27 = .ok (.iload_n 2, 1) := by decide +kernel
theorem dc_V_dropPage_28 : decode prog_12_method_5_code 28 = .ok (.aload_n 0, 1) := by decide +kernel
theorem dc_V_dropPage_29 : decode prog_12_method_5_code 29 = .ok (.getfield 11, 3) := by decide +kernel
theorem dc_V_dropPage_32 : decode prog_12_method_5_code 32 = .ok (.aload_n 0, 1) := by decide +kernel
theorem dc_V_dropPage_33 : decode prog_12_method_5_code 33 = .ok (.getfield 23, 3) := by decide +kernel
theorem dc_V_dropPage_36 : decode prog_12_method_5_code 36 = .ok (.aaload, 1) := by decide +kernel
theorem dc_V_dropPage_37 : decode prog_12_method_5_code 37 = .ok (.aastore, 1) := by decide +kernel
theorem dc_V_dropPage_38 : decode prog_12_method_5_code 38 = .ok (.aload_n 0, 1) := by decide +kernel
theorem dc_V_dropPage_39 : decode prog_12_method_5_code 39 = .ok (.getfield 11, 3) := by decide +kernel
theorem dc_V_dropPage_42 : decode prog_12_method_5_code 42 = .ok (.aload_n 0, 1) := by decide +kernel
theorem dc_V_dropPage_43 : decode prog_12_method_5_code 43 = .ok (.getfield 23, 3) := by decide +kernel
theorem dc_V_dropPage_46 : decode prog_12_method_5_code 46 = .ok (.aconst_null, 1) := by decide +kernel
theorem dc_V_dropPage_47 : decode prog_12_method_5_code 47 = .ok (.aastore, 1) := by decide +kernel
theorem dc_V_dropPage_48 : decode prog_12_method_5_code 48 = .ok (.iconst 1, 1) := by decide +kernel
theorem dc_V_dropPage_49 : decode prog_12_method_5_code 49 = .ok (.ireturn, 1) := by decide +kernel
theorem dc_W_rules_0 : decode prog_1_method_7_code 0 = .ok (.iconst (-1), 1) := by decide +kernel
theorem dc_W_rules_1 : decode prog_1_method_7_code 1 = .ok (.istore_n 1, 1) := by decide +kernel
theorem dc_W_rules_2 : decode prog_1_method_7_code 2 = .ok (.aload_n 0, 1) := by decide +kernel
theorem dc_W_rules_3 : decode prog_1_method_7_code 3 = .ok (.invokevirtual 98, 3) := by decide +kernel
theorem dc_W_rules_6 : decode prog_1_method_7_code 6 = .ok (.ifCond .eq 26, 3) := by decide +kernel
theorem dc_W_rules_9 : decode prog_1_method_7_code 9 = .ok (.aload_n 0, 1) := by decide +kernel
theorem dc_W_rules_10 : decode prog_1_method_7_code 10 = .ok (.getfield 43, 3) := by decide +kernel
theorem dc_W_rules_13 : decode prog_1_method_7_code 13 = .ok (.aload_n 0, 1) := by decide +kernel
theorem dc_W_rules_14 : decode prog_1_method_7_code 14 = .ok (.getfield 27, 3) := by decide +kernel
theorem dc_W_rules_17 : decode prog_1_method_7_code 17 = .ok (.getfield 102, 3) := by decide +kernel
theorem dc_W_rules_20 : decode prog_1_method_7_code 20 = .ok (.aload_n 0, 1) := by decide +kernel
theorem dc_W_rules_21 : decode prog_1_method_7_code 21 = .ok (.getfield 12, 3) := by decide +kernel
theorem dc_W_rules_24 : decode prog_1_method_7_code 24 = .ok (.aload_n 0, 1) := by decide +kernel
theorem dc_W_rules_25 : decode prog_1_method_7_code 25 = .ok (.invokevirtual 113, 3) := by decide +kernel
theorem dc_W_rules_28 : decode prog_1_method_7_code 28 = .ok (.invokevirtual 135, 3) := by decide +kernel
theorem mo_V_tellRules : am_mo mt_V_tellRules 3 := ⟨⟨by decide +kernel, by decide +kernel⟩, by decide +kernel, ⟨by decide +kernel, by decide +kernel⟩, (am_t5 34 rfl rfl), (am_t1 7 rfl rfl), by decide +kernel⟩
theorem im_V_tellRules : Cond.instanceMethod mt_V_tellRules.1 ∈ am_gw := (am_t5 32 rfl rfl)
theorem se_V_tellRules : Cond.selects mt_V_tellRules.1.cls mt_V_tellRules.1 mt_V_tellRules.1 ∈ am_gw := (am_t5 33 rfl rfl)
theorem ln_W_135 : am_ln "WebFinder" 135 mt_V_tellRules.1 := Or.inl (am_t5 31 rfl rfl)
theorem dc_W_rules_31 : decode prog_1_method_7_code 31 = .ok (.istore_n 1, 1) := by decide +kernel
theorem dc_W_rules_32 : decode prog_1_method_7_code 32 = .ok (.aload_n 0, 1) := by decide +kernel
theorem dc_W_rules_33 : decode prog_1_method_7_code 33 = .ok (.getfield 12, 3) := by decide +kernel
theorem dc_W_rules_36 : decode prog_1_method_7_code 36 = .ok (.invokevirtual 121, 3) := by decide +kernel
theorem dc_W_rules_39 : decode prog_1_method_7_code 39 = .ok (.iload_n 1, 1) := by decide +kernel
theorem dc_W_rules_40 : decode prog_1_method_7_code 40 = .ok (.ireturn, 1) := by decide +kernel
theorem dc_V_tellRules_0 : decode prog_12_method_7_code 0 = .ok (.aload_n 0, 1) := by decide +kernel
theorem dc_V_tellRules_1 : decode prog_12_method_7_code 1 = .ok (.aload_n 1, 1) := by decide +kernel
theorem dc_V_tellRules_2 : decode prog_12_method_7_code 2 = .ok (.invokevirtual 69, 3) := by decide +kernel
theorem mo_V_siteNumber : am_mo mt_V_siteNumber 1 := ⟨⟨by decide +kernel, by decide +kernel⟩, by decide +kernel, ⟨by decide +kernel, by decide +kernel⟩, (am_t5 38 rfl rfl), (am_t1 7 rfl rfl), by decide +kernel⟩
theorem im_V_siteNumber : Cond.instanceMethod mt_V_siteNumber.1 ∈ am_gw := (am_t5 37 rfl rfl)
theorem se_V_siteNumber : Cond.selects mt_V_siteNumber.1.cls mt_V_siteNumber.1 mt_V_siteNumber.1 ∈ am_gw := am_in (List.mem_append_left _ (by decide +kernel)) rfl
theorem ln_V_69 : am_ln "WebFinder$Web" 69 mt_V_siteNumber.1 := Or.inl (am_t5 35 rfl rfl)
theorem dc_V_tellRules_5 : decode prog_12_method_7_code 5 = .ok (.istore 4, 2) := by decide +kernel
theorem dc_V_tellRules_7 : decode prog_12_method_7_code 7 = .ok (.iload 4, 2) := by decide +kernel
theorem dc_V_tellRules_9 : decode prog_12_method_7_code 9 = .ok (.iconst (-1), 1) := by decide +kernel
theorem dc_V_tellRules_10 : decode prog_12_method_7_code 10 = .ok (.if_icmp .ne 14, 3) := by decide +kernel
theorem dc_V_tellRules_13 : decode prog_12_method_7_code 13 = .ok (.aload_n 0, 1) := by decide +kernel
theorem dc_V_tellRules_14 : decode prog_12_method_7_code 14 = .ok (.getfield 58, 3) := by decide +kernel
theorem fl_V_58 : am_fl "WebFinder$Web" 58 6 3 := ⟨"WebFinder$Web", tt_V, 4, rfl, by decide, Or.inl (am_t1 203 rfl rfl)⟩
theorem dc_V_tellRules_17 : decode prog_12_method_7_code 17 = .ok (.bipush 12, 2) := by decide +kernel
theorem dc_V_tellRules_19 : decode prog_12_method_7_code 19 = .ok (.if_icmp .ne 5, 3) := by decide +kernel
theorem dc_V_tellRules_22 : decode prog_12_method_7_code 22 = .ok (.iconst (-1), 1) := by decide +kernel
theorem dc_V_tellRules_23 : decode prog_12_method_7_code 23 = .ok (.ireturn, 1) := by decide +kernel
theorem dc_V_tellRules_24 : decode prog_12_method_7_code 24 = .ok (.iload 4, 2) := by decide +kernel
theorem dc_V_tellRules_26 : decode prog_12_method_7_code 26 = .ok (.iconst (-1), 1) := by decide +kernel
theorem dc_V_tellRules_27 : decode prog_12_method_7_code 27 = .ok (.if_icmp .ne 66, 3) := by decide +kernel
theorem dc_V_tellRules_30 : decode prog_12_method_7_code 30 = .ok (.aload_n 0, 1) := by decide +kernel
theorem dc_V_tellRules_31 : decode prog_12_method_7_code 31 = .ok (.getfield 58, 3) := by decide +kernel
theorem dc_V_tellRules_34 : decode prog_12_method_7_code 34 = .ok (.istore 4, 2) := by decide +kernel
theorem dc_V_tellRules_36 : decode prog_12_method_7_code 36 = .ok (.aload_n 0, 1) := by decide +kernel
theorem dc_V_tellRules_37 : decode prog_12_method_7_code 37 = .ok (.getfield 19, 3) := by decide +kernel
theorem fl_V_19 : am_fl "WebFinder$Web" 19 6 2 := ⟨"WebFinder$Web", tt_V, 4, rfl, by decide, Or.inl (am_t1 202 rfl rfl)⟩
theorem dc_V_tellRules_40 : decode prog_12_method_7_code 40 = .ok (.iload 4, 2) := by decide +kernel
theorem dc_V_tellRules_42 : decode prog_12_method_7_code 42 = .ok (.new 17, 3) := by decide +kernel
theorem mk_V_17 : am_mk "WebFinder$Web" 17 11 [.null, .null, .null] := ⟨"WebFinder$SiteRules", tt_T, 3, ty_T, rfl, ct_T, (am_t1 197 rfl rfl), (am_t5 43 rfl rfl), (am_t1 30 rfl rfl), rfl, fun _ => rfl, by decide +kernel⟩
theorem dc_V_tellRules_45 : decode prog_12_method_7_code 45 = .ok (.dup, 1) := by decide +kernel
theorem dc_V_tellRules_46 : decode prog_12_method_7_code 46 = .ok (.invokespecial 72, 3) := by decide +kernel
theorem mo_T_init : am_mo mt_T_init 0 := ⟨⟨by decide +kernel, by decide +kernel⟩, by decide +kernel, ⟨by decide +kernel, by decide +kernel⟩, (am_t5 46 rfl rfl), (am_t1 30 rfl rfl), by decide +kernel⟩
theorem im_T_init : Cond.instanceMethod mt_T_init.1 ∈ am_gw := (am_t5 45 rfl rfl)
theorem ln_V_72 : am_ln "WebFinder$Web" 72 mt_T_init.1 := Or.inr ⟨"WebFinder", (am_n5 44 rfl rfl)⟩
theorem dc_V_tellRules_49 : decode prog_12_method_7_code 49 = .ok (.aastore, 1) := by decide +kernel
theorem dc_V_tellRules_50 : decode prog_12_method_7_code 50 = .ok (.aload_n 0, 1) := by decide +kernel
theorem dc_V_tellRules_51 : decode prog_12_method_7_code 51 = .ok (.getfield 19, 3) := by decide +kernel
theorem dc_V_tellRules_54 : decode prog_12_method_7_code 54 = .ok (.iload 4, 2) := by decide +kernel
theorem dc_V_tellRules_56 : decode prog_12_method_7_code 56 = .ok (.aaload, 1) := by decide +kernel
theorem dc_V_tellRules_57 : decode prog_12_method_7_code 57 = .ok (.getfield 61, 3) := by decide +kernel
theorem fl_V_61 : am_fl "WebFinder$Web" 61 11 0 := ⟨"WebFinder$SiteRules", tt_T, 3, rfl, by decide, Or.inl (am_t5 53 rfl rfl)⟩
theorem dc_V_tellRules_60 : decode prog_12_method_7_code 60 = .ok (.aload_n 1, 1) := by decide +kernel
theorem dc_V_tellRules_61 : decode prog_12_method_7_code 61 = .ok (.getfield 46, 3) := by decide +kernel
theorem fl_V_46 : am_fl "WebFinder$Web" 46 1 0 := ⟨"WebFinder$Bytes", tt_B, 2, rfl, by decide, Or.inl (am_t1 51 rfl rfl)⟩
theorem dc_V_tellRules_64 : decode prog_12_method_7_code 64 = .ok (.ldc 38, 2) := by decide +kernel
theorem dc_V_tellRules_66 : decode prog_12_method_7_code 66 = .ok (.invokevirtual 40, 3) := by decide +kernel
theorem ln_V_40 : am_ln "WebFinder$Web" 40 mt_JString_length.1 := Or.inl (am_t5 40 rfl rfl)
theorem dc_V_tellRules_69 : decode prog_12_method_7_code 69 = .ok (.aload_n 1, 1) := by decide +kernel
theorem dc_V_tellRules_70 : decode prog_12_method_7_code 70 = .ok (.getfield 46, 3) := by decide +kernel
theorem dc_V_tellRules_73 : decode prog_12_method_7_code 73 = .ok (.aload_n 1, 1) := by decide +kernel
theorem dc_V_tellRules_74 : decode prog_12_method_7_code 74 = .ok (.getfield 52, 3) := by decide +kernel
theorem fl_V_52 : am_fl "WebFinder$Web" 52 1 1 := ⟨"WebFinder$Bytes", tt_B, 2, rfl, by decide, Or.inl (am_t1 62 rfl rfl)⟩
theorem dc_V_tellRules_77 : decode prog_12_method_7_code 77 = .ok (.invokestatic 54, 3) := by decide +kernel
theorem ln_V_54 : am_ln "WebFinder$Web" 54 mt_W_siteTo.1 := Or.inr ⟨"WebFinder", (am_n5 41 rfl rfl)⟩
theorem dc_V_tellRules_80 : decode prog_12_method_7_code 80 = .ok (.invokevirtual 73, 3) := by decide +kernel
theorem ln_V_73 : am_ln "WebFinder$Web" 73 mt_B_putAll.1 := Or.inl (am_t5 63 rfl rfl)
theorem dc_V_tellRules_83 : decode prog_12_method_7_code 83 = .ok (.aload_n 0, 1) := by decide +kernel
theorem dc_V_tellRules_84 : decode prog_12_method_7_code 84 = .ok (.dup, 1) := by decide +kernel
theorem dc_V_tellRules_85 : decode prog_12_method_7_code 85 = .ok (.getfield 58, 3) := by decide +kernel
theorem dc_V_tellRules_88 : decode prog_12_method_7_code 88 = .ok (.iconst 1, 1) := by decide +kernel
theorem dc_V_tellRules_89 : decode prog_12_method_7_code 89 = .ok (.iadd, 1) := by decide +kernel
theorem dc_V_tellRules_90 : decode prog_12_method_7_code 90 = .ok (.putfield 58, 3) := by decide +kernel
theorem fp_V_tellRules_58 : am_fp mt_V_tellRules.1 58 6 3 (.int) := ⟨"WebFinder$Web", tt_V, 4, rfl, by decide, ct_V 3 (by decide), Or.inl ⟨(am_t1 203 rfl rfl), Or.inl rfl⟩⟩
theorem dc_V_tellRules_93 : decode prog_12_method_7_code 93 = .ok (.aload_n 0, 1) := by decide +kernel
theorem dc_V_tellRules_94 : decode prog_12_method_7_code 94 = .ok (.getfield 19, 3) := by decide +kernel
theorem dc_V_tellRules_97 : decode prog_12_method_7_code 97 = .ok (.iload 4, 2) := by decide +kernel
theorem dc_V_tellRules_99 : decode prog_12_method_7_code 99 = .ok (.aaload, 1) := by decide +kernel
theorem dc_V_tellRules_100 : decode prog_12_method_7_code 100 = .ok (.aload_n 2, 1) := by decide +kernel
theorem dc_V_tellRules_101 : decode prog_12_method_7_code 101 = .ok (.getfield 46, 3) := by decide +kernel
theorem dc_V_tellRules_104 : decode prog_12_method_7_code 104 = .ok (.iload_n 3, 1) := by decide +kernel
theorem dc_V_tellRules_105 : decode prog_12_method_7_code 105 = .ok (.aload_n 2, 1) := by decide +kernel
theorem dc_V_tellRules_106 : decode prog_12_method_7_code 106 = .ok (.getfield 52, 3) := by decide +kernel
theorem dc_V_tellRules_109 : decode prog_12_method_7_code 109 = .ok (.invokevirtual 77, 3) := by decide +kernel
theorem mo_T_tell : am_mo mt_T_tell 3 := ⟨⟨by decide +kernel, by decide +kernel⟩, by decide +kernel, ⟨by decide +kernel, by decide +kernel⟩, (am_t5 67 rfl rfl), (am_t1 30 rfl rfl), by decide +kernel⟩
theorem im_T_tell : Cond.instanceMethod mt_T_tell.1 ∈ am_gw := (am_t5 65 rfl rfl)
theorem se_T_tell : Cond.selects mt_T_tell.1.cls mt_T_tell.1 mt_T_tell.1 ∈ am_gw := (am_t5 66 rfl rfl)
theorem ln_V_77 : am_ln "WebFinder$Web" 77 mt_T_tell.1 := Or.inl (am_t5 64 rfl rfl)
theorem dc_V_tellRules_112 : decode prog_12_method_7_code 112 = .ok (.ireturn, 1) := by decide +kernel
theorem dc_V_siteNumber_0 : decode prog_12_method_6_code 0 = .ok (.ldc 38, 2) := by decide +kernel
theorem dc_V_siteNumber_2 : decode prog_12_method_6_code 2 = .ok (.invokevirtual 40, 3) := by decide +kernel
theorem dc_V_siteNumber_5 : decode prog_12_method_6_code 5 = .ok (.istore_n 2, 1) := by decide +kernel
theorem dc_V_siteNumber_6 : decode prog_12_method_6_code 6 = .ok (.aload_n 1, 1) := by decide +kernel
theorem dc_V_siteNumber_7 : decode prog_12_method_6_code 7 = .ok (.getfield 46, 3) := by decide +kernel
theorem dc_V_siteNumber_10 : decode prog_12_method_6_code 10 = .ok (.aload_n 1, 1) := by decide +kernel
theorem dc_V_siteNumber_11 : decode prog_12_method_6_code 11 = .ok (.getfield 52, 3) := by decide +kernel
theorem dc_V_siteNumber_14 : decode prog_12_method_6_code 14 = .ok (.invokestatic 54, 3) := by decide +kernel
theorem dc_V_siteNumber_17 : decode prog_12_method_6_code 17 = .ok (.iload_n 2, 1) := by decide +kernel
theorem dc_V_siteNumber_18 : decode prog_12_method_6_code 18 = .ok (.isub, 1) := by decide +kernel
theorem dc_V_siteNumber_19 : decode prog_12_method_6_code 19 = .ok (.istore_n 3, 1) := by decide +kernel
theorem dc_V_siteNumber_20 : decode prog_12_method_6_code 20 = .ok (.iconst 0, 1) := by decide +kernel
theorem dc_V_siteNumber_21 : decode prog_12_method_6_code 21 = .ok (.istore 4, 2) := by decide +kernel
theorem dc_V_siteNumber_23 : decode prog_12_method_6_code 23 = .ok (.iload 4, 2) := by decide +kernel
theorem dc_V_siteNumber_25 : decode prog_12_method_6_code 25 = .ok (.aload_n 0, 1) := by decide +kernel
theorem dc_V_siteNumber_26 : decode prog_12_method_6_code 26 = .ok (.getfield 58, 3) := by decide +kernel
theorem dc_V_siteNumber_29 : decode prog_12_method_6_code 29 = .ok (.if_icmp .ge 51, 3) := by decide +kernel
theorem dc_V_siteNumber_32 : decode prog_12_method_6_code 32 = .ok (.aload_n 0, 1) := by decide +kernel
theorem dc_V_siteNumber_33 : decode prog_12_method_6_code 33 = .ok (.getfield 19, 3) := by decide +kernel
theorem dc_V_siteNumber_36 : decode prog_12_method_6_code 36 = .ok (.iload 4, 2) := by decide +kernel
theorem dc_V_siteNumber_38 : decode prog_12_method_6_code 38 = .ok (.aaload, 1) := by decide +kernel
theorem dc_V_siteNumber_39 : decode prog_12_method_6_code 39 = .ok (.getfield 61, 3) := by decide +kernel
theorem dc_V_siteNumber_42 : decode prog_12_method_6_code 42 = .ok (.astore 5, 2) := by decide +kernel
theorem dc_V_siteNumber_44 : decode prog_12_method_6_code 44 = .ok (.aload 5, 2) := by decide +kernel
theorem dc_V_siteNumber_46 : decode prog_12_method_6_code 46 = .ok (.getfield 52, 3) := by decide +kernel
theorem dc_V_siteNumber_49 : decode prog_12_method_6_code 49 = .ok (.iload_n 3, 1) := by decide +kernel
theorem dc_V_siteNumber_50 : decode prog_12_method_6_code 50 = .ok (.if_icmp .ne 24, 3) := by decide +kernel
theorem dc_V_siteNumber_53 : decode prog_12_method_6_code 53 = .ok (.aload 5, 2) := by decide +kernel
theorem dc_V_siteNumber_55 : decode prog_12_method_6_code 55 = .ok (.getfield 46, 3) := by decide +kernel
theorem dc_V_siteNumber_58 : decode prog_12_method_6_code 58 = .ok (.iconst 0, 1) := by decide +kernel
theorem dc_V_siteNumber_59 : decode prog_12_method_6_code 59 = .ok (.aload_n 1, 1) := by decide +kernel
theorem dc_V_siteNumber_60 : decode prog_12_method_6_code 60 = .ok (.getfield 46, 3) := by decide +kernel
theorem dc_V_siteNumber_63 : decode prog_12_method_6_code 63 = .ok (.iload_n 2, 1) := by decide +kernel
theorem dc_V_siteNumber_64 : decode prog_12_method_6_code 64 = .ok (.iload_n 3, 1) := by decide +kernel
theorem dc_V_siteNumber_65 : decode prog_12_method_6_code 65 = .ok (.invokestatic 65, 3) := by decide +kernel
theorem ln_V_65 : am_ln "WebFinder$Web" 65 mt_W_sameBytes.1 := Or.inr ⟨"WebFinder", (am_n5 42 rfl rfl)⟩
theorem dc_V_siteNumber_68 : decode prog_12_method_6_code 68 = .ok (.ifCond .eq 6, 3) := by decide +kernel
theorem dc_V_siteNumber_71 : decode prog_12_method_6_code 71 = .ok (.iload 4, 2) := by decide +kernel
theorem dc_V_siteNumber_73 : decode prog_12_method_6_code 73 = .ok (.ireturn, 1) := by decide +kernel
theorem dc_V_siteNumber_74 : decode prog_12_method_6_code 74 = .ok (.iinc 4 1, 3) := by decide +kernel
theorem dc_V_siteNumber_77 : decode prog_12_method_6_code 77 = .ok (.goto (-54), 3) := by decide +kernel
theorem dc_V_siteNumber_80 : decode prog_12_method_6_code 80 = .ok (.iconst (-1), 1) := by decide +kernel
theorem dc_V_siteNumber_81 : decode prog_12_method_6_code 81 = .ok (.ireturn, 1) := by decide +kernel
theorem dc_T_init_0 : decode prog_11_method_1_code 0 = .ok (.aload_n 0, 1) := by decide +kernel
theorem dc_T_init_1 : decode prog_11_method_1_code 1 = .ok (.invokespecial 3, 3) := by decide +kernel
theorem ob_T_3 : Cond.methodLink "WebFinder$SiteRules" 3 Lib.objectInit ∈ am_gw := (am_t5 47 rfl rfl)
theorem dc_T_init_4 : decode prog_11_method_1_code 4 = .ok (.aload_n 0, 1) := by decide +kernel
theorem dc_T_init_5 : decode prog_11_method_1_code 5 = .ok (.new 9, 3) := by decide +kernel
theorem mk_T_9 : am_mk "WebFinder$SiteRules" 9 1 [.null, .int 0] := ⟨"WebFinder$Bytes", tt_B, 2, ty_B, rfl, ct_B, (am_t5 48 rfl rfl), (am_t1 40 rfl rfl), (am_t1 2 rfl rfl), rfl, fun _ => rfl, by decide +kernel⟩
theorem dc_T_init_8 : decode prog_11_method_1_code 8 = .ok (.dup, 1) := by decide +kernel
theorem dc_T_init_9 : decode prog_11_method_1_code 9 = .ok (.bipush 66, 2) := by decide +kernel
theorem dc_T_init_11 : decode prog_11_method_1_code 11 = .ok (.invokespecial 11, 3) := by decide +kernel
theorem ln_T_11 : am_ln "WebFinder$SiteRules" 11 mt_B_init.1 := Or.inl (am_t5 49 rfl rfl)
theorem dc_T_init_14 : decode prog_11_method_1_code 14 = .ok (.putfield 14, 3) := by decide +kernel
theorem fp_T_init_14 : am_fp mt_T_init.1 14 11 0 (.object "WebFinder$Bytes") := ⟨"WebFinder$SiteRules", tt_T, 3, rfl, by decide, ct_T 0 (by decide), Or.inl ⟨(am_t5 52 rfl rfl), Or.inr ⟨rfl, rfl, rfl⟩⟩⟩
theorem dc_T_init_17 : decode prog_11_method_1_code 17 = .ok (.aload_n 0, 1) := by decide +kernel
theorem dc_T_init_18 : decode prog_11_method_1_code 18 = .ok (.new 20, 3) := by decide +kernel
theorem mk_T_20 : am_mk "WebFinder$SiteRules" 20 4 [.null, .null, .int 0] := ⟨"WebFinder$Rows", tt_R, 3, ty_R, rfl, ct_R, (am_t5 50 rfl rfl), (am_t1 96 rfl rfl), (am_t1 5 rfl rfl), rfl, fun _ => rfl, by decide +kernel⟩
theorem dc_T_init_21 : decode prog_11_method_1_code 21 = .ok (.dup, 1) := by decide +kernel
theorem dc_T_init_22 : decode prog_11_method_1_code 22 = .ok (.bipush 64, 2) := by decide +kernel
theorem dc_T_init_24 : decode prog_11_method_1_code 24 = .ok (.bipush 8, 2) := by decide +kernel
theorem dc_T_init_26 : decode prog_11_method_1_code 26 = .ok (.invokespecial 22, 3) := by decide +kernel
theorem ln_T_22 : am_ln "WebFinder$SiteRules" 22 mt_R_init.1 := Or.inl (am_t5 51 rfl rfl)
theorem dc_T_init_29 : decode prog_11_method_1_code 29 = .ok (.putfield 25, 3) := by decide +kernel
theorem fp_T_init_25 : am_fp mt_T_init.1 25 11 1 (.object "WebFinder$Rows") := ⟨"WebFinder$SiteRules", tt_T, 3, rfl, by decide, ct_T 1 (by decide), Or.inl ⟨(am_t5 54 rfl rfl), Or.inr ⟨rfl, rfl, rfl⟩⟩⟩
theorem dc_T_init_32 : decode prog_11_method_1_code 32 = .ok (.aload_n 0, 1) := by decide +kernel
theorem dc_T_init_33 : decode prog_11_method_1_code 33 = .ok (.new 20, 3) := by decide +kernel
theorem dc_T_init_36 : decode prog_11_method_1_code 36 = .ok (.dup, 1) := by decide +kernel
theorem dc_T_init_37 : decode prog_11_method_1_code 37 = .ok (.bipush 64, 2) := by decide +kernel
theorem dc_T_init_39 : decode prog_11_method_1_code 39 = .ok (.bipush 8, 2) := by decide +kernel
theorem dc_T_init_41 : decode prog_11_method_1_code 41 = .ok (.invokespecial 22, 3) := by decide +kernel
theorem dc_T_init_44 : decode prog_11_method_1_code 44 = .ok (.putfield 29, 3) := by decide +kernel
theorem fp_T_init_29 : am_fp mt_T_init.1 29 11 2 (.object "WebFinder$Rows") := ⟨"WebFinder$SiteRules", tt_T, 3, rfl, by decide, ct_T 2 (by decide), Or.inl ⟨(am_t5 55 rfl rfl), Or.inr ⟨rfl, rfl, rfl⟩⟩⟩
theorem dc_T_init_47 : decode prog_11_method_1_code 47 = .ok (.return_, 1) := by decide +kernel
