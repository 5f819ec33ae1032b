theorem dc_P_referenced_0 : decode prog_8_method_7_code 0 = .ok (.iload_n 1, 1) := by decide +kernel
theorem dc_P_referenced_1 : decode prog_8_method_7_code 1 = .ok (.iload_n 2, 1) := by decide +kernel
theorem dc_P_referenced_2 : decode prog_8_method_7_code 2 = .ok (.if_icmp .ge 67, 3) := by decide +kernel
theorem dc_P_referenced_5 : decode prog_8_method_7_code 5 = .ok (.aload_n 0, 1) := by decide +kernel
theorem dc_P_referenced_6 : decode prog_8_method_7_code 6 = .ok (.iload_n 1, 1) := by decide +kernel
theorem dc_P_referenced_7 : decode prog_8_method_7_code 7 = .ok (.baload, 1) := by decide +kernel
theorem dc_P_referenced_8 : decode prog_8_method_7_code 8 = .ok (.bipush 35, 2) := by decide +kernel
theorem dc_P_referenced_10 : decode prog_8_method_7_code 10 = .ok (.if_icmp .ne 59, 3) := by decide +kernel
theorem dc_P_referenced_13 : decode prog_8_method_7_code 13 = .ok (.iload_n 1, 1) := by decide +kernel
theorem dc_P_referenced_14 : decode prog_8_method_7_code 14 = .ok (.iconst 1, 1) := by decide +kernel
theorem dc_P_referenced_15 : decode prog_8_method_7_code 15 = .ok (.iadd, 1) := by decide +kernel
theorem dc_P_referenced_16 : decode prog_8_method_7_code 16 = .ok (.iload_n 2, 1) := by decide +kernel
theorem dc_P_referenced_17 : decode prog_8_method_7_code 17 = .ok (.if_icmp .ge 20, 3) := by decide +kernel
theorem dc_P_referenced_20 : decode prog_8_method_7_code 20 = .ok (.aload_n 0, 1) := by decide +kernel
theorem dc_P_referenced_21 : decode prog_8_method_7_code 21 = .ok (.iload_n 1, 1) := by decide +kernel
theorem dc_P_referenced_22 : decode prog_8_method_7_code 22 = .ok (.iconst 1, 1) := by decide +kernel
theorem dc_P_referenced_23 : decode prog_8_method_7_code 23 = .ok (.iadd, 1) := by decide +kernel
theorem dc_P_referenced_24 : decode prog_8_method_7_code 24 = .ok (.baload, 1) := by decide +kernel
theorem dc_P_referenced_25 : decode prog_8_method_7_code 25 = .ok (.invokestatic 127, 3) := by decide +kernel
theorem ln_P_127 : am_ln "WebFinder$PageReader" 127 mt_W_lower.1 := Or.inr ⟨"WebFinder", (am_n5 219 rfl rfl)⟩
theorem dc_P_referenced_28 : decode prog_8_method_7_code 28 = .ok (.bipush 120, 2) := by decide +kernel
theorem dc_P_referenced_30 : decode prog_8_method_7_code 30 = .ok (.if_icmp .ne 7, 3) := by decide +kernel
theorem dc_P_referenced_33 : decode prog_8_method_7_code 33 = .ok (.iconst 1, 1) := by decide +kernel
theorem dc_P_referenced_34 : decode prog_8_method_7_code 34 = .ok (.goto 4, 3) := by decide +kernel
theorem dc_P_referenced_37 : decode prog_8_method_7_code 37 = .ok (.iconst 0, 1) := by decide +kernel
theorem dc_P_referenced_38 : decode prog_8_method_7_code 38 = .ok (.istore_n 3, 1) := by decide +kernel
theorem dc_P_referenced_39 : decode prog_8_method_7_code 39 = .ok (.aload_n 0, 1) := by decide +kernel
theorem dc_P_referenced_40 : decode prog_8_method_7_code 40 = .ok (.iload_n 3, 1) := by decide +kernel
theorem dc_P_referenced_41 : decode prog_8_method_7_code 41 = .ok (.ifCond .eq 9, 3) := by decide +kernel
theorem dc_P_referenced_44 : decode prog_8_method_7_code 44 = .ok (.iload_n 1, 1) := by decide +kernel
theorem dc_P_referenced_45 : decode prog_8_method_7_code 45 = .ok (.iconst 2, 1) := by decide +kernel
theorem dc_P_referenced_46 : decode prog_8_method_7_code 46 = .ok (.iadd, 1) := by decide +kernel
theorem dc_P_referenced_47 : decode prog_8_method_7_code 47 = .ok (.goto 6, 3) := by decide +kernel
theorem dc_P_referenced_50 : decode prog_8_method_7_code 50 = .ok (.iload_n 1, 1) := by decide +kernel
theorem dc_P_referenced_51 : decode prog_8_method_7_code 51 = .ok (.iconst 1, 1) := by decide +kernel
theorem dc_P_referenced_52 : decode prog_8_method_7_code 52 = .ok (.iadd, 1) := by decide +kernel
theorem dc_P_referenced_53 : decode prog_8_method_7_code 53 = .ok (.iload_n 2, 1) := by decide +kernel
theorem dc_P_referenced_54 : decode prog_8_method_7_code 54 = .ok (.iload_n 3, 1) := by decide +kernel
theorem dc_P_referenced_55 : decode prog_8_method_7_code 55 = .ok (.ifCond .eq 8, 3) := by decide +kernel
theorem dc_P_referenced_58 : decode prog_8_method_7_code 58 = .ok (.bipush 16, 2) := by decide +kernel
theorem dc_P_referenced_60 : decode prog_8_method_7_code 60 = .ok (.goto 5, 3) := by decide +kernel
theorem dc_P_referenced_63 : decode prog_8_method_7_code 63 = .ok (.bipush 10, 2) := by decide +kernel
theorem dc_P_referenced_65 : decode prog_8_method_7_code 65 = .ok (.invokestatic 151, 3) := by decide +kernel
theorem mo_P_numbered : am_mo mt_P_numbered 4 := ⟨⟨by decide +kernel, by decide +kernel⟩, by decide +kernel, ⟨by decide +kernel, by decide +kernel⟩, (am_t5 222 rfl rfl), (am_t1 4 rfl rfl), by decide +kernel⟩
theorem st_P_numbered : Cond.static mt_P_numbered.1 ∈ am_gw := (am_t5 221 rfl rfl)
theorem ln_P_151 : am_ln "WebFinder$PageReader" 151 mt_P_numbered.1 := Or.inl (am_t5 220 rfl rfl)
theorem dc_P_referenced_68 : decode prog_8_method_7_code 68 = .ok (.ireturn, 1) := by decide +kernel
theorem dc_P_referenced_69 : decode prog_8_method_7_code 69 = .ok (.aload_n 0, 1) := by decide +kernel
theorem dc_P_referenced_70 : decode prog_8_method_7_code 70 = .ok (.iload_n 1, 1) := by decide +kernel
theorem dc_P_referenced_71 : decode prog_8_method_7_code 71 = .ok (.iload_n 2, 1) := by decide +kernel
theorem dc_P_referenced_72 : decode prog_8_method_7_code 72 = .ok (.ldc 154, 2) := by decide +kernel
theorem dc_P_referenced_74 : decode prog_8_method_7_code 74 = .ok (.invokestatic 156, 3) := by decide +kernel
theorem mo_P_isExactly : am_mo mt_P_isExactly 4 := ⟨⟨by decide +kernel, by decide +kernel⟩, by decide +kernel, ⟨by decide +kernel, by decide +kernel⟩, (am_t5 227 rfl rfl), (am_t1 4 rfl rfl), by decide +kernel⟩
theorem st_P_isExactly : Cond.static mt_P_isExactly.1 ∈ am_gw := (am_t5 226 rfl rfl)
theorem ln_P_156 : am_ln "WebFinder$PageReader" 156 mt_P_isExactly.1 := Or.inl (am_t5 225 rfl rfl)
theorem dc_P_referenced_77 : decode prog_8_method_7_code 77 = .ok (.ifCond .eq 6, 3) := by decide +kernel
theorem dc_P_referenced_80 : decode prog_8_method_7_code 80 = .ok (.bipush 38, 2) := by decide +kernel
theorem dc_P_referenced_82 : decode prog_8_method_7_code 82 = .ok (.ireturn, 1) := by decide +kernel
theorem dc_P_referenced_83 : decode prog_8_method_7_code 83 = .ok (.aload_n 0, 1) := by decide +kernel
theorem dc_P_referenced_84 : decode prog_8_method_7_code 84 = .ok (.iload_n 1, 1) := by decide +kernel
theorem dc_P_referenced_85 : decode prog_8_method_7_code 85 = .ok (.iload_n 2, 1) := by decide +kernel
theorem dc_P_referenced_86 : decode prog_8_method_7_code 86 = .ok (.ldc 160, 2) := by decide +kernel
theorem dc_P_referenced_88 : decode prog_8_method_7_code 88 = .ok (.invokestatic 156, 3) := by decide +kernel
theorem dc_P_referenced_91 : decode prog_8_method_7_code 91 = .ok (.ifCond .eq 6, 3) := by decide +kernel
theorem dc_P_referenced_94 : decode prog_8_method_7_code 94 = .ok (.bipush 60, 2) := by decide +kernel
theorem dc_P_referenced_96 : decode prog_8_method_7_code 96 = .ok (.ireturn, 1) := by decide +kernel
theorem dc_P_referenced_97 : decode prog_8_method_7_code 97 = .ok (.aload_n 0, 1) := by decide +kernel
theorem dc_P_referenced_98 : decode prog_8_method_7_code 98 = .ok (.iload_n 1, 1) := by decide +kernel
theorem dc_P_referenced_99 : decode prog_8_method_7_code 99 = .ok (.iload_n 2, 1) := by decide +kernel
theorem dc_P_referenced_100 : decode prog_8_method_7_code 100 = .ok (.ldc 162, 2) := by decide +kernel
theorem dc_P_referenced_102 : decode prog_8_method_7_code 102 = .ok (.invokestatic 156, 3) := by decide +kernel
theorem dc_P_referenced_105 : decode prog_8_method_7_code 105 = .ok (.ifCond .eq 6, 3) := by decide +kernel
theorem dc_P_referenced_108 : decode prog_8_method_7_code 108 = .ok (.bipush 62, 2) := by decide +kernel
theorem dc_P_referenced_110 : decode prog_8_method_7_code 110 = .ok (.ireturn, 1) := by decide +kernel
theorem dc_P_referenced_111 : decode prog_8_method_7_code 111 = .ok (.aload_n 0, 1) := by decide +kernel
theorem dc_P_referenced_112 : decode prog_8_method_7_code 112 = .ok (.iload_n 1, 1) := by decide +kernel
theorem dc_P_referenced_113 : decode prog_8_method_7_code 113 = .ok (.iload_n 2, 1) := by decide +kernel
theorem dc_P_referenced_114 : decode prog_8_method_7_code 114 = .ok (.ldc 164, 2) := by decide +kernel
theorem dc_P_referenced_116 : decode prog_8_method_7_code 116 = .ok (.invokestatic 156, 3) := by decide +kernel
theorem dc_P_referenced_119 : decode prog_8_method_7_code 119 = .ok (.ifCond .eq 6, 3) := by decide +kernel
theorem dc_P_referenced_122 : decode prog_8_method_7_code 122 = .ok (.bipush 34, 2) := by decide +kernel
theorem dc_P_referenced_124 : decode prog_8_method_7_code 124 = .ok (.ireturn, 1) := by decide +kernel
theorem dc_P_referenced_125 : decode prog_8_method_7_code 125 = .ok (.aload_n 0, 1) := by decide +kernel
theorem dc_P_referenced_126 : decode prog_8_method_7_code 126 = .ok (.iload_n 1, 1) := by decide +kernel
theorem dc_P_referenced_127 : decode prog_8_method_7_code 127 = .ok (.iload_n 2, 1) := by decide +kernel
theorem dc_P_referenced_128 : decode prog_8_method_7_code 128 = .ok (.ldc 166, 2) := by decide +kernel
theorem dc_P_referenced_130 : decode prog_8_method_7_code 130 = .ok (.invokestatic 156, 3) := by decide +kernel
theorem dc_P_referenced_133 : decode prog_8_method_7_code 133 = .ok (.ifCond .eq 8, 3) := by decide +kernel
theorem dc_P_referenced_136 : decode prog_8_method_7_code 136 = .ok (.bipush 39, 2) := by decide +kernel
theorem dc_P_referenced_138 : decode prog_8_method_7_code 138 = .ok (.goto 4, 3) := by decide +kernel
theorem dc_P_referenced_141 : decode prog_8_method_7_code 141 = .ok (.iconst (-1), 1) := by decide +kernel
theorem dc_P_referenced_142 : decode prog_8_method_7_code 142 = .ok (.ireturn, 1) := by decide +kernel
theorem dc_P_numbered_0 : decode prog_8_method_9_code 0 = .ok (.iload_n 2, 1) := by decide +kernel
theorem dc_P_numbered_1 : decode prog_8_method_9_code 1 = .ok (.iload_n 1, 1) := by decide +kernel
theorem dc_P_numbered_2 : decode prog_8_method_9_code 2 = .ok (.if_icmp .le 11, 3) := by decide +kernel
theorem dc_P_numbered_5 : decode prog_8_method_9_code 5 = .ok (.iload_n 2, 1) := by decide +kernel
theorem dc_P_numbered_6 : decode prog_8_method_9_code 6 = .ok (.iload_n 1, 1) := by decide +kernel
theorem dc_P_numbered_7 : decode prog_8_method_9_code 7 = .ok (.isub, 1) := by decide +kernel
theorem dc_P_numbered_8 : decode prog_8_method_9_code 8 = .ok (.bipush 6, 2) := by decide +kernel
theorem dc_P_numbered_10 : decode prog_8_method_9_code 10 = .ok (.if_icmp .le 5, 3) := by decide +kernel
theorem dc_P_numbered_13 : decode prog_8_method_9_code 13 = .ok (.iconst (-1), 1) := by decide +kernel
theorem dc_P_numbered_14 : decode prog_8_method_9_code 14 = .ok (.ireturn, 1) := by decide +kernel
theorem dc_P_numbered_15 : decode prog_8_method_9_code 15 = .ok (.iconst 0, 1) := by decide +kernel
theorem dc_P_numbered_16 : decode prog_8_method_9_code 16 = .ok (.istore 4, 2) := by decide +kernel
theorem dc_P_numbered_18 : decode prog_8_method_9_code 18 = .ok (.iload_n 1, 1) := by decide +kernel
theorem dc_P_numbered_19 : decode prog_8_method_9_code 19 = .ok (.istore 5, 2) := by decide +kernel
theorem dc_P_numbered_21 : decode prog_8_method_9_code 21 = .ok (.iload 5, 2) := by decide +kernel
theorem dc_P_numbered_23 : decode prog_8_method_9_code 23 = .ok (.iload_n 2, 1) := by decide +kernel
theorem dc_P_numbered_24 : decode prog_8_method_9_code 24 = .ok (.if_icmp .ge 41, 3) := by decide +kernel
theorem dc_P_numbered_27 : decode prog_8_method_9_code 27 = .ok (.aload_n 0, 1) := by decide +kernel
theorem dc_P_numbered_28 : decode prog_8_method_9_code 28 = .ok (.iload 5, 2) := by decide +kernel
theorem dc_P_numbered_30 : decode prog_8_method_9_code 30 = .ok (.baload, 1) := by decide +kernel
theorem dc_P_numbered_31 : decode prog_8_method_9_code 31 = .ok (.invokestatic 176, 3) := by decide +kernel
theorem ln_P_176 : am_ln "WebFinder$PageReader" 176 mt_W_hexValue.1 := Or.inr ⟨"WebFinder", (am_n5 223 rfl rfl)⟩
theorem dc_P_numbered_34 : decode prog_8_method_9_code 34 = .ok (.istore 6, 2) := by decide +kernel
theorem dc_P_numbered_36 : decode prog_8_method_9_code 36 = .ok (.iload 6, 2) := by decide +kernel
theorem dc_P_numbered_38 : decode prog_8_method_9_code 38 = .ok (.iconst (-1), 1) := by decide +kernel
theorem dc_P_numbered_39 : decode prog_8_method_9_code 39 = .ok (.if_icmp .eq 9, 3) := by decide +kernel
theorem dc_P_numbered_42 : decode prog_8_method_9_code 42 = .ok (.iload 6, 2) := by decide +kernel
theorem dc_P_numbered_44 : decode prog_8_method_9_code 44 = .ok (.iload_n 3, 1) := by decide +kernel
theorem dc_P_numbered_45 : decode prog_8_method_9_code 45 = .ok (.if_icmp .lt 5, 3) := by decide +kernel
theorem dc_P_numbered_48 : decode prog_8_method_9_code 48 = .ok (.iconst (-1), 1) := by decide +kernel
theorem dc_P_numbered_49 : decode prog_8_method_9_code 49 = .ok (.ireturn, 1) := by decide +kernel
theorem dc_P_numbered_50 : decode prog_8_method_9_code 50 = .ok (.iload_n 3, 1) := by decide +kernel
theorem dc_P_numbered_51 : decode prog_8_method_9_code 51 = .ok (.iload 4, 2) := by decide +kernel
theorem dc_P_numbered_53 : decode prog_8_method_9_code 53 = .ok (.imul, 1) := by decide +kernel
theorem dc_P_numbered_54 : decode prog_8_method_9_code 54 = .ok (.iload 6, 2) := by decide +kernel
theorem dc_P_numbered_56 : decode prog_8_method_9_code 56 = .ok (.iadd, 1) := by decide +kernel
theorem dc_P_numbered_57 : decode prog_8_method_9_code 57 = .ok (.istore 4, 2) := by decide +kernel
theorem dc_P_numbered_59 : decode prog_8_method_9_code 59 = .ok (.iinc 5 1, 3) := by decide +kernel
theorem dc_P_numbered_62 : decode prog_8_method_9_code 62 = .ok (.goto (-41), 3) := by decide +kernel
theorem dc_P_numbered_65 : decode prog_8_method_9_code 65 = .ok (.iload 4, 2) := by decide +kernel
theorem dc_P_numbered_67 : decode prog_8_method_9_code 67 = .ok (.bipush 32, 2) := by decide +kernel
theorem dc_P_numbered_69 : decode prog_8_method_9_code 69 = .ok (.if_icmp .lt 15, 3) := by decide +kernel
theorem dc_P_numbered_72 : decode prog_8_method_9_code 72 = .ok (.iload 4, 2) := by decide +kernel
theorem dc_P_numbered_74 : decode prog_8_method_9_code 74 = .ok (.bipush 126, 2) := by decide +kernel
theorem dc_P_numbered_76 : decode prog_8_method_9_code 76 = .ok (.if_icmp .gt 8, 3) := by decide +kernel
theorem dc_P_numbered_79 : decode prog_8_method_9_code 79 = .ok (.iload 4, 2) := by decide +kernel
theorem dc_P_numbered_81 : decode prog_8_method_9_code 81 = .ok (.goto 5, 3) := by decide +kernel
theorem dc_P_numbered_84 : decode prog_8_method_9_code 84 = .ok (.bipush 32, 2) := by decide +kernel
theorem dc_P_numbered_86 : decode prog_8_method_9_code 86 = .ok (.ireturn, 1) := by decide +kernel
theorem dc_P_isExactly_0 : decode prog_8_method_8_code 0 = .ok (.iload_n 2, 1) := by decide +kernel
theorem dc_P_isExactly_1 : decode prog_8_method_8_code 1 = .ok (.iload_n 1, 1) := by decide +kernel
theorem dc_P_isExactly_2 : decode prog_8_method_8_code 2 = .ok (.isub, 1) := by decide +kernel
theorem dc_P_isExactly_3 : decode prog_8_method_8_code 3 = .ok (.aload_n 3, 1) := by decide +kernel
theorem dc_P_isExactly_4 : decode prog_8_method_8_code 4 = .ok (.invokevirtual 168, 3) := by decide +kernel
theorem ln_P_168 : am_ln "WebFinder$PageReader" 168 mt_JString_length.1 := Or.inl (am_t5 228 rfl rfl)
theorem dc_P_isExactly_7 : decode prog_8_method_8_code 7 = .ok (.if_icmp .eq 5, 3) := by decide +kernel
theorem dc_P_isExactly_10 : decode prog_8_method_8_code 10 = .ok (.iconst 0, 1) := by decide +kernel
theorem dc_P_isExactly_11 : decode prog_8_method_8_code 11 = .ok (.ireturn, 1) := by decide +kernel
theorem dc_P_isExactly_12 : decode prog_8_method_8_code 12 = .ok (.iconst 0, 1) := by decide +kernel
theorem dc_P_isExactly_13 : decode prog_8_method_8_code 13 = .ok (.istore 4, 2) := by decide +kernel
theorem dc_P_isExactly_15 : decode prog_8_method_8_code 15 = .ok (.iload 4, 2) := by decide +kernel
theorem dc_P_isExactly_17 : decode prog_8_method_8_code 17 = .ok (.aload_n 3, 1) := by decide +kernel
theorem dc_P_isExactly_18 : decode prog_8_method_8_code 18 = .ok (.invokevirtual 168, 3) := by decide +kernel
theorem dc_P_isExactly_21 : decode prog_8_method_8_code 21 = .ok (.if_icmp .ge 26, 3) := by decide +kernel
theorem dc_P_isExactly_24 : decode prog_8_method_8_code 24 = .ok (.aload_n 0, 1) := by decide +kernel
theorem dc_P_isExactly_25 : decode prog_8_method_8_code 25 = .ok (.iload_n 1, 1) := by decide +kernel
theorem dc_P_isExactly_26 : decode prog_8_method_8_code 26 = .ok (.iload 4, 2) := by decide +kernel
theorem dc_P_isExactly_28 : decode prog_8_method_8_code 28 = .ok (.iadd, 1) := by decide +kernel
theorem dc_P_isExactly_29 : decode prog_8_method_8_code 29 = .ok (.baload, 1) := by decide +kernel
theorem dc_P_isExactly_30 : decode prog_8_method_8_code 30 = .ok (.aload_n 3, 1) := by decide +kernel
theorem dc_P_isExactly_31 : decode prog_8_method_8_code 31 = .ok (.iload 4, 2) := by decide +kernel
theorem dc_P_isExactly_33 : decode prog_8_method_8_code 33 = .ok (.invokevirtual 172, 3) := by decide +kernel
theorem ln_P_172 : am_ln "WebFinder$PageReader" 172 mt_JString_charAt.1 := Or.inl (am_t5 229 rfl rfl)
theorem dc_P_isExactly_36 : decode prog_8_method_8_code 36 = .ok (.if_icmp .eq 5, 3) := by decide +kernel
theorem dc_P_isExactly_39 : decode prog_8_method_8_code 39 = .ok (.iconst 0, 1) := by decide +kernel
theorem dc_P_isExactly_40 : decode prog_8_method_8_code 40 = .ok (.ireturn, 1) := by decide +kernel
theorem dc_P_isExactly_41 : decode prog_8_method_8_code 41 = .ok (.iinc 4 1, 3) := by decide +kernel
theorem dc_P_isExactly_44 : decode prog_8_method_8_code 44 = .ok (.goto (-29), 3) := by decide +kernel
theorem dc_P_isExactly_47 : decode prog_8_method_8_code 47 = .ok (.iconst 1, 1) := by decide +kernel
theorem dc_P_isExactly_48 : decode prog_8_method_8_code 48 = .ok (.ireturn, 1) := by decide +kernel
theorem dc_P_addLink_0 : decode prog_8_method_3_code 0 = .ok (.aload_n 0, 1) := by decide +kernel
theorem dc_P_addLink_1 : decode prog_8_method_3_code 1 = .ok (.getfield 14, 3) := by decide +kernel
theorem dc_P_addLink_4 : decode prog_8_method_3_code 4 = .ok (.aload_n 1, 1) := by decide +kernel
theorem dc_P_addLink_5 : decode prog_8_method_3_code 5 = .ok (.getfield 73, 3) := by decide +kernel
theorem dc_P_addLink_8 : decode prog_8_method_3_code 8 = .ok (.iconst 0, 1) := by decide +kernel
theorem dc_P_addLink_9 : decode prog_8_method_3_code 9 = .ok (.aload_n 1, 1) := by decide +kernel
theorem dc_P_addLink_10 : decode prog_8_method_3_code 10 = .ok (.getfield 77, 3) := by decide +kernel
theorem dc_P_addLink_13 : decode prog_8_method_3_code 13 = .ok (.invokevirtual 100, 3) := by decide +kernel
theorem mo_R_numberOf : am_mo mt_R_numberOf 3 := ⟨⟨by decide +kernel, by decide +kernel⟩, by decide +kernel, ⟨by decide +kernel, by decide +kernel⟩, (am_t6 5 rfl rfl), (am_t1 5 rfl rfl), by decide +kernel⟩
theorem im_R_numberOf : Cond.instanceMethod mt_R_numberOf.1 ∈ am_gw := (am_t6 3 rfl rfl)
theorem se_R_numberOf : Cond.selects mt_R_numberOf.1.cls mt_R_numberOf.1 mt_R_numberOf.1 ∈ am_gw := (am_t6 4 rfl rfl)
theorem ln_P_100 : am_ln "WebFinder$PageReader" 100 mt_R_numberOf.1 := Or.inl (am_t6 2 rfl rfl)
theorem dc_P_addLink_16 : decode prog_8_method_3_code 16 = .ok (.iconst (-1), 1) := by decide +kernel
theorem dc_P_addLink_17 : decode prog_8_method_3_code 17 = .ok (.if_icmp .ne 19, 3) := by decide +kernel
theorem dc_P_addLink_20 : decode prog_8_method_3_code 20 = .ok (.aload_n 0, 1) := by decide +kernel
theorem dc_P_addLink_21 : decode prog_8_method_3_code 21 = .ok (.getfield 14, 3) := by decide +kernel
theorem dc_P_addLink_24 : decode prog_8_method_3_code 24 = .ok (.aload_n 1, 1) := by decide +kernel
theorem dc_P_addLink_25 : decode prog_8_method_3_code 25 = .ok (.getfield 73, 3) := by decide +kernel
theorem dc_P_addLink_28 : decode prog_8_method_3_code 28 = .ok (.iconst 0, 1) := by decide +kernel
theorem dc_P_addLink_29 : decode prog_8_method_3_code 29 = .ok (.aload_n 1, 1) := by decide +kernel
theorem dc_P_addLink_30 : decode prog_8_method_3_code 30 = .ok (.getfield 77, 3) := by decide +kernel
theorem dc_P_addLink_33 : decode prog_8_method_3_code 33 = .ok (.invokevirtual 104, 3) := by decide +kernel
theorem mo_R_add : am_mo mt_R_add 3 := ⟨⟨by decide +kernel, by decide +kernel⟩, by decide +kernel, ⟨by decide +kernel, by decide +kernel⟩, (am_t6 14 rfl rfl), (am_t1 5 rfl rfl), by decide +kernel⟩
theorem im_R_add : Cond.instanceMethod mt_R_add.1 ∈ am_gw := (am_t6 12 rfl rfl)
theorem se_R_add : Cond.selects mt_R_add.1.cls mt_R_add.1 mt_R_add.1 ∈ am_gw := (am_t6 13 rfl rfl)
theorem ln_P_104 : am_ln "WebFinder$PageReader" 104 mt_R_add.1 := Or.inl (am_t6 11 rfl rfl)
theorem dc_P_addLink_36 : decode prog_8_method_3_code 36 = .ok (.return_, 1) := by decide +kernel
theorem dc_R_numberOf_0 : decode prog_10_method_9_code 0 = .ok (.iconst 0, 1) := by decide +kernel
theorem dc_R_numberOf_1 : decode prog_10_method_9_code 1 = .ok (.istore 4, 2) := by decide +kernel
theorem dc_R_numberOf_3 : decode prog_10_method_9_code 3 = .ok (.iload 4, 2) := by decide +kernel
theorem dc_R_numberOf_5 : decode prog_10_method_9_code 5 = .ok (.aload_n 0, 1) := by decide +kernel
theorem dc_R_numberOf_6 : decode prog_10_method_9_code 6 = .ok (.getfield 27, 3) := by decide +kernel
theorem dc_R_numberOf_9 : decode prog_10_method_9_code 9 = .ok (.if_icmp .ge 24, 3) := by decide +kernel
theorem dc_R_numberOf_12 : decode prog_10_method_9_code 12 = .ok (.aload_n 0, 1) := by decide +kernel
theorem dc_R_numberOf_13 : decode prog_10_method_9_code 13 = .ok (.iload 4, 2) := by decide +kernel
theorem dc_R_numberOf_15 : decode prog_10_method_9_code 15 = .ok (.aload_n 1, 1) := by decide +kernel
theorem dc_R_numberOf_16 : decode prog_10_method_9_code 16 = .ok (.iload_n 2, 1) := by decide +kernel
theorem dc_R_numberOf_17 : decode prog_10_method_9_code 17 = .ok (.iload_n 3, 1) := by decide +kernel
theorem dc_R_numberOf_18 : decode prog_10_method_9_code 18 = .ok (.invokevirtual 59, 3) := by decide +kernel
theorem mo_R_same : am_mo mt_R_same 4 := ⟨⟨by decide +kernel, by decide +kernel⟩, by decide +kernel, ⟨by decide +kernel, by decide +kernel⟩, (am_t6 9 rfl rfl), (am_t1 5 rfl rfl), by decide +kernel⟩
theorem im_R_same : Cond.instanceMethod mt_R_same.1 ∈ am_gw := (am_t6 7 rfl rfl)
theorem se_R_same : Cond.selects mt_R_same.1.cls mt_R_same.1 mt_R_same.1 ∈ am_gw := (am_t6 8 rfl rfl)
theorem ln_R_59 : am_ln "WebFinder$Rows" 59 mt_R_same.1 := Or.inl (am_t6 6 rfl rfl)
theorem dc_R_numberOf_21 : decode prog_10_method_9_code 21 = .ok (.ifCond .eq 6, 3) := by decide +kernel
theorem dc_R_numberOf_24 : decode prog_10_method_9_code 24 = .ok (.iload 4, 2) := by decide +kernel
theorem dc_R_numberOf_26 : decode prog_10_method_9_code 26 = .ok (.ireturn, 1) := by decide +kernel
theorem dc_R_numberOf_27 : decode prog_10_method_9_code 27 = .ok (.iinc 4 1, 3) := by decide +kernel
theorem dc_R_numberOf_30 : decode prog_10_method_9_code 30 = .ok (.goto (-27), 3) := by decide +kernel
theorem dc_R_numberOf_33 : decode prog_10_method_9_code 33 = .ok (.iconst (-1), 1) := by decide +kernel
theorem dc_R_numberOf_34 : decode prog_10_method_9_code 34 = .ok (.ireturn, 1) := by decide +kernel
theorem dc_R_same_0 : decode prog_10_method_8_code 0 = .ok (.aload_n 0, 1) := by decide +kernel
theorem dc_R_same_1 : decode prog_10_method_8_code 1 = .ok (.iload_n 1, 1) := by decide +kernel
theorem dc_R_same_2 : decode prog_10_method_8_code 2 = .ok (.invokevirtual 31, 3) := by decide +kernel
theorem dc_R_same_5 : decode prog_10_method_8_code 5 = .ok (.istore 5, 2) := by decide +kernel
theorem dc_R_same_7 : decode prog_10_method_8_code 7 = .ok (.aload_n 0, 1) := by decide +kernel
theorem dc_R_same_8 : decode prog_10_method_8_code 8 = .ok (.getfield 20, 3) := by decide +kernel
theorem dc_R_same_11 : decode prog_10_method_8_code 11 = .ok (.iload_n 1, 1) := by decide +kernel
theorem dc_R_same_12 : decode prog_10_method_8_code 12 = .ok (.iaload, 1) := by decide +kernel
theorem dc_R_same_13 : decode prog_10_method_8_code 13 = .ok (.iload 5, 2) := by decide +kernel
theorem dc_R_same_15 : decode prog_10_method_8_code 15 = .ok (.isub, 1) := by decide +kernel
theorem dc_R_same_16 : decode prog_10_method_8_code 16 = .ok (.iload 4, 2) := by decide +kernel
theorem dc_R_same_18 : decode prog_10_method_8_code 18 = .ok (.iload_n 3, 1) := by decide +kernel
theorem dc_R_same_19 : decode prog_10_method_8_code 19 = .ok (.isub, 1) := by decide +kernel
theorem dc_R_same_20 : decode prog_10_method_8_code 20 = .ok (.if_icmp .ne 28, 3) := by decide +kernel
theorem dc_R_same_23 : decode prog_10_method_8_code 23 = .ok (.aload_n 0, 1) := by decide +kernel
theorem dc_R_same_24 : decode prog_10_method_8_code 24 = .ok (.getfield 14, 3) := by decide +kernel
theorem dc_R_same_27 : decode prog_10_method_8_code 27 = .ok (.getfield 51, 3) := by decide +kernel
theorem fl_R_51 : am_fl "WebFinder$Rows" 51 1 0 := ⟨"WebFinder$Bytes", tt_B, 2, rfl, by decide, Or.inl (am_t1 55 rfl rfl)⟩
theorem dc_R_same_30 : decode prog_10_method_8_code 30 = .ok (.iload 5, 2) := by decide +kernel
theorem dc_R_same_32 : decode prog_10_method_8_code 32 = .ok (.aload_n 2, 1) := by decide +kernel
theorem dc_R_same_33 : decode prog_10_method_8_code 33 = .ok (.iload_n 3, 1) := by decide +kernel
theorem dc_R_same_34 : decode prog_10_method_8_code 34 = .ok (.iload 4, 2) := by decide +kernel
theorem dc_R_same_36 : decode prog_10_method_8_code 36 = .ok (.iload_n 3, 1) := by decide +kernel
theorem dc_R_same_37 : decode prog_10_method_8_code 37 = .ok (.isub, 1) := by decide +kernel
theorem dc_R_same_38 : decode prog_10_method_8_code 38 = .ok (.invokestatic 55, 3) := by decide +kernel
theorem ln_R_55 : am_ln "WebFinder$Rows" 55 mt_W_sameBytes.1 := Or.inr ⟨"WebFinder", (am_n6 10 rfl rfl)⟩
theorem dc_R_same_41 : decode prog_10_method_8_code 41 = .ok (.ifCond .eq 7, 3) := by decide +kernel
theorem dc_R_same_44 : decode prog_10_method_8_code 44 = .ok (.iconst 1, 1) := by decide +kernel
theorem dc_R_same_45 : decode prog_10_method_8_code 45 = .ok (.goto 4, 3) := by decide +kernel
theorem dc_R_same_48 : decode prog_10_method_8_code 48 = .ok (.iconst 0, 1) := by decide +kernel
theorem dc_R_same_49 : decode prog_10_method_8_code 49 = .ok (.ireturn, 1) := by decide +kernel
theorem dc_R_add_0 : decode prog_10_method_6_code 0 = .ok (.aload_n 0, 1) := by decide +kernel
theorem dc_R_add_1 : decode prog_10_method_6_code 1 = .ok (.getfield 14, 3) := by decide +kernel
theorem dc_R_add_4 : decode prog_10_method_6_code 4 = .ok (.aload_n 1, 1) := by decide +kernel
theorem dc_R_add_5 : decode prog_10_method_6_code 5 = .ok (.iload_n 2, 1) := by decide +kernel
theorem dc_R_add_6 : decode prog_10_method_6_code 6 = .ok (.iload_n 3, 1) := by decide +kernel
theorem dc_R_add_7 : decode prog_10_method_6_code 7 = .ok (.invokevirtual 38, 3) := by decide +kernel
theorem ln_R_38 : am_ln "WebFinder$Rows" 38 mt_B_putAll.1 := Or.inl (am_t6 15 rfl rfl)
theorem dc_R_add_10 : decode prog_10_method_6_code 10 = .ok (.aload_n 0, 1) := by decide +kernel
theorem dc_R_add_11 : decode prog_10_method_6_code 11 = .ok (.invokevirtual 42, 3) := by decide +kernel
theorem ln_R_42 : am_ln "WebFinder$Rows" 42 mt_R_close.1 := Or.inl (am_t6 16 rfl rfl)
theorem dc_R_add_14 : decode prog_10_method_6_code 14 = .ok (.return_, 1) := by decide +kernel
theorem dc_W_produceLines_0 : decode prog_1_method_35_code 0 = .ok (.aload_n 0, 1) := by decide +kernel
theorem dc_W_produceLines_1 : decode prog_1_method_35_code 1 = .ok (.getfield 18, 3) := by decide +kernel
theorem dc_W_produceLines_4 : decode prog_1_method_35_code 4 = .ok (.invokevirtual 121, 3) := by decide +kernel
theorem dc_W_produceLines_7 : decode prog_1_method_35_code 7 = .ok (.iconst 0, 1) := by decide +kernel
theorem dc_W_produceLines_8 : decode prog_1_method_35_code 8 = .ok (.istore_n 2, 1) := by decide +kernel
theorem dc_W_produceLines_9 : decode prog_1_method_35_code 9 = .ok (.iload_n 2, 1) := by decide +kernel
theorem dc_W_produceLines_10 : decode prog_1_method_35_code 10 = .ok (.aload_n 1, 1) := by decide +kernel
theorem dc_W_produceLines_11 : decode prog_1_method_35_code 11 = .ok (.getfield 167, 3) := by decide +kernel
theorem fl_W_167 : am_fl "WebFinder" 167 4 2 := ⟨"WebFinder$Rows", tt_R, 3, rfl, by decide, Or.inl (am_t1 117 rfl rfl)⟩
theorem dc_W_produceLines_14 : decode prog_1_method_35_code 14 = .ok (.if_icmp .ge 42, 3) := by decide +kernel
theorem dc_W_produceLines_17 : decode prog_1_method_35_code 17 = .ok (.aload_n 0, 1) := by decide +kernel
theorem dc_W_produceLines_18 : decode prog_1_method_35_code 18 = .ok (.getfield 18, 3) := by decide +kernel
theorem dc_W_produceLines_21 : decode prog_1_method_35_code 21 = .ok (.aload_n 1, 1) := by decide +kernel
theorem dc_W_produceLines_22 : decode prog_1_method_35_code 22 = .ok (.getfield 289, 3) := by decide +kernel
theorem fl_W_289 : am_fl "WebFinder" 289 4 0 := ⟨"WebFinder$Rows", tt_R, 3, rfl, by decide, Or.inl (am_t1 109 rfl rfl)⟩
theorem dc_W_produceLines_25 : decode prog_1_method_35_code 25 = .ok (.getfield 109, 3) := by decide +kernel
theorem dc_W_produceLines_28 : decode prog_1_method_35_code 28 = .ok (.aload_n 1, 1) := by decide +kernel
theorem dc_W_produceLines_29 : decode prog_1_method_35_code 29 = .ok (.iload_n 2, 1) := by decide +kernel
theorem dc_W_produceLines_30 : decode prog_1_method_35_code 30 = .ok (.invokevirtual 292, 3) := by decide +kernel
theorem ln_W_292 : am_ln "WebFinder" 292 mt_R_from.1 := Or.inl (am_t6 21 rfl rfl)
theorem dc_W_produceLines_33 : decode prog_1_method_35_code 33 = .ok (.aload_n 1, 1) := by decide +kernel
theorem dc_W_produceLines_34 : decode prog_1_method_35_code 34 = .ok (.iload_n 2, 1) := by decide +kernel
theorem dc_W_produceLines_35 : decode prog_1_method_35_code 35 = .ok (.invokevirtual 296, 3) := by decide +kernel
theorem ln_W_296 : am_ln "WebFinder" 296 mt_R_to.1 := Or.inl (am_t6 22 rfl rfl)
theorem dc_W_produceLines_38 : decode prog_1_method_35_code 38 = .ok (.invokevirtual 265, 3) := by decide +kernel
theorem ln_W_265 : am_ln "WebFinder" 265 mt_B_putAll.1 := Or.inl (am_t6 23 rfl rfl)
theorem dc_W_produceLines_41 : decode prog_1_method_35_code 41 = .ok (.aload_n 0, 1) := by decide +kernel
theorem dc_W_produceLines_42 : decode prog_1_method_35_code 42 = .ok (.getfield 18, 3) := by decide +kernel
theorem dc_W_produceLines_45 : decode prog_1_method_35_code 45 = .ok (.bipush 10, 2) := by decide +kernel
theorem dc_W_produceLines_47 : decode prog_1_method_35_code 47 = .ok (.invokevirtual 299, 3) := by decide +kernel
theorem ln_W_299 : am_ln "WebFinder" 299 mt_B_put.1 := Or.inl (am_t6 24 rfl rfl)
theorem dc_W_produceLines_50 : decode prog_1_method_35_code 50 = .ok (.iinc 2 1, 3) := by decide +kernel
theorem dc_W_produceLines_53 : decode prog_1_method_35_code 53 = .ok (.goto (-44), 3) := by decide +kernel
theorem dc_W_produceLines_56 : decode prog_1_method_35_code 56 = .ok (.aload_n 1, 1) := by decide +kernel
theorem dc_W_produceLines_57 : decode prog_1_method_35_code 57 = .ok (.getfield 167, 3) := by decide +kernel
theorem dc_W_produceLines_60 : decode prog_1_method_35_code 60 = .ok (.ireturn, 1) := by decide +kernel
theorem dc_P_readWords_0 : decode prog_8_method_4_code 0 = .ok (.aload_n 0, 1) := by decide +kernel
theorem dc_P_readWords_1 : decode prog_8_method_4_code 1 = .ok (.getfield 26, 3) := by decide +kernel
theorem dc_P_readWords_4 : decode prog_8_method_4_code 4 = .ok (.aload_n 1, 1) := by decide +kernel
theorem dc_P_readWords_5 : decode prog_8_method_4_code 5 = .ok (.iload_n 2, 1) := by decide +kernel
theorem dc_P_readWords_6 : decode prog_8_method_4_code 6 = .ok (.iload_n 3, 1) := by decide +kernel
theorem dc_P_readWords_7 : decode prog_8_method_4_code 7 = .ok (.invokevirtual 50, 3) := by decide +kernel
theorem dc_P_readWords_10 : decode prog_8_method_4_code 10 = .ok (.iload_n 3, 1) := by decide +kernel
theorem dc_P_readWords_11 : decode prog_8_method_4_code 11 = .ok (.iload_n 2, 1) := by decide +kernel
theorem dc_P_readWords_12 : decode prog_8_method_4_code 12 = .ok (.isub, 1) := by decide +kernel
theorem dc_P_readWords_13 : decode prog_8_method_4_code 13 = .ok (.istore 5, 2) := by decide +kernel
theorem dc_P_readWords_15 : decode prog_8_method_4_code 15 = .ok (.iload 5, 2) := by decide +kernel
theorem dc_P_readWords_17 : decode prog_8_method_4_code 17 = .ok (.ifCond .le 58, 3) := by decide +kernel
theorem dc_P_readWords_20 : decode prog_8_method_4_code 20 = .ok (.aload_n 0, 1) := by decide +kernel
theorem dc_P_readWords_21 : decode prog_8_method_4_code 21 = .ok (.getfield 26, 3) := by decide +kernel
theorem dc_P_readWords_24 : decode prog_8_method_4_code 24 = .ok (.invokevirtual 54, 3) := by decide +kernel
theorem dc_P_readWords_27 : decode prog_8_method_4_code 27 = .ok (.istore 6, 2) := by decide +kernel
theorem dc_P_readWords_29 : decode prog_8_method_4_code 29 = .ok (.iload 6, 2) := by decide +kernel
theorem dc_P_readWords_31 : decode prog_8_method_4_code 31 = .ok (.ifCond .ne 4, 3) := by decide +kernel
theorem dc_P_readWords_34 : decode prog_8_method_4_code 34 = .ok (.return_, 1) := by decide +kernel
theorem dc_P_readWords_35 : decode prog_8_method_4_code 35 = .ok (.iload 6, 2) := by decide +kernel
theorem dc_P_readWords_37 : decode prog_8_method_4_code 37 = .ok (.iconst 1, 1) := by decide +kernel
theorem dc_P_readWords_38 : decode prog_8_method_4_code 38 = .ok (.if_icmp .ne 31, 3) := by decide +kernel
theorem dc_P_readWords_41 : decode prog_8_method_4_code 41 = .ok (.aload_n 0, 1) := by decide +kernel
theorem dc_P_readWords_42 : decode prog_8_method_4_code 42 = .ok (.aload_n 1, 1) := by decide +kernel
theorem dc_P_readWords_43 : decode prog_8_method_4_code 43 = .ok (.aload_n 0, 1) := by decide +kernel
theorem dc_P_readWords_44 : decode prog_8_method_4_code 44 = .ok (.getfield 26, 3) := by decide +kernel
theorem dc_P_readWords_47 : decode prog_8_method_4_code 47 = .ok (.getfield 107, 3) := by decide +kernel
theorem fl_P_107 : am_fl "WebFinder$PageReader" 107 5 0 := ⟨"WebFinder$PageScanner", tt_S, 9, rfl, by decide, Or.inl (am_t1 133 rfl rfl)⟩
theorem dc_P_readWords_50 : decode prog_8_method_4_code 50 = .ok (.aload_n 0, 1) := by decide +kernel
theorem dc_P_readWords_51 : decode prog_8_method_4_code 51 = .ok (.getfield 26, 3) := by decide +kernel
theorem dc_P_readWords_54 : decode prog_8_method_4_code 54 = .ok (.getfield 110, 3) := by decide +kernel
theorem fl_P_110 : am_fl "WebFinder$PageReader" 110 5 3 := ⟨"WebFinder$PageScanner", tt_S, 9, rfl, by decide, Or.inl (am_t1 139 rfl rfl)⟩
theorem dc_P_readWords_57 : decode prog_8_method_4_code 57 = .ok (.invokevirtual 70, 3) := by decide +kernel
theorem dc_P_readWords_60 : decode prog_8_method_4_code 60 = .ok (.aload_n 0, 1) := by decide +kernel
theorem dc_P_readWords_61 : decode prog_8_method_4_code 61 = .ok (.getfield 39, 3) := by decide +kernel
theorem dc_P_readWords_64 : decode prog_8_method_4_code 64 = .ok (.aload 4, 2) := by decide +kernel
theorem dc_P_readWords_66 : decode prog_8_method_4_code 66 = .ok (.invokestatic 113, 3) := by decide +kernel
theorem mo_P_splitWords : am_mo mt_P_splitWords 2 := ⟨⟨by decide +kernel, by decide +kernel⟩, by decide +kernel, ⟨by decide +kernel, by decide +kernel⟩, (am_t6 32 rfl rfl), (am_t1 4 rfl rfl), by decide +kernel⟩
theorem st_P_splitWords : Cond.static mt_P_splitWords.1 ∈ am_gw := (am_t6 31 rfl rfl)
theorem ln_P_113 : am_ln "WebFinder$PageReader" 113 mt_P_splitWords.1 := Or.inl (am_t6 30 rfl rfl)
theorem dc_P_readWords_69 : decode prog_8_method_4_code 69 = .ok (.iinc 5 (-1), 3) := by decide +kernel
theorem dc_P_readWords_72 : decode prog_8_method_4_code 72 = .ok (.goto (-57), 3) := by decide +kernel
theorem dc_P_readWords_75 : decode prog_8_method_4_code 75 = .ok (.return_, 1) := by decide +kernel
theorem dc_P_splitWords_0 : decode prog_8_method_5_code 0 = .ok (.iconst 0, 1) := by decide +kernel
theorem dc_P_splitWords_1 : decode prog_8_method_5_code 1 = .ok (.istore_n 2, 1) := by decide +kernel
theorem dc_P_splitWords_2 : decode prog_8_method_5_code 2 = .ok (.iconst 0, 1) := by decide +kernel
theorem dc_P_splitWords_3 : decode prog_8_method_5_code 3 = .ok (.istore_n 3, 1) := by decide +kernel
theorem dc_P_splitWords_4 : decode prog_8_method_5_code 4 = .ok (.iload_n 3, 1) := by decide +kernel
theorem dc_P_splitWords_5 : decode prog_8_method_5_code 5 = .ok (.aload_n 0, 1) := by decide +kernel
theorem dc_P_splitWords_6 : decode prog_8_method_5_code 6 = .ok (.getfield 77, 3) := by decide +kernel
theorem dc_P_splitWords_9 : decode prog_8_method_5_code 9 = .ok (.if_icmp .ge 67, 3) := by decide +kernel
theorem dc_P_splitWords_12 : decode prog_8_method_5_code 12 = .ok (.aload_n 0, 1) := by decide +kernel
theorem dc_P_splitWords_13 : decode prog_8_method_5_code 13 = .ok (.getfield 73, 3) := by decide +kernel
theorem dc_P_splitWords_16 : decode prog_8_method_5_code 16 = .ok (.iload_n 3, 1) := by decide +kernel
theorem dc_P_splitWords_17 : decode prog_8_method_5_code 17 = .ok (.baload, 1) := by decide +kernel
theorem dc_P_splitWords_18 : decode prog_8_method_5_code 18 = .ok (.istore 4, 2) := by decide +kernel
theorem dc_P_splitWords_20 : decode prog_8_method_5_code 20 = .ok (.iload 4, 2) := by decide +kernel
theorem dc_P_splitWords_22 : decode prog_8_method_5_code 22 = .ok (.invokestatic 117, 3) := by decide +kernel
theorem ln_P_117 : am_ln "WebFinder$PageReader" 117 mt_W_isLetter.1 := Or.inr ⟨"WebFinder", (am_n6 33 rfl rfl)⟩
theorem dc_P_splitWords_25 : decode prog_8_method_5_code 25 = .ok (.ifCond .ne 11, 3) := by decide +kernel
theorem dc_P_splitWords_28 : decode prog_8_method_5_code 28 = .ok (.iload 4, 2) := by decide +kernel
theorem dc_P_splitWords_30 : decode prog_8_method_5_code 30 = .ok (.invokestatic 121, 3) := by decide +kernel
theorem ln_P_121 : am_ln "WebFinder$PageReader" 121 mt_W_isDigit.1 := Or.inr ⟨"WebFinder", (am_n6 34 rfl rfl)⟩
theorem dc_P_splitWords_33 : decode prog_8_method_5_code 33 = .ok (.ifCond .eq 27, 3) := by decide +kernel
theorem dc_P_splitWords_36 : decode prog_8_method_5_code 36 = .ok (.iload_n 2, 1) := by decide +kernel
theorem dc_P_splitWords_37 : decode prog_8_method_5_code 37 = .ok (.bipush 20, 2) := by decide +kernel
theorem dc_P_splitWords_39 : decode prog_8_method_5_code 39 = .ok (.if_icmp .ge 15, 3) := by decide +kernel
theorem dc_P_splitWords_42 : decode prog_8_method_5_code 42 = .ok (.aload_n 1, 1) := by decide +kernel
theorem dc_P_splitWords_43 : decode prog_8_method_5_code 43 = .ok (.getfield 124, 3) := by decide +kernel
theorem fl_P_124 : am_fl "WebFinder$PageReader" 124 4 0 := ⟨"WebFinder$Rows", tt_R, 3, rfl, by decide, Or.inl (am_t1 106 rfl rfl)⟩
theorem dc_P_splitWords_46 : decode prog_8_method_5_code 46 = .ok (.iload 4, 2) := by decide +kernel
theorem dc_P_splitWords_48 : decode prog_8_method_5_code 48 = .ok (.invokestatic 127, 3) := by decide +kernel
theorem dc_P_splitWords_51 : decode prog_8_method_5_code 51 = .ok (.invokevirtual 131, 3) := by decide +kernel
theorem dc_P_splitWords_54 : decode prog_8_method_5_code 54 = .ok (.iinc 2 1, 3) := by decide +kernel
theorem dc_P_splitWords_57 : decode prog_8_method_5_code 57 = .ok (.goto 13, 3) := by decide +kernel
theorem dc_P_splitWords_60 : decode prog_8_method_5_code 60 = .ok (.iload_n 2, 1) := by decide +kernel
theorem dc_P_splitWords_61 : decode prog_8_method_5_code 61 = .ok (.ifCond .le 9, 3) := by decide +kernel
theorem dc_P_splitWords_64 : decode prog_8_method_5_code 64 = .ok (.aload_n 1, 1) := by decide +kernel
theorem dc_P_splitWords_65 : decode prog_8_method_5_code 65 = .ok (.invokevirtual 134, 3) := by decide +kernel
theorem ln_P_134 : am_ln "WebFinder$PageReader" 134 mt_R_close.1 := Or.inl (am_t6 35 rfl rfl)
theorem dc_P_splitWords_68 : decode prog_8_method_5_code 68 = .ok (.iconst 0, 1) := by decide +kernel
theorem dc_P_splitWords_69 : decode prog_8_method_5_code 69 = .ok (.istore_n 2, 1) := by decide +kernel
theorem dc_P_splitWords_70 : decode prog_8_method_5_code 70 = .ok (.iinc 3 1, 3) := by decide +kernel
theorem dc_P_splitWords_73 : decode prog_8_method_5_code 73 = .ok (.goto (-69), 3) := by decide +kernel
theorem dc_P_splitWords_76 : decode prog_8_method_5_code 76 = .ok (.iload_n 2, 1) := by decide +kernel
theorem dc_P_splitWords_77 : decode prog_8_method_5_code 77 = .ok (.ifCond .le 7, 3) := by decide +kernel
theorem dc_P_splitWords_80 : decode prog_8_method_5_code 80 = .ok (.aload_n 1, 1) := by decide +kernel
theorem dc_P_splitWords_81 : decode prog_8_method_5_code 81 = .ok (.invokevirtual 134, 3) := by decide +kernel
theorem dc_P_splitWords_84 : decode prog_8_method_5_code 84 = .ok (.return_, 1) := by decide +kernel
theorem dc_W_set_0 : decode prog_1_method_10_code 0 = .ok (.iload_n 1, 1) := by decide +kernel
theorem dc_W_set_1 : decode prog_1_method_10_code 1 = .ok (.ifCond .lt 12, 3) := by decide +kernel
theorem dc_W_set_4 : decode prog_1_method_10_code 4 = .ok (.iload_n 1, 1) := by decide +kernel
theorem dc_W_set_5 : decode prog_1_method_10_code 5 = .ok (.aload_n 0, 1) := by decide +kernel
theorem dc_W_set_6 : decode prog_1_method_10_code 6 = .ok (.getfield 47, 3) := by decide +kernel
theorem fl_W_47 : am_fl "WebFinder" 47 0 6 := ⟨"WebFinder", tt_W, 11, rfl, by decide, Or.inl (am_t2 153 rfl rfl)⟩
theorem dc_W_set_9 : decode prog_1_method_10_code 9 = .ok (.arraylength, 1) := by decide +kernel
theorem dc_W_set_10 : decode prog_1_method_10_code 10 = .ok (.if_icmp .lt 5, 3) := by decide +kernel
theorem dc_W_set_13 : decode prog_1_method_10_code 13 = .ok (.iconst 0, 1) := by decide +kernel
theorem dc_W_set_14 : decode prog_1_method_10_code 14 = .ok (.ireturn, 1) := by decide +kernel
theorem dc_W_set_15 : decode prog_1_method_10_code 15 = .ok (.iload_n 2, 1) := by decide +kernel
theorem dc_W_set_16 : decode prog_1_method_10_code 16 = .ok (.getstatic 161, 3) := by decide +kernel
theorem dc_W_set_19 : decode prog_1_method_10_code 19 = .ok (.iload_n 1, 1) := by decide +kernel
theorem dc_W_set_20 : decode prog_1_method_10_code 20 = .ok (.iaload, 1) := by decide +kernel
theorem dc_W_set_21 : decode prog_1_method_10_code 21 = .ok (.if_icmp .lt 12, 3) := by decide +kernel
theorem dc_W_set_24 : decode prog_1_method_10_code 24 = .ok (.iload_n 2, 1) := by decide +kernel
theorem dc_W_set_25 : decode prog_1_method_10_code 25 = .ok (.getstatic 164, 3) := by decide +kernel
theorem dc_W_set_28 : decode prog_1_method_10_code 28 = .ok (.iload_n 1, 1) := by decide +kernel
theorem dc_W_set_29 : decode prog_1_method_10_code 29 = .ok (.iaload, 1) := by decide +kernel
theorem dc_W_set_30 : decode prog_1_method_10_code 30 = .ok (.if_icmp .le 5, 3) := by decide +kernel
theorem dc_W_set_33 : decode prog_1_method_10_code 33 = .ok (.iconst 0, 1) := by decide +kernel
theorem dc_W_set_34 : decode prog_1_method_10_code 34 = .ok (.ireturn, 1) := by decide +kernel
theorem dc_W_set_35 : decode prog_1_method_10_code 35 = .ok (.aload_n 0, 1) := by decide +kernel
theorem dc_W_set_36 : decode prog_1_method_10_code 36 = .ok (.getfield 47, 3) := by decide +kernel
theorem dc_W_set_39 : decode prog_1_method_10_code 39 = .ok (.iload_n 1, 1) := by decide +kernel
theorem dc_W_set_40 : decode prog_1_method_10_code 40 = .ok (.iload_n 2, 1) := by decide +kernel
theorem dc_W_set_41 : decode prog_1_method_10_code 41 = .ok (.iastore, 1) := by decide +kernel
theorem dc_W_set_42 : decode prog_1_method_10_code 42 = .ok (.iconst 1, 1) := by decide +kernel
theorem dc_W_set_43 : decode prog_1_method_10_code 43 = .ok (.ireturn, 1) := by decide +kernel
theorem dc_W_seed_0 : decode prog_1_method_11_code 0 = .ok (.aload_n 0, 1) := by decide +kernel
theorem dc_W_seed_1 : decode prog_1_method_11_code 1 = .ok (.invokevirtual 128, 3) := by decide +kernel
theorem dc_W_seed_4 : decode prog_1_method_11_code 4 = .ok (.ifCond .eq 15, 3) := by decide +kernel
theorem dc_W_seed_7 : decode prog_1_method_11_code 7 = .ok (.aload_n 0, 1) := by decide +kernel
theorem dc_W_seed_8 : decode prog_1_method_11_code 8 = .ok (.getfield 56, 3) := by decide +kernel
theorem fl_W_56 : am_fl "WebFinder" 56 0 7 := ⟨"WebFinder", tt_W, 11, rfl, by decide, Or.inl (am_t2 154 rfl rfl)⟩
theorem dc_W_seed_11 : decode prog_1_method_11_code 11 = .ok (.getfield 167, 3) := by decide +kernel
theorem dc_W_seed_14 : decode prog_1_method_11_code 14 = .ok (.bipush 20, 2) := by decide +kernel
theorem dc_W_seed_16 : decode prog_1_method_11_code 16 = .ok (.if_icmp .lt 5, 3) := by decide +kernel
theorem dc_W_seed_19 : decode prog_1_method_11_code 19 = .ok (.iconst (-1), 1) := by decide +kernel
theorem dc_W_seed_20 : decode prog_1_method_11_code 20 = .ok (.ireturn, 1) := by decide +kernel
theorem dc_W_seed_21 : decode prog_1_method_11_code 21 = .ok (.aload_n 0, 1) := by decide +kernel
theorem dc_W_seed_22 : decode prog_1_method_11_code 22 = .ok (.getfield 56, 3) := by decide +kernel
theorem dc_W_seed_25 : decode prog_1_method_11_code 25 = .ok (.aload_n 0, 1) := by decide +kernel
theorem dc_W_seed_26 : decode prog_1_method_11_code 26 = .ok (.getfield 27, 3) := by decide +kernel
theorem dc_W_seed_29 : decode prog_1_method_11_code 29 = .ok (.getfield 102, 3) := by decide +kernel
theorem dc_W_seed_32 : decode prog_1_method_11_code 32 = .ok (.getfield 109, 3) := by decide +kernel
theorem dc_W_seed_35 : decode prog_1_method_11_code 35 = .ok (.iconst 0, 1) := by decide +kernel
theorem dc_W_seed_36 : decode prog_1_method_11_code 36 = .ok (.aload_n 0, 1) := by decide +kernel
theorem dc_W_seed_37 : decode prog_1_method_11_code 37 = .ok (.getfield 27, 3) := by decide +kernel
theorem dc_W_seed_40 : decode prog_1_method_11_code 40 = .ok (.getfield 102, 3) := by decide +kernel
theorem dc_W_seed_43 : decode prog_1_method_11_code 43 = .ok (.getfield 85, 3) := by decide +kernel
theorem dc_W_seed_46 : decode prog_1_method_11_code 46 = .ok (.invokevirtual 170, 3) := by decide +kernel
theorem ln_W_170 : am_ln "WebFinder" 170 mt_R_add.1 := Or.inl (am_t6 48 rfl rfl)
theorem dc_W_seed_49 : decode prog_1_method_11_code 49 = .ok (.aload_n 0, 1) := by decide +kernel
theorem dc_W_seed_50 : decode prog_1_method_11_code 50 = .ok (.getfield 56, 3) := by decide +kernel
theorem dc_W_seed_53 : decode prog_1_method_11_code 53 = .ok (.getfield 167, 3) := by decide +kernel
theorem dc_W_seed_56 : decode prog_1_method_11_code 56 = .ok (.ireturn, 1) := by decide +kernel
theorem dc_W_noSeeds_0 : decode prog_1_method_12_code 0 = .ok (.aload_n 0, 1) := by decide +kernel
theorem dc_W_noSeeds_1 : decode prog_1_method_12_code 1 = .ok (.getfield 56, 3) := by decide +kernel
theorem dc_W_noSeeds_4 : decode prog_1_method_12_code 4 = .ok (.invokevirtual 156, 3) := by decide +kernel
theorem dc_W_noSeeds_7 : decode prog_1_method_12_code 7 = .ok (.return_, 1) := by decide +kernel
theorem dc_W_start_0 : decode prog_1_method_13_code 0 = .ok (.aload_n 0, 1) := by decide +kernel
theorem dc_W_start_1 : decode prog_1_method_13_code 1 = .ok (.getfield 65, 3) := by decide +kernel
theorem fl_W_65 : am_fl "WebFinder" 65 0 8 := ⟨"WebFinder", tt_W, 11, rfl, by decide, Or.inl (am_t2 155 rfl rfl)⟩
theorem dc_W_start_4 : decode prog_1_method_13_code 4 = .ok (.aload_n 0, 1) := by decide +kernel
theorem dc_W_start_5 : decode prog_1_method_13_code 5 = .ok (.getfield 56, 3) := by decide +kernel
theorem dc_W_start_8 : decode prog_1_method_13_code 8 = .ok (.aload_n 0, 1) := by decide +kernel
theorem dc_W_start_9 : decode prog_1_method_13_code 9 = .ok (.getfield 47, 3) := by decide +kernel
theorem dc_W_start_12 : decode prog_1_method_13_code 12 = .ok (.invokevirtual 174, 3) := by decide +kernel
theorem mo_C_begin : am_mo mt_C_begin 2 := ⟨⟨by decide +kernel, by decide +kernel⟩, by decide +kernel, ⟨by decide +kernel, by decide +kernel⟩, (am_t6 60 rfl rfl), (am_t1 8 rfl rfl), by decide +kernel⟩
theorem im_C_begin : Cond.instanceMethod mt_C_begin.1 ∈ am_gw := (am_t6 58 rfl rfl)
theorem se_C_begin : Cond.selects mt_C_begin.1.cls mt_C_begin.1 mt_C_begin.1 ∈ am_gw := (am_t6 59 rfl rfl)
theorem ln_W_174 : am_ln "WebFinder" 174 mt_C_begin.1 := Or.inl (am_t6 57 rfl rfl)
theorem dc_W_start_15 : decode prog_1_method_13_code 15 = .ok (.aload_n 0, 1) := by decide +kernel
theorem dc_W_start_16 : decode prog_1_method_13_code 16 = .ok (.getfield 65, 3) := by decide +kernel
theorem dc_W_start_19 : decode prog_1_method_13_code 19 = .ok (.getfield 178, 3) := by decide +kernel
theorem fl_W_178 : am_fl "WebFinder" 178 7 3 := ⟨"WebFinder$Crawl", tt_C, 18, rfl, by decide, Or.inl (am_t1 236 rfl rfl)⟩
theorem dc_W_start_22 : decode prog_1_method_13_code 22 = .ok (.getfield 167, 3) := by decide +kernel
theorem dc_W_start_25 : decode prog_1_method_13_code 25 = .ok (.ireturn, 1) := by decide +kernel
theorem dc_C_begin_0 : decode prog_5_method_2_code 0 = .ok (.aload_n 2, 1) := by decide +kernel
theorem dc_C_begin_1 : decode prog_5_method_2_code 1 = .ok (.iconst 0, 1) := by decide +kernel
theorem dc_C_begin_2 : decode prog_5_method_2_code 2 = .ok (.aload_n 0, 1) := by decide +kernel
theorem dc_C_begin_3 : decode prog_5_method_2_code 3 = .ok (.getfield 38, 3) := by decide +kernel
theorem fl_C_38 : am_fl "WebFinder$Crawl" 38 7 11 := ⟨"WebFinder$Crawl", tt_C, 18, rfl, by decide, Or.inl (am_t2 9 rfl rfl)⟩
theorem dc_C_begin_6 : decode prog_5_method_2_code 6 = .ok (.iconst 0, 1) := by decide +kernel
theorem dc_C_begin_7 : decode prog_5_method_2_code 7 = .ok (.aload_n 0, 1) := by decide +kernel
theorem dc_C_begin_8 : decode prog_5_method_2_code 8 = .ok (.getfield 38, 3) := by decide +kernel
theorem dc_C_begin_11 : decode prog_5_method_2_code 11 = .ok (.arraylength, 1) := by decide +kernel
theorem dc_C_begin_12 : decode prog_5_method_2_code 12 = .ok (.invokestatic 68, 3) := by decide +kernel
theorem dc_C_begin_15 : decode prog_5_method_2_code 15 = .ok (.aload_n 0, 1) := by decide +kernel
theorem dc_C_begin_16 : decode prog_5_method_2_code 16 = .ok (.iconst 1, 1) := by decide +kernel
theorem dc_C_begin_17 : decode prog_5_method_2_code 17 = .ok (.putfield 74, 3) := by decide +kernel
theorem fp_C_begin_74 : am_fp mt_C_begin.1 74 7 0 (.boolean) := ⟨"WebFinder$Crawl", tt_C, 18, rfl, by decide, ct_C 0 (by decide), Or.inl ⟨(am_t1 228 rfl rfl), Or.inl rfl⟩⟩
theorem dc_C_begin_20 : decode prog_5_method_2_code 20 = .ok (.aload_n 0, 1) := by decide +kernel
theorem dc_C_begin_21 : decode prog_5_method_2_code 21 = .ok (.iconst 0, 1) := by decide +kernel
theorem dc_C_begin_22 : decode prog_5_method_2_code 22 = .ok (.putfield 78, 3) := by decide +kernel
theorem fp_C_begin_78 : am_fp mt_C_begin.1 78 7 1 (.int) := ⟨"WebFinder$Crawl", tt_C, 18, rfl, by decide, ct_C 1 (by decide), Or.inl ⟨(am_t1 230 rfl rfl), Or.inl rfl⟩⟩
theorem dc_C_begin_25 : decode prog_5_method_2_code 25 = .ok (.aload_n 0, 1) := by decide +kernel
theorem dc_C_begin_26 : decode prog_5_method_2_code 26 = .ok (.iconst (-1), 1) := by decide +kernel
theorem dc_C_begin_27 : decode prog_5_method_2_code 27 = .ok (.putfield 82, 3) := by decide +kernel
theorem fp_C_begin_82 : am_fp mt_C_begin.1 82 7 17 (.int) := ⟨"WebFinder$Crawl", tt_C, 18, rfl, by decide, ct_C 17 (by decide), Or.inl ⟨(am_t2 15 rfl rfl), Or.inl rfl⟩⟩
theorem dc_C_begin_30 : decode prog_5_method_2_code 30 = .ok (.aload_n 0, 1) := by decide +kernel
theorem dc_C_begin_31 : decode prog_5_method_2_code 31 = .ok (.iconst 0, 1) := by decide +kernel
theorem dc_C_begin_32 : decode prog_5_method_2_code 32 = .ok (.putfield 85, 3) := by decide +kernel
theorem fp_C_begin_85 : am_fp mt_C_begin.1 85 7 2 (.int) := ⟨"WebFinder$Crawl", tt_C, 18, rfl, by decide, ct_C 2 (by decide), Or.inl ⟨(am_t1 232 rfl rfl), Or.inl rfl⟩⟩
theorem dc_C_begin_35 : decode prog_5_method_2_code 35 = .ok (.aload_n 0, 1) := by decide +kernel
theorem dc_C_begin_36 : decode prog_5_method_2_code 36 = .ok (.getfield 31, 3) := by decide +kernel
theorem fl_C_31 : am_fl "WebFinder$Crawl" 31 7 6 := ⟨"WebFinder$Crawl", tt_C, 18, rfl, by decide, Or.inl (am_t2 2 rfl rfl)⟩
theorem dc_C_begin_39 : decode prog_5_method_2_code 39 = .ok (.invokevirtual 88, 3) := by decide +kernel
theorem ln_C_88 : am_ln "WebFinder$Crawl" 88 mt_R_clear.1 := Or.inl (am_t6 62 rfl rfl)
theorem dc_C_begin_42 : decode prog_5_method_2_code 42 = .ok (.aload_n 0, 1) := by decide +kernel
theorem dc_C_begin_43 : decode prog_5_method_2_code 43 = .ok (.getfield 14, 3) := by decide +kernel
theorem fl_C_14 : am_fl "WebFinder$Crawl" 14 7 3 := ⟨"WebFinder$Crawl", tt_C, 18, rfl, by decide, Or.inl (am_t1 234 rfl rfl)⟩
theorem dc_C_begin_46 : decode prog_5_method_2_code 46 = .ok (.invokevirtual 88, 3) := by decide +kernel
theorem dc_C_begin_49 : decode prog_5_method_2_code 49 = .ok (.iconst 0, 1) := by decide +kernel
theorem dc_C_begin_50 : decode prog_5_method_2_code 50 = .ok (.istore_n 3, 1) := by decide +kernel
theorem dc_C_begin_51 : decode prog_5_method_2_code 51 = .ok (.iload_n 3, 1) := by decide +kernel
theorem dc_C_begin_52 : decode prog_5_method_2_code 52 = .ok (.aload_n 1, 1) := by decide +kernel
theorem dc_C_begin_53 : decode prog_5_method_2_code 53 = .ok (.getfield 91, 3) := by decide +kernel
theorem fl_C_91 : am_fl "WebFinder$Crawl" 91 4 2 := ⟨"WebFinder$Rows", tt_R, 3, rfl, by decide, Or.inl (am_t1 113 rfl rfl)⟩
theorem dc_C_begin_56 : decode prog_5_method_2_code 56 = .ok (.if_icmp .ge 33, 3) := by decide +kernel
theorem dc_C_begin_59 : decode prog_5_method_2_code 59 = .ok (.aload_n 0, 1) := by decide +kernel
theorem dc_C_begin_60 : decode prog_5_method_2_code 60 = .ok (.aload_n 1, 1) := by decide +kernel
theorem dc_C_begin_61 : decode prog_5_method_2_code 61 = .ok (.getfield 94, 3) := by decide +kernel
theorem fl_C_94 : am_fl "WebFinder$Crawl" 94 4 0 := ⟨"WebFinder$Rows", tt_R, 3, rfl, by decide, Or.inl (am_t1 104 rfl rfl)⟩
theorem dc_C_begin_64 : decode prog_5_method_2_code 64 = .ok (.getfield 97, 3) := by decide +kernel
theorem fl_C_97 : am_fl "WebFinder$Crawl" 97 1 0 := ⟨"WebFinder$Bytes", tt_B, 2, rfl, by decide, Or.inl (am_t1 47 rfl rfl)⟩
theorem dc_C_begin_67 : decode prog_5_method_2_code 67 = .ok (.aload_n 1, 1) := by decide +kernel
theorem dc_C_begin_68 : decode prog_5_method_2_code 68 = .ok (.iload_n 3, 1) := by decide +kernel
theorem dc_C_begin_69 : decode prog_5_method_2_code 69 = .ok (.invokevirtual 101, 3) := by decide +kernel
theorem ln_C_101 : am_ln "WebFinder$Crawl" 101 mt_R_from.1 := Or.inl (am_t6 63 rfl rfl)
theorem dc_C_begin_72 : decode prog_5_method_2_code 72 = .ok (.aload_n 1, 1) := by decide +kernel
theorem dc_C_begin_73 : decode prog_5_method_2_code 73 = .ok (.iload_n 3, 1) := by decide +kernel
theorem dc_C_begin_74 : decode prog_5_method_2_code 74 = .ok (.invokevirtual 105, 3) := by decide +kernel
theorem ln_C_105 : am_ln "WebFinder$Crawl" 105 mt_R_to.1 := Or.inl (am_t6 64 rfl rfl)
theorem dc_C_begin_77 : decode prog_5_method_2_code 77 = .ok (.iconst 0, 1) := by decide +kernel
theorem dc_C_begin_78 : decode prog_5_method_2_code 78 = .ok (.iconst 0, 1) := by decide +kernel
theorem dc_C_begin_79 : decode prog_5_method_2_code 79 = .ok (.invokevirtual 108, 3) := by decide +kernel
theorem mo_C_meet : am_mo mt_C_meet 5 := ⟨⟨by decide +kernel, by decide +kernel⟩, by decide +kernel, ⟨by decide +kernel, by decide +kernel⟩, (am_t6 68 rfl rfl), (am_t1 8 rfl rfl), by decide +kernel⟩
theorem im_C_meet : Cond.instanceMethod mt_C_meet.1 ∈ am_gw := (am_t6 67 rfl rfl)
theorem se_C_meet : Cond.selects mt_C_meet.1.cls mt_C_meet.1 mt_C_meet.1 ∈ am_gw := am_in (List.mem_append_left _ (by decide +kernel)) rfl
theorem ln_C_108 : am_ln "WebFinder$Crawl" 108 mt_C_meet.1 := Or.inl (am_t6 65 rfl rfl)
theorem dc_C_begin_82 : decode prog_5_method_2_code 82 = .ok (.pop, 1) := by decide +kernel
theorem dc_C_begin_83 : decode prog_5_method_2_code 83 = .ok (.iinc 3 1, 3) := by decide +kernel
theorem dc_C_begin_86 : decode prog_5_method_2_code 86 = .ok (.goto (-35), 3) := by decide +kernel
theorem dc_C_begin_89 : decode prog_5_method_2_code 89 = .ok (.aload_n 0, 1) := by decide +kernel
theorem dc_C_begin_90 : decode prog_5_method_2_code 90 = .ok (.invokevirtual 112, 3) := by decide +kernel
theorem mo_C_save : am_mo mt_C_save 0 := ⟨⟨by decide +kernel, by decide +kernel⟩, by decide +kernel, ⟨by decide +kernel, by decide +kernel⟩, (am_t6 78 rfl rfl), (am_t1 8 rfl rfl), by decide +kernel⟩
theorem im_C_save : Cond.instanceMethod mt_C_save.1 ∈ am_gw := (am_t6 77 rfl rfl)
theorem se_C_save : Cond.selects mt_C_save.1.cls mt_C_save.1 mt_C_save.1 ∈ am_gw := am_in (List.mem_append_left _ (by decide +kernel)) rfl
theorem ln_C_112 : am_ln "WebFinder$Crawl" 112 mt_C_save.1 := Or.inl (am_t6 75 rfl rfl)
theorem dc_C_begin_93 : decode prog_5_method_2_code 93 = .ok (.return_, 1) := by decide +kernel
theorem dc_C_meet_0 : decode prog_5_method_13_code 0 = .ok (.aload_n 0, 1) := by decide +kernel
theorem dc_C_meet_1 : decode prog_5_method_13_code 1 = .ok (.getfield 14, 3) := by decide +kernel
theorem dc_C_meet_4 : decode prog_5_method_13_code 4 = .ok (.aload_n 1, 1) := by decide +kernel
theorem dc_C_meet_5 : decode prog_5_method_13_code 5 = .ok (.iload_n 2, 1) := by decide +kernel
theorem dc_C_meet_6 : decode prog_5_method_13_code 6 = .ok (.iload_n 3, 1) := by decide +kernel
theorem dc_C_meet_7 : decode prog_5_method_13_code 7 = .ok (.invokevirtual 211, 3) := by decide +kernel
theorem ln_C_211 : am_ln "WebFinder$Crawl" 211 mt_R_numberOf.1 := Or.inl (am_t6 69 rfl rfl)
theorem dc_C_meet_10 : decode prog_5_method_13_code 10 = .ok (.istore 6, 2) := by decide +kernel
theorem dc_C_meet_12 : decode prog_5_method_13_code 12 = .ok (.iload 6, 2) := by decide +kernel
theorem dc_C_meet_14 : decode prog_5_method_13_code 14 = .ok (.iconst (-1), 1) := by decide +kernel
theorem dc_C_meet_15 : decode prog_5_method_13_code 15 = .ok (.if_icmp .eq 54, 3) := by decide +kernel
theorem dc_C_meet_18 : decode prog_5_method_13_code 18 = .ok (.aload_n 0, 1) := by decide +kernel
theorem dc_C_meet_19 : decode prog_5_method_13_code 19 = .ok (.getfield 22, 3) := by decide +kernel
theorem fl_C_22 : am_fl "WebFinder$Crawl" 22 7 4 := ⟨"WebFinder$Crawl", tt_C, 18, rfl, by decide, Or.inl (am_t1 237 rfl rfl)⟩
theorem dc_C_meet_22 : decode prog_5_method_13_code 22 = .ok (.iconst 0, 1) := by decide +kernel
theorem dc_C_meet_23 : decode prog_5_method_13_code 23 = .ok (.aaload, 1) := by decide +kernel
theorem dc_C_meet_24 : decode prog_5_method_13_code 24 = .ok (.iload 6, 2) := by decide +kernel
theorem dc_C_meet_26 : decode prog_5_method_13_code 26 = .ok (.iaload, 1) := by decide +kernel
theorem dc_C_meet_27 : decode prog_5_method_13_code 27 = .ok (.iconst 1, 1) := by decide +kernel
theorem dc_C_meet_28 : decode prog_5_method_13_code 28 = .ok (.if_icmp .ne 38, 3) := by decide +kernel
theorem dc_C_meet_31 : decode prog_5_method_13_code 31 = .ok (.aload_n 0, 1) := by decide +kernel
theorem dc_C_meet_32 : decode prog_5_method_13_code 32 = .ok (.iload 4, 2) := by decide +kernel
theorem dc_C_meet_34 : decode prog_5_method_13_code 34 = .ok (.iload 5, 2) := by decide +kernel
theorem dc_C_meet_36 : decode prog_5_method_13_code 36 = .ok (.iload 6, 2) := by decide +kernel
theorem dc_C_meet_38 : decode prog_5_method_13_code 38 = .ok (.invokevirtual 186, 3) := by decide +kernel
theorem mo_C_isLess : am_mo mt_C_isLess 3 := ⟨⟨by decide +kernel, by decide +kernel⟩, by decide +kernel, ⟨by decide +kernel, by decide +kernel⟩, (am_t6 73 rfl rfl), (am_t1 8 rfl rfl), by decide +kernel⟩
theorem im_C_isLess : Cond.instanceMethod mt_C_isLess.1 ∈ am_gw := (am_t6 72 rfl rfl)
theorem se_C_isLess : Cond.selects mt_C_isLess.1.cls mt_C_isLess.1 mt_C_isLess.1 ∈ am_gw := am_in (List.mem_append_left _ (by decide +kernel)) rfl
theorem ln_C_186 : am_ln "WebFinder$Crawl" 186 mt_C_isLess.1 := Or.inl (am_t6 70 rfl rfl)
theorem dc_C_meet_41 : decode prog_5_method_13_code 41 = .ok (.ifCond .eq 25, 3) := by decide +kernel
theorem dc_C_meet_44 : decode prog_5_method_13_code 44 = .ok (.aload_n 0, 1) := by decide +kernel
theorem dc_C_meet_45 : decode prog_5_method_13_code 45 = .ok (.getfield 22, 3) := by decide +kernel
theorem dc_C_meet_48 : decode prog_5_method_13_code 48 = .ok (.iconst 1, 1) := by decide +kernel
theorem dc_C_meet_49 : decode prog_5_method_13_code 49 = .ok (.aaload, 1) := by decide +kernel
theorem dc_C_meet_50 : decode prog_5_method_13_code 50 = .ok (.iload 6, 2) := by decide +kernel
theorem dc_C_meet_52 : decode prog_5_method_13_code 52 = .ok (.iload 4, 2) := by decide +kernel
theorem dc_C_meet_54 : decode prog_5_method_13_code 54 = .ok (.iastore, 1) := by decide +kernel
theorem dc_C_meet_55 : decode prog_5_method_13_code 55 = .ok (.aload_n 0, 1) := by decide +kernel
theorem dc_C_meet_56 : decode prog_5_method_13_code 56 = .ok (.getfield 22, 3) := by decide +kernel
theorem dc_C_meet_59 : decode prog_5_method_13_code 59 = .ok (.iconst 2, 1) := by decide +kernel
theorem dc_C_meet_60 : decode prog_5_method_13_code 60 = .ok (.aaload, 1) := by decide +kernel
theorem dc_C_meet_61 : decode prog_5_method_13_code 61 = .ok (.iload 6, 2) := by decide +kernel
theorem dc_C_meet_63 : decode prog_5_method_13_code 63 = .ok (.iload 5, 2) := by decide +kernel
theorem dc_C_meet_65 : decode prog_5_method_13_code 65 = .ok (.iastore, 1) := by decide +kernel
theorem dc_C_meet_66 : decode prog_5_method_13_code 66 = .ok (.iload 6, 2) := by decide +kernel
theorem dc_C_meet_68 : decode prog_5_method_13_code 68 = .ok (.ireturn, 1) := by decide +kernel
theorem dc_C_meet_69 : decode prog_5_method_13_code 69 = .ok (.aload_n 0, 1) := by decide +kernel
theorem dc_C_meet_70 : decode prog_5_method_13_code 70 = .ok (.getfield 14, 3) := by decide +kernel
theorem dc_C_meet_73 : decode prog_5_method_13_code 73 = .ok (.getfield 91, 3) := by decide +kernel
theorem dc_C_meet_76 : decode prog_5_method_13_code 76 = .ok (.istore 6, 2) := by decide +kernel
theorem dc_C_meet_78 : decode prog_5_method_13_code 78 = .ok (.iload 4, 2) := by decide +kernel
theorem dc_C_meet_80 : decode prog_5_method_13_code 80 = .ok (.aload_n 0, 1) := by decide +kernel
theorem dc_C_meet_81 : decode prog_5_method_13_code 81 = .ok (.getfield 38, 3) := by decide +kernel
theorem dc_C_meet_84 : decode prog_5_method_13_code 84 = .ok (.iconst 0, 1) := by decide +kernel
theorem dc_C_meet_85 : decode prog_5_method_13_code 85 = .ok (.iaload, 1) := by decide +kernel
theorem dc_C_meet_86 : decode prog_5_method_13_code 86 = .ok (.if_icmp .gt 22, 3) := by decide +kernel
theorem dc_C_meet_89 : decode prog_5_method_13_code 89 = .ok (.iload 5, 2) := by decide +kernel
theorem dc_C_meet_91 : decode prog_5_method_13_code 91 = .ok (.aload_n 0, 1) := by decide +kernel
theorem dc_C_meet_92 : decode prog_5_method_13_code 92 = .ok (.getfield 38, 3) := by decide +kernel
theorem dc_C_meet_95 : decode prog_5_method_13_code 95 = .ok (.iconst 1, 1) := by decide +kernel
theorem dc_C_meet_96 : decode prog_5_method_13_code 96 = .ok (.iaload, 1) := by decide +kernel
theorem dc_C_meet_97 : decode prog_5_method_13_code 97 = .ok (.if_icmp .gt 11, 3) := by decide +kernel
theorem dc_C_meet_100 : decode prog_5_method_13_code 100 = .ok (.iload 6, 2) := by decide +kernel
theorem dc_C_meet_102 : decode prog_5_method_13_code 102 = .ok (.sipush 250, 3) := by decide +kernel
theorem dc_C_meet_105 : decode prog_5_method_13_code 105 = .ok (.if_icmp .lt 5, 3) := by decide +kernel
theorem dc_C_meet_108 : decode prog_5_method_13_code 108 = .ok (.iconst (-1), 1) := by decide +kernel
theorem dc_C_meet_109 : decode prog_5_method_13_code 109 = .ok (.ireturn, 1) := by decide +kernel
theorem dc_C_meet_110 : decode prog_5_method_13_code 110 = .ok (.aload_n 0, 1) := by decide +kernel
theorem dc_C_meet_111 : decode prog_5_method_13_code 111 = .ok (.getfield 14, 3) := by decide +kernel
theorem dc_C_meet_114 : decode prog_5_method_13_code 114 = .ok (.aload_n 1, 1) := by decide +kernel
theorem dc_C_meet_115 : decode prog_5_method_13_code 115 = .ok (.iload_n 2, 1) := by decide +kernel
theorem dc_C_meet_116 : decode prog_5_method_13_code 116 = .ok (.iload_n 3, 1) := by decide +kernel
theorem dc_C_meet_117 : decode prog_5_method_13_code 117 = .ok (.invokevirtual 208, 3) := by decide +kernel
theorem ln_C_208 : am_ln "WebFinder$Crawl" 208 mt_R_add.1 := Or.inl (am_t6 74 rfl rfl)
theorem dc_C_meet_120 : decode prog_5_method_13_code 120 = .ok (.aload_n 0, 1) := by decide +kernel
theorem dc_C_meet_121 : decode prog_5_method_13_code 121 = .ok (.getfield 22, 3) := by decide +kernel
theorem dc_C_meet_124 : decode prog_5_method_13_code 124 = .ok (.iconst 0, 1) := by decide +kernel
theorem dc_C_meet_125 : decode prog_5_method_13_code 125 = .ok (.aaload, 1) := by decide +kernel
theorem dc_C_meet_126 : decode prog_5_method_13_code 126 = .ok (.iload 6, 2) := by decide +kernel
theorem dc_C_meet_128 : decode prog_5_method_13_code 128 = .ok (.iconst 1, 1) := by decide +kernel
theorem dc_C_meet_129 : decode prog_5_method_13_code 129 = .ok (.iastore, 1) := by decide +kernel
theorem dc_C_meet_130 : decode prog_5_method_13_code 130 = .ok (.aload_n 0, 1) := by decide +kernel
theorem dc_C_meet_131 : decode prog_5_method_13_code 131 = .ok (.getfield 22, 3) := by decide +kernel
theorem dc_C_meet_134 : decode prog_5_method_13_code 134 = .ok (.iconst 1, 1) := by decide +kernel
theorem dc_C_meet_135 : decode prog_5_method_13_code 135 = .ok (.aaload, 1) := by decide +kernel
theorem dc_C_meet_136 : decode prog_5_method_13_code 136 = .ok (.iload 6, 2) := by decide +kernel
theorem dc_C_meet_138 : decode prog_5_method_13_code 138 = .ok (.iload 4, 2) := by decide +kernel
theorem dc_C_meet_140 : decode prog_5_method_13_code 140 = .ok (.iastore, 1) := by decide +kernel
theorem dc_C_meet_141 : decode prog_5_method_13_code 141 = .ok (.aload_n 0, 1) := by decide +kernel
theorem dc_C_meet_142 : decode prog_5_method_13_code 142 = .ok (.getfield 22, 3) := by decide +kernel
theorem dc_C_meet_145 : decode prog_5_method_13_code 145 = .ok (.iconst 2, 1) := by decide +kernel
theorem dc_C_meet_146 : decode prog_5_method_13_code 146 = .ok (.aaload, 1) := by decide +kernel
theorem dc_C_meet_147 : decode prog_5_method_13_code 147 = .ok (.iload 6, 2) := by decide +kernel
theorem dc_C_meet_149 : decode prog_5_method_13_code 149 = .ok (.iload 5, 2) := by decide +kernel
theorem dc_C_meet_151 : decode prog_5_method_13_code 151 = .ok (.iastore, 1) := by decide +kernel
theorem dc_C_meet_152 : decode prog_5_method_13_code 152 = .ok (.aload_n 0, 1) := by decide +kernel
theorem dc_C_meet_153 : decode prog_5_method_13_code 153 = .ok (.getfield 22, 3) := by decide +kernel
theorem dc_C_meet_156 : decode prog_5_method_13_code 156 = .ok (.iconst 3, 1) := by decide +kernel
theorem dc_C_meet_157 : decode prog_5_method_13_code 157 = .ok (.aaload, 1) := by decide +kernel
theorem dc_C_meet_158 : decode prog_5_method_13_code 158 = .ok (.iload 6, 2) := by decide +kernel
theorem dc_C_meet_160 : decode prog_5_method_13_code 160 = .ok (.iconst (-1), 1) := by decide +kernel
theorem dc_C_meet_161 : decode prog_5_method_13_code 161 = .ok (.iastore, 1) := by decide +kernel
theorem dc_C_meet_162 : decode prog_5_method_13_code 162 = .ok (.aload_n 0, 1) := by decide +kernel
theorem dc_C_meet_163 : decode prog_5_method_13_code 163 = .ok (.getfield 50, 3) := by decide +kernel
theorem fl_C_50 : am_fl "WebFinder$Crawl" 50 7 13 := ⟨"WebFinder$Crawl", tt_C, 18, rfl, by decide, Or.inl (am_t2 11 rfl rfl)⟩
theorem dc_C_meet_166 : decode prog_5_method_13_code 166 = .ok (.iload 6, 2) := by decide +kernel
theorem dc_C_meet_168 : decode prog_5_method_13_code 168 = .ok (.iconst (-1), 1) := by decide +kernel
theorem dc_C_meet_169 : decode prog_5_method_13_code 169 = .ok (.iastore, 1) := by decide +kernel
theorem dc_C_meet_170 : decode prog_5_method_13_code 170 = .ok (.iload 6, 2) := by decide +kernel
theorem dc_C_meet_172 : decode prog_5_method_13_code 172 = .ok (.ireturn, 1) := by decide +kernel
theorem dc_C_isLess_0 : decode prog_5_method_9_code 0 = .ok (.iload_n 1, 1) := by decide +kernel
theorem dc_C_isLess_1 : decode prog_5_method_9_code 1 = .ok (.aload_n 0, 1) := by decide +kernel
theorem dc_C_isLess_2 : decode prog_5_method_9_code 2 = .ok (.getfield 22, 3) := by decide +kernel
theorem dc_C_isLess_5 : decode prog_5_method_9_code 5 = .ok (.iconst 1, 1) := by decide +kernel
theorem dc_C_isLess_6 : decode prog_5_method_9_code 6 = .ok (.aaload, 1) := by decide +kernel
theorem dc_C_isLess_7 : decode prog_5_method_9_code 7 = .ok (.iload_n 3, 1) := by decide +kernel
theorem dc_C_isLess_8 : decode prog_5_method_9_code 8 = .ok (.iaload, 1) := by decide +kernel
theorem dc_C_isLess_9 : decode prog_5_method_9_code 9 = .ok (.if_icmp .lt 27, 3) := by decide +kernel
theorem dc_C_isLess_12 : decode prog_5_method_9_code 12 = .ok (.iload_n 1, 1) := by decide +kernel
theorem dc_C_isLess_13 : decode prog_5_method_9_code 13 = .ok (.aload_n 0, 1) := by decide +kernel
theorem dc_C_isLess_14 : decode prog_5_method_9_code 14 = .ok (.getfield 22, 3) := by decide +kernel
theorem dc_C_isLess_17 : decode prog_5_method_9_code 17 = .ok (.iconst 1, 1) := by decide +kernel
theorem dc_C_isLess_18 : decode prog_5_method_9_code 18 = .ok (.aaload, 1) := by decide +kernel
theorem dc_C_isLess_19 : decode prog_5_method_9_code 19 = .ok (.iload_n 3, 1) := by decide +kernel
theorem dc_C_isLess_20 : decode prog_5_method_9_code 20 = .ok (.iaload, 1) := by decide +kernel
theorem dc_C_isLess_21 : decode prog_5_method_9_code 21 = .ok (.if_icmp .ne 19, 3) := by decide +kernel
theorem dc_C_isLess_24 : decode prog_5_method_9_code 24 = .ok (.iload_n 2, 1) := by decide +kernel
theorem dc_C_isLess_25 : decode prog_5_method_9_code 25 = .ok (.aload_n 0, 1) := by decide +kernel
theorem dc_C_isLess_26 : decode prog_5_method_9_code 26 = .ok (.getfield 22, 3) := by decide +kernel
theorem dc_C_isLess_29 : decode prog_5_method_9_code 29 = .ok (.iconst 2, 1) := by decide +kernel
theorem dc_C_isLess_30 : decode prog_5_method_9_code 30 = .ok (.aaload, 1) := by decide +kernel
theorem dc_C_isLess_31 : decode prog_5_method_9_code 31 = .ok (.iload_n 3, 1) := by decide +kernel
theorem dc_C_isLess_32 : decode prog_5_method_9_code 32 = .ok (.iaload, 1) := by decide +kernel
theorem dc_C_isLess_33 : decode prog_5_method_9_code 33 = .ok (.if_icmp .ge 7, 3) := by decide +kernel
theorem dc_C_isLess_36 : decode prog_5_method_9_code 36 = .ok (.iconst 1, 1) := by decide +kernel
theorem dc_C_isLess_37 : decode prog_5_method_9_code 37 = .ok (.goto 4, 3) := by decide +kernel
theorem dc_C_isLess_40 : decode prog_5_method_9_code 40 = .ok (.iconst 0, 1) := by decide +kernel
theorem dc_C_isLess_41 : decode prog_5_method_9_code 41 = .ok (.ireturn, 1) := by decide +kernel
theorem dc_C_save_0 : decode prog_5_method_14_code 0 = .ok (.aload_n 0, 1) := by decide +kernel
theorem dc_C_save_1 : decode prog_5_method_14_code 1 = .ok (.aload_n 0, 1) := by decide +kernel
theorem dc_C_save_2 : decode prog_5_method_14_code 2 = .ok (.getfield 14, 3) := by decide +kernel
theorem dc_C_save_5 : decode prog_5_method_14_code 5 = .ok (.getfield 91, 3) := by decide +kernel
theorem dc_C_save_8 : decode prog_5_method_14_code 8 = .ok (.putfield 215, 3) := by decide +kernel
theorem fp_C_save_215 : am_fp mt_C_save.1 215 7 15 (.int) := ⟨"WebFinder$Crawl", tt_C, 18, rfl, by decide, ct_C 15 (by decide), Or.inl ⟨(am_t2 13 rfl rfl), Or.inl rfl⟩⟩
theorem dc_C_save_11 : decode prog_5_method_14_code 11 = .ok (.aload_n 0, 1) := by decide +kernel
theorem dc_C_save_12 : decode prog_5_method_14_code 12 = .ok (.aload_n 0, 1) := by decide +kernel
theorem dc_C_save_13 : decode prog_5_method_14_code 13 = .ok (.getfield 22, 3) := by decide +kernel
theorem dc_C_save_16 : decode prog_5_method_14_code 16 = .ok (.aload_n 0, 1) := by decide +kernel
theorem dc_C_save_17 : decode prog_5_method_14_code 17 = .ok (.getfield 53, 3) := by decide +kernel
theorem fl_C_53 : am_fl "WebFinder$Crawl" 53 7 14 := ⟨"WebFinder$Crawl", tt_C, 18, rfl, by decide, Or.inl (am_t2 12 rfl rfl)⟩
theorem dc_C_save_20 : decode prog_5_method_14_code 20 = .ok (.invokevirtual 218, 3) := by decide +kernel
theorem mo_C_copyMarks : am_mo mt_C_copyMarks 2 := ⟨⟨by decide +kernel, by decide +kernel⟩, by decide +kernel, ⟨by decide +kernel, by decide +kernel⟩, (am_t6 82 rfl rfl), (am_t1 8 rfl rfl), by decide +kernel⟩
theorem im_C_copyMarks : Cond.instanceMethod mt_C_copyMarks.1 ∈ am_gw := (am_t6 81 rfl rfl)
theorem se_C_copyMarks : Cond.selects mt_C_copyMarks.1.cls mt_C_copyMarks.1 mt_C_copyMarks.1 ∈ am_gw := am_in (List.mem_append_left _ (by decide +kernel)) rfl
theorem ln_C_218 : am_ln "WebFinder$Crawl" 218 mt_C_copyMarks.1 := Or.inl (am_t6 79 rfl rfl)
theorem dc_C_save_23 : decode prog_5_method_14_code 23 = .ok (.aload_n 0, 1) := by decide +kernel
theorem dc_C_save_24 : decode prog_5_method_14_code 24 = .ok (.iconst 0, 1) := by decide +kernel
theorem dc_C_save_25 : decode prog_5_method_14_code 25 = .ok (.putfield 177, 3) := by decide +kernel
theorem fp_C_save_177 : am_fp mt_C_save.1 177 7 16 (.int) := ⟨"WebFinder$Crawl", tt_C, 18, rfl, by decide, ct_C 16 (by decide), Or.inl ⟨(am_t2 14 rfl rfl), Or.inl rfl⟩⟩
theorem dc_C_save_28 : decode prog_5_method_14_code 28 = .ok (.return_, 1) := by decide +kernel
theorem dc_C_copyMarks_0 : decode prog_5_method_16_code 0 = .ok (.iconst 0, 1) := by decide +kernel
theorem dc_C_copyMarks_1 : decode prog_5_method_16_code 1 = .ok (.istore_n 3, 1) := by decide +kernel
theorem dc_C_copyMarks_2 : decode prog_5_method_16_code 2 = .ok (.iload_n 3, 1) := by decide +kernel
theorem dc_C_copyMarks_3 : decode prog_5_method_16_code 3 = .ok (.iconst 4, 1) := by decide +kernel
theorem dc_C_copyMarks_4 : decode prog_5_method_16_code 4 = .ok (.if_icmp .ge 24, 3) := by decide +kernel
theorem dc_C_copyMarks_7 : decode prog_5_method_16_code 7 = .ok (.aload_n 1, 1) := by decide +kernel
theorem dc_C_copyMarks_8 : decode prog_5_method_16_code 8 = .ok (.iload_n 3, 1) := by decide +kernel
theorem dc_C_copyMarks_9 : decode prog_5_method_16_code 9 = .ok (.aaload, 1) := by decide +kernel
theorem dc_C_copyMarks_10 : decode prog_5_method_16_code 10 = .ok (.iconst 0, 1) := by decide +kernel
theorem dc_C_copyMarks_11 : decode prog_5_method_16_code 11 = .ok (.aload_n 2, 1) := by decide +kernel
theorem dc_C_copyMarks_12 : decode prog_5_method_16_code 12 = .ok (.iload_n 3, 1) := by decide +kernel
theorem dc_C_copyMarks_13 : decode prog_5_method_16_code 13 = .ok (.aaload, 1) := by decide +kernel
theorem dc_C_copyMarks_14 : decode prog_5_method_16_code 14 = .ok (.iconst 0, 1) := by decide +kernel
theorem dc_C_copyMarks_15 : decode prog_5_method_16_code 15 = .ok (.aload_n 0, 1) := by decide +kernel
theorem dc_C_copyMarks_16 : decode prog_5_method_16_code 16 = .ok (.getfield 215, 3) := by decide +kernel
theorem fl_C_215 : am_fl "WebFinder$Crawl" 215 7 15 := ⟨"WebFinder$Crawl", tt_C, 18, rfl, by decide, Or.inl (am_t2 13 rfl rfl)⟩
theorem dc_C_copyMarks_19 : decode prog_5_method_16_code 19 = .ok (.invokestatic 68, 3) := by decide +kernel
theorem dc_C_copyMarks_22 : decode prog_5_method_16_code 22 = .ok (.iinc 3 1, 3) := by decide +kernel
theorem dc_C_copyMarks_25 : decode prog_5_method_16_code 25 = .ok (.goto (-23), 3) := by decide +kernel
theorem dc_C_copyMarks_28 : decode prog_5_method_16_code 28 = .ok (.return_, 1) := by decide +kernel
theorem dc_W_step_0 : decode prog_1_method_14_code 0 = .ok (.aload_n 0, 1) := by decide +kernel
theorem dc_W_step_1 : decode prog_1_method_14_code 1 = .ok (.getfield 65, 3) := by decide +kernel
theorem dc_W_step_4 : decode prog_1_method_14_code 4 = .ok (.invokevirtual 180, 3) := by decide +kernel
theorem mo_C_takeStep : am_mo mt_C_takeStep 0 := ⟨⟨by decide +kernel, by decide +kernel⟩, by decide +kernel, ⟨by decide +kernel, by decide +kernel⟩, (am_t6 90 rfl rfl), (am_t1 8 rfl rfl), by decide +kernel⟩
theorem im_C_takeStep : Cond.instanceMethod mt_C_takeStep.1 ∈ am_gw := (am_t6 88 rfl rfl)
theorem se_C_takeStep : Cond.selects mt_C_takeStep.1.cls mt_C_takeStep.1 mt_C_takeStep.1 ∈ am_gw := (am_t6 89 rfl rfl)
theorem ln_W_180 : am_ln "WebFinder" 180 mt_C_takeStep.1 := Or.inl (am_t6 87 rfl rfl)
theorem dc_W_step_7 : decode prog_1_method_14_code 7 = .ok (.ireturn, 1) := by decide +kernel
theorem dc_C_takeStep_0 : decode prog_5_method_4_code 0 = .ok (.aload_n 0, 1) := by decide +kernel
theorem dc_C_takeStep_1 : decode prog_5_method_4_code 1 = .ok (.invokevirtual 115, 3) := by decide +kernel
theorem mo_C_nextWaiting : am_mo mt_C_nextWaiting 0 := ⟨⟨by decide +kernel, by decide +kernel⟩, by decide +kernel, ⟨by decide +kernel, by decide +kernel⟩, (am_t6 94 rfl rfl), (am_t1 8 rfl rfl), by decide +kernel⟩
theorem im_C_nextWaiting : Cond.instanceMethod mt_C_nextWaiting.1 ∈ am_gw := (am_t6 93 rfl rfl)
theorem se_C_nextWaiting : Cond.selects mt_C_nextWaiting.1.cls mt_C_nextWaiting.1 mt_C_nextWaiting.1 ∈ am_gw := am_in (List.mem_append_left _ (by decide +kernel)) rfl
theorem ln_C_115 : am_ln "WebFinder$Crawl" 115 mt_C_nextWaiting.1 := Or.inl (am_t6 91 rfl rfl)
theorem dc_C_takeStep_4 : decode prog_5_method_4_code 4 = .ok (.istore_n 1, 1) := by decide +kernel
theorem dc_C_takeStep_5 : decode prog_5_method_4_code 5 = .ok (.iload_n 1, 1) := by decide +kernel
theorem dc_C_takeStep_6 : decode prog_5_method_4_code 6 = .ok (.iconst (-1), 1) := by decide +kernel
theorem dc_C_takeStep_7 : decode prog_5_method_4_code 7 = .ok (.if_icmp .ne 5, 3) := by decide +kernel
theorem dc_C_takeStep_10 : decode prog_5_method_4_code 10 = .ok (.iconst (-1), 1) := by decide +kernel
theorem dc_C_takeStep_11 : decode prog_5_method_4_code 11 = .ok (.ireturn, 1) := by decide +kernel
theorem dc_C_takeStep_12 : decode prog_5_method_4_code 12 = .ok (.aload_n 0, 1) := by decide +kernel
theorem dc_C_takeStep_13 : decode prog_5_method_4_code 13 = .ok (.getfield 46, 3) := by decide +kernel
theorem fl_C_46 : am_fl "WebFinder$Crawl" 46 7 12 := ⟨"WebFinder$Crawl", tt_C, 18, rfl, by decide, Or.inl (am_t2 10 rfl rfl)⟩
theorem dc_C_takeStep_16 : decode prog_5_method_4_code 16 = .ok (.invokevirtual 119, 3) := by decide +kernel
theorem ln_C_119 : am_ln "WebFinder$Crawl" 119 mt_B_clear.1 := Or.inl (am_t6 95 rfl rfl)
theorem dc_C_takeStep_19 : decode prog_5_method_4_code 19 = .ok (.aload_n 0, 1) := by decide +kernel
theorem dc_C_takeStep_20 : decode prog_5_method_4_code 20 = .ok (.getfield 46, 3) := by decide +kernel
theorem dc_C_takeStep_23 : decode prog_5_method_4_code 23 = .ok (.aload_n 0, 1) := by decide +kernel
theorem dc_C_takeStep_24 : decode prog_5_method_4_code 24 = .ok (.getfield 14, 3) := by decide +kernel
theorem dc_C_takeStep_27 : decode prog_5_method_4_code 27 = .ok (.getfield 94, 3) := by decide +kernel
theorem dc_C_takeStep_30 : decode prog_5_method_4_code 30 = .ok (.getfield 97, 3) := by decide +kernel
theorem dc_C_takeStep_33 : decode prog_5_method_4_code 33 = .ok (.aload_n 0, 1) := by decide +kernel
theorem dc_C_takeStep_34 : decode prog_5_method_4_code 34 = .ok (.getfield 14, 3) := by decide +kernel
theorem dc_C_takeStep_37 : decode prog_5_method_4_code 37 = .ok (.iload_n 1, 1) := by decide +kernel
theorem dc_C_takeStep_38 : decode prog_5_method_4_code 38 = .ok (.invokevirtual 101, 3) := by decide +kernel
theorem dc_C_takeStep_41 : decode prog_5_method_4_code 41 = .ok (.aload_n 0, 1) := by decide +kernel
theorem dc_C_takeStep_42 : decode prog_5_method_4_code 42 = .ok (.getfield 14, 3) := by decide +kernel
theorem dc_C_takeStep_45 : decode prog_5_method_4_code 45 = .ok (.iload_n 1, 1) := by decide +kernel
theorem dc_C_takeStep_46 : decode prog_5_method_4_code 46 = .ok (.invokevirtual 105, 3) := by decide +kernel
theorem dc_C_takeStep_49 : decode prog_5_method_4_code 49 = .ok (.invokevirtual 120, 3) := by decide +kernel
theorem ln_C_120 : am_ln "WebFinder$Crawl" 120 mt_B_putAll.1 := Or.inl (am_t6 96 rfl rfl)
theorem dc_C_takeStep_52 : decode prog_5_method_4_code 52 = .ok (.aload_n 0, 1) := by decide +kernel
theorem dc_C_takeStep_53 : decode prog_5_method_4_code 53 = .ok (.getfield 56, 3) := by decide +kernel
theorem fl_C_56 : am_fl "WebFinder$Crawl" 56 7 8 := ⟨"WebFinder$Crawl", tt_C, 18, rfl, by decide, Or.inl (am_t2 6 rfl rfl)⟩
theorem dc_C_takeStep_56 : decode prog_5_method_4_code 56 = .ok (.aload_n 0, 1) := by decide +kernel
theorem dc_C_takeStep_57 : decode prog_5_method_4_code 57 = .ok (.getfield 46, 3) := by decide +kernel
theorem dc_C_takeStep_60 : decode prog_5_method_4_code 60 = .ok (.invokevirtual 124, 3) := by decide +kernel
theorem ln_C_124 : am_ln "WebFinder$Crawl" 124 mt_V_allows.1 := Or.inl (am_t6 97 rfl rfl)
theorem dc_C_takeStep_63 : decode prog_5_method_4_code 63 = .ok (.ifCond .ne 14, 3) := by decide +kernel
theorem dc_C_takeStep_66 : decode prog_5_method_4_code 66 = .ok (.aload_n 0, 1) := by decide +kernel
theorem dc_C_takeStep_67 : decode prog_5_method_4_code 67 = .ok (.getfield 22, 3) := by decide +kernel
theorem dc_C_takeStep_70 : decode prog_5_method_4_code 70 = .ok (.iconst 0, 1) := by decide +kernel
theorem dc_C_takeStep_71 : decode prog_5_method_4_code 71 = .ok (.aaload, 1) := by decide +kernel
theorem dc_C_takeStep_72 : decode prog_5_method_4_code 72 = .ok (.iload_n 1, 1) := by decide +kernel
theorem dc_C_takeStep_73 : decode prog_5_method_4_code 73 = .ok (.iconst 4, 1) := by decide +kernel
theorem dc_C_takeStep_74 : decode prog_5_method_4_code 74 = .ok (.iastore, 1) := by decide +kernel
theorem dc_C_takeStep_75 : decode prog_5_method_4_code 75 = .ok (.iconst 4, 1) := by decide +kernel
theorem dc_C_takeStep_76 : decode prog_5_method_4_code 76 = .ok (.ireturn, 1) := by decide +kernel
theorem dc_C_takeStep_77 : decode prog_5_method_4_code 77 = .ok (.aload_n 0, 1) := by decide +kernel
theorem dc_C_takeStep_78 : decode prog_5_method_4_code 78 = .ok (.invokevirtual 130, 3) := by decide +kernel
theorem mo_C_letRest : am_mo mt_C_letRest 0 := ⟨⟨by decide +kernel, by decide +kernel⟩, by decide +kernel, ⟨by decide +kernel, by decide +kernel⟩, (am_t6 101 rfl rfl), (am_t1 8 rfl rfl), by decide +kernel⟩
theorem im_C_letRest : Cond.instanceMethod mt_C_letRest.1 ∈ am_gw := (am_t6 100 rfl rfl)
theorem se_C_letRest : Cond.selects mt_C_letRest.1.cls mt_C_letRest.1 mt_C_letRest.1 ∈ am_gw := am_in (List.mem_append_left _ (by decide +kernel)) rfl
theorem ln_C_130 : am_ln "WebFinder$Crawl" 130 mt_C_letRest.1 := Or.inl (am_t6 98 rfl rfl)
theorem dc_C_takeStep_81 : decode prog_5_method_4_code 81 = .ok (.aload_n 0, 1) := by decide +kernel
theorem dc_C_takeStep_82 : decode prog_5_method_4_code 82 = .ok (.iload_n 1, 1) := by decide +kernel
theorem dc_C_takeStep_83 : decode prog_5_method_4_code 83 = .ok (.invokevirtual 133, 3) := by decide +kernel
theorem mo_C_noteAsking : am_mo mt_C_noteAsking 1 := ⟨⟨by decide +kernel, by decide +kernel⟩, by decide +kernel, ⟨by decide +kernel, by decide +kernel⟩, (am_t6 112 rfl rfl), (am_t1 8 rfl rfl), by decide +kernel⟩
theorem im_C_noteAsking : Cond.instanceMethod mt_C_noteAsking.1 ∈ am_gw := (am_t6 111 rfl rfl)
theorem se_C_noteAsking : Cond.selects mt_C_noteAsking.1.cls mt_C_noteAsking.1 mt_C_noteAsking.1 ∈ am_gw := am_in (List.mem_append_left _ (by decide +kernel)) rfl
theorem ln_C_133 : am_ln "WebFinder$Crawl" 133 mt_C_noteAsking.1 := Or.inl (am_t6 109 rfl rfl)
theorem dc_C_takeStep_86 : decode prog_5_method_4_code 86 = .ok (.aload_n 0, 1) := by decide +kernel
theorem dc_C_takeStep_87 : decode prog_5_method_4_code 87 = .ok (.getfield 56, 3) := by decide +kernel
theorem dc_C_takeStep_90 : decode prog_5_method_4_code 90 = .ok (.aload_n 0, 1) := by decide +kernel
theorem dc_C_takeStep_91 : decode prog_5_method_4_code 91 = .ok (.getfield 46, 3) := by decide +kernel
theorem dc_C_takeStep_94 : decode prog_5_method_4_code 94 = .ok (.invokevirtual 136, 3) := by decide +kernel
theorem mo_V_pageAt : am_mo mt_V_pageAt 1 := ⟨⟨by decide +kernel, by decide +kernel⟩, by decide +kernel, ⟨by decide +kernel, by decide +kernel⟩, (am_t6 116 rfl rfl), (am_t1 7 rfl rfl), by decide +kernel⟩
theorem im_V_pageAt : Cond.instanceMethod mt_V_pageAt.1 ∈ am_gw := (am_t6 114 rfl rfl)
theorem se_V_pageAt : Cond.selects mt_V_pageAt.1.cls mt_V_pageAt.1 mt_V_pageAt.1 ∈ am_gw := (am_t6 115 rfl rfl)
theorem ln_C_136 : am_ln "WebFinder$Crawl" 136 mt_V_pageAt.1 := Or.inl (am_t6 113 rfl rfl)
theorem dc_C_takeStep_97 : decode prog_5_method_4_code 97 = .ok (.astore_n 2, 1) := by decide +kernel
theorem dc_C_takeStep_98 : decode prog_5_method_4_code 98 = .ok (.aload_n 0, 1) := by decide +kernel
theorem dc_C_takeStep_99 : decode prog_5_method_4_code 99 = .ok (.getfield 22, 3) := by decide +kernel
theorem dc_C_takeStep_102 : decode prog_5_method_4_code 102 = .ok (.iconst 0, 1) := by decide +kernel
theorem dc_C_takeStep_103 : decode prog_5_method_4_code 103 = .ok (.aaload, 1) := by decide +kernel
theorem dc_C_takeStep_104 : decode prog_5_method_4_code 104 = .ok (.iload_n 1, 1) := by decide +kernel
theorem dc_C_takeStep_105 : decode prog_5_method_4_code 105 = .ok (.iconst 5, 1) := by decide +kernel
theorem dc_C_takeStep_106 : decode prog_5_method_4_code 106 = .ok (.iastore, 1) := by decide +kernel
theorem dc_C_takeStep_107 : decode prog_5_method_4_code 107 = .ok (.aload_n 2, 1) := by decide +kernel
theorem dc_C_takeStep_108 : decode prog_5_method_4_code 108 = .ok (.ifnull 43, 3) := by decide +kernel
theorem dc_C_takeStep_111 : decode prog_5_method_4_code 111 = .ok (.aload_n 2, 1) := by decide +kernel
theorem dc_C_takeStep_112 : decode prog_5_method_4_code 112 = .ok (.getfield 140, 3) := by decide +kernel
theorem fl_C_140 : am_fl "WebFinder$Crawl" 140 10 1 := ⟨"WebFinder$Page", tt_G, 3, rfl, by decide, Or.inl (am_t5 4 rfl rfl)⟩
theorem dc_C_takeStep_115 : decode prog_5_method_4_code 115 = .ok (.sipush 200, 3) := by decide +kernel
theorem dc_C_takeStep_118 : decode prog_5_method_4_code 118 = .ok (.if_icmp .ne 33, 3) := by decide +kernel
theorem dc_C_takeStep_121 : decode prog_5_method_4_code 121 = .ok (.aload_n 0, 1) := by decide +kernel
theorem dc_C_takeStep_122 : decode prog_5_method_4_code 122 = .ok (.getfield 64, 3) := by decide +kernel
theorem fl_C_64 : am_fl "WebFinder$Crawl" 64 7 10 := ⟨"WebFinder$Crawl", tt_C, 18, rfl, by decide, Or.inl (am_t2 8 rfl rfl)⟩
theorem dc_C_takeStep_125 : decode prog_5_method_4_code 125 = .ok (.aload_n 2, 1) := by decide +kernel
theorem dc_C_takeStep_126 : decode prog_5_method_4_code 126 = .ok (.getfield 143, 3) := by decide +kernel
theorem fl_C_143 : am_fl "WebFinder$Crawl" 143 10 2 := ⟨"WebFinder$Page", tt_G, 3, rfl, by decide, Or.inl (am_t5 6 rfl rfl)⟩
theorem dc_C_takeStep_129 : decode prog_5_method_4_code 129 = .ok (.iconst 0, 1) := by decide +kernel
theorem dc_C_takeStep_130 : decode prog_5_method_4_code 130 = .ok (.aload_n 2, 1) := by decide +kernel
theorem dc_C_takeStep_131 : decode prog_5_method_4_code 131 = .ok (.getfield 143, 3) := by decide +kernel
theorem dc_C_takeStep_134 : decode prog_5_method_4_code 134 = .ok (.arraylength, 1) := by decide +kernel
theorem dc_C_takeStep_135 : decode prog_5_method_4_code 135 = .ok (.aload_n 0, 1) := by decide +kernel
theorem dc_C_takeStep_136 : decode prog_5_method_4_code 136 = .ok (.getfield 46, 3) := by decide +kernel
theorem dc_C_takeStep_139 : decode prog_5_method_4_code 139 = .ok (.invokevirtual 146, 3) := by decide +kernel
theorem ln_C_146 : am_ln "WebFinder$Crawl" 146 mt_P_readLinks.1 := Or.inl (am_t6 117 rfl rfl)
theorem dc_C_takeStep_142 : decode prog_5_method_4_code 142 = .ok (.aload_n 0, 1) := by decide +kernel
theorem dc_C_takeStep_143 : decode prog_5_method_4_code 143 = .ok (.iload_n 1, 1) := by decide +kernel
theorem dc_C_takeStep_144 : decode prog_5_method_4_code 144 = .ok (.aload_n 2, 1) := by decide +kernel
theorem dc_C_takeStep_145 : decode prog_5_method_4_code 145 = .ok (.invokevirtual 152, 3) := by decide +kernel
theorem mo_C_keepPage : am_mo mt_C_keepPage 2 := ⟨⟨by decide +kernel, by decide +kernel⟩, by decide +kernel, ⟨by decide +kernel, by decide +kernel⟩, (am_t6 121 rfl rfl), (am_t1 8 rfl rfl), by decide +kernel⟩
theorem im_C_keepPage : Cond.instanceMethod mt_C_keepPage.1 ∈ am_gw := (am_t6 120 rfl rfl)
theorem se_C_keepPage : Cond.selects mt_C_keepPage.1.cls mt_C_keepPage.1 mt_C_keepPage.1 ∈ am_gw := am_in (List.mem_append_left _ (by decide +kernel)) rfl
theorem ln_C_152 : am_ln "WebFinder$Crawl" 152 mt_C_keepPage.1 := Or.inl (am_t6 118 rfl rfl)
theorem dc_C_takeStep_148 : decode prog_5_method_4_code 148 = .ok (.goto 62, 3) := by decide +kernel
theorem dc_C_takeStep_151 : decode prog_5_method_4_code 151 = .ok (.aload_n 2, 1) := by decide +kernel
theorem dc_C_takeStep_152 : decode prog_5_method_4_code 152 = .ok (.ifnull 58, 3) := by decide +kernel
theorem dc_C_takeStep_155 : decode prog_5_method_4_code 155 = .ok (.aload_n 0, 1) := by decide +kernel
theorem dc_C_takeStep_156 : decode prog_5_method_4_code 156 = .ok (.iload_n 1, 1) := by decide +kernel
theorem dc_C_takeStep_157 : decode prog_5_method_4_code 157 = .ok (.aload_n 2, 1) := by decide +kernel
theorem dc_C_takeStep_158 : decode prog_5_method_4_code 158 = .ok (.invokevirtual 156, 3) := by decide +kernel
theorem mo_C_mayLeadOn : am_mo mt_C_mayLeadOn 2 := ⟨⟨by decide +kernel, by decide +kernel⟩, by decide +kernel, ⟨by decide +kernel, by decide +kernel⟩, (am_t6 125 rfl rfl), (am_t1 8 rfl rfl), by decide +kernel⟩
theorem im_C_mayLeadOn : Cond.instanceMethod mt_C_mayLeadOn.1 ∈ am_gw := (am_t6 124 rfl rfl)
theorem se_C_mayLeadOn : Cond.selects mt_C_mayLeadOn.1.cls mt_C_mayLeadOn.1 mt_C_mayLeadOn.1 ∈ am_gw := am_in (List.mem_append_left _ (by decide +kernel)) rfl
theorem ln_C_156 : am_ln "WebFinder$Crawl" 156 mt_C_mayLeadOn.1 := Or.inl (am_t6 122 rfl rfl)
theorem dc_C_takeStep_161 : decode prog_5_method_4_code 161 = .ok (.ifCond .eq 49, 3) := by decide +kernel
theorem dc_C_takeStep_164 : decode prog_5_method_4_code 164 = .ok (.aload_n 0, 1) := by decide +kernel
theorem dc_C_takeStep_165 : decode prog_5_method_4_code 165 = .ok (.getfield 60, 3) := by decide +kernel
theorem fl_C_60 : am_fl "WebFinder$Crawl" 60 7 9 := ⟨"WebFinder$Crawl", tt_C, 18, rfl, by decide, Or.inl (am_t2 7 rfl rfl)⟩
theorem dc_C_takeStep_168 : decode prog_5_method_4_code 168 = .ok (.aload_n 2, 1) := by decide +kernel
theorem dc_C_takeStep_169 : decode prog_5_method_4_code 169 = .ok (.getfield 143, 3) := by decide +kernel
theorem dc_C_takeStep_172 : decode prog_5_method_4_code 172 = .ok (.iconst 0, 1) := by decide +kernel
theorem dc_C_takeStep_173 : decode prog_5_method_4_code 173 = .ok (.aload_n 2, 1) := by decide +kernel
theorem dc_C_takeStep_174 : decode prog_5_method_4_code 174 = .ok (.getfield 143, 3) := by decide +kernel
theorem dc_C_takeStep_177 : decode prog_5_method_4_code 177 = .ok (.bipush 10, 2) := by decide +kernel
theorem dc_C_takeStep_179 : decode prog_5_method_4_code 179 = .ok (.iconst 0, 1) := by decide +kernel
theorem dc_C_takeStep_180 : decode prog_5_method_4_code 180 = .ok (.aload_n 2, 1) := by decide +kernel
theorem dc_C_takeStep_181 : decode prog_5_method_4_code 181 = .ok (.getfield 143, 3) := by decide +kernel
theorem dc_C_takeStep_184 : decode prog_5_method_4_code 184 = .ok (.arraylength, 1) := by decide +kernel
theorem dc_C_takeStep_185 : decode prog_5_method_4_code 185 = .ok (.invokestatic 160, 3) := by decide +kernel
theorem ln_C_160 : am_ln "WebFinder$Crawl" 160 mt_W_indexOf.1 := Or.inr ⟨"WebFinder", (am_n6 126 rfl rfl)⟩
theorem dc_C_takeStep_188 : decode prog_5_method_4_code 188 = .ok (.aload_n 0, 1) := by decide +kernel
theorem dc_C_takeStep_189 : decode prog_5_method_4_code 189 = .ok (.getfield 46, 3) := by decide +kernel
theorem dc_C_takeStep_192 : decode prog_5_method_4_code 192 = .ok (.invokevirtual 164, 3) := by decide +kernel
theorem ln_C_164 : am_ln "WebFinder$Crawl" 164 mt_A_resolve.1 := Or.inl (am_t6 127 rfl rfl)
theorem dc_C_takeStep_195 : decode prog_5_method_4_code 195 = .ok (.ifCond .eq 15, 3) := by decide +kernel
theorem dc_C_takeStep_198 : decode prog_5_method_4_code 198 = .ok (.aload_n 0, 1) := by decide +kernel
theorem dc_C_takeStep_199 : decode prog_5_method_4_code 199 = .ok (.iload_n 1, 1) := by decide +kernel
theorem dc_C_takeStep_200 : decode prog_5_method_4_code 200 = .ok (.aload_n 0, 1) := by decide +kernel
theorem dc_C_takeStep_201 : decode prog_5_method_4_code 201 = .ok (.getfield 60, 3) := by decide +kernel
theorem dc_C_takeStep_204 : decode prog_5_method_4_code 204 = .ok (.getfield 170, 3) := by decide +kernel
theorem fl_C_170 : am_fl "WebFinder$Crawl" 170 2 0 := ⟨"WebFinder$AddressReader", tt_A, 2, rfl, by decide, Or.inl (am_t1 82 rfl rfl)⟩
theorem dc_C_takeStep_207 : decode prog_5_method_4_code 207 = .ok (.invokevirtual 173, 3) := by decide +kernel
theorem mo_C_leadOn : am_mo mt_C_leadOn 2 := ⟨⟨by decide +kernel, by decide +kernel⟩, by decide +kernel, ⟨by decide +kernel, by decide +kernel⟩, (am_t6 131 rfl rfl), (am_t1 8 rfl rfl), by decide +kernel⟩
theorem im_C_leadOn : Cond.instanceMethod mt_C_leadOn.1 ∈ am_gw := (am_t6 130 rfl rfl)
theorem se_C_leadOn : Cond.selects mt_C_leadOn.1.cls mt_C_leadOn.1 mt_C_leadOn.1 ∈ am_gw := am_in (List.mem_append_left _ (by decide +kernel)) rfl
theorem ln_C_173 : am_ln "WebFinder$Crawl" 173 mt_C_leadOn.1 := Or.inl (am_t6 128 rfl rfl)
theorem dc_C_takeStep_210 : decode prog_5_method_4_code 210 = .ok (.aload_n 0, 1) := by decide +kernel
theorem dc_C_takeStep_211 : decode prog_5_method_4_code 211 = .ok (.getfield 177, 3) := by decide +kernel
theorem fl_C_177 : am_fl "WebFinder$Crawl" 177 7 16 := ⟨"WebFinder$Crawl", tt_C, 18, rfl, by decide, Or.inl (am_t2 14 rfl rfl)⟩
theorem dc_C_takeStep_214 : decode prog_5_method_4_code 214 = .ok (.aload_n 0, 1) := by decide +kernel
theorem dc_C_takeStep_215 : decode prog_5_method_4_code 215 = .ok (.getfield 38, 3) := by decide +kernel
theorem dc_C_takeStep_218 : decode prog_5_method_4_code 218 = .ok (.iconst 3, 1) := by decide +kernel
theorem dc_C_takeStep_219 : decode prog_5_method_4_code 219 = .ok (.iaload, 1) := by decide +kernel
theorem dc_C_takeStep_220 : decode prog_5_method_4_code 220 = .ok (.if_icmp .lt 7, 3) := by decide +kernel
theorem dc_C_takeStep_223 : decode prog_5_method_4_code 223 = .ok (.aload_n 0, 1) := by decide +kernel
theorem dc_C_takeStep_224 : decode prog_5_method_4_code 224 = .ok (.invokevirtual 112, 3) := by decide +kernel
theorem dc_C_takeStep_227 : decode prog_5_method_4_code 227 = .ok (.aload_n 0, 1) := by decide +kernel
theorem dc_C_takeStep_228 : decode prog_5_method_4_code 228 = .ok (.getfield 22, 3) := by decide +kernel
theorem dc_C_takeStep_231 : decode prog_5_method_4_code 231 = .ok (.iconst 0, 1) := by decide +kernel
theorem dc_C_takeStep_232 : decode prog_5_method_4_code 232 = .ok (.aaload, 1) := by decide +kernel
theorem dc_C_takeStep_233 : decode prog_5_method_4_code 233 = .ok (.iload_n 1, 1) := by decide +kernel
theorem dc_C_takeStep_234 : decode prog_5_method_4_code 234 = .ok (.iaload, 1) := by decide +kernel
theorem dc_C_takeStep_235 : decode prog_5_method_4_code 235 = .ok (.ireturn, 1) := by decide +kernel
theorem dc_C_nextWaiting_0 : decode prog_5_method_8_code 0 = .ok (.iconst (-1), 1) := by decide +kernel
theorem dc_C_nextWaiting_1 : decode prog_5_method_8_code 1 = .ok (.istore_n 1, 1) := by decide +kernel
theorem dc_C_nextWaiting_2 : decode prog_5_method_8_code 2 = .ok (.iconst 0, 1) := by decide +kernel
theorem dc_C_nextWaiting_3 : decode prog_5_method_8_code 3 = .ok (.istore_n 2, 1) := by decide +kernel
theorem dc_C_nextWaiting_4 : decode prog_5_method_8_code 4 = .ok (.iload_n 2, 1) := by decide +kernel
theorem dc_C_nextWaiting_5 : decode prog_5_method_8_code 5 = .ok (.aload_n 0, 1) := by decide +kernel
theorem dc_C_nextWaiting_6 : decode prog_5_method_8_code 6 = .ok (.getfield 14, 3) := by decide +kernel
theorem dc_C_nextWaiting_9 : decode prog_5_method_8_code 9 = .ok (.getfield 91, 3) := by decide +kernel
theorem dc_C_nextWaiting_12 : decode prog_5_method_8_code 12 = .ok (.if_icmp .ge 52, 3) := by decide +kernel
theorem dc_C_nextWaiting_15 : decode prog_5_method_8_code 15 = .ok (.aload_n 0, 1) := by decide +kernel
theorem dc_C_nextWaiting_16 : decode prog_5_method_8_code 16 = .ok (.getfield 22, 3) := by decide +kernel
theorem dc_C_nextWaiting_19 : decode prog_5_method_8_code 19 = .ok (.iconst 0, 1) := by decide +kernel
theorem dc_C_nextWaiting_20 : decode prog_5_method_8_code 20 = .ok (.aaload, 1) := by decide +kernel
theorem dc_C_nextWaiting_21 : decode prog_5_method_8_code 21 = .ok (.iload_n 2, 1) := by decide +kernel
theorem dc_C_nextWaiting_22 : decode prog_5_method_8_code 22 = .ok (.iaload, 1) := by decide +kernel
theorem dc_C_nextWaiting_23 : decode prog_5_method_8_code 23 = .ok (.iconst 1, 1) := by decide +kernel
theorem dc_C_nextWaiting_24 : decode prog_5_method_8_code 24 = .ok (.if_icmp .ne 34, 3) := by decide +kernel
theorem dc_C_nextWaiting_27 : decode prog_5_method_8_code 27 = .ok (.iload_n 1, 1) := by decide +kernel
theorem dc_C_nextWaiting_28 : decode prog_5_method_8_code 28 = .ok (.iconst (-1), 1) := by decide +kernel
theorem dc_C_nextWaiting_29 : decode prog_5_method_8_code 29 = .ok (.if_icmp .eq 27, 3) := by decide +kernel
theorem dc_C_nextWaiting_32 : decode prog_5_method_8_code 32 = .ok (.aload_n 0, 1) := by decide +kernel
theorem dc_C_nextWaiting_33 : decode prog_5_method_8_code 33 = .ok (.aload_n 0, 1) := by decide +kernel
theorem dc_C_nextWaiting_34 : decode prog_5_method_8_code 34 = .ok (.getfield 22, 3) := by decide +kernel
theorem dc_C_nextWaiting_37 : decode prog_5_method_8_code 37 = .ok (.iconst 1, 1) := by decide +kernel
theorem dc_C_nextWaiting_38 : decode prog_5_method_8_code 38 = .ok (.aaload, 1) := by decide +kernel
theorem dc_C_nextWaiting_39 : decode prog_5_method_8_code 39 = .ok (.iload_n 2, 1) := by decide +kernel
theorem dc_C_nextWaiting_40 : decode prog_5_method_8_code 40 = .ok (.iaload, 1) := by decide +kernel
theorem dc_C_nextWaiting_41 : decode prog_5_method_8_code 41 = .ok (.aload_n 0, 1) := by decide +kernel
theorem dc_C_nextWaiting_42 : decode prog_5_method_8_code 42 = .ok (.getfield 22, 3) := by decide +kernel
theorem dc_C_nextWaiting_45 : decode prog_5_method_8_code 45 = .ok (.iconst 2, 1) := by decide +kernel
theorem dc_C_nextWaiting_46 : decode prog_5_method_8_code 46 = .ok (.aaload, 1) := by decide +kernel
theorem dc_C_nextWaiting_47 : decode prog_5_method_8_code 47 = .ok (.iload_n 2, 1) := by decide +kernel
theorem dc_C_nextWaiting_48 : decode prog_5_method_8_code 48 = .ok (.iaload, 1) := by decide +kernel
theorem dc_C_nextWaiting_49 : decode prog_5_method_8_code 49 = .ok (.iload_n 1, 1) := by decide +kernel
theorem dc_C_nextWaiting_50 : decode prog_5_method_8_code 50 = .ok (.invokevirtual 186, 3) := by decide +kernel
theorem dc_C_nextWaiting_53 : decode prog_5_method_8_code 53 = .ok (.ifCond .eq 5, 3) := by decide +kernel
theorem dc_C_nextWaiting_56 : decode prog_5_method_8_code 56 = .ok (.iload_n 2, 1) := by decide +kernel
theorem dc_C_nextWaiting_57 : decode prog_5_method_8_code 57 = .ok (.istore_n 1, 1) := by decide +kernel
theorem dc_C_nextWaiting_58 : decode prog_5_method_8_code 58 = .ok (.iinc 2 1, 3) := by decide +kernel
theorem dc_C_nextWaiting_61 : decode prog_5_method_8_code 61 = .ok (.goto (-57), 3) := by decide +kernel
theorem dc_C_nextWaiting_64 : decode prog_5_method_8_code 64 = .ok (.iload_n 1, 1) := by decide +kernel
theorem dc_C_nextWaiting_65 : decode prog_5_method_8_code 65 = .ok (.ireturn, 1) := by decide +kernel
theorem dc_C_letRest_0 : decode prog_5_method_10_code 0 = .ok (.aload_n 0, 1) := by decide +kernel
theorem dc_C_letRest_1 : decode prog_5_method_10_code 1 = .ok (.getfield 82, 3) := by decide +kernel
theorem fl_C_82 : am_fl "WebFinder$Crawl" 82 7 17 := ⟨"WebFinder$Crawl", tt_C, 18, rfl, by decide, Or.inl (am_t2 15 rfl rfl)⟩
theorem dc_C_letRest_4 : decode prog_5_method_10_code 4 = .ok (.istore_n 1, 1) := by decide +kernel
theorem dc_C_letRest_5 : decode prog_5_method_10_code 5 = .ok (.aload_n 0, 1) := by decide +kernel
theorem dc_C_letRest_6 : decode prog_5_method_10_code 6 = .ok (.getfield 46, 3) := by decide +kernel
theorem dc_C_letRest_9 : decode prog_5_method_10_code 9 = .ok (.getfield 97, 3) := by decide +kernel
theorem dc_C_letRest_12 : decode prog_5_method_10_code 12 = .ok (.aload_n 0, 1) := by decide +kernel
theorem dc_C_letRest_13 : decode prog_5_method_10_code 13 = .ok (.getfield 46, 3) := by decide +kernel
theorem dc_C_letRest_16 : decode prog_5_method_10_code 16 = .ok (.getfield 183, 3) := by decide +kernel
theorem fl_C_183 : am_fl "WebFinder$Crawl" 183 1 1 := ⟨"WebFinder$Bytes", tt_B, 2, rfl, by decide, Or.inl (am_t1 63 rfl rfl)⟩
theorem dc_C_letRest_19 : decode prog_5_method_10_code 19 = .ok (.invokestatic 190, 3) := by decide +kernel
theorem ln_C_190 : am_ln "WebFinder$Crawl" 190 mt_W_siteTo.1 := Or.inr ⟨"WebFinder", (am_n6 102 rfl rfl)⟩
theorem dc_C_letRest_22 : decode prog_5_method_10_code 22 = .ok (.iconst 1, 1) := by decide +kernel
theorem dc_C_letRest_23 : decode prog_5_method_10_code 23 = .ok (.iadd, 1) := by decide +kernel
theorem dc_C_letRest_24 : decode prog_5_method_10_code 24 = .ok (.istore_n 2, 1) := by decide +kernel
theorem dc_C_letRest_25 : decode prog_5_method_10_code 25 = .ok (.iconst 0, 1) := by decide +kernel
theorem dc_C_letRest_26 : decode prog_5_method_10_code 26 = .ok (.istore_n 3, 1) := by decide +kernel
theorem dc_C_letRest_27 : decode prog_5_method_10_code 27 = .ok (.iload_n 3, 1) := by decide +kernel
theorem dc_C_letRest_28 : decode prog_5_method_10_code 28 = .ok (.aload_n 0, 1) := by decide +kernel
theorem dc_C_letRest_29 : decode prog_5_method_10_code 29 = .ok (.getfield 14, 3) := by decide +kernel
theorem dc_C_letRest_32 : decode prog_5_method_10_code 32 = .ok (.getfield 91, 3) := by decide +kernel
theorem dc_C_letRest_35 : decode prog_5_method_10_code 35 = .ok (.if_icmp .ge 35, 3) := by decide +kernel
theorem dc_C_letRest_38 : decode prog_5_method_10_code 38 = .ok (.aload_n 0, 1) := by decide +kernel
theorem dc_C_letRest_39 : decode prog_5_method_10_code 39 = .ok (.getfield 50, 3) := by decide +kernel
theorem dc_C_letRest_42 : decode prog_5_method_10_code 42 = .ok (.iload_n 3, 1) := by decide +kernel
theorem dc_C_letRest_43 : decode prog_5_method_10_code 43 = .ok (.iaload, 1) := by decide +kernel
theorem dc_C_letRest_44 : decode prog_5_method_10_code 44 = .ok (.iload_n 1, 1) := by decide +kernel
theorem dc_C_letRest_45 : decode prog_5_method_10_code 45 = .ok (.if_icmp .le 19, 3) := by decide +kernel
theorem dc_C_letRest_48 : decode prog_5_method_10_code 48 = .ok (.aload_n 0, 1) := by decide +kernel
theorem dc_C_letRest_49 : decode prog_5_method_10_code 49 = .ok (.iload_n 3, 1) := by decide +kernel
theorem dc_C_letRest_50 : decode prog_5_method_10_code 50 = .ok (.iload_n 2, 1) := by decide +kernel
theorem dc_C_letRest_51 : decode prog_5_method_10_code 51 = .ok (.invokevirtual 194, 3) := by decide +kernel
theorem mo_C_beginsAsHere : am_mo mt_C_beginsAsHere 2 := ⟨⟨by decide +kernel, by decide +kernel⟩, by decide +kernel, ⟨by decide +kernel, by decide +kernel⟩, (am_t6 106 rfl rfl), (am_t1 8 rfl rfl), by decide +kernel⟩
theorem im_C_beginsAsHere : Cond.instanceMethod mt_C_beginsAsHere.1 ∈ am_gw := (am_t6 105 rfl rfl)
theorem se_C_beginsAsHere : Cond.selects mt_C_beginsAsHere.1.cls mt_C_beginsAsHere.1 mt_C_beginsAsHere.1 ∈ am_gw := am_in (List.mem_append_left _ (by decide +kernel)) rfl
theorem ln_C_194 : am_ln "WebFinder$Crawl" 194 mt_C_beginsAsHere.1 := Or.inl (am_t6 103 rfl rfl)
theorem dc_C_letRest_54 : decode prog_5_method_10_code 54 = .ok (.ifCond .eq 10, 3) := by decide +kernel
theorem dc_C_letRest_57 : decode prog_5_method_10_code 57 = .ok (.aload_n 0, 1) := by decide +kernel
theorem dc_C_letRest_58 : decode prog_5_method_10_code 58 = .ok (.getfield 50, 3) := by decide +kernel
theorem dc_C_letRest_61 : decode prog_5_method_10_code 61 = .ok (.iload_n 3, 1) := by decide +kernel
theorem dc_C_letRest_62 : decode prog_5_method_10_code 62 = .ok (.iaload, 1) := by decide +kernel
theorem dc_C_letRest_63 : decode prog_5_method_10_code 63 = .ok (.istore_n 1, 1) := by decide +kernel
theorem dc_C_letRest_64 : decode prog_5_method_10_code 64 = .ok (.iinc 3 1, 3) := by decide +kernel
theorem dc_C_letRest_67 : decode prog_5_method_10_code 67 = .ok (.goto (-40), 3) := by decide +kernel
theorem dc_C_letRest_70 : decode prog_5_method_10_code 70 = .ok (.iload_n 1, 1) := by decide +kernel
theorem dc_C_letRest_71 : decode prog_5_method_10_code 71 = .ok (.iconst (-1), 1) := by decide +kernel
theorem dc_C_letRest_72 : decode prog_5_method_10_code 72 = .ok (.if_icmp .eq 22, 3) := by decide +kernel
theorem dc_C_letRest_75 : decode prog_5_method_10_code 75 = .ok (.aload_n 0, 1) := by decide +kernel
theorem dc_C_letRest_76 : decode prog_5_method_10_code 76 = .ok (.aload_n 0, 1) := by decide +kernel
theorem dc_C_letRest_77 : decode prog_5_method_10_code 77 = .ok (.getfield 78, 3) := by decide +kernel
theorem fl_C_78 : am_fl "WebFinder$Crawl" 78 7 1 := ⟨"WebFinder$Crawl", tt_C, 18, rfl, by decide, Or.inl (am_t1 230 rfl rfl)⟩
theorem dc_C_letRest_80 : decode prog_5_method_10_code 80 = .ok (.iload_n 1, 1) := by decide +kernel
theorem dc_C_letRest_81 : decode prog_5_method_10_code 81 = .ok (.aload_n 0, 1) := by decide +kernel
theorem dc_C_letRest_82 : decode prog_5_method_10_code 82 = .ok (.getfield 38, 3) := by decide +kernel
theorem dc_C_letRest_85 : decode prog_5_method_10_code 85 = .ok (.iconst 2, 1) := by decide +kernel
theorem dc_C_letRest_86 : decode prog_5_method_10_code 86 = .ok (.iaload, 1) := by decide +kernel
theorem dc_C_letRest_87 : decode prog_5_method_10_code 87 = .ok (.iadd, 1) := by decide +kernel
theorem dc_C_letRest_88 : decode prog_5_method_10_code 88 = .ok (.invokestatic 198, 3) := by decide +kernel
theorem ln_C_198 : am_ln "WebFinder$Crawl" 198 mt_JMath_max.1 := Or.inl (am_t6 108 rfl rfl)
theorem dc_C_letRest_91 : decode prog_5_method_10_code 91 = .ok (.putfield 78, 3) := by decide +kernel
theorem fp_C_letRest_78 : am_fp mt_C_letRest.1 78 7 1 (.int) := ⟨"WebFinder$Crawl", tt_C, 18, rfl, by decide, ct_C 1 (by decide), Or.inl ⟨(am_t1 230 rfl rfl), Or.inl rfl⟩⟩
theorem dc_C_letRest_94 : decode prog_5_method_10_code 94 = .ok (.return_, 1) := by decide +kernel
theorem dc_C_beginsAsHere_0 : decode prog_5_method_11_code 0 = .ok (.aload_n 0, 1) := by decide +kernel
theorem dc_C_beginsAsHere_1 : decode prog_5_method_11_code 1 = .ok (.getfield 14, 3) := by decide +kernel
theorem dc_C_beginsAsHere_4 : decode prog_5_method_11_code 4 = .ok (.iload_n 1, 1) := by decide +kernel
theorem dc_C_beginsAsHere_5 : decode prog_5_method_11_code 5 = .ok (.invokevirtual 101, 3) := by decide +kernel
theorem dc_C_beginsAsHere_8 : decode prog_5_method_11_code 8 = .ok (.istore_n 3, 1) := by decide +kernel
theorem dc_C_beginsAsHere_9 : decode prog_5_method_11_code 9 = .ok (.aload_n 0, 1) := by decide +kernel
theorem dc_C_beginsAsHere_10 : decode prog_5_method_11_code 10 = .ok (.getfield 14, 3) := by decide +kernel
theorem dc_C_beginsAsHere_13 : decode prog_5_method_11_code 13 = .ok (.iload_n 1, 1) := by decide +kernel
theorem dc_C_beginsAsHere_14 : decode prog_5_method_11_code 14 = .ok (.invokevirtual 105, 3) := by decide +kernel
theorem dc_C_beginsAsHere_17 : decode prog_5_method_11_code 17 = .ok (.iload_n 3, 1) := by decide +kernel
theorem dc_C_beginsAsHere_18 : decode prog_5_method_11_code 18 = .ok (.isub, 1) := by decide +kernel
theorem dc_C_beginsAsHere_19 : decode prog_5_method_11_code 19 = .ok (.iload_n 2, 1) := by decide +kernel
theorem dc_C_beginsAsHere_20 : decode prog_5_method_11_code 20 = .ok (.if_icmp .lt 33, 3) := by decide +kernel
theorem dc_C_beginsAsHere_23 : decode prog_5_method_11_code 23 = .ok (.aload_n 0, 1) := by decide +kernel
theorem dc_C_beginsAsHere_24 : decode prog_5_method_11_code 24 = .ok (.getfield 14, 3) := by decide +kernel
theorem dc_C_beginsAsHere_27 : decode prog_5_method_11_code 27 = .ok (.getfield 94, 3) := by decide +kernel
theorem dc_C_beginsAsHere_30 : decode prog_5_method_11_code 30 = .ok (.getfield 97, 3) := by decide +kernel
theorem dc_C_beginsAsHere_33 : decode prog_5_method_11_code 33 = .ok (.iload_n 3, 1) := by decide +kernel
theorem dc_C_beginsAsHere_34 : decode prog_5_method_11_code 34 = .ok (.aload_n 0, 1) := by decide +kernel
theorem dc_C_beginsAsHere_35 : decode prog_5_method_11_code 35 = .ok (.getfield 46, 3) := by decide +kernel
theorem dc_C_beginsAsHere_38 : decode prog_5_method_11_code 38 = .ok (.getfield 97, 3) := by decide +kernel
theorem dc_C_beginsAsHere_41 : decode prog_5_method_11_code 41 = .ok (.iconst 0, 1) := by decide +kernel
theorem dc_C_beginsAsHere_42 : decode prog_5_method_11_code 42 = .ok (.iload_n 2, 1) := by decide +kernel
theorem dc_C_beginsAsHere_43 : decode prog_5_method_11_code 43 = .ok (.invokestatic 204, 3) := by decide +kernel
theorem ln_C_204 : am_ln "WebFinder$Crawl" 204 mt_W_sameBytes.1 := Or.inr ⟨"WebFinder", (am_n6 107 rfl rfl)⟩
theorem dc_C_beginsAsHere_46 : decode prog_5_method_11_code 46 = .ok (.ifCond .eq 7, 3) := by decide +kernel
theorem dc_C_beginsAsHere_49 : decode prog_5_method_11_code 49 = .ok (.iconst 1, 1) := by decide +kernel
theorem dc_C_beginsAsHere_50 : decode prog_5_method_11_code 50 = .ok (.goto 4, 3) := by decide +kernel
theorem dc_C_beginsAsHere_53 : decode prog_5_method_11_code 53 = .ok (.iconst 0, 1) := by decide +kernel
theorem dc_C_beginsAsHere_54 : decode prog_5_method_11_code 54 = .ok (.ireturn, 1) := by decide +kernel
theorem dc_C_noteAsking_0 : decode prog_5_method_12_code 0 = .ok (.aload_n 0, 1) := by decide +kernel
theorem dc_C_noteAsking_1 : decode prog_5_method_12_code 1 = .ok (.getfield 31, 3) := by decide +kernel
theorem dc_C_noteAsking_4 : decode prog_5_method_12_code 4 = .ok (.getfield 91, 3) := by decide +kernel
theorem dc_C_noteAsking_7 : decode prog_5_method_12_code 7 = .ok (.sipush 1000, 3) := by decide +kernel
theorem dc_C_noteAsking_10 : decode prog_5_method_12_code 10 = .ok (.if_icmp .ge 41, 3) := by decide +kernel
theorem dc_C_noteAsking_13 : decode prog_5_method_12_code 13 = .ok (.aload_n 0, 1) := by decide +kernel
theorem dc_C_noteAsking_14 : decode prog_5_method_12_code 14 = .ok (.getfield 34, 3) := by decide +kernel
theorem fl_C_34 : am_fl "WebFinder$Crawl" 34 7 7 := ⟨"WebFinder$Crawl", tt_C, 18, rfl, by decide, Or.inl (am_t2 4 rfl rfl)⟩
theorem dc_C_noteAsking_17 : decode prog_5_method_12_code 17 = .ok (.aload_n 0, 1) := by decide +kernel
theorem dc_C_noteAsking_18 : decode prog_5_method_12_code 18 = .ok (.getfield 31, 3) := by decide +kernel
theorem dc_C_noteAsking_21 : decode prog_5_method_12_code 21 = .ok (.getfield 91, 3) := by decide +kernel
theorem dc_C_noteAsking_24 : decode prog_5_method_12_code 24 = .ok (.aload_n 0, 1) := by decide +kernel
theorem dc_C_noteAsking_25 : decode prog_5_method_12_code 25 = .ok (.getfield 78, 3) := by decide +kernel
theorem dc_C_noteAsking_28 : decode prog_5_method_12_code 28 = .ok (.iastore, 1) := by decide +kernel
theorem dc_C_noteAsking_29 : decode prog_5_method_12_code 29 = .ok (.aload_n 0, 1) := by decide +kernel
theorem dc_C_noteAsking_30 : decode prog_5_method_12_code 30 = .ok (.getfield 31, 3) := by decide +kernel
theorem dc_C_noteAsking_33 : decode prog_5_method_12_code 33 = .ok (.aload_n 0, 1) := by decide +kernel
theorem dc_C_noteAsking_34 : decode prog_5_method_12_code 34 = .ok (.getfield 46, 3) := by decide +kernel
theorem dc_C_noteAsking_37 : decode prog_5_method_12_code 37 = .ok (.getfield 97, 3) := by decide +kernel
theorem dc_C_noteAsking_40 : decode prog_5_method_12_code 40 = .ok (.iconst 0, 1) := by decide +kernel
theorem dc_C_noteAsking_41 : decode prog_5_method_12_code 41 = .ok (.aload_n 0, 1) := by decide +kernel
theorem dc_C_noteAsking_42 : decode prog_5_method_12_code 42 = .ok (.getfield 46, 3) := by decide +kernel
theorem dc_C_noteAsking_45 : decode prog_5_method_12_code 45 = .ok (.getfield 183, 3) := by decide +kernel
theorem dc_C_noteAsking_48 : decode prog_5_method_12_code 48 = .ok (.invokevirtual 208, 3) := by decide +kernel
theorem dc_C_noteAsking_51 : decode prog_5_method_12_code 51 = .ok (.aload_n 0, 1) := by decide +kernel
theorem dc_C_noteAsking_52 : decode prog_5_method_12_code 52 = .ok (.getfield 50, 3) := by decide +kernel
theorem dc_C_noteAsking_55 : decode prog_5_method_12_code 55 = .ok (.iload_n 1, 1) := by decide +kernel
theorem dc_C_noteAsking_56 : decode prog_5_method_12_code 56 = .ok (.aload_n 0, 1) := by decide +kernel
theorem dc_C_noteAsking_57 : decode prog_5_method_12_code 57 = .ok (.getfield 78, 3) := by decide +kernel
theorem dc_C_noteAsking_60 : decode prog_5_method_12_code 60 = .ok (.iastore, 1) := by decide +kernel
theorem dc_C_noteAsking_61 : decode prog_5_method_12_code 61 = .ok (.aload_n 0, 1) := by decide +kernel
theorem dc_C_noteAsking_62 : decode prog_5_method_12_code 62 = .ok (.dup, 1) := by decide +kernel
theorem dc_C_noteAsking_63 : decode prog_5_method_12_code 63 = .ok (.getfield 85, 3) := by decide +kernel
theorem fl_C_85 : am_fl "WebFinder$Crawl" 85 7 2 := ⟨"WebFinder$Crawl", tt_C, 18, rfl, by decide, Or.inl (am_t1 232 rfl rfl)⟩
theorem dc_C_noteAsking_66 : decode prog_5_method_12_code 66 = .ok (.iconst 1, 1) := by decide +kernel
theorem dc_C_noteAsking_67 : decode prog_5_method_12_code 67 = .ok (.iadd, 1) := by decide +kernel
theorem dc_C_noteAsking_68 : decode prog_5_method_12_code 68 = .ok (.putfield 85, 3) := by decide +kernel
theorem fp_C_noteAsking_85 : am_fp mt_C_noteAsking.1 85 7 2 (.int) := ⟨"WebFinder$Crawl", tt_C, 18, rfl, by decide, ct_C 2 (by decide), Or.inl ⟨(am_t1 232 rfl rfl), Or.inl rfl⟩⟩
theorem dc_C_noteAsking_71 : decode prog_5_method_12_code 71 = .ok (.aload_n 0, 1) := by decide +kernel
theorem dc_C_noteAsking_72 : decode prog_5_method_12_code 72 = .ok (.dup, 1) := by decide +kernel
theorem dc_C_noteAsking_73 : decode prog_5_method_12_code 73 = .ok (.getfield 177, 3) := by decide +kernel
theorem dc_C_noteAsking_76 : decode prog_5_method_12_code 76 = .ok (.iconst 1, 1) := by decide +kernel
theorem dc_C_noteAsking_77 : decode prog_5_method_12_code 77 = .ok (.iadd, 1) := by decide +kernel
theorem dc_C_noteAsking_78 : decode prog_5_method_12_code 78 = .ok (.putfield 177, 3) := by decide +kernel
theorem fp_C_noteAsking_177 : am_fp mt_C_noteAsking.1 177 7 16 (.int) := ⟨"WebFinder$Crawl", tt_C, 18, rfl, by decide, ct_C 16 (by decide), Or.inl ⟨(am_t2 14 rfl rfl), Or.inl rfl⟩⟩
theorem dc_C_noteAsking_81 : decode prog_5_method_12_code 81 = .ok (.aload_n 0, 1) := by decide +kernel
theorem dc_C_noteAsking_82 : decode prog_5_method_12_code 82 = .ok (.dup, 1) := by decide +kernel
theorem dc_C_noteAsking_83 : decode prog_5_method_12_code 83 = .ok (.getfield 78, 3) := by decide +kernel
theorem dc_C_noteAsking_86 : decode prog_5_method_12_code 86 = .ok (.iconst 1, 1) := by decide +kernel
theorem dc_C_noteAsking_87 : decode prog_5_method_12_code 87 = .ok (.iadd, 1) := by decide +kernel
theorem dc_C_noteAsking_88 : decode prog_5_method_12_code 88 = .ok (.putfield 78, 3) := by decide +kernel
theorem fp_C_noteAsking_78 : am_fp mt_C_noteAsking.1 78 7 1 (.int) := ⟨"WebFinder$Crawl", tt_C, 18, rfl, by decide, ct_C 1 (by decide), Or.inl ⟨(am_t1 230 rfl rfl), Or.inl rfl⟩⟩
theorem dc_C_noteAsking_91 : decode prog_5_method_12_code 91 = .ok (.return_, 1) := by decide +kernel
theorem dc_V_pageAt_0 : decode prog_12_method_3_code 0 = .ok (.aload_n 0, 1) := by decide +kernel
theorem dc_V_pageAt_1 : decode prog_12_method_3_code 1 = .ok (.aload_n 1, 1) := by decide +kernel
theorem dc_V_pageAt_2 : decode prog_12_method_3_code 2 = .ok (.invokevirtual 31, 3) := by decide +kernel
theorem dc_V_pageAt_5 : decode prog_12_method_3_code 5 = .ok (.istore_n 2, 1) := by decide +kernel
theorem dc_V_pageAt_6 : decode prog_12_method_3_code 6 = .ok (.iload_n 2, 1) := by decide +kernel
theorem dc_V_pageAt_7 : decode prog_12_method_3_code 7 = .ok (.iconst (-1), 1) := by decide +kernel
theorem dc_V_pageAt_8 : decode prog_12_method_3_code 8 = .ok (.if_icmp .ne 7, 3) := by decide +kernel
theorem dc_V_pageAt_11 : decode prog_12_method_3_code 11 = .ok (.aconst_null, 1) := by decide +kernel
theorem dc_V_pageAt_12 : decode prog_12_method_3_code 12 = .ok (.goto 9, 3) := by decide +kernel
theorem dc_V_pageAt_15 : decode prog_12_method_3_code 15 = .ok (.aload_n 0, 1) := by decide +kernel
theorem dc_V_pageAt_16 : decode prog_12_method_3_code 16 = .ok (.getfield 11, 3) := by decide +kernel
theorem dc_V_pageAt_19 : decode prog_12_method_3_code 19 = .ok (.iload_n 2, 1) := by decide +kernel
theorem dc_V_pageAt_20 : decode prog_12_method_3_code 20 = .ok (.aaload, 1) := by decide +kernel
theorem dc_V_pageAt_21 : decode prog_12_method_3_code 21 = .ok (.areturn, 1) := by decide +kernel
theorem dc_C_keepPage_0 : decode prog_5_method_5_code 0 = .ok (.aload_n 0, 1) := by decide +kernel
theorem dc_C_keepPage_1 : decode prog_5_method_5_code 1 = .ok (.getfield 22, 3) := by decide +kernel
theorem dc_C_keepPage_4 : decode prog_5_method_5_code 4 = .ok (.iconst 0, 1) := by decide +kernel
theorem dc_C_keepPage_5 : decode prog_5_method_5_code 5 = .ok (.aaload, 1) := by decide +kernel
theorem dc_C_keepPage_6 : decode prog_5_method_5_code 6 = .ok (.iload_n 1, 1) := by decide +kernel
theorem dc_C_keepPage_7 : decode prog_5_method_5_code 7 = .ok (.iconst 2, 1) := by decide +kernel
theorem dc_C_keepPage_8 : decode prog_5_method_5_code 8 = .ok (.iastore, 1) := by decide +kernel
theorem dc_C_keepPage_9 : decode prog_5_method_5_code 9 = .ok (.aload_n 0, 1) := by decide +kernel
theorem dc_C_keepPage_10 : decode prog_5_method_5_code 10 = .ok (.getfield 27, 3) := by decide +kernel
theorem fl_C_27 : am_fl "WebFinder$Crawl" 27 7 5 := ⟨"WebFinder$Crawl", tt_C, 18, rfl, by decide, Or.inl (am_t2 0 rfl rfl)⟩
theorem dc_C_keepPage_13 : decode prog_5_method_5_code 13 = .ok (.iload_n 1, 1) := by decide +kernel
theorem dc_C_keepPage_14 : decode prog_5_method_5_code 14 = .ok (.aload_n 2, 1) := by decide +kernel
theorem dc_C_keepPage_15 : decode prog_5_method_5_code 15 = .ok (.aastore, 1) := by decide +kernel
theorem dc_C_keepPage_16 : decode prog_5_method_5_code 16 = .ok (.aload_n 0, 1) := by decide +kernel
theorem dc_C_keepPage_17 : decode prog_5_method_5_code 17 = .ok (.getfield 64, 3) := by decide +kernel
theorem dc_C_keepPage_20 : decode prog_5_method_5_code 20 = .ok (.getfield 180, 3) := by decide +kernel
theorem fl_C_180 : am_fl "WebFinder$Crawl" 180 3 0 := ⟨"WebFinder$PageReader", tt_P, 6, rfl, by decide, Or.inl (am_t1 167 rfl rfl)⟩
theorem dc_C_keepPage_23 : decode prog_5_method_5_code 23 = .ok (.astore_n 3, 1) := by decide +kernel
theorem dc_C_keepPage_24 : decode prog_5_method_5_code 24 = .ok (.iconst 0, 1) := by decide +kernel
theorem dc_C_keepPage_25 : decode prog_5_method_5_code 25 = .ok (.istore 4, 2) := by decide +kernel
theorem dc_C_keepPage_27 : decode prog_5_method_5_code 27 = .ok (.iload 4, 2) := by decide +kernel
theorem dc_C_keepPage_29 : decode prog_5_method_5_code 29 = .ok (.aload_n 3, 1) := by decide +kernel
theorem dc_C_keepPage_30 : decode prog_5_method_5_code 30 = .ok (.getfield 91, 3) := by decide +kernel
theorem dc_C_keepPage_33 : decode prog_5_method_5_code 33 = .ok (.if_icmp .ge 44, 3) := by decide +kernel
theorem dc_C_keepPage_36 : decode prog_5_method_5_code 36 = .ok (.aload_n 0, 1) := by decide +kernel
theorem dc_C_keepPage_37 : decode prog_5_method_5_code 37 = .ok (.aload_n 3, 1) := by decide +kernel
theorem dc_C_keepPage_38 : decode prog_5_method_5_code 38 = .ok (.getfield 94, 3) := by decide +kernel
theorem dc_C_keepPage_41 : decode prog_5_method_5_code 41 = .ok (.getfield 97, 3) := by decide +kernel
theorem dc_C_keepPage_44 : decode prog_5_method_5_code 44 = .ok (.aload_n 3, 1) := by decide +kernel
theorem dc_C_keepPage_45 : decode prog_5_method_5_code 45 = .ok (.iload 4, 2) := by decide +kernel
theorem dc_C_keepPage_47 : decode prog_5_method_5_code 47 = .ok (.invokevirtual 101, 3) := by decide +kernel
theorem dc_C_keepPage_50 : decode prog_5_method_5_code 50 = .ok (.aload_n 3, 1) := by decide +kernel
theorem dc_C_keepPage_51 : decode prog_5_method_5_code 51 = .ok (.iload 4, 2) := by decide +kernel
theorem dc_C_keepPage_53 : decode prog_5_method_5_code 53 = .ok (.invokevirtual 105, 3) := by decide +kernel
theorem dc_C_keepPage_56 : decode prog_5_method_5_code 56 = .ok (.aload_n 0, 1) := by decide +kernel
theorem dc_C_keepPage_57 : decode prog_5_method_5_code 57 = .ok (.getfield 22, 3) := by decide +kernel
theorem dc_C_keepPage_60 : decode prog_5_method_5_code 60 = .ok (.iconst 1, 1) := by decide +kernel
theorem dc_C_keepPage_61 : decode prog_5_method_5_code 61 = .ok (.aaload, 1) := by decide +kernel
theorem dc_C_keepPage_62 : decode prog_5_method_5_code 62 = .ok (.iload_n 1, 1) := by decide +kernel
theorem dc_C_keepPage_63 : decode prog_5_method_5_code 63 = .ok (.iaload, 1) := by decide +kernel
theorem dc_C_keepPage_64 : decode prog_5_method_5_code 64 = .ok (.iconst 1, 1) := by decide +kernel
theorem dc_C_keepPage_65 : decode prog_5_method_5_code 65 = .ok (.iadd, 1) := by decide +kernel
theorem dc_C_keepPage_66 : decode prog_5_method_5_code 66 = .ok (.iconst 0, 1) := by decide +kernel
theorem dc_C_keepPage_67 : decode prog_5_method_5_code 67 = .ok (.invokevirtual 108, 3) := by decide +kernel
theorem dc_C_keepPage_70 : decode prog_5_method_5_code 70 = .ok (.pop, 1) := by decide +kernel
theorem dc_C_keepPage_71 : decode prog_5_method_5_code 71 = .ok (.iinc 4 1, 3) := by decide +kernel
theorem dc_C_keepPage_74 : decode prog_5_method_5_code 74 = .ok (.goto (-47), 3) := by decide +kernel
theorem dc_C_keepPage_77 : decode prog_5_method_5_code 77 = .ok (.return_, 1) := by decide +kernel
theorem dc_C_mayLeadOn_0 : decode prog_5_method_6_code 0 = .ok (.aload_n 2, 1) := by decide +kernel
theorem dc_C_mayLeadOn_1 : decode prog_5_method_6_code 1 = .ok (.getfield 140, 3) := by decide +kernel
theorem dc_C_mayLeadOn_4 : decode prog_5_method_6_code 4 = .ok (.sipush 300, 3) := by decide +kernel
theorem dc_C_mayLeadOn_7 : decode prog_5_method_6_code 7 = .ok (.if_icmp .lt 34, 3) := by decide +kernel
theorem dc_C_mayLeadOn_10 : decode prog_5_method_6_code 10 = .ok (.aload_n 2, 1) := by decide +kernel
theorem dc_C_mayLeadOn_11 : decode prog_5_method_6_code 11 = .ok (.getfield 140, 3) := by decide +kernel
theorem dc_C_mayLeadOn_14 : decode prog_5_method_6_code 14 = .ok (.sipush 399, 3) := by decide +kernel
theorem dc_C_mayLeadOn_17 : decode prog_5_method_6_code 17 = .ok (.if_icmp .gt 24, 3) := by decide +kernel
theorem dc_C_mayLeadOn_20 : decode prog_5_method_6_code 20 = .ok (.aload_n 0, 1) := by decide +kernel
theorem dc_C_mayLeadOn_21 : decode prog_5_method_6_code 21 = .ok (.getfield 22, 3) := by decide +kernel
theorem dc_C_mayLeadOn_24 : decode prog_5_method_6_code 24 = .ok (.iconst 2, 1) := by decide +kernel
theorem dc_C_mayLeadOn_25 : decode prog_5_method_6_code 25 = .ok (.aaload, 1) := by decide +kernel
theorem dc_C_mayLeadOn_26 : decode prog_5_method_6_code 26 = .ok (.iload_n 1, 1) := by decide +kernel
theorem dc_C_mayLeadOn_27 : decode prog_5_method_6_code 27 = .ok (.iaload, 1) := by decide +kernel
theorem dc_C_mayLeadOn_28 : decode prog_5_method_6_code 28 = .ok (.aload_n 0, 1) := by decide +kernel
theorem dc_C_mayLeadOn_29 : decode prog_5_method_6_code 29 = .ok (.getfield 38, 3) := by decide +kernel
theorem dc_C_mayLeadOn_32 : decode prog_5_method_6_code 32 = .ok (.iconst 1, 1) := by decide +kernel
theorem dc_C_mayLeadOn_33 : decode prog_5_method_6_code 33 = .ok (.iaload, 1) := by decide +kernel
theorem dc_C_mayLeadOn_34 : decode prog_5_method_6_code 34 = .ok (.if_icmp .ge 7, 3) := by decide +kernel
theorem dc_C_mayLeadOn_37 : decode prog_5_method_6_code 37 = .ok (.iconst 1, 1) := by decide +kernel
theorem dc_C_mayLeadOn_38 : decode prog_5_method_6_code 38 = .ok (.goto 4, 3) := by decide +kernel
theorem dc_C_mayLeadOn_41 : decode prog_5_method_6_code 41 = .ok (.iconst 0, 1) := by decide +kernel
theorem dc_C_mayLeadOn_42 : decode prog_5_method_6_code 42 = .ok (.ireturn, 1) := by decide +kernel
theorem dc_C_leadOn_0 : decode prog_5_method_7_code 0 = .ok (.aload_n 0, 1) := by decide +kernel
theorem dc_C_leadOn_1 : decode prog_5_method_7_code 1 = .ok (.getfield 22, 3) := by decide +kernel
theorem dc_C_leadOn_4 : decode prog_5_method_7_code 4 = .ok (.iconst 0, 1) := by decide +kernel
theorem dc_C_leadOn_5 : decode prog_5_method_7_code 5 = .ok (.aaload, 1) := by decide +kernel
theorem dc_C_leadOn_6 : decode prog_5_method_7_code 6 = .ok (.iload_n 1, 1) := by decide +kernel
theorem dc_C_leadOn_7 : decode prog_5_method_7_code 7 = .ok (.iconst 3, 1) := by decide +kernel
theorem dc_C_leadOn_8 : decode prog_5_method_7_code 8 = .ok (.iastore, 1) := by decide +kernel
theorem dc_C_leadOn_9 : decode prog_5_method_7_code 9 = .ok (.aload_n 0, 1) := by decide +kernel
theorem dc_C_leadOn_10 : decode prog_5_method_7_code 10 = .ok (.getfield 22, 3) := by decide +kernel
theorem dc_C_leadOn_13 : decode prog_5_method_7_code 13 = .ok (.iconst 3, 1) := by decide +kernel
theorem dc_C_leadOn_14 : decode prog_5_method_7_code 14 = .ok (.aaload, 1) := by decide +kernel
theorem dc_C_leadOn_15 : decode prog_5_method_7_code 15 = .ok (.iload_n 1, 1) := by decide +kernel
theorem dc_C_leadOn_16 : decode prog_5_method_7_code 16 = .ok (.aload_n 0, 1) := by decide +kernel
theorem dc_C_leadOn_17 : decode prog_5_method_7_code 17 = .ok (.aload_n 2, 1) := by decide +kernel
theorem dc_C_leadOn_18 : decode prog_5_method_7_code 18 = .ok (.getfield 97, 3) := by decide +kernel
theorem dc_C_leadOn_21 : decode prog_5_method_7_code 21 = .ok (.iconst 0, 1) := by decide +kernel
theorem dc_C_leadOn_22 : decode prog_5_method_7_code 22 = .ok (.aload_n 2, 1) := by decide +kernel
theorem dc_C_leadOn_23 : decode prog_5_method_7_code 23 = .ok (.getfield 183, 3) := by decide +kernel
theorem dc_C_leadOn_26 : decode prog_5_method_7_code 26 = .ok (.aload_n 0, 1) := by decide +kernel
theorem dc_C_leadOn_27 : decode prog_5_method_7_code 27 = .ok (.getfield 22, 3) := by decide +kernel
theorem dc_C_leadOn_30 : decode prog_5_method_7_code 30 = .ok (.iconst 1, 1) := by decide +kernel
theorem dc_C_leadOn_31 : decode prog_5_method_7_code 31 = .ok (.aaload, 1) := by decide +kernel
theorem dc_C_leadOn_32 : decode prog_5_method_7_code 32 = .ok (.iload_n 1, 1) := by decide +kernel
theorem dc_C_leadOn_33 : decode prog_5_method_7_code 33 = .ok (.iaload, 1) := by decide +kernel
theorem dc_C_leadOn_34 : decode prog_5_method_7_code 34 = .ok (.aload_n 0, 1) := by decide +kernel
theorem dc_C_leadOn_35 : decode prog_5_method_7_code 35 = .ok (.getfield 22, 3) := by decide +kernel
theorem dc_C_leadOn_38 : decode prog_5_method_7_code 38 = .ok (.iconst 2, 1) := by decide +kernel
theorem dc_C_leadOn_39 : decode prog_5_method_7_code 39 = .ok (.aaload, 1) := by decide +kernel
theorem dc_C_leadOn_40 : decode prog_5_method_7_code 40 = .ok (.iload_n 1, 1) := by decide +kernel
theorem dc_C_leadOn_41 : decode prog_5_method_7_code 41 = .ok (.iaload, 1) := by decide +kernel
theorem dc_C_leadOn_42 : decode prog_5_method_7_code 42 = .ok (.iconst 1, 1) := by decide +kernel
theorem dc_C_leadOn_43 : decode prog_5_method_7_code 43 = .ok (.iadd, 1) := by decide +kernel
theorem dc_C_leadOn_44 : decode prog_5_method_7_code 44 = .ok (.invokevirtual 108, 3) := by decide +kernel
theorem dc_C_leadOn_47 : decode prog_5_method_7_code 47 = .ok (.iastore, 1) := by decide +kernel
theorem dc_C_leadOn_48 : decode prog_5_method_7_code 48 = .ok (.return_, 1) := by decide +kernel
theorem dc_W_run_0 : decode prog_1_method_15_code 0 = .ok (.aload_n 0, 1) := by decide +kernel
theorem dc_W_run_1 : decode prog_1_method_15_code 1 = .ok (.getfield 65, 3) := by decide +kernel
theorem dc_W_run_4 : decode prog_1_method_15_code 4 = .ok (.getfield 183, 3) := by decide +kernel
theorem fl_W_183 : am_fl "WebFinder" 183 7 0 := ⟨"WebFinder$Crawl", tt_C, 18, rfl, by decide, Or.inl (am_t1 229 rfl rfl)⟩
theorem dc_W_run_7 : decode prog_1_method_15_code 7 = .ok (.ifCond .eq 7, 3) := by decide +kernel
theorem dc_W_run_10 : decode prog_1_method_15_code 10 = .ok (.iload_n 1, 1) := by decide +kernel
theorem dc_W_run_11 : decode prog_1_method_15_code 11 = .ok (.ifCond .ge 5, 3) := by decide +kernel
theorem dc_W_run_14 : decode prog_1_method_15_code 14 = .ok (.iconst (-1), 1) := by decide +kernel
theorem dc_W_run_15 : decode prog_1_method_15_code 15 = .ok (.ireturn, 1) := by decide +kernel
theorem dc_W_run_16 : decode prog_1_method_15_code 16 = .ok (.iload_n 1, 1) := by decide +kernel
theorem dc_W_run_17 : decode prog_1_method_15_code 17 = .ok (.sipush 250, 3) := by decide +kernel
theorem dc_W_run_20 : decode prog_1_method_15_code 20 = .ok (.invokestatic 187, 3) := by decide +kernel
theorem dc_W_run_23 : decode prog_1_method_15_code 23 = .ok (.istore_n 2, 1) := by decide +kernel
theorem dc_W_run_24 : decode prog_1_method_15_code 24 = .ok (.iconst 0, 1) := by decide +kernel
theorem dc_W_run_25 : decode prog_1_method_15_code 25 = .ok (.istore_n 3, 1) := by decide +kernel
theorem dc_W_run_26 : decode prog_1_method_15_code 26 = .ok (.iload_n 3, 1) := by decide +kernel
theorem dc_W_run_27 : decode prog_1_method_15_code 27 = .ok (.iload_n 2, 1) := by decide +kernel
theorem dc_W_run_28 : decode prog_1_method_15_code 28 = .ok (.if_icmp .ge 20, 3) := by decide +kernel
theorem dc_W_run_31 : decode prog_1_method_15_code 31 = .ok (.aload_n 0, 1) := by decide +kernel
theorem dc_W_run_32 : decode prog_1_method_15_code 32 = .ok (.getfield 65, 3) := by decide +kernel
theorem dc_W_run_35 : decode prog_1_method_15_code 35 = .ok (.invokevirtual 180, 3) := by decide +kernel
theorem dc_W_run_38 : decode prog_1_method_15_code 38 = .ok (.iconst (-1), 1) := by decide +kernel
theorem dc_W_run_39 : decode prog_1_method_15_code 39 = .ok (.if_icmp .eq 9, 3) := by decide +kernel
theorem dc_W_run_42 : decode prog_1_method_15_code 42 = .ok (.iinc 3 1, 3) := by decide +kernel
theorem dc_W_run_45 : decode prog_1_method_15_code 45 = .ok (.goto (-19), 3) := by decide +kernel
theorem dc_W_run_48 : decode prog_1_method_15_code 48 = .ok (.iload_n 3, 1) := by decide +kernel
theorem dc_W_run_49 : decode prog_1_method_15_code 49 = .ok (.ireturn, 1) := by decide +kernel
theorem dc_W_crash_0 : decode prog_1_method_16_code 0 = .ok (.aload_n 0, 1) := by decide +kernel
theorem dc_W_crash_1 : decode prog_1_method_16_code 1 = .ok (.getfield 65, 3) := by decide +kernel
theorem dc_W_crash_4 : decode prog_1_method_16_code 4 = .ok (.getfield 183, 3) := by decide +kernel
theorem dc_W_crash_7 : decode prog_1_method_16_code 7 = .ok (.ifCond .eq 10, 3) := by decide +kernel
theorem dc_W_crash_10 : decode prog_1_method_16_code 10 = .ok (.aload_n 0, 1) := by decide +kernel
theorem dc_W_crash_11 : decode prog_1_method_16_code 11 = .ok (.getfield 65, 3) := by decide +kernel
theorem dc_W_crash_14 : decode prog_1_method_16_code 14 = .ok (.invokevirtual 193, 3) := by decide +kernel
theorem mo_C_loseMemory : am_mo mt_C_loseMemory 0 := ⟨⟨by decide +kernel, by decide +kernel⟩, by decide +kernel, ⟨by decide +kernel, by decide +kernel⟩, (am_t6 143 rfl rfl), (am_t1 8 rfl rfl), by decide +kernel⟩
theorem im_C_loseMemory : Cond.instanceMethod mt_C_loseMemory.1 ∈ am_gw := (am_t6 141 rfl rfl)
theorem se_C_loseMemory : Cond.selects mt_C_loseMemory.1.cls mt_C_loseMemory.1 mt_C_loseMemory.1 ∈ am_gw := (am_t6 142 rfl rfl)
theorem ln_W_193 : am_ln "WebFinder" 193 mt_C_loseMemory.1 := Or.inl (am_t6 140 rfl rfl)
theorem dc_W_crash_17 : decode prog_1_method_16_code 17 = .ok (.aload_n 0, 1) := by decide +kernel
theorem dc_W_crash_18 : decode prog_1_method_16_code 18 = .ok (.getfield 65, 3) := by decide +kernel
theorem dc_W_crash_21 : decode prog_1_method_16_code 21 = .ok (.getfield 183, 3) := by decide +kernel
theorem dc_W_crash_24 : decode prog_1_method_16_code 24 = .ok (.ireturn, 1) := by decide +kernel
theorem dc_C_loseMemory_0 : decode prog_5_method_15_code 0 = .ok (.aload_n 0, 1) := by decide +kernel
theorem dc_C_loseMemory_1 : decode prog_5_method_15_code 1 = .ok (.getfield 14, 3) := by decide +kernel
theorem dc_C_loseMemory_4 : decode prog_5_method_15_code 4 = .ok (.aload_n 0, 1) := by decide +kernel
theorem dc_C_loseMemory_5 : decode prog_5_method_15_code 5 = .ok (.getfield 215, 3) := by decide +kernel
theorem dc_C_loseMemory_8 : decode prog_5_method_15_code 8 = .ok (.invokevirtual 222, 3) := by decide +kernel
theorem ln_C_222 : am_ln "WebFinder$Crawl" 222 mt_R_cut.1 := Or.inl (am_t6 144 rfl rfl)
theorem dc_C_loseMemory_11 : decode prog_5_method_15_code 11 = .ok (.aload_n 0, 1) := by decide +kernel
theorem dc_C_loseMemory_12 : decode prog_5_method_15_code 12 = .ok (.aload_n 0, 1) := by decide +kernel
theorem dc_C_loseMemory_13 : decode prog_5_method_15_code 13 = .ok (.getfield 53, 3) := by decide +kernel
theorem dc_C_loseMemory_16 : decode prog_5_method_15_code 16 = .ok (.aload_n 0, 1) := by decide +kernel
theorem dc_C_loseMemory_17 : decode prog_5_method_15_code 17 = .ok (.getfield 22, 3) := by decide +kernel
theorem dc_C_loseMemory_20 : decode prog_5_method_15_code 20 = .ok (.invokevirtual 218, 3) := by decide +kernel
theorem dc_C_loseMemory_23 : decode prog_5_method_15_code 23 = .ok (.aload_n 0, 1) := by decide +kernel
theorem dc_C_loseMemory_24 : decode prog_5_method_15_code 24 = .ok (.iconst 0, 1) := by decide +kernel
theorem dc_C_loseMemory_25 : decode prog_5_method_15_code 25 = .ok (.putfield 177, 3) := by decide +kernel
theorem fp_C_loseMemory_177 : am_fp mt_C_loseMemory.1 177 7 16 (.int) := ⟨"WebFinder$Crawl", tt_C, 18, rfl, by decide, ct_C 16 (by decide), Or.inl ⟨(am_t2 14 rfl rfl), Or.inl rfl⟩⟩
theorem dc_C_loseMemory_28 : decode prog_5_method_15_code 28 = .ok (.aload_n 0, 1) := by decide +kernel
theorem dc_C_loseMemory_29 : decode prog_5_method_15_code 29 = .ok (.aload_n 0, 1) := by decide +kernel
theorem dc_C_loseMemory_30 : decode prog_5_method_15_code 30 = .ok (.getfield 78, 3) := by decide +kernel
theorem dc_C_loseMemory_33 : decode prog_5_method_15_code 33 = .ok (.putfield 82, 3) := by decide +kernel
theorem fp_C_loseMemory_82 : am_fp mt_C_loseMemory.1 82 7 17 (.int) := ⟨"WebFinder$Crawl", tt_C, 18, rfl, by decide, ct_C 17 (by decide), Or.inl ⟨(am_t2 15 rfl rfl), Or.inl rfl⟩⟩
theorem dc_C_loseMemory_36 : decode prog_5_method_15_code 36 = .ok (.return_, 1) := by decide +kernel
theorem dc_W_clock_0 : decode prog_1_method_17_code 0 = .ok (.aload_n 0, 1) := by decide +kernel
theorem dc_W_clock_1 : decode prog_1_method_17_code 1 = .ok (.getfield 65, 3) := by decide +kernel
theorem dc_W_clock_4 : decode prog_1_method_17_code 4 = .ok (.getfield 183, 3) := by decide +kernel
theorem dc_W_clock_7 : decode prog_1_method_17_code 7 = .ok (.ifCond .eq 13, 3) := by decide +kernel
theorem dc_W_clock_10 : decode prog_1_method_17_code 10 = .ok (.aload_n 0, 1) := by decide +kernel
theorem dc_W_clock_11 : decode prog_1_method_17_code 11 = .ok (.getfield 65, 3) := by decide +kernel
theorem dc_W_clock_14 : decode prog_1_method_17_code 14 = .ok (.getfield 196, 3) := by decide +kernel
theorem fl_W_196 : am_fl "WebFinder" 196 7 1 := ⟨"WebFinder$Crawl", tt_C, 18, rfl, by decide, Or.inl (am_t1 231 rfl rfl)⟩
theorem dc_W_clock_17 : decode prog_1_method_17_code 17 = .ok (.goto 4, 3) := by decide +kernel
theorem dc_W_clock_20 : decode prog_1_method_17_code 20 = .ok (.iconst (-1), 1) := by decide +kernel
theorem dc_W_clock_21 : decode prog_1_method_17_code 21 = .ok (.ireturn, 1) := by decide +kernel
theorem dc_W_count_0 : decode prog_1_method_18_code 0 = .ok (.iload_n 1, 1) := by decide +kernel
theorem dc_W_count_1 : decode prog_1_method_18_code 1 = .ok (.tableswitch 78 0 4 #[35, 43, 51, 62, 70], 35) := by decide +kernel
theorem dc_W_count_36 : decode prog_1_method_18_code 36 = .ok (.aload_n 0, 1) := by decide +kernel
theorem dc_W_count_37 : decode prog_1_method_18_code 37 = .ok (.getfield 43, 3) := by decide +kernel
theorem dc_W_count_40 : decode prog_1_method_18_code 40 = .ok (.getfield 199, 3) := by decide +kernel
theorem fl_W_199 : am_fl "WebFinder" 199 6 0 := ⟨"WebFinder$Web", tt_V, 4, rfl, by decide, Or.inl (am_t1 200 rfl rfl)⟩
theorem dc_W_count_43 : decode prog_1_method_18_code 43 = .ok (.ireturn, 1) := by decide +kernel
theorem dc_W_count_44 : decode prog_1_method_18_code 44 = .ok (.aload_n 0, 1) := by decide +kernel
theorem dc_W_count_45 : decode prog_1_method_18_code 45 = .ok (.getfield 56, 3) := by decide +kernel
theorem dc_W_count_48 : decode prog_1_method_18_code 48 = .ok (.getfield 167, 3) := by decide +kernel
theorem dc_W_count_51 : decode prog_1_method_18_code 51 = .ok (.ireturn, 1) := by decide +kernel
theorem dc_W_count_52 : decode prog_1_method_18_code 52 = .ok (.aload_n 0, 1) := by decide +kernel
theorem dc_W_count_53 : decode prog_1_method_18_code 53 = .ok (.getfield 65, 3) := by decide +kernel
theorem dc_W_count_56 : decode prog_1_method_18_code 56 = .ok (.getfield 178, 3) := by decide +kernel
theorem dc_W_count_59 : decode prog_1_method_18_code 59 = .ok (.getfield 167, 3) := by decide +kernel
theorem dc_W_count_62 : decode prog_1_method_18_code 62 = .ok (.ireturn, 1) := by decide +kernel
theorem dc_W_count_63 : decode prog_1_method_18_code 63 = .ok (.aload_n 0, 1) := by decide +kernel
theorem dc_W_count_64 : decode prog_1_method_18_code 64 = .ok (.getfield 65, 3) := by decide +kernel
theorem dc_W_count_67 : decode prog_1_method_18_code 67 = .ok (.invokevirtual 202, 3) := by decide +kernel
theorem mo_C_waiting : am_mo mt_C_waiting 0 := ⟨⟨by decide +kernel, by decide +kernel⟩, by decide +kernel, ⟨by decide +kernel, by decide +kernel⟩, (am_t6 156 rfl rfl), (am_t1 8 rfl rfl), by decide +kernel⟩
theorem im_C_waiting : Cond.instanceMethod mt_C_waiting.1 ∈ am_gw := (am_t6 154 rfl rfl)
theorem se_C_waiting : Cond.selects mt_C_waiting.1.cls mt_C_waiting.1 mt_C_waiting.1 ∈ am_gw := (am_t6 155 rfl rfl)
theorem ln_W_202 : am_ln "WebFinder" 202 mt_C_waiting.1 := Or.inl (am_t6 153 rfl rfl)
theorem dc_W_count_70 : decode prog_1_method_18_code 70 = .ok (.ireturn, 1) := by decide +kernel
theorem dc_W_count_71 : decode prog_1_method_18_code 71 = .ok (.aload_n 0, 1) := by decide +kernel
theorem dc_W_count_72 : decode prog_1_method_18_code 72 = .ok (.getfield 65, 3) := by decide +kernel
theorem dc_W_count_75 : decode prog_1_method_18_code 75 = .ok (.getfield 205, 3) := by decide +kernel
theorem fl_W_205 : am_fl "WebFinder" 205 7 2 := ⟨"WebFinder$Crawl", tt_C, 18, rfl, by decide, Or.inl (am_t1 233 rfl rfl)⟩
theorem dc_W_count_78 : decode prog_1_method_18_code 78 = .ok (.ireturn, 1) := by decide +kernel
theorem dc_W_count_79 : decode prog_1_method_18_code 79 = .ok (.iconst (-1), 1) := by decide +kernel
theorem dc_W_count_80 : decode prog_1_method_18_code 80 = .ok (.ireturn, 1) := by decide +kernel
theorem dc_C_waiting_0 : decode prog_5_method_3_code 0 = .ok (.iconst 0, 1) := by decide +kernel
theorem dc_C_waiting_1 : decode prog_5_method_3_code 1 = .ok (.istore_n 1, 1) := by decide +kernel
theorem dc_C_waiting_2 : decode prog_5_method_3_code 2 = .ok (.iconst 0, 1) := by decide +kernel
theorem dc_C_waiting_3 : decode prog_5_method_3_code 3 = .ok (.istore_n 2, 1) := by decide +kernel
theorem dc_C_waiting_4 : decode prog_5_method_3_code 4 = .ok (.iload_n 2, 1) := by decide +kernel
theorem dc_C_waiting_5 : decode prog_5_method_3_code 5 = .ok (.aload_n 0, 1) := by decide +kernel
theorem dc_C_waiting_6 : decode prog_5_method_3_code 6 = .ok (.getfield 14, 3) := by decide +kernel
theorem dc_C_waiting_9 : decode prog_5_method_3_code 9 = .ok (.getfield 91, 3) := by decide +kernel
theorem dc_C_waiting_12 : decode prog_5_method_3_code 12 = .ok (.if_icmp .ge 24, 3) := by decide +kernel
theorem dc_C_waiting_15 : decode prog_5_method_3_code 15 = .ok (.aload_n 0, 1) := by decide +kernel
theorem dc_C_waiting_16 : decode prog_5_method_3_code 16 = .ok (.getfield 22, 3) := by decide +kernel
theorem dc_C_waiting_19 : decode prog_5_method_3_code 19 = .ok (.iconst 0, 1) := by decide +kernel
theorem dc_C_waiting_20 : decode prog_5_method_3_code 20 = .ok (.aaload, 1) := by decide +kernel
theorem dc_C_waiting_21 : decode prog_5_method_3_code 21 = .ok (.iload_n 2, 1) := by decide +kernel
theorem dc_C_waiting_22 : decode prog_5_method_3_code 22 = .ok (.iaload, 1) := by decide +kernel
theorem dc_C_waiting_23 : decode prog_5_method_3_code 23 = .ok (.iconst 1, 1) := by decide +kernel
theorem dc_C_waiting_24 : decode prog_5_method_3_code 24 = .ok (.if_icmp .ne 6, 3) := by decide +kernel
theorem dc_C_waiting_27 : decode prog_5_method_3_code 27 = .ok (.iinc 1 1, 3) := by decide +kernel
theorem dc_C_waiting_30 : decode prog_5_method_3_code 30 = .ok (.iinc 2 1, 3) := by decide +kernel
theorem dc_C_waiting_33 : decode prog_5_method_3_code 33 = .ok (.goto (-29), 3) := by decide +kernel
theorem dc_C_waiting_36 : decode prog_5_method_3_code 36 = .ok (.iload_n 1, 1) := by decide +kernel
theorem dc_C_waiting_37 : decode prog_5_method_3_code 37 = .ok (.ireturn, 1) := by decide +kernel
theorem dc_W_known_0 : decode prog_1_method_19_code 0 = .ok (.iload_n 1, 1) := by decide +kernel
theorem dc_W_known_1 : decode prog_1_method_19_code 1 = .ok (.ifCond .lt 26, 3) := by decide +kernel
theorem dc_W_known_4 : decode prog_1_method_19_code 4 = .ok (.iload_n 1, 1) := by decide +kernel
theorem dc_W_known_5 : decode prog_1_method_19_code 5 = .ok (.aload_n 0, 1) := by decide +kernel
theorem dc_W_known_6 : decode prog_1_method_19_code 6 = .ok (.getfield 65, 3) := by decide +kernel
theorem dc_W_known_9 : decode prog_1_method_19_code 9 = .ok (.getfield 178, 3) := by decide +kernel
theorem dc_W_known_12 : decode prog_1_method_19_code 12 = .ok (.getfield 167, 3) := by decide +kernel
theorem dc_W_known_15 : decode prog_1_method_19_code 15 = .ok (.if_icmp .ge 12, 3) := by decide +kernel
theorem dc_W_known_18 : decode prog_1_method_19_code 18 = .ok (.iload_n 2, 1) := by decide +kernel
theorem dc_W_known_19 : decode prog_1_method_19_code 19 = .ok (.ifCond .lt 8, 3) := by decide +kernel
theorem dc_W_known_22 : decode prog_1_method_19_code 22 = .ok (.iload_n 2, 1) := by decide +kernel
theorem dc_W_known_23 : decode prog_1_method_19_code 23 = .ok (.iconst 4, 1) := by decide +kernel
theorem dc_W_known_24 : decode prog_1_method_19_code 24 = .ok (.if_icmp .lt 5, 3) := by decide +kernel
theorem dc_W_known_27 : decode prog_1_method_19_code 27 = .ok (.iconst (-1), 1) := by decide +kernel
theorem dc_W_known_28 : decode prog_1_method_19_code 28 = .ok (.ireturn, 1) := by decide +kernel
theorem dc_W_known_29 : decode prog_1_method_19_code 29 = .ok (.aload_n 0, 1) := by decide +kernel
theorem dc_W_known_30 : decode prog_1_method_19_code 30 = .ok (.getfield 65, 3) := by decide +kernel
theorem dc_W_known_33 : decode prog_1_method_19_code 33 = .ok (.getfield 208, 3) := by decide +kernel
theorem fl_W_208 : am_fl "WebFinder" 208 7 4 := ⟨"WebFinder$Crawl", tt_C, 18, rfl, by decide, Or.inl (am_t1 239 rfl rfl)⟩
theorem dc_W_known_36 : decode prog_1_method_19_code 36 = .ok (.iload_n 2, 1) := by decide +kernel
theorem dc_W_known_37 : decode prog_1_method_19_code 37 = .ok (.aaload, 1) := by decide +kernel
theorem dc_W_known_38 : decode prog_1_method_19_code 38 = .ok (.iload_n 1, 1) := by decide +kernel
theorem dc_W_known_39 : decode prog_1_method_19_code 39 = .ok (.iaload, 1) := by decide +kernel
theorem dc_W_known_40 : decode prog_1_method_19_code 40 = .ok (.ireturn, 1) := by decide +kernel
theorem dc_W_asking_0 : decode prog_1_method_20_code 0 = .ok (.iload_n 1, 1) := by decide +kernel
theorem dc_W_asking_1 : decode prog_1_method_20_code 1 = .ok (.ifCond .lt 17, 3) := by decide +kernel
theorem dc_W_asking_4 : decode prog_1_method_20_code 4 = .ok (.iload_n 1, 1) := by decide +kernel
theorem dc_W_asking_5 : decode prog_1_method_20_code 5 = .ok (.aload_n 0, 1) := by decide +kernel
theorem dc_W_asking_6 : decode prog_1_method_20_code 6 = .ok (.getfield 65, 3) := by decide +kernel
theorem dc_W_asking_9 : decode prog_1_method_20_code 9 = .ok (.getfield 212, 3) := by decide +kernel
theorem fl_W_212 : am_fl "WebFinder" 212 7 6 := ⟨"WebFinder$Crawl", tt_C, 18, rfl, by decide, Or.inl (am_t2 3 rfl rfl)⟩
theorem dc_W_asking_12 : decode prog_1_method_20_code 12 = .ok (.getfield 167, 3) := by decide +kernel
theorem dc_W_asking_15 : decode prog_1_method_20_code 15 = .ok (.if_icmp .lt 5, 3) := by decide +kernel
theorem dc_W_asking_18 : decode prog_1_method_20_code 18 = .ok (.iconst (-1), 1) := by decide +kernel
theorem dc_W_asking_19 : decode prog_1_method_20_code 19 = .ok (.ireturn, 1) := by decide +kernel
theorem dc_W_asking_20 : decode prog_1_method_20_code 20 = .ok (.iload_n 2, 1) := by decide +kernel
theorem dc_W_asking_21 : decode prog_1_method_20_code 21 = .ok (.ifCond .ne 13, 3) := by decide +kernel
theorem dc_W_asking_24 : decode prog_1_method_20_code 24 = .ok (.aload_n 0, 1) := by decide +kernel
theorem dc_W_asking_25 : decode prog_1_method_20_code 25 = .ok (.getfield 65, 3) := by decide +kernel
theorem dc_W_asking_28 : decode prog_1_method_20_code 28 = .ok (.getfield 215, 3) := by decide +kernel
theorem fl_W_215 : am_fl "WebFinder" 215 7 7 := ⟨"WebFinder$Crawl", tt_C, 18, rfl, by decide, Or.inl (am_t2 5 rfl rfl)⟩
theorem dc_W_asking_31 : decode prog_1_method_20_code 31 = .ok (.iload_n 1, 1) := by decide +kernel
theorem dc_W_asking_32 : decode prog_1_method_20_code 32 = .ok (.iaload, 1) := by decide +kernel
theorem dc_W_asking_33 : decode prog_1_method_20_code 33 = .ok (.ireturn, 1) := by decide +kernel
theorem dc_W_asking_34 : decode prog_1_method_20_code 34 = .ok (.iload_n 2, 1) := by decide +kernel
theorem dc_W_asking_35 : decode prog_1_method_20_code 35 = .ok (.iconst 1, 1) := by decide +kernel
theorem dc_W_asking_36 : decode prog_1_method_20_code 36 = .ok (.if_icmp .ne 18, 3) := by decide +kernel
theorem dc_W_asking_39 : decode prog_1_method_20_code 39 = .ok (.aload_n 0, 1) := by decide +kernel
theorem dc_W_asking_40 : decode prog_1_method_20_code 40 = .ok (.aload_n 0, 1) := by decide +kernel
theorem dc_W_asking_41 : decode prog_1_method_20_code 41 = .ok (.getfield 65, 3) := by decide +kernel
theorem dc_W_asking_44 : decode prog_1_method_20_code 44 = .ok (.getfield 212, 3) := by decide +kernel
theorem dc_W_asking_47 : decode prog_1_method_20_code 47 = .ok (.iload_n 1, 1) := by decide +kernel
theorem dc_W_asking_48 : decode prog_1_method_20_code 48 = .ok (.invokevirtual 218, 3) := by decide +kernel
theorem mo_W_produceRow : am_mo mt_W_produceRow 2 := ⟨⟨by decide +kernel, by decide +kernel⟩, by decide +kernel, ⟨by decide +kernel, by decide +kernel⟩, (am_t6 168 rfl rfl), (am_t1 1 rfl rfl), by decide +kernel⟩
theorem im_W_produceRow : Cond.instanceMethod mt_W_produceRow.1 ∈ am_gw := (am_t6 167 rfl rfl)
theorem se_W_produceRow : Cond.selects mt_W_produceRow.1.cls mt_W_produceRow.1 mt_W_produceRow.1 ∈ am_gw := am_in (List.mem_append_left _ (by decide +kernel)) rfl
theorem ln_W_218 : am_ln "WebFinder" 218 mt_W_produceRow.1 := Or.inl (am_t6 165 rfl rfl)
theorem dc_W_asking_51 : decode prog_1_method_20_code 51 = .ok (.goto 4, 3) := by decide +kernel
theorem dc_W_asking_54 : decode prog_1_method_20_code 54 = .ok (.iconst (-1), 1) := by decide +kernel
theorem dc_W_asking_55 : decode prog_1_method_20_code 55 = .ok (.ireturn, 1) := by decide +kernel
theorem dc_W_produceRow_0 : decode prog_1_method_34_code 0 = .ok (.iload_n 2, 1) := by decide +kernel
theorem dc_W_produceRow_1 : decode prog_1_method_34_code 1 = .ok (.ifCond .lt 11, 3) := by decide +kernel
theorem dc_W_produceRow_4 : decode prog_1_method_34_code 4 = .ok (.iload_n 2, 1) := by decide +kernel
theorem dc_W_produceRow_5 : decode prog_1_method_34_code 5 = .ok (.aload_n 1, 1) := by decide +kernel
theorem dc_W_produceRow_6 : decode prog_1_method_34_code 6 = .ok (.getfield 167, 3) := by decide +kernel
theorem dc_W_produceRow_9 : decode prog_1_method_34_code 9 = .ok (.if_icmp .lt 5, 3) := by decide +kernel
theorem dc_W_produceRow_12 : decode prog_1_method_34_code 12 = .ok (.iconst (-1), 1) := by decide +kernel
theorem dc_W_produceRow_13 : decode prog_1_method_34_code 13 = .ok (.ireturn, 1) := by decide +kernel
theorem dc_W_produceRow_14 : decode prog_1_method_34_code 14 = .ok (.aload_n 0, 1) := by decide +kernel
theorem dc_W_produceRow_15 : decode prog_1_method_34_code 15 = .ok (.getfield 18, 3) := by decide +kernel
theorem dc_W_produceRow_18 : decode prog_1_method_34_code 18 = .ok (.invokevirtual 121, 3) := by decide +kernel
theorem dc_W_produceRow_21 : decode prog_1_method_34_code 21 = .ok (.aload_n 0, 1) := by decide +kernel
theorem dc_W_produceRow_22 : decode prog_1_method_34_code 22 = .ok (.getfield 18, 3) := by decide +kernel
theorem dc_W_produceRow_25 : decode prog_1_method_34_code 25 = .ok (.aload_n 1, 1) := by decide +kernel
theorem dc_W_produceRow_26 : decode prog_1_method_34_code 26 = .ok (.getfield 289, 3) := by decide +kernel
theorem dc_W_produceRow_29 : decode prog_1_method_34_code 29 = .ok (.getfield 109, 3) := by decide +kernel
theorem dc_W_produceRow_32 : decode prog_1_method_34_code 32 = .ok (.aload_n 1, 1) := by decide +kernel
theorem dc_W_produceRow_33 : decode prog_1_method_34_code 33 = .ok (.iload_n 2, 1) := by decide +kernel
theorem dc_W_produceRow_34 : decode prog_1_method_34_code 34 = .ok (.invokevirtual 292, 3) := by decide +kernel
theorem dc_W_produceRow_37 : decode prog_1_method_34_code 37 = .ok (.aload_n 1, 1) := by decide +kernel
theorem dc_W_produceRow_38 : decode prog_1_method_34_code 38 = .ok (.iload_n 2, 1) := by decide +kernel
theorem dc_W_produceRow_39 : decode prog_1_method_34_code 39 = .ok (.invokevirtual 296, 3) := by decide +kernel
theorem dc_W_produceRow_42 : decode prog_1_method_34_code 42 = .ok (.invokevirtual 265, 3) := by decide +kernel
theorem dc_W_produceRow_45 : decode prog_1_method_34_code 45 = .ok (.aload_n 0, 1) := by decide +kernel
theorem dc_W_produceRow_46 : decode prog_1_method_34_code 46 = .ok (.getfield 18, 3) := by decide +kernel
theorem dc_W_produceRow_49 : decode prog_1_method_34_code 49 = .ok (.getfield 85, 3) := by decide +kernel
theorem dc_W_produceRow_52 : decode prog_1_method_34_code 52 = .ok (.ireturn, 1) := by decide +kernel
theorem dc_W_address_0 : decode prog_1_method_21_code 0 = .ok (.aload_n 0, 1) := by decide +kernel
theorem dc_W_address_1 : decode prog_1_method_21_code 1 = .ok (.aload_n 0, 1) := by decide +kernel
theorem dc_W_address_2 : decode prog_1_method_21_code 2 = .ok (.getfield 65, 3) := by decide +kernel
theorem dc_W_address_5 : decode prog_1_method_21_code 5 = .ok (.getfield 178, 3) := by decide +kernel
theorem dc_W_address_8 : decode prog_1_method_21_code 8 = .ok (.iload_n 1, 1) := by decide +kernel
theorem dc_W_address_9 : decode prog_1_method_21_code 9 = .ok (.invokevirtual 218, 3) := by decide +kernel
theorem dc_W_address_12 : decode prog_1_method_21_code 12 = .ok (.ireturn, 1) := by decide +kernel
theorem dc_W_find_0 : decode prog_1_method_22_code 0 = .ok (.aload_n 0, 1) := by decide +kernel
theorem dc_W_find_1 : decode prog_1_method_22_code 1 = .ok (.getfield 65, 3) := by decide +kernel
theorem dc_W_find_4 : decode prog_1_method_22_code 4 = .ok (.getfield 183, 3) := by decide +kernel
theorem dc_W_find_7 : decode prog_1_method_22_code 7 = .ok (.ifCond .eq 23, 3) := by decide +kernel
theorem dc_W_find_10 : decode prog_1_method_22_code 10 = .ok (.aload_n 0, 1) := by decide +kernel
theorem dc_W_find_11 : decode prog_1_method_22_code 11 = .ok (.getfield 65, 3) := by decide +kernel
theorem dc_W_find_14 : decode prog_1_method_22_code 14 = .ok (.invokevirtual 202, 3) := by decide +kernel
theorem dc_W_find_17 : decode prog_1_method_22_code 17 = .ok (.ifCond .gt 13, 3) := by decide +kernel
theorem dc_W_find_20 : decode prog_1_method_22_code 20 = .ok (.iload_n 1, 1) := by decide +kernel
theorem dc_W_find_21 : decode prog_1_method_22_code 21 = .ok (.ifCond .lt 9, 3) := by decide +kernel
theorem dc_W_find_24 : decode prog_1_method_22_code 24 = .ok (.iload_n 1, 1) := by decide +kernel
theorem dc_W_find_25 : decode prog_1_method_22_code 25 = .ok (.bipush 50, 2) := by decide +kernel
theorem dc_W_find_27 : decode prog_1_method_22_code 27 = .ok (.if_icmp .le 5, 3) := by decide +kernel
theorem dc_W_find_30 : decode prog_1_method_22_code 30 = .ok (.iconst (-1), 1) := by decide +kernel
theorem dc_W_find_31 : decode prog_1_method_22_code 31 = .ok (.ireturn, 1) := by decide +kernel
theorem dc_W_find_32 : decode prog_1_method_22_code 32 = .ok (.aload_n 0, 1) := by decide +kernel
theorem dc_W_find_33 : decode prog_1_method_22_code 33 = .ok (.getfield 74, 3) := by decide +kernel
theorem fl_W_74 : am_fl "WebFinder" 74 0 9 := ⟨"WebFinder", tt_W, 11, rfl, by decide, Or.inl (am_t2 156 rfl rfl)⟩
theorem dc_W_find_36 : decode prog_1_method_22_code 36 = .ok (.aload_n 0, 1) := by decide +kernel
theorem dc_W_find_37 : decode prog_1_method_22_code 37 = .ok (.getfield 65, 3) := by decide +kernel
theorem dc_W_find_40 : decode prog_1_method_22_code 40 = .ok (.invokevirtual 222, 3) := by decide +kernel
theorem mo_D_foldCopies : am_mo mt_D_foldCopies 1 := ⟨⟨by decide +kernel, by decide +kernel⟩, by decide +kernel, ⟨by decide +kernel, by decide +kernel⟩, (am_t6 180 rfl rfl), (am_t1 9 rfl rfl), by decide +kernel⟩
theorem im_D_foldCopies : Cond.instanceMethod mt_D_foldCopies.1 ∈ am_gw := (am_t6 178 rfl rfl)
theorem se_D_foldCopies : Cond.selects mt_D_foldCopies.1.cls mt_D_foldCopies.1 mt_D_foldCopies.1 ∈ am_gw := (am_t6 179 rfl rfl)
theorem ln_W_222 : am_ln "WebFinder" 222 mt_D_foldCopies.1 := Or.inl (am_t6 177 rfl rfl)
theorem dc_W_find_43 : decode prog_1_method_22_code 43 = .ok (.iconst 0, 1) := by decide +kernel
theorem dc_W_find_44 : decode prog_1_method_22_code 44 = .ok (.istore_n 2, 1) := by decide +kernel
theorem dc_W_find_45 : decode prog_1_method_22_code 45 = .ok (.iload_n 2, 1) := by decide +kernel
theorem dc_W_find_46 : decode prog_1_method_22_code 46 = .ok (.aload_n 0, 1) := by decide +kernel
theorem dc_W_find_47 : decode prog_1_method_22_code 47 = .ok (.getfield 74, 3) := by decide +kernel
theorem dc_W_find_50 : decode prog_1_method_22_code 50 = .ok (.getfield 226, 3) := by decide +kernel
theorem fl_W_226 : am_fl "WebFinder" 226 8 0 := ⟨"WebFinder$Documents", tt_D, 15, rfl, by decide, Or.inl (am_t2 66 rfl rfl)⟩
theorem dc_W_find_53 : decode prog_1_method_22_code 53 = .ok (.if_icmp .ge 21, 3) := by decide +kernel
theorem dc_W_find_56 : decode prog_1_method_22_code 56 = .ok (.aload_n 0, 1) := by decide +kernel
theorem dc_W_find_57 : decode prog_1_method_22_code 57 = .ok (.getfield 74, 3) := by decide +kernel
theorem dc_W_find_60 : decode prog_1_method_22_code 60 = .ok (.aload_n 0, 1) := by decide +kernel
theorem dc_W_find_61 : decode prog_1_method_22_code 61 = .ok (.getfield 65, 3) := by decide +kernel
theorem dc_W_find_64 : decode prog_1_method_22_code 64 = .ok (.iload_n 2, 1) := by decide +kernel
theorem dc_W_find_65 : decode prog_1_method_22_code 65 = .ok (.invokevirtual 227, 3) := by decide +kernel
theorem mo_D_followLinks : am_mo mt_D_followLinks 2 := ⟨⟨by decide +kernel, by decide +kernel⟩, by decide +kernel, ⟨by decide +kernel, by decide +kernel⟩, (am_t6 201 rfl rfl), (am_t1 9 rfl rfl), by decide +kernel⟩
theorem im_D_followLinks : Cond.instanceMethod mt_D_followLinks.1 ∈ am_gw := (am_t6 199 rfl rfl)
theorem se_D_followLinks : Cond.selects mt_D_followLinks.1.cls mt_D_followLinks.1 mt_D_followLinks.1 ∈ am_gw := (am_t6 200 rfl rfl)
theorem ln_W_227 : am_ln "WebFinder" 227 mt_D_followLinks.1 := Or.inl (am_t6 198 rfl rfl)
theorem dc_W_find_68 : decode prog_1_method_22_code 68 = .ok (.iinc 2 1, 3) := by decide +kernel
theorem dc_W_find_71 : decode prog_1_method_22_code 71 = .ok (.goto (-26), 3) := by decide +kernel
theorem dc_W_find_74 : decode prog_1_method_22_code 74 = .ok (.aload_n 0, 1) := by decide +kernel
theorem dc_W_find_75 : decode prog_1_method_22_code 75 = .ok (.getfield 74, 3) := by decide +kernel
theorem dc_W_find_78 : decode prog_1_method_22_code 78 = .ok (.iload_n 1, 1) := by decide +kernel
theorem dc_W_find_79 : decode prog_1_method_22_code 79 = .ok (.invokevirtual 231, 3) := by decide +kernel
theorem mo_D_rank : am_mo mt_D_rank 1 := ⟨⟨by decide +kernel, by decide +kernel⟩, by decide +kernel, ⟨by decide +kernel, by decide +kernel⟩, (am_t6 219 rfl rfl), (am_t1 9 rfl rfl), by decide +kernel⟩
theorem im_D_rank : Cond.instanceMethod mt_D_rank.1 ∈ am_gw := (am_t6 217 rfl rfl)
theorem se_D_rank : Cond.selects mt_D_rank.1.cls mt_D_rank.1 mt_D_rank.1 ∈ am_gw := (am_t6 218 rfl rfl)
theorem ln_W_231 : am_ln "WebFinder" 231 mt_D_rank.1 := Or.inl (am_t6 216 rfl rfl)
theorem dc_W_find_82 : decode prog_1_method_22_code 82 = .ok (.aload_n 0, 1) := by decide +kernel
theorem dc_W_find_83 : decode prog_1_method_22_code 83 = .ok (.getfield 74, 3) := by decide +kernel
theorem dc_W_find_86 : decode prog_1_method_22_code 86 = .ok (.invokevirtual 234, 3) := by decide +kernel
theorem mo_D_indexWords : am_mo mt_D_indexWords 0 := ⟨⟨by decide +kernel, by decide +kernel⟩, by decide +kernel, ⟨by decide +kernel, by decide +kernel⟩, (am_t6 230 rfl rfl), (am_t1 9 rfl rfl), by decide +kernel⟩
theorem im_D_indexWords : Cond.instanceMethod mt_D_indexWords.1 ∈ am_gw := (am_t6 228 rfl rfl)
theorem se_D_indexWords : Cond.selects mt_D_indexWords.1.cls mt_D_indexWords.1 mt_D_indexWords.1 ∈ am_gw := (am_t6 229 rfl rfl)
theorem ln_W_234 : am_ln "WebFinder" 234 mt_D_indexWords.1 := Or.inl (am_t6 227 rfl rfl)
theorem dc_W_find_89 : decode prog_1_method_22_code 89 = .ok (.aload_n 0, 1) := by decide +kernel
theorem dc_W_find_90 : decode prog_1_method_22_code 90 = .ok (.getfield 81, 3) := by decide +kernel
theorem fl_W_81 : am_fl "WebFinder" 81 0 10 := ⟨"WebFinder", tt_W, 11, rfl, by decide, Or.inl (am_t2 157 rfl rfl)⟩
theorem dc_W_find_93 : decode prog_1_method_22_code 93 = .ok (.invokevirtual 237, 3) := by decide +kernel
theorem mo_N_clear : am_mo mt_N_clear 0 := ⟨⟨by decide +kernel, by decide +kernel⟩, by decide +kernel, ⟨by decide +kernel, by decide +kernel⟩, (am_t6 236 rfl rfl), (am_t1 10 rfl rfl), by decide +kernel⟩
theorem im_N_clear : Cond.instanceMethod mt_N_clear.1 ∈ am_gw := (am_t6 234 rfl rfl)
theorem se_N_clear : Cond.selects mt_N_clear.1.cls mt_N_clear.1 mt_N_clear.1 ∈ am_gw := (am_t6 235 rfl rfl)
theorem ln_W_237 : am_ln "WebFinder" 237 mt_N_clear.1 := Or.inl (am_t6 233 rfl rfl)
theorem dc_W_find_96 : decode prog_1_method_22_code 96 = .ok (.aload_n 0, 1) := by decide +kernel
theorem dc_W_find_97 : decode prog_1_method_22_code 97 = .ok (.getfield 74, 3) := by decide +kernel
theorem dc_W_find_100 : decode prog_1_method_22_code 100 = .ok (.getfield 226, 3) := by decide +kernel
theorem dc_W_find_103 : decode prog_1_method_22_code 103 = .ok (.ireturn, 1) := by decide +kernel
theorem dc_D_foldCopies_0 : decode prog_6_method_3_code 0 = .ok (.aload_n 0, 1) := by decide +kernel
theorem dc_D_foldCopies_1 : decode prog_6_method_3_code 1 = .ok (.aload_n 1, 1) := by decide +kernel
theorem dc_D_foldCopies_2 : decode prog_6_method_3_code 2 = .ok (.invokevirtual 87, 3) := by decide +kernel
theorem mo_D_orderGot : am_mo mt_D_orderGot 1 := ⟨⟨by decide +kernel, by decide +kernel⟩, by decide +kernel, ⟨by decide +kernel, by decide +kernel⟩, (am_t6 184 rfl rfl), (am_t1 9 rfl rfl), by decide +kernel⟩
theorem im_D_orderGot : Cond.instanceMethod mt_D_orderGot.1 ∈ am_gw := (am_t6 183 rfl rfl)
theorem se_D_orderGot : Cond.selects mt_D_orderGot.1.cls mt_D_orderGot.1 mt_D_orderGot.1 ∈ am_gw := am_in (List.mem_append_left _ (by decide +kernel)) rfl
theorem ln_D_87 : am_ln "WebFinder$Documents" 87 mt_D_orderGot.1 := Or.inl (am_t6 181 rfl rfl)
theorem dc_D_foldCopies_5 : decode prog_6_method_3_code 5 = .ok (.istore_n 2, 1) := by decide +kernel
theorem dc_D_foldCopies_6 : decode prog_6_method_3_code 6 = .ok (.aload_n 0, 1) := by decide +kernel
theorem dc_D_foldCopies_7 : decode prog_6_method_3_code 7 = .ok (.iconst 0, 1) := by decide +kernel
theorem dc_D_foldCopies_8 : decode prog_6_method_3_code 8 = .ok (.putfield 91, 3) := by decide +kernel
theorem fp_D_foldCopies_91 : am_fp mt_D_foldCopies.1 91 8 0 (.int) := ⟨"WebFinder$Documents", tt_D, 15, rfl, by decide, ct_D 0 (by decide), Or.inl ⟨(am_t2 64 rfl rfl), Or.inl rfl⟩⟩
theorem dc_D_foldCopies_11 : decode prog_6_method_3_code 11 = .ok (.iconst 0, 1) := by decide +kernel
theorem dc_D_foldCopies_12 : decode prog_6_method_3_code 12 = .ok (.istore_n 3, 1) := by decide +kernel
theorem dc_D_foldCopies_13 : decode prog_6_method_3_code 13 = .ok (.iload_n 3, 1) := by decide +kernel
theorem dc_D_foldCopies_14 : decode prog_6_method_3_code 14 = .ok (.iload_n 2, 1) := by decide +kernel
theorem dc_D_foldCopies_15 : decode prog_6_method_3_code 15 = .ok (.if_icmp .ge 114, 3) := by decide +kernel
theorem dc_D_foldCopies_18 : decode prog_6_method_3_code 18 = .ok (.aload_n 0, 1) := by decide +kernel
theorem dc_D_foldCopies_19 : decode prog_6_method_3_code 19 = .ok (.getfield 63, 3) := by decide +kernel
theorem fl_D_63 : am_fl "WebFinder$Documents" 63 8 14 := ⟨"WebFinder$Documents", tt_D, 15, rfl, by decide, Or.inl (am_t2 90 rfl rfl)⟩
theorem dc_D_foldCopies_22 : decode prog_6_method_3_code 22 = .ok (.iload_n 3, 1) := by decide +kernel
theorem dc_D_foldCopies_23 : decode prog_6_method_3_code 23 = .ok (.iaload, 1) := by decide +kernel
theorem dc_D_foldCopies_24 : decode prog_6_method_3_code 24 = .ok (.istore 4, 2) := by decide +kernel
theorem dc_D_foldCopies_26 : decode prog_6_method_3_code 26 = .ok (.aload_n 0, 1) := by decide +kernel
theorem dc_D_foldCopies_27 : decode prog_6_method_3_code 27 = .ok (.aload_n 1, 1) := by decide +kernel
theorem dc_D_foldCopies_28 : decode prog_6_method_3_code 28 = .ok (.getfield 92, 3) := by decide +kernel
theorem fl_D_92 : am_fl "WebFinder$Documents" 92 7 5 := ⟨"WebFinder$Crawl", tt_C, 18, rfl, by decide, Or.inl (am_t2 1 rfl rfl)⟩
theorem dc_D_foldCopies_31 : decode prog_6_method_3_code 31 = .ok (.iload 4, 2) := by decide +kernel
theorem dc_D_foldCopies_33 : decode prog_6_method_3_code 33 = .ok (.aaload, 1) := by decide +kernel
theorem dc_D_foldCopies_34 : decode prog_6_method_3_code 34 = .ok (.invokevirtual 93, 3) := by decide +kernel
theorem mo_D_documentWithText : am_mo mt_D_documentWithText 1 := ⟨⟨by decide +kernel, by decide +kernel⟩, by decide +kernel, ⟨by decide +kernel, by decide +kernel⟩, (am_t6 193 rfl rfl), (am_t1 9 rfl rfl), by decide +kernel⟩
theorem im_D_documentWithText : Cond.instanceMethod mt_D_documentWithText.1 ∈ am_gw := (am_t6 192 rfl rfl)
theorem se_D_documentWithText : Cond.selects mt_D_documentWithText.1.cls mt_D_documentWithText.1 mt_D_documentWithText.1 ∈ am_gw := am_in (List.mem_append_left _ (by decide +kernel)) rfl
theorem ln_D_93 : am_ln "WebFinder$Documents" 93 mt_D_documentWithText.1 := Or.inl (am_t6 190 rfl rfl)
theorem dc_D_foldCopies_37 : decode prog_6_method_3_code 37 = .ok (.istore 5, 2) := by decide +kernel
theorem dc_D_foldCopies_39 : decode prog_6_method_3_code 39 = .ok (.iload 5, 2) := by decide +kernel
theorem dc_D_foldCopies_41 : decode prog_6_method_3_code 41 = .ok (.iconst (-1), 1) := by decide +kernel
theorem dc_D_foldCopies_42 : decode prog_6_method_3_code 42 = .ok (.if_icmp .ne 61, 3) := by decide +kernel
theorem dc_D_foldCopies_45 : decode prog_6_method_3_code 45 = .ok (.aload_n 0, 1) := by decide +kernel
theorem dc_D_foldCopies_46 : decode prog_6_method_3_code 46 = .ok (.getfield 91, 3) := by decide +kernel
theorem fl_D_91 : am_fl "WebFinder$Documents" 91 8 0 := ⟨"WebFinder$Documents", tt_D, 15, rfl, by decide, Or.inl (am_t2 64 rfl rfl)⟩
theorem dc_D_foldCopies_49 : decode prog_6_method_3_code 49 = .ok (.istore 5, 2) := by decide +kernel
theorem dc_D_foldCopies_51 : decode prog_6_method_3_code 51 = .ok (.aload_n 0, 1) := by decide +kernel
theorem dc_D_foldCopies_52 : decode prog_6_method_3_code 52 = .ok (.getfield 11, 3) := by decide +kernel
theorem fl_D_11 : am_fl "WebFinder$Documents" 11 8 1 := ⟨"WebFinder$Documents", tt_D, 15, rfl, by decide, Or.inl (am_t2 67 rfl rfl)⟩
theorem dc_D_foldCopies_55 : decode prog_6_method_3_code 55 = .ok (.iload 5, 2) := by decide +kernel
theorem dc_D_foldCopies_57 : decode prog_6_method_3_code 57 = .ok (.aload_n 1, 1) := by decide +kernel
theorem dc_D_foldCopies_58 : decode prog_6_method_3_code 58 = .ok (.getfield 92, 3) := by decide +kernel
theorem dc_D_foldCopies_61 : decode prog_6_method_3_code 61 = .ok (.iload 4, 2) := by decide +kernel
theorem dc_D_foldCopies_63 : decode prog_6_method_3_code 63 = .ok (.aaload, 1) := by decide +kernel
theorem dc_D_foldCopies_64 : decode prog_6_method_3_code 64 = .ok (.aastore, 1) := by decide +kernel
theorem dc_D_foldCopies_65 : decode prog_6_method_3_code 65 = .ok (.aload_n 0, 1) := by decide +kernel
theorem dc_D_foldCopies_66 : decode prog_6_method_3_code 66 = .ok (.getfield 17, 3) := by decide +kernel
theorem fl_D_17 : am_fl "WebFinder$Documents" 17 8 2 := ⟨"WebFinder$Documents", tt_D, 15, rfl, by decide, Or.inl (am_t2 69 rfl rfl)⟩
theorem dc_D_foldCopies_69 : decode prog_6_method_3_code 69 = .ok (.iload 5, 2) := by decide +kernel
theorem dc_D_foldCopies_71 : decode prog_6_method_3_code 71 = .ok (.iload 4, 2) := by decide +kernel
theorem dc_D_foldCopies_73 : decode prog_6_method_3_code 73 = .ok (.iastore, 1) := by decide +kernel
theorem dc_D_foldCopies_74 : decode prog_6_method_3_code 74 = .ok (.aload_n 0, 1) := by decide +kernel
theorem dc_D_foldCopies_75 : decode prog_6_method_3_code 75 = .ok (.getfield 30, 3) := by decide +kernel
theorem fl_D_30 : am_fl "WebFinder$Documents" 30 8 6 := ⟨"WebFinder$Documents", tt_D, 15, rfl, by decide, Or.inl (am_t2 78 rfl rfl)⟩
theorem dc_D_foldCopies_78 : decode prog_6_method_3_code 78 = .ok (.iload 5, 2) := by decide +kernel
theorem dc_D_foldCopies_80 : decode prog_6_method_3_code 80 = .ok (.iconst 0, 1) := by decide +kernel
theorem dc_D_foldCopies_81 : decode prog_6_method_3_code 81 = .ok (.iastore, 1) := by decide +kernel
theorem dc_D_foldCopies_82 : decode prog_6_method_3_code 82 = .ok (.aload_n 0, 1) := by decide +kernel
theorem dc_D_foldCopies_83 : decode prog_6_method_3_code 83 = .ok (.getfield 27, 3) := by decide +kernel
theorem fl_D_27 : am_fl "WebFinder$Documents" 27 8 5 := ⟨"WebFinder$Documents", tt_D, 15, rfl, by decide, Or.inl (am_t2 76 rfl rfl)⟩
theorem dc_D_foldCopies_86 : decode prog_6_method_3_code 86 = .ok (.iload 5, 2) := by decide +kernel
theorem dc_D_foldCopies_88 : decode prog_6_method_3_code 88 = .ok (.iconst 0, 1) := by decide +kernel
theorem dc_D_foldCopies_89 : decode prog_6_method_3_code 89 = .ok (.iastore, 1) := by decide +kernel
theorem dc_D_foldCopies_90 : decode prog_6_method_3_code 90 = .ok (.aload_n 0, 1) := by decide +kernel
theorem dc_D_foldCopies_91 : decode prog_6_method_3_code 91 = .ok (.dup, 1) := by decide +kernel
theorem dc_D_foldCopies_92 : decode prog_6_method_3_code 92 = .ok (.getfield 91, 3) := by decide +kernel
theorem dc_D_foldCopies_95 : decode prog_6_method_3_code 95 = .ok (.iconst 1, 1) := by decide +kernel
theorem dc_D_foldCopies_96 : decode prog_6_method_3_code 96 = .ok (.iadd, 1) := by decide +kernel
theorem dc_D_foldCopies_97 : decode prog_6_method_3_code 97 = .ok (.putfield 91, 3) := by decide +kernel
theorem dc_D_foldCopies_100 : decode prog_6_method_3_code 100 = .ok (.goto 14, 3) := by decide +kernel
theorem dc_D_foldCopies_103 : decode prog_6_method_3_code 103 = .ok (.aload_n 0, 1) := by decide +kernel
theorem dc_D_foldCopies_104 : decode prog_6_method_3_code 104 = .ok (.getfield 30, 3) := by decide +kernel
theorem dc_D_foldCopies_107 : decode prog_6_method_3_code 107 = .ok (.iload 5, 2) := by decide +kernel
theorem dc_D_foldCopies_109 : decode prog_6_method_3_code 109 = .ok (.dup2, 1) := by decide +kernel
theorem dc_D_foldCopies_110 : decode prog_6_method_3_code 110 = .ok (.iaload, 1) := by decide +kernel
theorem dc_D_foldCopies_111 : decode prog_6_method_3_code 111 = .ok (.iconst 1, 1) := by decide +kernel
theorem dc_D_foldCopies_112 : decode prog_6_method_3_code 112 = .ok (.iadd, 1) := by decide +kernel
theorem dc_D_foldCopies_113 : decode prog_6_method_3_code 113 = .ok (.iastore, 1) := by decide +kernel
theorem dc_D_foldCopies_114 : decode prog_6_method_3_code 114 = .ok (.aload_n 0, 1) := by decide +kernel
theorem dc_D_foldCopies_115 : decode prog_6_method_3_code 115 = .ok (.getfield 60, 3) := by decide +kernel
theorem fl_D_60 : am_fl "WebFinder$Documents" 60 8 13 := ⟨"WebFinder$Documents", tt_D, 15, rfl, by decide, Or.inl (am_t2 89 rfl rfl)⟩
theorem dc_D_foldCopies_118 : decode prog_6_method_3_code 118 = .ok (.iload 4, 2) := by decide +kernel
theorem dc_D_foldCopies_120 : decode prog_6_method_3_code 120 = .ok (.iload 5, 2) := by decide +kernel
theorem dc_D_foldCopies_122 : decode prog_6_method_3_code 122 = .ok (.iastore, 1) := by decide +kernel
theorem dc_D_foldCopies_123 : decode prog_6_method_3_code 123 = .ok (.iinc 3 1, 3) := by decide +kernel
theorem dc_D_foldCopies_126 : decode prog_6_method_3_code 126 = .ok (.goto (-113), 3) := by decide +kernel
theorem dc_D_foldCopies_129 : decode prog_6_method_3_code 129 = .ok (.return_, 1) := by decide +kernel
