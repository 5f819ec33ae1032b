theorem dc_D_orderGot_0 : decode prog_6_method_2_code 0 = .ok (.iconst 0, 1) := by decide +kernel
theorem dc_D_orderGot_1 : decode prog_6_method_2_code 1 = .ok (.istore_n 2, 1) := by decide +kernel
theorem dc_D_orderGot_2 : decode prog_6_method_2_code 2 = .ok (.iconst 0, 1) := by decide +kernel
theorem dc_D_orderGot_3 : decode prog_6_method_2_code 3 = .ok (.istore_n 3, 1) := by decide +kernel
theorem dc_D_orderGot_4 : decode prog_6_method_2_code 4 = .ok (.iload_n 3, 1) := by decide +kernel
theorem dc_D_orderGot_5 : decode prog_6_method_2_code 5 = .ok (.aload_n 1, 1) := by decide +kernel
theorem dc_D_orderGot_6 : decode prog_6_method_2_code 6 = .ok (.getfield 70, 3) := by decide +kernel
theorem fl_D_70 : am_fl "WebFinder$Documents" 70 7 3 := ⟨"WebFinder$Crawl", tt_C, 18, rfl, by decide, Or.inl (am_t1 235 rfl rfl)⟩
theorem dc_D_orderGot_9 : decode prog_6_method_2_code 9 = .ok (.getfield 75, 3) := by decide +kernel
theorem fl_D_75 : am_fl "WebFinder$Documents" 75 4 2 := ⟨"WebFinder$Rows", tt_R, 3, rfl, by decide, Or.inl (am_t1 111 rfl rfl)⟩
theorem dc_D_orderGot_12 : decode prog_6_method_2_code 12 = .ok (.if_icmp .ge 82, 3) := by decide +kernel
theorem dc_D_orderGot_15 : decode prog_6_method_2_code 15 = .ok (.aload_n 1, 1) := by decide +kernel
theorem dc_D_orderGot_16 : decode prog_6_method_2_code 16 = .ok (.getfield 79, 3) := by decide +kernel
theorem fl_D_79 : am_fl "WebFinder$Documents" 79 7 4 := ⟨"WebFinder$Crawl", tt_C, 18, rfl, by decide, Or.inl (am_t1 238 rfl rfl)⟩
theorem dc_D_orderGot_19 : decode prog_6_method_2_code 19 = .ok (.iconst 0, 1) := by decide +kernel
theorem dc_D_orderGot_20 : decode prog_6_method_2_code 20 = .ok (.aaload, 1) := by decide +kernel
theorem dc_D_orderGot_21 : decode prog_6_method_2_code 21 = .ok (.iload_n 3, 1) := by decide +kernel
theorem dc_D_orderGot_22 : decode prog_6_method_2_code 22 = .ok (.iaload, 1) := by decide +kernel
theorem dc_D_orderGot_23 : decode prog_6_method_2_code 23 = .ok (.iconst 2, 1) := by decide +kernel
theorem dc_D_orderGot_24 : decode prog_6_method_2_code 24 = .ok (.if_icmp .ne 64, 3) := by decide +kernel
theorem dc_D_orderGot_27 : decode prog_6_method_2_code 27 = .ok (.iload_n 2, 1) := by decide +kernel
theorem dc_D_orderGot_28 : decode prog_6_method_2_code 28 = .ok (.istore 4, 2) := by decide +kernel
theorem dc_D_orderGot_30 : decode prog_6_method_2_code 30 = .ok (.iload 4, 2) := by decide +kernel
theorem dc_D_orderGot_32 : decode prog_6_method_2_code 32 = .ok (.ifCond .le 45, 3) := by decide +kernel
theorem dc_D_orderGot_35 : decode prog_6_method_2_code 35 = .ok (.aload_n 1, 1) := by decide +kernel
theorem dc_D_orderGot_36 : decode prog_6_method_2_code 36 = .ok (.getfield 70, 3) := by decide +kernel
theorem dc_D_orderGot_39 : decode prog_6_method_2_code 39 = .ok (.iload_n 3, 1) := by decide +kernel
theorem dc_D_orderGot_40 : decode prog_6_method_2_code 40 = .ok (.aload_n 0, 1) := by decide +kernel
theorem dc_D_orderGot_41 : decode prog_6_method_2_code 41 = .ok (.getfield 63, 3) := by decide +kernel
theorem dc_D_orderGot_44 : decode prog_6_method_2_code 44 = .ok (.iload 4, 2) := by decide +kernel
theorem dc_D_orderGot_46 : decode prog_6_method_2_code 46 = .ok (.iconst 1, 1) := by decide +kernel
theorem dc_D_orderGot_47 : decode prog_6_method_2_code 47 = .ok (.isub, 1) := by decide +kernel
theorem dc_D_orderGot_48 : decode prog_6_method_2_code 48 = .ok (.iaload, 1) := by decide +kernel
theorem dc_D_orderGot_49 : decode prog_6_method_2_code 49 = .ok (.invokevirtual 83, 3) := by decide +kernel
theorem mo_R_isBefore : am_mo mt_R_isBefore 2 := ⟨⟨by decide +kernel, by decide +kernel⟩, by decide +kernel, ⟨by decide +kernel, by decide +kernel⟩, (am_t6 188 rfl rfl), (am_t1 5 rfl rfl), by decide +kernel⟩
theorem im_R_isBefore : Cond.instanceMethod mt_R_isBefore.1 ∈ am_gw := (am_t6 186 rfl rfl)
theorem se_R_isBefore : Cond.selects mt_R_isBefore.1.cls mt_R_isBefore.1 mt_R_isBefore.1 ∈ am_gw := (am_t6 187 rfl rfl)
theorem ln_D_83 : am_ln "WebFinder$Documents" 83 mt_R_isBefore.1 := Or.inl (am_t6 185 rfl rfl)
theorem dc_D_orderGot_52 : decode prog_6_method_2_code 52 = .ok (.ifCond .eq 25, 3) := by decide +kernel
theorem dc_D_orderGot_55 : decode prog_6_method_2_code 55 = .ok (.aload_n 0, 1) := by decide +kernel
theorem dc_D_orderGot_56 : decode prog_6_method_2_code 56 = .ok (.getfield 63, 3) := by decide +kernel
theorem dc_D_orderGot_59 : decode prog_6_method_2_code 59 = .ok (.iload 4, 2) := by decide +kernel
theorem dc_D_orderGot_61 : decode prog_6_method_2_code 61 = .ok (.aload_n 0, 1) := by decide +kernel
theorem dc_D_orderGot_62 : decode prog_6_method_2_code 62 = .ok (.getfield 63, 3) := by decide +kernel
theorem dc_D_orderGot_65 : decode prog_6_method_2_code 65 = .ok (.iload 4, 2) := by decide +kernel
theorem dc_D_orderGot_67 : decode prog_6_method_2_code 67 = .ok (.iconst 1, 1) := by decide +kernel
theorem dc_D_orderGot_68 : decode prog_6_method_2_code 68 = .ok (.isub, 1) := by decide +kernel
theorem dc_D_orderGot_69 : decode prog_6_method_2_code 69 = .ok (.iaload, 1) := by decide +kernel
theorem dc_D_orderGot_70 : decode prog_6_method_2_code 70 = .ok (.iastore, 1) := by decide +kernel
theorem dc_D_orderGot_71 : decode prog_6_method_2_code 71 = .ok (.iinc 4 (-1), 3) := by decide +kernel
theorem dc_D_orderGot_74 : decode prog_6_method_2_code 74 = .ok (.goto (-44), 3) := by decide +kernel
theorem dc_D_orderGot_77 : decode prog_6_method_2_code 77 = .ok (.aload_n 0, 1) := by decide +kernel
theorem dc_D_orderGot_78 : decode prog_6_method_2_code 78 = .ok (.getfield 63, 3) := by decide +kernel
theorem dc_D_orderGot_81 : decode prog_6_method_2_code 81 = .ok (.iload 4, 2) := by decide +kernel
theorem dc_D_orderGot_83 : decode prog_6_method_2_code 83 = .ok (.iload_n 3, 1) := by decide +kernel
theorem dc_D_orderGot_84 : decode prog_6_method_2_code 84 = .ok (.iastore, 1) := by decide +kernel
theorem dc_D_orderGot_85 : decode prog_6_method_2_code 85 = .ok (.iinc 2 1, 3) := by decide +kernel
theorem dc_D_orderGot_88 : decode prog_6_method_2_code 88 = .ok (.iinc 3 1, 3) := by decide +kernel
theorem dc_D_orderGot_91 : decode prog_6_method_2_code 91 = .ok (.goto (-87), 3) := by decide +kernel
theorem dc_D_orderGot_94 : decode prog_6_method_2_code 94 = .ok (.iload_n 2, 1) := by decide +kernel
theorem dc_D_orderGot_95 : decode prog_6_method_2_code 95 = .ok (.ireturn, 1) := by decide +kernel
theorem dc_R_isBefore_0 : decode prog_10_method_10_code 0 = .ok (.aload_n 0, 1) := by decide +kernel
theorem dc_R_isBefore_1 : decode prog_10_method_10_code 1 = .ok (.iload_n 1, 1) := by decide +kernel
theorem dc_R_isBefore_2 : decode prog_10_method_10_code 2 = .ok (.invokevirtual 31, 3) := by decide +kernel
theorem dc_R_isBefore_5 : decode prog_10_method_10_code 5 = .ok (.istore_n 3, 1) := by decide +kernel
theorem dc_R_isBefore_6 : decode prog_10_method_10_code 6 = .ok (.aload_n 0, 1) := by decide +kernel
theorem dc_R_isBefore_7 : decode prog_10_method_10_code 7 = .ok (.iload_n 2, 1) := by decide +kernel
theorem dc_R_isBefore_8 : decode prog_10_method_10_code 8 = .ok (.invokevirtual 31, 3) := by decide +kernel
theorem dc_R_isBefore_11 : decode prog_10_method_10_code 11 = .ok (.istore 4, 2) := by decide +kernel
theorem dc_R_isBefore_13 : decode prog_10_method_10_code 13 = .ok (.aload_n 0, 1) := by decide +kernel
theorem dc_R_isBefore_14 : decode prog_10_method_10_code 14 = .ok (.getfield 20, 3) := by decide +kernel
theorem dc_R_isBefore_17 : decode prog_10_method_10_code 17 = .ok (.iload_n 1, 1) := by decide +kernel
theorem dc_R_isBefore_18 : decode prog_10_method_10_code 18 = .ok (.iaload, 1) := by decide +kernel
theorem dc_R_isBefore_19 : decode prog_10_method_10_code 19 = .ok (.iload_n 3, 1) := by decide +kernel
theorem dc_R_isBefore_20 : decode prog_10_method_10_code 20 = .ok (.isub, 1) := by decide +kernel
theorem dc_R_isBefore_21 : decode prog_10_method_10_code 21 = .ok (.aload_n 0, 1) := by decide +kernel
theorem dc_R_isBefore_22 : decode prog_10_method_10_code 22 = .ok (.getfield 20, 3) := by decide +kernel
theorem dc_R_isBefore_25 : decode prog_10_method_10_code 25 = .ok (.iload_n 2, 1) := by decide +kernel
theorem dc_R_isBefore_26 : decode prog_10_method_10_code 26 = .ok (.iaload, 1) := by decide +kernel
theorem dc_R_isBefore_27 : decode prog_10_method_10_code 27 = .ok (.iload 4, 2) := by decide +kernel
theorem dc_R_isBefore_29 : decode prog_10_method_10_code 29 = .ok (.isub, 1) := by decide +kernel
theorem dc_R_isBefore_30 : decode prog_10_method_10_code 30 = .ok (.invokestatic 63, 3) := by decide +kernel
theorem ln_R_63 : am_ln "WebFinder$Rows" 63 mt_JMath_min.1 := Or.inl (am_t6 189 rfl rfl)
theorem dc_R_isBefore_33 : decode prog_10_method_10_code 33 = .ok (.istore 5, 2) := by decide +kernel
theorem dc_R_isBefore_35 : decode prog_10_method_10_code 35 = .ok (.iconst 0, 1) := by decide +kernel
theorem dc_R_isBefore_36 : decode prog_10_method_10_code 36 = .ok (.istore 6, 2) := by decide +kernel
theorem dc_R_isBefore_38 : decode prog_10_method_10_code 38 = .ok (.iload 6, 2) := by decide +kernel
theorem dc_R_isBefore_40 : decode prog_10_method_10_code 40 = .ok (.iload 5, 2) := by decide +kernel
theorem dc_R_isBefore_42 : decode prog_10_method_10_code 42 = .ok (.if_icmp .ge 71, 3) := by decide +kernel
theorem dc_R_isBefore_45 : decode prog_10_method_10_code 45 = .ok (.aload_n 0, 1) := by decide +kernel
theorem dc_R_isBefore_46 : decode prog_10_method_10_code 46 = .ok (.getfield 14, 3) := by decide +kernel
theorem dc_R_isBefore_49 : decode prog_10_method_10_code 49 = .ok (.getfield 51, 3) := by decide +kernel
theorem dc_R_isBefore_52 : decode prog_10_method_10_code 52 = .ok (.iload_n 3, 1) := by decide +kernel
theorem dc_R_isBefore_53 : decode prog_10_method_10_code 53 = .ok (.iload 6, 2) := by decide +kernel
theorem dc_R_isBefore_55 : decode prog_10_method_10_code 55 = .ok (.iadd, 1) := by decide +kernel
theorem dc_R_isBefore_56 : decode prog_10_method_10_code 56 = .ok (.baload, 1) := by decide +kernel
theorem dc_R_isBefore_57 : decode prog_10_method_10_code 57 = .ok (.aload_n 0, 1) := by decide +kernel
theorem dc_R_isBefore_58 : decode prog_10_method_10_code 58 = .ok (.getfield 14, 3) := by decide +kernel
theorem dc_R_isBefore_61 : decode prog_10_method_10_code 61 = .ok (.getfield 51, 3) := by decide +kernel
theorem dc_R_isBefore_64 : decode prog_10_method_10_code 64 = .ok (.iload 4, 2) := by decide +kernel
theorem dc_R_isBefore_66 : decode prog_10_method_10_code 66 = .ok (.iload 6, 2) := by decide +kernel
theorem dc_R_isBefore_68 : decode prog_10_method_10_code 68 = .ok (.iadd, 1) := by decide +kernel
theorem dc_R_isBefore_69 : decode prog_10_method_10_code 69 = .ok (.baload, 1) := by decide +kernel
theorem dc_R_isBefore_70 : decode prog_10_method_10_code 70 = .ok (.if_icmp .eq 37, 3) := by decide +kernel
theorem dc_R_isBefore_73 : decode prog_10_method_10_code 73 = .ok (.aload_n 0, 1) := by decide +kernel
theorem dc_R_isBefore_74 : decode prog_10_method_10_code 74 = .ok (.getfield 14, 3) := by decide +kernel
theorem dc_R_isBefore_77 : decode prog_10_method_10_code 77 = .ok (.getfield 51, 3) := by decide +kernel
theorem dc_R_isBefore_80 : decode prog_10_method_10_code 80 = .ok (.iload_n 3, 1) := by decide +kernel
theorem dc_R_isBefore_81 : decode prog_10_method_10_code 81 = .ok (.iload 6, 2) := by decide +kernel
theorem dc_R_isBefore_83 : decode prog_10_method_10_code 83 = .ok (.iadd, 1) := by decide +kernel
theorem dc_R_isBefore_84 : decode prog_10_method_10_code 84 = .ok (.baload, 1) := by decide +kernel
theorem dc_R_isBefore_85 : decode prog_10_method_10_code 85 = .ok (.aload_n 0, 1) := by decide +kernel
theorem dc_R_isBefore_86 : decode prog_10_method_10_code 86 = .ok (.getfield 14, 3) := by decide +kernel
theorem dc_R_isBefore_89 : decode prog_10_method_10_code 89 = .ok (.getfield 51, 3) := by decide +kernel
theorem dc_R_isBefore_92 : decode prog_10_method_10_code 92 = .ok (.iload 4, 2) := by decide +kernel
theorem dc_R_isBefore_94 : decode prog_10_method_10_code 94 = .ok (.iload 6, 2) := by decide +kernel
theorem dc_R_isBefore_96 : decode prog_10_method_10_code 96 = .ok (.iadd, 1) := by decide +kernel
theorem dc_R_isBefore_97 : decode prog_10_method_10_code 97 = .ok (.baload, 1) := by decide +kernel
theorem dc_R_isBefore_98 : decode prog_10_method_10_code 98 = .ok (.if_icmp .ge 7, 3) := by decide +kernel
theorem dc_R_isBefore_101 : decode prog_10_method_10_code 101 = .ok (.iconst 1, 1) := by decide +kernel
theorem dc_R_isBefore_102 : decode prog_10_method_10_code 102 = .ok (.goto 4, 3) := by decide +kernel
theorem dc_R_isBefore_105 : decode prog_10_method_10_code 105 = .ok (.iconst 0, 1) := by decide +kernel
theorem dc_R_isBefore_106 : decode prog_10_method_10_code 106 = .ok (.ireturn, 1) := by decide +kernel
theorem dc_R_isBefore_107 : decode prog_10_method_10_code 107 = .ok (.iinc 6 1, 3) := by decide +kernel
theorem dc_R_isBefore_110 : decode prog_10_method_10_code 110 = .ok (.goto (-72), 3) := by decide +kernel
theorem dc_R_isBefore_113 : decode prog_10_method_10_code 113 = .ok (.aload_n 0, 1) := by decide +kernel
theorem dc_R_isBefore_114 : decode prog_10_method_10_code 114 = .ok (.getfield 20, 3) := by decide +kernel
theorem dc_R_isBefore_117 : decode prog_10_method_10_code 117 = .ok (.iload_n 1, 1) := by decide +kernel
theorem dc_R_isBefore_118 : decode prog_10_method_10_code 118 = .ok (.iaload, 1) := by decide +kernel
theorem dc_R_isBefore_119 : decode prog_10_method_10_code 119 = .ok (.iload_n 3, 1) := by decide +kernel
theorem dc_R_isBefore_120 : decode prog_10_method_10_code 120 = .ok (.isub, 1) := by decide +kernel
theorem dc_R_isBefore_121 : decode prog_10_method_10_code 121 = .ok (.aload_n 0, 1) := by decide +kernel
theorem dc_R_isBefore_122 : decode prog_10_method_10_code 122 = .ok (.getfield 20, 3) := by decide +kernel
theorem dc_R_isBefore_125 : decode prog_10_method_10_code 125 = .ok (.iload_n 2, 1) := by decide +kernel
theorem dc_R_isBefore_126 : decode prog_10_method_10_code 126 = .ok (.iaload, 1) := by decide +kernel
theorem dc_R_isBefore_127 : decode prog_10_method_10_code 127 = .ok (.iload 4, 2) := by decide +kernel
theorem dc_R_isBefore_129 : decode prog_10_method_10_code 129 = .ok (.isub, 1) := by decide +kernel
theorem dc_R_isBefore_130 : decode prog_10_method_10_code 130 = .ok (.if_icmp .ge 7, 3) := by decide +kernel
theorem dc_R_isBefore_133 : decode prog_10_method_10_code 133 = .ok (.iconst 1, 1) := by decide +kernel
theorem dc_R_isBefore_134 : decode prog_10_method_10_code 134 = .ok (.goto 4, 3) := by decide +kernel
theorem dc_R_isBefore_137 : decode prog_10_method_10_code 137 = .ok (.iconst 0, 1) := by decide +kernel
theorem dc_R_isBefore_138 : decode prog_10_method_10_code 138 = .ok (.ireturn, 1) := by decide +kernel
theorem dc_D_documentWithText_0 : decode prog_6_method_4_code 0 = .ok (.iconst 0, 1) := by decide +kernel
theorem dc_D_documentWithText_1 : decode prog_6_method_4_code 1 = .ok (.istore_n 2, 1) := by decide +kernel
theorem dc_D_documentWithText_2 : decode prog_6_method_4_code 2 = .ok (.iload_n 2, 1) := by decide +kernel
theorem dc_D_documentWithText_3 : decode prog_6_method_4_code 3 = .ok (.aload_n 0, 1) := by decide +kernel
theorem dc_D_documentWithText_4 : decode prog_6_method_4_code 4 = .ok (.getfield 91, 3) := by decide +kernel
theorem dc_D_documentWithText_7 : decode prog_6_method_4_code 7 = .ok (.if_icmp .ge 24, 3) := by decide +kernel
theorem dc_D_documentWithText_10 : decode prog_6_method_4_code 10 = .ok (.aload_n 0, 1) := by decide +kernel
theorem dc_D_documentWithText_11 : decode prog_6_method_4_code 11 = .ok (.getfield 11, 3) := by decide +kernel
theorem dc_D_documentWithText_14 : decode prog_6_method_4_code 14 = .ok (.iload_n 2, 1) := by decide +kernel
theorem dc_D_documentWithText_15 : decode prog_6_method_4_code 15 = .ok (.aaload, 1) := by decide +kernel
theorem dc_D_documentWithText_16 : decode prog_6_method_4_code 16 = .ok (.aload_n 1, 1) := by decide +kernel
theorem dc_D_documentWithText_17 : decode prog_6_method_4_code 17 = .ok (.invokevirtual 97, 3) := by decide +kernel
theorem mo_G_hasTextOf : am_mo mt_G_hasTextOf 1 := ⟨⟨by decide +kernel, by decide +kernel⟩, by decide +kernel, ⟨by decide +kernel, by decide +kernel⟩, (am_t6 197 rfl rfl), (am_t1 25 rfl rfl), by decide +kernel⟩
theorem im_G_hasTextOf : Cond.instanceMethod mt_G_hasTextOf.1 ∈ am_gw := (am_t6 195 rfl rfl)
theorem se_G_hasTextOf : Cond.selects mt_G_hasTextOf.1.cls mt_G_hasTextOf.1 mt_G_hasTextOf.1 ∈ am_gw := (am_t6 196 rfl rfl)
theorem ln_D_97 : am_ln "WebFinder$Documents" 97 mt_G_hasTextOf.1 := Or.inl (am_t6 194 rfl rfl)
theorem dc_D_documentWithText_20 : decode prog_6_method_4_code 20 = .ok (.ifCond .eq 5, 3) := by decide +kernel
theorem dc_D_documentWithText_23 : decode prog_6_method_4_code 23 = .ok (.iload_n 2, 1) := by decide +kernel
theorem dc_D_documentWithText_24 : decode prog_6_method_4_code 24 = .ok (.ireturn, 1) := by decide +kernel
theorem dc_D_documentWithText_25 : decode prog_6_method_4_code 25 = .ok (.iinc 2 1, 3) := by decide +kernel
theorem dc_D_documentWithText_28 : decode prog_6_method_4_code 28 = .ok (.goto (-26), 3) := by decide +kernel
theorem dc_D_documentWithText_31 : decode prog_6_method_4_code 31 = .ok (.iconst (-1), 1) := by decide +kernel
theorem dc_D_documentWithText_32 : decode prog_6_method_4_code 32 = .ok (.ireturn, 1) := by decide +kernel
theorem dc_G_hasTextOf_0 : decode prog_7_method_3_code 0 = .ok (.aload_n 0, 1) := by decide +kernel
theorem dc_G_hasTextOf_1 : decode prog_7_method_3_code 1 = .ok (.getfield 35, 3) := by decide +kernel
theorem fl_G_35 : am_fl "WebFinder$Page" 35 10 2 := ⟨"WebFinder$Page", tt_G, 3, rfl, by decide, Or.inl (am_t5 5 rfl rfl)⟩
theorem dc_G_hasTextOf_4 : decode prog_7_method_3_code 4 = .ok (.arraylength, 1) := by decide +kernel
theorem dc_G_hasTextOf_5 : decode prog_7_method_3_code 5 = .ok (.aload_n 1, 1) := by decide +kernel
theorem dc_G_hasTextOf_6 : decode prog_7_method_3_code 6 = .ok (.getfield 35, 3) := by decide +kernel
theorem dc_G_hasTextOf_9 : decode prog_7_method_3_code 9 = .ok (.arraylength, 1) := by decide +kernel
theorem dc_G_hasTextOf_10 : decode prog_7_method_3_code 10 = .ok (.if_icmp .ne 28, 3) := by decide +kernel
theorem dc_G_hasTextOf_13 : decode prog_7_method_3_code 13 = .ok (.aload_n 0, 1) := by decide +kernel
theorem dc_G_hasTextOf_14 : decode prog_7_method_3_code 14 = .ok (.getfield 35, 3) := by decide +kernel
theorem dc_G_hasTextOf_17 : decode prog_7_method_3_code 17 = .ok (.iconst 0, 1) := by decide +kernel
theorem dc_G_hasTextOf_18 : decode prog_7_method_3_code 18 = .ok (.aload_n 1, 1) := by decide +kernel
theorem dc_G_hasTextOf_19 : decode prog_7_method_3_code 19 = .ok (.getfield 35, 3) := by decide +kernel
theorem dc_G_hasTextOf_22 : decode prog_7_method_3_code 22 = .ok (.iconst 0, 1) := by decide +kernel
theorem dc_G_hasTextOf_23 : decode prog_7_method_3_code 23 = .ok (.aload_n 0, 1) := by decide +kernel
theorem dc_G_hasTextOf_24 : decode prog_7_method_3_code 24 = .ok (.getfield 35, 3) := by decide +kernel
theorem dc_G_hasTextOf_27 : decode prog_7_method_3_code 27 = .ok (.arraylength, 1) := by decide +kernel
theorem dc_G_hasTextOf_28 : decode prog_7_method_3_code 28 = .ok (.invokestatic 38, 3) := by decide +kernel
theorem dc_G_hasTextOf_31 : decode prog_7_method_3_code 31 = .ok (.ifCond .eq 7, 3) := by decide +kernel
theorem dc_G_hasTextOf_34 : decode prog_7_method_3_code 34 = .ok (.iconst 1, 1) := by decide +kernel
theorem dc_G_hasTextOf_35 : decode prog_7_method_3_code 35 = .ok (.goto 4, 3) := by decide +kernel
theorem dc_G_hasTextOf_38 : decode prog_7_method_3_code 38 = .ok (.iconst 0, 1) := by decide +kernel
theorem dc_G_hasTextOf_39 : decode prog_7_method_3_code 39 = .ok (.ireturn, 1) := by decide +kernel
theorem dc_D_followLinks_0 : decode prog_6_method_5_code 0 = .ok (.aload_n 0, 1) := by decide +kernel
theorem dc_D_followLinks_1 : decode prog_6_method_5_code 1 = .ok (.getfield 11, 3) := by decide +kernel
theorem dc_D_followLinks_4 : decode prog_6_method_5_code 4 = .ok (.iload_n 2, 1) := by decide +kernel
theorem dc_D_followLinks_5 : decode prog_6_method_5_code 5 = .ok (.aaload, 1) := by decide +kernel
theorem dc_D_followLinks_6 : decode prog_6_method_5_code 6 = .ok (.astore_n 3, 1) := by decide +kernel
theorem dc_D_followLinks_7 : decode prog_6_method_5_code 7 = .ok (.aload_n 0, 1) := by decide +kernel
theorem dc_D_followLinks_8 : decode prog_6_method_5_code 8 = .ok (.getfield 50, 3) := by decide +kernel
theorem fl_D_50 : am_fl "WebFinder$Documents" 50 8 10 := ⟨"WebFinder$Documents", tt_D, 15, rfl, by decide, Or.inl (am_t2 86 rfl rfl)⟩
theorem dc_D_followLinks_11 : decode prog_6_method_5_code 11 = .ok (.invokevirtual 101, 3) := by decide +kernel
theorem ln_D_101 : am_ln "WebFinder$Documents" 101 mt_B_clear.1 := Or.inl (am_t6 202 rfl rfl)
theorem dc_D_followLinks_14 : decode prog_6_method_5_code 14 = .ok (.aload_n 0, 1) := by decide +kernel
theorem dc_D_followLinks_15 : decode prog_6_method_5_code 15 = .ok (.getfield 50, 3) := by decide +kernel
theorem dc_D_followLinks_18 : decode prog_6_method_5_code 18 = .ok (.aload_n 3, 1) := by decide +kernel
theorem dc_D_followLinks_19 : decode prog_6_method_5_code 19 = .ok (.getfield 104, 3) := by decide +kernel
theorem fl_D_104 : am_fl "WebFinder$Documents" 104 10 0 := ⟨"WebFinder$Page", tt_G, 3, rfl, by decide, Or.inl (am_t5 1 rfl rfl)⟩
theorem dc_D_followLinks_22 : decode prog_6_method_5_code 22 = .ok (.iconst 0, 1) := by decide +kernel
theorem dc_D_followLinks_23 : decode prog_6_method_5_code 23 = .ok (.aload_n 3, 1) := by decide +kernel
theorem dc_D_followLinks_24 : decode prog_6_method_5_code 24 = .ok (.getfield 104, 3) := by decide +kernel
theorem dc_D_followLinks_27 : decode prog_6_method_5_code 27 = .ok (.arraylength, 1) := by decide +kernel
theorem dc_D_followLinks_28 : decode prog_6_method_5_code 28 = .ok (.invokevirtual 108, 3) := by decide +kernel
theorem ln_D_108 : am_ln "WebFinder$Documents" 108 mt_B_putAll.1 := Or.inl (am_t6 203 rfl rfl)
theorem dc_D_followLinks_31 : decode prog_6_method_5_code 31 = .ok (.aload_n 0, 1) := by decide +kernel
theorem dc_D_followLinks_32 : decode prog_6_method_5_code 32 = .ok (.getfield 66, 3) := by decide +kernel
theorem fl_D_66 : am_fl "WebFinder$Documents" 66 8 9 := ⟨"WebFinder$Documents", tt_D, 15, rfl, by decide, Or.inl (am_t2 85 rfl rfl)⟩
theorem dc_D_followLinks_35 : decode prog_6_method_5_code 35 = .ok (.aload_n 3, 1) := by decide +kernel
theorem dc_D_followLinks_36 : decode prog_6_method_5_code 36 = .ok (.getfield 112, 3) := by decide +kernel
theorem fl_D_112 : am_fl "WebFinder$Documents" 112 10 2 := ⟨"WebFinder$Page", tt_G, 3, rfl, by decide, Or.inl (am_t5 7 rfl rfl)⟩
theorem dc_D_followLinks_39 : decode prog_6_method_5_code 39 = .ok (.iconst 0, 1) := by decide +kernel
theorem dc_D_followLinks_40 : decode prog_6_method_5_code 40 = .ok (.aload_n 3, 1) := by decide +kernel
theorem dc_D_followLinks_41 : decode prog_6_method_5_code 41 = .ok (.getfield 112, 3) := by decide +kernel
theorem dc_D_followLinks_44 : decode prog_6_method_5_code 44 = .ok (.arraylength, 1) := by decide +kernel
theorem dc_D_followLinks_45 : decode prog_6_method_5_code 45 = .ok (.aload_n 0, 1) := by decide +kernel
theorem dc_D_followLinks_46 : decode prog_6_method_5_code 46 = .ok (.getfield 50, 3) := by decide +kernel
theorem dc_D_followLinks_49 : decode prog_6_method_5_code 49 = .ok (.invokevirtual 115, 3) := by decide +kernel
theorem ln_D_115 : am_ln "WebFinder$Documents" 115 mt_P_readLinks.1 := Or.inl (am_t6 204 rfl rfl)
theorem dc_D_followLinks_52 : decode prog_6_method_5_code 52 = .ok (.aload_n 0, 1) := by decide +kernel
theorem dc_D_followLinks_53 : decode prog_6_method_5_code 53 = .ok (.getfield 66, 3) := by decide +kernel
theorem dc_D_followLinks_56 : decode prog_6_method_5_code 56 = .ok (.getfield 121, 3) := by decide +kernel
theorem fl_D_121 : am_fl "WebFinder$Documents" 121 3 0 := ⟨"WebFinder$PageReader", tt_P, 6, rfl, by decide, Or.inl (am_t1 168 rfl rfl)⟩
theorem dc_D_followLinks_59 : decode prog_6_method_5_code 59 = .ok (.astore 4, 2) := by decide +kernel
theorem dc_D_followLinks_61 : decode prog_6_method_5_code 61 = .ok (.aload_n 0, 1) := by decide +kernel
theorem dc_D_followLinks_62 : decode prog_6_method_5_code 62 = .ok (.getfield 24, 3) := by decide +kernel
theorem fl_D_24 : am_fl "WebFinder$Documents" 24 8 4 := ⟨"WebFinder$Documents", tt_D, 15, rfl, by decide, Or.inl (am_t2 74 rfl rfl)⟩
theorem dc_D_followLinks_65 : decode prog_6_method_5_code 65 = .ok (.iload_n 2, 1) := by decide +kernel
theorem dc_D_followLinks_66 : decode prog_6_method_5_code 66 = .ok (.iconst 0, 1) := by decide +kernel
theorem dc_D_followLinks_67 : decode prog_6_method_5_code 67 = .ok (.iastore, 1) := by decide +kernel
theorem dc_D_followLinks_68 : decode prog_6_method_5_code 68 = .ok (.iconst 0, 1) := by decide +kernel
theorem dc_D_followLinks_69 : decode prog_6_method_5_code 69 = .ok (.istore 5, 2) := by decide +kernel
theorem dc_D_followLinks_71 : decode prog_6_method_5_code 71 = .ok (.iload 5, 2) := by decide +kernel
theorem dc_D_followLinks_73 : decode prog_6_method_5_code 73 = .ok (.aload 4, 2) := by decide +kernel
theorem dc_D_followLinks_75 : decode prog_6_method_5_code 75 = .ok (.getfield 75, 3) := by decide +kernel
theorem dc_D_followLinks_78 : decode prog_6_method_5_code 78 = .ok (.if_icmp .ge 110, 3) := by decide +kernel
theorem dc_D_followLinks_81 : decode prog_6_method_5_code 81 = .ok (.aload_n 1, 1) := by decide +kernel
theorem dc_D_followLinks_82 : decode prog_6_method_5_code 82 = .ok (.getfield 70, 3) := by decide +kernel
theorem dc_D_followLinks_85 : decode prog_6_method_5_code 85 = .ok (.aload 4, 2) := by decide +kernel
theorem dc_D_followLinks_87 : decode prog_6_method_5_code 87 = .ok (.getfield 124, 3) := by decide +kernel
theorem fl_D_124 : am_fl "WebFinder$Documents" 124 4 0 := ⟨"WebFinder$Rows", tt_R, 3, rfl, by decide, Or.inl (am_t1 107 rfl rfl)⟩
theorem dc_D_followLinks_90 : decode prog_6_method_5_code 90 = .ok (.getfield 127, 3) := by decide +kernel
theorem fl_D_127 : am_fl "WebFinder$Documents" 127 1 0 := ⟨"WebFinder$Bytes", tt_B, 2, rfl, by decide, Or.inl (am_t1 50 rfl rfl)⟩
theorem dc_D_followLinks_93 : decode prog_6_method_5_code 93 = .ok (.aload 4, 2) := by decide +kernel
theorem dc_D_followLinks_95 : decode prog_6_method_5_code 95 = .ok (.iload 5, 2) := by decide +kernel
theorem dc_D_followLinks_97 : decode prog_6_method_5_code 97 = .ok (.invokevirtual 130, 3) := by decide +kernel
theorem ln_D_130 : am_ln "WebFinder$Documents" 130 mt_R_from.1 := Or.inl (am_t6 205 rfl rfl)
theorem dc_D_followLinks_100 : decode prog_6_method_5_code 100 = .ok (.aload 4, 2) := by decide +kernel
theorem dc_D_followLinks_102 : decode prog_6_method_5_code 102 = .ok (.iload 5, 2) := by decide +kernel
theorem dc_D_followLinks_104 : decode prog_6_method_5_code 104 = .ok (.invokevirtual 134, 3) := by decide +kernel
theorem ln_D_134 : am_ln "WebFinder$Documents" 134 mt_R_to.1 := Or.inl (am_t6 206 rfl rfl)
theorem dc_D_followLinks_107 : decode prog_6_method_5_code 107 = .ok (.invokevirtual 137, 3) := by decide +kernel
theorem ln_D_137 : am_ln "WebFinder$Documents" 137 mt_R_numberOf.1 := Or.inl (am_t6 207 rfl rfl)
theorem dc_D_followLinks_110 : decode prog_6_method_5_code 110 = .ok (.istore 6, 2) := by decide +kernel
theorem dc_D_followLinks_112 : decode prog_6_method_5_code 112 = .ok (.aload_n 0, 1) := by decide +kernel
theorem dc_D_followLinks_113 : decode prog_6_method_5_code 113 = .ok (.aload_n 1, 1) := by decide +kernel
theorem dc_D_followLinks_114 : decode prog_6_method_5_code 114 = .ok (.iload 6, 2) := by decide +kernel
theorem dc_D_followLinks_116 : decode prog_6_method_5_code 116 = .ok (.invokevirtual 141, 3) := by decide +kernel
theorem mo_D_comesTo : am_mo mt_D_comesTo 2 := ⟨⟨by decide +kernel, by decide +kernel⟩, by decide +kernel, ⟨by decide +kernel, by decide +kernel⟩, (am_t6 211 rfl rfl), (am_t1 9 rfl rfl), by decide +kernel⟩
theorem im_D_comesTo : Cond.instanceMethod mt_D_comesTo.1 ∈ am_gw := (am_t6 210 rfl rfl)
theorem se_D_comesTo : Cond.selects mt_D_comesTo.1.cls mt_D_comesTo.1 mt_D_comesTo.1 ∈ am_gw := am_in (List.mem_append_left _ (by decide +kernel)) rfl
theorem ln_D_141 : am_ln "WebFinder$Documents" 141 mt_D_comesTo.1 := Or.inl (am_t6 208 rfl rfl)
theorem dc_D_followLinks_119 : decode prog_6_method_5_code 119 = .ok (.istore 7, 2) := by decide +kernel
theorem dc_D_followLinks_121 : decode prog_6_method_5_code 121 = .ok (.iload 7, 2) := by decide +kernel
theorem dc_D_followLinks_123 : decode prog_6_method_5_code 123 = .ok (.iconst (-1), 1) := by decide +kernel
theorem dc_D_followLinks_124 : decode prog_6_method_5_code 124 = .ok (.if_icmp .eq 58, 3) := by decide +kernel
theorem dc_D_followLinks_127 : decode prog_6_method_5_code 127 = .ok (.iload 7, 2) := by decide +kernel
theorem dc_D_followLinks_129 : decode prog_6_method_5_code 129 = .ok (.iload_n 2, 1) := by decide +kernel
theorem dc_D_followLinks_130 : decode prog_6_method_5_code 130 = .ok (.if_icmp .eq 52, 3) := by decide +kernel
theorem dc_D_followLinks_133 : decode prog_6_method_5_code 133 = .ok (.aload_n 0, 1) := by decide +kernel
theorem dc_D_followLinks_134 : decode prog_6_method_5_code 134 = .ok (.iload_n 2, 1) := by decide +kernel
theorem dc_D_followLinks_135 : decode prog_6_method_5_code 135 = .ok (.iload 7, 2) := by decide +kernel
theorem dc_D_followLinks_137 : decode prog_6_method_5_code 137 = .ok (.invokevirtual 145, 3) := by decide +kernel
theorem mo_D_alreadyLeads : am_mo mt_D_alreadyLeads 2 := ⟨⟨by decide +kernel, by decide +kernel⟩, by decide +kernel, ⟨by decide +kernel, by decide +kernel⟩, (am_t6 215 rfl rfl), (am_t1 9 rfl rfl), by decide +kernel⟩
theorem im_D_alreadyLeads : Cond.instanceMethod mt_D_alreadyLeads.1 ∈ am_gw := (am_t6 214 rfl rfl)
theorem se_D_alreadyLeads : Cond.selects mt_D_alreadyLeads.1.cls mt_D_alreadyLeads.1 mt_D_alreadyLeads.1 ∈ am_gw := am_in (List.mem_append_left _ (by decide +kernel)) rfl
theorem ln_D_145 : am_ln "WebFinder$Documents" 145 mt_D_alreadyLeads.1 := Or.inl (am_t6 212 rfl rfl)
theorem dc_D_followLinks_140 : decode prog_6_method_5_code 140 = .ok (.ifCond .ne 42, 3) := by decide +kernel
theorem dc_D_followLinks_143 : decode prog_6_method_5_code 143 = .ok (.aload_n 0, 1) := by decide +kernel
theorem dc_D_followLinks_144 : decode prog_6_method_5_code 144 = .ok (.getfield 54, 3) := by decide +kernel
theorem fl_D_54 : am_fl "WebFinder$Documents" 54 8 11 := ⟨"WebFinder$Documents", tt_D, 15, rfl, by decide, Or.inl (am_t2 87 rfl rfl)⟩
theorem dc_D_followLinks_147 : decode prog_6_method_5_code 147 = .ok (.iload_n 2, 1) := by decide +kernel
theorem dc_D_followLinks_148 : decode prog_6_method_5_code 148 = .ok (.bipush 60, 2) := by decide +kernel
theorem dc_D_followLinks_150 : decode prog_6_method_5_code 150 = .ok (.imul, 1) := by decide +kernel
theorem dc_D_followLinks_151 : decode prog_6_method_5_code 151 = .ok (.aload_n 0, 1) := by decide +kernel
theorem dc_D_followLinks_152 : decode prog_6_method_5_code 152 = .ok (.getfield 24, 3) := by decide +kernel
theorem dc_D_followLinks_155 : decode prog_6_method_5_code 155 = .ok (.iload_n 2, 1) := by decide +kernel
theorem dc_D_followLinks_156 : decode prog_6_method_5_code 156 = .ok (.iaload, 1) := by decide +kernel
theorem dc_D_followLinks_157 : decode prog_6_method_5_code 157 = .ok (.iadd, 1) := by decide +kernel
theorem dc_D_followLinks_158 : decode prog_6_method_5_code 158 = .ok (.iload 7, 2) := by decide +kernel
theorem dc_D_followLinks_160 : decode prog_6_method_5_code 160 = .ok (.iastore, 1) := by decide +kernel
theorem dc_D_followLinks_161 : decode prog_6_method_5_code 161 = .ok (.aload_n 0, 1) := by decide +kernel
theorem dc_D_followLinks_162 : decode prog_6_method_5_code 162 = .ok (.getfield 24, 3) := by decide +kernel
theorem dc_D_followLinks_165 : decode prog_6_method_5_code 165 = .ok (.iload_n 2, 1) := by decide +kernel
theorem dc_D_followLinks_166 : decode prog_6_method_5_code 166 = .ok (.dup2, 1) := by decide +kernel
theorem dc_D_followLinks_167 : decode prog_6_method_5_code 167 = .ok (.iaload, 1) := by decide +kernel
theorem dc_D_followLinks_168 : decode prog_6_method_5_code 168 = .ok (.iconst 1, 1) := by decide +kernel
theorem dc_D_followLinks_169 : decode prog_6_method_5_code 169 = .ok (.iadd, 1) := by decide +kernel
theorem dc_D_followLinks_170 : decode prog_6_method_5_code 170 = .ok (.iastore, 1) := by decide +kernel
theorem dc_D_followLinks_171 : decode prog_6_method_5_code 171 = .ok (.aload_n 0, 1) := by decide +kernel
theorem dc_D_followLinks_172 : decode prog_6_method_5_code 172 = .ok (.getfield 27, 3) := by decide +kernel
theorem dc_D_followLinks_175 : decode prog_6_method_5_code 175 = .ok (.iload 7, 2) := by decide +kernel
theorem dc_D_followLinks_177 : decode prog_6_method_5_code 177 = .ok (.dup2, 1) := by decide +kernel
theorem dc_D_followLinks_178 : decode prog_6_method_5_code 178 = .ok (.iaload, 1) := by decide +kernel
theorem dc_D_followLinks_179 : decode prog_6_method_5_code 179 = .ok (.iconst 1, 1) := by decide +kernel
theorem dc_D_followLinks_180 : decode prog_6_method_5_code 180 = .ok (.iadd, 1) := by decide +kernel
theorem dc_D_followLinks_181 : decode prog_6_method_5_code 181 = .ok (.iastore, 1) := by decide +kernel
theorem dc_D_followLinks_182 : decode prog_6_method_5_code 182 = .ok (.iinc 5 1, 3) := by decide +kernel
theorem dc_D_followLinks_185 : decode prog_6_method_5_code 185 = .ok (.goto (-114), 3) := by decide +kernel
theorem dc_D_followLinks_188 : decode prog_6_method_5_code 188 = .ok (.return_, 1) := by decide +kernel
theorem dc_D_comesTo_0 : decode prog_6_method_7_code 0 = .ok (.iload_n 2, 1) := by decide +kernel
theorem dc_D_comesTo_1 : decode prog_6_method_7_code 1 = .ok (.istore_n 3, 1) := by decide +kernel
theorem dc_D_comesTo_2 : decode prog_6_method_7_code 2 = .ok (.iconst 0, 1) := by decide +kernel
theorem dc_D_comesTo_3 : decode prog_6_method_7_code 3 = .ok (.istore 4, 2) := by decide +kernel
theorem dc_D_comesTo_5 : decode prog_6_method_7_code 5 = .ok (.iload_n 3, 1) := by decide +kernel
theorem dc_D_comesTo_6 : decode prog_6_method_7_code 6 = .ok (.iconst (-1), 1) := by decide +kernel
theorem dc_D_comesTo_7 : decode prog_6_method_7_code 7 = .ok (.if_icmp .eq 44, 3) := by decide +kernel
theorem dc_D_comesTo_10 : decode prog_6_method_7_code 10 = .ok (.iload 4, 2) := by decide +kernel
theorem dc_D_comesTo_12 : decode prog_6_method_7_code 12 = .ok (.bipush 20, 2) := by decide +kernel
theorem dc_D_comesTo_14 : decode prog_6_method_7_code 14 = .ok (.if_icmp .gt 37, 3) := by decide +kernel
theorem dc_D_comesTo_17 : decode prog_6_method_7_code 17 = .ok (.aload_n 1, 1) := by decide +kernel
theorem dc_D_comesTo_18 : decode prog_6_method_7_code 18 = .ok (.getfield 79, 3) := by decide +kernel
theorem dc_D_comesTo_21 : decode prog_6_method_7_code 21 = .ok (.iconst 0, 1) := by decide +kernel
theorem dc_D_comesTo_22 : decode prog_6_method_7_code 22 = .ok (.aaload, 1) := by decide +kernel
theorem dc_D_comesTo_23 : decode prog_6_method_7_code 23 = .ok (.iload_n 3, 1) := by decide +kernel
theorem dc_D_comesTo_24 : decode prog_6_method_7_code 24 = .ok (.iaload, 1) := by decide +kernel
theorem dc_D_comesTo_25 : decode prog_6_method_7_code 25 = .ok (.iconst 2, 1) := by decide +kernel
theorem dc_D_comesTo_26 : decode prog_6_method_7_code 26 = .ok (.if_icmp .ne 10, 3) := by decide +kernel
theorem dc_D_comesTo_29 : decode prog_6_method_7_code 29 = .ok (.aload_n 0, 1) := by decide +kernel
theorem dc_D_comesTo_30 : decode prog_6_method_7_code 30 = .ok (.getfield 60, 3) := by decide +kernel
theorem dc_D_comesTo_33 : decode prog_6_method_7_code 33 = .ok (.iload_n 3, 1) := by decide +kernel
theorem dc_D_comesTo_34 : decode prog_6_method_7_code 34 = .ok (.iaload, 1) := by decide +kernel
theorem dc_D_comesTo_35 : decode prog_6_method_7_code 35 = .ok (.ireturn, 1) := by decide +kernel
theorem dc_D_comesTo_36 : decode prog_6_method_7_code 36 = .ok (.aload_n 1, 1) := by decide +kernel
theorem dc_D_comesTo_37 : decode prog_6_method_7_code 37 = .ok (.getfield 79, 3) := by decide +kernel
theorem dc_D_comesTo_40 : decode prog_6_method_7_code 40 = .ok (.iconst 3, 1) := by decide +kernel
theorem dc_D_comesTo_41 : decode prog_6_method_7_code 41 = .ok (.aaload, 1) := by decide +kernel
theorem dc_D_comesTo_42 : decode prog_6_method_7_code 42 = .ok (.iload_n 3, 1) := by decide +kernel
theorem dc_D_comesTo_43 : decode prog_6_method_7_code 43 = .ok (.iaload, 1) := by decide +kernel
theorem dc_D_comesTo_44 : decode prog_6_method_7_code 44 = .ok (.istore_n 3, 1) := by decide +kernel
theorem dc_D_comesTo_45 : decode prog_6_method_7_code 45 = .ok (.iinc 4 1, 3) := by decide +kernel
theorem dc_D_comesTo_48 : decode prog_6_method_7_code 48 = .ok (.goto (-43), 3) := by decide +kernel
theorem dc_D_comesTo_51 : decode prog_6_method_7_code 51 = .ok (.iconst (-1), 1) := by decide +kernel
theorem dc_D_comesTo_52 : decode prog_6_method_7_code 52 = .ok (.ireturn, 1) := by decide +kernel
theorem dc_D_alreadyLeads_0 : decode prog_6_method_6_code 0 = .ok (.iconst 0, 1) := by decide +kernel
theorem dc_D_alreadyLeads_1 : decode prog_6_method_6_code 1 = .ok (.istore_n 3, 1) := by decide +kernel
theorem dc_D_alreadyLeads_2 : decode prog_6_method_6_code 2 = .ok (.iload_n 3, 1) := by decide +kernel
theorem dc_D_alreadyLeads_3 : decode prog_6_method_6_code 3 = .ok (.aload_n 0, 1) := by decide +kernel
theorem dc_D_alreadyLeads_4 : decode prog_6_method_6_code 4 = .ok (.getfield 24, 3) := by decide +kernel
theorem dc_D_alreadyLeads_7 : decode prog_6_method_6_code 7 = .ok (.iload_n 1, 1) := by decide +kernel
theorem dc_D_alreadyLeads_8 : decode prog_6_method_6_code 8 = .ok (.iaload, 1) := by decide +kernel
theorem dc_D_alreadyLeads_9 : decode prog_6_method_6_code 9 = .ok (.if_icmp .ge 26, 3) := by decide +kernel
theorem dc_D_alreadyLeads_12 : decode prog_6_method_6_code 12 = .ok (.aload_n 0, 1) := by decide +kernel
theorem dc_D_alreadyLeads_13 : decode prog_6_method_6_code 13 = .ok (.getfield 54, 3) := by decide +kernel
theorem dc_D_alreadyLeads_16 : decode prog_6_method_6_code 16 = .ok (.iload_n 1, 1) := by decide +kernel
theorem dc_D_alreadyLeads_17 : decode prog_6_method_6_code 17 = .ok (.bipush 60, 2) := by decide +kernel
theorem dc_D_alreadyLeads_19 : decode prog_6_method_6_code 19 = .ok (.imul, 1) := by decide +kernel
theorem dc_D_alreadyLeads_20 : decode prog_6_method_6_code 20 = .ok (.iload_n 3, 1) := by decide +kernel
theorem dc_D_alreadyLeads_21 : decode prog_6_method_6_code 21 = .ok (.iadd, 1) := by decide +kernel
theorem dc_D_alreadyLeads_22 : decode prog_6_method_6_code 22 = .ok (.iaload, 1) := by decide +kernel
theorem dc_D_alreadyLeads_23 : decode prog_6_method_6_code 23 = .ok (.iload_n 2, 1) := by decide +kernel
theorem dc_D_alreadyLeads_24 : decode prog_6_method_6_code 24 = .ok (.if_icmp .ne 5, 3) := by decide +kernel
theorem dc_D_alreadyLeads_27 : decode prog_6_method_6_code 27 = .ok (.iconst 1, 1) := by decide +kernel
theorem dc_D_alreadyLeads_28 : decode prog_6_method_6_code 28 = .ok (.ireturn, 1) := by decide +kernel
theorem dc_D_alreadyLeads_29 : decode prog_6_method_6_code 29 = .ok (.iinc 3 1, 3) := by decide +kernel
theorem dc_D_alreadyLeads_32 : decode prog_6_method_6_code 32 = .ok (.goto (-30), 3) := by decide +kernel
theorem dc_D_alreadyLeads_35 : decode prog_6_method_6_code 35 = .ok (.iconst 0, 1) := by decide +kernel
theorem dc_D_alreadyLeads_36 : decode prog_6_method_6_code 36 = .ok (.ireturn, 1) := by decide +kernel
theorem dc_D_rank_0 : decode prog_6_method_8_code 0 = .ok (.iconst 0, 1) := by decide +kernel
theorem dc_D_rank_1 : decode prog_6_method_8_code 1 = .ok (.istore_n 2, 1) := by decide +kernel
theorem dc_D_rank_2 : decode prog_6_method_8_code 2 = .ok (.iload_n 2, 1) := by decide +kernel
theorem dc_D_rank_3 : decode prog_6_method_8_code 3 = .ok (.aload_n 0, 1) := by decide +kernel
theorem dc_D_rank_4 : decode prog_6_method_8_code 4 = .ok (.getfield 91, 3) := by decide +kernel
theorem dc_D_rank_7 : decode prog_6_method_8_code 7 = .ok (.if_icmp .ge 22, 3) := by decide +kernel
theorem dc_D_rank_10 : decode prog_6_method_8_code 10 = .ok (.aload_n 0, 1) := by decide +kernel
theorem dc_D_rank_11 : decode prog_6_method_8_code 11 = .ok (.getfield 21, 3) := by decide +kernel
theorem fl_D_21 : am_fl "WebFinder$Documents" 21 8 3 := ⟨"WebFinder$Documents", tt_D, 15, rfl, by decide, Or.inl (am_t2 71 rfl rfl)⟩
theorem dc_D_rank_14 : decode prog_6_method_8_code 14 = .ok (.iload_n 2, 1) := by decide +kernel
theorem dc_D_rank_15 : decode prog_6_method_8_code 15 = .ok (.ldc 148, 2) := by decide +kernel
theorem cs_D_148 : Cond.constant "WebFinder$Documents" 148 (1000000) ∈ am_gw := (am_t6 220 rfl rfl)
theorem dc_D_rank_17 : decode prog_6_method_8_code 17 = .ok (.aload_n 0, 1) := by decide +kernel
theorem dc_D_rank_18 : decode prog_6_method_8_code 18 = .ok (.getfield 91, 3) := by decide +kernel
theorem dc_D_rank_21 : decode prog_6_method_8_code 21 = .ok (.idiv, 1) := by decide +kernel
theorem dc_D_rank_22 : decode prog_6_method_8_code 22 = .ok (.iastore, 1) := by decide +kernel
theorem dc_D_rank_23 : decode prog_6_method_8_code 23 = .ok (.iinc 2 1, 3) := by decide +kernel
theorem dc_D_rank_26 : decode prog_6_method_8_code 26 = .ok (.goto (-24), 3) := by decide +kernel
theorem dc_D_rank_29 : decode prog_6_method_8_code 29 = .ok (.iconst 0, 1) := by decide +kernel
theorem dc_D_rank_30 : decode prog_6_method_8_code 30 = .ok (.istore_n 2, 1) := by decide +kernel
theorem dc_D_rank_31 : decode prog_6_method_8_code 31 = .ok (.iload_n 2, 1) := by decide +kernel
theorem dc_D_rank_32 : decode prog_6_method_8_code 32 = .ok (.iload_n 1, 1) := by decide +kernel
theorem dc_D_rank_33 : decode prog_6_method_8_code 33 = .ok (.if_icmp .ge 76, 3) := by decide +kernel
theorem dc_D_rank_36 : decode prog_6_method_8_code 36 = .ok (.iconst 0, 1) := by decide +kernel
theorem dc_D_rank_37 : decode prog_6_method_8_code 37 = .ok (.istore_n 3, 1) := by decide +kernel
theorem dc_D_rank_38 : decode prog_6_method_8_code 38 = .ok (.iload_n 3, 1) := by decide +kernel
theorem dc_D_rank_39 : decode prog_6_method_8_code 39 = .ok (.aload_n 0, 1) := by decide +kernel
theorem dc_D_rank_40 : decode prog_6_method_8_code 40 = .ok (.getfield 91, 3) := by decide +kernel
theorem dc_D_rank_43 : decode prog_6_method_8_code 43 = .ok (.if_icmp .ge 22, 3) := by decide +kernel
theorem dc_D_rank_46 : decode prog_6_method_8_code 46 = .ok (.aload_n 0, 1) := by decide +kernel
theorem dc_D_rank_47 : decode prog_6_method_8_code 47 = .ok (.getfield 57, 3) := by decide +kernel
theorem fl_D_57 : am_fl "WebFinder$Documents" 57 8 12 := ⟨"WebFinder$Documents", tt_D, 15, rfl, by decide, Or.inl (am_t2 88 rfl rfl)⟩
theorem dc_D_rank_50 : decode prog_6_method_8_code 50 = .ok (.iload_n 3, 1) := by decide +kernel
theorem dc_D_rank_51 : decode prog_6_method_8_code 51 = .ok (.ldc 149, 2) := by decide +kernel
theorem cs_D_149 : Cond.constant "WebFinder$Documents" 149 (150000) ∈ am_gw := (am_t6 221 rfl rfl)
theorem dc_D_rank_53 : decode prog_6_method_8_code 53 = .ok (.aload_n 0, 1) := by decide +kernel
theorem dc_D_rank_54 : decode prog_6_method_8_code 54 = .ok (.getfield 91, 3) := by decide +kernel
theorem dc_D_rank_57 : decode prog_6_method_8_code 57 = .ok (.idiv, 1) := by decide +kernel
theorem dc_D_rank_58 : decode prog_6_method_8_code 58 = .ok (.iastore, 1) := by decide +kernel
theorem dc_D_rank_59 : decode prog_6_method_8_code 59 = .ok (.iinc 3 1, 3) := by decide +kernel
theorem dc_D_rank_62 : decode prog_6_method_8_code 62 = .ok (.goto (-24), 3) := by decide +kernel
theorem dc_D_rank_65 : decode prog_6_method_8_code 65 = .ok (.iconst 0, 1) := by decide +kernel
theorem dc_D_rank_66 : decode prog_6_method_8_code 66 = .ok (.istore_n 3, 1) := by decide +kernel
theorem dc_D_rank_67 : decode prog_6_method_8_code 67 = .ok (.iload_n 3, 1) := by decide +kernel
theorem dc_D_rank_68 : decode prog_6_method_8_code 68 = .ok (.aload_n 0, 1) := by decide +kernel
theorem dc_D_rank_69 : decode prog_6_method_8_code 69 = .ok (.getfield 91, 3) := by decide +kernel
theorem dc_D_rank_72 : decode prog_6_method_8_code 72 = .ok (.if_icmp .ge 14, 3) := by decide +kernel
theorem dc_D_rank_75 : decode prog_6_method_8_code 75 = .ok (.aload_n 0, 1) := by decide +kernel
theorem dc_D_rank_76 : decode prog_6_method_8_code 76 = .ok (.iload_n 3, 1) := by decide +kernel
theorem dc_D_rank_77 : decode prog_6_method_8_code 77 = .ok (.invokevirtual 150, 3) := by decide +kernel
theorem mo_D_handOnRank : am_mo mt_D_handOnRank 1 := ⟨⟨by decide +kernel, by decide +kernel⟩, by decide +kernel, ⟨by decide +kernel, by decide +kernel⟩, (am_t6 225 rfl rfl), (am_t1 9 rfl rfl), by decide +kernel⟩
theorem im_D_handOnRank : Cond.instanceMethod mt_D_handOnRank.1 ∈ am_gw := (am_t6 224 rfl rfl)
theorem se_D_handOnRank : Cond.selects mt_D_handOnRank.1.cls mt_D_handOnRank.1 mt_D_handOnRank.1 ∈ am_gw := am_in (List.mem_append_left _ (by decide +kernel)) rfl
theorem ln_D_150 : am_ln "WebFinder$Documents" 150 mt_D_handOnRank.1 := Or.inl (am_t6 222 rfl rfl)
theorem dc_D_rank_80 : decode prog_6_method_8_code 80 = .ok (.iinc 3 1, 3) := by decide +kernel
theorem dc_D_rank_83 : decode prog_6_method_8_code 83 = .ok (.goto (-16), 3) := by decide +kernel
theorem dc_D_rank_86 : decode prog_6_method_8_code 86 = .ok (.aload_n 0, 1) := by decide +kernel
theorem dc_D_rank_87 : decode prog_6_method_8_code 87 = .ok (.getfield 57, 3) := by decide +kernel
theorem dc_D_rank_90 : decode prog_6_method_8_code 90 = .ok (.iconst 0, 1) := by decide +kernel
theorem dc_D_rank_91 : decode prog_6_method_8_code 91 = .ok (.aload_n 0, 1) := by decide +kernel
theorem dc_D_rank_92 : decode prog_6_method_8_code 92 = .ok (.getfield 21, 3) := by decide +kernel
theorem dc_D_rank_95 : decode prog_6_method_8_code 95 = .ok (.iconst 0, 1) := by decide +kernel
theorem dc_D_rank_96 : decode prog_6_method_8_code 96 = .ok (.aload_n 0, 1) := by decide +kernel
theorem dc_D_rank_97 : decode prog_6_method_8_code 97 = .ok (.getfield 91, 3) := by decide +kernel
theorem dc_D_rank_100 : decode prog_6_method_8_code 100 = .ok (.invokestatic 153, 3) := by decide +kernel
theorem dc_D_rank_103 : decode prog_6_method_8_code 103 = .ok (.iinc 2 1, 3) := by decide +kernel
theorem dc_D_rank_106 : decode prog_6_method_8_code 106 = .ok (.goto (-75), 3) := by decide +kernel
theorem dc_D_rank_109 : decode prog_6_method_8_code 109 = .ok (.return_, 1) := by decide +kernel
theorem dc_D_handOnRank_0 : decode prog_6_method_9_code 0 = .ok (.iconst 0, 1) := by decide +kernel
theorem dc_D_handOnRank_1 : decode prog_6_method_9_code 1 = .ok (.istore_n 2, 1) := by decide +kernel
theorem dc_D_handOnRank_2 : decode prog_6_method_9_code 2 = .ok (.iload_n 2, 1) := by decide +kernel
theorem dc_D_handOnRank_3 : decode prog_6_method_9_code 3 = .ok (.aload_n 0, 1) := by decide +kernel
theorem dc_D_handOnRank_4 : decode prog_6_method_9_code 4 = .ok (.getfield 24, 3) := by decide +kernel
theorem dc_D_handOnRank_7 : decode prog_6_method_9_code 7 = .ok (.iload_n 1, 1) := by decide +kernel
theorem dc_D_handOnRank_8 : decode prog_6_method_9_code 8 = .ok (.iaload, 1) := by decide +kernel
theorem dc_D_handOnRank_9 : decode prog_6_method_9_code 9 = .ok (.if_icmp .ge 47, 3) := by decide +kernel
theorem dc_D_handOnRank_12 : decode prog_6_method_9_code 12 = .ok (.aload_n 0, 1) := by decide +kernel
theorem dc_D_handOnRank_13 : decode prog_6_method_9_code 13 = .ok (.getfield 57, 3) := by decide +kernel
theorem dc_D_handOnRank_16 : decode prog_6_method_9_code 16 = .ok (.aload_n 0, 1) := by decide +kernel
theorem dc_D_handOnRank_17 : decode prog_6_method_9_code 17 = .ok (.getfield 54, 3) := by decide +kernel
theorem dc_D_handOnRank_20 : decode prog_6_method_9_code 20 = .ok (.iload_n 1, 1) := by decide +kernel
theorem dc_D_handOnRank_21 : decode prog_6_method_9_code 21 = .ok (.bipush 60, 2) := by decide +kernel
theorem dc_D_handOnRank_23 : decode prog_6_method_9_code 23 = .ok (.imul, 1) := by decide +kernel
theorem dc_D_handOnRank_24 : decode prog_6_method_9_code 24 = .ok (.iload_n 2, 1) := by decide +kernel
theorem dc_D_handOnRank_25 : decode prog_6_method_9_code 25 = .ok (.iadd, 1) := by decide +kernel
theorem dc_D_handOnRank_26 : decode prog_6_method_9_code 26 = .ok (.iaload, 1) := by decide +kernel
theorem dc_D_handOnRank_27 : decode prog_6_method_9_code 27 = .ok (.dup2, 1) := by decide +kernel
theorem dc_D_handOnRank_28 : decode prog_6_method_9_code 28 = .ok (.iaload, 1) := by decide +kernel
theorem dc_D_handOnRank_29 : decode prog_6_method_9_code 29 = .ok (.bipush 85, 2) := by decide +kernel
theorem dc_D_handOnRank_31 : decode prog_6_method_9_code 31 = .ok (.aload_n 0, 1) := by decide +kernel
theorem dc_D_handOnRank_32 : decode prog_6_method_9_code 32 = .ok (.getfield 21, 3) := by decide +kernel
theorem dc_D_handOnRank_35 : decode prog_6_method_9_code 35 = .ok (.iload_n 1, 1) := by decide +kernel
theorem dc_D_handOnRank_36 : decode prog_6_method_9_code 36 = .ok (.iaload, 1) := by decide +kernel
theorem dc_D_handOnRank_37 : decode prog_6_method_9_code 37 = .ok (.imul, 1) := by decide +kernel
theorem dc_D_handOnRank_38 : decode prog_6_method_9_code 38 = .ok (.bipush 100, 2) := by decide +kernel
theorem dc_D_handOnRank_40 : decode prog_6_method_9_code 40 = .ok (.idiv, 1) := by decide +kernel
theorem dc_D_handOnRank_41 : decode prog_6_method_9_code 41 = .ok (.aload_n 0, 1) := by decide +kernel
theorem dc_D_handOnRank_42 : decode prog_6_method_9_code 42 = .ok (.getfield 24, 3) := by decide +kernel
theorem dc_D_handOnRank_45 : decode prog_6_method_9_code 45 = .ok (.iload_n 1, 1) := by decide +kernel
theorem dc_D_handOnRank_46 : decode prog_6_method_9_code 46 = .ok (.iaload, 1) := by decide +kernel
theorem dc_D_handOnRank_47 : decode prog_6_method_9_code 47 = .ok (.idiv, 1) := by decide +kernel
theorem dc_D_handOnRank_48 : decode prog_6_method_9_code 48 = .ok (.iadd, 1) := by decide +kernel
theorem dc_D_handOnRank_49 : decode prog_6_method_9_code 49 = .ok (.iastore, 1) := by decide +kernel
theorem dc_D_handOnRank_50 : decode prog_6_method_9_code 50 = .ok (.iinc 2 1, 3) := by decide +kernel
theorem dc_D_handOnRank_53 : decode prog_6_method_9_code 53 = .ok (.goto (-51), 3) := by decide +kernel
theorem dc_D_handOnRank_56 : decode prog_6_method_9_code 56 = .ok (.return_, 1) := by decide +kernel
theorem dc_D_indexWords_0 : decode prog_6_method_10_code 0 = .ok (.aload_n 0, 1) := by decide +kernel
theorem dc_D_indexWords_1 : decode prog_6_method_10_code 1 = .ok (.getfield 41, 3) := by decide +kernel
theorem fl_D_41 : am_fl "WebFinder$Documents" 41 8 8 := ⟨"WebFinder$Documents", tt_D, 15, rfl, by decide, Or.inl (am_t2 83 rfl rfl)⟩
theorem dc_D_indexWords_4 : decode prog_6_method_10_code 4 = .ok (.invokevirtual 159, 3) := by decide +kernel
theorem ln_D_159 : am_ln "WebFinder$Documents" 159 mt_R_clear.1 := Or.inl (am_t6 231 rfl rfl)
theorem dc_D_indexWords_7 : decode prog_6_method_10_code 7 = .ok (.aload_n 0, 1) := by decide +kernel
theorem dc_D_indexWords_8 : decode prog_6_method_10_code 8 = .ok (.getfield 33, 3) := by decide +kernel
theorem fl_D_33 : am_fl "WebFinder$Documents" 33 8 7 := ⟨"WebFinder$Documents", tt_D, 15, rfl, by decide, Or.inl (am_t2 80 rfl rfl)⟩
theorem dc_D_indexWords_11 : decode prog_6_method_10_code 11 = .ok (.iconst 0, 1) := by decide +kernel
theorem dc_D_indexWords_12 : decode prog_6_method_10_code 12 = .ok (.iconst 0, 1) := by decide +kernel
theorem dc_D_indexWords_13 : decode prog_6_method_10_code 13 = .ok (.iastore, 1) := by decide +kernel
theorem dc_D_indexWords_14 : decode prog_6_method_10_code 14 = .ok (.iconst 0, 1) := by decide +kernel
theorem dc_D_indexWords_15 : decode prog_6_method_10_code 15 = .ok (.istore_n 1, 1) := by decide +kernel
theorem dc_D_indexWords_16 : decode prog_6_method_10_code 16 = .ok (.iload_n 1, 1) := by decide +kernel
theorem dc_D_indexWords_17 : decode prog_6_method_10_code 17 = .ok (.aload_n 0, 1) := by decide +kernel
theorem dc_D_indexWords_18 : decode prog_6_method_10_code 18 = .ok (.getfield 91, 3) := by decide +kernel
theorem dc_D_indexWords_21 : decode prog_6_method_10_code 21 = .ok (.if_icmp .ge 55, 3) := by decide +kernel
theorem dc_D_indexWords_24 : decode prog_6_method_10_code 24 = .ok (.aload_n 0, 1) := by decide +kernel
theorem dc_D_indexWords_25 : decode prog_6_method_10_code 25 = .ok (.getfield 66, 3) := by decide +kernel
theorem dc_D_indexWords_28 : decode prog_6_method_10_code 28 = .ok (.aload_n 0, 1) := by decide +kernel
theorem dc_D_indexWords_29 : decode prog_6_method_10_code 29 = .ok (.getfield 11, 3) := by decide +kernel
theorem dc_D_indexWords_32 : decode prog_6_method_10_code 32 = .ok (.iload_n 1, 1) := by decide +kernel
theorem dc_D_indexWords_33 : decode prog_6_method_10_code 33 = .ok (.aaload, 1) := by decide +kernel
theorem dc_D_indexWords_34 : decode prog_6_method_10_code 34 = .ok (.getfield 112, 3) := by decide +kernel
theorem dc_D_indexWords_37 : decode prog_6_method_10_code 37 = .ok (.iconst 0, 1) := by decide +kernel
theorem dc_D_indexWords_38 : decode prog_6_method_10_code 38 = .ok (.aload_n 0, 1) := by decide +kernel
theorem dc_D_indexWords_39 : decode prog_6_method_10_code 39 = .ok (.getfield 11, 3) := by decide +kernel
theorem dc_D_indexWords_42 : decode prog_6_method_10_code 42 = .ok (.iload_n 1, 1) := by decide +kernel
theorem dc_D_indexWords_43 : decode prog_6_method_10_code 43 = .ok (.aaload, 1) := by decide +kernel
theorem dc_D_indexWords_44 : decode prog_6_method_10_code 44 = .ok (.getfield 112, 3) := by decide +kernel
theorem dc_D_indexWords_47 : decode prog_6_method_10_code 47 = .ok (.arraylength, 1) := by decide +kernel
theorem dc_D_indexWords_48 : decode prog_6_method_10_code 48 = .ok (.aload_n 0, 1) := by decide +kernel
theorem dc_D_indexWords_49 : decode prog_6_method_10_code 49 = .ok (.getfield 41, 3) := by decide +kernel
theorem dc_D_indexWords_52 : decode prog_6_method_10_code 52 = .ok (.invokevirtual 160, 3) := by decide +kernel
theorem ln_D_160 : am_ln "WebFinder$Documents" 160 mt_P_readWords.1 := Or.inl (am_t6 232 rfl rfl)
theorem dc_D_indexWords_55 : decode prog_6_method_10_code 55 = .ok (.aload_n 0, 1) := by decide +kernel
theorem dc_D_indexWords_56 : decode prog_6_method_10_code 56 = .ok (.getfield 33, 3) := by decide +kernel
theorem dc_D_indexWords_59 : decode prog_6_method_10_code 59 = .ok (.iload_n 1, 1) := by decide +kernel
theorem dc_D_indexWords_60 : decode prog_6_method_10_code 60 = .ok (.iconst 1, 1) := by decide +kernel
theorem dc_D_indexWords_61 : decode prog_6_method_10_code 61 = .ok (.iadd, 1) := by decide +kernel
theorem dc_D_indexWords_62 : decode prog_6_method_10_code 62 = .ok (.aload_n 0, 1) := by decide +kernel
theorem dc_D_indexWords_63 : decode prog_6_method_10_code 63 = .ok (.getfield 41, 3) := by decide +kernel
theorem dc_D_indexWords_66 : decode prog_6_method_10_code 66 = .ok (.getfield 75, 3) := by decide +kernel
theorem dc_D_indexWords_69 : decode prog_6_method_10_code 69 = .ok (.iastore, 1) := by decide +kernel
theorem dc_D_indexWords_70 : decode prog_6_method_10_code 70 = .ok (.iinc 1 1, 3) := by decide +kernel
theorem dc_D_indexWords_73 : decode prog_6_method_10_code 73 = .ok (.goto (-57), 3) := by decide +kernel
theorem dc_D_indexWords_76 : decode prog_6_method_10_code 76 = .ok (.return_, 1) := by decide +kernel
theorem dc_N_clear_0 : decode prog_3_method_2_code 0 = .ok (.aload_n 0, 1) := by decide +kernel
theorem dc_N_clear_1 : decode prog_3_method_2_code 1 = .ok (.iconst 0, 1) := by decide +kernel
theorem dc_N_clear_2 : decode prog_3_method_2_code 2 = .ok (.putfield 28, 3) := by decide +kernel
theorem fp_N_clear_28 : am_fp mt_N_clear.1 28 9 0 (.int) := ⟨"WebFinder$Answers", tt_N, 4, rfl, by decide, ct_N 0 (by decide), Or.inl ⟨(am_t2 130 rfl rfl), Or.inl rfl⟩⟩
theorem dc_N_clear_5 : decode prog_3_method_2_code 5 = .ok (.return_, 1) := by decide +kernel
theorem dc_W_document_0 : decode prog_1_method_23_code 0 = .ok (.iload_n 1, 1) := by decide +kernel
theorem dc_W_document_1 : decode prog_1_method_23_code 1 = .ok (.ifCond .lt 14, 3) := by decide +kernel
theorem dc_W_document_4 : decode prog_1_method_23_code 4 = .ok (.iload_n 1, 1) := by decide +kernel
theorem dc_W_document_5 : decode prog_1_method_23_code 5 = .ok (.aload_n 0, 1) := by decide +kernel
theorem dc_W_document_6 : decode prog_1_method_23_code 6 = .ok (.getfield 74, 3) := by decide +kernel
theorem dc_W_document_9 : decode prog_1_method_23_code 9 = .ok (.getfield 226, 3) := by decide +kernel
theorem dc_W_document_12 : decode prog_1_method_23_code 12 = .ok (.if_icmp .lt 5, 3) := by decide +kernel
theorem dc_W_document_15 : decode prog_1_method_23_code 15 = .ok (.iconst (-1), 1) := by decide +kernel
theorem dc_W_document_16 : decode prog_1_method_23_code 16 = .ok (.ireturn, 1) := by decide +kernel
theorem dc_W_document_17 : decode prog_1_method_23_code 17 = .ok (.iload_n 2, 1) := by decide +kernel
theorem dc_W_document_18 : decode prog_1_method_23_code 18 = .ok (.tableswitch 110 0 5 #[38, 48, 58, 68, 78, 88], 38) := by decide +kernel
theorem dc_W_document_56 : decode prog_1_method_23_code 56 = .ok (.aload_n 0, 1) := by decide +kernel
theorem dc_W_document_57 : decode prog_1_method_23_code 57 = .ok (.getfield 74, 3) := by decide +kernel
theorem dc_W_document_60 : decode prog_1_method_23_code 60 = .ok (.getfield 238, 3) := by decide +kernel
theorem fl_W_238 : am_fl "WebFinder" 238 8 2 := ⟨"WebFinder$Documents", tt_D, 15, rfl, by decide, Or.inl (am_t2 70 rfl rfl)⟩
theorem dc_W_document_63 : decode prog_1_method_23_code 63 = .ok (.iload_n 1, 1) := by decide +kernel
theorem dc_W_document_64 : decode prog_1_method_23_code 64 = .ok (.iaload, 1) := by decide +kernel
theorem dc_W_document_65 : decode prog_1_method_23_code 65 = .ok (.ireturn, 1) := by decide +kernel
theorem dc_W_document_66 : decode prog_1_method_23_code 66 = .ok (.aload_n 0, 1) := by decide +kernel
theorem dc_W_document_67 : decode prog_1_method_23_code 67 = .ok (.getfield 74, 3) := by decide +kernel
theorem dc_W_document_70 : decode prog_1_method_23_code 70 = .ok (.getfield 241, 3) := by decide +kernel
theorem fl_W_241 : am_fl "WebFinder" 241 8 3 := ⟨"WebFinder$Documents", tt_D, 15, rfl, by decide, Or.inl (am_t2 73 rfl rfl)⟩
theorem dc_W_document_73 : decode prog_1_method_23_code 73 = .ok (.iload_n 1, 1) := by decide +kernel
theorem dc_W_document_74 : decode prog_1_method_23_code 74 = .ok (.iaload, 1) := by decide +kernel
theorem dc_W_document_75 : decode prog_1_method_23_code 75 = .ok (.ireturn, 1) := by decide +kernel
theorem dc_W_document_76 : decode prog_1_method_23_code 76 = .ok (.aload_n 0, 1) := by decide +kernel
theorem dc_W_document_77 : decode prog_1_method_23_code 77 = .ok (.getfield 74, 3) := by decide +kernel
theorem dc_W_document_80 : decode prog_1_method_23_code 80 = .ok (.getfield 244, 3) := by decide +kernel
theorem fl_W_244 : am_fl "WebFinder" 244 8 4 := ⟨"WebFinder$Documents", tt_D, 15, rfl, by decide, Or.inl (am_t2 75 rfl rfl)⟩
theorem dc_W_document_83 : decode prog_1_method_23_code 83 = .ok (.iload_n 1, 1) := by decide +kernel
theorem dc_W_document_84 : decode prog_1_method_23_code 84 = .ok (.iaload, 1) := by decide +kernel
theorem dc_W_document_85 : decode prog_1_method_23_code 85 = .ok (.ireturn, 1) := by decide +kernel
theorem dc_W_document_86 : decode prog_1_method_23_code 86 = .ok (.aload_n 0, 1) := by decide +kernel
theorem dc_W_document_87 : decode prog_1_method_23_code 87 = .ok (.getfield 74, 3) := by decide +kernel
theorem dc_W_document_90 : decode prog_1_method_23_code 90 = .ok (.getfield 247, 3) := by decide +kernel
theorem fl_W_247 : am_fl "WebFinder" 247 8 5 := ⟨"WebFinder$Documents", tt_D, 15, rfl, by decide, Or.inl (am_t2 77 rfl rfl)⟩
theorem dc_W_document_93 : decode prog_1_method_23_code 93 = .ok (.iload_n 1, 1) := by decide +kernel
theorem dc_W_document_94 : decode prog_1_method_23_code 94 = .ok (.iaload, 1) := by decide +kernel
theorem dc_W_document_95 : decode prog_1_method_23_code 95 = .ok (.ireturn, 1) := by decide +kernel
theorem dc_W_document_96 : decode prog_1_method_23_code 96 = .ok (.aload_n 0, 1) := by decide +kernel
theorem dc_W_document_97 : decode prog_1_method_23_code 97 = .ok (.getfield 74, 3) := by decide +kernel
theorem dc_W_document_100 : decode prog_1_method_23_code 100 = .ok (.getfield 250, 3) := by decide +kernel
theorem fl_W_250 : am_fl "WebFinder" 250 8 6 := ⟨"WebFinder$Documents", tt_D, 15, rfl, by decide, Or.inl (am_t2 79 rfl rfl)⟩
theorem dc_W_document_103 : decode prog_1_method_23_code 103 = .ok (.iload_n 1, 1) := by decide +kernel
theorem dc_W_document_104 : decode prog_1_method_23_code 104 = .ok (.iaload, 1) := by decide +kernel
theorem dc_W_document_105 : decode prog_1_method_23_code 105 = .ok (.ireturn, 1) := by decide +kernel
theorem dc_W_document_106 : decode prog_1_method_23_code 106 = .ok (.aload_n 0, 1) := by decide +kernel
theorem dc_W_document_107 : decode prog_1_method_23_code 107 = .ok (.getfield 74, 3) := by decide +kernel
theorem dc_W_document_110 : decode prog_1_method_23_code 110 = .ok (.getfield 253, 3) := by decide +kernel
theorem fl_W_253 : am_fl "WebFinder" 253 8 7 := ⟨"WebFinder$Documents", tt_D, 15, rfl, by decide, Or.inl (am_t2 82 rfl rfl)⟩
theorem dc_W_document_113 : decode prog_1_method_23_code 113 = .ok (.iload_n 1, 1) := by decide +kernel
theorem dc_W_document_114 : decode prog_1_method_23_code 114 = .ok (.iconst 1, 1) := by decide +kernel
theorem dc_W_document_115 : decode prog_1_method_23_code 115 = .ok (.iadd, 1) := by decide +kernel
theorem dc_W_document_116 : decode prog_1_method_23_code 116 = .ok (.iaload, 1) := by decide +kernel
theorem dc_W_document_117 : decode prog_1_method_23_code 117 = .ok (.aload_n 0, 1) := by decide +kernel
theorem dc_W_document_118 : decode prog_1_method_23_code 118 = .ok (.getfield 74, 3) := by decide +kernel
theorem dc_W_document_121 : decode prog_1_method_23_code 121 = .ok (.getfield 253, 3) := by decide +kernel
theorem dc_W_document_124 : decode prog_1_method_23_code 124 = .ok (.iload_n 1, 1) := by decide +kernel
theorem dc_W_document_125 : decode prog_1_method_23_code 125 = .ok (.iaload, 1) := by decide +kernel
theorem dc_W_document_126 : decode prog_1_method_23_code 126 = .ok (.isub, 1) := by decide +kernel
theorem dc_W_document_127 : decode prog_1_method_23_code 127 = .ok (.ireturn, 1) := by decide +kernel
theorem dc_W_document_128 : decode prog_1_method_23_code 128 = .ok (.iconst (-1), 1) := by decide +kernel
theorem dc_W_document_129 : decode prog_1_method_23_code 129 = .ok (.ireturn, 1) := by decide +kernel
theorem dc_W_where_0 : decode prog_1_method_24_code 0 = .ok (.iload_n 1, 1) := by decide +kernel
theorem dc_W_where_1 : decode prog_1_method_24_code 1 = .ok (.ifCond .lt 14, 3) := by decide +kernel
theorem dc_W_where_4 : decode prog_1_method_24_code 4 = .ok (.iload_n 1, 1) := by decide +kernel
theorem dc_W_where_5 : decode prog_1_method_24_code 5 = .ok (.aload_n 0, 1) := by decide +kernel
theorem dc_W_where_6 : decode prog_1_method_24_code 6 = .ok (.getfield 74, 3) := by decide +kernel
theorem dc_W_where_9 : decode prog_1_method_24_code 9 = .ok (.getfield 226, 3) := by decide +kernel
theorem dc_W_where_12 : decode prog_1_method_24_code 12 = .ok (.if_icmp .lt 5, 3) := by decide +kernel
theorem dc_W_where_15 : decode prog_1_method_24_code 15 = .ok (.iconst (-1), 1) := by decide +kernel
theorem dc_W_where_16 : decode prog_1_method_24_code 16 = .ok (.ireturn, 1) := by decide +kernel
theorem dc_W_where_17 : decode prog_1_method_24_code 17 = .ok (.aload_n 0, 1) := by decide +kernel
theorem dc_W_where_18 : decode prog_1_method_24_code 18 = .ok (.getfield 74, 3) := by decide +kernel
theorem dc_W_where_21 : decode prog_1_method_24_code 21 = .ok (.getfield 256, 3) := by decide +kernel
theorem fl_W_256 : am_fl "WebFinder" 256 8 1 := ⟨"WebFinder$Documents", tt_D, 15, rfl, by decide, Or.inl (am_t2 68 rfl rfl)⟩
theorem dc_W_where_24 : decode prog_1_method_24_code 24 = .ok (.iload_n 1, 1) := by decide +kernel
theorem dc_W_where_25 : decode prog_1_method_24_code 25 = .ok (.aaload, 1) := by decide +kernel
theorem dc_W_where_26 : decode prog_1_method_24_code 26 = .ok (.getfield 260, 3) := by decide +kernel
theorem fl_W_260 : am_fl "WebFinder" 260 10 0 := ⟨"WebFinder$Page", tt_G, 3, rfl, by decide, Or.inl (am_t5 2 rfl rfl)⟩
theorem dc_W_where_29 : decode prog_1_method_24_code 29 = .ok (.astore_n 2, 1) := by decide +kernel
theorem dc_W_where_30 : decode prog_1_method_24_code 30 = .ok (.aload_n 0, 1) := by decide +kernel
theorem dc_W_where_31 : decode prog_1_method_24_code 31 = .ok (.getfield 18, 3) := by decide +kernel
theorem dc_W_where_34 : decode prog_1_method_24_code 34 = .ok (.invokevirtual 121, 3) := by decide +kernel
theorem dc_W_where_37 : decode prog_1_method_24_code 37 = .ok (.aload_n 0, 1) := by decide +kernel
theorem dc_W_where_38 : decode prog_1_method_24_code 38 = .ok (.getfield 18, 3) := by decide +kernel
theorem dc_W_where_41 : decode prog_1_method_24_code 41 = .ok (.aload_n 2, 1) := by decide +kernel
theorem dc_W_where_42 : decode prog_1_method_24_code 42 = .ok (.iconst 0, 1) := by decide +kernel
theorem dc_W_where_43 : decode prog_1_method_24_code 43 = .ok (.aload_n 2, 1) := by decide +kernel
theorem dc_W_where_44 : decode prog_1_method_24_code 44 = .ok (.arraylength, 1) := by decide +kernel
theorem dc_W_where_45 : decode prog_1_method_24_code 45 = .ok (.invokevirtual 265, 3) := by decide +kernel
theorem dc_W_where_48 : decode prog_1_method_24_code 48 = .ok (.aload_n 0, 1) := by decide +kernel
theorem dc_W_where_49 : decode prog_1_method_24_code 49 = .ok (.getfield 18, 3) := by decide +kernel
theorem dc_W_where_52 : decode prog_1_method_24_code 52 = .ok (.getfield 85, 3) := by decide +kernel
theorem dc_W_where_55 : decode prog_1_method_24_code 55 = .ok (.ireturn, 1) := by decide +kernel
theorem dc_W_ask_0 : decode prog_1_method_25_code 0 = .ok (.iconst (-1), 1) := by decide +kernel
theorem dc_W_ask_1 : decode prog_1_method_25_code 1 = .ok (.istore_n 2, 1) := by decide +kernel
theorem dc_W_ask_2 : decode prog_1_method_25_code 2 = .ok (.iload_n 1, 1) := by decide +kernel
theorem dc_W_ask_3 : decode prog_1_method_25_code 3 = .ok (.ifCond .lt 32, 3) := by decide +kernel
theorem dc_W_ask_6 : decode prog_1_method_25_code 6 = .ok (.iload_n 1, 1) := by decide +kernel
theorem dc_W_ask_7 : decode prog_1_method_25_code 7 = .ok (.iconst 2, 1) := by decide +kernel
theorem dc_W_ask_8 : decode prog_1_method_25_code 8 = .ok (.if_icmp .gt 27, 3) := by decide +kernel
theorem dc_W_ask_11 : decode prog_1_method_25_code 11 = .ok (.aload_n 0, 1) := by decide +kernel
theorem dc_W_ask_12 : decode prog_1_method_25_code 12 = .ok (.getfield 81, 3) := by decide +kernel
theorem dc_W_ask_15 : decode prog_1_method_25_code 15 = .ok (.aload_n 0, 1) := by decide +kernel
theorem dc_W_ask_16 : decode prog_1_method_25_code 16 = .ok (.getfield 12, 3) := by decide +kernel
theorem dc_W_ask_19 : decode prog_1_method_25_code 19 = .ok (.iload_n 1, 1) := by decide +kernel
theorem dc_W_ask_20 : decode prog_1_method_25_code 20 = .ok (.aload_n 0, 1) := by decide +kernel
theorem dc_W_ask_21 : decode prog_1_method_25_code 21 = .ok (.getfield 74, 3) := by decide +kernel
theorem dc_W_ask_24 : decode prog_1_method_25_code 24 = .ok (.invokevirtual 268, 3) := by decide +kernel
theorem mo_N_answer : am_mo mt_N_answer 3 := ⟨⟨by decide +kernel, by decide +kernel⟩, by decide +kernel, ⟨by decide +kernel, by decide +kernel⟩, (am_t7 12 rfl rfl), (am_t1 10 rfl rfl), by decide +kernel⟩
theorem im_N_answer : Cond.instanceMethod mt_N_answer.1 ∈ am_gw := (am_t7 10 rfl rfl)
theorem se_N_answer : Cond.selects mt_N_answer.1.cls mt_N_answer.1 mt_N_answer.1 ∈ am_gw := (am_t7 11 rfl rfl)
theorem ln_W_268 : am_ln "WebFinder" 268 mt_N_answer.1 := Or.inl (am_t7 9 rfl rfl)
theorem dc_W_ask_27 : decode prog_1_method_25_code 27 = .ok (.aload_n 0, 1) := by decide +kernel
theorem dc_W_ask_28 : decode prog_1_method_25_code 28 = .ok (.getfield 81, 3) := by decide +kernel
theorem dc_W_ask_31 : decode prog_1_method_25_code 31 = .ok (.getfield 272, 3) := by decide +kernel
theorem fl_W_272 : am_fl "WebFinder" 272 9 0 := ⟨"WebFinder$Answers", tt_N, 4, rfl, by decide, Or.inl (am_t2 131 rfl rfl)⟩
theorem dc_W_ask_34 : decode prog_1_method_25_code 34 = .ok (.istore_n 2, 1) := by decide +kernel
theorem dc_W_ask_35 : decode prog_1_method_25_code 35 = .ok (.aload_n 0, 1) := by decide +kernel
theorem dc_W_ask_36 : decode prog_1_method_25_code 36 = .ok (.getfield 12, 3) := by decide +kernel
theorem dc_W_ask_39 : decode prog_1_method_25_code 39 = .ok (.invokevirtual 121, 3) := by decide +kernel
theorem dc_W_ask_42 : decode prog_1_method_25_code 42 = .ok (.iload_n 2, 1) := by decide +kernel
theorem dc_W_ask_43 : decode prog_1_method_25_code 43 = .ok (.ireturn, 1) := by decide +kernel
theorem dc_N_answer_0 : decode prog_3_method_3_code 0 = .ok (.aload_n 0, 1) := by decide +kernel
theorem dc_N_answer_1 : decode prog_3_method_3_code 1 = .ok (.iconst 0, 1) := by decide +kernel
theorem dc_N_answer_2 : decode prog_3_method_3_code 2 = .ok (.putfield 28, 3) := by decide +kernel
theorem fp_N_answer_28 : am_fp mt_N_answer.1 28 9 0 (.int) := ⟨"WebFinder$Answers", tt_N, 4, rfl, by decide, ct_N 0 (by decide), Or.inl ⟨(am_t2 130 rfl rfl), Or.inl rfl⟩⟩
theorem dc_N_answer_5 : decode prog_3_method_3_code 5 = .ok (.aload_n 0, 1) := by decide +kernel
theorem dc_N_answer_6 : decode prog_3_method_3_code 6 = .ok (.getfield 24, 3) := by decide +kernel
theorem fl_N_24 : am_fl "WebFinder$Answers" 24 9 3 := ⟨"WebFinder$Answers", tt_N, 4, rfl, by decide, Or.inl (am_t2 136 rfl rfl)⟩
theorem dc_N_answer_9 : decode prog_3_method_3_code 9 = .ok (.invokevirtual 32, 3) := by decide +kernel
theorem ln_N_32 : am_ln "WebFinder$Answers" 32 mt_R_clear.1 := Or.inl (am_t7 13 rfl rfl)
theorem dc_N_answer_12 : decode prog_3_method_3_code 12 = .ok (.aload_n 1, 1) := by decide +kernel
theorem dc_N_answer_13 : decode prog_3_method_3_code 13 = .ok (.aload_n 0, 1) := by decide +kernel
theorem dc_N_answer_14 : decode prog_3_method_3_code 14 = .ok (.getfield 24, 3) := by decide +kernel
theorem dc_N_answer_17 : decode prog_3_method_3_code 17 = .ok (.invokestatic 35, 3) := by decide +kernel
theorem ln_N_35 : am_ln "WebFinder$Answers" 35 mt_P_splitWords.1 := Or.inl (am_t7 14 rfl rfl)
theorem dc_N_answer_20 : decode prog_3_method_3_code 20 = .ok (.aload_n 0, 1) := by decide +kernel
theorem dc_N_answer_21 : decode prog_3_method_3_code 21 = .ok (.getfield 24, 3) := by decide +kernel
theorem dc_N_answer_24 : decode prog_3_method_3_code 24 = .ok (.aload_n 0, 1) := by decide +kernel
theorem dc_N_answer_25 : decode prog_3_method_3_code 25 = .ok (.getfield 24, 3) := by decide +kernel
theorem dc_N_answer_28 : decode prog_3_method_3_code 28 = .ok (.getfield 41, 3) := by decide +kernel
theorem fl_N_41 : am_fl "WebFinder$Answers" 41 4 2 := ⟨"WebFinder$Rows", tt_R, 3, rfl, by decide, Or.inl (am_t1 116 rfl rfl)⟩
theorem dc_N_answer_31 : decode prog_3_method_3_code 31 = .ok (.bipush 8, 2) := by decide +kernel
theorem dc_N_answer_33 : decode prog_3_method_3_code 33 = .ok (.invokestatic 42, 3) := by decide +kernel
theorem ln_N_42 : am_ln "WebFinder$Answers" 42 mt_JMath_min.1 := Or.inl (am_t7 15 rfl rfl)
theorem dc_N_answer_36 : decode prog_3_method_3_code 36 = .ok (.invokevirtual 48, 3) := by decide +kernel
theorem ln_N_48 : am_ln "WebFinder$Answers" 48 mt_R_cut.1 := Or.inl (am_t7 16 rfl rfl)
theorem dc_N_answer_39 : decode prog_3_method_3_code 39 = .ok (.iconst 0, 1) := by decide +kernel
theorem dc_N_answer_40 : decode prog_3_method_3_code 40 = .ok (.istore 4, 2) := by decide +kernel
theorem dc_N_answer_42 : decode prog_3_method_3_code 42 = .ok (.iload 4, 2) := by decide +kernel
theorem dc_N_answer_44 : decode prog_3_method_3_code 44 = .ok (.aload_n 3, 1) := by decide +kernel
theorem dc_N_answer_45 : decode prog_3_method_3_code 45 = .ok (.getfield 52, 3) := by decide +kernel
theorem fl_N_52 : am_fl "WebFinder$Answers" 52 8 0 := ⟨"WebFinder$Documents", tt_D, 15, rfl, by decide, Or.inl (am_t2 65 rfl rfl)⟩
theorem dc_N_answer_48 : decode prog_3_method_3_code 48 = .ok (.if_icmp .ge 66, 3) := by decide +kernel
theorem dc_N_answer_51 : decode prog_3_method_3_code 51 = .ok (.iload_n 2, 1) := by decide +kernel
theorem dc_N_answer_52 : decode prog_3_method_3_code 52 = .ok (.iconst 2, 1) := by decide +kernel
theorem dc_N_answer_53 : decode prog_3_method_3_code 53 = .ok (.if_icmp .ne 13, 3) := by decide +kernel
theorem dc_N_answer_56 : decode prog_3_method_3_code 56 = .ok (.aload_n 0, 1) := by decide +kernel
theorem dc_N_answer_57 : decode prog_3_method_3_code 57 = .ok (.aload_n 3, 1) := by decide +kernel
theorem dc_N_answer_58 : decode prog_3_method_3_code 58 = .ok (.iload 4, 2) := by decide +kernel
theorem dc_N_answer_60 : decode prog_3_method_3_code 60 = .ok (.invokevirtual 55, 3) := by decide +kernel
theorem mo_N_placesOfRow : am_mo mt_N_placesOfRow 2 := ⟨⟨by decide +kernel, by decide +kernel⟩, by decide +kernel, ⟨by decide +kernel, by decide +kernel⟩, (am_t7 20 rfl rfl), (am_t1 10 rfl rfl), by decide +kernel⟩
theorem im_N_placesOfRow : Cond.instanceMethod mt_N_placesOfRow.1 ∈ am_gw := (am_t7 19 rfl rfl)
theorem se_N_placesOfRow : Cond.selects mt_N_placesOfRow.1.cls mt_N_placesOfRow.1 mt_N_placesOfRow.1 ∈ am_gw := am_in (List.mem_append_left _ (by decide +kernel)) rfl
theorem ln_N_55 : am_ln "WebFinder$Answers" 55 mt_N_placesOfRow.1 := Or.inl (am_t7 17 rfl rfl)
theorem dc_N_answer_63 : decode prog_3_method_3_code 63 = .ok (.goto 20, 3) := by decide +kernel
theorem dc_N_answer_66 : decode prog_3_method_3_code 66 = .ok (.aload_n 0, 1) := by decide +kernel
theorem dc_N_answer_67 : decode prog_3_method_3_code 67 = .ok (.aload_n 3, 1) := by decide +kernel
theorem dc_N_answer_68 : decode prog_3_method_3_code 68 = .ok (.iload 4, 2) := by decide +kernel
theorem dc_N_answer_70 : decode prog_3_method_3_code 70 = .ok (.iload_n 2, 1) := by decide +kernel
theorem dc_N_answer_71 : decode prog_3_method_3_code 71 = .ok (.iconst 1, 1) := by decide +kernel
theorem dc_N_answer_72 : decode prog_3_method_3_code 72 = .ok (.if_icmp .ne 7, 3) := by decide +kernel
theorem dc_N_answer_75 : decode prog_3_method_3_code 75 = .ok (.iconst 1, 1) := by decide +kernel
theorem dc_N_answer_76 : decode prog_3_method_3_code 76 = .ok (.goto 4, 3) := by decide +kernel
theorem dc_N_answer_79 : decode prog_3_method_3_code 79 = .ok (.iconst 0, 1) := by decide +kernel
theorem dc_N_answer_80 : decode prog_3_method_3_code 80 = .ok (.invokevirtual 59, 3) := by decide +kernel
theorem mo_N_placesOfWords : am_mo mt_N_placesOfWords 3 := ⟨⟨by decide +kernel, by decide +kernel⟩, by decide +kernel, ⟨by decide +kernel, by decide +kernel⟩, (am_t7 31 rfl rfl), (am_t1 10 rfl rfl), by decide +kernel⟩
theorem im_N_placesOfWords : Cond.instanceMethod mt_N_placesOfWords.1 ∈ am_gw := (am_t7 30 rfl rfl)
theorem se_N_placesOfWords : Cond.selects mt_N_placesOfWords.1.cls mt_N_placesOfWords.1 mt_N_placesOfWords.1 ∈ am_gw := am_in (List.mem_append_left _ (by decide +kernel)) rfl
theorem ln_N_59 : am_ln "WebFinder$Answers" 59 mt_N_placesOfWords.1 := Or.inl (am_t7 28 rfl rfl)
theorem dc_N_answer_83 : decode prog_3_method_3_code 83 = .ok (.istore 5, 2) := by decide +kernel
theorem dc_N_answer_85 : decode prog_3_method_3_code 85 = .ok (.iload 5, 2) := by decide +kernel
theorem dc_N_answer_87 : decode prog_3_method_3_code 87 = .ok (.ifCond .le 21, 3) := by decide +kernel
theorem dc_N_answer_90 : decode prog_3_method_3_code 90 = .ok (.aload_n 0, 1) := by decide +kernel
theorem dc_N_answer_91 : decode prog_3_method_3_code 91 = .ok (.iload 4, 2) := by decide +kernel
theorem dc_N_answer_93 : decode prog_3_method_3_code 93 = .ok (.iload 5, 2) := by decide +kernel
theorem dc_N_answer_95 : decode prog_3_method_3_code 95 = .ok (.i2l, 1) := by decide +kernel
theorem dc_N_answer_96 : decode prog_3_method_3_code 96 = .ok (.aload_n 3, 1) := by decide +kernel
theorem dc_N_answer_97 : decode prog_3_method_3_code 97 = .ok (.getfield 63, 3) := by decide +kernel
theorem fl_N_63 : am_fl "WebFinder$Answers" 63 8 3 := ⟨"WebFinder$Documents", tt_D, 15, rfl, by decide, Or.inl (am_t2 72 rfl rfl)⟩
theorem dc_N_answer_100 : decode prog_3_method_3_code 100 = .ok (.iload 4, 2) := by decide +kernel
theorem dc_N_answer_102 : decode prog_3_method_3_code 102 = .ok (.iaload, 1) := by decide +kernel
theorem dc_N_answer_103 : decode prog_3_method_3_code 103 = .ok (.i2l, 1) := by decide +kernel
theorem dc_N_answer_104 : decode prog_3_method_3_code 104 = .ok (.lmul, 1) := by decide +kernel
theorem dc_N_answer_105 : decode prog_3_method_3_code 105 = .ok (.invokevirtual 66, 3) := by decide +kernel
theorem mo_N_insert : am_mo mt_N_insert 2 := ⟨⟨by decide +kernel, by decide +kernel⟩, by decide +kernel, ⟨by decide +kernel, by decide +kernel⟩, (am_t7 35 rfl rfl), (am_t1 10 rfl rfl), by decide +kernel⟩
theorem im_N_insert : Cond.instanceMethod mt_N_insert.1 ∈ am_gw := (am_t7 34 rfl rfl)
theorem se_N_insert : Cond.selects mt_N_insert.1.cls mt_N_insert.1 mt_N_insert.1 ∈ am_gw := am_in (List.mem_append_left _ (by decide +kernel)) rfl
theorem ln_N_66 : am_ln "WebFinder$Answers" 66 mt_N_insert.1 := Or.inl (am_t7 32 rfl rfl)
theorem dc_N_answer_108 : decode prog_3_method_3_code 108 = .ok (.iinc 4 1, 3) := by decide +kernel
theorem dc_N_answer_111 : decode prog_3_method_3_code 111 = .ok (.goto (-69), 3) := by decide +kernel
theorem dc_N_answer_114 : decode prog_3_method_3_code 114 = .ok (.return_, 1) := by decide +kernel
theorem dc_N_placesOfRow_0 : decode prog_3_method_5_code 0 = .ok (.iconst 0, 1) := by decide +kernel
theorem dc_N_placesOfRow_1 : decode prog_3_method_5_code 1 = .ok (.istore_n 3, 1) := by decide +kernel
theorem dc_N_placesOfRow_2 : decode prog_3_method_5_code 2 = .ok (.aload_n 1, 1) := by decide +kernel
theorem dc_N_placesOfRow_3 : decode prog_3_method_5_code 3 = .ok (.getfield 70, 3) := by decide +kernel
theorem fl_N_70 : am_fl "WebFinder$Answers" 70 8 7 := ⟨"WebFinder$Documents", tt_D, 15, rfl, by decide, Or.inl (am_t2 81 rfl rfl)⟩
theorem dc_N_placesOfRow_6 : decode prog_3_method_5_code 6 = .ok (.iload_n 2, 1) := by decide +kernel
theorem dc_N_placesOfRow_7 : decode prog_3_method_5_code 7 = .ok (.iconst 1, 1) := by decide +kernel
theorem dc_N_placesOfRow_8 : decode prog_3_method_5_code 8 = .ok (.iadd, 1) := by decide +kernel
theorem dc_N_placesOfRow_9 : decode prog_3_method_5_code 9 = .ok (.iaload, 1) := by decide +kernel
theorem dc_N_placesOfRow_10 : decode prog_3_method_5_code 10 = .ok (.aload_n 0, 1) := by decide +kernel
theorem dc_N_placesOfRow_11 : decode prog_3_method_5_code 11 = .ok (.getfield 24, 3) := by decide +kernel
theorem dc_N_placesOfRow_14 : decode prog_3_method_5_code 14 = .ok (.getfield 41, 3) := by decide +kernel
theorem dc_N_placesOfRow_17 : decode prog_3_method_5_code 17 = .ok (.isub, 1) := by decide +kernel
theorem dc_N_placesOfRow_18 : decode prog_3_method_5_code 18 = .ok (.istore 4, 2) := by decide +kernel
theorem dc_N_placesOfRow_20 : decode prog_3_method_5_code 20 = .ok (.aload_n 1, 1) := by decide +kernel
theorem dc_N_placesOfRow_21 : decode prog_3_method_5_code 21 = .ok (.getfield 70, 3) := by decide +kernel
theorem dc_N_placesOfRow_24 : decode prog_3_method_5_code 24 = .ok (.iload_n 2, 1) := by decide +kernel
theorem dc_N_placesOfRow_25 : decode prog_3_method_5_code 25 = .ok (.iaload, 1) := by decide +kernel
theorem dc_N_placesOfRow_26 : decode prog_3_method_5_code 26 = .ok (.istore 5, 2) := by decide +kernel
theorem dc_N_placesOfRow_28 : decode prog_3_method_5_code 28 = .ok (.aload_n 0, 1) := by decide +kernel
theorem dc_N_placesOfRow_29 : decode prog_3_method_5_code 29 = .ok (.getfield 24, 3) := by decide +kernel
theorem dc_N_placesOfRow_32 : decode prog_3_method_5_code 32 = .ok (.getfield 41, 3) := by decide +kernel
theorem dc_N_placesOfRow_35 : decode prog_3_method_5_code 35 = .ok (.ifCond .le 67, 3) := by decide +kernel
theorem dc_N_placesOfRow_38 : decode prog_3_method_5_code 38 = .ok (.iload 5, 2) := by decide +kernel
theorem dc_N_placesOfRow_40 : decode prog_3_method_5_code 40 = .ok (.iload 4, 2) := by decide +kernel
theorem dc_N_placesOfRow_42 : decode prog_3_method_5_code 42 = .ok (.if_icmp .gt 60, 3) := by decide +kernel
theorem dc_N_placesOfRow_45 : decode prog_3_method_5_code 45 = .ok (.iconst 0, 1) := by decide +kernel
theorem dc_N_placesOfRow_46 : decode prog_3_method_5_code 46 = .ok (.istore 6, 2) := by decide +kernel
theorem dc_N_placesOfRow_48 : decode prog_3_method_5_code 48 = .ok (.iload 6, 2) := by decide +kernel
theorem dc_N_placesOfRow_50 : decode prog_3_method_5_code 50 = .ok (.aload_n 0, 1) := by decide +kernel
theorem dc_N_placesOfRow_51 : decode prog_3_method_5_code 51 = .ok (.getfield 24, 3) := by decide +kernel
theorem dc_N_placesOfRow_54 : decode prog_3_method_5_code 54 = .ok (.getfield 41, 3) := by decide +kernel
theorem dc_N_placesOfRow_57 : decode prog_3_method_5_code 57 = .ok (.if_icmp .ge 24, 3) := by decide +kernel
theorem dc_N_placesOfRow_60 : decode prog_3_method_5_code 60 = .ok (.aload_n 0, 1) := by decide +kernel
theorem dc_N_placesOfRow_61 : decode prog_3_method_5_code 61 = .ok (.aload_n 1, 1) := by decide +kernel
theorem dc_N_placesOfRow_62 : decode prog_3_method_5_code 62 = .ok (.iload 5, 2) := by decide +kernel
theorem dc_N_placesOfRow_64 : decode prog_3_method_5_code 64 = .ok (.iload 6, 2) := by decide +kernel
theorem dc_N_placesOfRow_66 : decode prog_3_method_5_code 66 = .ok (.iadd, 1) := by decide +kernel
theorem dc_N_placesOfRow_67 : decode prog_3_method_5_code 67 = .ok (.iload 6, 2) := by decide +kernel
theorem dc_N_placesOfRow_69 : decode prog_3_method_5_code 69 = .ok (.invokevirtual 73, 3) := by decide +kernel
theorem mo_N_isWordAt : am_mo mt_N_isWordAt 3 := ⟨⟨by decide +kernel, by decide +kernel⟩, by decide +kernel, ⟨by decide +kernel, by decide +kernel⟩, (am_t7 24 rfl rfl), (am_t1 10 rfl rfl), by decide +kernel⟩
theorem im_N_isWordAt : Cond.instanceMethod mt_N_isWordAt.1 ∈ am_gw := (am_t7 23 rfl rfl)
theorem se_N_isWordAt : Cond.selects mt_N_isWordAt.1.cls mt_N_isWordAt.1 mt_N_isWordAt.1 ∈ am_gw := am_in (List.mem_append_left _ (by decide +kernel)) rfl
theorem ln_N_73 : am_ln "WebFinder$Answers" 73 mt_N_isWordAt.1 := Or.inl (am_t7 21 rfl rfl)
theorem dc_N_placesOfRow_72 : decode prog_3_method_5_code 72 = .ok (.ifCond .eq 9, 3) := by decide +kernel
theorem dc_N_placesOfRow_75 : decode prog_3_method_5_code 75 = .ok (.iinc 6 1, 3) := by decide +kernel
theorem dc_N_placesOfRow_78 : decode prog_3_method_5_code 78 = .ok (.goto (-30), 3) := by decide +kernel
theorem dc_N_placesOfRow_81 : decode prog_3_method_5_code 81 = .ok (.iload 6, 2) := by decide +kernel
theorem dc_N_placesOfRow_83 : decode prog_3_method_5_code 83 = .ok (.aload_n 0, 1) := by decide +kernel
theorem dc_N_placesOfRow_84 : decode prog_3_method_5_code 84 = .ok (.getfield 24, 3) := by decide +kernel
theorem dc_N_placesOfRow_87 : decode prog_3_method_5_code 87 = .ok (.getfield 41, 3) := by decide +kernel
theorem dc_N_placesOfRow_90 : decode prog_3_method_5_code 90 = .ok (.if_icmp .ne 6, 3) := by decide +kernel
theorem dc_N_placesOfRow_93 : decode prog_3_method_5_code 93 = .ok (.iinc 3 1, 3) := by decide +kernel
theorem dc_N_placesOfRow_96 : decode prog_3_method_5_code 96 = .ok (.iinc 5 1, 3) := by decide +kernel
theorem dc_N_placesOfRow_99 : decode prog_3_method_5_code 99 = .ok (.goto (-71), 3) := by decide +kernel
theorem dc_N_placesOfRow_102 : decode prog_3_method_5_code 102 = .ok (.iload_n 3, 1) := by decide +kernel
theorem dc_N_placesOfRow_103 : decode prog_3_method_5_code 103 = .ok (.ireturn, 1) := by decide +kernel
theorem dc_N_isWordAt_0 : decode prog_3_method_7_code 0 = .ok (.aload_n 1, 1) := by decide +kernel
theorem dc_N_isWordAt_1 : decode prog_3_method_7_code 1 = .ok (.getfield 77, 3) := by decide +kernel
theorem fl_N_77 : am_fl "WebFinder$Answers" 77 8 8 := ⟨"WebFinder$Documents", tt_D, 15, rfl, by decide, Or.inl (am_t2 84 rfl rfl)⟩
theorem dc_N_isWordAt_4 : decode prog_3_method_7_code 4 = .ok (.iload_n 2, 1) := by decide +kernel
theorem dc_N_isWordAt_5 : decode prog_3_method_7_code 5 = .ok (.aload_n 0, 1) := by decide +kernel
theorem dc_N_isWordAt_6 : decode prog_3_method_7_code 6 = .ok (.getfield 24, 3) := by decide +kernel
theorem dc_N_isWordAt_9 : decode prog_3_method_7_code 9 = .ok (.getfield 80, 3) := by decide +kernel
theorem fl_N_80 : am_fl "WebFinder$Answers" 80 4 0 := ⟨"WebFinder$Rows", tt_R, 3, rfl, by decide, Or.inl (am_t1 108 rfl rfl)⟩
theorem dc_N_isWordAt_12 : decode prog_3_method_7_code 12 = .ok (.getfield 84, 3) := by decide +kernel
theorem fl_N_84 : am_fl "WebFinder$Answers" 84 1 0 := ⟨"WebFinder$Bytes", tt_B, 2, rfl, by decide, Or.inl (am_t1 53 rfl rfl)⟩
theorem dc_N_isWordAt_15 : decode prog_3_method_7_code 15 = .ok (.aload_n 0, 1) := by decide +kernel
theorem dc_N_isWordAt_16 : decode prog_3_method_7_code 16 = .ok (.getfield 24, 3) := by decide +kernel
theorem dc_N_isWordAt_19 : decode prog_3_method_7_code 19 = .ok (.iload_n 3, 1) := by decide +kernel
theorem dc_N_isWordAt_20 : decode prog_3_method_7_code 20 = .ok (.invokevirtual 90, 3) := by decide +kernel
theorem ln_N_90 : am_ln "WebFinder$Answers" 90 mt_R_from.1 := Or.inl (am_t7 25 rfl rfl)
theorem dc_N_isWordAt_23 : decode prog_3_method_7_code 23 = .ok (.aload_n 0, 1) := by decide +kernel
theorem dc_N_isWordAt_24 : decode prog_3_method_7_code 24 = .ok (.getfield 24, 3) := by decide +kernel
theorem dc_N_isWordAt_27 : decode prog_3_method_7_code 27 = .ok (.iload_n 3, 1) := by decide +kernel
theorem dc_N_isWordAt_28 : decode prog_3_method_7_code 28 = .ok (.invokevirtual 94, 3) := by decide +kernel
theorem ln_N_94 : am_ln "WebFinder$Answers" 94 mt_R_to.1 := Or.inl (am_t7 26 rfl rfl)
theorem dc_N_isWordAt_31 : decode prog_3_method_7_code 31 = .ok (.invokevirtual 97, 3) := by decide +kernel
theorem ln_N_97 : am_ln "WebFinder$Answers" 97 mt_R_same.1 := Or.inl (am_t7 27 rfl rfl)
theorem dc_N_isWordAt_34 : decode prog_3_method_7_code 34 = .ok (.ireturn, 1) := by decide +kernel
theorem dc_N_placesOfWords_0 : decode prog_3_method_6_code 0 = .ok (.iconst 0, 1) := by decide +kernel
theorem dc_N_placesOfWords_1 : decode prog_3_method_6_code 1 = .ok (.istore 4, 2) := by decide +kernel
theorem dc_N_placesOfWords_3 : decode prog_3_method_6_code 3 = .ok (.iconst 0, 1) := by decide +kernel
theorem dc_N_placesOfWords_4 : decode prog_3_method_6_code 4 = .ok (.istore 5, 2) := by decide +kernel
theorem dc_N_placesOfWords_6 : decode prog_3_method_6_code 6 = .ok (.aload_n 1, 1) := by decide +kernel
theorem dc_N_placesOfWords_7 : decode prog_3_method_6_code 7 = .ok (.getfield 70, 3) := by decide +kernel
theorem dc_N_placesOfWords_10 : decode prog_3_method_6_code 10 = .ok (.iload_n 2, 1) := by decide +kernel
theorem dc_N_placesOfWords_11 : decode prog_3_method_6_code 11 = .ok (.iaload, 1) := by decide +kernel
theorem dc_N_placesOfWords_12 : decode prog_3_method_6_code 12 = .ok (.istore 6, 2) := by decide +kernel
theorem dc_N_placesOfWords_14 : decode prog_3_method_6_code 14 = .ok (.iload 6, 2) := by decide +kernel
theorem dc_N_placesOfWords_16 : decode prog_3_method_6_code 16 = .ok (.aload_n 1, 1) := by decide +kernel
theorem dc_N_placesOfWords_17 : decode prog_3_method_6_code 17 = .ok (.getfield 70, 3) := by decide +kernel
theorem dc_N_placesOfWords_20 : decode prog_3_method_6_code 20 = .ok (.iload_n 2, 1) := by decide +kernel
theorem dc_N_placesOfWords_21 : decode prog_3_method_6_code 21 = .ok (.iconst 1, 1) := by decide +kernel
theorem dc_N_placesOfWords_22 : decode prog_3_method_6_code 22 = .ok (.iadd, 1) := by decide +kernel
theorem dc_N_placesOfWords_23 : decode prog_3_method_6_code 23 = .ok (.iaload, 1) := by decide +kernel
theorem dc_N_placesOfWords_24 : decode prog_3_method_6_code 24 = .ok (.if_icmp .ge 76, 3) := by decide +kernel
theorem dc_N_placesOfWords_27 : decode prog_3_method_6_code 27 = .ok (.iconst 0, 1) := by decide +kernel
theorem dc_N_placesOfWords_28 : decode prog_3_method_6_code 28 = .ok (.istore 7, 2) := by decide +kernel
theorem dc_N_placesOfWords_30 : decode prog_3_method_6_code 30 = .ok (.iconst 0, 1) := by decide +kernel
theorem dc_N_placesOfWords_31 : decode prog_3_method_6_code 31 = .ok (.istore 8, 2) := by decide +kernel
theorem dc_N_placesOfWords_33 : decode prog_3_method_6_code 33 = .ok (.iload 8, 2) := by decide +kernel
theorem dc_N_placesOfWords_35 : decode prog_3_method_6_code 35 = .ok (.aload_n 0, 1) := by decide +kernel
theorem dc_N_placesOfWords_36 : decode prog_3_method_6_code 36 = .ok (.getfield 24, 3) := by decide +kernel
theorem dc_N_placesOfWords_39 : decode prog_3_method_6_code 39 = .ok (.getfield 41, 3) := by decide +kernel
theorem dc_N_placesOfWords_42 : decode prog_3_method_6_code 42 = .ok (.if_icmp .ge 30, 3) := by decide +kernel
theorem dc_N_placesOfWords_45 : decode prog_3_method_6_code 45 = .ok (.aload_n 0, 1) := by decide +kernel
theorem dc_N_placesOfWords_46 : decode prog_3_method_6_code 46 = .ok (.aload_n 1, 1) := by decide +kernel
theorem dc_N_placesOfWords_47 : decode prog_3_method_6_code 47 = .ok (.iload 6, 2) := by decide +kernel
theorem dc_N_placesOfWords_49 : decode prog_3_method_6_code 49 = .ok (.iload 8, 2) := by decide +kernel
theorem dc_N_placesOfWords_51 : decode prog_3_method_6_code 51 = .ok (.invokevirtual 73, 3) := by decide +kernel
theorem dc_N_placesOfWords_54 : decode prog_3_method_6_code 54 = .ok (.ifCond .eq 12, 3) := by decide +kernel
theorem dc_N_placesOfWords_57 : decode prog_3_method_6_code 57 = .ok (.iload 7, 2) := by decide +kernel
theorem dc_N_placesOfWords_59 : decode prog_3_method_6_code 59 = .ok (.iconst 1, 1) := by decide +kernel
theorem dc_N_placesOfWords_60 : decode prog_3_method_6_code 60 = .ok (.iload 8, 2) := by decide +kernel
theorem dc_N_placesOfWords_62 : decode prog_3_method_6_code 62 = .ok (.ishl, 1) := by decide +kernel
theorem dc_N_placesOfWords_63 : decode prog_3_method_6_code 63 = .ok (.ior, 1) := by decide +kernel
theorem dc_N_placesOfWords_64 : decode prog_3_method_6_code 64 = .ok (.istore 7, 2) := by decide +kernel
theorem dc_N_placesOfWords_66 : decode prog_3_method_6_code 66 = .ok (.iinc 8 1, 3) := by decide +kernel
theorem dc_N_placesOfWords_69 : decode prog_3_method_6_code 69 = .ok (.goto (-36), 3) := by decide +kernel
theorem dc_N_placesOfWords_72 : decode prog_3_method_6_code 72 = .ok (.iload 5, 2) := by decide +kernel
theorem dc_N_placesOfWords_74 : decode prog_3_method_6_code 74 = .ok (.iload 7, 2) := by decide +kernel
theorem dc_N_placesOfWords_76 : decode prog_3_method_6_code 76 = .ok (.ior, 1) := by decide +kernel
theorem dc_N_placesOfWords_77 : decode prog_3_method_6_code 77 = .ok (.istore 5, 2) := by decide +kernel
theorem dc_N_placesOfWords_79 : decode prog_3_method_6_code 79 = .ok (.iload 4, 2) := by decide +kernel
theorem dc_N_placesOfWords_81 : decode prog_3_method_6_code 81 = .ok (.iload 7, 2) := by decide +kernel
theorem dc_N_placesOfWords_83 : decode prog_3_method_6_code 83 = .ok (.ifCond .ne 7, 3) := by decide +kernel
theorem dc_N_placesOfWords_86 : decode prog_3_method_6_code 86 = .ok (.iconst 0, 1) := by decide +kernel
theorem dc_N_placesOfWords_87 : decode prog_3_method_6_code 87 = .ok (.goto 4, 3) := by decide +kernel
theorem dc_N_placesOfWords_90 : decode prog_3_method_6_code 90 = .ok (.iconst 1, 1) := by decide +kernel
theorem dc_N_placesOfWords_91 : decode prog_3_method_6_code 91 = .ok (.iadd, 1) := by decide +kernel
theorem dc_N_placesOfWords_92 : decode prog_3_method_6_code 92 = .ok (.istore 4, 2) := by decide +kernel
theorem dc_N_placesOfWords_94 : decode prog_3_method_6_code 94 = .ok (.iinc 6 1, 3) := by decide +kernel
theorem dc_N_placesOfWords_97 : decode prog_3_method_6_code 97 = .ok (.goto (-83), 3) := by decide +kernel
theorem dc_N_placesOfWords_100 : decode prog_3_method_6_code 100 = .ok (.iload_n 3, 1) := by decide +kernel
theorem dc_N_placesOfWords_101 : decode prog_3_method_6_code 101 = .ok (.ifCond .eq 23, 3) := by decide +kernel
theorem dc_N_placesOfWords_104 : decode prog_3_method_6_code 104 = .ok (.iload 5, 2) := by decide +kernel
theorem dc_N_placesOfWords_106 : decode prog_3_method_6_code 106 = .ok (.iconst 1, 1) := by decide +kernel
theorem dc_N_placesOfWords_107 : decode prog_3_method_6_code 107 = .ok (.aload_n 0, 1) := by decide +kernel
theorem dc_N_placesOfWords_108 : decode prog_3_method_6_code 108 = .ok (.getfield 24, 3) := by decide +kernel
theorem dc_N_placesOfWords_111 : decode prog_3_method_6_code 111 = .ok (.getfield 41, 3) := by decide +kernel
theorem dc_N_placesOfWords_114 : decode prog_3_method_6_code 114 = .ok (.ishl, 1) := by decide +kernel
theorem dc_N_placesOfWords_115 : decode prog_3_method_6_code 115 = .ok (.iconst 1, 1) := by decide +kernel
theorem dc_N_placesOfWords_116 : decode prog_3_method_6_code 116 = .ok (.isub, 1) := by decide +kernel
theorem dc_N_placesOfWords_117 : decode prog_3_method_6_code 117 = .ok (.if_icmp .eq 7, 3) := by decide +kernel
theorem dc_N_placesOfWords_120 : decode prog_3_method_6_code 120 = .ok (.iconst 0, 1) := by decide +kernel
theorem dc_N_placesOfWords_121 : decode prog_3_method_6_code 121 = .ok (.goto 5, 3) := by decide +kernel
theorem dc_N_placesOfWords_124 : decode prog_3_method_6_code 124 = .ok (.iload 4, 2) := by decide +kernel
theorem dc_N_placesOfWords_126 : decode prog_3_method_6_code 126 = .ok (.ireturn, 1) := by decide +kernel
theorem dc_N_insert_0 : decode prog_3_method_4_code 0 = .ok (.aload_n 0, 1) := by decide +kernel
theorem dc_N_insert_1 : decode prog_3_method_4_code 1 = .ok (.getfield 28, 3) := by decide +kernel
theorem fl_N_28 : am_fl "WebFinder$Answers" 28 9 0 := ⟨"WebFinder$Answers", tt_N, 4, rfl, by decide, Or.inl (am_t2 130 rfl rfl)⟩
theorem dc_N_insert_4 : decode prog_3_method_4_code 4 = .ok (.istore 4, 2) := by decide +kernel
theorem dc_N_insert_6 : decode prog_3_method_4_code 6 = .ok (.iload 4, 2) := by decide +kernel
theorem dc_N_insert_8 : decode prog_3_method_4_code 8 = .ok (.ifCond .le 55, 3) := by decide +kernel
theorem dc_N_insert_11 : decode prog_3_method_4_code 11 = .ok (.aload_n 0, 1) := by decide +kernel
theorem dc_N_insert_12 : decode prog_3_method_4_code 12 = .ok (.getfield 15, 3) := by decide +kernel
theorem fl_N_15 : am_fl "WebFinder$Answers" 15 9 2 := ⟨"WebFinder$Answers", tt_N, 4, rfl, by decide, Or.inl (am_t2 134 rfl rfl)⟩
theorem dc_N_insert_15 : decode prog_3_method_4_code 15 = .ok (.iload 4, 2) := by decide +kernel
theorem dc_N_insert_17 : decode prog_3_method_4_code 17 = .ok (.iconst 1, 1) := by decide +kernel
theorem dc_N_insert_18 : decode prog_3_method_4_code 18 = .ok (.isub, 1) := by decide +kernel
theorem dc_N_insert_19 : decode prog_3_method_4_code 19 = .ok (.laload, 1) := by decide +kernel
theorem dc_N_insert_20 : decode prog_3_method_4_code 20 = .ok (.lload_n 2, 1) := by decide +kernel
theorem dc_N_insert_21 : decode prog_3_method_4_code 21 = .ok (.lcmp, 1) := by decide +kernel
theorem dc_N_insert_22 : decode prog_3_method_4_code 22 = .ok (.ifCond .ge 41, 3) := by decide +kernel
theorem dc_N_insert_25 : decode prog_3_method_4_code 25 = .ok (.aload_n 0, 1) := by decide +kernel
theorem dc_N_insert_26 : decode prog_3_method_4_code 26 = .ok (.getfield 9, 3) := by decide +kernel
theorem fl_N_9 : am_fl "WebFinder$Answers" 9 9 1 := ⟨"WebFinder$Answers", tt_N, 4, rfl, by decide, Or.inl (am_t2 132 rfl rfl)⟩
theorem dc_N_insert_29 : decode prog_3_method_4_code 29 = .ok (.iload 4, 2) := by decide +kernel
theorem dc_N_insert_31 : decode prog_3_method_4_code 31 = .ok (.aload_n 0, 1) := by decide +kernel
theorem dc_N_insert_32 : decode prog_3_method_4_code 32 = .ok (.getfield 9, 3) := by decide +kernel
theorem dc_N_insert_35 : decode prog_3_method_4_code 35 = .ok (.iload 4, 2) := by decide +kernel
theorem dc_N_insert_37 : decode prog_3_method_4_code 37 = .ok (.iconst 1, 1) := by decide +kernel
theorem dc_N_insert_38 : decode prog_3_method_4_code 38 = .ok (.isub, 1) := by decide +kernel
theorem dc_N_insert_39 : decode prog_3_method_4_code 39 = .ok (.iaload, 1) := by decide +kernel
theorem dc_N_insert_40 : decode prog_3_method_4_code 40 = .ok (.iastore, 1) := by decide +kernel
theorem dc_N_insert_41 : decode prog_3_method_4_code 41 = .ok (.aload_n 0, 1) := by decide +kernel
theorem dc_N_insert_42 : decode prog_3_method_4_code 42 = .ok (.getfield 15, 3) := by decide +kernel
theorem dc_N_insert_45 : decode prog_3_method_4_code 45 = .ok (.iload 4, 2) := by decide +kernel
theorem dc_N_insert_47 : decode prog_3_method_4_code 47 = .ok (.aload_n 0, 1) := by decide +kernel
theorem dc_N_insert_48 : decode prog_3_method_4_code 48 = .ok (.getfield 15, 3) := by decide +kernel
theorem dc_N_insert_51 : decode prog_3_method_4_code 51 = .ok (.iload 4, 2) := by decide +kernel
theorem dc_N_insert_53 : decode prog_3_method_4_code 53 = .ok (.iconst 1, 1) := by decide +kernel
theorem dc_N_insert_54 : decode prog_3_method_4_code 54 = .ok (.isub, 1) := by decide +kernel
theorem dc_N_insert_55 : decode prog_3_method_4_code 55 = .ok (.laload, 1) := by decide +kernel
theorem dc_N_insert_56 : decode prog_3_method_4_code 56 = .ok (.lastore, 1) := by decide +kernel
theorem dc_N_insert_57 : decode prog_3_method_4_code 57 = .ok (.iinc 4 (-1), 3) := by decide +kernel
theorem dc_N_insert_60 : decode prog_3_method_4_code 60 = .ok (.goto (-54), 3) := by decide +kernel
theorem dc_N_insert_63 : decode prog_3_method_4_code 63 = .ok (.aload_n 0, 1) := by decide +kernel
theorem dc_N_insert_64 : decode prog_3_method_4_code 64 = .ok (.getfield 9, 3) := by decide +kernel
theorem dc_N_insert_67 : decode prog_3_method_4_code 67 = .ok (.iload 4, 2) := by decide +kernel
theorem dc_N_insert_69 : decode prog_3_method_4_code 69 = .ok (.iload_n 1, 1) := by decide +kernel
theorem dc_N_insert_70 : decode prog_3_method_4_code 70 = .ok (.iastore, 1) := by decide +kernel
theorem dc_N_insert_71 : decode prog_3_method_4_code 71 = .ok (.aload_n 0, 1) := by decide +kernel
theorem dc_N_insert_72 : decode prog_3_method_4_code 72 = .ok (.getfield 15, 3) := by decide +kernel
theorem dc_N_insert_75 : decode prog_3_method_4_code 75 = .ok (.iload 4, 2) := by decide +kernel
theorem dc_N_insert_77 : decode prog_3_method_4_code 77 = .ok (.lload_n 2, 1) := by decide +kernel
theorem dc_N_insert_78 : decode prog_3_method_4_code 78 = .ok (.lastore, 1) := by decide +kernel
theorem dc_N_insert_79 : decode prog_3_method_4_code 79 = .ok (.aload_n 0, 1) := by decide +kernel
theorem dc_N_insert_80 : decode prog_3_method_4_code 80 = .ok (.dup, 1) := by decide +kernel
theorem dc_N_insert_81 : decode prog_3_method_4_code 81 = .ok (.getfield 28, 3) := by decide +kernel
theorem dc_N_insert_84 : decode prog_3_method_4_code 84 = .ok (.iconst 1, 1) := by decide +kernel
theorem dc_N_insert_85 : decode prog_3_method_4_code 85 = .ok (.iadd, 1) := by decide +kernel
theorem dc_N_insert_86 : decode prog_3_method_4_code 86 = .ok (.putfield 28, 3) := by decide +kernel
theorem fp_N_insert_28 : am_fp mt_N_insert.1 28 9 0 (.int) := ⟨"WebFinder$Answers", tt_N, 4, rfl, by decide, ct_N 0 (by decide), Or.inl ⟨(am_t2 130 rfl rfl), Or.inl rfl⟩⟩
theorem dc_N_insert_89 : decode prog_3_method_4_code 89 = .ok (.return_, 1) := by decide +kernel
theorem dc_W_hit_0 : decode prog_1_method_26_code 0 = .ok (.iload_n 1, 1) := by decide +kernel
theorem dc_W_hit_1 : decode prog_1_method_26_code 1 = .ok (.ifCond .lt 14, 3) := by decide +kernel
theorem dc_W_hit_4 : decode prog_1_method_26_code 4 = .ok (.iload_n 1, 1) := by decide +kernel
theorem dc_W_hit_5 : decode prog_1_method_26_code 5 = .ok (.aload_n 0, 1) := by decide +kernel
theorem dc_W_hit_6 : decode prog_1_method_26_code 6 = .ok (.getfield 81, 3) := by decide +kernel
theorem dc_W_hit_9 : decode prog_1_method_26_code 9 = .ok (.getfield 272, 3) := by decide +kernel
theorem dc_W_hit_12 : decode prog_1_method_26_code 12 = .ok (.if_icmp .lt 7, 3) := by decide +kernel
theorem dc_W_hit_15 : decode prog_1_method_26_code 15 = .ok (.iconst (-1), 1) := by decide +kernel
theorem dc_W_hit_16 : decode prog_1_method_26_code 16 = .ok (.goto 12, 3) := by decide +kernel
theorem dc_W_hit_19 : decode prog_1_method_26_code 19 = .ok (.aload_n 0, 1) := by decide +kernel
theorem dc_W_hit_20 : decode prog_1_method_26_code 20 = .ok (.getfield 81, 3) := by decide +kernel
theorem dc_W_hit_23 : decode prog_1_method_26_code 23 = .ok (.getfield 273, 3) := by decide +kernel
theorem fl_W_273 : am_fl "WebFinder" 273 9 1 := ⟨"WebFinder$Answers", tt_N, 4, rfl, by decide, Or.inl (am_t2 133 rfl rfl)⟩
theorem dc_W_hit_26 : decode prog_1_method_26_code 26 = .ok (.iload_n 1, 1) := by decide +kernel
theorem dc_W_hit_27 : decode prog_1_method_26_code 27 = .ok (.iaload, 1) := by decide +kernel
theorem dc_W_hit_28 : decode prog_1_method_26_code 28 = .ok (.ireturn, 1) := by decide +kernel
theorem dc_W_score_0 : decode prog_1_method_27_code 0 = .ok (.iload_n 1, 1) := by decide +kernel
theorem dc_W_score_1 : decode prog_1_method_27_code 1 = .ok (.ifCond .lt 14, 3) := by decide +kernel
theorem dc_W_score_4 : decode prog_1_method_27_code 4 = .ok (.iload_n 1, 1) := by decide +kernel
theorem dc_W_score_5 : decode prog_1_method_27_code 5 = .ok (.aload_n 0, 1) := by decide +kernel
theorem dc_W_score_6 : decode prog_1_method_27_code 6 = .ok (.getfield 81, 3) := by decide +kernel
theorem dc_W_score_9 : decode prog_1_method_27_code 9 = .ok (.getfield 272, 3) := by decide +kernel
theorem dc_W_score_12 : decode prog_1_method_27_code 12 = .ok (.if_icmp .lt 9, 3) := by decide +kernel
theorem dc_W_score_15 : decode prog_1_method_27_code 15 = .ok (.ldc2_w 276, 3) := by decide +kernel
theorem cl_W_276 : Cond.constantLong "WebFinder" 276 (-1) ∈ am_gw := (am_t7 44 rfl rfl)
theorem dc_W_score_18 : decode prog_1_method_27_code 18 = .ok (.goto 12, 3) := by decide +kernel
theorem dc_W_score_21 : decode prog_1_method_27_code 21 = .ok (.aload_n 0, 1) := by decide +kernel
theorem dc_W_score_22 : decode prog_1_method_27_code 22 = .ok (.getfield 81, 3) := by decide +kernel
theorem dc_W_score_25 : decode prog_1_method_27_code 25 = .ok (.getfield 278, 3) := by decide +kernel
theorem fl_W_278 : am_fl "WebFinder" 278 9 2 := ⟨"WebFinder$Answers", tt_N, 4, rfl, by decide, Or.inl (am_t2 135 rfl rfl)⟩
theorem dc_W_score_28 : decode prog_1_method_27_code 28 = .ok (.iload_n 1, 1) := by decide +kernel
theorem dc_W_score_29 : decode prog_1_method_27_code 29 = .ok (.laload, 1) := by decide +kernel
theorem dc_W_score_30 : decode prog_1_method_27_code 30 = .ok (.lreturn, 1) := by decide +kernel
theorem dc_W_made_0 : decode prog_1_method_28_code 0 = .ok (.aload_n 0, 1) := by decide +kernel
theorem dc_W_made_1 : decode prog_1_method_28_code 1 = .ok (.getfield 18, 3) := by decide +kernel
theorem dc_W_made_4 : decode prog_1_method_28_code 4 = .ok (.getfield 85, 3) := by decide +kernel
theorem dc_W_made_7 : decode prog_1_method_28_code 7 = .ok (.ireturn, 1) := by decide +kernel
theorem dc_W_out_0 : decode prog_1_method_29_code 0 = .ok (.iload_n 1, 1) := by decide +kernel
theorem dc_W_out_1 : decode prog_1_method_29_code 1 = .ok (.ifCond .lt 14, 3) := by decide +kernel
theorem dc_W_out_4 : decode prog_1_method_29_code 4 = .ok (.iload_n 1, 1) := by decide +kernel
theorem dc_W_out_5 : decode prog_1_method_29_code 5 = .ok (.aload_n 0, 1) := by decide +kernel
theorem dc_W_out_6 : decode prog_1_method_29_code 6 = .ok (.getfield 18, 3) := by decide +kernel
theorem dc_W_out_9 : decode prog_1_method_29_code 9 = .ok (.getfield 85, 3) := by decide +kernel
theorem dc_W_out_12 : decode prog_1_method_29_code 12 = .ok (.if_icmp .lt 7, 3) := by decide +kernel
theorem dc_W_out_15 : decode prog_1_method_29_code 15 = .ok (.iconst (-1), 1) := by decide +kernel
theorem dc_W_out_16 : decode prog_1_method_29_code 16 = .ok (.goto 16, 3) := by decide +kernel
theorem dc_W_out_19 : decode prog_1_method_29_code 19 = .ok (.aload_n 0, 1) := by decide +kernel
theorem dc_W_out_20 : decode prog_1_method_29_code 20 = .ok (.getfield 18, 3) := by decide +kernel
theorem dc_W_out_23 : decode prog_1_method_29_code 23 = .ok (.getfield 109, 3) := by decide +kernel
theorem dc_W_out_26 : decode prog_1_method_29_code 26 = .ok (.iload_n 1, 1) := by decide +kernel
theorem dc_W_out_27 : decode prog_1_method_29_code 27 = .ok (.baload, 1) := by decide +kernel
theorem dc_W_out_28 : decode prog_1_method_29_code 28 = .ok (.sipush 255, 3) := by decide +kernel
theorem dc_W_out_31 : decode prog_1_method_29_code 31 = .ok (.iand, 1) := by decide +kernel
theorem dc_W_out_32 : decode prog_1_method_29_code 32 = .ok (.ireturn, 1) := by decide +kernel
theorem dc_L_feed_0 : decode method_3_code 0 = .ok (.aload_n 0, 1) := by decide +kernel
theorem dc_L_feed_1 : decode method_3_code 1 = .ok (.iload_n 1, 1) := by decide +kernel
theorem dc_L_feed_2 : decode method_3_code 2 = .ok (.iload_n 2, 1) := by decide +kernel
theorem dc_L_feed_3 : decode method_3_code 3 = .ok (.iload_n 3, 1) := by decide +kernel
theorem dc_L_feed_4 : decode method_3_code 4 = .ok (.iload 4, 2) := by decide +kernel
theorem dc_L_feed_6 : decode method_3_code 6 = .ok (.iload 5, 2) := by decide +kernel
theorem dc_L_feed_8 : decode method_3_code 8 = .ok (.invokevirtual 7, 3) := by decide +kernel
theorem mo_W_feed : am_mo mt_W_feed 5 := ⟨⟨by decide +kernel, by decide +kernel⟩, by decide +kernel, ⟨by decide +kernel, by decide +kernel⟩, (am_t7 60 rfl rfl), (am_t1 1 rfl rfl), by decide +kernel⟩
theorem im_W_feed : Cond.instanceMethod mt_W_feed.1 ∈ am_gw := (am_t7 58 rfl rfl)
theorem se_W_feed : Cond.selects mt_W_feed.1.cls mt_W_feed.1 mt_W_feed.1 ∈ am_gw := (am_t7 59 rfl rfl)
theorem ln_L_7 : am_ln "WebFinderLaw" 7 mt_W_feed.1 := Or.inl (am_t7 57 rfl rfl)
theorem dc_L_feed_11 : decode method_3_code 11 = .ok (.goto 7, 3) := by decide +kernel
theorem dc_L_feed_14 : decode method_3_code 14 = .ok (.astore 6, 2) := by decide +kernel
theorem dc_L_feed_16 : decode method_3_code 16 = .ok (.iconst 1, 1) := by decide +kernel
theorem dc_L_feed_17 : decode method_3_code 17 = .ok (.ireturn, 1) := by decide +kernel
theorem dc_L_feed_18 : decode method_3_code 18 = .ok (.iconst 0, 1) := by decide +kernel
theorem dc_L_feed_19 : decode method_3_code 19 = .ok (.ireturn, 1) := by decide +kernel
theorem dc_W_feed_0 : decode prog_1_method_2_code 0 = .ok (.aload_n 0, 1) := by decide +kernel
theorem dc_W_feed_1 : decode prog_1_method_2_code 1 = .ok (.getfield 12, 3) := by decide +kernel
theorem dc_W_feed_4 : decode prog_1_method_2_code 4 = .ok (.getfield 85, 3) := by decide +kernel
theorem dc_W_feed_7 : decode prog_1_method_2_code 7 = .ok (.bipush 20, 2) := by decide +kernel
theorem dc_W_feed_9 : decode prog_1_method_2_code 9 = .ok (.iadd, 1) := by decide +kernel
theorem dc_W_feed_10 : decode prog_1_method_2_code 10 = .ok (.sipush 8000, 3) := by decide +kernel
theorem dc_W_feed_13 : decode prog_1_method_2_code 13 = .ok (.if_icmp .le 11, 3) := by decide +kernel
theorem dc_W_feed_16 : decode prog_1_method_2_code 16 = .ok (.new 89, 3) := by decide +kernel
theorem dc_W_feed_19 : decode prog_1_method_2_code 19 = .ok (.dup, 1) := by decide +kernel
theorem dc_W_feed_20 : decode prog_1_method_2_code 20 = .ok (.invokespecial 91, 3) := by decide +kernel
theorem mo_JIllegalStateException_init : am_mo mt_JIllegalStateException_init 0 := ⟨⟨by decide +kernel, by decide +kernel⟩, by decide +kernel, ⟨by decide +kernel, by decide +kernel⟩, (am_t7 72 rfl rfl), (am_t1 15 rfl rfl), by decide +kernel⟩
theorem im_JIllegalStateException_init : Cond.instanceMethod mt_JIllegalStateException_init.1 ∈ am_gw := (am_t7 71 rfl rfl)
theorem ln_W_91 : am_ln "WebFinder" 91 mt_JIllegalStateException_init.1 := Or.inl (am_t7 70 rfl rfl)
theorem dc_W_feed_23 : decode prog_1_method_2_code 23 = .ok (.athrow, 1) := by decide +kernel
theorem dc_W_feed_24 : decode prog_1_method_2_code 24 = .ok (.aload_n 0, 1) := by decide +kernel
theorem dc_W_feed_25 : decode prog_1_method_2_code 25 = .ok (.getfield 12, 3) := by decide +kernel
theorem dc_W_feed_28 : decode prog_1_method_2_code 28 = .ok (.iload_n 1, 1) := by decide +kernel
theorem dc_W_feed_29 : decode prog_1_method_2_code 29 = .ok (.invokevirtual 92, 3) := by decide +kernel
theorem mo_B_putInt : am_mo mt_B_putInt 1 := ⟨⟨by decide +kernel, by decide +kernel⟩, by decide +kernel, ⟨by decide +kernel, by decide +kernel⟩, (am_t7 85 rfl rfl), (am_t1 2 rfl rfl), by decide +kernel⟩
theorem im_B_putInt : Cond.instanceMethod mt_B_putInt.1 ∈ am_gw := (am_t7 83 rfl rfl)
theorem se_B_putInt : Cond.selects mt_B_putInt.1.cls mt_B_putInt.1 mt_B_putInt.1 ∈ am_gw := (am_t7 84 rfl rfl)
theorem ln_W_92 : am_ln "WebFinder" 92 mt_B_putInt.1 := Or.inl (am_t7 82 rfl rfl)
theorem dc_W_feed_32 : decode prog_1_method_2_code 32 = .ok (.aload_n 0, 1) := by decide +kernel
theorem dc_W_feed_33 : decode prog_1_method_2_code 33 = .ok (.getfield 12, 3) := by decide +kernel
theorem dc_W_feed_36 : decode prog_1_method_2_code 36 = .ok (.iload_n 2, 1) := by decide +kernel
theorem dc_W_feed_37 : decode prog_1_method_2_code 37 = .ok (.invokevirtual 92, 3) := by decide +kernel
theorem dc_W_feed_40 : decode prog_1_method_2_code 40 = .ok (.aload_n 0, 1) := by decide +kernel
theorem dc_W_feed_41 : decode prog_1_method_2_code 41 = .ok (.getfield 12, 3) := by decide +kernel
theorem dc_W_feed_44 : decode prog_1_method_2_code 44 = .ok (.iload_n 3, 1) := by decide +kernel
theorem dc_W_feed_45 : decode prog_1_method_2_code 45 = .ok (.invokevirtual 92, 3) := by decide +kernel
theorem dc_W_feed_48 : decode prog_1_method_2_code 48 = .ok (.aload_n 0, 1) := by decide +kernel
theorem dc_W_feed_49 : decode prog_1_method_2_code 49 = .ok (.getfield 12, 3) := by decide +kernel
theorem dc_W_feed_52 : decode prog_1_method_2_code 52 = .ok (.iload 4, 2) := by decide +kernel
theorem dc_W_feed_54 : decode prog_1_method_2_code 54 = .ok (.invokevirtual 92, 3) := by decide +kernel
theorem dc_W_feed_57 : decode prog_1_method_2_code 57 = .ok (.aload_n 0, 1) := by decide +kernel
theorem dc_W_feed_58 : decode prog_1_method_2_code 58 = .ok (.getfield 12, 3) := by decide +kernel
theorem dc_W_feed_61 : decode prog_1_method_2_code 61 = .ok (.iload 5, 2) := by decide +kernel
theorem dc_W_feed_63 : decode prog_1_method_2_code 63 = .ok (.invokevirtual 92, 3) := by decide +kernel
theorem dc_W_feed_66 : decode prog_1_method_2_code 66 = .ok (.return_, 1) := by decide +kernel
theorem dc_B_putInt_0 : decode prog_4_method_5_code 0 = .ok (.aload_n 0, 1) := by decide +kernel
theorem dc_B_putInt_1 : decode prog_4_method_5_code 1 = .ok (.iload_n 1, 1) := by decide +kernel
theorem dc_B_putInt_2 : decode prog_4_method_5_code 2 = .ok (.bipush 24, 2) := by decide +kernel
theorem dc_B_putInt_4 : decode prog_4_method_5_code 4 = .ok (.ishr, 1) := by decide +kernel
theorem dc_B_putInt_5 : decode prog_4_method_5_code 5 = .ok (.invokevirtual 29, 3) := by decide +kernel
theorem dc_B_putInt_8 : decode prog_4_method_5_code 8 = .ok (.aload_n 0, 1) := by decide +kernel
theorem dc_B_putInt_9 : decode prog_4_method_5_code 9 = .ok (.iload_n 1, 1) := by decide +kernel
theorem dc_B_putInt_10 : decode prog_4_method_5_code 10 = .ok (.bipush 16, 2) := by decide +kernel
theorem dc_B_putInt_12 : decode prog_4_method_5_code 12 = .ok (.ishr, 1) := by decide +kernel
theorem dc_B_putInt_13 : decode prog_4_method_5_code 13 = .ok (.invokevirtual 29, 3) := by decide +kernel
theorem dc_B_putInt_16 : decode prog_4_method_5_code 16 = .ok (.aload_n 0, 1) := by decide +kernel
theorem dc_B_putInt_17 : decode prog_4_method_5_code 17 = .ok (.iload_n 1, 1) := by decide +kernel
theorem dc_B_putInt_18 : decode prog_4_method_5_code 18 = .ok (.bipush 8, 2) := by decide +kernel
theorem dc_B_putInt_20 : decode prog_4_method_5_code 20 = .ok (.ishr, 1) := by decide +kernel
theorem dc_B_putInt_21 : decode prog_4_method_5_code 21 = .ok (.invokevirtual 29, 3) := by decide +kernel
theorem dc_B_putInt_24 : decode prog_4_method_5_code 24 = .ok (.aload_n 0, 1) := by decide +kernel
theorem dc_B_putInt_25 : decode prog_4_method_5_code 25 = .ok (.iload_n 1, 1) := by decide +kernel
theorem dc_B_putInt_26 : decode prog_4_method_5_code 26 = .ok (.invokevirtual 29, 3) := by decide +kernel
theorem dc_B_putInt_29 : decode prog_4_method_5_code 29 = .ok (.return_, 1) := by decide +kernel
theorem dc_L_end_0 : decode method_4_code 0 = .ok (.aload_n 2, 1) := by decide +kernel
theorem dc_L_end_1 : decode method_4_code 1 = .ok (.iconst 0, 1) := by decide +kernel
theorem dc_L_end_2 : decode method_4_code 2 = .ok (.aload_n 0, 1) := by decide +kernel
theorem dc_L_end_3 : decode method_4_code 3 = .ok (.iload_n 1, 1) := by decide +kernel
theorem dc_L_end_4 : decode method_4_code 4 = .ok (.invokevirtual 15, 3) := by decide +kernel
theorem mo_W_end : am_mo mt_W_end 1 := ⟨⟨by decide +kernel, by decide +kernel⟩, by decide +kernel, ⟨by decide +kernel, by decide +kernel⟩, (am_t7 93 rfl rfl), (am_t1 1 rfl rfl), by decide +kernel⟩
theorem im_W_end : Cond.instanceMethod mt_W_end.1 ∈ am_gw := (am_t7 91 rfl rfl)
theorem se_W_end : Cond.selects mt_W_end.1.cls mt_W_end.1 mt_W_end.1 ∈ am_gw := (am_t7 92 rfl rfl)
theorem ln_L_15 : am_ln "WebFinderLaw" 15 mt_W_end.1 := Or.inl (am_t7 90 rfl rfl)
theorem dc_L_end_7 : decode method_4_code 7 = .ok (.i2l, 1) := by decide +kernel
theorem dc_L_end_8 : decode method_4_code 8 = .ok (.lastore, 1) := by decide +kernel
theorem dc_L_end_9 : decode method_4_code 9 = .ok (.goto 6, 3) := by decide +kernel
theorem dc_L_end_12 : decode method_4_code 12 = .ok (.astore_n 3, 1) := by decide +kernel
theorem dc_L_end_13 : decode method_4_code 13 = .ok (.iconst 1, 1) := by decide +kernel
theorem dc_L_end_14 : decode method_4_code 14 = .ok (.ireturn, 1) := by decide +kernel
theorem dc_L_end_15 : decode method_4_code 15 = .ok (.iconst 0, 1) := by decide +kernel
theorem dc_L_end_16 : decode method_4_code 16 = .ok (.ireturn, 1) := by decide +kernel
theorem dc_W_end_0 : decode prog_1_method_3_code 0 = .ok (.iload_n 1, 1) := by decide +kernel
theorem dc_W_end_1 : decode prog_1_method_3_code 1 = .ok (.ifCond .lt 14, 3) := by decide +kernel
theorem dc_W_end_4 : decode prog_1_method_3_code 4 = .ok (.iload_n 1, 1) := by decide +kernel
theorem dc_W_end_5 : decode prog_1_method_3_code 5 = .ok (.aload_n 0, 1) := by decide +kernel
theorem dc_W_end_6 : decode prog_1_method_3_code 6 = .ok (.getfield 12, 3) := by decide +kernel
theorem dc_W_end_9 : decode prog_1_method_3_code 9 = .ok (.getfield 85, 3) := by decide +kernel
theorem dc_W_end_12 : decode prog_1_method_3_code 12 = .ok (.if_icmp .le 11, 3) := by decide +kernel
theorem dc_W_end_15 : decode prog_1_method_3_code 15 = .ok (.new 95, 3) := by decide +kernel
theorem dc_W_end_18 : decode prog_1_method_3_code 18 = .ok (.dup, 1) := by decide +kernel
theorem dc_W_end_19 : decode prog_1_method_3_code 19 = .ok (.invokespecial 97, 3) := by decide +kernel
theorem mo_JIllegalArgumentException_init_0 : am_mo mt_JIllegalArgumentException_init_0 0 := ⟨⟨by decide +kernel, by decide +kernel⟩, by decide +kernel, ⟨by decide +kernel, by decide +kernel⟩, (am_t7 97 rfl rfl), (am_t1 19 rfl rfl), by decide +kernel⟩
theorem im_JIllegalArgumentException_init_0 : Cond.instanceMethod mt_JIllegalArgumentException_init_0.1 ∈ am_gw := (am_t7 96 rfl rfl)
theorem ln_W_97 : am_ln "WebFinder" 97 mt_JIllegalArgumentException_init_0.1 := Or.inl (am_t7 95 rfl rfl)
theorem dc_W_end_22 : decode prog_1_method_3_code 22 = .ok (.athrow, 1) := by decide +kernel
theorem dc_W_end_23 : decode prog_1_method_3_code 23 = .ok (.aload_n 0, 1) := by decide +kernel
theorem dc_W_end_24 : decode prog_1_method_3_code 24 = .ok (.getfield 12, 3) := by decide +kernel
theorem dc_W_end_27 : decode prog_1_method_3_code 27 = .ok (.getfield 85, 3) := by decide +kernel
theorem dc_W_end_30 : decode prog_1_method_3_code 30 = .ok (.istore_n 2, 1) := by decide +kernel
theorem dc_W_end_31 : decode prog_1_method_3_code 31 = .ok (.aload_n 0, 1) := by decide +kernel
theorem dc_W_end_32 : decode prog_1_method_3_code 32 = .ok (.getfield 12, 3) := by decide +kernel
theorem dc_W_end_35 : decode prog_1_method_3_code 35 = .ok (.iload_n 1, 1) := by decide +kernel
theorem dc_W_end_36 : decode prog_1_method_3_code 36 = .ok (.putfield 85, 3) := by decide +kernel
theorem fp_W_end_85 : am_fp mt_W_end.1 85 1 1 (.int) := ⟨"WebFinder$Bytes", tt_B, 2, rfl, by decide, ct_B 1 (by decide), Or.inl ⟨(am_t1 58 rfl rfl), Or.inl rfl⟩⟩
theorem dc_W_end_39 : decode prog_1_method_3_code 39 = .ok (.iload_n 2, 1) := by decide +kernel
theorem dc_W_end_40 : decode prog_1_method_3_code 40 = .ok (.ireturn, 1) := by decide +kernel
theorem dc_M_thrown_0 : decode prog_14_method_1_code 0 = .ok (.aload_n 0, 1) := by decide +kernel
theorem dc_M_thrown_1 : decode prog_14_method_1_code 1 = .ok (.getfield 1, 3) := by decide +kernel
theorem fl_M_1 : am_fl "WebFinderModel" 1 12 2 := ⟨"WebFinderModel", tt_M, 90, rfl, by decide, Or.inl (am_t7 113 rfl rfl)⟩
theorem dc_M_thrown_4 : decode prog_14_method_1_code 4 = .ok (.ireturn, 1) := by decide +kernel
theorem dc_M_init_0 : decode prog_14_method_45_code 0 = .ok (.aload_n 0, 1) := by decide +kernel
theorem dc_M_init_1 : decode prog_14_method_45_code 1 = .ok (.invokespecial 331, 3) := by decide +kernel
theorem ob_M_331 : Cond.methodLink "WebFinderModel" 331 Lib.objectInit ∈ am_gw := (am_t7 108 rfl rfl)
theorem dc_M_init_4 : decode prog_14_method_45_code 4 = .ok (.aload_n 0, 1) := by decide +kernel
theorem dc_M_init_5 : decode prog_14_method_45_code 5 = .ok (.sipush 8020, 3) := by decide +kernel
theorem dc_M_init_8 : decode prog_14_method_45_code 8 = .ok (.newarray .byte, 2) := by decide +kernel
theorem dc_M_init_10 : decode prog_14_method_45_code 10 = .ok (.putfield 143, 3) := by decide +kernel
theorem fp_M_init_143 : am_fp mt_M_init.1 143 12 0 (.array .byte) := ⟨"WebFinderModel", tt_M, 90, rfl, by decide, ct_M 0 (by decide), Or.inl ⟨(am_t7 111 rfl rfl), Or.inr ⟨rfl, rfl, rfl⟩⟩⟩
theorem dc_M_init_13 : decode prog_14_method_45_code 13 = .ok (.aload_n 0, 1) := by decide +kernel
theorem dc_M_init_14 : decode prog_14_method_45_code 14 = .ok (.sipush 20000, 3) := by decide +kernel
theorem dc_M_init_17 : decode prog_14_method_45_code 17 = .ok (.newarray .byte, 2) := by decide +kernel
theorem dc_M_init_19 : decode prog_14_method_45_code 19 = .ok (.putfield 337, 3) := by decide +kernel
theorem fp_M_init_337 : am_fp mt_M_init.1 337 12 3 (.array .byte) := ⟨"WebFinderModel", tt_M, 90, rfl, by decide, ct_M 3 (by decide), Or.inl ⟨(am_t7 114 rfl rfl), Or.inr ⟨rfl, rfl, rfl⟩⟩⟩
theorem dc_M_init_22 : decode prog_14_method_45_code 22 = .ok (.aload_n 0, 1) := by decide +kernel
theorem dc_M_init_23 : decode prog_14_method_45_code 23 = .ok (.ldc_w 340, 3) := by decide +kernel
theorem dc_M_init_26 : decode prog_14_method_45_code 26 = .ok (.newarray .byte, 2) := by decide +kernel
theorem dc_M_init_28 : decode prog_14_method_45_code 28 = .ok (.putfield 41, 3) := by decide +kernel
theorem fp_M_init_41 : am_fp mt_M_init.1 41 12 5 (.array .byte) := ⟨"WebFinderModel", tt_M, 90, rfl, by decide, ct_M 5 (by decide), Or.inl ⟨(am_t7 116 rfl rfl), Or.inr ⟨rfl, rfl, rfl⟩⟩⟩
theorem dc_M_init_31 : decode prog_14_method_45_code 31 = .ok (.aload_n 0, 1) := by decide +kernel
theorem dc_M_init_32 : decode prog_14_method_45_code 32 = .ok (.sipush 3500, 3) := by decide +kernel
theorem dc_M_init_35 : decode prog_14_method_45_code 35 = .ok (.newarray .int, 2) := by decide +kernel
theorem dc_M_init_37 : decode prog_14_method_45_code 37 = .ok (.putfield 31, 3) := by decide +kernel
theorem fp_M_init_31 : am_fp mt_M_init.1 31 12 6 (.array .int) := ⟨"WebFinderModel", tt_M, 90, rfl, by decide, ct_M 6 (by decide), Or.inl ⟨(am_t7 117 rfl rfl), Or.inr ⟨rfl, rfl, rfl⟩⟩⟩
theorem dc_M_init_40 : decode prog_14_method_45_code 40 = .ok (.aload_n 0, 1) := by decide +kernel
theorem dc_M_init_41 : decode prog_14_method_45_code 41 = .ok (.sipush 3500, 3) := by decide +kernel
theorem dc_M_init_44 : decode prog_14_method_45_code 44 = .ok (.newarray .int, 2) := by decide +kernel
theorem dc_M_init_46 : decode prog_14_method_45_code 46 = .ok (.putfield 35, 3) := by decide +kernel
theorem fp_M_init_35 : am_fp mt_M_init.1 35 12 7 (.array .int) := ⟨"WebFinderModel", tt_M, 90, rfl, by decide, ct_M 7 (by decide), Or.inl ⟨(am_t7 118 rfl rfl), Or.inr ⟨rfl, rfl, rfl⟩⟩⟩
theorem dc_M_init_49 : decode prog_14_method_45_code 49 = .ok (.aload_n 0, 1) := by decide +kernel
theorem dc_M_init_50 : decode prog_14_method_45_code 50 = .ok (.sipush 200, 3) := by decide +kernel
theorem dc_M_init_53 : decode prog_14_method_45_code 53 = .ok (.newarray .byte, 2) := by decide +kernel
theorem dc_M_init_55 : decode prog_14_method_45_code 55 = .ok (.putfield 45, 3) := by decide +kernel
theorem fp_M_init_45 : am_fp mt_M_init.1 45 12 9 (.array .byte) := ⟨"WebFinderModel", tt_M, 90, rfl, by decide, ct_M 9 (by decide), Or.inl ⟨(am_t7 120 rfl rfl), Or.inr ⟨rfl, rfl, rfl⟩⟩⟩
theorem dc_M_init_58 : decode prog_14_method_45_code 58 = .ok (.aload_n 0, 1) := by decide +kernel
theorem dc_M_init_59 : decode prog_14_method_45_code 59 = .ok (.bipush 80, 2) := by decide +kernel
theorem dc_M_init_61 : decode prog_14_method_45_code 61 = .ok (.newarray .byte, 2) := by decide +kernel
theorem dc_M_init_63 : decode prog_14_method_45_code 63 = .ok (.putfield 67, 3) := by decide +kernel
theorem fp_M_init_67 : am_fp mt_M_init.1 67 12 11 (.array .byte) := ⟨"WebFinderModel", tt_M, 90, rfl, by decide, ct_M 11 (by decide), Or.inl ⟨(am_t7 122 rfl rfl), Or.inr ⟨rfl, rfl, rfl⟩⟩⟩
theorem dc_M_init_66 : decode prog_14_method_45_code 66 = .ok (.aload_n 0, 1) := by decide +kernel
theorem dc_M_init_67 : decode prog_14_method_45_code 67 = .ok (.sipush 8400, 3) := by decide +kernel
theorem dc_M_init_70 : decode prog_14_method_45_code 70 = .ok (.newarray .byte, 2) := by decide +kernel
theorem dc_M_init_72 : decode prog_14_method_45_code 72 = .ok (.putfield 91, 3) := by decide +kernel
theorem fp_M_init_91 : am_fp mt_M_init.1 91 12 12 (.array .byte) := ⟨"WebFinderModel", tt_M, 90, rfl, by decide, ct_M 12 (by decide), Or.inl ⟨(am_t7 123 rfl rfl), Or.inr ⟨rfl, rfl, rfl⟩⟩⟩
theorem dc_M_init_75 : decode prog_14_method_45_code 75 = .ok (.aload_n 0, 1) := by decide +kernel
theorem dc_M_init_76 : decode prog_14_method_45_code 76 = .ok (.sipush 8400, 3) := by decide +kernel
theorem dc_M_init_79 : decode prog_14_method_45_code 79 = .ok (.newarray .byte, 2) := by decide +kernel
theorem dc_M_init_81 : decode prog_14_method_45_code 81 = .ok (.putfield 101, 3) := by decide +kernel
theorem fp_M_init_101 : am_fp mt_M_init.1 101 12 13 (.array .byte) := ⟨"WebFinderModel", tt_M, 90, rfl, by decide, ct_M 13 (by decide), Or.inl ⟨(am_t7 124 rfl rfl), Or.inr ⟨rfl, rfl, rfl⟩⟩⟩
theorem dc_M_init_84 : decode prog_14_method_45_code 84 = .ok (.aload_n 0, 1) := by decide +kernel
theorem dc_M_init_85 : decode prog_14_method_45_code 85 = .ok (.sipush 8400, 3) := by decide +kernel
theorem dc_M_init_88 : decode prog_14_method_45_code 88 = .ok (.newarray .byte, 2) := by decide +kernel
theorem dc_M_init_90 : decode prog_14_method_45_code 90 = .ok (.putfield 122, 3) := by decide +kernel
theorem fp_M_init_122 : am_fp mt_M_init.1 122 12 14 (.array .byte) := ⟨"WebFinderModel", tt_M, 90, rfl, by decide, ct_M 14 (by decide), Or.inl ⟨(am_t7 125 rfl rfl), Or.inr ⟨rfl, rfl, rfl⟩⟩⟩
theorem dc_M_init_93 : decode prog_14_method_45_code 93 = .ok (.aload_n 0, 1) := by decide +kernel
theorem dc_M_init_94 : decode prog_14_method_45_code 94 = .ok (.sipush 8400, 3) := by decide +kernel
theorem dc_M_init_97 : decode prog_14_method_45_code 97 = .ok (.newarray .int, 2) := by decide +kernel
theorem dc_M_init_99 : decode prog_14_method_45_code 99 = .ok (.putfield 119, 3) := by decide +kernel
theorem fp_M_init_119 : am_fp mt_M_init.1 119 12 15 (.array .int) := ⟨"WebFinderModel", tt_M, 90, rfl, by decide, ct_M 15 (by decide), Or.inl ⟨(am_t7 126 rfl rfl), Or.inr ⟨rfl, rfl, rfl⟩⟩⟩
theorem dc_M_init_102 : decode prog_14_method_45_code 102 = .ok (.aload_n 0, 1) := by decide +kernel
theorem dc_M_init_103 : decode prog_14_method_45_code 103 = .ok (.sipush 24000, 3) := by decide +kernel
theorem dc_M_init_106 : decode prog_14_method_45_code 106 = .ok (.newarray .byte, 2) := by decide +kernel
theorem dc_M_init_108 : decode prog_14_method_45_code 108 = .ok (.putfield 140, 3) := by decide +kernel
theorem fp_M_init_140 : am_fp mt_M_init.1 140 12 19 (.array .byte) := ⟨"WebFinderModel", tt_M, 90, rfl, by decide, ct_M 19 (by decide), Or.inl ⟨(am_t7 130 rfl rfl), Or.inr ⟨rfl, rfl, rfl⟩⟩⟩
theorem dc_M_init_111 : decode prog_14_method_45_code 111 = .ok (.aload_n 0, 1) := by decide +kernel
theorem dc_M_init_112 : decode prog_14_method_45_code 112 = .ok (.sipush 1100, 3) := by decide +kernel
theorem dc_M_init_115 : decode prog_14_method_45_code 115 = .ok (.newarray .int, 2) := by decide +kernel
theorem dc_M_init_117 : decode prog_14_method_45_code 117 = .ok (.putfield 131, 3) := by decide +kernel
theorem fp_M_init_131 : am_fp mt_M_init.1 131 12 21 (.array .int) := ⟨"WebFinderModel", tt_M, 90, rfl, by decide, ct_M 21 (by decide), Or.inl ⟨(am_t7 132 rfl rfl), Or.inr ⟨rfl, rfl, rfl⟩⟩⟩
theorem dc_M_init_120 : decode prog_14_method_45_code 120 = .ok (.aload_n 0, 1) := by decide +kernel
theorem dc_M_init_121 : decode prog_14_method_45_code 121 = .ok (.sipush 1100, 3) := by decide +kernel
theorem dc_M_init_124 : decode prog_14_method_45_code 124 = .ok (.newarray .int, 2) := by decide +kernel
theorem dc_M_init_126 : decode prog_14_method_45_code 126 = .ok (.putfield 146, 3) := by decide +kernel
theorem fp_M_init_146 : am_fp mt_M_init.1 146 12 22 (.array .int) := ⟨"WebFinderModel", tt_M, 90, rfl, by decide, ct_M 22 (by decide), Or.inl ⟨(am_t7 133 rfl rfl), Or.inr ⟨rfl, rfl, rfl⟩⟩⟩
theorem dc_M_init_129 : decode prog_14_method_45_code 129 = .ok (.aload_n 0, 1) := by decide +kernel
theorem dc_M_init_130 : decode prog_14_method_45_code 130 = .ok (.bipush 12, 2) := by decide +kernel
theorem dc_M_init_132 : decode prog_14_method_45_code 132 = .ok (.newarray .int, 2) := by decide +kernel
theorem dc_M_init_134 : decode prog_14_method_45_code 134 = .ok (.putfield 152, 3) := by decide +kernel
theorem fp_M_init_152 : am_fp mt_M_init.1 152 12 24 (.array .int) := ⟨"WebFinderModel", tt_M, 90, rfl, by decide, ct_M 24 (by decide), Or.inl ⟨(am_t7 135 rfl rfl), Or.inr ⟨rfl, rfl, rfl⟩⟩⟩
theorem dc_M_init_137 : decode prog_14_method_45_code 137 = .ok (.aload_n 0, 1) := by decide +kernel
theorem dc_M_init_138 : decode prog_14_method_45_code 138 = .ok (.bipush 12, 2) := by decide +kernel
theorem dc_M_init_140 : decode prog_14_method_45_code 140 = .ok (.newarray .int, 2) := by decide +kernel
theorem dc_M_init_142 : decode prog_14_method_45_code 142 = .ok (.putfield 204, 3) := by decide +kernel
theorem fp_M_init_204 : am_fp mt_M_init.1 204 12 25 (.array .int) := ⟨"WebFinderModel", tt_M, 90, rfl, by decide, ct_M 25 (by decide), Or.inl ⟨(am_t7 136 rfl rfl), Or.inr ⟨rfl, rfl, rfl⟩⟩⟩
theorem dc_M_init_145 : decode prog_14_method_45_code 145 = .ok (.aload_n 0, 1) := by decide +kernel
theorem dc_M_init_146 : decode prog_14_method_45_code 146 = .ok (.sipush 8000, 3) := by decide +kernel
theorem dc_M_init_149 : decode prog_14_method_45_code 149 = .ok (.newarray .byte, 2) := by decide +kernel
theorem dc_M_init_151 : decode prog_14_method_45_code 151 = .ok (.putfield 191, 3) := by decide +kernel
theorem fp_M_init_191 : am_fp mt_M_init.1 191 12 30 (.array .byte) := ⟨"WebFinderModel", tt_M, 90, rfl, by decide, ct_M 30 (by decide), Or.inl ⟨(am_t7 141 rfl rfl), Or.inr ⟨rfl, rfl, rfl⟩⟩⟩
theorem dc_M_init_154 : decode prog_14_method_45_code 154 = .ok (.aload_n 0, 1) := by decide +kernel
theorem dc_M_init_155 : decode prog_14_method_45_code 155 = .ok (.sipush 201, 3) := by decide +kernel
theorem dc_M_init_158 : decode prog_14_method_45_code 158 = .ok (.newarray .boolean, 2) := by decide +kernel
theorem dc_M_init_160 : decode prog_14_method_45_code 160 = .ok (.putfield 184, 3) := by decide +kernel
theorem fp_M_init_184 : am_fp mt_M_init.1 184 12 32 (.array .boolean) := ⟨"WebFinderModel", tt_M, 90, rfl, by decide, ct_M 32 (by decide), Or.inl ⟨(am_t7 143 rfl rfl), Or.inr ⟨rfl, rfl, rfl⟩⟩⟩
theorem dc_M_init_163 : decode prog_14_method_45_code 163 = .ok (.aload_n 0, 1) := by decide +kernel
theorem dc_M_init_164 : decode prog_14_method_45_code 164 = .ok (.sipush 8000, 3) := by decide +kernel
theorem dc_M_init_167 : decode prog_14_method_45_code 167 = .ok (.newarray .byte, 2) := by decide +kernel
theorem dc_M_init_169 : decode prog_14_method_45_code 169 = .ok (.putfield 235, 3) := by decide +kernel
theorem fp_M_init_235 : am_fp mt_M_init.1 235 12 35 (.array .byte) := ⟨"WebFinderModel", tt_M, 90, rfl, by decide, ct_M 35 (by decide), Or.inl ⟨(am_t7 146 rfl rfl), Or.inr ⟨rfl, rfl, rfl⟩⟩⟩
theorem dc_M_init_172 : decode prog_14_method_45_code 172 = .ok (.aload_n 0, 1) := by decide +kernel
theorem dc_M_init_173 : decode prog_14_method_45_code 173 = .ok (.sipush 8000, 3) := by decide +kernel
theorem dc_M_init_176 : decode prog_14_method_45_code 176 = .ok (.newarray .byte, 2) := by decide +kernel
theorem dc_M_init_178 : decode prog_14_method_45_code 178 = .ok (.putfield 232, 3) := by decide +kernel
theorem fp_M_init_232 : am_fp mt_M_init.1 232 12 37 (.array .byte) := ⟨"WebFinderModel", tt_M, 90, rfl, by decide, ct_M 37 (by decide), Or.inl ⟨(am_t7 148 rfl rfl), Or.inr ⟨rfl, rfl, rfl⟩⟩⟩
theorem dc_M_init_181 : decode prog_14_method_45_code 181 = .ok (.aload_n 0, 1) := by decide +kernel
theorem dc_M_init_182 : decode prog_14_method_45_code 182 = .ok (.sipush 4001, 3) := by decide +kernel
theorem dc_M_init_185 : decode prog_14_method_45_code 185 = .ok (.newarray .int, 2) := by decide +kernel
theorem dc_M_init_187 : decode prog_14_method_45_code 187 = .ok (.putfield 226, 3) := by decide +kernel
theorem fp_M_init_226 : am_fp mt_M_init.1 226 12 38 (.array .int) := ⟨"WebFinderModel", tt_M, 90, rfl, by decide, ct_M 38 (by decide), Or.inl ⟨(am_t7 149 rfl rfl), Or.inr ⟨rfl, rfl, rfl⟩⟩⟩
theorem dc_M_init_190 : decode prog_14_method_45_code 190 = .ok (.aload_n 0, 1) := by decide +kernel
theorem dc_M_init_191 : decode prog_14_method_45_code 191 = .ok (.sipush 4001, 3) := by decide +kernel
theorem dc_M_init_194 : decode prog_14_method_45_code 194 = .ok (.newarray .int, 2) := by decide +kernel
theorem dc_M_init_196 : decode prog_14_method_45_code 196 = .ok (.putfield 229, 3) := by decide +kernel
theorem fp_M_init_229 : am_fp mt_M_init.1 229 12 39 (.array .int) := ⟨"WebFinderModel", tt_M, 90, rfl, by decide, ct_M 39 (by decide), Or.inl ⟨(am_t7 150 rfl rfl), Or.inr ⟨rfl, rfl, rfl⟩⟩⟩
theorem dc_M_init_199 : decode prog_14_method_45_code 199 = .ok (.aload_n 0, 1) := by decide +kernel
theorem dc_M_init_200 : decode prog_14_method_45_code 200 = .ok (.sipush 8000, 3) := by decide +kernel
theorem dc_M_init_203 : decode prog_14_method_45_code 203 = .ok (.newarray .byte, 2) := by decide +kernel
theorem dc_M_init_205 : decode prog_14_method_45_code 205 = .ok (.putfield 292, 3) := by decide +kernel
theorem fp_M_init_292 : am_fp mt_M_init.1 292 12 41 (.array .byte) := ⟨"WebFinderModel", tt_M, 90, rfl, by decide, ct_M 41 (by decide), Or.inl ⟨(am_t7 152 rfl rfl), Or.inr ⟨rfl, rfl, rfl⟩⟩⟩
theorem dc_M_init_208 : decode prog_14_method_45_code 208 = .ok (.aload_n 0, 1) := by decide +kernel
theorem dc_M_init_209 : decode prog_14_method_45_code 209 = .ok (.sipush 1000, 3) := by decide +kernel
theorem dc_M_init_212 : decode prog_14_method_45_code 212 = .ok (.newarray .int, 2) := by decide +kernel
theorem dc_M_init_214 : decode prog_14_method_45_code 214 = .ok (.putfield 280, 3) := by decide +kernel
theorem fp_M_init_280 : am_fp mt_M_init.1 280 12 42 (.array .int) := ⟨"WebFinderModel", tt_M, 90, rfl, by decide, ct_M 42 (by decide), Or.inl ⟨(am_t7 153 rfl rfl), Or.inr ⟨rfl, rfl, rfl⟩⟩⟩
theorem dc_M_init_217 : decode prog_14_method_45_code 217 = .ok (.aload_n 0, 1) := by decide +kernel
theorem dc_M_init_218 : decode prog_14_method_45_code 218 = .ok (.sipush 1000, 3) := by decide +kernel
theorem dc_M_init_221 : decode prog_14_method_45_code 221 = .ok (.newarray .int, 2) := by decide +kernel
theorem dc_M_init_223 : decode prog_14_method_45_code 223 = .ok (.putfield 283, 3) := by decide +kernel
theorem fp_M_init_283 : am_fp mt_M_init.1 283 12 43 (.array .int) := ⟨"WebFinderModel", tt_M, 90, rfl, by decide, ct_M 43 (by decide), Or.inl ⟨(am_t7 154 rfl rfl), Or.inr ⟨rfl, rfl, rfl⟩⟩⟩
theorem dc_M_init_226 : decode prog_14_method_45_code 226 = .ok (.aload_n 0, 1) := by decide +kernel
theorem dc_M_init_227 : decode prog_14_method_45_code 227 = .ok (.bipush 60, 2) := by decide +kernel
theorem dc_M_init_229 : decode prog_14_method_45_code 229 = .ok (.newarray .int, 2) := by decide +kernel
theorem dc_M_init_231 : decode prog_14_method_45_code 231 = .ok (.putfield 315, 3) := by decide +kernel
theorem fp_M_init_315 : am_fp mt_M_init.1 315 12 51 (.array .int) := ⟨"WebFinderModel", tt_M, 90, rfl, by decide, ct_M 51 (by decide), Or.inl ⟨(am_t7 162 rfl rfl), Or.inr ⟨rfl, rfl, rfl⟩⟩⟩
theorem dc_M_init_234 : decode prog_14_method_45_code 234 = .ok (.aload_n 0, 1) := by decide +kernel
theorem dc_M_init_235 : decode prog_14_method_45_code 235 = .ok (.bipush 60, 2) := by decide +kernel
theorem dc_M_init_237 : decode prog_14_method_45_code 237 = .ok (.newarray .int, 2) := by decide +kernel
theorem dc_M_init_239 : decode prog_14_method_45_code 239 = .ok (.putfield 341, 3) := by decide +kernel
theorem fp_M_init_341 : am_fp mt_M_init.1 341 12 52 (.array .int) := ⟨"WebFinderModel", tt_M, 90, rfl, by decide, ct_M 52 (by decide), Or.inl ⟨(am_t7 163 rfl rfl), Or.inr ⟨rfl, rfl, rfl⟩⟩⟩
theorem dc_M_init_242 : decode prog_14_method_45_code 242 = .ok (.aload_n 0, 1) := by decide +kernel
theorem dc_M_init_243 : decode prog_14_method_45_code 243 = .ok (.bipush 60, 2) := by decide +kernel
theorem dc_M_init_245 : decode prog_14_method_45_code 245 = .ok (.newarray .int, 2) := by decide +kernel
theorem dc_M_init_247 : decode prog_14_method_45_code 247 = .ok (.putfield 344, 3) := by decide +kernel
theorem fp_M_init_344 : am_fp mt_M_init.1 344 12 53 (.array .int) := ⟨"WebFinderModel", tt_M, 90, rfl, by decide, ct_M 53 (by decide), Or.inl ⟨(am_t7 164 rfl rfl), Or.inr ⟨rfl, rfl, rfl⟩⟩⟩
theorem dc_M_init_250 : decode prog_14_method_45_code 250 = .ok (.aload_n 0, 1) := by decide +kernel
theorem dc_M_init_251 : decode prog_14_method_45_code 251 = .ok (.bipush 60, 2) := by decide +kernel
theorem dc_M_init_253 : decode prog_14_method_45_code 253 = .ok (.newarray .int, 2) := by decide +kernel
theorem dc_M_init_255 : decode prog_14_method_45_code 255 = .ok (.putfield 328, 3) := by decide +kernel
theorem fp_M_init_328 : am_fp mt_M_init.1 328 12 55 (.array .int) := ⟨"WebFinderModel", tt_M, 90, rfl, by decide, ct_M 55 (by decide), Or.inl ⟨(am_t7 166 rfl rfl), Or.inr ⟨rfl, rfl, rfl⟩⟩⟩
theorem dc_M_init_258 : decode prog_14_method_45_code 258 = .ok (.aload_n 0, 1) := by decide +kernel
theorem dc_M_init_259 : decode prog_14_method_45_code 259 = .ok (.iconst 4, 1) := by decide +kernel
theorem dc_M_init_260 : decode prog_14_method_45_code 260 = .ok (.newarray .int, 2) := by decide +kernel
theorem dc_M_init_262 : decode prog_14_method_45_code 262 = .ok (.putfield 347, 3) := by decide +kernel
theorem fp_M_init_347 : am_fp mt_M_init.1 347 12 57 (.array .int) := ⟨"WebFinderModel", tt_M, 90, rfl, by decide, ct_M 57 (by decide), Or.inl ⟨(am_t7 168 rfl rfl), Or.inr ⟨rfl, rfl, rfl⟩⟩⟩
theorem dc_M_init_265 : decode prog_14_method_45_code 265 = .ok (.aload_n 0, 1) := by decide +kernel
theorem dc_M_init_266 : decode prog_14_method_45_code 266 = .ok (.iconst 4, 1) := by decide +kernel
theorem dc_M_init_267 : decode prog_14_method_45_code 267 = .ok (.newarray .int, 2) := by decide +kernel
theorem dc_M_init_269 : decode prog_14_method_45_code 269 = .ok (.putfield 350, 3) := by decide +kernel
theorem fp_M_init_350 : am_fp mt_M_init.1 350 12 58 (.array .int) := ⟨"WebFinderModel", tt_M, 90, rfl, by decide, ct_M 58 (by decide), Or.inl ⟨(am_t7 169 rfl rfl), Or.inr ⟨rfl, rfl, rfl⟩⟩⟩
theorem dc_M_init_272 : decode prog_14_method_45_code 272 = .ok (.aload_n 0, 1) := by decide +kernel
theorem dc_M_init_273 : decode prog_14_method_45_code 273 = .ok (.bipush 20, 2) := by decide +kernel
theorem dc_M_init_275 : decode prog_14_method_45_code 275 = .ok (.newarray .int, 2) := by decide +kernel
theorem dc_M_init_277 : decode prog_14_method_45_code 277 = .ok (.putfield 353, 3) := by decide +kernel
theorem fp_M_init_353 : am_fp mt_M_init.1 353 12 59 (.array .int) := ⟨"WebFinderModel", tt_M, 90, rfl, by decide, ct_M 59 (by decide), Or.inl ⟨(am_t7 170 rfl rfl), Or.inr ⟨rfl, rfl, rfl⟩⟩⟩
theorem dc_M_init_280 : decode prog_14_method_45_code 280 = .ok (.aload_n 0, 1) := by decide +kernel
theorem dc_M_init_281 : decode prog_14_method_45_code 281 = .ok (.sipush 1500, 3) := by decide +kernel
theorem dc_M_init_284 : decode prog_14_method_45_code 284 = .ok (.newarray .int, 2) := by decide +kernel
theorem dc_M_init_286 : decode prog_14_method_45_code 286 = .ok (.putfield 356, 3) := by decide +kernel
theorem fp_M_init_356 : am_fp mt_M_init.1 356 12 63 (.array .int) := ⟨"WebFinderModel", tt_M, 90, rfl, by decide, ct_M 63 (by decide), Or.inl ⟨(am_t7 174 rfl rfl), Or.inr ⟨rfl, rfl, rfl⟩⟩⟩
theorem dc_M_init_289 : decode prog_14_method_45_code 289 = .ok (.aload_n 0, 1) := by decide +kernel
theorem dc_M_init_290 : decode prog_14_method_45_code 290 = .ok (.sipush 1500, 3) := by decide +kernel
theorem dc_M_init_293 : decode prog_14_method_45_code 293 = .ok (.newarray .int, 2) := by decide +kernel
theorem dc_M_init_295 : decode prog_14_method_45_code 295 = .ok (.putfield 359, 3) := by decide +kernel
theorem fp_M_init_359 : am_fp mt_M_init.1 359 12 65 (.array .int) := ⟨"WebFinderModel", tt_M, 90, rfl, by decide, ct_M 65 (by decide), Or.inl ⟨(am_t7 176 rfl rfl), Or.inr ⟨rfl, rfl, rfl⟩⟩⟩
theorem dc_M_init_298 : decode prog_14_method_45_code 298 = .ok (.aload_n 0, 1) := by decide +kernel
theorem dc_M_init_299 : decode prog_14_method_45_code 299 = .ok (.sipush 1000, 3) := by decide +kernel
theorem dc_M_init_302 : decode prog_14_method_45_code 302 = .ok (.newarray .int, 2) := by decide +kernel
theorem dc_M_init_304 : decode prog_14_method_45_code 304 = .ok (.putfield 362, 3) := by decide +kernel
theorem fp_M_init_362 : am_fp mt_M_init.1 362 12 69 (.array .int) := ⟨"WebFinderModel", tt_M, 90, rfl, by decide, ct_M 69 (by decide), Or.inl ⟨(am_t7 180 rfl rfl), Or.inr ⟨rfl, rfl, rfl⟩⟩⟩
theorem dc_M_init_307 : decode prog_14_method_45_code 307 = .ok (.aload_n 0, 1) := by decide +kernel
theorem dc_M_init_308 : decode prog_14_method_45_code 308 = .ok (.sipush 1000, 3) := by decide +kernel
theorem dc_M_init_311 : decode prog_14_method_45_code 311 = .ok (.newarray .int, 2) := by decide +kernel
theorem dc_M_init_313 : decode prog_14_method_45_code 313 = .ok (.putfield 365, 3) := by decide +kernel
theorem fp_M_init_365 : am_fp mt_M_init.1 365 12 70 (.array .int) := ⟨"WebFinderModel", tt_M, 90, rfl, by decide, ct_M 70 (by decide), Or.inl ⟨(am_t7 181 rfl rfl), Or.inr ⟨rfl, rfl, rfl⟩⟩⟩
theorem dc_M_init_316 : decode prog_14_method_45_code 316 = .ok (.aload_n 0, 1) := by decide +kernel
theorem dc_M_init_317 : decode prog_14_method_45_code 317 = .ok (.sipush 250, 3) := by decide +kernel
theorem dc_M_init_320 : decode prog_14_method_45_code 320 = .ok (.newarray .int, 2) := by decide +kernel
theorem dc_M_init_322 : decode prog_14_method_45_code 322 = .ok (.putfield 368, 3) := by decide +kernel
theorem fp_M_init_368 : am_fp mt_M_init.1 368 12 71 (.array .int) := ⟨"WebFinderModel", tt_M, 90, rfl, by decide, ct_M 71 (by decide), Or.inl ⟨(am_t7 182 rfl rfl), Or.inr ⟨rfl, rfl, rfl⟩⟩⟩
theorem dc_M_init_325 : decode prog_14_method_45_code 325 = .ok (.aload_n 0, 1) := by decide +kernel
theorem dc_M_init_326 : decode prog_14_method_45_code 326 = .ok (.sipush 250, 3) := by decide +kernel
theorem dc_M_init_329 : decode prog_14_method_45_code 329 = .ok (.newarray .int, 2) := by decide +kernel
theorem dc_M_init_331 : decode prog_14_method_45_code 331 = .ok (.putfield 371, 3) := by decide +kernel
theorem fp_M_init_371 : am_fp mt_M_init.1 371 12 72 (.array .int) := ⟨"WebFinderModel", tt_M, 90, rfl, by decide, ct_M 72 (by decide), Or.inl ⟨(am_t7 183 rfl rfl), Or.inr ⟨rfl, rfl, rfl⟩⟩⟩
theorem dc_M_init_334 : decode prog_14_method_45_code 334 = .ok (.aload_n 0, 1) := by decide +kernel
theorem dc_M_init_335 : decode prog_14_method_45_code 335 = .ok (.sipush 250, 3) := by decide +kernel
theorem dc_M_init_338 : decode prog_14_method_45_code 338 = .ok (.newarray .int, 2) := by decide +kernel
theorem dc_M_init_340 : decode prog_14_method_45_code 340 = .ok (.putfield 374, 3) := by decide +kernel
theorem fp_M_init_374 : am_fp mt_M_init.1 374 12 76 (.array .int) := ⟨"WebFinderModel", tt_M, 90, rfl, by decide, ct_M 76 (by decide), Or.inl ⟨(am_t7 187 rfl rfl), Or.inr ⟨rfl, rfl, rfl⟩⟩⟩
theorem dc_M_init_343 : decode prog_14_method_45_code 343 = .ok (.aload_n 0, 1) := by decide +kernel
theorem dc_M_init_344 : decode prog_14_method_45_code 344 = .ok (.sipush 250, 3) := by decide +kernel
theorem dc_M_init_347 : decode prog_14_method_45_code 347 = .ok (.newarray .int, 2) := by decide +kernel
theorem dc_M_init_349 : decode prog_14_method_45_code 349 = .ok (.putfield 377, 3) := by decide +kernel
theorem fp_M_init_377 : am_fp mt_M_init.1 377 12 77 (.array .int) := ⟨"WebFinderModel", tt_M, 90, rfl, by decide, ct_M 77 (by decide), Or.inl ⟨(am_t7 188 rfl rfl), Or.inr ⟨rfl, rfl, rfl⟩⟩⟩
theorem dc_M_init_352 : decode prog_14_method_45_code 352 = .ok (.aload_n 0, 1) := by decide +kernel
theorem dc_M_init_353 : decode prog_14_method_45_code 353 = .ok (.sipush 250, 3) := by decide +kernel
theorem dc_M_init_356 : decode prog_14_method_45_code 356 = .ok (.newarray .int, 2) := by decide +kernel
theorem dc_M_init_358 : decode prog_14_method_45_code 358 = .ok (.putfield 380, 3) := by decide +kernel
theorem fp_M_init_380 : am_fp mt_M_init.1 380 12 78 (.array .int) := ⟨"WebFinderModel", tt_M, 90, rfl, by decide, ct_M 78 (by decide), Or.inl ⟨(am_t7 189 rfl rfl), Or.inr ⟨rfl, rfl, rfl⟩⟩⟩
theorem dc_M_init_361 : decode prog_14_method_45_code 361 = .ok (.aload_n 0, 1) := by decide +kernel
theorem dc_M_init_362 : decode prog_14_method_45_code 362 = .ok (.sipush 250, 3) := by decide +kernel
theorem dc_M_init_365 : decode prog_14_method_45_code 365 = .ok (.newarray .int, 2) := by decide +kernel
theorem dc_M_init_367 : decode prog_14_method_45_code 367 = .ok (.putfield 383, 3) := by decide +kernel
theorem fp_M_init_383 : am_fp mt_M_init.1 383 12 79 (.array .int) := ⟨"WebFinderModel", tt_M, 90, rfl, by decide, ct_M 79 (by decide), Or.inl ⟨(am_t7 190 rfl rfl), Or.inr ⟨rfl, rfl, rfl⟩⟩⟩
theorem dc_M_init_370 : decode prog_14_method_45_code 370 = .ok (.aload_n 0, 1) := by decide +kernel
theorem dc_M_init_371 : decode prog_14_method_45_code 371 = .ok (.sipush 250, 3) := by decide +kernel
theorem dc_M_init_374 : decode prog_14_method_45_code 374 = .ok (.newarray .int, 2) := by decide +kernel
theorem dc_M_init_376 : decode prog_14_method_45_code 376 = .ok (.putfield 386, 3) := by decide +kernel
theorem fp_M_init_386 : am_fp mt_M_init.1 386 12 80 (.array .int) := ⟨"WebFinderModel", tt_M, 90, rfl, by decide, ct_M 80 (by decide), Or.inl ⟨(am_t7 191 rfl rfl), Or.inr ⟨rfl, rfl, rfl⟩⟩⟩
theorem dc_M_init_379 : decode prog_14_method_45_code 379 = .ok (.aload_n 0, 1) := by decide +kernel
theorem dc_M_init_380 : decode prog_14_method_45_code 380 = .ok (.sipush 250, 3) := by decide +kernel
theorem dc_M_init_383 : decode prog_14_method_45_code 383 = .ok (.newarray .long, 2) := by decide +kernel
theorem dc_M_init_385 : decode prog_14_method_45_code 385 = .ok (.putfield 389, 3) := by decide +kernel
theorem fp_M_init_389 : am_fp mt_M_init.1 389 12 81 (.array .long) := ⟨"WebFinderModel", tt_M, 90, rfl, by decide, ct_M 81 (by decide), Or.inl ⟨(am_t7 192 rfl rfl), Or.inr ⟨rfl, rfl, rfl⟩⟩⟩
theorem dc_M_init_388 : decode prog_14_method_45_code 388 = .ok (.aload_n 0, 1) := by decide +kernel
theorem dc_M_init_389 : decode prog_14_method_45_code 389 = .ok (.sipush 250, 3) := by decide +kernel
theorem dc_M_init_392 : decode prog_14_method_45_code 392 = .ok (.newarray .long, 2) := by decide +kernel
theorem dc_M_init_394 : decode prog_14_method_45_code 394 = .ok (.putfield 393, 3) := by decide +kernel
theorem fp_M_init_393 : am_fp mt_M_init.1 393 12 82 (.array .long) := ⟨"WebFinderModel", tt_M, 90, rfl, by decide, ct_M 82 (by decide), Or.inl ⟨(am_t7 193 rfl rfl), Or.inr ⟨rfl, rfl, rfl⟩⟩⟩
theorem dc_M_init_397 : decode prog_14_method_45_code 397 = .ok (.aload_n 0, 1) := by decide +kernel
theorem dc_M_init_398 : decode prog_14_method_45_code 398 = .ok (.ldc_w 396, 3) := by decide +kernel
theorem dc_M_init_401 : decode prog_14_method_45_code 401 = .ok (.newarray .boolean, 2) := by decide +kernel
theorem dc_M_init_403 : decode prog_14_method_45_code 403 = .ok (.putfield 397, 3) := by decide +kernel
theorem fp_M_init_397 : am_fp mt_M_init.1 397 12 83 (.array .boolean) := ⟨"WebFinderModel", tt_M, 90, rfl, by decide, ct_M 83 (by decide), Or.inl ⟨(am_t7 194 rfl rfl), Or.inr ⟨rfl, rfl, rfl⟩⟩⟩
theorem dc_M_init_406 : decode prog_14_method_45_code 406 = .ok (.aload_n 0, 1) := by decide +kernel
theorem dc_M_init_407 : decode prog_14_method_45_code 407 = .ok (.sipush 250, 3) := by decide +kernel
theorem dc_M_init_410 : decode prog_14_method_45_code 410 = .ok (.newarray .int, 2) := by decide +kernel
theorem dc_M_init_412 : decode prog_14_method_45_code 412 = .ok (.putfield 400, 3) := by decide +kernel
theorem fp_M_init_400 : am_fp mt_M_init.1 400 12 85 (.array .int) := ⟨"WebFinderModel", tt_M, 90, rfl, by decide, ct_M 85 (by decide), Or.inl ⟨(am_t7 196 rfl rfl), Or.inr ⟨rfl, rfl, rfl⟩⟩⟩
theorem dc_M_init_415 : decode prog_14_method_45_code 415 = .ok (.aload_n 0, 1) := by decide +kernel
theorem dc_M_init_416 : decode prog_14_method_45_code 416 = .ok (.sipush 250, 3) := by decide +kernel
theorem dc_M_init_419 : decode prog_14_method_45_code 419 = .ok (.newarray .long, 2) := by decide +kernel
theorem dc_M_init_421 : decode prog_14_method_45_code 421 = .ok (.putfield 403, 3) := by decide +kernel
theorem fp_M_init_403 : am_fp mt_M_init.1 403 12 86 (.array .long) := ⟨"WebFinderModel", tt_M, 90, rfl, by decide, ct_M 86 (by decide), Or.inl ⟨(am_t7 197 rfl rfl), Or.inr ⟨rfl, rfl, rfl⟩⟩⟩
theorem dc_M_init_424 : decode prog_14_method_45_code 424 = .ok (.aload_n 0, 1) := by decide +kernel
theorem dc_M_init_425 : decode prog_14_method_45_code 425 = .ok (.sipush 160, 3) := by decide +kernel
theorem dc_M_init_428 : decode prog_14_method_45_code 428 = .ok (.newarray .byte, 2) := by decide +kernel
theorem dc_M_init_430 : decode prog_14_method_45_code 430 = .ok (.putfield 406, 3) := by decide +kernel
theorem fp_M_init_406 : am_fp mt_M_init.1 406 12 87 (.array .byte) := ⟨"WebFinderModel", tt_M, 90, rfl, by decide, ct_M 87 (by decide), Or.inl ⟨(am_t7 198 rfl rfl), Or.inr ⟨rfl, rfl, rfl⟩⟩⟩
theorem dc_M_init_433 : decode prog_14_method_45_code 433 = .ok (.aload_n 0, 1) := by decide +kernel
theorem dc_M_init_434 : decode prog_14_method_45_code 434 = .ok (.bipush 8, 2) := by decide +kernel
theorem dc_M_init_436 : decode prog_14_method_45_code 436 = .ok (.newarray .int, 2) := by decide +kernel
theorem dc_M_init_438 : decode prog_14_method_45_code 438 = .ok (.putfield 409, 3) := by decide +kernel
theorem fp_M_init_409 : am_fp mt_M_init.1 409 12 88 (.array .int) := ⟨"WebFinderModel", tt_M, 90, rfl, by decide, ct_M 88 (by decide), Or.inl ⟨(am_t7 199 rfl rfl), Or.inr ⟨rfl, rfl, rfl⟩⟩⟩
theorem dc_M_init_441 : decode prog_14_method_45_code 441 = .ok (.aload_n 0, 1) := by decide +kernel
theorem dc_M_init_442 : decode prog_14_method_45_code 442 = .ok (.getfield 347, 3) := by decide +kernel
theorem fl_M_347 : am_fl "WebFinderModel" 347 12 57 := ⟨"WebFinderModel", tt_M, 90, rfl, by decide, Or.inl (am_t7 168 rfl rfl)⟩
theorem dc_M_init_445 : decode prog_14_method_45_code 445 = .ok (.iconst 0, 1) := by decide +kernel
theorem dc_M_init_446 : decode prog_14_method_45_code 446 = .ok (.iconst 3, 1) := by decide +kernel
theorem dc_M_init_447 : decode prog_14_method_45_code 447 = .ok (.iastore, 1) := by decide +kernel
theorem dc_M_init_448 : decode prog_14_method_45_code 448 = .ok (.aload_n 0, 1) := by decide +kernel
theorem dc_M_init_449 : decode prog_14_method_45_code 449 = .ok (.getfield 347, 3) := by decide +kernel
theorem dc_M_init_452 : decode prog_14_method_45_code 452 = .ok (.iconst 1, 1) := by decide +kernel
theorem dc_M_init_453 : decode prog_14_method_45_code 453 = .ok (.iconst 3, 1) := by decide +kernel
theorem dc_M_init_454 : decode prog_14_method_45_code 454 = .ok (.iastore, 1) := by decide +kernel
theorem dc_M_init_455 : decode prog_14_method_45_code 455 = .ok (.aload_n 0, 1) := by decide +kernel
theorem dc_M_init_456 : decode prog_14_method_45_code 456 = .ok (.getfield 347, 3) := by decide +kernel
theorem dc_M_init_459 : decode prog_14_method_45_code 459 = .ok (.iconst 2, 1) := by decide +kernel
theorem dc_M_init_460 : decode prog_14_method_45_code 460 = .ok (.iconst 2, 1) := by decide +kernel
theorem dc_M_init_461 : decode prog_14_method_45_code 461 = .ok (.iastore, 1) := by decide +kernel
theorem dc_M_init_462 : decode prog_14_method_45_code 462 = .ok (.aload_n 0, 1) := by decide +kernel
theorem dc_M_init_463 : decode prog_14_method_45_code 463 = .ok (.getfield 347, 3) := by decide +kernel
theorem dc_M_init_466 : decode prog_14_method_45_code 466 = .ok (.iconst 3, 1) := by decide +kernel
theorem dc_M_init_467 : decode prog_14_method_45_code 467 = .ok (.iconst 4, 1) := by decide +kernel
theorem dc_M_init_468 : decode prog_14_method_45_code 468 = .ok (.iastore, 1) := by decide +kernel
theorem dc_M_init_469 : decode prog_14_method_45_code 469 = .ok (.return_, 1) := by decide +kernel
theorem dc_M_feed_0 : decode prog_14_method_65_code 0 = .ok (.aload_n 0, 1) := by decide +kernel
theorem dc_M_feed_1 : decode prog_14_method_65_code 1 = .ok (.aload_n 0, 1) := by decide +kernel
theorem dc_M_feed_2 : decode prog_14_method_65_code 2 = .ok (.getfield 493, 3) := by decide +kernel
theorem fl_M_493 : am_fl "WebFinderModel" 493 12 1 := ⟨"WebFinderModel", tt_M, 90, rfl, by decide, Or.inl (am_t7 112 rfl rfl)⟩
theorem dc_M_feed_5 : decode prog_14_method_65_code 5 = .ok (.bipush 20, 2) := by decide +kernel
theorem dc_M_feed_7 : decode prog_14_method_65_code 7 = .ok (.iadd, 1) := by decide +kernel
theorem dc_M_feed_8 : decode prog_14_method_65_code 8 = .ok (.sipush 8000, 3) := by decide +kernel
theorem dc_M_feed_11 : decode prog_14_method_65_code 11 = .ok (.if_icmp .le 7, 3) := by decide +kernel
theorem dc_M_feed_14 : decode prog_14_method_65_code 14 = .ok (.iconst 1, 1) := by decide +kernel
theorem dc_M_feed_15 : decode prog_14_method_65_code 15 = .ok (.goto 4, 3) := by decide +kernel
theorem dc_M_feed_18 : decode prog_14_method_65_code 18 = .ok (.iconst 0, 1) := by decide +kernel
theorem dc_M_feed_19 : decode prog_14_method_65_code 19 = .ok (.putfield 1, 3) := by decide +kernel
theorem fp_M_feed_1 : am_fp mt_M_feed.1 1 12 2 (.int) := ⟨"WebFinderModel", tt_M, 90, rfl, by decide, ct_M 2 (by decide), Or.inl ⟨(am_t7 113 rfl rfl), Or.inl rfl⟩⟩
theorem dc_M_feed_22 : decode prog_14_method_65_code 22 = .ok (.aload_n 0, 1) := by decide +kernel
theorem dc_M_feed_23 : decode prog_14_method_65_code 23 = .ok (.getfield 1, 3) := by decide +kernel
theorem dc_M_feed_26 : decode prog_14_method_65_code 26 = .ok (.ifCond .ne 30, 3) := by decide +kernel
theorem dc_M_feed_29 : decode prog_14_method_65_code 29 = .ok (.aload_n 0, 1) := by decide +kernel
theorem dc_M_feed_30 : decode prog_14_method_65_code 30 = .ok (.iload_n 1, 1) := by decide +kernel
theorem dc_M_feed_31 : decode prog_14_method_65_code 31 = .ok (.invokevirtual 496, 3) := by decide +kernel
theorem mo_M_take4 : am_mo mt_M_take4 1 := ⟨⟨by decide +kernel, by decide +kernel⟩, by decide +kernel, ⟨by decide +kernel, by decide +kernel⟩, (am_t8 150 rfl rfl), (am_t1 11 rfl rfl), by decide +kernel⟩
theorem im_M_take4 : Cond.instanceMethod mt_M_take4.1 ∈ am_gw := (am_t8 149 rfl rfl)
theorem se_M_take4 : Cond.selects mt_M_take4.1.cls mt_M_take4.1 mt_M_take4.1 ∈ am_gw := am_in (List.mem_append_left _ (by decide +kernel)) rfl
theorem ln_M_496 : am_ln "WebFinderModel" 496 mt_M_take4.1 := Or.inl (am_t8 147 rfl rfl)
theorem dc_M_feed_34 : decode prog_14_method_65_code 34 = .ok (.aload_n 0, 1) := by decide +kernel
theorem dc_M_feed_35 : decode prog_14_method_65_code 35 = .ok (.iload_n 2, 1) := by decide +kernel
theorem dc_M_feed_36 : decode prog_14_method_65_code 36 = .ok (.invokevirtual 496, 3) := by decide +kernel
theorem dc_M_feed_39 : decode prog_14_method_65_code 39 = .ok (.aload_n 0, 1) := by decide +kernel
theorem dc_M_feed_40 : decode prog_14_method_65_code 40 = .ok (.iload_n 3, 1) := by decide +kernel
theorem dc_M_feed_41 : decode prog_14_method_65_code 41 = .ok (.invokevirtual 496, 3) := by decide +kernel
theorem dc_M_feed_44 : decode prog_14_method_65_code 44 = .ok (.aload_n 0, 1) := by decide +kernel
theorem dc_M_feed_45 : decode prog_14_method_65_code 45 = .ok (.iload 4, 2) := by decide +kernel
theorem dc_M_feed_47 : decode prog_14_method_65_code 47 = .ok (.invokevirtual 496, 3) := by decide +kernel
theorem dc_M_feed_50 : decode prog_14_method_65_code 50 = .ok (.aload_n 0, 1) := by decide +kernel
theorem dc_M_feed_51 : decode prog_14_method_65_code 51 = .ok (.iload 5, 2) := by decide +kernel
theorem dc_M_feed_53 : decode prog_14_method_65_code 53 = .ok (.invokevirtual 496, 3) := by decide +kernel
theorem dc_M_feed_56 : decode prog_14_method_65_code 56 = .ok (.return_, 1) := by decide +kernel
theorem dc_M_take4_0 : decode prog_14_method_64_code 0 = .ok (.bipush 24, 2) := by decide +kernel
theorem dc_M_take4_2 : decode prog_14_method_64_code 2 = .ok (.istore_n 2, 1) := by decide +kernel
theorem dc_M_take4_3 : decode prog_14_method_64_code 3 = .ok (.iload_n 2, 1) := by decide +kernel
theorem dc_M_take4_4 : decode prog_14_method_64_code 4 = .ok (.ifCond .lt 32, 3) := by decide +kernel
theorem dc_M_take4_7 : decode prog_14_method_64_code 7 = .ok (.aload_n 0, 1) := by decide +kernel
theorem dc_M_take4_8 : decode prog_14_method_64_code 8 = .ok (.getfield 143, 3) := by decide +kernel
theorem fl_M_143 : am_fl "WebFinderModel" 143 12 0 := ⟨"WebFinderModel", tt_M, 90, rfl, by decide, Or.inl (am_t7 111 rfl rfl)⟩
theorem dc_M_take4_11 : decode prog_14_method_64_code 11 = .ok (.aload_n 0, 1) := by decide +kernel
theorem dc_M_take4_12 : decode prog_14_method_64_code 12 = .ok (.getfield 493, 3) := by decide +kernel
theorem dc_M_take4_15 : decode prog_14_method_64_code 15 = .ok (.iload_n 1, 1) := by decide +kernel
theorem dc_M_take4_16 : decode prog_14_method_64_code 16 = .ok (.iload_n 2, 1) := by decide +kernel
theorem dc_M_take4_17 : decode prog_14_method_64_code 17 = .ok (.ishr, 1) := by decide +kernel
theorem dc_M_take4_18 : decode prog_14_method_64_code 18 = .ok (.i2b, 1) := by decide +kernel
theorem dc_M_take4_19 : decode prog_14_method_64_code 19 = .ok (.bastore, 1) := by decide +kernel
theorem dc_M_take4_20 : decode prog_14_method_64_code 20 = .ok (.aload_n 0, 1) := by decide +kernel
theorem dc_M_take4_21 : decode prog_14_method_64_code 21 = .ok (.dup, 1) := by decide +kernel
theorem dc_M_take4_22 : decode prog_14_method_64_code 22 = .ok (.getfield 493, 3) := by decide +kernel
theorem dc_M_take4_25 : decode prog_14_method_64_code 25 = .ok (.iconst 1, 1) := by decide +kernel
theorem dc_M_take4_26 : decode prog_14_method_64_code 26 = .ok (.iadd, 1) := by decide +kernel
theorem dc_M_take4_27 : decode prog_14_method_64_code 27 = .ok (.putfield 493, 3) := by decide +kernel
theorem fp_M_take4_493 : am_fp mt_M_take4.1 493 12 1 (.int) := ⟨"WebFinderModel", tt_M, 90, rfl, by decide, ct_M 1 (by decide), Or.inl ⟨(am_t7 112 rfl rfl), Or.inl rfl⟩⟩
theorem dc_M_take4_30 : decode prog_14_method_64_code 30 = .ok (.iinc 2 (-8), 3) := by decide +kernel
theorem dc_M_take4_33 : decode prog_14_method_64_code 33 = .ok (.goto (-30), 3) := by decide +kernel
theorem dc_M_take4_36 : decode prog_14_method_64_code 36 = .ok (.return_, 1) := by decide +kernel
theorem dc_M_end_0 : decode prog_14_method_66_code 0 = .ok (.aload_n 0, 1) := by decide +kernel
theorem dc_M_end_1 : decode prog_14_method_66_code 1 = .ok (.iload_n 1, 1) := by decide +kernel
theorem dc_M_end_2 : decode prog_14_method_66_code 2 = .ok (.ifCond .lt 11, 3) := by decide +kernel
theorem dc_M_end_5 : decode prog_14_method_66_code 5 = .ok (.iload_n 1, 1) := by decide +kernel
theorem dc_M_end_6 : decode prog_14_method_66_code 6 = .ok (.aload_n 0, 1) := by decide +kernel
theorem dc_M_end_7 : decode prog_14_method_66_code 7 = .ok (.getfield 493, 3) := by decide +kernel
theorem dc_M_end_10 : decode prog_14_method_66_code 10 = .ok (.if_icmp .le 7, 3) := by decide +kernel
theorem dc_M_end_13 : decode prog_14_method_66_code 13 = .ok (.iconst 1, 1) := by decide +kernel
theorem dc_M_end_14 : decode prog_14_method_66_code 14 = .ok (.goto 4, 3) := by decide +kernel
theorem dc_M_end_17 : decode prog_14_method_66_code 17 = .ok (.iconst 0, 1) := by decide +kernel
theorem dc_M_end_18 : decode prog_14_method_66_code 18 = .ok (.putfield 1, 3) := by decide +kernel
theorem fp_M_end_1 : am_fp mt_M_end.1 1 12 2 (.int) := ⟨"WebFinderModel", tt_M, 90, rfl, by decide, ct_M 2 (by decide), Or.inl ⟨(am_t7 113 rfl rfl), Or.inl rfl⟩⟩
theorem dc_M_end_21 : decode prog_14_method_66_code 21 = .ok (.aload_n 0, 1) := by decide +kernel
theorem dc_M_end_22 : decode prog_14_method_66_code 22 = .ok (.getfield 1, 3) := by decide +kernel
theorem dc_M_end_25 : decode prog_14_method_66_code 25 = .ok (.ifCond .le 5, 3) := by decide +kernel
theorem dc_M_end_28 : decode prog_14_method_66_code 28 = .ok (.iconst 0, 1) := by decide +kernel
theorem dc_M_end_29 : decode prog_14_method_66_code 29 = .ok (.ireturn, 1) := by decide +kernel
theorem dc_M_end_30 : decode prog_14_method_66_code 30 = .ok (.aload_n 0, 1) := by decide +kernel
theorem dc_M_end_31 : decode prog_14_method_66_code 31 = .ok (.getfield 493, 3) := by decide +kernel
theorem dc_M_end_34 : decode prog_14_method_66_code 34 = .ok (.istore_n 2, 1) := by decide +kernel
theorem dc_M_end_35 : decode prog_14_method_66_code 35 = .ok (.aload_n 0, 1) := by decide +kernel
theorem dc_M_end_36 : decode prog_14_method_66_code 36 = .ok (.iload_n 1, 1) := by decide +kernel
theorem dc_M_end_37 : decode prog_14_method_66_code 37 = .ok (.putfield 493, 3) := by decide +kernel
theorem fp_M_end_493 : am_fp mt_M_end.1 493 12 1 (.int) := ⟨"WebFinderModel", tt_M, 90, rfl, by decide, ct_M 1 (by decide), Or.inl ⟨(am_t7 112 rfl rfl), Or.inl rfl⟩⟩
theorem dc_M_end_40 : decode prog_14_method_66_code 40 = .ok (.iload_n 2, 1) := by decide +kernel
theorem dc_M_end_41 : decode prog_14_method_66_code 41 = .ok (.ireturn, 1) := by decide +kernel
theorem dc_M_read_0 : decode prog_14_method_72_code 0 = .ok (.aload_n 0, 1) := by decide +kernel
theorem dc_M_read_1 : decode prog_14_method_72_code 1 = .ok (.invokevirtual 505, 3) := by decide +kernel
theorem mo_M_use : am_mo mt_M_use 0 := ⟨⟨by decide +kernel, by decide +kernel⟩, by decide +kernel, ⟨by decide +kernel, by decide +kernel⟩, (am_t8 162 rfl rfl), (am_t1 11 rfl rfl), by decide +kernel⟩
theorem im_M_use : Cond.instanceMethod mt_M_use.1 ∈ am_gw := (am_t8 161 rfl rfl)
theorem se_M_use : Cond.selects mt_M_use.1.cls mt_M_use.1 mt_M_use.1 ∈ am_gw := am_in (List.mem_append_left _ (by decide +kernel)) rfl
theorem ln_M_505 : am_ln "WebFinderModel" 505 mt_M_use.1 := Or.inl (am_t8 159 rfl rfl)
theorem dc_M_read_4 : decode prog_14_method_72_code 4 = .ok (.istore_n 1, 1) := by decide +kernel
theorem dc_M_read_5 : decode prog_14_method_72_code 5 = .ok (.aload_n 0, 1) := by decide +kernel
theorem dc_M_read_6 : decode prog_14_method_72_code 6 = .ok (.iload_n 1, 1) := by decide +kernel
theorem dc_M_read_7 : decode prog_14_method_72_code 7 = .ok (.invokevirtual 508, 3) := by decide +kernel
theorem mo_M_readFirst : am_mo mt_M_readFirst 1 := ⟨⟨by decide +kernel, by decide +kernel⟩, by decide +kernel, ⟨by decide +kernel, by decide +kernel⟩, (am_t8 166 rfl rfl), (am_t1 11 rfl rfl), by decide +kernel⟩
theorem im_M_readFirst : Cond.instanceMethod mt_M_readFirst.1 ∈ am_gw := (am_t8 165 rfl rfl)
theorem se_M_readFirst : Cond.selects mt_M_readFirst.1.cls mt_M_readFirst.1 mt_M_readFirst.1 ∈ am_gw := am_in (List.mem_append_left _ (by decide +kernel)) rfl
theorem ln_M_508 : am_ln "WebFinderModel" 508 mt_M_readFirst.1 := Or.inl (am_t8 163 rfl rfl)
theorem dc_M_read_10 : decode prog_14_method_72_code 10 = .ok (.ifCond .eq 10, 3) := by decide +kernel
theorem dc_M_read_13 : decode prog_14_method_72_code 13 = .ok (.aload_n 0, 1) := by decide +kernel
theorem dc_M_read_14 : decode prog_14_method_72_code 14 = .ok (.invokevirtual 300, 3) := by decide +kernel
theorem mo_M_keep : am_mo mt_M_keep 0 := ⟨⟨by decide +kernel, by decide +kernel⟩, by decide +kernel, ⟨by decide +kernel, by decide +kernel⟩, (am_t8 239 rfl rfl), (am_t1 11 rfl rfl), by decide +kernel⟩
theorem im_M_keep : Cond.instanceMethod mt_M_keep.1 ∈ am_gw := (am_t8 238 rfl rfl)
theorem se_M_keep : Cond.selects mt_M_keep.1.cls mt_M_keep.1 mt_M_keep.1 ∈ am_gw := am_in (List.mem_append_left _ (by decide +kernel)) rfl
theorem ln_M_300 : am_ln "WebFinderModel" 300 mt_M_keep.1 := Or.inl (am_t8 236 rfl rfl)
theorem dc_M_read_17 : decode prog_14_method_72_code 17 = .ok (.goto 4, 3) := by decide +kernel
theorem dc_M_read_20 : decode prog_14_method_72_code 20 = .ok (.iconst (-1), 1) := by decide +kernel
theorem dc_M_read_21 : decode prog_14_method_72_code 21 = .ok (.istore_n 2, 1) := by decide +kernel
theorem dc_M_read_22 : decode prog_14_method_72_code 22 = .ok (.aload_n 0, 1) := by decide +kernel
theorem dc_M_read_23 : decode prog_14_method_72_code 23 = .ok (.aload_n 0, 1) := by decide +kernel
theorem dc_M_read_24 : decode prog_14_method_72_code 24 = .ok (.getfield 143, 3) := by decide +kernel
theorem dc_M_read_27 : decode prog_14_method_72_code 27 = .ok (.aload_n 0, 1) := by decide +kernel
theorem dc_M_read_28 : decode prog_14_method_72_code 28 = .ok (.iload_n 1, 1) := by decide +kernel
theorem dc_M_read_29 : decode prog_14_method_72_code 29 = .ok (.invokevirtual 511, 3) := by decide +kernel
theorem mo_M_behindFirst : am_mo mt_M_behindFirst 1 := ⟨⟨by decide +kernel, by decide +kernel⟩, by decide +kernel, ⟨by decide +kernel, by decide +kernel⟩, (am_t9 7 rfl rfl), (am_t1 11 rfl rfl), by decide +kernel⟩
theorem im_M_behindFirst : Cond.instanceMethod mt_M_behindFirst.1 ∈ am_gw := (am_t9 6 rfl rfl)
theorem se_M_behindFirst : Cond.selects mt_M_behindFirst.1.cls mt_M_behindFirst.1 mt_M_behindFirst.1 ∈ am_gw := am_in (List.mem_append_left _ (by decide +kernel)) rfl
theorem ln_M_511 : am_ln "WebFinderModel" 511 mt_M_behindFirst.1 := Or.inl (am_t9 4 rfl rfl)
theorem dc_M_read_32 : decode prog_14_method_72_code 32 = .ok (.iload_n 1, 1) := by decide +kernel
theorem dc_M_read_33 : decode prog_14_method_72_code 33 = .ok (.iload_n 2, 1) := by decide +kernel
theorem dc_M_read_34 : decode prog_14_method_72_code 34 = .ok (.invokevirtual 297, 3) := by decide +kernel
theorem mo_M_readReference : am_mo mt_M_readReference 4 := ⟨⟨by decide +kernel, by decide +kernel⟩, by decide +kernel, ⟨by decide +kernel, by decide +kernel⟩, (am_t8 176 rfl rfl), (am_t1 11 rfl rfl), by decide +kernel⟩
theorem im_M_readReference : Cond.instanceMethod mt_M_readReference.1 ∈ am_gw := (am_t8 175 rfl rfl)
theorem se_M_readReference : Cond.selects mt_M_readReference.1.cls mt_M_readReference.1 mt_M_readReference.1 ∈ am_gw := am_in (List.mem_append_left _ (by decide +kernel)) rfl
theorem ln_M_297 : am_ln "WebFinderModel" 297 mt_M_readReference.1 := Or.inl (am_t8 173 rfl rfl)
theorem dc_M_read_37 : decode prog_14_method_72_code 37 = .ok (.ifCond .eq 19, 3) := by decide +kernel
theorem dc_M_read_40 : decode prog_14_method_72_code 40 = .ok (.aload_n 0, 1) := by decide +kernel
theorem dc_M_read_41 : decode prog_14_method_72_code 41 = .ok (.aload_n 0, 1) := by decide +kernel
theorem dc_M_read_42 : decode prog_14_method_72_code 42 = .ok (.getfield 45, 3) := by decide +kernel
theorem fl_M_45 : am_fl "WebFinderModel" 45 12 9 := ⟨"WebFinderModel", tt_M, 90, rfl, by decide, Or.inl (am_t7 120 rfl rfl)⟩
theorem dc_M_read_45 : decode prog_14_method_72_code 45 = .ok (.iconst 0, 1) := by decide +kernel
theorem dc_M_read_46 : decode prog_14_method_72_code 46 = .ok (.aload_n 0, 1) := by decide +kernel
theorem dc_M_read_47 : decode prog_14_method_72_code 47 = .ok (.getfield 38, 3) := by decide +kernel
theorem fl_M_38 : am_fl "WebFinderModel" 38 12 10 := ⟨"WebFinderModel", tt_M, 90, rfl, by decide, Or.inl (am_t7 121 rfl rfl)⟩
theorem dc_M_read_50 : decode prog_14_method_72_code 50 = .ok (.invokevirtual 502, 3) := by decide +kernel
theorem mo_M_show : am_mo mt_M_show 3 := ⟨⟨by decide +kernel, by decide +kernel⟩, by decide +kernel, ⟨by decide +kernel, by decide +kernel⟩, (am_t9 11 rfl rfl), (am_t1 11 rfl rfl), by decide +kernel⟩
theorem im_M_show : Cond.instanceMethod mt_M_show.1 ∈ am_gw := (am_t9 10 rfl rfl)
theorem se_M_show : Cond.selects mt_M_show.1.cls mt_M_show.1 mt_M_show.1 ∈ am_gw := am_in (List.mem_append_left _ (by decide +kernel)) rfl
theorem ln_M_502 : am_ln "WebFinderModel" 502 mt_M_show.1 := Or.inl (am_t9 8 rfl rfl)
theorem dc_M_read_53 : decode prog_14_method_72_code 53 = .ok (.goto 13, 3) := by decide +kernel
theorem dc_M_read_56 : decode prog_14_method_72_code 56 = .ok (.aload_n 0, 1) := by decide +kernel
theorem dc_M_read_57 : decode prog_14_method_72_code 57 = .ok (.aload_n 0, 1) := by decide +kernel
theorem dc_M_read_58 : decode prog_14_method_72_code 58 = .ok (.getfield 45, 3) := by decide +kernel
theorem dc_M_read_61 : decode prog_14_method_72_code 61 = .ok (.iconst 0, 1) := by decide +kernel
theorem dc_M_read_62 : decode prog_14_method_72_code 62 = .ok (.iconst 0, 1) := by decide +kernel
theorem dc_M_read_63 : decode prog_14_method_72_code 63 = .ok (.invokevirtual 502, 3) := by decide +kernel
theorem dc_M_read_66 : decode prog_14_method_72_code 66 = .ok (.ireturn, 1) := by decide +kernel
