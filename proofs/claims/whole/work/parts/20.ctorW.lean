theorem dc_W_init_0 : decode prog_1_method_1_code 0 = .ok (.aload_n 0, 1) := by decide +kernel
theorem dc_W_init_1 : decode prog_1_method_1_code 1 = .ok (.invokespecial 1, 3) := by decide +kernel
theorem ob_W_1 : Cond.methodLink "WebFinder" 1 Lib.objectInit ∈ am_gw := (am_t1 36 rfl rfl)
theorem dc_W_init_4 : decode prog_1_method_1_code 4 = .ok (.aload_n 0, 1) := by decide +kernel
theorem dc_W_init_5 : decode prog_1_method_1_code 5 = .ok (.new 7, 3) := by decide +kernel
theorem mk_W_7 : am_mk "WebFinder" 7 1 [.null, .int 0] := ⟨"WebFinder$Bytes", tt_B, 2, ty_B, rfl, ct_B, (am_t1 39 rfl rfl), (am_t1 40 rfl rfl), (am_t1 2 rfl rfl), rfl, fun _ => rfl, by decide +kernel⟩
theorem dc_W_init_8 : decode prog_1_method_1_code 8 = .ok (.dup, 1) := by decide +kernel
theorem dc_W_init_9 : decode prog_1_method_1_code 9 = .ok (.sipush 256, 3) := by decide +kernel
theorem dc_W_init_12 : decode prog_1_method_1_code 12 = .ok (.invokespecial 9, 3) := by decide +kernel
theorem mo_B_init : am_mo mt_B_init 1 := ⟨by decide +kernel, by decide +kernel, ⟨by decide +kernel, by decide +kernel⟩, (am_t1 43 rfl rfl), (am_t1 2 rfl rfl), by decide +kernel⟩
theorem im_B_init : Cond.instanceMethod mt_B_init.1 ∈ am_gw := (am_t1 42 rfl rfl)
theorem ln_W_9 : am_ln "WebFinder" 9 mt_B_init.1 := Or.inl (am_t1 41 rfl rfl)
theorem dc_W_init_15 : decode prog_1_method_1_code 15 = .ok (.putfield 12, 3) := by decide +kernel
theorem fp_W_init_12 : am_fp mt_W_init.1 12 0 0 (.object "WebFinder$Bytes") := ⟨"WebFinder", tt_W, 11, rfl, by decide, ct_W 0 (by decide), Or.inl ⟨(am_t2 147 rfl rfl), Or.inr ⟨rfl, rfl, rfl⟩⟩⟩
theorem dc_W_init_18 : decode prog_1_method_1_code 18 = .ok (.aload_n 0, 1) := by decide +kernel
theorem dc_W_init_19 : decode prog_1_method_1_code 19 = .ok (.new 7, 3) := by decide +kernel
theorem dc_W_init_22 : decode prog_1_method_1_code 22 = .ok (.dup, 1) := by decide +kernel
theorem dc_W_init_23 : decode prog_1_method_1_code 23 = .ok (.sipush 256, 3) := by decide +kernel
theorem dc_W_init_26 : decode prog_1_method_1_code 26 = .ok (.invokespecial 9, 3) := by decide +kernel
theorem dc_W_init_29 : decode prog_1_method_1_code 29 = .ok (.putfield 18, 3) := by decide +kernel
theorem fp_W_init_18 : am_fp mt_W_init.1 18 0 1 (.object "WebFinder$Bytes") := ⟨"WebFinder", tt_W, 11, rfl, by decide, ct_W 1 (by decide), Or.inl ⟨(am_t2 148 rfl rfl), Or.inr ⟨rfl, rfl, rfl⟩⟩⟩
theorem dc_W_init_32 : decode prog_1_method_1_code 32 = .ok (.aload_n 0, 1) := by decide +kernel
theorem dc_W_init_33 : decode prog_1_method_1_code 33 = .ok (.new 7, 3) := by decide +kernel
theorem dc_W_init_36 : decode prog_1_method_1_code 36 = .ok (.dup, 1) := by decide +kernel
theorem dc_W_init_37 : decode prog_1_method_1_code 37 = .ok (.sipush 200, 3) := by decide +kernel
theorem dc_W_init_40 : decode prog_1_method_1_code 40 = .ok (.invokespecial 9, 3) := by decide +kernel
theorem dc_W_init_43 : decode prog_1_method_1_code 43 = .ok (.putfield 21, 3) := by decide +kernel
theorem fp_W_init_21 : am_fp mt_W_init.1 21 0 2 (.object "WebFinder$Bytes") := ⟨"WebFinder", tt_W, 11, rfl, by decide, ct_W 2 (by decide), Or.inl ⟨(am_t2 149 rfl rfl), Or.inr ⟨rfl, rfl, rfl⟩⟩⟩
theorem dc_W_init_46 : decode prog_1_method_1_code 46 = .ok (.aload_n 0, 1) := by decide +kernel
theorem dc_W_init_47 : decode prog_1_method_1_code 47 = .ok (.new 24, 3) := by decide +kernel
theorem mk_W_24 : am_mk "WebFinder" 24 2 [.null, .null] := ⟨"WebFinder$AddressReader", tt_A, 2, ty_A, rfl, ct_A, (am_t1 71 rfl rfl), (am_t1 72 rfl rfl), (am_t1 3 rfl rfl), rfl, fun _ => rfl, by decide +kernel⟩
theorem dc_W_init_50 : decode prog_1_method_1_code 50 = .ok (.dup, 1) := by decide +kernel
theorem dc_W_init_51 : decode prog_1_method_1_code 51 = .ok (.invokespecial 26, 3) := by decide +kernel
theorem mo_A_init : am_mo mt_A_init 0 := ⟨by decide +kernel, by decide +kernel, ⟨by decide +kernel, by decide +kernel⟩, (am_t1 75 rfl rfl), (am_t1 3 rfl rfl), by decide +kernel⟩
theorem im_A_init : Cond.instanceMethod mt_A_init.1 ∈ am_gw := (am_t1 74 rfl rfl)
theorem ln_W_26 : am_ln "WebFinder" 26 mt_A_init.1 := Or.inr ⟨"WebFinder", (am_n1 73 rfl rfl)⟩
theorem dc_W_init_54 : decode prog_1_method_1_code 54 = .ok (.putfield 27, 3) := by decide +kernel
theorem fp_W_init_27 : am_fp mt_W_init.1 27 0 3 (.object "WebFinder$AddressReader") := ⟨"WebFinder", tt_W, 11, rfl, by decide, ct_W 3 (by decide), Or.inl ⟨(am_t2 150 rfl rfl), Or.inr ⟨rfl, rfl, rfl⟩⟩⟩
theorem dc_W_init_57 : decode prog_1_method_1_code 57 = .ok (.aload_n 0, 1) := by decide +kernel
theorem dc_W_init_58 : decode prog_1_method_1_code 58 = .ok (.new 31, 3) := by decide +kernel
theorem mk_W_31 : am_mk "WebFinder" 31 3 [.null, .null, .null, .null, .null, .null] := ⟨"WebFinder$PageReader", tt_P, 6, ty_P, rfl, ct_P, (am_t1 89 rfl rfl), (am_t1 90 rfl rfl), (am_t1 4 rfl rfl), rfl, fun _ => rfl, by decide +kernel⟩
theorem dc_W_init_61 : decode prog_1_method_1_code 61 = .ok (.dup, 1) := by decide +kernel
theorem dc_W_init_62 : decode prog_1_method_1_code 62 = .ok (.aload_n 0, 1) := by decide +kernel
theorem dc_W_init_63 : decode prog_1_method_1_code 63 = .ok (.getfield 27, 3) := by decide +kernel
theorem fl_W_27 : am_fl "WebFinder" 27 0 3 := ⟨"WebFinder", tt_W, 11, rfl, by decide, Or.inl (am_t2 150 rfl rfl)⟩
theorem dc_W_init_66 : decode prog_1_method_1_code 66 = .ok (.invokespecial 33, 3) := by decide +kernel
theorem mo_P_init : am_mo mt_P_init 1 := ⟨by decide +kernel, by decide +kernel, ⟨by decide +kernel, by decide +kernel⟩, (am_t1 93 rfl rfl), (am_t1 4 rfl rfl), by decide +kernel⟩
theorem im_P_init : Cond.instanceMethod mt_P_init.1 ∈ am_gw := (am_t1 92 rfl rfl)
theorem ln_W_33 : am_ln "WebFinder" 33 mt_P_init.1 := Or.inl (am_t1 91 rfl rfl)
theorem dc_W_init_69 : decode prog_1_method_1_code 69 = .ok (.putfield 36, 3) := by decide +kernel
theorem fp_W_init_36 : am_fp mt_W_init.1 36 0 4 (.object "WebFinder$PageReader") := ⟨"WebFinder", tt_W, 11, rfl, by decide, ct_W 4 (by decide), Or.inl ⟨(am_t2 151 rfl rfl), Or.inr ⟨rfl, rfl, rfl⟩⟩⟩
theorem dc_W_init_72 : decode prog_1_method_1_code 72 = .ok (.aload_n 0, 1) := by decide +kernel
theorem dc_W_init_73 : decode prog_1_method_1_code 73 = .ok (.new 40, 3) := by decide +kernel
theorem mk_W_40 : am_mk "WebFinder" 40 6 [.int 0, .null, .null, .int 0] := ⟨"WebFinder$Web", tt_V, 4, ty_V, rfl, ct_V, (am_t1 189 rfl rfl), (am_t1 190 rfl rfl), (am_t1 7 rfl rfl), rfl, fun _ => rfl, by decide +kernel⟩
theorem dc_W_init_76 : decode prog_1_method_1_code 76 = .ok (.dup, 1) := by decide +kernel
theorem dc_W_init_77 : decode prog_1_method_1_code 77 = .ok (.invokespecial 42, 3) := by decide +kernel
theorem mo_V_init : am_mo mt_V_init 0 := ⟨by decide +kernel, by decide +kernel, ⟨by decide +kernel, by decide +kernel⟩, (am_t1 193 rfl rfl), (am_t1 7 rfl rfl), by decide +kernel⟩
theorem im_V_init : Cond.instanceMethod mt_V_init.1 ∈ am_gw := (am_t1 192 rfl rfl)
theorem ln_W_42 : am_ln "WebFinder" 42 mt_V_init.1 := Or.inr ⟨"WebFinder", (am_n1 191 rfl rfl)⟩
theorem dc_W_init_80 : decode prog_1_method_1_code 80 = .ok (.putfield 43, 3) := by decide +kernel
theorem fp_W_init_43 : am_fp mt_W_init.1 43 0 5 (.object "WebFinder$Web") := ⟨"WebFinder", tt_W, 11, rfl, by decide, ct_W 5 (by decide), Or.inl ⟨(am_t2 152 rfl rfl), Or.inr ⟨rfl, rfl, rfl⟩⟩⟩
theorem dc_W_init_83 : decode prog_1_method_1_code 83 = .ok (.aload_n 0, 1) := by decide +kernel
theorem dc_W_init_84 : decode prog_1_method_1_code 84 = .ok (.iconst 4, 1) := by decide +kernel
theorem dc_W_init_85 : decode prog_1_method_1_code 85 = .ok (.newarray .int, 2) := by decide +kernel
theorem dc_W_init_87 : decode prog_1_method_1_code 87 = .ok (.dup, 1) := by decide +kernel
theorem dc_W_init_88 : decode prog_1_method_1_code 88 = .ok (.iconst 0, 1) := by decide +kernel
theorem dc_W_init_89 : decode prog_1_method_1_code 89 = .ok (.iconst 3, 1) := by decide +kernel
theorem dc_W_init_90 : decode prog_1_method_1_code 90 = .ok (.iastore, 1) := by decide +kernel
theorem dc_W_init_91 : decode prog_1_method_1_code 91 = .ok (.dup, 1) := by decide +kernel
theorem dc_W_init_92 : decode prog_1_method_1_code 92 = .ok (.iconst 1, 1) := by decide +kernel
theorem dc_W_init_93 : decode prog_1_method_1_code 93 = .ok (.iconst 3, 1) := by decide +kernel
theorem dc_W_init_94 : decode prog_1_method_1_code 94 = .ok (.iastore, 1) := by decide +kernel
theorem dc_W_init_95 : decode prog_1_method_1_code 95 = .ok (.dup, 1) := by decide +kernel
theorem dc_W_init_96 : decode prog_1_method_1_code 96 = .ok (.iconst 2, 1) := by decide +kernel
theorem dc_W_init_97 : decode prog_1_method_1_code 97 = .ok (.iconst 2, 1) := by decide +kernel
theorem dc_W_init_98 : decode prog_1_method_1_code 98 = .ok (.iastore, 1) := by decide +kernel
theorem dc_W_init_99 : decode prog_1_method_1_code 99 = .ok (.dup, 1) := by decide +kernel
theorem dc_W_init_100 : decode prog_1_method_1_code 100 = .ok (.iconst 3, 1) := by decide +kernel
theorem dc_W_init_101 : decode prog_1_method_1_code 101 = .ok (.iconst 4, 1) := by decide +kernel
theorem dc_W_init_102 : decode prog_1_method_1_code 102 = .ok (.iastore, 1) := by decide +kernel
theorem dc_W_init_103 : decode prog_1_method_1_code 103 = .ok (.putfield 47, 3) := by decide +kernel
theorem fp_W_init_47 : am_fp mt_W_init.1 47 0 6 (.array .int) := ⟨"WebFinder", tt_W, 11, rfl, by decide, ct_W 6 (by decide), Or.inl ⟨(am_t2 153 rfl rfl), Or.inr ⟨rfl, rfl, rfl⟩⟩⟩
theorem dc_W_init_106 : decode prog_1_method_1_code 106 = .ok (.aload_n 0, 1) := by decide +kernel
theorem dc_W_init_107 : decode prog_1_method_1_code 107 = .ok (.new 51, 3) := by decide +kernel
theorem mk_W_51 : am_mk "WebFinder" 51 4 [.null, .null, .int 0] := ⟨"WebFinder$Rows", tt_R, 3, ty_R, rfl, ct_R, (am_t1 213 rfl rfl), (am_t1 96 rfl rfl), (am_t1 5 rfl rfl), rfl, fun _ => rfl, by decide +kernel⟩
theorem dc_W_init_110 : decode prog_1_method_1_code 110 = .ok (.dup, 1) := by decide +kernel
theorem dc_W_init_111 : decode prog_1_method_1_code 111 = .ok (.sipush 256, 3) := by decide +kernel
theorem dc_W_init_114 : decode prog_1_method_1_code 114 = .ok (.bipush 20, 2) := by decide +kernel
theorem dc_W_init_116 : decode prog_1_method_1_code 116 = .ok (.invokespecial 53, 3) := by decide +kernel
theorem mo_R_init : am_mo mt_R_init 2 := ⟨by decide +kernel, by decide +kernel, ⟨by decide +kernel, by decide +kernel⟩, (am_t1 99 rfl rfl), (am_t1 5 rfl rfl), by decide +kernel⟩
theorem im_R_init : Cond.instanceMethod mt_R_init.1 ∈ am_gw := (am_t1 98 rfl rfl)
theorem ln_W_53 : am_ln "WebFinder" 53 mt_R_init.1 := Or.inl (am_t1 214 rfl rfl)
theorem dc_W_init_119 : decode prog_1_method_1_code 119 = .ok (.putfield 56, 3) := by decide +kernel
theorem fp_W_init_56 : am_fp mt_W_init.1 56 0 7 (.object "WebFinder$Rows") := ⟨"WebFinder", tt_W, 11, rfl, by decide, ct_W 7 (by decide), Or.inl ⟨(am_t2 154 rfl rfl), Or.inr ⟨rfl, rfl, rfl⟩⟩⟩
theorem dc_W_init_122 : decode prog_1_method_1_code 122 = .ok (.aload_n 0, 1) := by decide +kernel
theorem dc_W_init_123 : decode prog_1_method_1_code 123 = .ok (.new 60, 3) := by decide +kernel
theorem mk_W_60 : am_mk "WebFinder" 60 7 [.int 0, .int 0, .int 0, .null, .null, .null, .null, .null, .null, .null, .null, .null, .null, .null, .null, .int 0, .int 0, .int 0] := ⟨"WebFinder$Crawl", tt_C, 18, ty_C, rfl, ct_C, (am_t1 215 rfl rfl), (am_t1 216 rfl rfl), (am_t1 8 rfl rfl), rfl, fun _ => rfl, by decide +kernel⟩
theorem dc_W_init_126 : decode prog_1_method_1_code 126 = .ok (.dup, 1) := by decide +kernel
theorem dc_W_init_127 : decode prog_1_method_1_code 127 = .ok (.aload_n 0, 1) := by decide +kernel
theorem dc_W_init_128 : decode prog_1_method_1_code 128 = .ok (.getfield 43, 3) := by decide +kernel
theorem fl_W_43 : am_fl "WebFinder" 43 0 5 := ⟨"WebFinder", tt_W, 11, rfl, by decide, Or.inl (am_t2 152 rfl rfl)⟩
theorem dc_W_init_131 : decode prog_1_method_1_code 131 = .ok (.aload_n 0, 1) := by decide +kernel
theorem dc_W_init_132 : decode prog_1_method_1_code 132 = .ok (.getfield 27, 3) := by decide +kernel
theorem dc_W_init_135 : decode prog_1_method_1_code 135 = .ok (.aload_n 0, 1) := by decide +kernel
theorem dc_W_init_136 : decode prog_1_method_1_code 136 = .ok (.getfield 36, 3) := by decide +kernel
theorem fl_W_36 : am_fl "WebFinder" 36 0 4 := ⟨"WebFinder", tt_W, 11, rfl, by decide, Or.inl (am_t2 151 rfl rfl)⟩
theorem dc_W_init_139 : decode prog_1_method_1_code 139 = .ok (.invokespecial 62, 3) := by decide +kernel
theorem mo_C_init : am_mo mt_C_init 3 := ⟨by decide +kernel, by decide +kernel, ⟨by decide +kernel, by decide +kernel⟩, (am_t1 219 rfl rfl), (am_t1 8 rfl rfl), by decide +kernel⟩
theorem im_C_init : Cond.instanceMethod mt_C_init.1 ∈ am_gw := (am_t1 218 rfl rfl)
theorem ln_W_62 : am_ln "WebFinder" 62 mt_C_init.1 := Or.inl (am_t1 217 rfl rfl)
theorem dc_W_init_142 : decode prog_1_method_1_code 142 = .ok (.putfield 65, 3) := by decide +kernel
theorem fp_W_init_65 : am_fp mt_W_init.1 65 0 8 (.object "WebFinder$Crawl") := ⟨"WebFinder", tt_W, 11, rfl, by decide, ct_W 8 (by decide), Or.inl ⟨(am_t2 155 rfl rfl), Or.inr ⟨rfl, rfl, rfl⟩⟩⟩
theorem dc_W_init_145 : decode prog_1_method_1_code 145 = .ok (.aload_n 0, 1) := by decide +kernel
theorem dc_W_init_146 : decode prog_1_method_1_code 146 = .ok (.new 69, 3) := by decide +kernel
theorem mk_W_69 : am_mk "WebFinder" 69 8 [.int 0, .null, .null, .null, .null, .null, .null, .null, .null, .null, .null, .null, .null, .null, .null] := ⟨"WebFinder$Documents", tt_D, 15, ty_D, rfl, ct_D, (am_t2 53 rfl rfl), (am_t2 54 rfl rfl), (am_t1 9 rfl rfl), rfl, fun _ => rfl, by decide +kernel⟩
theorem dc_W_init_149 : decode prog_1_method_1_code 149 = .ok (.dup, 1) := by decide +kernel
theorem dc_W_init_150 : decode prog_1_method_1_code 150 = .ok (.aload_n 0, 1) := by decide +kernel
theorem dc_W_init_151 : decode prog_1_method_1_code 151 = .ok (.getfield 36, 3) := by decide +kernel
theorem dc_W_init_154 : decode prog_1_method_1_code 154 = .ok (.invokespecial 71, 3) := by decide +kernel
theorem mo_D_init : am_mo mt_D_init 1 := ⟨by decide +kernel, by decide +kernel, ⟨by decide +kernel, by decide +kernel⟩, (am_t2 57 rfl rfl), (am_t1 9 rfl rfl), by decide +kernel⟩
theorem im_D_init : Cond.instanceMethod mt_D_init.1 ∈ am_gw := (am_t2 56 rfl rfl)
theorem ln_W_71 : am_ln "WebFinder" 71 mt_D_init.1 := Or.inl (am_t2 55 rfl rfl)
theorem dc_W_init_157 : decode prog_1_method_1_code 157 = .ok (.putfield 74, 3) := by decide +kernel
theorem fp_W_init_74 : am_fp mt_W_init.1 74 0 9 (.object "WebFinder$Documents") := ⟨"WebFinder", tt_W, 11, rfl, by decide, ct_W 9 (by decide), Or.inl ⟨(am_t2 156 rfl rfl), Or.inr ⟨rfl, rfl, rfl⟩⟩⟩
theorem dc_W_init_160 : decode prog_1_method_1_code 160 = .ok (.aload_n 0, 1) := by decide +kernel
theorem dc_W_init_161 : decode prog_1_method_1_code 161 = .ok (.new 78, 3) := by decide +kernel
theorem mk_W_78 : am_mk "WebFinder" 78 9 [.int 0, .null, .null, .null] := ⟨"WebFinder$Answers", tt_N, 4, ty_N, rfl, ct_N, (am_t2 122 rfl rfl), (am_t2 123 rfl rfl), (am_t1 10 rfl rfl), rfl, fun _ => rfl, by decide +kernel⟩
theorem dc_W_init_164 : decode prog_1_method_1_code 164 = .ok (.dup, 1) := by decide +kernel
theorem dc_W_init_165 : decode prog_1_method_1_code 165 = .ok (.invokespecial 80, 3) := by decide +kernel
theorem mo_N_init : am_mo mt_N_init 0 := ⟨by decide +kernel, by decide +kernel, ⟨by decide +kernel, by decide +kernel⟩, (am_t2 126 rfl rfl), (am_t1 10 rfl rfl), by decide +kernel⟩
theorem im_N_init : Cond.instanceMethod mt_N_init.1 ∈ am_gw := (am_t2 125 rfl rfl)
theorem ln_W_80 : am_ln "WebFinder" 80 mt_N_init.1 := Or.inr ⟨"WebFinder", (am_n2 124 rfl rfl)⟩
theorem dc_W_init_168 : decode prog_1_method_1_code 168 = .ok (.putfield 81, 3) := by decide +kernel
theorem fp_W_init_81 : am_fp mt_W_init.1 81 0 10 (.object "WebFinder$Answers") := ⟨"WebFinder", tt_W, 11, rfl, by decide, ct_W 10 (by decide), Or.inl ⟨(am_t2 157 rfl rfl), Or.inr ⟨rfl, rfl, rfl⟩⟩⟩
theorem dc_W_init_171 : decode prog_1_method_1_code 171 = .ok (.return_, 1) := by decide +kernel
theorem dc_B_init_0 : decode prog_4_method_1_code 0 = .ok (.aload_n 0, 1) := by decide +kernel
theorem dc_B_init_1 : decode prog_4_method_1_code 1 = .ok (.invokespecial 3, 3) := by decide +kernel
theorem ob_B_3 : Cond.methodLink "WebFinder$Bytes" 3 Lib.objectInit ∈ am_gw := (am_t1 44 rfl rfl)
theorem dc_B_init_4 : decode prog_4_method_1_code 4 = .ok (.aload_n 0, 1) := by decide +kernel
theorem dc_B_init_5 : decode prog_4_method_1_code 5 = .ok (.iload_n 1, 1) := by decide +kernel
theorem dc_B_init_6 : decode prog_4_method_1_code 6 = .ok (.newarray .byte, 2) := by decide +kernel
theorem dc_B_init_8 : decode prog_4_method_1_code 8 = .ok (.putfield 9, 3) := by decide +kernel
theorem fp_B_init_9 : am_fp mt_B_init.1 9 1 0 (.array .byte) := ⟨"WebFinder$Bytes", tt_B, 2, rfl, by decide, ct_B 0 (by decide), Or.inl ⟨(am_t1 46 rfl rfl), Or.inl rfl⟩⟩
theorem dc_B_init_11 : decode prog_4_method_1_code 11 = .ok (.return_, 1) := by decide +kernel
theorem dc_A_init_0 : decode prog_2_method_1_code 0 = .ok (.aload_n 0, 1) := by decide +kernel
theorem dc_A_init_1 : decode prog_2_method_1_code 1 = .ok (.invokespecial 3, 3) := by decide +kernel
theorem ob_A_3 : Cond.methodLink "WebFinder$AddressReader" 3 Lib.objectInit ∈ am_gw := (am_t1 76 rfl rfl)
theorem dc_A_init_4 : decode prog_2_method_1_code 4 = .ok (.aload_n 0, 1) := by decide +kernel
theorem dc_A_init_5 : decode prog_2_method_1_code 5 = .ok (.new 9, 3) := by decide +kernel
theorem mk_A_9 : am_mk "WebFinder$AddressReader" 9 1 [.null, .int 0] := ⟨"WebFinder$Bytes", tt_B, 2, ty_B, rfl, ct_B, (am_t1 77 rfl rfl), (am_t1 40 rfl rfl), (am_t1 2 rfl rfl), rfl, fun _ => rfl, by decide +kernel⟩
theorem dc_A_init_8 : decode prog_2_method_1_code 8 = .ok (.dup, 1) := by decide +kernel
theorem dc_A_init_9 : decode prog_2_method_1_code 9 = .ok (.sipush 512, 3) := by decide +kernel
theorem dc_A_init_12 : decode prog_2_method_1_code 12 = .ok (.invokespecial 11, 3) := by decide +kernel
theorem ln_A_11 : am_ln "WebFinder$AddressReader" 11 mt_B_init.1 := Or.inl (am_t1 78 rfl rfl)
theorem dc_A_init_15 : decode prog_2_method_1_code 15 = .ok (.putfield 14, 3) := by decide +kernel
theorem fp_A_init_14 : am_fp mt_A_init.1 14 2 0 (.object "WebFinder$Bytes") := ⟨"WebFinder$AddressReader", tt_A, 2, rfl, by decide, ct_A 0 (by decide), Or.inl ⟨(am_t1 79 rfl rfl), Or.inr ⟨rfl, rfl, rfl⟩⟩⟩
theorem dc_A_init_18 : decode prog_2_method_1_code 18 = .ok (.aload_n 0, 1) := by decide +kernel
theorem dc_A_init_19 : decode prog_2_method_1_code 19 = .ok (.new 9, 3) := by decide +kernel
theorem dc_A_init_22 : decode prog_2_method_1_code 22 = .ok (.dup, 1) := by decide +kernel
theorem dc_A_init_23 : decode prog_2_method_1_code 23 = .ok (.sipush 512, 3) := by decide +kernel
theorem dc_A_init_26 : decode prog_2_method_1_code 26 = .ok (.invokespecial 11, 3) := by decide +kernel
theorem dc_A_init_29 : decode prog_2_method_1_code 29 = .ok (.putfield 20, 3) := by decide +kernel
theorem fp_A_init_20 : am_fp mt_A_init.1 20 2 1 (.object "WebFinder$Bytes") := ⟨"WebFinder$AddressReader", tt_A, 2, rfl, by decide, ct_A 1 (by decide), Or.inl ⟨(am_t1 83 rfl rfl), Or.inr ⟨rfl, rfl, rfl⟩⟩⟩
theorem dc_A_init_32 : decode prog_2_method_1_code 32 = .ok (.return_, 1) := by decide +kernel
theorem dc_P_init_0 : decode prog_8_method_1_code 0 = .ok (.aload_n 0, 1) := by decide +kernel
theorem dc_P_init_1 : decode prog_8_method_1_code 1 = .ok (.invokespecial 3, 3) := by decide +kernel
theorem ob_P_3 : Cond.methodLink "WebFinder$PageReader" 3 Lib.objectInit ∈ am_gw := (am_t1 94 rfl rfl)
theorem dc_P_init_4 : decode prog_8_method_1_code 4 = .ok (.aload_n 0, 1) := by decide +kernel
theorem dc_P_init_5 : decode prog_8_method_1_code 5 = .ok (.new 9, 3) := by decide +kernel
theorem mk_P_9 : am_mk "WebFinder$PageReader" 9 4 [.null, .null, .int 0] := ⟨"WebFinder$Rows", tt_R, 3, ty_R, rfl, ct_R, (am_t1 95 rfl rfl), (am_t1 96 rfl rfl), (am_t1 5 rfl rfl), rfl, fun _ => rfl, by decide +kernel⟩
theorem dc_P_init_8 : decode prog_8_method_1_code 8 = .ok (.dup, 1) := by decide +kernel
theorem dc_P_init_9 : decode prog_8_method_1_code 9 = .ok (.sipush 512, 3) := by decide +kernel
theorem dc_P_init_12 : decode prog_8_method_1_code 12 = .ok (.bipush 60, 2) := by decide +kernel
theorem dc_P_init_14 : decode prog_8_method_1_code 14 = .ok (.invokespecial 11, 3) := by decide +kernel
theorem ln_P_11 : am_ln "WebFinder$PageReader" 11 mt_R_init.1 := Or.inl (am_t1 97 rfl rfl)
theorem dc_P_init_17 : decode prog_8_method_1_code 17 = .ok (.putfield 14, 3) := by decide +kernel
theorem fp_P_init_14 : am_fp mt_P_init.1 14 3 0 (.object "WebFinder$Rows") := ⟨"WebFinder$PageReader", tt_P, 6, rfl, by decide, ct_P 0 (by decide), Or.inl ⟨(am_t1 166 rfl rfl), Or.inr ⟨rfl, rfl, rfl⟩⟩⟩
theorem dc_P_init_20 : decode prog_8_method_1_code 20 = .ok (.aload_n 0, 1) := by decide +kernel
theorem dc_P_init_21 : decode prog_8_method_1_code 21 = .ok (.new 9, 3) := by decide +kernel
theorem dc_P_init_24 : decode prog_8_method_1_code 24 = .ok (.dup, 1) := by decide +kernel
theorem dc_P_init_25 : decode prog_8_method_1_code 25 = .ok (.sipush 512, 3) := by decide +kernel
theorem dc_P_init_28 : decode prog_8_method_1_code 28 = .ok (.sipush 128, 3) := by decide +kernel
theorem dc_P_init_31 : decode prog_8_method_1_code 31 = .ok (.invokespecial 11, 3) := by decide +kernel
theorem dc_P_init_34 : decode prog_8_method_1_code 34 = .ok (.putfield 20, 3) := by decide +kernel
theorem fp_P_init_20 : am_fp mt_P_init.1 20 3 1 (.object "WebFinder$Rows") := ⟨"WebFinder$PageReader", tt_P, 6, rfl, by decide, ct_P 1 (by decide), Or.inl ⟨(am_t1 170 rfl rfl), Or.inr ⟨rfl, rfl, rfl⟩⟩⟩
theorem dc_P_init_37 : decode prog_8_method_1_code 37 = .ok (.aload_n 0, 1) := by decide +kernel
theorem dc_P_init_38 : decode prog_8_method_1_code 38 = .ok (.new 23, 3) := by decide +kernel
theorem mk_P_23 : am_mk "WebFinder$PageReader" 23 5 [.int 0, .int 0, .int 0, .int 0, .null, .int 0, .int 0, .int 0, .int 0] := ⟨"WebFinder$PageScanner", tt_S, 9, ty_S, rfl, ct_S, (am_t1 126 rfl rfl), (am_t1 127 rfl rfl), (am_t1 6 rfl rfl), rfl, fun _ => rfl, by decide +kernel⟩
theorem dc_P_init_41 : decode prog_8_method_1_code 41 = .ok (.dup, 1) := by decide +kernel
theorem dc_P_init_42 : decode prog_8_method_1_code 42 = .ok (.invokespecial 25, 3) := by decide +kernel
theorem mo_S_init : am_mo mt_S_init 0 := ⟨by decide +kernel, by decide +kernel, ⟨by decide +kernel, by decide +kernel⟩, (am_t1 130 rfl rfl), (am_t1 6 rfl rfl), by decide +kernel⟩
theorem im_S_init : Cond.instanceMethod mt_S_init.1 ∈ am_gw := (am_t1 129 rfl rfl)
theorem ln_P_25 : am_ln "WebFinder$PageReader" 25 mt_S_init.1 := Or.inr ⟨"WebFinder", (am_n1 128 rfl rfl)⟩
theorem dc_P_init_45 : decode prog_8_method_1_code 45 = .ok (.putfield 26, 3) := by decide +kernel
theorem fp_P_init_26 : am_fp mt_P_init.1 26 3 3 (.object "WebFinder$PageScanner") := ⟨"WebFinder$PageReader", tt_P, 6, rfl, by decide, ct_P 3 (by decide), Or.inl ⟨(am_t1 173 rfl rfl), Or.inr ⟨rfl, rfl, rfl⟩⟩⟩
theorem dc_P_init_48 : decode prog_8_method_1_code 48 = .ok (.aload_n 0, 1) := by decide +kernel
theorem dc_P_init_49 : decode prog_8_method_1_code 49 = .ok (.new 30, 3) := by decide +kernel
theorem mk_P_30 : am_mk "WebFinder$PageReader" 30 1 [.null, .int 0] := ⟨"WebFinder$Bytes", tt_B, 2, ty_B, rfl, ct_B, (am_t1 164 rfl rfl), (am_t1 40 rfl rfl), (am_t1 2 rfl rfl), rfl, fun _ => rfl, by decide +kernel⟩
theorem dc_P_init_52 : decode prog_8_method_1_code 52 = .ok (.dup, 1) := by decide +kernel
theorem dc_P_init_53 : decode prog_8_method_1_code 53 = .ok (.sipush 200, 3) := by decide +kernel
theorem dc_P_init_56 : decode prog_8_method_1_code 56 = .ok (.invokespecial 32, 3) := by decide +kernel
theorem ln_P_32 : am_ln "WebFinder$PageReader" 32 mt_B_init.1 := Or.inl (am_t1 165 rfl rfl)
theorem dc_P_init_59 : decode prog_8_method_1_code 59 = .ok (.putfield 35, 3) := by decide +kernel
theorem fp_P_init_35 : am_fp mt_P_init.1 35 3 4 (.object "WebFinder$Bytes") := ⟨"WebFinder$PageReader", tt_P, 6, rfl, by decide, ct_P 4 (by decide), Or.inl ⟨(am_t1 174 rfl rfl), Or.inr ⟨rfl, rfl, rfl⟩⟩⟩
theorem dc_P_init_62 : decode prog_8_method_1_code 62 = .ok (.aload_n 0, 1) := by decide +kernel
theorem dc_P_init_63 : decode prog_8_method_1_code 63 = .ok (.new 30, 3) := by decide +kernel
theorem dc_P_init_66 : decode prog_8_method_1_code 66 = .ok (.dup, 1) := by decide +kernel
theorem dc_P_init_67 : decode prog_8_method_1_code 67 = .ok (.sipush 512, 3) := by decide +kernel
theorem dc_P_init_70 : decode prog_8_method_1_code 70 = .ok (.invokespecial 32, 3) := by decide +kernel
theorem dc_P_init_73 : decode prog_8_method_1_code 73 = .ok (.putfield 39, 3) := by decide +kernel
theorem fp_P_init_39 : am_fp mt_P_init.1 39 3 5 (.object "WebFinder$Bytes") := ⟨"WebFinder$PageReader", tt_P, 6, rfl, by decide, ct_P 5 (by decide), Or.inl ⟨(am_t1 175 rfl rfl), Or.inr ⟨rfl, rfl, rfl⟩⟩⟩
theorem dc_P_init_76 : decode prog_8_method_1_code 76 = .ok (.aload_n 0, 1) := by decide +kernel
theorem dc_P_init_77 : decode prog_8_method_1_code 77 = .ok (.aload_n 1, 1) := by decide +kernel
theorem dc_P_init_78 : decode prog_8_method_1_code 78 = .ok (.putfield 42, 3) := by decide +kernel
theorem fp_P_init_42 : am_fp mt_P_init.1 42 3 2 (.object "WebFinder$AddressReader") := ⟨"WebFinder$PageReader", tt_P, 6, rfl, by decide, ct_P 2 (by decide), Or.inl ⟨(am_t1 172 rfl rfl), Or.inr ⟨rfl, rfl, rfl⟩⟩⟩
theorem dc_P_init_81 : decode prog_8_method_1_code 81 = .ok (.return_, 1) := by decide +kernel
theorem dc_R_init_0 : decode prog_10_method_1_code 0 = .ok (.aload_n 0, 1) := by decide +kernel
theorem dc_R_init_1 : decode prog_10_method_1_code 1 = .ok (.invokespecial 3, 3) := by decide +kernel
theorem ob_R_3 : Cond.methodLink "WebFinder$Rows" 3 Lib.objectInit ∈ am_gw := (am_t1 100 rfl rfl)
theorem dc_R_init_4 : decode prog_10_method_1_code 4 = .ok (.aload_n 0, 1) := by decide +kernel
theorem dc_R_init_5 : decode prog_10_method_1_code 5 = .ok (.new 9, 3) := by decide +kernel
theorem mk_R_9 : am_mk "WebFinder$Rows" 9 1 [.null, .int 0] := ⟨"WebFinder$Bytes", tt_B, 2, ty_B, rfl, ct_B, (am_t1 101 rfl rfl), (am_t1 40 rfl rfl), (am_t1 2 rfl rfl), rfl, fun _ => rfl, by decide +kernel⟩
theorem dc_R_init_8 : decode prog_10_method_1_code 8 = .ok (.dup, 1) := by decide +kernel
theorem dc_R_init_9 : decode prog_10_method_1_code 9 = .ok (.iload_n 1, 1) := by decide +kernel
theorem dc_R_init_10 : decode prog_10_method_1_code 10 = .ok (.invokespecial 11, 3) := by decide +kernel
theorem ln_R_11 : am_ln "WebFinder$Rows" 11 mt_B_init.1 := Or.inl (am_t1 102 rfl rfl)
theorem dc_R_init_13 : decode prog_10_method_1_code 13 = .ok (.putfield 14, 3) := by decide +kernel
theorem fp_R_init_14 : am_fp mt_R_init.1 14 4 0 (.object "WebFinder$Bytes") := ⟨"WebFinder$Rows", tt_R, 3, rfl, by decide, ct_R 0 (by decide), Or.inl ⟨(am_t1 103 rfl rfl), Or.inr ⟨rfl, rfl, rfl⟩⟩⟩
theorem dc_R_init_16 : decode prog_10_method_1_code 16 = .ok (.aload_n 0, 1) := by decide +kernel
theorem dc_R_init_17 : decode prog_10_method_1_code 17 = .ok (.iload_n 2, 1) := by decide +kernel
theorem dc_R_init_18 : decode prog_10_method_1_code 18 = .ok (.newarray .int, 2) := by decide +kernel
theorem dc_R_init_20 : decode prog_10_method_1_code 20 = .ok (.putfield 20, 3) := by decide +kernel
theorem fp_R_init_20 : am_fp mt_R_init.1 20 4 1 (.array .int) := ⟨"WebFinder$Rows", tt_R, 3, rfl, by decide, ct_R 1 (by decide), Or.inl ⟨(am_t1 110 rfl rfl), Or.inl rfl⟩⟩
theorem dc_R_init_23 : decode prog_10_method_1_code 23 = .ok (.return_, 1) := by decide +kernel
theorem dc_S_init_0 : decode prog_9_method_1_code 0 = .ok (.aload_n 0, 1) := by decide +kernel
theorem dc_S_init_1 : decode prog_9_method_1_code 1 = .ok (.invokespecial 3, 3) := by decide +kernel
theorem ob_S_3 : Cond.methodLink "WebFinder$PageScanner" 3 Lib.objectInit ∈ am_gw := (am_t1 131 rfl rfl)
theorem dc_S_init_4 : decode prog_9_method_1_code 4 = .ok (.return_, 1) := by decide +kernel
theorem dc_V_init_0 : decode prog_12_method_1_code 0 = .ok (.aload_n 0, 1) := by decide +kernel
theorem dc_V_init_1 : decode prog_12_method_1_code 1 = .ok (.invokespecial 3, 3) := by decide +kernel
theorem ob_V_3 : Cond.methodLink "WebFinder$Web" 3 Lib.objectInit ∈ am_gw := (am_t1 194 rfl rfl)
theorem dc_V_init_4 : decode prog_12_method_1_code 4 = .ok (.aload_n 0, 1) := by decide +kernel
theorem dc_V_init_5 : decode prog_12_method_1_code 5 = .ok (.bipush 60, 2) := by decide +kernel
theorem dc_V_init_7 : decode prog_12_method_1_code 7 = .ok (.anewarray 9, 3) := by decide +kernel
theorem dc_V_init_10 : decode prog_12_method_1_code 10 = .ok (.putfield 11, 3) := by decide +kernel
theorem fp_V_init_11 : am_fp mt_V_init.1 11 6 1 (.array (.object "WebFinder$Page")) := ⟨"WebFinder$Web", tt_V, 4, rfl, by decide, ct_V 1 (by decide), Or.inl ⟨(am_t1 201 rfl rfl), Or.inr ⟨rfl, rfl, rfl⟩⟩⟩
theorem dc_V_init_13 : decode prog_12_method_1_code 13 = .ok (.aload_n 0, 1) := by decide +kernel
theorem dc_V_init_14 : decode prog_12_method_1_code 14 = .ok (.bipush 12, 2) := by decide +kernel
theorem dc_V_init_16 : decode prog_12_method_1_code 16 = .ok (.anewarray 17, 3) := by decide +kernel
theorem dc_V_init_19 : decode prog_12_method_1_code 19 = .ok (.putfield 19, 3) := by decide +kernel
theorem fp_V_init_19 : am_fp mt_V_init.1 19 6 2 (.array (.object "WebFinder$SiteRules")) := ⟨"WebFinder$Web", tt_V, 4, rfl, by decide, ct_V 2 (by decide), Or.inl ⟨(am_t1 202 rfl rfl), Or.inr ⟨rfl, rfl, rfl⟩⟩⟩
theorem dc_V_init_22 : decode prog_12_method_1_code 22 = .ok (.return_, 1) := by decide +kernel
theorem dc_C_init_0 : decode prog_5_method_1_code 0 = .ok (.aload_n 0, 1) := by decide +kernel
theorem dc_C_init_1 : decode prog_5_method_1_code 1 = .ok (.invokespecial 3, 3) := by decide +kernel
theorem ob_C_3 : Cond.methodLink "WebFinder$Crawl" 3 Lib.objectInit ∈ am_gw := (am_t1 220 rfl rfl)
theorem dc_C_init_4 : decode prog_5_method_1_code 4 = .ok (.aload_n 0, 1) := by decide +kernel
theorem dc_C_init_5 : decode prog_5_method_1_code 5 = .ok (.new 9, 3) := by decide +kernel
theorem mk_C_9 : am_mk "WebFinder$Crawl" 9 4 [.null, .null, .int 0] := ⟨"WebFinder$Rows", tt_R, 3, ty_R, rfl, ct_R, (am_t1 221 rfl rfl), (am_t1 96 rfl rfl), (am_t1 5 rfl rfl), rfl, fun _ => rfl, by decide +kernel⟩
theorem dc_C_init_8 : decode prog_5_method_1_code 8 = .ok (.dup, 1) := by decide +kernel
theorem dc_C_init_9 : decode prog_5_method_1_code 9 = .ok (.sipush 1024, 3) := by decide +kernel
theorem dc_C_init_12 : decode prog_5_method_1_code 12 = .ok (.sipush 250, 3) := by decide +kernel
theorem dc_C_init_15 : decode prog_5_method_1_code 15 = .ok (.invokespecial 11, 3) := by decide +kernel
theorem ln_C_11 : am_ln "WebFinder$Crawl" 11 mt_R_init.1 := Or.inl (am_t1 222 rfl rfl)
theorem dc_C_init_18 : decode prog_5_method_1_code 18 = .ok (.putfield 14, 3) := by decide +kernel
theorem fp_C_init_14 : am_fp mt_C_init.1 14 7 3 (.object "WebFinder$Rows") := ⟨"WebFinder$Crawl", tt_C, 18, rfl, by decide, ct_C 3 (by decide), Or.inl ⟨(am_t1 234 rfl rfl), Or.inr ⟨rfl, rfl, rfl⟩⟩⟩
theorem dc_C_init_21 : decode prog_5_method_1_code 21 = .ok (.aload_n 0, 1) := by decide +kernel
theorem dc_C_init_22 : decode prog_5_method_1_code 22 = .ok (.iconst 4, 1) := by decide +kernel
theorem dc_C_init_23 : decode prog_5_method_1_code 23 = .ok (.sipush 250, 3) := by decide +kernel
theorem dc_C_init_26 : decode prog_5_method_1_code 26 = .ok (.multianewarray 20 2, 4) := by decide +kernel
theorem dc_C_init_30 : decode prog_5_method_1_code 30 = .ok (.putfield 22, 3) := by decide +kernel
theorem fp_C_init_22 : am_fp mt_C_init.1 22 7 4 (.array (.array .int)) := ⟨"WebFinder$Crawl", tt_C, 18, rfl, by decide, ct_C 4 (by decide), Or.inl ⟨(am_t1 237 rfl rfl), Or.inr ⟨rfl, rfl, rfl⟩⟩⟩
theorem dc_C_init_33 : decode prog_5_method_1_code 33 = .ok (.aload_n 0, 1) := by decide +kernel
theorem dc_C_init_34 : decode prog_5_method_1_code 34 = .ok (.sipush 250, 3) := by decide +kernel
theorem dc_C_init_37 : decode prog_5_method_1_code 37 = .ok (.anewarray 25, 3) := by decide +kernel
theorem dc_C_init_40 : decode prog_5_method_1_code 40 = .ok (.putfield 27, 3) := by decide +kernel
theorem fp_C_init_27 : am_fp mt_C_init.1 27 7 5 (.array (.object "WebFinder$Page")) := ⟨"WebFinder$Crawl", tt_C, 18, rfl, by decide, ct_C 5 (by decide), Or.inl ⟨(am_t2 0 rfl rfl), Or.inr ⟨rfl, rfl, rfl⟩⟩⟩
theorem dc_C_init_43 : decode prog_5_method_1_code 43 = .ok (.aload_n 0, 1) := by decide +kernel
theorem dc_C_init_44 : decode prog_5_method_1_code 44 = .ok (.new 9, 3) := by decide +kernel
theorem dc_C_init_47 : decode prog_5_method_1_code 47 = .ok (.dup, 1) := by decide +kernel
theorem dc_C_init_48 : decode prog_5_method_1_code 48 = .ok (.sipush 1024, 3) := by decide +kernel
theorem dc_C_init_51 : decode prog_5_method_1_code 51 = .ok (.sipush 1000, 3) := by decide +kernel
theorem dc_C_init_54 : decode prog_5_method_1_code 54 = .ok (.invokespecial 11, 3) := by decide +kernel
theorem dc_C_init_57 : decode prog_5_method_1_code 57 = .ok (.putfield 31, 3) := by decide +kernel
theorem fp_C_init_31 : am_fp mt_C_init.1 31 7 6 (.object "WebFinder$Rows") := ⟨"WebFinder$Crawl", tt_C, 18, rfl, by decide, ct_C 6 (by decide), Or.inl ⟨(am_t2 2 rfl rfl), Or.inr ⟨rfl, rfl, rfl⟩⟩⟩
theorem dc_C_init_60 : decode prog_5_method_1_code 60 = .ok (.aload_n 0, 1) := by decide +kernel
theorem dc_C_init_61 : decode prog_5_method_1_code 61 = .ok (.sipush 1000, 3) := by decide +kernel
theorem dc_C_init_64 : decode prog_5_method_1_code 64 = .ok (.newarray .int, 2) := by decide +kernel
theorem dc_C_init_66 : decode prog_5_method_1_code 66 = .ok (.putfield 34, 3) := by decide +kernel
theorem fp_C_init_34 : am_fp mt_C_init.1 34 7 7 (.array .int) := ⟨"WebFinder$Crawl", tt_C, 18, rfl, by decide, ct_C 7 (by decide), Or.inl ⟨(am_t2 4 rfl rfl), Or.inr ⟨rfl, rfl, rfl⟩⟩⟩
theorem dc_C_init_69 : decode prog_5_method_1_code 69 = .ok (.aload_n 0, 1) := by decide +kernel
theorem dc_C_init_70 : decode prog_5_method_1_code 70 = .ok (.iconst 4, 1) := by decide +kernel
theorem dc_C_init_71 : decode prog_5_method_1_code 71 = .ok (.newarray .int, 2) := by decide +kernel
theorem dc_C_init_73 : decode prog_5_method_1_code 73 = .ok (.putfield 38, 3) := by decide +kernel
theorem fp_C_init_38 : am_fp mt_C_init.1 38 7 11 (.array .int) := ⟨"WebFinder$Crawl", tt_C, 18, rfl, by decide, ct_C 11 (by decide), Or.inl ⟨(am_t2 9 rfl rfl), Or.inr ⟨rfl, rfl, rfl⟩⟩⟩
theorem dc_C_init_76 : decode prog_5_method_1_code 76 = .ok (.aload_n 0, 1) := by decide +kernel
theorem dc_C_init_77 : decode prog_5_method_1_code 77 = .ok (.new 41, 3) := by decide +kernel
theorem mk_C_41 : am_mk "WebFinder$Crawl" 41 1 [.null, .int 0] := ⟨"WebFinder$Bytes", tt_B, 2, ty_B, rfl, ct_B, (am_t1 226 rfl rfl), (am_t1 40 rfl rfl), (am_t1 2 rfl rfl), rfl, fun _ => rfl, by decide +kernel⟩
theorem dc_C_init_80 : decode prog_5_method_1_code 80 = .ok (.dup, 1) := by decide +kernel
theorem dc_C_init_81 : decode prog_5_method_1_code 81 = .ok (.sipush 200, 3) := by decide +kernel
theorem dc_C_init_84 : decode prog_5_method_1_code 84 = .ok (.invokespecial 43, 3) := by decide +kernel
theorem ln_C_43 : am_ln "WebFinder$Crawl" 43 mt_B_init.1 := Or.inl (am_t1 227 rfl rfl)
theorem dc_C_init_87 : decode prog_5_method_1_code 87 = .ok (.putfield 46, 3) := by decide +kernel
theorem fp_C_init_46 : am_fp mt_C_init.1 46 7 12 (.object "WebFinder$Bytes") := ⟨"WebFinder$Crawl", tt_C, 18, rfl, by decide, ct_C 12 (by decide), Or.inl ⟨(am_t2 10 rfl rfl), Or.inr ⟨rfl, rfl, rfl⟩⟩⟩
theorem dc_C_init_90 : decode prog_5_method_1_code 90 = .ok (.aload_n 0, 1) := by decide +kernel
theorem dc_C_init_91 : decode prog_5_method_1_code 91 = .ok (.sipush 250, 3) := by decide +kernel
theorem dc_C_init_94 : decode prog_5_method_1_code 94 = .ok (.newarray .int, 2) := by decide +kernel
theorem dc_C_init_96 : decode prog_5_method_1_code 96 = .ok (.putfield 50, 3) := by decide +kernel
theorem fp_C_init_50 : am_fp mt_C_init.1 50 7 13 (.array .int) := ⟨"WebFinder$Crawl", tt_C, 18, rfl, by decide, ct_C 13 (by decide), Or.inl ⟨(am_t2 11 rfl rfl), Or.inr ⟨rfl, rfl, rfl⟩⟩⟩
theorem dc_C_init_99 : decode prog_5_method_1_code 99 = .ok (.aload_n 0, 1) := by decide +kernel
theorem dc_C_init_100 : decode prog_5_method_1_code 100 = .ok (.iconst 4, 1) := by decide +kernel
theorem dc_C_init_101 : decode prog_5_method_1_code 101 = .ok (.sipush 250, 3) := by decide +kernel
theorem dc_C_init_104 : decode prog_5_method_1_code 104 = .ok (.multianewarray 20 2, 4) := by decide +kernel
theorem dc_C_init_108 : decode prog_5_method_1_code 108 = .ok (.putfield 53, 3) := by decide +kernel
theorem fp_C_init_53 : am_fp mt_C_init.1 53 7 14 (.array (.array .int)) := ⟨"WebFinder$Crawl", tt_C, 18, rfl, by decide, ct_C 14 (by decide), Or.inl ⟨(am_t2 12 rfl rfl), Or.inr ⟨rfl, rfl, rfl⟩⟩⟩
theorem dc_C_init_111 : decode prog_5_method_1_code 111 = .ok (.aload_n 0, 1) := by decide +kernel
theorem dc_C_init_112 : decode prog_5_method_1_code 112 = .ok (.aload_n 1, 1) := by decide +kernel
theorem dc_C_init_113 : decode prog_5_method_1_code 113 = .ok (.putfield 56, 3) := by decide +kernel
theorem fp_C_init_56 : am_fp mt_C_init.1 56 7 8 (.object "WebFinder$Web") := ⟨"WebFinder$Crawl", tt_C, 18, rfl, by decide, ct_C 8 (by decide), Or.inl ⟨(am_t2 6 rfl rfl), Or.inr ⟨rfl, rfl, rfl⟩⟩⟩
theorem dc_C_init_116 : decode prog_5_method_1_code 116 = .ok (.aload_n 0, 1) := by decide +kernel
theorem dc_C_init_117 : decode prog_5_method_1_code 117 = .ok (.aload_n 2, 1) := by decide +kernel
theorem dc_C_init_118 : decode prog_5_method_1_code 118 = .ok (.putfield 60, 3) := by decide +kernel
theorem fp_C_init_60 : am_fp mt_C_init.1 60 7 9 (.object "WebFinder$AddressReader") := ⟨"WebFinder$Crawl", tt_C, 18, rfl, by decide, ct_C 9 (by decide), Or.inl ⟨(am_t2 7 rfl rfl), Or.inr ⟨rfl, rfl, rfl⟩⟩⟩
theorem dc_C_init_121 : decode prog_5_method_1_code 121 = .ok (.aload_n 0, 1) := by decide +kernel
theorem dc_C_init_122 : decode prog_5_method_1_code 122 = .ok (.aload_n 3, 1) := by decide +kernel
theorem dc_C_init_123 : decode prog_5_method_1_code 123 = .ok (.putfield 64, 3) := by decide +kernel
theorem fp_C_init_64 : am_fp mt_C_init.1 64 7 10 (.object "WebFinder$PageReader") := ⟨"WebFinder$Crawl", tt_C, 18, rfl, by decide, ct_C 10 (by decide), Or.inl ⟨(am_t2 8 rfl rfl), Or.inr ⟨rfl, rfl, rfl⟩⟩⟩
theorem dc_C_init_126 : decode prog_5_method_1_code 126 = .ok (.return_, 1) := by decide +kernel
theorem dc_D_init_0 : decode prog_6_method_1_code 0 = .ok (.aload_n 0, 1) := by decide +kernel
theorem dc_D_init_1 : decode prog_6_method_1_code 1 = .ok (.invokespecial 3, 3) := by decide +kernel
theorem ob_D_3 : Cond.methodLink "WebFinder$Documents" 3 Lib.objectInit ∈ am_gw := (am_t2 58 rfl rfl)
theorem dc_D_init_4 : decode prog_6_method_1_code 4 = .ok (.aload_n 0, 1) := by decide +kernel
theorem dc_D_init_5 : decode prog_6_method_1_code 5 = .ok (.sipush 250, 3) := by decide +kernel
theorem dc_D_init_8 : decode prog_6_method_1_code 8 = .ok (.anewarray 9, 3) := by decide +kernel
theorem dc_D_init_11 : decode prog_6_method_1_code 11 = .ok (.putfield 11, 3) := by decide +kernel
theorem fp_D_init_11 : am_fp mt_D_init.1 11 8 1 (.array (.object "WebFinder$Page")) := ⟨"WebFinder$Documents", tt_D, 15, rfl, by decide, ct_D 1 (by decide), Or.inl ⟨(am_t2 67 rfl rfl), Or.inr ⟨rfl, rfl, rfl⟩⟩⟩
theorem dc_D_init_14 : decode prog_6_method_1_code 14 = .ok (.aload_n 0, 1) := by decide +kernel
theorem dc_D_init_15 : decode prog_6_method_1_code 15 = .ok (.sipush 250, 3) := by decide +kernel
theorem dc_D_init_18 : decode prog_6_method_1_code 18 = .ok (.newarray .int, 2) := by decide +kernel
theorem dc_D_init_20 : decode prog_6_method_1_code 20 = .ok (.putfield 17, 3) := by decide +kernel
theorem fp_D_init_17 : am_fp mt_D_init.1 17 8 2 (.array .int) := ⟨"WebFinder$Documents", tt_D, 15, rfl, by decide, ct_D 2 (by decide), Or.inl ⟨(am_t2 69 rfl rfl), Or.inr ⟨rfl, rfl, rfl⟩⟩⟩
theorem dc_D_init_23 : decode prog_6_method_1_code 23 = .ok (.aload_n 0, 1) := by decide +kernel
theorem dc_D_init_24 : decode prog_6_method_1_code 24 = .ok (.sipush 250, 3) := by decide +kernel
theorem dc_D_init_27 : decode prog_6_method_1_code 27 = .ok (.newarray .int, 2) := by decide +kernel
theorem dc_D_init_29 : decode prog_6_method_1_code 29 = .ok (.putfield 21, 3) := by decide +kernel
theorem fp_D_init_21 : am_fp mt_D_init.1 21 8 3 (.array .int) := ⟨"WebFinder$Documents", tt_D, 15, rfl, by decide, ct_D 3 (by decide), Or.inl ⟨(am_t2 71 rfl rfl), Or.inr ⟨rfl, rfl, rfl⟩⟩⟩
theorem dc_D_init_32 : decode prog_6_method_1_code 32 = .ok (.aload_n 0, 1) := by decide +kernel
theorem dc_D_init_33 : decode prog_6_method_1_code 33 = .ok (.sipush 250, 3) := by decide +kernel
theorem dc_D_init_36 : decode prog_6_method_1_code 36 = .ok (.newarray .int, 2) := by decide +kernel
theorem dc_D_init_38 : decode prog_6_method_1_code 38 = .ok (.putfield 24, 3) := by decide +kernel
theorem fp_D_init_24 : am_fp mt_D_init.1 24 8 4 (.array .int) := ⟨"WebFinder$Documents", tt_D, 15, rfl, by decide, ct_D 4 (by decide), Or.inl ⟨(am_t2 74 rfl rfl), Or.inr ⟨rfl, rfl, rfl⟩⟩⟩
theorem dc_D_init_41 : decode prog_6_method_1_code 41 = .ok (.aload_n 0, 1) := by decide +kernel
theorem dc_D_init_42 : decode prog_6_method_1_code 42 = .ok (.sipush 250, 3) := by decide +kernel
theorem dc_D_init_45 : decode prog_6_method_1_code 45 = .ok (.newarray .int, 2) := by decide +kernel
theorem dc_D_init_47 : decode prog_6_method_1_code 47 = .ok (.putfield 27, 3) := by decide +kernel
theorem fp_D_init_27 : am_fp mt_D_init.1 27 8 5 (.array .int) := ⟨"WebFinder$Documents", tt_D, 15, rfl, by decide, ct_D 5 (by decide), Or.inl ⟨(am_t2 76 rfl rfl), Or.inr ⟨rfl, rfl, rfl⟩⟩⟩
theorem dc_D_init_50 : decode prog_6_method_1_code 50 = .ok (.aload_n 0, 1) := by decide +kernel
theorem dc_D_init_51 : decode prog_6_method_1_code 51 = .ok (.sipush 250, 3) := by decide +kernel
theorem dc_D_init_54 : decode prog_6_method_1_code 54 = .ok (.newarray .int, 2) := by decide +kernel
theorem dc_D_init_56 : decode prog_6_method_1_code 56 = .ok (.putfield 30, 3) := by decide +kernel
theorem fp_D_init_30 : am_fp mt_D_init.1 30 8 6 (.array .int) := ⟨"WebFinder$Documents", tt_D, 15, rfl, by decide, ct_D 6 (by decide), Or.inl ⟨(am_t2 78 rfl rfl), Or.inr ⟨rfl, rfl, rfl⟩⟩⟩
theorem dc_D_init_59 : decode prog_6_method_1_code 59 = .ok (.aload_n 0, 1) := by decide +kernel
theorem dc_D_init_60 : decode prog_6_method_1_code 60 = .ok (.sipush 251, 3) := by decide +kernel
theorem dc_D_init_63 : decode prog_6_method_1_code 63 = .ok (.newarray .int, 2) := by decide +kernel
theorem dc_D_init_65 : decode prog_6_method_1_code 65 = .ok (.putfield 33, 3) := by decide +kernel
theorem fp_D_init_33 : am_fp mt_D_init.1 33 8 7 (.array .int) := ⟨"WebFinder$Documents", tt_D, 15, rfl, by decide, ct_D 7 (by decide), Or.inl ⟨(am_t2 80 rfl rfl), Or.inr ⟨rfl, rfl, rfl⟩⟩⟩
theorem dc_D_init_68 : decode prog_6_method_1_code 68 = .ok (.aload_n 0, 1) := by decide +kernel
theorem dc_D_init_69 : decode prog_6_method_1_code 69 = .ok (.new 36, 3) := by decide +kernel
theorem mk_D_36 : am_mk "WebFinder$Documents" 36 4 [.null, .null, .int 0] := ⟨"WebFinder$Rows", tt_R, 3, ty_R, rfl, ct_R, (am_t2 60 rfl rfl), (am_t1 96 rfl rfl), (am_t1 5 rfl rfl), rfl, fun _ => rfl, by decide +kernel⟩
theorem dc_D_init_72 : decode prog_6_method_1_code 72 = .ok (.dup, 1) := by decide +kernel
theorem dc_D_init_73 : decode prog_6_method_1_code 73 = .ok (.sipush 512, 3) := by decide +kernel
theorem dc_D_init_76 : decode prog_6_method_1_code 76 = .ok (.sipush 128, 3) := by decide +kernel
theorem dc_D_init_79 : decode prog_6_method_1_code 79 = .ok (.invokespecial 38, 3) := by decide +kernel
theorem ln_D_38 : am_ln "WebFinder$Documents" 38 mt_R_init.1 := Or.inl (am_t2 61 rfl rfl)
theorem dc_D_init_82 : decode prog_6_method_1_code 82 = .ok (.putfield 41, 3) := by decide +kernel
theorem fp_D_init_41 : am_fp mt_D_init.1 41 8 8 (.object "WebFinder$Rows") := ⟨"WebFinder$Documents", tt_D, 15, rfl, by decide, ct_D 8 (by decide), Or.inl ⟨(am_t2 83 rfl rfl), Or.inr ⟨rfl, rfl, rfl⟩⟩⟩
theorem dc_D_init_85 : decode prog_6_method_1_code 85 = .ok (.aload_n 0, 1) := by decide +kernel
theorem dc_D_init_86 : decode prog_6_method_1_code 86 = .ok (.new 45, 3) := by decide +kernel
theorem mk_D_45 : am_mk "WebFinder$Documents" 45 1 [.null, .int 0] := ⟨"WebFinder$Bytes", tt_B, 2, ty_B, rfl, ct_B, (am_t2 62 rfl rfl), (am_t1 40 rfl rfl), (am_t1 2 rfl rfl), rfl, fun _ => rfl, by decide +kernel⟩
theorem dc_D_init_89 : decode prog_6_method_1_code 89 = .ok (.dup, 1) := by decide +kernel
theorem dc_D_init_90 : decode prog_6_method_1_code 90 = .ok (.sipush 200, 3) := by decide +kernel
theorem dc_D_init_93 : decode prog_6_method_1_code 93 = .ok (.invokespecial 47, 3) := by decide +kernel
theorem ln_D_47 : am_ln "WebFinder$Documents" 47 mt_B_init.1 := Or.inl (am_t2 63 rfl rfl)
theorem dc_D_init_96 : decode prog_6_method_1_code 96 = .ok (.putfield 50, 3) := by decide +kernel
theorem fp_D_init_50 : am_fp mt_D_init.1 50 8 10 (.object "WebFinder$Bytes") := ⟨"WebFinder$Documents", tt_D, 15, rfl, by decide, ct_D 10 (by decide), Or.inl ⟨(am_t2 86 rfl rfl), Or.inr ⟨rfl, rfl, rfl⟩⟩⟩
theorem dc_D_init_99 : decode prog_6_method_1_code 99 = .ok (.aload_n 0, 1) := by decide +kernel
theorem dc_D_init_100 : decode prog_6_method_1_code 100 = .ok (.sipush 15000, 3) := by decide +kernel
theorem dc_D_init_103 : decode prog_6_method_1_code 103 = .ok (.newarray .int, 2) := by decide +kernel
theorem dc_D_init_105 : decode prog_6_method_1_code 105 = .ok (.putfield 54, 3) := by decide +kernel
theorem fp_D_init_54 : am_fp mt_D_init.1 54 8 11 (.array .int) := ⟨"WebFinder$Documents", tt_D, 15, rfl, by decide, ct_D 11 (by decide), Or.inl ⟨(am_t2 87 rfl rfl), Or.inr ⟨rfl, rfl, rfl⟩⟩⟩
theorem dc_D_init_108 : decode prog_6_method_1_code 108 = .ok (.aload_n 0, 1) := by decide +kernel
theorem dc_D_init_109 : decode prog_6_method_1_code 109 = .ok (.sipush 250, 3) := by decide +kernel
theorem dc_D_init_112 : decode prog_6_method_1_code 112 = .ok (.newarray .int, 2) := by decide +kernel
theorem dc_D_init_114 : decode prog_6_method_1_code 114 = .ok (.putfield 57, 3) := by decide +kernel
theorem fp_D_init_57 : am_fp mt_D_init.1 57 8 12 (.array .int) := ⟨"WebFinder$Documents", tt_D, 15, rfl, by decide, ct_D 12 (by decide), Or.inl ⟨(am_t2 88 rfl rfl), Or.inr ⟨rfl, rfl, rfl⟩⟩⟩
theorem dc_D_init_117 : decode prog_6_method_1_code 117 = .ok (.aload_n 0, 1) := by decide +kernel
theorem dc_D_init_118 : decode prog_6_method_1_code 118 = .ok (.sipush 250, 3) := by decide +kernel
theorem dc_D_init_121 : decode prog_6_method_1_code 121 = .ok (.newarray .int, 2) := by decide +kernel
theorem dc_D_init_123 : decode prog_6_method_1_code 123 = .ok (.putfield 60, 3) := by decide +kernel
theorem fp_D_init_60 : am_fp mt_D_init.1 60 8 13 (.array .int) := ⟨"WebFinder$Documents", tt_D, 15, rfl, by decide, ct_D 13 (by decide), Or.inl ⟨(am_t2 89 rfl rfl), Or.inr ⟨rfl, rfl, rfl⟩⟩⟩
theorem dc_D_init_126 : decode prog_6_method_1_code 126 = .ok (.aload_n 0, 1) := by decide +kernel
theorem dc_D_init_127 : decode prog_6_method_1_code 127 = .ok (.sipush 250, 3) := by decide +kernel
theorem dc_D_init_130 : decode prog_6_method_1_code 130 = .ok (.newarray .int, 2) := by decide +kernel
theorem dc_D_init_132 : decode prog_6_method_1_code 132 = .ok (.putfield 63, 3) := by decide +kernel
theorem fp_D_init_63 : am_fp mt_D_init.1 63 8 14 (.array .int) := ⟨"WebFinder$Documents", tt_D, 15, rfl, by decide, ct_D 14 (by decide), Or.inl ⟨(am_t2 90 rfl rfl), Or.inr ⟨rfl, rfl, rfl⟩⟩⟩
theorem dc_D_init_135 : decode prog_6_method_1_code 135 = .ok (.aload_n 0, 1) := by decide +kernel
theorem dc_D_init_136 : decode prog_6_method_1_code 136 = .ok (.aload_n 1, 1) := by decide +kernel
theorem dc_D_init_137 : decode prog_6_method_1_code 137 = .ok (.putfield 66, 3) := by decide +kernel
theorem fp_D_init_66 : am_fp mt_D_init.1 66 8 9 (.object "WebFinder$PageReader") := ⟨"WebFinder$Documents", tt_D, 15, rfl, by decide, ct_D 9 (by decide), Or.inl ⟨(am_t2 85 rfl rfl), Or.inr ⟨rfl, rfl, rfl⟩⟩⟩
theorem dc_D_init_140 : decode prog_6_method_1_code 140 = .ok (.return_, 1) := by decide +kernel
theorem dc_N_init_0 : decode prog_3_method_1_code 0 = .ok (.aload_n 0, 1) := by decide +kernel
theorem dc_N_init_1 : decode prog_3_method_1_code 1 = .ok (.invokespecial 3, 3) := by decide +kernel
theorem ob_N_3 : Cond.methodLink "WebFinder$Answers" 3 Lib.objectInit ∈ am_gw := (am_t2 127 rfl rfl)
theorem dc_N_init_4 : decode prog_3_method_1_code 4 = .ok (.aload_n 0, 1) := by decide +kernel
theorem dc_N_init_5 : decode prog_3_method_1_code 5 = .ok (.sipush 250, 3) := by decide +kernel
theorem dc_N_init_8 : decode prog_3_method_1_code 8 = .ok (.newarray .int, 2) := by decide +kernel
theorem dc_N_init_10 : decode prog_3_method_1_code 10 = .ok (.putfield 9, 3) := by decide +kernel
theorem fp_N_init_9 : am_fp mt_N_init.1 9 9 1 (.array .int) := ⟨"WebFinder$Answers", tt_N, 4, rfl, by decide, ct_N 1 (by decide), Or.inl ⟨(am_t2 132 rfl rfl), Or.inr ⟨rfl, rfl, rfl⟩⟩⟩
theorem dc_N_init_13 : decode prog_3_method_1_code 13 = .ok (.aload_n 0, 1) := by decide +kernel
theorem dc_N_init_14 : decode prog_3_method_1_code 14 = .ok (.sipush 250, 3) := by decide +kernel
theorem dc_N_init_17 : decode prog_3_method_1_code 17 = .ok (.newarray .long, 2) := by decide +kernel
theorem dc_N_init_19 : decode prog_3_method_1_code 19 = .ok (.putfield 15, 3) := by decide +kernel
theorem fp_N_init_15 : am_fp mt_N_init.1 15 9 2 (.array .long) := ⟨"WebFinder$Answers", tt_N, 4, rfl, by decide, ct_N 2 (by decide), Or.inl ⟨(am_t2 134 rfl rfl), Or.inr ⟨rfl, rfl, rfl⟩⟩⟩
theorem dc_N_init_22 : decode prog_3_method_1_code 22 = .ok (.aload_n 0, 1) := by decide +kernel
theorem dc_N_init_23 : decode prog_3_method_1_code 23 = .ok (.new 19, 3) := by decide +kernel
theorem mk_N_19 : am_mk "WebFinder$Answers" 19 4 [.null, .null, .int 0] := ⟨"WebFinder$Rows", tt_R, 3, ty_R, rfl, ct_R, (am_t2 128 rfl rfl), (am_t1 96 rfl rfl), (am_t1 5 rfl rfl), rfl, fun _ => rfl, by decide +kernel⟩
theorem dc_N_init_26 : decode prog_3_method_1_code 26 = .ok (.dup, 1) := by decide +kernel
theorem dc_N_init_27 : decode prog_3_method_1_code 27 = .ok (.sipush 256, 3) := by decide +kernel
theorem dc_N_init_30 : decode prog_3_method_1_code 30 = .ok (.bipush 64, 2) := by decide +kernel
theorem dc_N_init_32 : decode prog_3_method_1_code 32 = .ok (.invokespecial 21, 3) := by decide +kernel
theorem ln_N_21 : am_ln "WebFinder$Answers" 21 mt_R_init.1 := Or.inl (am_t2 129 rfl rfl)
theorem dc_N_init_35 : decode prog_3_method_1_code 35 = .ok (.putfield 24, 3) := by decide +kernel
theorem fp_N_init_24 : am_fp mt_N_init.1 24 9 3 (.object "WebFinder$Rows") := ⟨"WebFinder$Answers", tt_N, 4, rfl, by decide, ct_N 3 (by decide), Or.inl ⟨(am_t2 136 rfl rfl), Or.inr ⟨rfl, rfl, rfl⟩⟩⟩
theorem dc_N_init_38 : decode prog_3_method_1_code 38 = .ok (.return_, 1) := by decide +kernel
