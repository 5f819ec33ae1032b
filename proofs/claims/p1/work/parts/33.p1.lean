set_option maxRecDepth 20000 in
set_option maxHeartbeats 4000000 in
theorem p1_5 {X : am_X} {p0 p1 p2 p3 p4 p5 : Int32} (hl9 : X.1.stackTraces = false) (hL : X.2.2.2.2.2.1 = 6) (e0 : X.2.2.2.2.2.2 (Int32.toNatClampNeg 0) = p0) (e1 : X.2.2.2.2.2.2 (Int32.toNatClampNeg 1) = p1) (e2 : X.2.2.2.2.2.2 (Int32.toNatClampNeg 2) = p2) (e3 : X.2.2.2.2.2.2 (Int32.toNatClampNeg 3) = p3) (e4 : X.2.2.2.2.2.2 (Int32.toNatClampNeg 4) = p4) (e5 : X.2.2.2.2.2.2 (Int32.toNatClampNeg 5) = p5) : am_G X mt_L_law 60 359 lo_0 [] hp_0 (fun r h => r = some (.int 1) ∧ h.length ≤ 601024 ∧ am_sl h ≤ 7293034) := by
  refine g_aload_n (pc := 359) dc_L_law_359 rfl ?_
  refine g_v0 (pc := 360) (M' := mt_W_rules) dc_L_law_360 mo_W_rules im_W_rules se_W_rules ln_L_52 rfl rfl rfl (Nat.le_of_ble_eq_true rfl) (Nat.le_of_ble_eq_true rfl) ?_
  refine g_iconst (pc := 0) (v := (-1)) dc_W_rules_0 rfl ?_
  refine g_istore_n (pc := 1) dc_W_rules_1 (by decide) ?_
  refine g_aload_n (pc := 2) dc_W_rules_2 rfl ?_
  refine g_v0 (pc := 3) (M' := mt_W_resolveLine) dc_W_rules_3 mo_W_resolveLine im_W_resolveLine se_W_resolveLine ln_W_98 rfl rfl rfl (Nat.le_of_ble_eq_true rfl) (Nat.le_of_ble_eq_true rfl) ?_
  refine g_aload_n (pc := 0) dc_W_resolveLine_0 rfl ?_
  refine g_getfield (pc := 1) dc_W_resolveLine_1 fl_W_27 rfl rfl ?_
  refine g_aload_n (pc := 4) dc_W_resolveLine_4 rfl ?_
  refine g_getfield (pc := 5) dc_W_resolveLine_5 fl_W_12 rfl rfl ?_
  refine g_getfield (pc := 8) dc_W_resolveLine_8 fl_W_109 rfl rfl ?_
  refine g_iconst (pc := 11) (v := 0) dc_W_resolveLine_11 rfl ?_
  refine g_aload_n (pc := 12) dc_W_resolveLine_12 rfl ?_
  refine g_v0 (pc := 13) (M' := mt_W_lineTo) dc_W_resolveLine_13 mo_W_lineTo im_W_lineTo se_W_lineTo ln_W_286 rfl rfl rfl (Nat.le_of_ble_eq_true rfl) (Nat.le_of_ble_eq_true rfl) ?_
  refine g_aload_n (pc := 0) dc_W_lineTo_0 rfl ?_
  refine g_getfield (pc := 1) dc_W_lineTo_1 fl_W_12 rfl rfl ?_
  refine g_getfield (pc := 4) dc_W_lineTo_4 fl_W_109 rfl rfl ?_
  refine g_bipush (pc := 7) (v := 10) dc_W_lineTo_7 rfl ?_
  refine g_iconst (pc := 9) (v := 0) dc_W_lineTo_9 rfl ?_
  refine g_aload_n (pc := 10) dc_W_lineTo_10 rfl ?_
  refine g_getfield (pc := 11) dc_W_lineTo_11 fl_W_12 rfl rfl ?_
  refine g_getfield (pc := 14) dc_W_lineTo_14 fl_W_85 rfl rfl ?_
  refine g_s4 (pc := 17) (M' := mt_W_indexOf) dc_W_lineTo_17 mo_W_indexOf st_W_indexOf ln_W_282 (Nat.le_of_ble_eq_true rfl) (Nat.le_of_ble_eq_true rfl) ?_
  refine g_iload_n (pc := 0) dc_W_indexOf_0 rfl ?_
  refine g_istore (pc := 1) dc_W_indexOf_1 (by decide) ?_
  refine g_iload (pc := 3) dc_W_indexOf_3 rfl ?_
  refine g_iload_n (pc := 5) dc_W_indexOf_5 rfl ?_
  refine g_icmp_ge (pc := 6) (tgt := 23) dc_W_indexOf_6 rfl (fun _ => ?_) (fun hc => absurd hc (by decide))
  refine g_iload (pc := 23) dc_W_indexOf_23 rfl ?_
  refine g_iretC (pc := 25) dc_W_indexOf_25 rfl ?_
  refine g_iretC (pc := 20) dc_W_lineTo_20 rfl ?_
  refine g_null (pc := 16) dc_W_resolveLine_16 ?_
  refine g_v4 (pc := 17) (M' := mt_A_resolve) dc_W_resolveLine_17 mo_A_resolve im_A_resolve se_A_resolve ln_W_117 rfl rfl rfl (Nat.le_of_ble_eq_true rfl) (Nat.le_of_ble_eq_true rfl) ?_
  refine g_aload_n (pc := 0) dc_A_resolve_0 rfl ?_
  refine g_getfield (pc := 1) dc_A_resolve_1 fl_A_14 rfl rfl ?_
  refine g_v0 (pc := 4) (M' := mt_B_clear) dc_A_resolve_4 mo_B_clear im_B_clear se_B_clear ln_A_23 rfl rfl rfl (Nat.le_of_ble_eq_true rfl) (Nat.le_of_ble_eq_true rfl) ?_
  refine g_aload_n (pc := 0) dc_B_clear_0 rfl ?_
  refine g_iconst (pc := 1) (v := 0) dc_B_clear_1 rfl ?_
  refine g_putfield (pc := 2) dc_B_clear_2 fp_B_clear_15 rfl (Nat.le_of_ble_eq_true rfl) rfl rfl ?_
  refine g_vretC (pc := 5) dc_B_clear_5 rfl ?_
  refine g_aload_n (pc := 7) dc_A_resolve_7 rfl ?_
  refine g_getfield (pc := 8) dc_A_resolve_8 fl_A_20 rfl rfl ?_
  refine g_v0 (pc := 11) (M' := mt_B_clear) dc_A_resolve_11 mo_B_clear im_B_clear se_B_clear ln_A_23 rfl rfl rfl (Nat.le_of_ble_eq_true rfl) (Nat.le_of_ble_eq_true rfl) ?_
  refine g_aload_n (pc := 0) dc_B_clear_0 rfl ?_
  refine g_iconst (pc := 1) (v := 0) dc_B_clear_1 rfl ?_
  refine g_putfield (pc := 2) dc_B_clear_2 fp_B_clear_15 rfl (Nat.le_of_ble_eq_true rfl) rfl rfl ?_
  refine g_vretC (pc := 5) dc_B_clear_5 rfl ?_
  refine g_aload_n (pc := 14) dc_A_resolve_14 rfl ?_
  refine g_iload_n (pc := 15) dc_A_resolve_15 rfl ?_
  refine g_iload_n (pc := 16) dc_A_resolve_16 rfl ?_
  refine g_s3 (pc := 17) (M' := mt_W_trimmedFrom) dc_A_resolve_17 mo_W_trimmedFrom st_W_trimmedFrom ln_A_26 (Nat.le_of_ble_eq_true rfl) (Nat.le_of_ble_eq_true rfl) ?_
  refine g_iload_n (pc := 0) dc_W_trimmedFrom_0 rfl ?_
  refine g_istore_n (pc := 1) dc_W_trimmedFrom_1 (by decide) ?_
  refine g_iload_n (pc := 2) dc_W_trimmedFrom_2 rfl ?_
  refine g_iload_n (pc := 3) dc_W_trimmedFrom_3 rfl ?_
  refine g_icmp_ge (pc := 4) (tgt := 22) dc_W_trimmedFrom_4 rfl (fun _ => ?_) (fun hc => absurd hc (by decide))
  refine g_iload_n (pc := 22) dc_W_trimmedFrom_22 rfl ?_
  refine g_iretC (pc := 23) dc_W_trimmedFrom_23 rfl ?_
  refine g_istore (pc := 20) dc_A_resolve_20 (by decide) ?_
  refine g_aload_n (pc := 22) dc_A_resolve_22 rfl ?_
  refine g_bipush (pc := 23) (v := 35) dc_A_resolve_23 rfl ?_
  refine g_iload (pc := 25) dc_A_resolve_25 rfl ?_
  refine g_aload_n (pc := 27) dc_A_resolve_27 rfl ?_
  refine g_iload (pc := 28) dc_A_resolve_28 rfl ?_
  refine g_iload_n (pc := 30) dc_A_resolve_30 rfl ?_
  refine g_s3 (pc := 31) (M' := mt_W_trimmedTo) dc_A_resolve_31 mo_W_trimmedTo st_W_trimmedTo ln_A_30 (Nat.le_of_ble_eq_true rfl) (Nat.le_of_ble_eq_true rfl) ?_
  refine g_iload_n (pc := 0) dc_W_trimmedTo_0 rfl ?_
  refine g_istore_n (pc := 1) dc_W_trimmedTo_1 (by decide) ?_
  refine g_iload_n (pc := 2) dc_W_trimmedTo_2 rfl ?_
  refine g_iload_n (pc := 3) dc_W_trimmedTo_3 rfl ?_
  refine g_icmp_le (pc := 4) (tgt := 24) dc_W_trimmedTo_4 rfl (fun _ => ?_) (fun hc => absurd hc (by decide))
  refine g_iload_n (pc := 24) dc_W_trimmedTo_24 rfl ?_
  refine g_iretC (pc := 25) dc_W_trimmedTo_25 rfl ?_
  refine g_s4 (pc := 34) (M' := mt_W_indexOf) dc_A_resolve_34 mo_W_indexOf st_W_indexOf ln_A_33 (Nat.le_of_ble_eq_true rfl) (Nat.le_of_ble_eq_true rfl) ?_
  refine g_iload_n (pc := 0) dc_W_indexOf_0 rfl ?_
  refine g_istore (pc := 1) dc_W_indexOf_1 (by decide) ?_
  refine g_iload (pc := 3) dc_W_indexOf_3 rfl ?_
  refine g_iload_n (pc := 5) dc_W_indexOf_5 rfl ?_
  refine g_icmp_ge (pc := 6) (tgt := 23) dc_W_indexOf_6 rfl (fun _ => ?_) (fun hc => absurd hc (by decide))
  refine g_iload (pc := 23) dc_W_indexOf_23 rfl ?_
  refine g_iretC (pc := 25) dc_W_indexOf_25 rfl ?_
  refine g_istore (pc := 37) dc_A_resolve_37 (by decide) ?_
  refine g_aload_n (pc := 39) dc_A_resolve_39 rfl ?_
  refine g_iload (pc := 40) dc_A_resolve_40 rfl ?_
  refine g_iload (pc := 42) dc_A_resolve_42 rfl ?_
  refine g_s3 (pc := 44) (M' := mt_A_isClean) dc_A_resolve_44 mo_A_isClean st_A_isClean ln_A_37 (Nat.le_of_ble_eq_true rfl) (Nat.le_of_ble_eq_true rfl) ?_
  refine g_iload_n (pc := 0) dc_A_isClean_0 rfl ?_
  refine g_istore_n (pc := 1) dc_A_isClean_1 (by decide) ?_
  refine g_iload_n (pc := 2) dc_A_isClean_2 rfl ?_
  refine g_iload_n (pc := 3) dc_A_isClean_3 rfl ?_
  refine g_icmp_ge (pc := 4) (tgt := 64) dc_A_isClean_4 rfl (fun _ => ?_) (fun hc => absurd hc (by decide))
  refine g_iconst (pc := 64) (v := 1) dc_A_isClean_64 rfl ?_
  refine g_zretC (pc := 65) dc_A_isClean_65 rfl rfl ?_
  refine g_if_ne (pc := 47) (tgt := 52) dc_A_resolve_47 rfl (fun _ => ?_) (fun hc => absurd hc (by decide))
  refine g_aload_n (pc := 52) dc_A_resolve_52 rfl ?_
  refine g_bipush (pc := 53) (v := 58) dc_A_resolve_53 rfl ?_
  refine g_iload (pc := 55) dc_A_resolve_55 rfl ?_
  refine g_iload (pc := 57) dc_A_resolve_57 rfl ?_
  refine g_s4 (pc := 59) (M' := mt_W_indexOf) dc_A_resolve_59 mo_W_indexOf st_W_indexOf ln_A_33 (Nat.le_of_ble_eq_true rfl) (Nat.le_of_ble_eq_true rfl) ?_
  refine g_iload_n (pc := 0) dc_W_indexOf_0 rfl ?_
  refine g_istore (pc := 1) dc_W_indexOf_1 (by decide) ?_
  refine g_iload (pc := 3) dc_W_indexOf_3 rfl ?_
  refine g_iload_n (pc := 5) dc_W_indexOf_5 rfl ?_
  refine g_icmp_ge (pc := 6) (tgt := 23) dc_W_indexOf_6 rfl (fun _ => ?_) (fun hc => absurd hc (by decide))
  refine g_iload (pc := 23) dc_W_indexOf_23 rfl ?_
  refine g_iretC (pc := 25) dc_W_indexOf_25 rfl ?_
  refine g_istore (pc := 62) dc_A_resolve_62 (by decide) ?_
  refine g_iload (pc := 64) dc_A_resolve_64 rfl ?_
  refine g_aload_n (pc := 66) dc_A_resolve_66 rfl ?_
  refine g_bipush (pc := 67) (v := 47) dc_A_resolve_67 rfl ?_
  refine g_iload (pc := 69) dc_A_resolve_69 rfl ?_
  refine g_iload (pc := 71) dc_A_resolve_71 rfl ?_
  refine g_s4 (pc := 73) (M' := mt_W_indexOf) dc_A_resolve_73 mo_W_indexOf st_W_indexOf ln_A_33 (Nat.le_of_ble_eq_true rfl) (Nat.le_of_ble_eq_true rfl) ?_
  refine g_iload_n (pc := 0) dc_W_indexOf_0 rfl ?_
  refine g_istore (pc := 1) dc_W_indexOf_1 (by decide) ?_
  refine g_iload (pc := 3) dc_W_indexOf_3 rfl ?_
  refine g_iload_n (pc := 5) dc_W_indexOf_5 rfl ?_
  refine g_icmp_ge (pc := 6) (tgt := 23) dc_W_indexOf_6 rfl (fun _ => ?_) (fun hc => absurd hc (by decide))
  refine g_iload (pc := 23) dc_W_indexOf_23 rfl ?_
  refine g_iretC (pc := 25) dc_W_indexOf_25 rfl ?_
  refine g_aload_n (pc := 76) dc_A_resolve_76 rfl ?_
  refine g_bipush (pc := 77) (v := 63) dc_A_resolve_77 rfl ?_
  refine g_iload (pc := 79) dc_A_resolve_79 rfl ?_
  refine g_iload (pc := 81) dc_A_resolve_81 rfl ?_
  refine g_s4 (pc := 83) (M' := mt_W_indexOf) dc_A_resolve_83 mo_W_indexOf st_W_indexOf ln_A_33 (Nat.le_of_ble_eq_true rfl) (Nat.le_of_ble_eq_true rfl) ?_
  refine g_iload_n (pc := 0) dc_W_indexOf_0 rfl ?_
  refine g_istore (pc := 1) dc_W_indexOf_1 (by decide) ?_
  refine g_iload (pc := 3) dc_W_indexOf_3 rfl ?_
  refine g_iload_n (pc := 5) dc_W_indexOf_5 rfl ?_
  refine g_icmp_ge (pc := 6) (tgt := 23) dc_W_indexOf_6 rfl (fun _ => ?_) (fun hc => absurd hc (by decide))
  refine g_iload (pc := 23) dc_W_indexOf_23 rfl ?_
  refine g_iretC (pc := 25) dc_W_indexOf_25 rfl ?_
  refine g_s2 (pc := 86) (M' := mt_JMath_min) dc_A_resolve_86 mo_JMath_min st_JMath_min ln_A_41 (Nat.le_of_ble_eq_true rfl) (Nat.le_of_ble_eq_true rfl) ?_
  refine g_iload_n (pc := 0) dc_JMath_min_0 rfl ?_
  refine g_iload_n (pc := 1) dc_JMath_min_1 rfl ?_
  refine g_icmp_gt (pc := 2) (tgt := 9) dc_JMath_min_2 rfl (fun hc => absurd hc (by decide)) (fun _ => ?_)
  refine g_iload_n (pc := 5) dc_JMath_min_5 rfl ?_
  refine g_goto (pc := 6) (tgt := 10) dc_JMath_min_6 rfl ?_
  refine g_iretC (pc := 10) dc_JMath_min_10 rfl ?_
  refine g_icmp_ge (pc := 89) (tgt := 128) dc_A_resolve_89 rfl (fun _ => ?_) (fun hc => absurd hc (by decide))
  refine g_aload_n (pc := 128) dc_A_resolve_128 rfl ?_
  refine g_iload (pc := 129) dc_A_resolve_129 rfl ?_
  refine g_iload (pc := 131) dc_A_resolve_131 rfl ?_
  refine g_ldcS (pc := 133) 2 dc_A_resolve_133 (by decide) rfl rfl ?_
  refine g_s4 (pc := 135) (M' := mt_W_beginsWith) dc_A_resolve_135 mo_W_beginsWith st_W_beginsWith ln_A_55 (Nat.le_of_ble_eq_true rfl) (Nat.le_of_ble_eq_true rfl) ?_
  refine g_iload_n (pc := 0) dc_W_beginsWith_0 rfl ?_
  refine g_xload_n (pc := 1) dc_W_beginsWith_1 rfl ?_
  refine g_x0 (pc := 2) (M' := mt_JString_length) dc_W_beginsWith_2 mo_JString_length im_JString_length se_JString_length (am_t3 75 rfl rfl) (by decide) (Nat.le_of_ble_eq_true rfl) (Nat.le_of_ble_eq_true rfl) ?_
  refine g_xload_n (pc := 0) dc_JString_length_0 rfl ?_
  refine g_sValue (pc := 1) dc_JString_length_1 (by decide) (am_t4 204 rfl rfl) ?_
  refine g_sLen (pc := 4) (n := 2) dc_JString_length_4 (by decide) rfl ?_
  refine g_xload_n (pc := 5) dc_JString_length_5 rfl ?_
  refine g_x0 (pc := 6) (M' := mt_JString_coder) dc_JString_length_6 mo_JString_coder im_JString_coder se_JString_coder (am_t2 236 rfl rfl) (by decide) (Nat.le_of_ble_eq_true rfl) (Nat.le_of_ble_eq_true rfl) ?_
  refine g_gsCompact (pc := 0) dc_JString_coder_0 (am_t2 230 rfl rfl) ?_
  refine g_if_eq (pc := 3) (tgt := 13) dc_JString_coder_3 rfl (fun hc => absurd hc (by decide)) (fun _ => ?_)
  refine g_xload_n (pc := 6) dc_JString_coder_6 rfl ?_
  refine g_sCoder (pc := 7) dc_JString_coder_7 (by decide) (am_t4 205 rfl rfl) ?_
  refine g_goto (pc := 10) (tgt := 14) dc_JString_coder_10 rfl ?_
  refine g_bretC (pc := 14) dc_JString_coder_14 rfl rfl ?_
  refine g_ishr (pc := 9) (v := 2) dc_JString_length_9 (by decide) ?_
  refine g_iretC (pc := 10) dc_JString_length_10 rfl ?_
  refine g_iadd (pc := 5) (v := 2) dc_W_beginsWith_5 (by decide) ?_
  refine g_istore (pc := 6) dc_W_beginsWith_6 (by decide) ?_
  refine g_iload (pc := 8) dc_W_beginsWith_8 rfl ?_
  refine g_iload_n (pc := 10) dc_W_beginsWith_10 rfl ?_
  refine g_icmp_gt (pc := 11) (tgt := 29) dc_W_beginsWith_11 rfl (fun _ => ?_) (fun hc => absurd hc (by decide))
  refine g_iconst (pc := 29) (v := 0) dc_W_beginsWith_29 rfl ?_
  refine g_zretC (pc := 30) dc_W_beginsWith_30 rfl rfl ?_
  refine g_if_eq (pc := 138) (tgt := 155) dc_A_resolve_138 rfl (fun _ => ?_) (fun hc => absurd hc (by decide))
  refine g_aload_n (pc := 155) dc_A_resolve_155 rfl ?_
  refine g_aload_n (pc := 156) dc_A_resolve_156 rfl ?_
  refine g_iload (pc := 157) dc_A_resolve_157 rfl ?_
  refine g_iload (pc := 159) dc_A_resolve_159 rfl ?_
  refine g_aloadN (pc := 161) dc_A_resolve_161 rfl ?_
  refine g_v4 (pc := 163) (M' := mt_A_joinBase) dc_A_resolve_163 mo_A_joinBase im_A_joinBase se_A_joinBase ln_A_61 rfl rfl rfl (Nat.le_of_ble_eq_true rfl) (Nat.le_of_ble_eq_true rfl) ?_
  refine g_aloadN (pc := 0) dc_A_joinBase_0 rfl ?_
  refine g_ifnullN (pc := 2) (tgt := 13) dc_A_joinBase_2 rfl ?_
  refine g_iconst (pc := 13) (v := (-1)) dc_A_joinBase_13 rfl ?_
  refine g_iretC (pc := 14) dc_A_joinBase_14 rfl ?_
  refine g_istore (pc := 166) dc_A_resolve_166 (by decide) ?_
  refine g_iload (pc := 168) dc_A_resolve_168 rfl ?_
  refine g_iconst (pc := 170) (v := (-1)) dc_A_resolve_170 rfl ?_
  refine g_icmp_ne (pc := 171) (tgt := 176) dc_A_resolve_171 rfl (fun hc => absurd hc (by decide)) (fun _ => ?_)
  refine g_iconst (pc := 174) (v := 0) dc_A_resolve_174 rfl ?_
  refine g_zretC (pc := 175) dc_A_resolve_175 rfl rfl ?_
  refine g_zretC (pc := 20) dc_W_resolveLine_20 rfl rfl ?_
  refine g_if_eq (pc := 6) (tgt := 32) dc_W_rules_6 rfl (fun _ => ?_) (fun hc => absurd hc (by decide))
  refine g_aload_n (pc := 32) dc_W_rules_32 rfl ?_
  refine g_getfield (pc := 33) dc_W_rules_33 fl_W_12 rfl rfl ?_
  refine g_v0 (pc := 36) (M' := mt_B_clear) dc_W_rules_36 mo_B_clear im_B_clear se_B_clear ln_W_121 rfl rfl rfl (Nat.le_of_ble_eq_true rfl) (Nat.le_of_ble_eq_true rfl) ?_
  refine g_aload_n (pc := 0) dc_B_clear_0 rfl ?_
  refine g_iconst (pc := 1) (v := 0) dc_B_clear_1 rfl ?_
  refine g_putfield (pc := 2) dc_B_clear_2 fp_B_clear_15 rfl (Nat.le_of_ble_eq_true rfl) rfl rfl ?_
  refine g_vretC (pc := 5) dc_B_clear_5 rfl ?_
  refine g_iload_n (pc := 39) dc_W_rules_39 rfl ?_
  refine g_iretC (pc := 40) dc_W_rules_40 rfl ?_
  refine g_aload_n (pc := 363) dc_L_law_363 rfl ?_
  refine g_v0 (pc := 364) (M' := mt_M_rules) dc_L_law_364 mo_M_rules im_M_rules se_M_rules ln_L_55 rfl rfl rfl (Nat.le_of_ble_eq_true rfl) (Nat.le_of_ble_eq_true rfl) ?_
  refine g_aload_n (pc := 0) dc_M_rules_0 rfl ?_
  refine g_v0 (pc := 1) (M' := mt_M_use) dc_M_rules_1 mo_M_use im_M_use se_M_use ln_M_505 rfl rfl rfl (Nat.le_of_ble_eq_true rfl) (Nat.le_of_ble_eq_true rfl) ?_
  refine g_aload_n (pc := 0) dc_M_use_0 rfl ?_
  refine g_iconst (pc := 1) (v := 0) dc_M_use_1 rfl ?_
  refine g_putfield (pc := 2) dc_M_use_2 fp_M_use_1 rfl (Nat.le_of_ble_eq_true rfl) rfl rfl ?_
  refine g_aload_n (pc := 5) dc_M_use_5 rfl ?_
  refine g_getfield (pc := 6) dc_M_use_6 fl_M_493 rfl rfl ?_
  refine g_istore_n (pc := 9) dc_M_use_9 (by decide) ?_
  refine g_aload_n (pc := 10) dc_M_use_10 rfl ?_
  refine g_iconst (pc := 11) (v := 0) dc_M_use_11 rfl ?_
  refine g_putfield (pc := 12) dc_M_use_12 fp_M_use_493 rfl (Nat.le_of_ble_eq_true rfl) rfl rfl ?_
  refine g_iload_n (pc := 15) dc_M_use_15 rfl ?_
  refine g_iretC (pc := 16) dc_M_use_16 rfl ?_
  refine g_istore_n (pc := 4) dc_M_rules_4 (by decide) ?_
  refine g_aload_n (pc := 5) dc_M_rules_5 rfl ?_
  refine g_iload_n (pc := 6) dc_M_rules_6 rfl ?_
  refine g_v1 (pc := 7) (M' := mt_M_readFirst) dc_M_rules_7 mo_M_readFirst im_M_readFirst se_M_readFirst ln_M_508 rfl rfl rfl (Nat.le_of_ble_eq_true rfl) (Nat.le_of_ble_eq_true rfl) ?_
  refine g_aload_n (pc := 0) dc_M_readFirst_0 rfl ?_
  refine g_aload_n (pc := 1) dc_M_readFirst_1 rfl ?_
  refine g_getfield (pc := 2) dc_M_readFirst_2 fl_M_143 rfl rfl ?_
  refine g_iconst (pc := 5) (v := 0) dc_M_readFirst_5 rfl ?_
  refine g_aload_n (pc := 6) dc_M_readFirst_6 rfl ?_
  refine g_getfield (pc := 7) dc_M_readFirst_7 fl_M_143 rfl rfl ?_
  refine g_iconst (pc := 10) (v := 0) dc_M_readFirst_10 rfl ?_
  refine g_iload_n (pc := 11) dc_M_readFirst_11 rfl ?_
  refine g_s3 (pc := 12) (M' := mt_M_lineEnd) dc_M_readFirst_12 mo_M_lineEnd st_M_lineEnd ln_M_455 (Nat.le_of_ble_eq_true rfl) (Nat.le_of_ble_eq_true rfl) ?_
  refine g_aload_n (pc := 0) dc_M_lineEnd_0 rfl ?_
  refine g_iload_n (pc := 1) dc_M_lineEnd_1 rfl ?_
  refine g_iload_n (pc := 2) dc_M_lineEnd_2 rfl ?_
  refine g_bipush (pc := 3) (v := 10) dc_M_lineEnd_3 rfl ?_
  refine g_s4 (pc := 5) (M' := mt_M_seek) dc_M_lineEnd_5 mo_M_seek st_M_seek ln_M_48 (Nat.le_of_ble_eq_true rfl) (Nat.le_of_ble_eq_true rfl) ?_
  refine g_iload_n (pc := 0) dc_M_seek_0 rfl ?_
  refine g_istore (pc := 1) dc_M_seek_1 (by decide) ?_
  refine g_iload (pc := 3) dc_M_seek_3 rfl ?_
  refine g_iload_n (pc := 5) dc_M_seek_5 rfl ?_
  refine g_icmp_ge (pc := 6) (tgt := 23) dc_M_seek_6 rfl (fun _ => ?_) (fun hc => absurd hc (by decide))
  refine g_iload (pc := 23) dc_M_seek_23 rfl ?_
  refine g_iretC (pc := 25) dc_M_seek_25 rfl ?_
  refine g_istore_n (pc := 8) dc_M_lineEnd_8 (by decide) ?_
  refine g_iload_n (pc := 9) dc_M_lineEnd_9 rfl ?_
  refine g_iload_n (pc := 10) dc_M_lineEnd_10 rfl ?_
  refine g_icmp_ge (pc := 11) (tgt := 35) dc_M_lineEnd_11 rfl (fun _ => ?_) (fun hc => absurd hc (by decide))
  refine g_iload_n (pc := 35) dc_M_lineEnd_35 rfl ?_
  refine g_iretC (pc := 36) dc_M_lineEnd_36 rfl ?_
  refine g_iconst (pc := 15) (v := (-1)) dc_M_readFirst_15 rfl ?_
  refine g_v4 (pc := 16) (M' := mt_M_readReference) dc_M_readFirst_16 mo_M_readReference im_M_readReference se_M_readReference ln_M_297 rfl rfl rfl (Nat.le_of_ble_eq_true rfl) (Nat.le_of_ble_eq_true rfl) ?_
  refine g_iload_n (pc := 0) dc_M_readReference_0 rfl ?_
  refine g_istore (pc := 1) dc_M_readReference_1 (by decide) ?_
  refine g_iload_n (pc := 3) dc_M_readReference_3 rfl ?_
  refine g_istore (pc := 4) dc_M_readReference_4 (by decide) ?_
  refine g_iload (pc := 6) dc_M_readReference_6 rfl ?_
  refine g_iload (pc := 8) dc_M_readReference_8 rfl ?_
  refine g_icmp_ge (pc := 10) (tgt := 29) dc_M_readReference_10 rfl (fun _ => ?_) (fun hc => absurd hc (by decide))
  refine g_iload (pc := 29) dc_M_readReference_29 rfl ?_
  refine g_iload (pc := 31) dc_M_readReference_31 rfl ?_
  refine g_icmp_le (pc := 33) (tgt := 54) dc_M_readReference_33 rfl (fun _ => ?_) (fun hc => absurd hc (by decide))
  refine g_aload_n (pc := 54) dc_M_readReference_54 rfl ?_
  refine g_iload (pc := 55) dc_M_readReference_55 rfl ?_
  refine g_iload (pc := 57) dc_M_readReference_57 rfl ?_
  refine g_bipush (pc := 59) (v := 35) dc_M_readReference_59 rfl ?_
  refine g_s4 (pc := 61) (M' := mt_M_seek) dc_M_readReference_61 mo_M_seek st_M_seek ln_M_48 (Nat.le_of_ble_eq_true rfl) (Nat.le_of_ble_eq_true rfl) ?_
  refine g_iload_n (pc := 0) dc_M_seek_0 rfl ?_
  refine g_istore (pc := 1) dc_M_seek_1 (by decide) ?_
  refine g_iload (pc := 3) dc_M_seek_3 rfl ?_
  refine g_iload_n (pc := 5) dc_M_seek_5 rfl ?_
  refine g_icmp_ge (pc := 6) (tgt := 23) dc_M_seek_6 rfl (fun _ => ?_) (fun hc => absurd hc (by decide))
  refine g_iload (pc := 23) dc_M_seek_23 rfl ?_
  refine g_iretC (pc := 25) dc_M_seek_25 rfl ?_
  refine g_istore (pc := 64) dc_M_readReference_64 (by decide) ?_
  refine g_iload (pc := 66) dc_M_readReference_66 rfl ?_
  refine g_istore (pc := 68) dc_M_readReference_68 (by decide) ?_
  refine g_iload (pc := 70) dc_M_readReference_70 rfl ?_
  refine g_iload (pc := 72) dc_M_readReference_72 rfl ?_
  refine g_icmp_ge (pc := 74) (tgt := 96) dc_M_readReference_74 rfl (fun _ => ?_) (fun hc => absurd hc (by decide))
  refine g_aload_n (pc := 96) dc_M_readReference_96 rfl ?_
  refine g_iload (pc := 97) dc_M_readReference_97 rfl ?_
  refine g_iload (pc := 99) dc_M_readReference_99 rfl ?_
  refine g_bipush (pc := 101) (v := 58) dc_M_readReference_101 rfl ?_
  refine g_s4 (pc := 103) (M' := mt_M_seek) dc_M_readReference_103 mo_M_seek st_M_seek ln_M_48 (Nat.le_of_ble_eq_true rfl) (Nat.le_of_ble_eq_true rfl) ?_
  refine g_iload_n (pc := 0) dc_M_seek_0 rfl ?_
  refine g_istore (pc := 1) dc_M_seek_1 (by decide) ?_
  refine g_iload (pc := 3) dc_M_seek_3 rfl ?_
  refine g_iload_n (pc := 5) dc_M_seek_5 rfl ?_
  refine g_icmp_ge (pc := 6) (tgt := 23) dc_M_seek_6 rfl (fun _ => ?_) (fun hc => absurd hc (by decide))
  refine g_iload (pc := 23) dc_M_seek_23 rfl ?_
  refine g_iretC (pc := 25) dc_M_seek_25 rfl ?_
  refine g_istore (pc := 106) dc_M_readReference_106 (by decide) ?_
  refine g_aload_n (pc := 108) dc_M_readReference_108 rfl ?_
  refine g_iload (pc := 109) dc_M_readReference_109 rfl ?_
  refine g_iload (pc := 111) dc_M_readReference_111 rfl ?_
  refine g_bipush (pc := 113) (v := 47) dc_M_readReference_113 rfl ?_
  refine g_s4 (pc := 115) (M' := mt_M_seek) dc_M_readReference_115 mo_M_seek st_M_seek ln_M_48 (Nat.le_of_ble_eq_true rfl) (Nat.le_of_ble_eq_true rfl) ?_
  refine g_iload_n (pc := 0) dc_M_seek_0 rfl ?_
  refine g_istore (pc := 1) dc_M_seek_1 (by decide) ?_
  refine g_iload (pc := 3) dc_M_seek_3 rfl ?_
  refine g_iload_n (pc := 5) dc_M_seek_5 rfl ?_
  refine g_icmp_ge (pc := 6) (tgt := 23) dc_M_seek_6 rfl (fun _ => ?_) (fun hc => absurd hc (by decide))
  refine g_iload (pc := 23) dc_M_seek_23 rfl ?_
  refine g_iretC (pc := 25) dc_M_seek_25 rfl ?_
  refine g_istore (pc := 118) dc_M_readReference_118 (by decide) ?_
  refine g_aload_n (pc := 120) dc_M_readReference_120 rfl ?_
  refine g_iload (pc := 121) dc_M_readReference_121 rfl ?_
  refine g_iload (pc := 123) dc_M_readReference_123 rfl ?_
  refine g_bipush (pc := 125) (v := 63) dc_M_readReference_125 rfl ?_
  refine g_s4 (pc := 127) (M' := mt_M_seek) dc_M_readReference_127 mo_M_seek st_M_seek ln_M_48 (Nat.le_of_ble_eq_true rfl) (Nat.le_of_ble_eq_true rfl) ?_
  refine g_iload_n (pc := 0) dc_M_seek_0 rfl ?_
  refine g_istore (pc := 1) dc_M_seek_1 (by decide) ?_
  refine g_iload (pc := 3) dc_M_seek_3 rfl ?_
  refine g_iload_n (pc := 5) dc_M_seek_5 rfl ?_
  refine g_icmp_ge (pc := 6) (tgt := 23) dc_M_seek_6 rfl (fun _ => ?_) (fun hc => absurd hc (by decide))
  refine g_iload (pc := 23) dc_M_seek_23 rfl ?_
  refine g_iretC (pc := 25) dc_M_seek_25 rfl ?_
  refine g_istore (pc := 130) dc_M_readReference_130 (by decide) ?_
  refine g_iload (pc := 132) dc_M_readReference_132 rfl ?_
  refine g_iload (pc := 134) dc_M_readReference_134 rfl ?_
  refine g_icmp_ge (pc := 136) (tgt := 198) dc_M_readReference_136 rfl (fun _ => ?_) (fun hc => absurd hc (by decide))
  refine g_iload (pc := 198) dc_M_readReference_198 rfl ?_
  refine g_iconst (pc := 200) (v := 1) dc_M_readReference_200 rfl ?_
  refine g_iadd (pc := 201) (v := 1) dc_M_readReference_201 (by decide) ?_
  refine g_iload (pc := 202) dc_M_readReference_202 rfl ?_
  refine g_icmp_ge (pc := 204) (tgt := 307) dc_M_readReference_204 rfl (fun _ => ?_) (fun hc => absurd hc (by decide))
  refine g_iload (pc := 307) dc_M_readReference_307 rfl ?_
  refine g_if_ge (pc := 309) (tgt := 314) dc_M_readReference_309 rfl (fun hc => absurd hc (by decide)) (fun _ => ?_)
  refine g_iconst (pc := 312) (v := 0) dc_M_readReference_312 rfl ?_
  refine g_zretC (pc := 313) dc_M_readReference_313 rfl rfl ?_
  refine g_zretC (pc := 19) dc_M_readFirst_19 rfl rfl ?_
  refine g_if_ne (pc := 10) (tgt := 15) dc_M_rules_10 rfl (fun hc => absurd hc (by decide)) (fun _ => ?_)
  refine g_iconst (pc := 13) (v := (-1)) dc_M_rules_13 rfl ?_
  refine g_iretC (pc := 14) dc_M_rules_14 rfl ?_
  refine g_icmp_eq (pc := 367) (tgt := 873) dc_L_law_367 rfl (fun _ => ?_) (fun hc => absurd hc (by decide))
  refine g_iinc (pc := 873) (v := 6) dc_L_law_873 rfl (by decide) (by decide) ?_
  refine g_goto (pc := 876) (tgt := 23) dc_L_law_876 rfl ?_
  refine g_iload (pc := 23) dc_L_law_23 rfl ?_
  refine g_xload_n (pc := 25) dc_L_law_25 rfl ?_
  refine g_scriptLenV (pc := 26) (n := 6) dc_L_law_26 hL rfl ?_
  refine g_bipush (pc := 27) (v := 6) dc_L_law_27 rfl ?_
  refine g_isub (pc := 29) (v := 0) dc_L_law_29 (by decide) ?_
  refine g_icmp_gt (pc := 30) (tgt := 879) dc_L_law_30 rfl (fun _ => ?_) (fun hc => absurd hc (by decide))
  refine g_iconst (pc := 879) (v := 1) dc_L_law_879 rfl ?_
  exact g_zreturn dc_L_law_880 rfl rfl ⟨rfl, (Nat.le_of_ble_eq_true rfl), (Nat.le_of_ble_eq_true rfl)⟩
set_option maxRecDepth 20000 in
set_option maxHeartbeats 4000000 in
theorem p1_6 {X : am_X} {p0 p1 p2 p3 p4 p5 : Int32} (hl9 : X.1.stackTraces = false) (hL : X.2.2.2.2.2.1 = 6) (e0 : X.2.2.2.2.2.2 (Int32.toNatClampNeg 0) = p0) (e1 : X.2.2.2.2.2.2 (Int32.toNatClampNeg 1) = p1) (e2 : X.2.2.2.2.2.2 (Int32.toNatClampNeg 2) = p2) (e3 : X.2.2.2.2.2.2 (Int32.toNatClampNeg 3) = p3) (e4 : X.2.2.2.2.2.2 (Int32.toNatClampNeg 4) = p4) (e5 : X.2.2.2.2.2.2 (Int32.toNatClampNeg 5) = p5) : am_G X mt_L_law 60 372 lo_0 [] hp_0 (fun r h => r = some (.int 1) ∧ h.length ≤ 601024 ∧ am_sl h ≤ 7293034) := by
  refine g_aload_n (pc := 372) dc_L_law_372 rfl ?_
  refine g_v0 (pc := 373) (M' := mt_W_allowed) dc_L_law_373 mo_W_allowed im_W_allowed se_W_allowed ln_L_56 rfl rfl rfl (Nat.le_of_ble_eq_true rfl) (Nat.le_of_ble_eq_true rfl) ?_
  refine g_aload_n (pc := 0) dc_W_allowed_0 rfl ?_
  refine g_v0 (pc := 1) (M' := mt_W_resolveTape) dc_W_allowed_1 mo_W_resolveTape im_W_resolveTape se_W_resolveTape ln_W_128 rfl rfl rfl (Nat.le_of_ble_eq_true rfl) (Nat.le_of_ble_eq_true rfl) ?_
  refine g_aload_n (pc := 0) dc_W_resolveTape_0 rfl ?_
  refine g_getfield (pc := 1) dc_W_resolveTape_1 fl_W_27 rfl rfl ?_
  refine g_aload_n (pc := 4) dc_W_resolveTape_4 rfl ?_
  refine g_getfield (pc := 5) dc_W_resolveTape_5 fl_W_12 rfl rfl ?_
  refine g_getfield (pc := 8) dc_W_resolveTape_8 fl_W_109 rfl rfl ?_
  refine g_iconst (pc := 11) (v := 0) dc_W_resolveTape_11 rfl ?_
  refine g_aload_n (pc := 12) dc_W_resolveTape_12 rfl ?_
  refine g_getfield (pc := 13) dc_W_resolveTape_13 fl_W_12 rfl rfl ?_
  refine g_getfield (pc := 16) dc_W_resolveTape_16 fl_W_85 rfl rfl ?_
  refine g_null (pc := 19) dc_W_resolveTape_19 ?_
  refine g_v4 (pc := 20) (M' := mt_A_resolve) dc_W_resolveTape_20 mo_A_resolve im_A_resolve se_A_resolve ln_W_117 rfl rfl rfl (Nat.le_of_ble_eq_true rfl) (Nat.le_of_ble_eq_true rfl) ?_
  refine g_aload_n (pc := 0) dc_A_resolve_0 rfl ?_
  refine g_getfield (pc := 1) dc_A_resolve_1 fl_A_14 rfl rfl ?_
  refine g_v0 (pc := 4) (M' := mt_B_clear) dc_A_resolve_4 mo_B_clear im_B_clear se_B_clear ln_A_23 rfl rfl rfl (Nat.le_of_ble_eq_true rfl) (Nat.le_of_ble_eq_true rfl) ?_
  refine g_aload_n (pc := 0) dc_B_clear_0 rfl ?_
  refine g_iconst (pc := 1) (v := 0) dc_B_clear_1 rfl ?_
  refine g_putfield (pc := 2) dc_B_clear_2 fp_B_clear_15 rfl (Nat.le_of_ble_eq_true rfl) rfl rfl ?_
  refine g_vretC (pc := 5) dc_B_clear_5 rfl ?_
  refine g_aload_n (pc := 7) dc_A_resolve_7 rfl ?_
  refine g_getfield (pc := 8) dc_A_resolve_8 fl_A_20 rfl rfl ?_
  refine g_v0 (pc := 11) (M' := mt_B_clear) dc_A_resolve_11 mo_B_clear im_B_clear se_B_clear ln_A_23 rfl rfl rfl (Nat.le_of_ble_eq_true rfl) (Nat.le_of_ble_eq_true rfl) ?_
  refine g_aload_n (pc := 0) dc_B_clear_0 rfl ?_
  refine g_iconst (pc := 1) (v := 0) dc_B_clear_1 rfl ?_
  refine g_putfield (pc := 2) dc_B_clear_2 fp_B_clear_15 rfl (Nat.le_of_ble_eq_true rfl) rfl rfl ?_
  refine g_vretC (pc := 5) dc_B_clear_5 rfl ?_
  refine g_aload_n (pc := 14) dc_A_resolve_14 rfl ?_
  refine g_iload_n (pc := 15) dc_A_resolve_15 rfl ?_
  refine g_iload_n (pc := 16) dc_A_resolve_16 rfl ?_
  refine g_s3 (pc := 17) (M' := mt_W_trimmedFrom) dc_A_resolve_17 mo_W_trimmedFrom st_W_trimmedFrom ln_A_26 (Nat.le_of_ble_eq_true rfl) (Nat.le_of_ble_eq_true rfl) ?_
  refine g_iload_n (pc := 0) dc_W_trimmedFrom_0 rfl ?_
  refine g_istore_n (pc := 1) dc_W_trimmedFrom_1 (by decide) ?_
  refine g_iload_n (pc := 2) dc_W_trimmedFrom_2 rfl ?_
  refine g_iload_n (pc := 3) dc_W_trimmedFrom_3 rfl ?_
  refine g_icmp_ge (pc := 4) (tgt := 22) dc_W_trimmedFrom_4 rfl (fun _ => ?_) (fun hc => absurd hc (by decide))
  refine g_iload_n (pc := 22) dc_W_trimmedFrom_22 rfl ?_
  refine g_iretC (pc := 23) dc_W_trimmedFrom_23 rfl ?_
  refine g_istore (pc := 20) dc_A_resolve_20 (by decide) ?_
  refine g_aload_n (pc := 22) dc_A_resolve_22 rfl ?_
  refine g_bipush (pc := 23) (v := 35) dc_A_resolve_23 rfl ?_
  refine g_iload (pc := 25) dc_A_resolve_25 rfl ?_
  refine g_aload_n (pc := 27) dc_A_resolve_27 rfl ?_
  refine g_iload (pc := 28) dc_A_resolve_28 rfl ?_
  refine g_iload_n (pc := 30) dc_A_resolve_30 rfl ?_
  refine g_s3 (pc := 31) (M' := mt_W_trimmedTo) dc_A_resolve_31 mo_W_trimmedTo st_W_trimmedTo ln_A_30 (Nat.le_of_ble_eq_true rfl) (Nat.le_of_ble_eq_true rfl) ?_
  refine g_iload_n (pc := 0) dc_W_trimmedTo_0 rfl ?_
  refine g_istore_n (pc := 1) dc_W_trimmedTo_1 (by decide) ?_
  refine g_iload_n (pc := 2) dc_W_trimmedTo_2 rfl ?_
  refine g_iload_n (pc := 3) dc_W_trimmedTo_3 rfl ?_
  refine g_icmp_le (pc := 4) (tgt := 24) dc_W_trimmedTo_4 rfl (fun _ => ?_) (fun hc => absurd hc (by decide))
  refine g_iload_n (pc := 24) dc_W_trimmedTo_24 rfl ?_
  refine g_iretC (pc := 25) dc_W_trimmedTo_25 rfl ?_
  refine g_s4 (pc := 34) (M' := mt_W_indexOf) dc_A_resolve_34 mo_W_indexOf st_W_indexOf ln_A_33 (Nat.le_of_ble_eq_true rfl) (Nat.le_of_ble_eq_true rfl) ?_
  refine g_iload_n (pc := 0) dc_W_indexOf_0 rfl ?_
  refine g_istore (pc := 1) dc_W_indexOf_1 (by decide) ?_
  refine g_iload (pc := 3) dc_W_indexOf_3 rfl ?_
  refine g_iload_n (pc := 5) dc_W_indexOf_5 rfl ?_
  refine g_icmp_ge (pc := 6) (tgt := 23) dc_W_indexOf_6 rfl (fun _ => ?_) (fun hc => absurd hc (by decide))
  refine g_iload (pc := 23) dc_W_indexOf_23 rfl ?_
  refine g_iretC (pc := 25) dc_W_indexOf_25 rfl ?_
  refine g_istore (pc := 37) dc_A_resolve_37 (by decide) ?_
  refine g_aload_n (pc := 39) dc_A_resolve_39 rfl ?_
  refine g_iload (pc := 40) dc_A_resolve_40 rfl ?_
  refine g_iload (pc := 42) dc_A_resolve_42 rfl ?_
  refine g_s3 (pc := 44) (M' := mt_A_isClean) dc_A_resolve_44 mo_A_isClean st_A_isClean ln_A_37 (Nat.le_of_ble_eq_true rfl) (Nat.le_of_ble_eq_true rfl) ?_
  refine g_iload_n (pc := 0) dc_A_isClean_0 rfl ?_
  refine g_istore_n (pc := 1) dc_A_isClean_1 (by decide) ?_
  refine g_iload_n (pc := 2) dc_A_isClean_2 rfl ?_
  refine g_iload_n (pc := 3) dc_A_isClean_3 rfl ?_
  refine g_icmp_ge (pc := 4) (tgt := 64) dc_A_isClean_4 rfl (fun _ => ?_) (fun hc => absurd hc (by decide))
  refine g_iconst (pc := 64) (v := 1) dc_A_isClean_64 rfl ?_
  refine g_zretC (pc := 65) dc_A_isClean_65 rfl rfl ?_
  refine g_if_ne (pc := 47) (tgt := 52) dc_A_resolve_47 rfl (fun _ => ?_) (fun hc => absurd hc (by decide))
  refine g_aload_n (pc := 52) dc_A_resolve_52 rfl ?_
  refine g_bipush (pc := 53) (v := 58) dc_A_resolve_53 rfl ?_
  refine g_iload (pc := 55) dc_A_resolve_55 rfl ?_
  refine g_iload (pc := 57) dc_A_resolve_57 rfl ?_
  refine g_s4 (pc := 59) (M' := mt_W_indexOf) dc_A_resolve_59 mo_W_indexOf st_W_indexOf ln_A_33 (Nat.le_of_ble_eq_true rfl) (Nat.le_of_ble_eq_true rfl) ?_
  refine g_iload_n (pc := 0) dc_W_indexOf_0 rfl ?_
  refine g_istore (pc := 1) dc_W_indexOf_1 (by decide) ?_
  refine g_iload (pc := 3) dc_W_indexOf_3 rfl ?_
  refine g_iload_n (pc := 5) dc_W_indexOf_5 rfl ?_
  refine g_icmp_ge (pc := 6) (tgt := 23) dc_W_indexOf_6 rfl (fun _ => ?_) (fun hc => absurd hc (by decide))
  refine g_iload (pc := 23) dc_W_indexOf_23 rfl ?_
  refine g_iretC (pc := 25) dc_W_indexOf_25 rfl ?_
  refine g_istore (pc := 62) dc_A_resolve_62 (by decide) ?_
  refine g_iload (pc := 64) dc_A_resolve_64 rfl ?_
  refine g_aload_n (pc := 66) dc_A_resolve_66 rfl ?_
  refine g_bipush (pc := 67) (v := 47) dc_A_resolve_67 rfl ?_
  refine g_iload (pc := 69) dc_A_resolve_69 rfl ?_
  refine g_iload (pc := 71) dc_A_resolve_71 rfl ?_
  refine g_s4 (pc := 73) (M' := mt_W_indexOf) dc_A_resolve_73 mo_W_indexOf st_W_indexOf ln_A_33 (Nat.le_of_ble_eq_true rfl) (Nat.le_of_ble_eq_true rfl) ?_
  refine g_iload_n (pc := 0) dc_W_indexOf_0 rfl ?_
  refine g_istore (pc := 1) dc_W_indexOf_1 (by decide) ?_
  refine g_iload (pc := 3) dc_W_indexOf_3 rfl ?_
  refine g_iload_n (pc := 5) dc_W_indexOf_5 rfl ?_
  refine g_icmp_ge (pc := 6) (tgt := 23) dc_W_indexOf_6 rfl (fun _ => ?_) (fun hc => absurd hc (by decide))
  refine g_iload (pc := 23) dc_W_indexOf_23 rfl ?_
  refine g_iretC (pc := 25) dc_W_indexOf_25 rfl ?_
  refine g_aload_n (pc := 76) dc_A_resolve_76 rfl ?_
  refine g_bipush (pc := 77) (v := 63) dc_A_resolve_77 rfl ?_
  refine g_iload (pc := 79) dc_A_resolve_79 rfl ?_
  refine g_iload (pc := 81) dc_A_resolve_81 rfl ?_
  refine g_s4 (pc := 83) (M' := mt_W_indexOf) dc_A_resolve_83 mo_W_indexOf st_W_indexOf ln_A_33 (Nat.le_of_ble_eq_true rfl) (Nat.le_of_ble_eq_true rfl) ?_
  refine g_iload_n (pc := 0) dc_W_indexOf_0 rfl ?_
  refine g_istore (pc := 1) dc_W_indexOf_1 (by decide) ?_
  refine g_iload (pc := 3) dc_W_indexOf_3 rfl ?_
  refine g_iload_n (pc := 5) dc_W_indexOf_5 rfl ?_
  refine g_icmp_ge (pc := 6) (tgt := 23) dc_W_indexOf_6 rfl (fun _ => ?_) (fun hc => absurd hc (by decide))
  refine g_iload (pc := 23) dc_W_indexOf_23 rfl ?_
  refine g_iretC (pc := 25) dc_W_indexOf_25 rfl ?_
  refine g_s2 (pc := 86) (M' := mt_JMath_min) dc_A_resolve_86 mo_JMath_min st_JMath_min ln_A_41 (Nat.le_of_ble_eq_true rfl) (Nat.le_of_ble_eq_true rfl) ?_
  refine g_iload_n (pc := 0) dc_JMath_min_0 rfl ?_
  refine g_iload_n (pc := 1) dc_JMath_min_1 rfl ?_
  refine g_icmp_gt (pc := 2) (tgt := 9) dc_JMath_min_2 rfl (fun hc => absurd hc (by decide)) (fun _ => ?_)
  refine g_iload_n (pc := 5) dc_JMath_min_5 rfl ?_
  refine g_goto (pc := 6) (tgt := 10) dc_JMath_min_6 rfl ?_
  refine g_iretC (pc := 10) dc_JMath_min_10 rfl ?_
  refine g_icmp_ge (pc := 89) (tgt := 128) dc_A_resolve_89 rfl (fun _ => ?_) (fun hc => absurd hc (by decide))
  refine g_aload_n (pc := 128) dc_A_resolve_128 rfl ?_
  refine g_iload (pc := 129) dc_A_resolve_129 rfl ?_
  refine g_iload (pc := 131) dc_A_resolve_131 rfl ?_
  refine g_ldcS (pc := 133) 2 dc_A_resolve_133 (by decide) rfl rfl ?_
  refine g_s4 (pc := 135) (M' := mt_W_beginsWith) dc_A_resolve_135 mo_W_beginsWith st_W_beginsWith ln_A_55 (Nat.le_of_ble_eq_true rfl) (Nat.le_of_ble_eq_true rfl) ?_
  refine g_iload_n (pc := 0) dc_W_beginsWith_0 rfl ?_
  refine g_xload_n (pc := 1) dc_W_beginsWith_1 rfl ?_
  refine g_x0 (pc := 2) (M' := mt_JString_length) dc_W_beginsWith_2 mo_JString_length im_JString_length se_JString_length (am_t3 75 rfl rfl) (by decide) (Nat.le_of_ble_eq_true rfl) (Nat.le_of_ble_eq_true rfl) ?_
  refine g_xload_n (pc := 0) dc_JString_length_0 rfl ?_
  refine g_sValue (pc := 1) dc_JString_length_1 (by decide) (am_t4 204 rfl rfl) ?_
  refine g_sLen (pc := 4) (n := 2) dc_JString_length_4 (by decide) rfl ?_
  refine g_xload_n (pc := 5) dc_JString_length_5 rfl ?_
  refine g_x0 (pc := 6) (M' := mt_JString_coder) dc_JString_length_6 mo_JString_coder im_JString_coder se_JString_coder (am_t2 236 rfl rfl) (by decide) (Nat.le_of_ble_eq_true rfl) (Nat.le_of_ble_eq_true rfl) ?_
  refine g_gsCompact (pc := 0) dc_JString_coder_0 (am_t2 230 rfl rfl) ?_
  refine g_if_eq (pc := 3) (tgt := 13) dc_JString_coder_3 rfl (fun hc => absurd hc (by decide)) (fun _ => ?_)
  refine g_xload_n (pc := 6) dc_JString_coder_6 rfl ?_
  refine g_sCoder (pc := 7) dc_JString_coder_7 (by decide) (am_t4 205 rfl rfl) ?_
  refine g_goto (pc := 10) (tgt := 14) dc_JString_coder_10 rfl ?_
  refine g_bretC (pc := 14) dc_JString_coder_14 rfl rfl ?_
  refine g_ishr (pc := 9) (v := 2) dc_JString_length_9 (by decide) ?_
  refine g_iretC (pc := 10) dc_JString_length_10 rfl ?_
  refine g_iadd (pc := 5) (v := 2) dc_W_beginsWith_5 (by decide) ?_
  refine g_istore (pc := 6) dc_W_beginsWith_6 (by decide) ?_
  refine g_iload (pc := 8) dc_W_beginsWith_8 rfl ?_
  refine g_iload_n (pc := 10) dc_W_beginsWith_10 rfl ?_
  refine g_icmp_gt (pc := 11) (tgt := 29) dc_W_beginsWith_11 rfl (fun _ => ?_) (fun hc => absurd hc (by decide))
  refine g_iconst (pc := 29) (v := 0) dc_W_beginsWith_29 rfl ?_
  refine g_zretC (pc := 30) dc_W_beginsWith_30 rfl rfl ?_
  refine g_if_eq (pc := 138) (tgt := 155) dc_A_resolve_138 rfl (fun _ => ?_) (fun hc => absurd hc (by decide))
  refine g_aload_n (pc := 155) dc_A_resolve_155 rfl ?_
  refine g_aload_n (pc := 156) dc_A_resolve_156 rfl ?_
  refine g_iload (pc := 157) dc_A_resolve_157 rfl ?_
  refine g_iload (pc := 159) dc_A_resolve_159 rfl ?_
  refine g_aloadN (pc := 161) dc_A_resolve_161 rfl ?_
  refine g_v4 (pc := 163) (M' := mt_A_joinBase) dc_A_resolve_163 mo_A_joinBase im_A_joinBase se_A_joinBase ln_A_61 rfl rfl rfl (Nat.le_of_ble_eq_true rfl) (Nat.le_of_ble_eq_true rfl) ?_
  refine g_aloadN (pc := 0) dc_A_joinBase_0 rfl ?_
  refine g_ifnullN (pc := 2) (tgt := 13) dc_A_joinBase_2 rfl ?_
  refine g_iconst (pc := 13) (v := (-1)) dc_A_joinBase_13 rfl ?_
  refine g_iretC (pc := 14) dc_A_joinBase_14 rfl ?_
  refine g_istore (pc := 166) dc_A_resolve_166 (by decide) ?_
  refine g_iload (pc := 168) dc_A_resolve_168 rfl ?_
  refine g_iconst (pc := 170) (v := (-1)) dc_A_resolve_170 rfl ?_
  refine g_icmp_ne (pc := 171) (tgt := 176) dc_A_resolve_171 rfl (fun hc => absurd hc (by decide)) (fun _ => ?_)
  refine g_iconst (pc := 174) (v := 0) dc_A_resolve_174 rfl ?_
  refine g_zretC (pc := 175) dc_A_resolve_175 rfl rfl ?_
  refine g_istore_n (pc := 23) dc_W_resolveTape_23 (by decide) ?_
  refine g_aload_n (pc := 24) dc_W_resolveTape_24 rfl ?_
  refine g_getfield (pc := 25) dc_W_resolveTape_25 fl_W_12 rfl rfl ?_
  refine g_v0 (pc := 28) (M' := mt_B_clear) dc_W_resolveTape_28 mo_B_clear im_B_clear se_B_clear ln_W_121 rfl rfl rfl (Nat.le_of_ble_eq_true rfl) (Nat.le_of_ble_eq_true rfl) ?_
  refine g_aload_n (pc := 0) dc_B_clear_0 rfl ?_
  refine g_iconst (pc := 1) (v := 0) dc_B_clear_1 rfl ?_
  refine g_putfield (pc := 2) dc_B_clear_2 fp_B_clear_15 rfl (Nat.le_of_ble_eq_true rfl) rfl rfl ?_
  refine g_vretC (pc := 5) dc_B_clear_5 rfl ?_
  refine g_iload_n (pc := 31) dc_W_resolveTape_31 rfl ?_
  refine g_zretC (pc := 32) dc_W_resolveTape_32 rfl rfl ?_
  refine g_if_ne (pc := 4) (tgt := 9) dc_W_allowed_4 rfl (fun hc => absurd hc (by decide)) (fun _ => ?_)
  refine g_iconst (pc := 7) (v := (-1)) dc_W_allowed_7 rfl ?_
  refine g_iretC (pc := 8) dc_W_allowed_8 rfl ?_
  refine g_aload_n (pc := 376) dc_L_law_376 rfl ?_
  refine g_v0 (pc := 377) (M' := mt_M_allowed) dc_L_law_377 mo_M_allowed im_M_allowed se_M_allowed ln_L_59 rfl rfl rfl (Nat.le_of_ble_eq_true rfl) (Nat.le_of_ble_eq_true rfl) ?_
  refine g_aload_n (pc := 0) dc_M_allowed_0 rfl ?_
  refine g_v0 (pc := 1) (M' := mt_M_use) dc_M_allowed_1 mo_M_use im_M_use se_M_use ln_M_505 rfl rfl rfl (Nat.le_of_ble_eq_true rfl) (Nat.le_of_ble_eq_true rfl) ?_
  refine g_aload_n (pc := 0) dc_M_use_0 rfl ?_
  refine g_iconst (pc := 1) (v := 0) dc_M_use_1 rfl ?_
  refine g_putfield (pc := 2) dc_M_use_2 fp_M_use_1 rfl (Nat.le_of_ble_eq_true rfl) rfl rfl ?_
  refine g_aload_n (pc := 5) dc_M_use_5 rfl ?_
  refine g_getfield (pc := 6) dc_M_use_6 fl_M_493 rfl rfl ?_
  refine g_istore_n (pc := 9) dc_M_use_9 (by decide) ?_
  refine g_aload_n (pc := 10) dc_M_use_10 rfl ?_
  refine g_iconst (pc := 11) (v := 0) dc_M_use_11 rfl ?_
  refine g_putfield (pc := 12) dc_M_use_12 fp_M_use_493 rfl (Nat.le_of_ble_eq_true rfl) rfl rfl ?_
  refine g_iload_n (pc := 15) dc_M_use_15 rfl ?_
  refine g_iretC (pc := 16) dc_M_use_16 rfl ?_
  refine g_istore_n (pc := 4) dc_M_allowed_4 (by decide) ?_
  refine g_aload_n (pc := 5) dc_M_allowed_5 rfl ?_
  refine g_aload_n (pc := 6) dc_M_allowed_6 rfl ?_
  refine g_getfield (pc := 7) dc_M_allowed_7 fl_M_143 rfl rfl ?_
  refine g_iconst (pc := 10) (v := 0) dc_M_allowed_10 rfl ?_
  refine g_iload_n (pc := 11) dc_M_allowed_11 rfl ?_
  refine g_iconst (pc := 12) (v := (-1)) dc_M_allowed_12 rfl ?_
  refine g_v4 (pc := 13) (M' := mt_M_readReference) dc_M_allowed_13 mo_M_readReference im_M_readReference se_M_readReference ln_M_297 rfl rfl rfl (Nat.le_of_ble_eq_true rfl) (Nat.le_of_ble_eq_true rfl) ?_
  refine g_iload_n (pc := 0) dc_M_readReference_0 rfl ?_
  refine g_istore (pc := 1) dc_M_readReference_1 (by decide) ?_
  refine g_iload_n (pc := 3) dc_M_readReference_3 rfl ?_
  refine g_istore (pc := 4) dc_M_readReference_4 (by decide) ?_
  refine g_iload (pc := 6) dc_M_readReference_6 rfl ?_
  refine g_iload (pc := 8) dc_M_readReference_8 rfl ?_
  refine g_icmp_ge (pc := 10) (tgt := 29) dc_M_readReference_10 rfl (fun _ => ?_) (fun hc => absurd hc (by decide))
  refine g_iload (pc := 29) dc_M_readReference_29 rfl ?_
  refine g_iload (pc := 31) dc_M_readReference_31 rfl ?_
  refine g_icmp_le (pc := 33) (tgt := 54) dc_M_readReference_33 rfl (fun _ => ?_) (fun hc => absurd hc (by decide))
  refine g_aload_n (pc := 54) dc_M_readReference_54 rfl ?_
  refine g_iload (pc := 55) dc_M_readReference_55 rfl ?_
  refine g_iload (pc := 57) dc_M_readReference_57 rfl ?_
  refine g_bipush (pc := 59) (v := 35) dc_M_readReference_59 rfl ?_
  refine g_s4 (pc := 61) (M' := mt_M_seek) dc_M_readReference_61 mo_M_seek st_M_seek ln_M_48 (Nat.le_of_ble_eq_true rfl) (Nat.le_of_ble_eq_true rfl) ?_
  refine g_iload_n (pc := 0) dc_M_seek_0 rfl ?_
  refine g_istore (pc := 1) dc_M_seek_1 (by decide) ?_
  refine g_iload (pc := 3) dc_M_seek_3 rfl ?_
  refine g_iload_n (pc := 5) dc_M_seek_5 rfl ?_
  refine g_icmp_ge (pc := 6) (tgt := 23) dc_M_seek_6 rfl (fun _ => ?_) (fun hc => absurd hc (by decide))
  refine g_iload (pc := 23) dc_M_seek_23 rfl ?_
  refine g_iretC (pc := 25) dc_M_seek_25 rfl ?_
  refine g_istore (pc := 64) dc_M_readReference_64 (by decide) ?_
  refine g_iload (pc := 66) dc_M_readReference_66 rfl ?_
  refine g_istore (pc := 68) dc_M_readReference_68 (by decide) ?_
  refine g_iload (pc := 70) dc_M_readReference_70 rfl ?_
  refine g_iload (pc := 72) dc_M_readReference_72 rfl ?_
  refine g_icmp_ge (pc := 74) (tgt := 96) dc_M_readReference_74 rfl (fun _ => ?_) (fun hc => absurd hc (by decide))
  refine g_aload_n (pc := 96) dc_M_readReference_96 rfl ?_
  refine g_iload (pc := 97) dc_M_readReference_97 rfl ?_
  refine g_iload (pc := 99) dc_M_readReference_99 rfl ?_
  refine g_bipush (pc := 101) (v := 58) dc_M_readReference_101 rfl ?_
  refine g_s4 (pc := 103) (M' := mt_M_seek) dc_M_readReference_103 mo_M_seek st_M_seek ln_M_48 (Nat.le_of_ble_eq_true rfl) (Nat.le_of_ble_eq_true rfl) ?_
  refine g_iload_n (pc := 0) dc_M_seek_0 rfl ?_
  refine g_istore (pc := 1) dc_M_seek_1 (by decide) ?_
  refine g_iload (pc := 3) dc_M_seek_3 rfl ?_
  refine g_iload_n (pc := 5) dc_M_seek_5 rfl ?_
  refine g_icmp_ge (pc := 6) (tgt := 23) dc_M_seek_6 rfl (fun _ => ?_) (fun hc => absurd hc (by decide))
  refine g_iload (pc := 23) dc_M_seek_23 rfl ?_
  refine g_iretC (pc := 25) dc_M_seek_25 rfl ?_
  refine g_istore (pc := 106) dc_M_readReference_106 (by decide) ?_
  refine g_aload_n (pc := 108) dc_M_readReference_108 rfl ?_
  refine g_iload (pc := 109) dc_M_readReference_109 rfl ?_
  refine g_iload (pc := 111) dc_M_readReference_111 rfl ?_
  refine g_bipush (pc := 113) (v := 47) dc_M_readReference_113 rfl ?_
  refine g_s4 (pc := 115) (M' := mt_M_seek) dc_M_readReference_115 mo_M_seek st_M_seek ln_M_48 (Nat.le_of_ble_eq_true rfl) (Nat.le_of_ble_eq_true rfl) ?_
  refine g_iload_n (pc := 0) dc_M_seek_0 rfl ?_
  refine g_istore (pc := 1) dc_M_seek_1 (by decide) ?_
  refine g_iload (pc := 3) dc_M_seek_3 rfl ?_
  refine g_iload_n (pc := 5) dc_M_seek_5 rfl ?_
  refine g_icmp_ge (pc := 6) (tgt := 23) dc_M_seek_6 rfl (fun _ => ?_) (fun hc => absurd hc (by decide))
  refine g_iload (pc := 23) dc_M_seek_23 rfl ?_
  refine g_iretC (pc := 25) dc_M_seek_25 rfl ?_
  refine g_istore (pc := 118) dc_M_readReference_118 (by decide) ?_
  refine g_aload_n (pc := 120) dc_M_readReference_120 rfl ?_
  refine g_iload (pc := 121) dc_M_readReference_121 rfl ?_
  refine g_iload (pc := 123) dc_M_readReference_123 rfl ?_
  refine g_bipush (pc := 125) (v := 63) dc_M_readReference_125 rfl ?_
  refine g_s4 (pc := 127) (M' := mt_M_seek) dc_M_readReference_127 mo_M_seek st_M_seek ln_M_48 (Nat.le_of_ble_eq_true rfl) (Nat.le_of_ble_eq_true rfl) ?_
  refine g_iload_n (pc := 0) dc_M_seek_0 rfl ?_
  refine g_istore (pc := 1) dc_M_seek_1 (by decide) ?_
  refine g_iload (pc := 3) dc_M_seek_3 rfl ?_
  refine g_iload_n (pc := 5) dc_M_seek_5 rfl ?_
  refine g_icmp_ge (pc := 6) (tgt := 23) dc_M_seek_6 rfl (fun _ => ?_) (fun hc => absurd hc (by decide))
  refine g_iload (pc := 23) dc_M_seek_23 rfl ?_
  refine g_iretC (pc := 25) dc_M_seek_25 rfl ?_
  refine g_istore (pc := 130) dc_M_readReference_130 (by decide) ?_
  refine g_iload (pc := 132) dc_M_readReference_132 rfl ?_
  refine g_iload (pc := 134) dc_M_readReference_134 rfl ?_
  refine g_icmp_ge (pc := 136) (tgt := 198) dc_M_readReference_136 rfl (fun _ => ?_) (fun hc => absurd hc (by decide))
  refine g_iload (pc := 198) dc_M_readReference_198 rfl ?_
  refine g_iconst (pc := 200) (v := 1) dc_M_readReference_200 rfl ?_
  refine g_iadd (pc := 201) (v := 1) dc_M_readReference_201 (by decide) ?_
  refine g_iload (pc := 202) dc_M_readReference_202 rfl ?_
  refine g_icmp_ge (pc := 204) (tgt := 307) dc_M_readReference_204 rfl (fun _ => ?_) (fun hc => absurd hc (by decide))
  refine g_iload (pc := 307) dc_M_readReference_307 rfl ?_
  refine g_if_ge (pc := 309) (tgt := 314) dc_M_readReference_309 rfl (fun hc => absurd hc (by decide)) (fun _ => ?_)
  refine g_iconst (pc := 312) (v := 0) dc_M_readReference_312 rfl ?_
  refine g_zretC (pc := 313) dc_M_readReference_313 rfl rfl ?_
  refine g_if_ne (pc := 16) (tgt := 21) dc_M_allowed_16 rfl (fun hc => absurd hc (by decide)) (fun _ => ?_)
  refine g_iconst (pc := 19) (v := (-1)) dc_M_allowed_19 rfl ?_
  refine g_iretC (pc := 20) dc_M_allowed_20 rfl ?_
  refine g_icmp_eq (pc := 380) (tgt := 873) dc_L_law_380 rfl (fun _ => ?_) (fun hc => absurd hc (by decide))
  refine g_iinc (pc := 873) (v := 6) dc_L_law_873 rfl (by decide) (by decide) ?_
  refine g_goto (pc := 876) (tgt := 23) dc_L_law_876 rfl ?_
  refine g_iload (pc := 23) dc_L_law_23 rfl ?_
  refine g_xload_n (pc := 25) dc_L_law_25 rfl ?_
  refine g_scriptLenV (pc := 26) (n := 6) dc_L_law_26 hL rfl ?_
  refine g_bipush (pc := 27) (v := 6) dc_L_law_27 rfl ?_
  refine g_isub (pc := 29) (v := 0) dc_L_law_29 (by decide) ?_
  refine g_icmp_gt (pc := 30) (tgt := 879) dc_L_law_30 rfl (fun _ => ?_) (fun hc => absurd hc (by decide))
  refine g_iconst (pc := 879) (v := 1) dc_L_law_879 rfl ?_
  exact g_zreturn dc_L_law_880 rfl rfl ⟨rfl, (Nat.le_of_ble_eq_true rfl), (Nat.le_of_ble_eq_true rfl)⟩
set_option maxRecDepth 20000 in
set_option maxHeartbeats 4000000 in
theorem p1_7 {X : am_X} {p0 p1 p2 p3 p4 p5 : Int32} (hl9 : X.1.stackTraces = false) (hL : X.2.2.2.2.2.1 = 6) (e0 : X.2.2.2.2.2.2 (Int32.toNatClampNeg 0) = p0) (e1 : X.2.2.2.2.2.2 (Int32.toNatClampNeg 1) = p1) (e2 : X.2.2.2.2.2.2 (Int32.toNatClampNeg 2) = p2) (e3 : X.2.2.2.2.2.2 (Int32.toNatClampNeg 3) = p3) (e4 : X.2.2.2.2.2.2 (Int32.toNatClampNeg 4) = p4) (e5 : X.2.2.2.2.2.2 (Int32.toNatClampNeg 5) = p5) : am_G X mt_L_law 60 385 lo_0 [] hp_0 (fun r h => r = some (.int 1) ∧ h.length ≤ 601024 ∧ am_sl h ≤ 7293034) := by
  refine g_aload_n (pc := 385) dc_L_law_385 rfl ?_
  refine g_xload_n (pc := 386) dc_L_law_386 rfl ?_
  refine g_iload (pc := 387) dc_L_law_387 rfl ?_
  refine g_iconst (pc := 389) (v := 1) dc_L_law_389 rfl ?_
  refine g_iadd (pc := 390) (v := 1) dc_L_law_390 (by decide) ?_
  refine g_scriptLoadV (pc := 391) dc_L_law_391 (by rw [hL]; exact am_vin rfl) e1 ?_
  refine g_v1 (pc := 392) (M' := mt_W_look) dc_L_law_392 mo_W_look im_W_look se_W_look ln_L_60 rfl rfl rfl (Nat.le_of_ble_eq_true rfl) (Nat.le_of_ble_eq_true rfl) ?_
  refine g_aload_n (pc := 0) dc_W_look_0 rfl ?_
  refine g_v0 (pc := 1) (M' := mt_W_resolveLine) dc_W_look_1 mo_W_resolveLine im_W_resolveLine se_W_resolveLine ln_W_98 rfl rfl rfl (Nat.le_of_ble_eq_true rfl) (Nat.le_of_ble_eq_true rfl) ?_
  refine g_aload_n (pc := 0) dc_W_resolveLine_0 rfl ?_
  refine g_getfield (pc := 1) dc_W_resolveLine_1 fl_W_27 rfl rfl ?_
  refine g_aload_n (pc := 4) dc_W_resolveLine_4 rfl ?_
  refine g_getfield (pc := 5) dc_W_resolveLine_5 fl_W_12 rfl rfl ?_
  refine g_getfield (pc := 8) dc_W_resolveLine_8 fl_W_109 rfl rfl ?_
  refine g_iconst (pc := 11) (v := 0) dc_W_resolveLine_11 rfl ?_
  refine g_aload_n (pc := 12) dc_W_resolveLine_12 rfl ?_
  refine g_v0 (pc := 13) (M' := mt_W_lineTo) dc_W_resolveLine_13 mo_W_lineTo im_W_lineTo se_W_lineTo ln_W_286 rfl rfl rfl (Nat.le_of_ble_eq_true rfl) (Nat.le_of_ble_eq_true rfl) ?_
  refine g_aload_n (pc := 0) dc_W_lineTo_0 rfl ?_
  refine g_getfield (pc := 1) dc_W_lineTo_1 fl_W_12 rfl rfl ?_
  refine g_getfield (pc := 4) dc_W_lineTo_4 fl_W_109 rfl rfl ?_
  refine g_bipush (pc := 7) (v := 10) dc_W_lineTo_7 rfl ?_
  refine g_iconst (pc := 9) (v := 0) dc_W_lineTo_9 rfl ?_
  refine g_aload_n (pc := 10) dc_W_lineTo_10 rfl ?_
  refine g_getfield (pc := 11) dc_W_lineTo_11 fl_W_12 rfl rfl ?_
  refine g_getfield (pc := 14) dc_W_lineTo_14 fl_W_85 rfl rfl ?_
  refine g_s4 (pc := 17) (M' := mt_W_indexOf) dc_W_lineTo_17 mo_W_indexOf st_W_indexOf ln_W_282 (Nat.le_of_ble_eq_true rfl) (Nat.le_of_ble_eq_true rfl) ?_
  refine g_iload_n (pc := 0) dc_W_indexOf_0 rfl ?_
  refine g_istore (pc := 1) dc_W_indexOf_1 (by decide) ?_
  refine g_iload (pc := 3) dc_W_indexOf_3 rfl ?_
  refine g_iload_n (pc := 5) dc_W_indexOf_5 rfl ?_
  refine g_icmp_ge (pc := 6) (tgt := 23) dc_W_indexOf_6 rfl (fun _ => ?_) (fun hc => absurd hc (by decide))
  refine g_iload (pc := 23) dc_W_indexOf_23 rfl ?_
  refine g_iretC (pc := 25) dc_W_indexOf_25 rfl ?_
  refine g_iretC (pc := 20) dc_W_lineTo_20 rfl ?_
  refine g_null (pc := 16) dc_W_resolveLine_16 ?_
  refine g_v4 (pc := 17) (M' := mt_A_resolve) dc_W_resolveLine_17 mo_A_resolve im_A_resolve se_A_resolve ln_W_117 rfl rfl rfl (Nat.le_of_ble_eq_true rfl) (Nat.le_of_ble_eq_true rfl) ?_
  refine g_aload_n (pc := 0) dc_A_resolve_0 rfl ?_
  refine g_getfield (pc := 1) dc_A_resolve_1 fl_A_14 rfl rfl ?_
  refine g_v0 (pc := 4) (M' := mt_B_clear) dc_A_resolve_4 mo_B_clear im_B_clear se_B_clear ln_A_23 rfl rfl rfl (Nat.le_of_ble_eq_true rfl) (Nat.le_of_ble_eq_true rfl) ?_
  refine g_aload_n (pc := 0) dc_B_clear_0 rfl ?_
  refine g_iconst (pc := 1) (v := 0) dc_B_clear_1 rfl ?_
  refine g_putfield (pc := 2) dc_B_clear_2 fp_B_clear_15 rfl (Nat.le_of_ble_eq_true rfl) rfl rfl ?_
  refine g_vretC (pc := 5) dc_B_clear_5 rfl ?_
  refine g_aload_n (pc := 7) dc_A_resolve_7 rfl ?_
  refine g_getfield (pc := 8) dc_A_resolve_8 fl_A_20 rfl rfl ?_
  refine g_v0 (pc := 11) (M' := mt_B_clear) dc_A_resolve_11 mo_B_clear im_B_clear se_B_clear ln_A_23 rfl rfl rfl (Nat.le_of_ble_eq_true rfl) (Nat.le_of_ble_eq_true rfl) ?_
  refine g_aload_n (pc := 0) dc_B_clear_0 rfl ?_
  refine g_iconst (pc := 1) (v := 0) dc_B_clear_1 rfl ?_
  refine g_putfield (pc := 2) dc_B_clear_2 fp_B_clear_15 rfl (Nat.le_of_ble_eq_true rfl) rfl rfl ?_
  refine g_vretC (pc := 5) dc_B_clear_5 rfl ?_
  refine g_aload_n (pc := 14) dc_A_resolve_14 rfl ?_
  refine g_iload_n (pc := 15) dc_A_resolve_15 rfl ?_
  refine g_iload_n (pc := 16) dc_A_resolve_16 rfl ?_
  refine g_s3 (pc := 17) (M' := mt_W_trimmedFrom) dc_A_resolve_17 mo_W_trimmedFrom st_W_trimmedFrom ln_A_26 (Nat.le_of_ble_eq_true rfl) (Nat.le_of_ble_eq_true rfl) ?_
  refine g_iload_n (pc := 0) dc_W_trimmedFrom_0 rfl ?_
  refine g_istore_n (pc := 1) dc_W_trimmedFrom_1 (by decide) ?_
  refine g_iload_n (pc := 2) dc_W_trimmedFrom_2 rfl ?_
  refine g_iload_n (pc := 3) dc_W_trimmedFrom_3 rfl ?_
  refine g_icmp_ge (pc := 4) (tgt := 22) dc_W_trimmedFrom_4 rfl (fun _ => ?_) (fun hc => absurd hc (by decide))
  refine g_iload_n (pc := 22) dc_W_trimmedFrom_22 rfl ?_
  refine g_iretC (pc := 23) dc_W_trimmedFrom_23 rfl ?_
  refine g_istore (pc := 20) dc_A_resolve_20 (by decide) ?_
  refine g_aload_n (pc := 22) dc_A_resolve_22 rfl ?_
  refine g_bipush (pc := 23) (v := 35) dc_A_resolve_23 rfl ?_
  refine g_iload (pc := 25) dc_A_resolve_25 rfl ?_
  refine g_aload_n (pc := 27) dc_A_resolve_27 rfl ?_
  refine g_iload (pc := 28) dc_A_resolve_28 rfl ?_
  refine g_iload_n (pc := 30) dc_A_resolve_30 rfl ?_
  refine g_s3 (pc := 31) (M' := mt_W_trimmedTo) dc_A_resolve_31 mo_W_trimmedTo st_W_trimmedTo ln_A_30 (Nat.le_of_ble_eq_true rfl) (Nat.le_of_ble_eq_true rfl) ?_
  refine g_iload_n (pc := 0) dc_W_trimmedTo_0 rfl ?_
  refine g_istore_n (pc := 1) dc_W_trimmedTo_1 (by decide) ?_
  refine g_iload_n (pc := 2) dc_W_trimmedTo_2 rfl ?_
  refine g_iload_n (pc := 3) dc_W_trimmedTo_3 rfl ?_
  refine g_icmp_le (pc := 4) (tgt := 24) dc_W_trimmedTo_4 rfl (fun _ => ?_) (fun hc => absurd hc (by decide))
  refine g_iload_n (pc := 24) dc_W_trimmedTo_24 rfl ?_
  refine g_iretC (pc := 25) dc_W_trimmedTo_25 rfl ?_
  refine g_s4 (pc := 34) (M' := mt_W_indexOf) dc_A_resolve_34 mo_W_indexOf st_W_indexOf ln_A_33 (Nat.le_of_ble_eq_true rfl) (Nat.le_of_ble_eq_true rfl) ?_
  refine g_iload_n (pc := 0) dc_W_indexOf_0 rfl ?_
  refine g_istore (pc := 1) dc_W_indexOf_1 (by decide) ?_
  refine g_iload (pc := 3) dc_W_indexOf_3 rfl ?_
  refine g_iload_n (pc := 5) dc_W_indexOf_5 rfl ?_
  refine g_icmp_ge (pc := 6) (tgt := 23) dc_W_indexOf_6 rfl (fun _ => ?_) (fun hc => absurd hc (by decide))
  refine g_iload (pc := 23) dc_W_indexOf_23 rfl ?_
  refine g_iretC (pc := 25) dc_W_indexOf_25 rfl ?_
  refine g_istore (pc := 37) dc_A_resolve_37 (by decide) ?_
  refine g_aload_n (pc := 39) dc_A_resolve_39 rfl ?_
  refine g_iload (pc := 40) dc_A_resolve_40 rfl ?_
  refine g_iload (pc := 42) dc_A_resolve_42 rfl ?_
  refine g_s3 (pc := 44) (M' := mt_A_isClean) dc_A_resolve_44 mo_A_isClean st_A_isClean ln_A_37 (Nat.le_of_ble_eq_true rfl) (Nat.le_of_ble_eq_true rfl) ?_
  refine g_iload_n (pc := 0) dc_A_isClean_0 rfl ?_
  refine g_istore_n (pc := 1) dc_A_isClean_1 (by decide) ?_
  refine g_iload_n (pc := 2) dc_A_isClean_2 rfl ?_
  refine g_iload_n (pc := 3) dc_A_isClean_3 rfl ?_
  refine g_icmp_ge (pc := 4) (tgt := 64) dc_A_isClean_4 rfl (fun _ => ?_) (fun hc => absurd hc (by decide))
  refine g_iconst (pc := 64) (v := 1) dc_A_isClean_64 rfl ?_
  refine g_zretC (pc := 65) dc_A_isClean_65 rfl rfl ?_
  refine g_if_ne (pc := 47) (tgt := 52) dc_A_resolve_47 rfl (fun _ => ?_) (fun hc => absurd hc (by decide))
  refine g_aload_n (pc := 52) dc_A_resolve_52 rfl ?_
  refine g_bipush (pc := 53) (v := 58) dc_A_resolve_53 rfl ?_
  refine g_iload (pc := 55) dc_A_resolve_55 rfl ?_
  refine g_iload (pc := 57) dc_A_resolve_57 rfl ?_
  refine g_s4 (pc := 59) (M' := mt_W_indexOf) dc_A_resolve_59 mo_W_indexOf st_W_indexOf ln_A_33 (Nat.le_of_ble_eq_true rfl) (Nat.le_of_ble_eq_true rfl) ?_
  refine g_iload_n (pc := 0) dc_W_indexOf_0 rfl ?_
  refine g_istore (pc := 1) dc_W_indexOf_1 (by decide) ?_
  refine g_iload (pc := 3) dc_W_indexOf_3 rfl ?_
  refine g_iload_n (pc := 5) dc_W_indexOf_5 rfl ?_
  refine g_icmp_ge (pc := 6) (tgt := 23) dc_W_indexOf_6 rfl (fun _ => ?_) (fun hc => absurd hc (by decide))
  refine g_iload (pc := 23) dc_W_indexOf_23 rfl ?_
  refine g_iretC (pc := 25) dc_W_indexOf_25 rfl ?_
  refine g_istore (pc := 62) dc_A_resolve_62 (by decide) ?_
  refine g_iload (pc := 64) dc_A_resolve_64 rfl ?_
  refine g_aload_n (pc := 66) dc_A_resolve_66 rfl ?_
  refine g_bipush (pc := 67) (v := 47) dc_A_resolve_67 rfl ?_
  refine g_iload (pc := 69) dc_A_resolve_69 rfl ?_
  refine g_iload (pc := 71) dc_A_resolve_71 rfl ?_
  refine g_s4 (pc := 73) (M' := mt_W_indexOf) dc_A_resolve_73 mo_W_indexOf st_W_indexOf ln_A_33 (Nat.le_of_ble_eq_true rfl) (Nat.le_of_ble_eq_true rfl) ?_
  refine g_iload_n (pc := 0) dc_W_indexOf_0 rfl ?_
  refine g_istore (pc := 1) dc_W_indexOf_1 (by decide) ?_
  refine g_iload (pc := 3) dc_W_indexOf_3 rfl ?_
  refine g_iload_n (pc := 5) dc_W_indexOf_5 rfl ?_
  refine g_icmp_ge (pc := 6) (tgt := 23) dc_W_indexOf_6 rfl (fun _ => ?_) (fun hc => absurd hc (by decide))
  refine g_iload (pc := 23) dc_W_indexOf_23 rfl ?_
  refine g_iretC (pc := 25) dc_W_indexOf_25 rfl ?_
  refine g_aload_n (pc := 76) dc_A_resolve_76 rfl ?_
  refine g_bipush (pc := 77) (v := 63) dc_A_resolve_77 rfl ?_
  refine g_iload (pc := 79) dc_A_resolve_79 rfl ?_
  refine g_iload (pc := 81) dc_A_resolve_81 rfl ?_
  refine g_s4 (pc := 83) (M' := mt_W_indexOf) dc_A_resolve_83 mo_W_indexOf st_W_indexOf ln_A_33 (Nat.le_of_ble_eq_true rfl) (Nat.le_of_ble_eq_true rfl) ?_
  refine g_iload_n (pc := 0) dc_W_indexOf_0 rfl ?_
  refine g_istore (pc := 1) dc_W_indexOf_1 (by decide) ?_
  refine g_iload (pc := 3) dc_W_indexOf_3 rfl ?_
  refine g_iload_n (pc := 5) dc_W_indexOf_5 rfl ?_
  refine g_icmp_ge (pc := 6) (tgt := 23) dc_W_indexOf_6 rfl (fun _ => ?_) (fun hc => absurd hc (by decide))
  refine g_iload (pc := 23) dc_W_indexOf_23 rfl ?_
  refine g_iretC (pc := 25) dc_W_indexOf_25 rfl ?_
  refine g_s2 (pc := 86) (M' := mt_JMath_min) dc_A_resolve_86 mo_JMath_min st_JMath_min ln_A_41 (Nat.le_of_ble_eq_true rfl) (Nat.le_of_ble_eq_true rfl) ?_
  refine g_iload_n (pc := 0) dc_JMath_min_0 rfl ?_
  refine g_iload_n (pc := 1) dc_JMath_min_1 rfl ?_
  refine g_icmp_gt (pc := 2) (tgt := 9) dc_JMath_min_2 rfl (fun hc => absurd hc (by decide)) (fun _ => ?_)
  refine g_iload_n (pc := 5) dc_JMath_min_5 rfl ?_
  refine g_goto (pc := 6) (tgt := 10) dc_JMath_min_6 rfl ?_
  refine g_iretC (pc := 10) dc_JMath_min_10 rfl ?_
  refine g_icmp_ge (pc := 89) (tgt := 128) dc_A_resolve_89 rfl (fun _ => ?_) (fun hc => absurd hc (by decide))
  refine g_aload_n (pc := 128) dc_A_resolve_128 rfl ?_
  refine g_iload (pc := 129) dc_A_resolve_129 rfl ?_
  refine g_iload (pc := 131) dc_A_resolve_131 rfl ?_
  refine g_ldcS (pc := 133) 2 dc_A_resolve_133 (by decide) rfl rfl ?_
  refine g_s4 (pc := 135) (M' := mt_W_beginsWith) dc_A_resolve_135 mo_W_beginsWith st_W_beginsWith ln_A_55 (Nat.le_of_ble_eq_true rfl) (Nat.le_of_ble_eq_true rfl) ?_
  refine g_iload_n (pc := 0) dc_W_beginsWith_0 rfl ?_
  refine g_xload_n (pc := 1) dc_W_beginsWith_1 rfl ?_
  refine g_x0 (pc := 2) (M' := mt_JString_length) dc_W_beginsWith_2 mo_JString_length im_JString_length se_JString_length (am_t3 75 rfl rfl) (by decide) (Nat.le_of_ble_eq_true rfl) (Nat.le_of_ble_eq_true rfl) ?_
  refine g_xload_n (pc := 0) dc_JString_length_0 rfl ?_
  refine g_sValue (pc := 1) dc_JString_length_1 (by decide) (am_t4 204 rfl rfl) ?_
  refine g_sLen (pc := 4) (n := 2) dc_JString_length_4 (by decide) rfl ?_
  refine g_xload_n (pc := 5) dc_JString_length_5 rfl ?_
  refine g_x0 (pc := 6) (M' := mt_JString_coder) dc_JString_length_6 mo_JString_coder im_JString_coder se_JString_coder (am_t2 236 rfl rfl) (by decide) (Nat.le_of_ble_eq_true rfl) (Nat.le_of_ble_eq_true rfl) ?_
  refine g_gsCompact (pc := 0) dc_JString_coder_0 (am_t2 230 rfl rfl) ?_
  refine g_if_eq (pc := 3) (tgt := 13) dc_JString_coder_3 rfl (fun hc => absurd hc (by decide)) (fun _ => ?_)
  refine g_xload_n (pc := 6) dc_JString_coder_6 rfl ?_
  refine g_sCoder (pc := 7) dc_JString_coder_7 (by decide) (am_t4 205 rfl rfl) ?_
  refine g_goto (pc := 10) (tgt := 14) dc_JString_coder_10 rfl ?_
  refine g_bretC (pc := 14) dc_JString_coder_14 rfl rfl ?_
  refine g_ishr (pc := 9) (v := 2) dc_JString_length_9 (by decide) ?_
  refine g_iretC (pc := 10) dc_JString_length_10 rfl ?_
  refine g_iadd (pc := 5) (v := 2) dc_W_beginsWith_5 (by decide) ?_
  refine g_istore (pc := 6) dc_W_beginsWith_6 (by decide) ?_
  refine g_iload (pc := 8) dc_W_beginsWith_8 rfl ?_
  refine g_iload_n (pc := 10) dc_W_beginsWith_10 rfl ?_
  refine g_icmp_gt (pc := 11) (tgt := 29) dc_W_beginsWith_11 rfl (fun _ => ?_) (fun hc => absurd hc (by decide))
  refine g_iconst (pc := 29) (v := 0) dc_W_beginsWith_29 rfl ?_
  refine g_zretC (pc := 30) dc_W_beginsWith_30 rfl rfl ?_
  refine g_if_eq (pc := 138) (tgt := 155) dc_A_resolve_138 rfl (fun _ => ?_) (fun hc => absurd hc (by decide))
  refine g_aload_n (pc := 155) dc_A_resolve_155 rfl ?_
  refine g_aload_n (pc := 156) dc_A_resolve_156 rfl ?_
  refine g_iload (pc := 157) dc_A_resolve_157 rfl ?_
  refine g_iload (pc := 159) dc_A_resolve_159 rfl ?_
  refine g_aloadN (pc := 161) dc_A_resolve_161 rfl ?_
  refine g_v4 (pc := 163) (M' := mt_A_joinBase) dc_A_resolve_163 mo_A_joinBase im_A_joinBase se_A_joinBase ln_A_61 rfl rfl rfl (Nat.le_of_ble_eq_true rfl) (Nat.le_of_ble_eq_true rfl) ?_
  refine g_aloadN (pc := 0) dc_A_joinBase_0 rfl ?_
  refine g_ifnullN (pc := 2) (tgt := 13) dc_A_joinBase_2 rfl ?_
  refine g_iconst (pc := 13) (v := (-1)) dc_A_joinBase_13 rfl ?_
  refine g_iretC (pc := 14) dc_A_joinBase_14 rfl ?_
  refine g_istore (pc := 166) dc_A_resolve_166 (by decide) ?_
  refine g_iload (pc := 168) dc_A_resolve_168 rfl ?_
  refine g_iconst (pc := 170) (v := (-1)) dc_A_resolve_170 rfl ?_
  refine g_icmp_ne (pc := 171) (tgt := 176) dc_A_resolve_171 rfl (fun hc => absurd hc (by decide)) (fun _ => ?_)
  refine g_iconst (pc := 174) (v := 0) dc_A_resolve_174 rfl ?_
  refine g_zretC (pc := 175) dc_A_resolve_175 rfl rfl ?_
  refine g_zretC (pc := 20) dc_W_resolveLine_20 rfl rfl ?_
  refine g_istore_n (pc := 4) dc_W_look_4 (by decide) ?_
  refine g_iconst (pc := 5) (v := (-1)) dc_W_look_5 rfl ?_
  refine g_istore_n (pc := 6) dc_W_look_6 (by decide) ?_
  refine g_iload_n (pc := 7) dc_W_look_7 rfl ?_
  refine g_if_eq (pc := 8) (tgt := 73) dc_W_look_8 rfl (fun _ => ?_) (fun hc => absurd hc (by decide))
  refine g_iload_n (pc := 73) dc_W_look_73 rfl ?_
  refine g_if_eq (pc := 74) (tgt := 136) dc_W_look_74 rfl (fun _ => ?_) (fun hc => absurd hc (by decide))
  refine g_aload_n (pc := 136) dc_W_look_136 rfl ?_
  refine g_getfield (pc := 137) dc_W_look_137 fl_W_12 rfl rfl ?_
  refine g_v0 (pc := 140) (M' := mt_B_clear) dc_W_look_140 mo_B_clear im_B_clear se_B_clear ln_W_121 rfl rfl rfl (Nat.le_of_ble_eq_true rfl) (Nat.le_of_ble_eq_true rfl) ?_
  refine g_aload_n (pc := 0) dc_B_clear_0 rfl ?_
  refine g_iconst (pc := 1) (v := 0) dc_B_clear_1 rfl ?_
  refine g_putfield (pc := 2) dc_B_clear_2 fp_B_clear_15 rfl (Nat.le_of_ble_eq_true rfl) rfl rfl ?_
  refine g_vretC (pc := 5) dc_B_clear_5 rfl ?_
  refine g_iload_n (pc := 143) dc_W_look_143 rfl ?_
  refine g_iretC (pc := 144) dc_W_look_144 rfl ?_
  refine g_aload_n (pc := 395) dc_L_law_395 rfl ?_
  refine g_xload_n (pc := 396) dc_L_law_396 rfl ?_
  refine g_iload (pc := 397) dc_L_law_397 rfl ?_
  refine g_iconst (pc := 399) (v := 1) dc_L_law_399 rfl ?_
  refine g_iadd (pc := 400) (v := 1) dc_L_law_400 (by decide) ?_
  refine g_scriptLoadV (pc := 401) dc_L_law_401 (by rw [hL]; exact am_vin rfl) e1 ?_
  refine g_v1 (pc := 402) (M' := mt_M_look) dc_L_law_402 mo_M_look im_M_look se_M_look ln_L_63 rfl rfl rfl (Nat.le_of_ble_eq_true rfl) (Nat.le_of_ble_eq_true rfl) ?_
  refine g_aload_n (pc := 0) dc_M_look_0 rfl ?_
  refine g_v0 (pc := 1) (M' := mt_M_use) dc_M_look_1 mo_M_use im_M_use se_M_use ln_M_505 rfl rfl rfl (Nat.le_of_ble_eq_true rfl) (Nat.le_of_ble_eq_true rfl) ?_
  refine g_aload_n (pc := 0) dc_M_use_0 rfl ?_
  refine g_iconst (pc := 1) (v := 0) dc_M_use_1 rfl ?_
  refine g_putfield (pc := 2) dc_M_use_2 fp_M_use_1 rfl (Nat.le_of_ble_eq_true rfl) rfl rfl ?_
  refine g_aload_n (pc := 5) dc_M_use_5 rfl ?_
  refine g_getfield (pc := 6) dc_M_use_6 fl_M_493 rfl rfl ?_
  refine g_istore_n (pc := 9) dc_M_use_9 (by decide) ?_
  refine g_aload_n (pc := 10) dc_M_use_10 rfl ?_
  refine g_iconst (pc := 11) (v := 0) dc_M_use_11 rfl ?_
  refine g_putfield (pc := 12) dc_M_use_12 fp_M_use_493 rfl (Nat.le_of_ble_eq_true rfl) rfl rfl ?_
  refine g_iload_n (pc := 15) dc_M_use_15 rfl ?_
  refine g_iretC (pc := 16) dc_M_use_16 rfl ?_
  refine g_istore_n (pc := 4) dc_M_look_4 (by decide) ?_
  refine g_iload_n (pc := 5) dc_M_look_5 rfl ?_
  refine g_if_lt (pc := 6) (tgt := 22) dc_M_look_6 rfl (fun hc0 => ?_) (fun hc0 => ?_)
  · have hi0 : p1.toInt < 0 := Int32.lt_iff_toInt_lt.mp hc0
    refine g_iconst (pc := 22) (v := (-1)) dc_M_look_22 rfl ?_
    refine g_iretC (pc := 23) dc_M_look_23 rfl ?_
    refine g_icmp_eq (pc := 405) (tgt := 873) dc_L_law_405 rfl (fun _ => ?_) (fun hc => absurd hc (by decide))
    refine g_iinc (pc := 873) (v := 6) dc_L_law_873 rfl (by decide) (by decide) ?_
    refine g_goto (pc := 876) (tgt := 23) dc_L_law_876 rfl ?_
    refine g_iload (pc := 23) dc_L_law_23 rfl ?_
    refine g_xload_n (pc := 25) dc_L_law_25 rfl ?_
    refine g_scriptLenV (pc := 26) (n := 6) dc_L_law_26 hL rfl ?_
    refine g_bipush (pc := 27) (v := 6) dc_L_law_27 rfl ?_
    refine g_isub (pc := 29) (v := 0) dc_L_law_29 (by decide) ?_
    refine g_icmp_gt (pc := 30) (tgt := 879) dc_L_law_30 rfl (fun _ => ?_) (fun hc => absurd hc (by decide))
    refine g_iconst (pc := 879) (v := 1) dc_L_law_879 rfl ?_
    exact g_zreturn dc_L_law_880 rfl rfl ⟨rfl, (Nat.le_of_ble_eq_true rfl), (Nat.le_of_ble_eq_true rfl)⟩
  · have hi0 : ¬ (p1.toInt < 0) := fun h9 => hc0 (Int32.lt_iff_toInt_lt.mpr h9)
    refine g_iload_n (pc := 9) dc_M_look_9 rfl ?_
    refine g_iconst (pc := 10) (v := 1) dc_M_look_10 rfl ?_
    refine g_icmp_gt (pc := 11) (tgt := 22) dc_M_look_11 rfl (fun hc1 => ?_) (fun hc1 => ?_)
    · have hi1 : 1 < p1.toInt := Int32.lt_iff_toInt_lt.mp hc1
      refine g_iconst (pc := 22) (v := (-1)) dc_M_look_22 rfl ?_
      refine g_iretC (pc := 23) dc_M_look_23 rfl ?_
      refine g_icmp_eq (pc := 405) (tgt := 873) dc_L_law_405 rfl (fun _ => ?_) (fun hc => absurd hc (by decide))
      refine g_iinc (pc := 873) (v := 6) dc_L_law_873 rfl (by decide) (by decide) ?_
      refine g_goto (pc := 876) (tgt := 23) dc_L_law_876 rfl ?_
      refine g_iload (pc := 23) dc_L_law_23 rfl ?_
      refine g_xload_n (pc := 25) dc_L_law_25 rfl ?_
      refine g_scriptLenV (pc := 26) (n := 6) dc_L_law_26 hL rfl ?_
      refine g_bipush (pc := 27) (v := 6) dc_L_law_27 rfl ?_
      refine g_isub (pc := 29) (v := 0) dc_L_law_29 (by decide) ?_
      refine g_icmp_gt (pc := 30) (tgt := 879) dc_L_law_30 rfl (fun _ => ?_) (fun hc => absurd hc (by decide))
      refine g_iconst (pc := 879) (v := 1) dc_L_law_879 rfl ?_
      exact g_zreturn dc_L_law_880 rfl rfl ⟨rfl, (Nat.le_of_ble_eq_true rfl), (Nat.le_of_ble_eq_true rfl)⟩
    · have hi1 : ¬ (1 < p1.toInt) := fun h9 => hc1 (Int32.lt_iff_toInt_lt.mpr h9)
      refine g_aload_n (pc := 14) dc_M_look_14 rfl ?_
      refine g_iload_n (pc := 15) dc_M_look_15 rfl ?_
      refine g_v1 (pc := 16) (M' := mt_M_readFirst) dc_M_look_16 mo_M_readFirst im_M_readFirst se_M_readFirst ln_M_508 rfl rfl rfl (Nat.le_of_ble_eq_true rfl) (Nat.le_of_ble_eq_true rfl) ?_
      refine g_aload_n (pc := 0) dc_M_readFirst_0 rfl ?_
      refine g_aload_n (pc := 1) dc_M_readFirst_1 rfl ?_
      refine g_getfield (pc := 2) dc_M_readFirst_2 fl_M_143 rfl rfl ?_
      refine g_iconst (pc := 5) (v := 0) dc_M_readFirst_5 rfl ?_
      refine g_aload_n (pc := 6) dc_M_readFirst_6 rfl ?_
      refine g_getfield (pc := 7) dc_M_readFirst_7 fl_M_143 rfl rfl ?_
      refine g_iconst (pc := 10) (v := 0) dc_M_readFirst_10 rfl ?_
      refine g_iload_n (pc := 11) dc_M_readFirst_11 rfl ?_
      refine g_s3 (pc := 12) (M' := mt_M_lineEnd) dc_M_readFirst_12 mo_M_lineEnd st_M_lineEnd ln_M_455 (Nat.le_of_ble_eq_true rfl) (Nat.le_of_ble_eq_true rfl) ?_
      refine g_aload_n (pc := 0) dc_M_lineEnd_0 rfl ?_
      refine g_iload_n (pc := 1) dc_M_lineEnd_1 rfl ?_
      refine g_iload_n (pc := 2) dc_M_lineEnd_2 rfl ?_
      refine g_bipush (pc := 3) (v := 10) dc_M_lineEnd_3 rfl ?_
      refine g_s4 (pc := 5) (M' := mt_M_seek) dc_M_lineEnd_5 mo_M_seek st_M_seek ln_M_48 (Nat.le_of_ble_eq_true rfl) (Nat.le_of_ble_eq_true rfl) ?_
      refine g_iload_n (pc := 0) dc_M_seek_0 rfl ?_
      refine g_istore (pc := 1) dc_M_seek_1 (by decide) ?_
      refine g_iload (pc := 3) dc_M_seek_3 rfl ?_
      refine g_iload_n (pc := 5) dc_M_seek_5 rfl ?_
      refine g_icmp_ge (pc := 6) (tgt := 23) dc_M_seek_6 rfl (fun _ => ?_) (fun hc => absurd hc (by decide))
      refine g_iload (pc := 23) dc_M_seek_23 rfl ?_
      refine g_iretC (pc := 25) dc_M_seek_25 rfl ?_
      refine g_istore_n (pc := 8) dc_M_lineEnd_8 (by decide) ?_
      refine g_iload_n (pc := 9) dc_M_lineEnd_9 rfl ?_
      refine g_iload_n (pc := 10) dc_M_lineEnd_10 rfl ?_
      refine g_icmp_ge (pc := 11) (tgt := 35) dc_M_lineEnd_11 rfl (fun _ => ?_) (fun hc => absurd hc (by decide))
      refine g_iload_n (pc := 35) dc_M_lineEnd_35 rfl ?_
      refine g_iretC (pc := 36) dc_M_lineEnd_36 rfl ?_
      refine g_iconst (pc := 15) (v := (-1)) dc_M_readFirst_15 rfl ?_
      refine g_v4 (pc := 16) (M' := mt_M_readReference) dc_M_readFirst_16 mo_M_readReference im_M_readReference se_M_readReference ln_M_297 rfl rfl rfl (Nat.le_of_ble_eq_true rfl) (Nat.le_of_ble_eq_true rfl) ?_
      refine g_iload_n (pc := 0) dc_M_readReference_0 rfl ?_
      refine g_istore (pc := 1) dc_M_readReference_1 (by decide) ?_
      refine g_iload_n (pc := 3) dc_M_readReference_3 rfl ?_
      refine g_istore (pc := 4) dc_M_readReference_4 (by decide) ?_
      refine g_iload (pc := 6) dc_M_readReference_6 rfl ?_
      refine g_iload (pc := 8) dc_M_readReference_8 rfl ?_
      refine g_icmp_ge (pc := 10) (tgt := 29) dc_M_readReference_10 rfl (fun _ => ?_) (fun hc => absurd hc (by decide))
      refine g_iload (pc := 29) dc_M_readReference_29 rfl ?_
      refine g_iload (pc := 31) dc_M_readReference_31 rfl ?_
      refine g_icmp_le (pc := 33) (tgt := 54) dc_M_readReference_33 rfl (fun _ => ?_) (fun hc => absurd hc (by decide))
      refine g_aload_n (pc := 54) dc_M_readReference_54 rfl ?_
      refine g_iload (pc := 55) dc_M_readReference_55 rfl ?_
      refine g_iload (pc := 57) dc_M_readReference_57 rfl ?_
      refine g_bipush (pc := 59) (v := 35) dc_M_readReference_59 rfl ?_
      refine g_s4 (pc := 61) (M' := mt_M_seek) dc_M_readReference_61 mo_M_seek st_M_seek ln_M_48 (Nat.le_of_ble_eq_true rfl) (Nat.le_of_ble_eq_true rfl) ?_
      refine g_iload_n (pc := 0) dc_M_seek_0 rfl ?_
      refine g_istore (pc := 1) dc_M_seek_1 (by decide) ?_
      refine g_iload (pc := 3) dc_M_seek_3 rfl ?_
      refine g_iload_n (pc := 5) dc_M_seek_5 rfl ?_
      refine g_icmp_ge (pc := 6) (tgt := 23) dc_M_seek_6 rfl (fun _ => ?_) (fun hc => absurd hc (by decide))
      refine g_iload (pc := 23) dc_M_seek_23 rfl ?_
      refine g_iretC (pc := 25) dc_M_seek_25 rfl ?_
      refine g_istore (pc := 64) dc_M_readReference_64 (by decide) ?_
      refine g_iload (pc := 66) dc_M_readReference_66 rfl ?_
      refine g_istore (pc := 68) dc_M_readReference_68 (by decide) ?_
      refine g_iload (pc := 70) dc_M_readReference_70 rfl ?_
      refine g_iload (pc := 72) dc_M_readReference_72 rfl ?_
      refine g_icmp_ge (pc := 74) (tgt := 96) dc_M_readReference_74 rfl (fun _ => ?_) (fun hc => absurd hc (by decide))
      refine g_aload_n (pc := 96) dc_M_readReference_96 rfl ?_
      refine g_iload (pc := 97) dc_M_readReference_97 rfl ?_
      refine g_iload (pc := 99) dc_M_readReference_99 rfl ?_
      refine g_bipush (pc := 101) (v := 58) dc_M_readReference_101 rfl ?_
      refine g_s4 (pc := 103) (M' := mt_M_seek) dc_M_readReference_103 mo_M_seek st_M_seek ln_M_48 (Nat.le_of_ble_eq_true rfl) (Nat.le_of_ble_eq_true rfl) ?_
      refine g_iload_n (pc := 0) dc_M_seek_0 rfl ?_
      refine g_istore (pc := 1) dc_M_seek_1 (by decide) ?_
      refine g_iload (pc := 3) dc_M_seek_3 rfl ?_
      refine g_iload_n (pc := 5) dc_M_seek_5 rfl ?_
      refine g_icmp_ge (pc := 6) (tgt := 23) dc_M_seek_6 rfl (fun _ => ?_) (fun hc => absurd hc (by decide))
      refine g_iload (pc := 23) dc_M_seek_23 rfl ?_
      refine g_iretC (pc := 25) dc_M_seek_25 rfl ?_
      refine g_istore (pc := 106) dc_M_readReference_106 (by decide) ?_
      refine g_aload_n (pc := 108) dc_M_readReference_108 rfl ?_
      refine g_iload (pc := 109) dc_M_readReference_109 rfl ?_
      refine g_iload (pc := 111) dc_M_readReference_111 rfl ?_
      refine g_bipush (pc := 113) (v := 47) dc_M_readReference_113 rfl ?_
      refine g_s4 (pc := 115) (M' := mt_M_seek) dc_M_readReference_115 mo_M_seek st_M_seek ln_M_48 (Nat.le_of_ble_eq_true rfl) (Nat.le_of_ble_eq_true rfl) ?_
      refine g_iload_n (pc := 0) dc_M_seek_0 rfl ?_
      refine g_istore (pc := 1) dc_M_seek_1 (by decide) ?_
      refine g_iload (pc := 3) dc_M_seek_3 rfl ?_
      refine g_iload_n (pc := 5) dc_M_seek_5 rfl ?_
      refine g_icmp_ge (pc := 6) (tgt := 23) dc_M_seek_6 rfl (fun _ => ?_) (fun hc => absurd hc (by decide))
      refine g_iload (pc := 23) dc_M_seek_23 rfl ?_
      refine g_iretC (pc := 25) dc_M_seek_25 rfl ?_
      refine g_istore (pc := 118) dc_M_readReference_118 (by decide) ?_
      refine g_aload_n (pc := 120) dc_M_readReference_120 rfl ?_
      refine g_iload (pc := 121) dc_M_readReference_121 rfl ?_
      refine g_iload (pc := 123) dc_M_readReference_123 rfl ?_
      refine g_bipush (pc := 125) (v := 63) dc_M_readReference_125 rfl ?_
      refine g_s4 (pc := 127) (M' := mt_M_seek) dc_M_readReference_127 mo_M_seek st_M_seek ln_M_48 (Nat.le_of_ble_eq_true rfl) (Nat.le_of_ble_eq_true rfl) ?_
      refine g_iload_n (pc := 0) dc_M_seek_0 rfl ?_
      refine g_istore (pc := 1) dc_M_seek_1 (by decide) ?_
      refine g_iload (pc := 3) dc_M_seek_3 rfl ?_
      refine g_iload_n (pc := 5) dc_M_seek_5 rfl ?_
      refine g_icmp_ge (pc := 6) (tgt := 23) dc_M_seek_6 rfl (fun _ => ?_) (fun hc => absurd hc (by decide))
      refine g_iload (pc := 23) dc_M_seek_23 rfl ?_
      refine g_iretC (pc := 25) dc_M_seek_25 rfl ?_
      refine g_istore (pc := 130) dc_M_readReference_130 (by decide) ?_
      refine g_iload (pc := 132) dc_M_readReference_132 rfl ?_
      refine g_iload (pc := 134) dc_M_readReference_134 rfl ?_
      refine g_icmp_ge (pc := 136) (tgt := 198) dc_M_readReference_136 rfl (fun _ => ?_) (fun hc => absurd hc (by decide))
      refine g_iload (pc := 198) dc_M_readReference_198 rfl ?_
      refine g_iconst (pc := 200) (v := 1) dc_M_readReference_200 rfl ?_
      refine g_iadd (pc := 201) (v := 1) dc_M_readReference_201 (by decide) ?_
      refine g_iload (pc := 202) dc_M_readReference_202 rfl ?_
      refine g_icmp_ge (pc := 204) (tgt := 307) dc_M_readReference_204 rfl (fun _ => ?_) (fun hc => absurd hc (by decide))
      refine g_iload (pc := 307) dc_M_readReference_307 rfl ?_
      refine g_if_ge (pc := 309) (tgt := 314) dc_M_readReference_309 rfl (fun hc => absurd hc (by decide)) (fun _ => ?_)
      refine g_iconst (pc := 312) (v := 0) dc_M_readReference_312 rfl ?_
      refine g_zretC (pc := 313) dc_M_readReference_313 rfl rfl ?_
      refine g_zretC (pc := 19) dc_M_readFirst_19 rfl rfl ?_
      refine g_if_ne (pc := 19) (tgt := 24) dc_M_look_19 rfl (fun hc => absurd hc (by decide)) (fun _ => ?_)
      refine g_iconst (pc := 22) (v := (-1)) dc_M_look_22 rfl ?_
      refine g_iretC (pc := 23) dc_M_look_23 rfl ?_
      refine g_icmp_eq (pc := 405) (tgt := 873) dc_L_law_405 rfl (fun _ => ?_) (fun hc => absurd hc (by decide))
      refine g_iinc (pc := 873) (v := 6) dc_L_law_873 rfl (by decide) (by decide) ?_
      refine g_goto (pc := 876) (tgt := 23) dc_L_law_876 rfl ?_
      refine g_iload (pc := 23) dc_L_law_23 rfl ?_
      refine g_xload_n (pc := 25) dc_L_law_25 rfl ?_
      refine g_scriptLenV (pc := 26) (n := 6) dc_L_law_26 hL rfl ?_
      refine g_bipush (pc := 27) (v := 6) dc_L_law_27 rfl ?_
      refine g_isub (pc := 29) (v := 0) dc_L_law_29 (by decide) ?_
      refine g_icmp_gt (pc := 30) (tgt := 879) dc_L_law_30 rfl (fun _ => ?_) (fun hc => absurd hc (by decide))
      refine g_iconst (pc := 879) (v := 1) dc_L_law_879 rfl ?_
      exact g_zreturn dc_L_law_880 rfl rfl ⟨rfl, (Nat.le_of_ble_eq_true rfl), (Nat.le_of_ble_eq_true rfl)⟩
set_option maxRecDepth 20000 in
set_option maxHeartbeats 4000000 in
theorem p1_8 {X : am_X} {p0 p1 p2 p3 p4 p5 : Int32} (hl9 : X.1.stackTraces = false) (hL : X.2.2.2.2.2.1 = 6) (e0 : X.2.2.2.2.2.2 (Int32.toNatClampNeg 0) = p0) (e1 : X.2.2.2.2.2.2 (Int32.toNatClampNeg 1) = p1) (e2 : X.2.2.2.2.2.2 (Int32.toNatClampNeg 2) = p2) (e3 : X.2.2.2.2.2.2 (Int32.toNatClampNeg 3) = p3) (e4 : X.2.2.2.2.2.2 (Int32.toNatClampNeg 4) = p4) (e5 : X.2.2.2.2.2.2 (Int32.toNatClampNeg 5) = p5) : am_G X mt_L_law 60 410 lo_0 [] hp_0 (fun r h => r = some (.int 1) ∧ h.length ≤ 601024 ∧ am_sl h ≤ 7293034) := by
  rcases am_p4 p1 with rfl | rfl | rfl | rfl | hq | hq
  · refine g_aload_n (pc := 410) dc_L_law_410 rfl ?_
    refine g_xload_n (pc := 411) dc_L_law_411 rfl ?_
    refine g_iload (pc := 412) dc_L_law_412 rfl ?_
    refine g_iconst (pc := 414) (v := 1) dc_L_law_414 rfl ?_
    refine g_iadd (pc := 415) (v := 1) dc_L_law_415 (by decide) ?_
    refine g_scriptLoadV (pc := 416) dc_L_law_416 (by rw [hL]; exact am_vin rfl) e1 ?_
    refine g_xload_n (pc := 417) dc_L_law_417 rfl ?_
    refine g_iload (pc := 418) dc_L_law_418 rfl ?_
    refine g_iconst (pc := 420) (v := 2) dc_L_law_420 rfl ?_
    refine g_iadd (pc := 421) (v := 2) dc_L_law_421 (by decide) ?_
    refine g_scriptLoadV (pc := 422) dc_L_law_422 (by rw [hL]; exact am_vin rfl) e2 ?_
    refine g_v2 (pc := 423) (M' := mt_W_set) dc_L_law_423 mo_W_set im_W_set se_W_set ln_L_64 rfl rfl rfl (Nat.le_of_ble_eq_true rfl) (Nat.le_of_ble_eq_true rfl) ?_
    refine g_iload_n (pc := 0) dc_W_set_0 rfl ?_
    refine g_if_lt (pc := 1) (tgt := 13) dc_W_set_1 rfl (fun hc => absurd hc (by decide)) (fun _ => ?_)
    refine g_iload_n (pc := 4) dc_W_set_4 rfl ?_
    refine g_aload_n (pc := 5) dc_W_set_5 rfl ?_
    refine g_getfield (pc := 6) dc_W_set_6 fl_W_47 rfl rfl ?_
    refine g_alen (pc := 9) dc_W_set_9 rfl (by decide) ?_
    refine g_icmp_lt (pc := 10) (tgt := 15) dc_W_set_10 rfl (fun _ => ?_) (fun hc => absurd hc (by decide))
    refine g_iload_n (pc := 15) dc_W_set_15 rfl ?_
    refine g_gsLeast (pc := 16) dc_W_set_16 (am_t6 40 rfl rfl) ?_
    refine g_iload_n (pc := 19) dc_W_set_19 rfl ?_
    refine g_leastLoad (pc := 20) (v := 0) dc_W_set_20 (am_vin rfl) rfl ?_
    refine g_icmp_lt (pc := 21) (tgt := 33) dc_W_set_21 rfl (fun hc0 => ?_) (fun hc0 => ?_)
    · have hi0 : p2.toInt < 0 := Int32.lt_iff_toInt_lt.mp hc0
      refine g_iconst (pc := 33) (v := 0) dc_W_set_33 rfl ?_
      refine g_zretC (pc := 34) dc_W_set_34 rfl rfl ?_
      refine g_aload_n (pc := 426) dc_L_law_426 rfl ?_
      refine g_xload_n (pc := 427) dc_L_law_427 rfl ?_
      refine g_iload (pc := 428) dc_L_law_428 rfl ?_
      refine g_iconst (pc := 430) (v := 1) dc_L_law_430 rfl ?_
      refine g_iadd (pc := 431) (v := 1) dc_L_law_431 (by decide) ?_
      refine g_scriptLoadV (pc := 432) dc_L_law_432 (by rw [hL]; exact am_vin rfl) e1 ?_
      refine g_xload_n (pc := 433) dc_L_law_433 rfl ?_
      refine g_iload (pc := 434) dc_L_law_434 rfl ?_
      refine g_iconst (pc := 436) (v := 2) dc_L_law_436 rfl ?_
      refine g_iadd (pc := 437) (v := 2) dc_L_law_437 (by decide) ?_
      refine g_scriptLoadV (pc := 438) dc_L_law_438 (by rw [hL]; exact am_vin rfl) e2 ?_
      refine g_v2 (pc := 439) (M' := mt_M_set) dc_L_law_439 mo_M_set im_M_set se_M_set ln_L_68 rfl rfl rfl (Nat.le_of_ble_eq_true rfl) (Nat.le_of_ble_eq_true rfl) ?_
      refine g_aload_n (pc := 0) dc_M_set_0 rfl ?_
      refine g_iconst (pc := 1) (v := 0) dc_M_set_1 rfl ?_
      refine g_putfield (pc := 2) dc_M_set_2 fp_M_set_1 rfl (Nat.le_of_ble_eq_true rfl) rfl rfl ?_
      refine g_iload_n (pc := 5) dc_M_set_5 rfl ?_
      refine g_if_ne (pc := 6) (tgt := 19) dc_M_set_6 rfl (fun hc => absurd hc (by decide)) (fun _ => ?_)
      refine g_iload_n (pc := 9) dc_M_set_9 rfl ?_
      refine g_if_lt (pc := 10) (tgt := 19) dc_M_set_10 rfl (fun _ => ?_) (fun hc => absurd hc (fun h9 => h9 (Int32.lt_iff_toInt_lt.mpr (by show p2.toInt < 0; omega))))
      refine g_iload_n (pc := 19) dc_M_set_19 rfl ?_
      refine g_iconst (pc := 20) (v := 1) dc_M_set_20 rfl ?_
      refine g_icmp_ne (pc := 21) (tgt := 34) dc_M_set_21 rfl (fun _ => ?_) (fun hc => absurd hc (by decide))
      refine g_iload_n (pc := 34) dc_M_set_34 rfl ?_
      refine g_iconst (pc := 35) (v := 2) dc_M_set_35 rfl ?_
      refine g_icmp_ne (pc := 36) (tgt := 50) dc_M_set_36 rfl (fun _ => ?_) (fun hc => absurd hc (by decide))
      refine g_iload_n (pc := 50) dc_M_set_50 rfl ?_
      refine g_iconst (pc := 51) (v := 3) dc_M_set_51 rfl ?_
      refine g_icmp_ne (pc := 52) (tgt := 70) dc_M_set_52 rfl (fun _ => ?_) (fun hc => absurd hc (by decide))
      refine g_iconst (pc := 70) (v := 0) dc_M_set_70 rfl ?_
      refine g_istore_n (pc := 71) dc_M_set_71 (by decide) ?_
      refine g_iload_n (pc := 72) dc_M_set_72 rfl ?_
      refine g_if_eq (pc := 73) (tgt := 83) dc_M_set_73 rfl (fun _ => ?_) (fun hc => absurd hc (by decide))
      refine g_iload_n (pc := 83) dc_M_set_83 rfl ?_
      refine g_zretC (pc := 84) dc_M_set_84 rfl rfl ?_
      refine g_icmp_eq (pc := 442) (tgt := 873) dc_L_law_442 rfl (fun _ => ?_) (fun hc => absurd hc (by decide))
      refine g_iinc (pc := 873) (v := 6) dc_L_law_873 rfl (by decide) (by decide) ?_
      refine g_goto (pc := 876) (tgt := 23) dc_L_law_876 rfl ?_
      refine g_iload (pc := 23) dc_L_law_23 rfl ?_
      refine g_xload_n (pc := 25) dc_L_law_25 rfl ?_
      refine g_scriptLenV (pc := 26) (n := 6) dc_L_law_26 hL rfl ?_
      refine g_bipush (pc := 27) (v := 6) dc_L_law_27 rfl ?_
      refine g_isub (pc := 29) (v := 0) dc_L_law_29 (by decide) ?_
      refine g_icmp_gt (pc := 30) (tgt := 879) dc_L_law_30 rfl (fun _ => ?_) (fun hc => absurd hc (by decide))
      refine g_iconst (pc := 879) (v := 1) dc_L_law_879 rfl ?_
      exact g_zreturn dc_L_law_880 rfl rfl ⟨rfl, (Nat.le_of_ble_eq_true rfl), (Nat.le_of_ble_eq_true rfl)⟩
    · have hi0 : ¬ (p2.toInt < 0) := fun h9 => hc0 (Int32.lt_iff_toInt_lt.mpr h9)
      refine g_iload_n (pc := 24) dc_W_set_24 rfl ?_
      refine g_gsMost (pc := 25) dc_W_set_25 (am_t6 42 rfl rfl) ?_
      refine g_iload_n (pc := 28) dc_W_set_28 rfl ?_
      refine g_mostLoad (pc := 29) (v := 20) dc_W_set_29 (am_vin rfl) rfl ?_
      refine g_icmp_le (pc := 30) (tgt := 35) dc_W_set_30 rfl (fun hc2 => ?_) (fun hc2 => ?_)
      · have hi2 : p2.toInt ≤ 20 := Int32.le_iff_toInt_le.mp hc2
        refine g_aload_n (pc := 35) dc_W_set_35 rfl ?_
        refine g_getfield (pc := 36) dc_W_set_36 fl_W_47 rfl rfl ?_
        refine g_iload_n (pc := 39) dc_W_set_39 rfl ?_
        refine g_iload_n (pc := 40) dc_W_set_40 rfl ?_
        refine g_iastore (pc := 41) dc_W_set_41 rfl (am_vin rfl) ?_
        refine g_iconst (pc := 42) (v := 1) dc_W_set_42 rfl ?_
        refine g_zretC (pc := 43) dc_W_set_43 rfl rfl ?_
        refine g_aload_n (pc := 426) dc_L_law_426 rfl ?_
        refine g_xload_n (pc := 427) dc_L_law_427 rfl ?_
        refine g_iload (pc := 428) dc_L_law_428 rfl ?_
        refine g_iconst (pc := 430) (v := 1) dc_L_law_430 rfl ?_
        refine g_iadd (pc := 431) (v := 1) dc_L_law_431 (by decide) ?_
        refine g_scriptLoadV (pc := 432) dc_L_law_432 (by rw [hL]; exact am_vin rfl) e1 ?_
        refine g_xload_n (pc := 433) dc_L_law_433 rfl ?_
        refine g_iload (pc := 434) dc_L_law_434 rfl ?_
        refine g_iconst (pc := 436) (v := 2) dc_L_law_436 rfl ?_
        refine g_iadd (pc := 437) (v := 2) dc_L_law_437 (by decide) ?_
        refine g_scriptLoadV (pc := 438) dc_L_law_438 (by rw [hL]; exact am_vin rfl) e2 ?_
        refine g_v2 (pc := 439) (M' := mt_M_set) dc_L_law_439 mo_M_set im_M_set se_M_set ln_L_68 rfl rfl rfl (Nat.le_of_ble_eq_true rfl) (Nat.le_of_ble_eq_true rfl) ?_
        refine g_aload_n (pc := 0) dc_M_set_0 rfl ?_
        refine g_iconst (pc := 1) (v := 0) dc_M_set_1 rfl ?_
        refine g_putfield (pc := 2) dc_M_set_2 fp_M_set_1 rfl (Nat.le_of_ble_eq_true rfl) rfl rfl ?_
        refine g_iload_n (pc := 5) dc_M_set_5 rfl ?_
        refine g_if_ne (pc := 6) (tgt := 19) dc_M_set_6 rfl (fun hc => absurd hc (by decide)) (fun _ => ?_)
        refine g_iload_n (pc := 9) dc_M_set_9 rfl ?_
        refine g_if_lt (pc := 10) (tgt := 19) dc_M_set_10 rfl (fun hc => absurd (Int32.lt_iff_toInt_lt.mp hc) (by show ¬ (p2.toInt < 0); omega)) (fun _ => ?_)
        refine g_iload_n (pc := 13) dc_M_set_13 rfl ?_
        refine g_bipush (pc := 14) (v := 20) dc_M_set_14 rfl ?_
        refine g_icmp_le (pc := 16) (tgt := 66) dc_M_set_16 rfl (fun _ => ?_) (fun hc => absurd hc (fun h9 => h9 (Int32.le_iff_toInt_le.mpr (by show p2.toInt ≤ 20; omega))))
        refine g_iconst (pc := 66) (v := 1) dc_M_set_66 rfl ?_
        refine g_goto (pc := 67) (tgt := 71) dc_M_set_67 rfl ?_
        refine g_istore_n (pc := 71) dc_M_set_71 (by decide) ?_
        refine g_iload_n (pc := 72) dc_M_set_72 rfl ?_
        refine g_if_eq (pc := 73) (tgt := 83) dc_M_set_73 rfl (fun hc => absurd hc (by decide)) (fun _ => ?_)
        refine g_aload_n (pc := 76) dc_M_set_76 rfl ?_
        refine g_getfield (pc := 77) dc_M_set_77 fl_M_347 rfl rfl ?_
        refine g_iload_n (pc := 80) dc_M_set_80 rfl ?_
        refine g_iload_n (pc := 81) dc_M_set_81 rfl ?_
        refine g_iastore (pc := 82) dc_M_set_82 rfl (am_vin rfl) ?_
        refine g_iload_n (pc := 83) dc_M_set_83 rfl ?_
        refine g_zretC (pc := 84) dc_M_set_84 rfl rfl ?_
        refine g_icmp_eq (pc := 442) (tgt := 873) dc_L_law_442 rfl (fun _ => ?_) (fun hc => absurd hc (by decide))
        refine g_iinc (pc := 873) (v := 6) dc_L_law_873 rfl (by decide) (by decide) ?_
        refine g_goto (pc := 876) (tgt := 23) dc_L_law_876 rfl ?_
        refine g_iload (pc := 23) dc_L_law_23 rfl ?_
        refine g_xload_n (pc := 25) dc_L_law_25 rfl ?_
        refine g_scriptLenV (pc := 26) (n := 6) dc_L_law_26 hL rfl ?_
        refine g_bipush (pc := 27) (v := 6) dc_L_law_27 rfl ?_
        refine g_isub (pc := 29) (v := 0) dc_L_law_29 (by decide) ?_
        refine g_icmp_gt (pc := 30) (tgt := 879) dc_L_law_30 rfl (fun _ => ?_) (fun hc => absurd hc (by decide))
        refine g_iconst (pc := 879) (v := 1) dc_L_law_879 rfl ?_
        exact g_zreturn dc_L_law_880 rfl rfl ⟨rfl, (Nat.le_of_ble_eq_true rfl), (Nat.le_of_ble_eq_true rfl)⟩
      · have hi2 : ¬ (p2.toInt ≤ 20) := fun h9 => hc2 (Int32.le_iff_toInt_le.mpr h9)
        refine g_iconst (pc := 33) (v := 0) dc_W_set_33 rfl ?_
        refine g_zretC (pc := 34) dc_W_set_34 rfl rfl ?_
        refine g_aload_n (pc := 426) dc_L_law_426 rfl ?_
        refine g_xload_n (pc := 427) dc_L_law_427 rfl ?_
        refine g_iload (pc := 428) dc_L_law_428 rfl ?_
        refine g_iconst (pc := 430) (v := 1) dc_L_law_430 rfl ?_
        refine g_iadd (pc := 431) (v := 1) dc_L_law_431 (by decide) ?_
        refine g_scriptLoadV (pc := 432) dc_L_law_432 (by rw [hL]; exact am_vin rfl) e1 ?_
        refine g_xload_n (pc := 433) dc_L_law_433 rfl ?_
        refine g_iload (pc := 434) dc_L_law_434 rfl ?_
        refine g_iconst (pc := 436) (v := 2) dc_L_law_436 rfl ?_
        refine g_iadd (pc := 437) (v := 2) dc_L_law_437 (by decide) ?_
        refine g_scriptLoadV (pc := 438) dc_L_law_438 (by rw [hL]; exact am_vin rfl) e2 ?_
        refine g_v2 (pc := 439) (M' := mt_M_set) dc_L_law_439 mo_M_set im_M_set se_M_set ln_L_68 rfl rfl rfl (Nat.le_of_ble_eq_true rfl) (Nat.le_of_ble_eq_true rfl) ?_
        refine g_aload_n (pc := 0) dc_M_set_0 rfl ?_
        refine g_iconst (pc := 1) (v := 0) dc_M_set_1 rfl ?_
        refine g_putfield (pc := 2) dc_M_set_2 fp_M_set_1 rfl (Nat.le_of_ble_eq_true rfl) rfl rfl ?_
        refine g_iload_n (pc := 5) dc_M_set_5 rfl ?_
        refine g_if_ne (pc := 6) (tgt := 19) dc_M_set_6 rfl (fun hc => absurd hc (by decide)) (fun _ => ?_)
        refine g_iload_n (pc := 9) dc_M_set_9 rfl ?_
        refine g_if_lt (pc := 10) (tgt := 19) dc_M_set_10 rfl (fun hc => absurd (Int32.lt_iff_toInt_lt.mp hc) (by show ¬ (p2.toInt < 0); omega)) (fun _ => ?_)
        refine g_iload_n (pc := 13) dc_M_set_13 rfl ?_
        refine g_bipush (pc := 14) (v := 20) dc_M_set_14 rfl ?_
        refine g_icmp_le (pc := 16) (tgt := 66) dc_M_set_16 rfl (fun hc => absurd (Int32.le_iff_toInt_le.mp hc) (by show ¬ (p2.toInt ≤ 20); omega)) (fun _ => ?_)
        refine g_iload_n (pc := 19) dc_M_set_19 rfl ?_
        refine g_iconst (pc := 20) (v := 1) dc_M_set_20 rfl ?_
        refine g_icmp_ne (pc := 21) (tgt := 34) dc_M_set_21 rfl (fun _ => ?_) (fun hc => absurd hc (by decide))
        refine g_iload_n (pc := 34) dc_M_set_34 rfl ?_
        refine g_iconst (pc := 35) (v := 2) dc_M_set_35 rfl ?_
        refine g_icmp_ne (pc := 36) (tgt := 50) dc_M_set_36 rfl (fun _ => ?_) (fun hc => absurd hc (by decide))
        refine g_iload_n (pc := 50) dc_M_set_50 rfl ?_
        refine g_iconst (pc := 51) (v := 3) dc_M_set_51 rfl ?_
        refine g_icmp_ne (pc := 52) (tgt := 70) dc_M_set_52 rfl (fun _ => ?_) (fun hc => absurd hc (by decide))
        refine g_iconst (pc := 70) (v := 0) dc_M_set_70 rfl ?_
        refine g_istore_n (pc := 71) dc_M_set_71 (by decide) ?_
        refine g_iload_n (pc := 72) dc_M_set_72 rfl ?_
        refine g_if_eq (pc := 73) (tgt := 83) dc_M_set_73 rfl (fun _ => ?_) (fun hc => absurd hc (by decide))
        refine g_iload_n (pc := 83) dc_M_set_83 rfl ?_
        refine g_zretC (pc := 84) dc_M_set_84 rfl rfl ?_
        refine g_icmp_eq (pc := 442) (tgt := 873) dc_L_law_442 rfl (fun _ => ?_) (fun hc => absurd hc (by decide))
        refine g_iinc (pc := 873) (v := 6) dc_L_law_873 rfl (by decide) (by decide) ?_
        refine g_goto (pc := 876) (tgt := 23) dc_L_law_876 rfl ?_
        refine g_iload (pc := 23) dc_L_law_23 rfl ?_
        refine g_xload_n (pc := 25) dc_L_law_25 rfl ?_
        refine g_scriptLenV (pc := 26) (n := 6) dc_L_law_26 hL rfl ?_
        refine g_bipush (pc := 27) (v := 6) dc_L_law_27 rfl ?_
        refine g_isub (pc := 29) (v := 0) dc_L_law_29 (by decide) ?_
        refine g_icmp_gt (pc := 30) (tgt := 879) dc_L_law_30 rfl (fun _ => ?_) (fun hc => absurd hc (by decide))
        refine g_iconst (pc := 879) (v := 1) dc_L_law_879 rfl ?_
        exact g_zreturn dc_L_law_880 rfl rfl ⟨rfl, (Nat.le_of_ble_eq_true rfl), (Nat.le_of_ble_eq_true rfl)⟩
  · refine g_aload_n (pc := 410) dc_L_law_410 rfl ?_
    refine g_xload_n (pc := 411) dc_L_law_411 rfl ?_
    refine g_iload (pc := 412) dc_L_law_412 rfl ?_
    refine g_iconst (pc := 414) (v := 1) dc_L_law_414 rfl ?_
    refine g_iadd (pc := 415) (v := 1) dc_L_law_415 (by decide) ?_
    refine g_scriptLoadV (pc := 416) dc_L_law_416 (by rw [hL]; exact am_vin rfl) e1 ?_
    refine g_xload_n (pc := 417) dc_L_law_417 rfl ?_
    refine g_iload (pc := 418) dc_L_law_418 rfl ?_
    refine g_iconst (pc := 420) (v := 2) dc_L_law_420 rfl ?_
    refine g_iadd (pc := 421) (v := 2) dc_L_law_421 (by decide) ?_
    refine g_scriptLoadV (pc := 422) dc_L_law_422 (by rw [hL]; exact am_vin rfl) e2 ?_
    refine g_v2 (pc := 423) (M' := mt_W_set) dc_L_law_423 mo_W_set im_W_set se_W_set ln_L_64 rfl rfl rfl (Nat.le_of_ble_eq_true rfl) (Nat.le_of_ble_eq_true rfl) ?_
    refine g_iload_n (pc := 0) dc_W_set_0 rfl ?_
    refine g_if_lt (pc := 1) (tgt := 13) dc_W_set_1 rfl (fun hc => absurd hc (by decide)) (fun _ => ?_)
    refine g_iload_n (pc := 4) dc_W_set_4 rfl ?_
    refine g_aload_n (pc := 5) dc_W_set_5 rfl ?_
    refine g_getfield (pc := 6) dc_W_set_6 fl_W_47 rfl rfl ?_
    refine g_alen (pc := 9) dc_W_set_9 rfl (by decide) ?_
    refine g_icmp_lt (pc := 10) (tgt := 15) dc_W_set_10 rfl (fun _ => ?_) (fun hc => absurd hc (by decide))
    refine g_iload_n (pc := 15) dc_W_set_15 rfl ?_
    refine g_gsLeast (pc := 16) dc_W_set_16 (am_t6 40 rfl rfl) ?_
    refine g_iload_n (pc := 19) dc_W_set_19 rfl ?_
    refine g_leastLoad (pc := 20) (v := 0) dc_W_set_20 (am_vin rfl) rfl ?_
    refine g_icmp_lt (pc := 21) (tgt := 33) dc_W_set_21 rfl (fun hc0 => ?_) (fun hc0 => ?_)
    · have hi0 : p2.toInt < 0 := Int32.lt_iff_toInt_lt.mp hc0
      refine g_iconst (pc := 33) (v := 0) dc_W_set_33 rfl ?_
      refine g_zretC (pc := 34) dc_W_set_34 rfl rfl ?_
      refine g_aload_n (pc := 426) dc_L_law_426 rfl ?_
      refine g_xload_n (pc := 427) dc_L_law_427 rfl ?_
      refine g_iload (pc := 428) dc_L_law_428 rfl ?_
      refine g_iconst (pc := 430) (v := 1) dc_L_law_430 rfl ?_
      refine g_iadd (pc := 431) (v := 1) dc_L_law_431 (by decide) ?_
      refine g_scriptLoadV (pc := 432) dc_L_law_432 (by rw [hL]; exact am_vin rfl) e1 ?_
      refine g_xload_n (pc := 433) dc_L_law_433 rfl ?_
      refine g_iload (pc := 434) dc_L_law_434 rfl ?_
      refine g_iconst (pc := 436) (v := 2) dc_L_law_436 rfl ?_
      refine g_iadd (pc := 437) (v := 2) dc_L_law_437 (by decide) ?_
      refine g_scriptLoadV (pc := 438) dc_L_law_438 (by rw [hL]; exact am_vin rfl) e2 ?_
      refine g_v2 (pc := 439) (M' := mt_M_set) dc_L_law_439 mo_M_set im_M_set se_M_set ln_L_68 rfl rfl rfl (Nat.le_of_ble_eq_true rfl) (Nat.le_of_ble_eq_true rfl) ?_
      refine g_aload_n (pc := 0) dc_M_set_0 rfl ?_
      refine g_iconst (pc := 1) (v := 0) dc_M_set_1 rfl ?_
      refine g_putfield (pc := 2) dc_M_set_2 fp_M_set_1 rfl (Nat.le_of_ble_eq_true rfl) rfl rfl ?_
      refine g_iload_n (pc := 5) dc_M_set_5 rfl ?_
      refine g_if_ne (pc := 6) (tgt := 19) dc_M_set_6 rfl (fun _ => ?_) (fun hc => absurd hc (by decide))
      refine g_iload_n (pc := 19) dc_M_set_19 rfl ?_
      refine g_iconst (pc := 20) (v := 1) dc_M_set_20 rfl ?_
      refine g_icmp_ne (pc := 21) (tgt := 34) dc_M_set_21 rfl (fun hc => absurd hc (by decide)) (fun _ => ?_)
      refine g_iload_n (pc := 24) dc_M_set_24 rfl ?_
      refine g_if_lt (pc := 25) (tgt := 34) dc_M_set_25 rfl (fun _ => ?_) (fun hc => absurd hc (fun h9 => h9 (Int32.lt_iff_toInt_lt.mpr (by show p2.toInt < 0; omega))))
      refine g_iload_n (pc := 34) dc_M_set_34 rfl ?_
      refine g_iconst (pc := 35) (v := 2) dc_M_set_35 rfl ?_
      refine g_icmp_ne (pc := 36) (tgt := 50) dc_M_set_36 rfl (fun _ => ?_) (fun hc => absurd hc (by decide))
      refine g_iload_n (pc := 50) dc_M_set_50 rfl ?_
      refine g_iconst (pc := 51) (v := 3) dc_M_set_51 rfl ?_
      refine g_icmp_ne (pc := 52) (tgt := 70) dc_M_set_52 rfl (fun _ => ?_) (fun hc => absurd hc (by decide))
      refine g_iconst (pc := 70) (v := 0) dc_M_set_70 rfl ?_
      refine g_istore_n (pc := 71) dc_M_set_71 (by decide) ?_
      refine g_iload_n (pc := 72) dc_M_set_72 rfl ?_
      refine g_if_eq (pc := 73) (tgt := 83) dc_M_set_73 rfl (fun _ => ?_) (fun hc => absurd hc (by decide))
      refine g_iload_n (pc := 83) dc_M_set_83 rfl ?_
      refine g_zretC (pc := 84) dc_M_set_84 rfl rfl ?_
      refine g_icmp_eq (pc := 442) (tgt := 873) dc_L_law_442 rfl (fun _ => ?_) (fun hc => absurd hc (by decide))
      refine g_iinc (pc := 873) (v := 6) dc_L_law_873 rfl (by decide) (by decide) ?_
      refine g_goto (pc := 876) (tgt := 23) dc_L_law_876 rfl ?_
      refine g_iload (pc := 23) dc_L_law_23 rfl ?_
      refine g_xload_n (pc := 25) dc_L_law_25 rfl ?_
      refine g_scriptLenV (pc := 26) (n := 6) dc_L_law_26 hL rfl ?_
      refine g_bipush (pc := 27) (v := 6) dc_L_law_27 rfl ?_
      refine g_isub (pc := 29) (v := 0) dc_L_law_29 (by decide) ?_
      refine g_icmp_gt (pc := 30) (tgt := 879) dc_L_law_30 rfl (fun _ => ?_) (fun hc => absurd hc (by decide))
      refine g_iconst (pc := 879) (v := 1) dc_L_law_879 rfl ?_
      exact g_zreturn dc_L_law_880 rfl rfl ⟨rfl, (Nat.le_of_ble_eq_true rfl), (Nat.le_of_ble_eq_true rfl)⟩
    · have hi0 : ¬ (p2.toInt < 0) := fun h9 => hc0 (Int32.lt_iff_toInt_lt.mpr h9)
      refine g_iload_n (pc := 24) dc_W_set_24 rfl ?_
      refine g_gsMost (pc := 25) dc_W_set_25 (am_t6 42 rfl rfl) ?_
      refine g_iload_n (pc := 28) dc_W_set_28 rfl ?_
      refine g_mostLoad (pc := 29) (v := 8) dc_W_set_29 (am_vin rfl) rfl ?_
      refine g_icmp_le (pc := 30) (tgt := 35) dc_W_set_30 rfl (fun hc2 => ?_) (fun hc2 => ?_)
      · have hi2 : p2.toInt ≤ 8 := Int32.le_iff_toInt_le.mp hc2
        refine g_aload_n (pc := 35) dc_W_set_35 rfl ?_
        refine g_getfield (pc := 36) dc_W_set_36 fl_W_47 rfl rfl ?_
        refine g_iload_n (pc := 39) dc_W_set_39 rfl ?_
        refine g_iload_n (pc := 40) dc_W_set_40 rfl ?_
        refine g_iastore (pc := 41) dc_W_set_41 rfl (am_vin rfl) ?_
        refine g_iconst (pc := 42) (v := 1) dc_W_set_42 rfl ?_
        refine g_zretC (pc := 43) dc_W_set_43 rfl rfl ?_
        refine g_aload_n (pc := 426) dc_L_law_426 rfl ?_
        refine g_xload_n (pc := 427) dc_L_law_427 rfl ?_
        refine g_iload (pc := 428) dc_L_law_428 rfl ?_
        refine g_iconst (pc := 430) (v := 1) dc_L_law_430 rfl ?_
        refine g_iadd (pc := 431) (v := 1) dc_L_law_431 (by decide) ?_
        refine g_scriptLoadV (pc := 432) dc_L_law_432 (by rw [hL]; exact am_vin rfl) e1 ?_
        refine g_xload_n (pc := 433) dc_L_law_433 rfl ?_
        refine g_iload (pc := 434) dc_L_law_434 rfl ?_
        refine g_iconst (pc := 436) (v := 2) dc_L_law_436 rfl ?_
        refine g_iadd (pc := 437) (v := 2) dc_L_law_437 (by decide) ?_
        refine g_scriptLoadV (pc := 438) dc_L_law_438 (by rw [hL]; exact am_vin rfl) e2 ?_
        refine g_v2 (pc := 439) (M' := mt_M_set) dc_L_law_439 mo_M_set im_M_set se_M_set ln_L_68 rfl rfl rfl (Nat.le_of_ble_eq_true rfl) (Nat.le_of_ble_eq_true rfl) ?_
        refine g_aload_n (pc := 0) dc_M_set_0 rfl ?_
        refine g_iconst (pc := 1) (v := 0) dc_M_set_1 rfl ?_
        refine g_putfield (pc := 2) dc_M_set_2 fp_M_set_1 rfl (Nat.le_of_ble_eq_true rfl) rfl rfl ?_
        refine g_iload_n (pc := 5) dc_M_set_5 rfl ?_
        refine g_if_ne (pc := 6) (tgt := 19) dc_M_set_6 rfl (fun _ => ?_) (fun hc => absurd hc (by decide))
        refine g_iload_n (pc := 19) dc_M_set_19 rfl ?_
        refine g_iconst (pc := 20) (v := 1) dc_M_set_20 rfl ?_
        refine g_icmp_ne (pc := 21) (tgt := 34) dc_M_set_21 rfl (fun hc => absurd hc (by decide)) (fun _ => ?_)
        refine g_iload_n (pc := 24) dc_M_set_24 rfl ?_
        refine g_if_lt (pc := 25) (tgt := 34) dc_M_set_25 rfl (fun hc => absurd (Int32.lt_iff_toInt_lt.mp hc) (by show ¬ (p2.toInt < 0); omega)) (fun _ => ?_)
        refine g_iload_n (pc := 28) dc_M_set_28 rfl ?_
        refine g_bipush (pc := 29) (v := 8) dc_M_set_29 rfl ?_
        refine g_icmp_le (pc := 31) (tgt := 66) dc_M_set_31 rfl (fun _ => ?_) (fun hc => absurd hc (fun h9 => h9 (Int32.le_iff_toInt_le.mpr (by show p2.toInt ≤ 8; omega))))
        refine g_iconst (pc := 66) (v := 1) dc_M_set_66 rfl ?_
        refine g_goto (pc := 67) (tgt := 71) dc_M_set_67 rfl ?_
        refine g_istore_n (pc := 71) dc_M_set_71 (by decide) ?_
        refine g_iload_n (pc := 72) dc_M_set_72 rfl ?_
        refine g_if_eq (pc := 73) (tgt := 83) dc_M_set_73 rfl (fun hc => absurd hc (by decide)) (fun _ => ?_)
        refine g_aload_n (pc := 76) dc_M_set_76 rfl ?_
        refine g_getfield (pc := 77) dc_M_set_77 fl_M_347 rfl rfl ?_
        refine g_iload_n (pc := 80) dc_M_set_80 rfl ?_
        refine g_iload_n (pc := 81) dc_M_set_81 rfl ?_
        refine g_iastore (pc := 82) dc_M_set_82 rfl (am_vin rfl) ?_
        refine g_iload_n (pc := 83) dc_M_set_83 rfl ?_
        refine g_zretC (pc := 84) dc_M_set_84 rfl rfl ?_
        refine g_icmp_eq (pc := 442) (tgt := 873) dc_L_law_442 rfl (fun _ => ?_) (fun hc => absurd hc (by decide))
        refine g_iinc (pc := 873) (v := 6) dc_L_law_873 rfl (by decide) (by decide) ?_
        refine g_goto (pc := 876) (tgt := 23) dc_L_law_876 rfl ?_
        refine g_iload (pc := 23) dc_L_law_23 rfl ?_
        refine g_xload_n (pc := 25) dc_L_law_25 rfl ?_
        refine g_scriptLenV (pc := 26) (n := 6) dc_L_law_26 hL rfl ?_
        refine g_bipush (pc := 27) (v := 6) dc_L_law_27 rfl ?_
        refine g_isub (pc := 29) (v := 0) dc_L_law_29 (by decide) ?_
        refine g_icmp_gt (pc := 30) (tgt := 879) dc_L_law_30 rfl (fun _ => ?_) (fun hc => absurd hc (by decide))
        refine g_iconst (pc := 879) (v := 1) dc_L_law_879 rfl ?_
        exact g_zreturn dc_L_law_880 rfl rfl ⟨rfl, (Nat.le_of_ble_eq_true rfl), (Nat.le_of_ble_eq_true rfl)⟩
      · have hi2 : ¬ (p2.toInt ≤ 8) := fun h9 => hc2 (Int32.le_iff_toInt_le.mpr h9)
        refine g_iconst (pc := 33) (v := 0) dc_W_set_33 rfl ?_
        refine g_zretC (pc := 34) dc_W_set_34 rfl rfl ?_
        refine g_aload_n (pc := 426) dc_L_law_426 rfl ?_
        refine g_xload_n (pc := 427) dc_L_law_427 rfl ?_
        refine g_iload (pc := 428) dc_L_law_428 rfl ?_
        refine g_iconst (pc := 430) (v := 1) dc_L_law_430 rfl ?_
        refine g_iadd (pc := 431) (v := 1) dc_L_law_431 (by decide) ?_
        refine g_scriptLoadV (pc := 432) dc_L_law_432 (by rw [hL]; exact am_vin rfl) e1 ?_
        refine g_xload_n (pc := 433) dc_L_law_433 rfl ?_
        refine g_iload (pc := 434) dc_L_law_434 rfl ?_
        refine g_iconst (pc := 436) (v := 2) dc_L_law_436 rfl ?_
        refine g_iadd (pc := 437) (v := 2) dc_L_law_437 (by decide) ?_
        refine g_scriptLoadV (pc := 438) dc_L_law_438 (by rw [hL]; exact am_vin rfl) e2 ?_
        refine g_v2 (pc := 439) (M' := mt_M_set) dc_L_law_439 mo_M_set im_M_set se_M_set ln_L_68 rfl rfl rfl (Nat.le_of_ble_eq_true rfl) (Nat.le_of_ble_eq_true rfl) ?_
        refine g_aload_n (pc := 0) dc_M_set_0 rfl ?_
        refine g_iconst (pc := 1) (v := 0) dc_M_set_1 rfl ?_
        refine g_putfield (pc := 2) dc_M_set_2 fp_M_set_1 rfl (Nat.le_of_ble_eq_true rfl) rfl rfl ?_
        refine g_iload_n (pc := 5) dc_M_set_5 rfl ?_
        refine g_if_ne (pc := 6) (tgt := 19) dc_M_set_6 rfl (fun _ => ?_) (fun hc => absurd hc (by decide))
        refine g_iload_n (pc := 19) dc_M_set_19 rfl ?_
        refine g_iconst (pc := 20) (v := 1) dc_M_set_20 rfl ?_
        refine g_icmp_ne (pc := 21) (tgt := 34) dc_M_set_21 rfl (fun hc => absurd hc (by decide)) (fun _ => ?_)
        refine g_iload_n (pc := 24) dc_M_set_24 rfl ?_
        refine g_if_lt (pc := 25) (tgt := 34) dc_M_set_25 rfl (fun hc => absurd (Int32.lt_iff_toInt_lt.mp hc) (by show ¬ (p2.toInt < 0); omega)) (fun _ => ?_)
        refine g_iload_n (pc := 28) dc_M_set_28 rfl ?_
        refine g_bipush (pc := 29) (v := 8) dc_M_set_29 rfl ?_
        refine g_icmp_le (pc := 31) (tgt := 66) dc_M_set_31 rfl (fun hc => absurd (Int32.le_iff_toInt_le.mp hc) (by show ¬ (p2.toInt ≤ 8); omega)) (fun _ => ?_)
        refine g_iload_n (pc := 34) dc_M_set_34 rfl ?_
        refine g_iconst (pc := 35) (v := 2) dc_M_set_35 rfl ?_
        refine g_icmp_ne (pc := 36) (tgt := 50) dc_M_set_36 rfl (fun _ => ?_) (fun hc => absurd hc (by decide))
        refine g_iload_n (pc := 50) dc_M_set_50 rfl ?_
        refine g_iconst (pc := 51) (v := 3) dc_M_set_51 rfl ?_
        refine g_icmp_ne (pc := 52) (tgt := 70) dc_M_set_52 rfl (fun _ => ?_) (fun hc => absurd hc (by decide))
        refine g_iconst (pc := 70) (v := 0) dc_M_set_70 rfl ?_
        refine g_istore_n (pc := 71) dc_M_set_71 (by decide) ?_
        refine g_iload_n (pc := 72) dc_M_set_72 rfl ?_
        refine g_if_eq (pc := 73) (tgt := 83) dc_M_set_73 rfl (fun _ => ?_) (fun hc => absurd hc (by decide))
        refine g_iload_n (pc := 83) dc_M_set_83 rfl ?_
        refine g_zretC (pc := 84) dc_M_set_84 rfl rfl ?_
        refine g_icmp_eq (pc := 442) (tgt := 873) dc_L_law_442 rfl (fun _ => ?_) (fun hc => absurd hc (by decide))
        refine g_iinc (pc := 873) (v := 6) dc_L_law_873 rfl (by decide) (by decide) ?_
        refine g_goto (pc := 876) (tgt := 23) dc_L_law_876 rfl ?_
        refine g_iload (pc := 23) dc_L_law_23 rfl ?_
        refine g_xload_n (pc := 25) dc_L_law_25 rfl ?_
        refine g_scriptLenV (pc := 26) (n := 6) dc_L_law_26 hL rfl ?_
        refine g_bipush (pc := 27) (v := 6) dc_L_law_27 rfl ?_
        refine g_isub (pc := 29) (v := 0) dc_L_law_29 (by decide) ?_
        refine g_icmp_gt (pc := 30) (tgt := 879) dc_L_law_30 rfl (fun _ => ?_) (fun hc => absurd hc (by decide))
        refine g_iconst (pc := 879) (v := 1) dc_L_law_879 rfl ?_
        exact g_zreturn dc_L_law_880 rfl rfl ⟨rfl, (Nat.le_of_ble_eq_true rfl), (Nat.le_of_ble_eq_true rfl)⟩
  · refine g_aload_n (pc := 410) dc_L_law_410 rfl ?_
    refine g_xload_n (pc := 411) dc_L_law_411 rfl ?_
    refine g_iload (pc := 412) dc_L_law_412 rfl ?_
    refine g_iconst (pc := 414) (v := 1) dc_L_law_414 rfl ?_
    refine g_iadd (pc := 415) (v := 1) dc_L_law_415 (by decide) ?_
    refine g_scriptLoadV (pc := 416) dc_L_law_416 (by rw [hL]; exact am_vin rfl) e1 ?_
    refine g_xload_n (pc := 417) dc_L_law_417 rfl ?_
    refine g_iload (pc := 418) dc_L_law_418 rfl ?_
    refine g_iconst (pc := 420) (v := 2) dc_L_law_420 rfl ?_
    refine g_iadd (pc := 421) (v := 2) dc_L_law_421 (by decide) ?_
    refine g_scriptLoadV (pc := 422) dc_L_law_422 (by rw [hL]; exact am_vin rfl) e2 ?_
    refine g_v2 (pc := 423) (M' := mt_W_set) dc_L_law_423 mo_W_set im_W_set se_W_set ln_L_64 rfl rfl rfl (Nat.le_of_ble_eq_true rfl) (Nat.le_of_ble_eq_true rfl) ?_
    refine g_iload_n (pc := 0) dc_W_set_0 rfl ?_
    refine g_if_lt (pc := 1) (tgt := 13) dc_W_set_1 rfl (fun hc => absurd hc (by decide)) (fun _ => ?_)
    refine g_iload_n (pc := 4) dc_W_set_4 rfl ?_
    refine g_aload_n (pc := 5) dc_W_set_5 rfl ?_
    refine g_getfield (pc := 6) dc_W_set_6 fl_W_47 rfl rfl ?_
    refine g_alen (pc := 9) dc_W_set_9 rfl (by decide) ?_
    refine g_icmp_lt (pc := 10) (tgt := 15) dc_W_set_10 rfl (fun _ => ?_) (fun hc => absurd hc (by decide))
    refine g_iload_n (pc := 15) dc_W_set_15 rfl ?_
    refine g_gsLeast (pc := 16) dc_W_set_16 (am_t6 40 rfl rfl) ?_
    refine g_iload_n (pc := 19) dc_W_set_19 rfl ?_
    refine g_leastLoad (pc := 20) (v := 0) dc_W_set_20 (am_vin rfl) rfl ?_
    refine g_icmp_lt (pc := 21) (tgt := 33) dc_W_set_21 rfl (fun hc0 => ?_) (fun hc0 => ?_)
    · have hi0 : p2.toInt < 0 := Int32.lt_iff_toInt_lt.mp hc0
      refine g_iconst (pc := 33) (v := 0) dc_W_set_33 rfl ?_
      refine g_zretC (pc := 34) dc_W_set_34 rfl rfl ?_
      refine g_aload_n (pc := 426) dc_L_law_426 rfl ?_
      refine g_xload_n (pc := 427) dc_L_law_427 rfl ?_
      refine g_iload (pc := 428) dc_L_law_428 rfl ?_
      refine g_iconst (pc := 430) (v := 1) dc_L_law_430 rfl ?_
      refine g_iadd (pc := 431) (v := 1) dc_L_law_431 (by decide) ?_
      refine g_scriptLoadV (pc := 432) dc_L_law_432 (by rw [hL]; exact am_vin rfl) e1 ?_
      refine g_xload_n (pc := 433) dc_L_law_433 rfl ?_
      refine g_iload (pc := 434) dc_L_law_434 rfl ?_
      refine g_iconst (pc := 436) (v := 2) dc_L_law_436 rfl ?_
      refine g_iadd (pc := 437) (v := 2) dc_L_law_437 (by decide) ?_
      refine g_scriptLoadV (pc := 438) dc_L_law_438 (by rw [hL]; exact am_vin rfl) e2 ?_
      refine g_v2 (pc := 439) (M' := mt_M_set) dc_L_law_439 mo_M_set im_M_set se_M_set ln_L_68 rfl rfl rfl (Nat.le_of_ble_eq_true rfl) (Nat.le_of_ble_eq_true rfl) ?_
      refine g_aload_n (pc := 0) dc_M_set_0 rfl ?_
      refine g_iconst (pc := 1) (v := 0) dc_M_set_1 rfl ?_
      refine g_putfield (pc := 2) dc_M_set_2 fp_M_set_1 rfl (Nat.le_of_ble_eq_true rfl) rfl rfl ?_
      refine g_iload_n (pc := 5) dc_M_set_5 rfl ?_
      refine g_if_ne (pc := 6) (tgt := 19) dc_M_set_6 rfl (fun _ => ?_) (fun hc => absurd hc (by decide))
      refine g_iload_n (pc := 19) dc_M_set_19 rfl ?_
      refine g_iconst (pc := 20) (v := 1) dc_M_set_20 rfl ?_
      refine g_icmp_ne (pc := 21) (tgt := 34) dc_M_set_21 rfl (fun _ => ?_) (fun hc => absurd hc (by decide))
      refine g_iload_n (pc := 34) dc_M_set_34 rfl ?_
      refine g_iconst (pc := 35) (v := 2) dc_M_set_35 rfl ?_
      refine g_icmp_ne (pc := 36) (tgt := 50) dc_M_set_36 rfl (fun hc => absurd hc (by decide)) (fun _ => ?_)
      refine g_iload_n (pc := 39) dc_M_set_39 rfl ?_
      refine g_if_lt (pc := 40) (tgt := 50) dc_M_set_40 rfl (fun _ => ?_) (fun hc => absurd hc (fun h9 => h9 (Int32.lt_iff_toInt_lt.mpr (by show p2.toInt < 0; omega))))
      refine g_iload_n (pc := 50) dc_M_set_50 rfl ?_
      refine g_iconst (pc := 51) (v := 3) dc_M_set_51 rfl ?_
      refine g_icmp_ne (pc := 52) (tgt := 70) dc_M_set_52 rfl (fun _ => ?_) (fun hc => absurd hc (by decide))
      refine g_iconst (pc := 70) (v := 0) dc_M_set_70 rfl ?_
      refine g_istore_n (pc := 71) dc_M_set_71 (by decide) ?_
      refine g_iload_n (pc := 72) dc_M_set_72 rfl ?_
      refine g_if_eq (pc := 73) (tgt := 83) dc_M_set_73 rfl (fun _ => ?_) (fun hc => absurd hc (by decide))
      refine g_iload_n (pc := 83) dc_M_set_83 rfl ?_
      refine g_zretC (pc := 84) dc_M_set_84 rfl rfl ?_
      refine g_icmp_eq (pc := 442) (tgt := 873) dc_L_law_442 rfl (fun _ => ?_) (fun hc => absurd hc (by decide))
      refine g_iinc (pc := 873) (v := 6) dc_L_law_873 rfl (by decide) (by decide) ?_
      refine g_goto (pc := 876) (tgt := 23) dc_L_law_876 rfl ?_
      refine g_iload (pc := 23) dc_L_law_23 rfl ?_
      refine g_xload_n (pc := 25) dc_L_law_25 rfl ?_
      refine g_scriptLenV (pc := 26) (n := 6) dc_L_law_26 hL rfl ?_
      refine g_bipush (pc := 27) (v := 6) dc_L_law_27 rfl ?_
      refine g_isub (pc := 29) (v := 0) dc_L_law_29 (by decide) ?_
      refine g_icmp_gt (pc := 30) (tgt := 879) dc_L_law_30 rfl (fun _ => ?_) (fun hc => absurd hc (by decide))
      refine g_iconst (pc := 879) (v := 1) dc_L_law_879 rfl ?_
      exact g_zreturn dc_L_law_880 rfl rfl ⟨rfl, (Nat.le_of_ble_eq_true rfl), (Nat.le_of_ble_eq_true rfl)⟩
    · have hi0 : ¬ (p2.toInt < 0) := fun h9 => hc0 (Int32.lt_iff_toInt_lt.mpr h9)
      refine g_iload_n (pc := 24) dc_W_set_24 rfl ?_
      refine g_gsMost (pc := 25) dc_W_set_25 (am_t6 42 rfl rfl) ?_
      refine g_iload_n (pc := 28) dc_W_set_28 rfl ?_
      refine g_mostLoad (pc := 29) (v := 1000) dc_W_set_29 (am_vin rfl) rfl ?_
      refine g_icmp_le (pc := 30) (tgt := 35) dc_W_set_30 rfl (fun hc2 => ?_) (fun hc2 => ?_)
      · have hi2 : p2.toInt ≤ 1000 := Int32.le_iff_toInt_le.mp hc2
        refine g_aload_n (pc := 35) dc_W_set_35 rfl ?_
        refine g_getfield (pc := 36) dc_W_set_36 fl_W_47 rfl rfl ?_
        refine g_iload_n (pc := 39) dc_W_set_39 rfl ?_
        refine g_iload_n (pc := 40) dc_W_set_40 rfl ?_
        refine g_iastore (pc := 41) dc_W_set_41 rfl (am_vin rfl) ?_
        refine g_iconst (pc := 42) (v := 1) dc_W_set_42 rfl ?_
        refine g_zretC (pc := 43) dc_W_set_43 rfl rfl ?_
        refine g_aload_n (pc := 426) dc_L_law_426 rfl ?_
        refine g_xload_n (pc := 427) dc_L_law_427 rfl ?_
        refine g_iload (pc := 428) dc_L_law_428 rfl ?_
        refine g_iconst (pc := 430) (v := 1) dc_L_law_430 rfl ?_
        refine g_iadd (pc := 431) (v := 1) dc_L_law_431 (by decide) ?_
        refine g_scriptLoadV (pc := 432) dc_L_law_432 (by rw [hL]; exact am_vin rfl) e1 ?_
        refine g_xload_n (pc := 433) dc_L_law_433 rfl ?_
        refine g_iload (pc := 434) dc_L_law_434 rfl ?_
        refine g_iconst (pc := 436) (v := 2) dc_L_law_436 rfl ?_
        refine g_iadd (pc := 437) (v := 2) dc_L_law_437 (by decide) ?_
        refine g_scriptLoadV (pc := 438) dc_L_law_438 (by rw [hL]; exact am_vin rfl) e2 ?_
        refine g_v2 (pc := 439) (M' := mt_M_set) dc_L_law_439 mo_M_set im_M_set se_M_set ln_L_68 rfl rfl rfl (Nat.le_of_ble_eq_true rfl) (Nat.le_of_ble_eq_true rfl) ?_
        refine g_aload_n (pc := 0) dc_M_set_0 rfl ?_
        refine g_iconst (pc := 1) (v := 0) dc_M_set_1 rfl ?_
        refine g_putfield (pc := 2) dc_M_set_2 fp_M_set_1 rfl (Nat.le_of_ble_eq_true rfl) rfl rfl ?_
        refine g_iload_n (pc := 5) dc_M_set_5 rfl ?_
        refine g_if_ne (pc := 6) (tgt := 19) dc_M_set_6 rfl (fun _ => ?_) (fun hc => absurd hc (by decide))
        refine g_iload_n (pc := 19) dc_M_set_19 rfl ?_
        refine g_iconst (pc := 20) (v := 1) dc_M_set_20 rfl ?_
        refine g_icmp_ne (pc := 21) (tgt := 34) dc_M_set_21 rfl (fun _ => ?_) (fun hc => absurd hc (by decide))
        refine g_iload_n (pc := 34) dc_M_set_34 rfl ?_
        refine g_iconst (pc := 35) (v := 2) dc_M_set_35 rfl ?_
        refine g_icmp_ne (pc := 36) (tgt := 50) dc_M_set_36 rfl (fun hc => absurd hc (by decide)) (fun _ => ?_)
        refine g_iload_n (pc := 39) dc_M_set_39 rfl ?_
        refine g_if_lt (pc := 40) (tgt := 50) dc_M_set_40 rfl (fun hc => absurd (Int32.lt_iff_toInt_lt.mp hc) (by show ¬ (p2.toInt < 0); omega)) (fun _ => ?_)
        refine g_iload_n (pc := 43) dc_M_set_43 rfl ?_
        refine g_sipush (pc := 44) (v := 1000) dc_M_set_44 rfl ?_
        refine g_icmp_le (pc := 47) (tgt := 66) dc_M_set_47 rfl (fun _ => ?_) (fun hc => absurd hc (fun h9 => h9 (Int32.le_iff_toInt_le.mpr (by show p2.toInt ≤ 1000; omega))))
        refine g_iconst (pc := 66) (v := 1) dc_M_set_66 rfl ?_
        refine g_goto (pc := 67) (tgt := 71) dc_M_set_67 rfl ?_
        refine g_istore_n (pc := 71) dc_M_set_71 (by decide) ?_
        refine g_iload_n (pc := 72) dc_M_set_72 rfl ?_
        refine g_if_eq (pc := 73) (tgt := 83) dc_M_set_73 rfl (fun hc => absurd hc (by decide)) (fun _ => ?_)
        refine g_aload_n (pc := 76) dc_M_set_76 rfl ?_
        refine g_getfield (pc := 77) dc_M_set_77 fl_M_347 rfl rfl ?_
        refine g_iload_n (pc := 80) dc_M_set_80 rfl ?_
        refine g_iload_n (pc := 81) dc_M_set_81 rfl ?_
        refine g_iastore (pc := 82) dc_M_set_82 rfl (am_vin rfl) ?_
        refine g_iload_n (pc := 83) dc_M_set_83 rfl ?_
        refine g_zretC (pc := 84) dc_M_set_84 rfl rfl ?_
        refine g_icmp_eq (pc := 442) (tgt := 873) dc_L_law_442 rfl (fun _ => ?_) (fun hc => absurd hc (by decide))
        refine g_iinc (pc := 873) (v := 6) dc_L_law_873 rfl (by decide) (by decide) ?_
        refine g_goto (pc := 876) (tgt := 23) dc_L_law_876 rfl ?_
        refine g_iload (pc := 23) dc_L_law_23 rfl ?_
        refine g_xload_n (pc := 25) dc_L_law_25 rfl ?_
        refine g_scriptLenV (pc := 26) (n := 6) dc_L_law_26 hL rfl ?_
        refine g_bipush (pc := 27) (v := 6) dc_L_law_27 rfl ?_
        refine g_isub (pc := 29) (v := 0) dc_L_law_29 (by decide) ?_
        refine g_icmp_gt (pc := 30) (tgt := 879) dc_L_law_30 rfl (fun _ => ?_) (fun hc => absurd hc (by decide))
        refine g_iconst (pc := 879) (v := 1) dc_L_law_879 rfl ?_
        exact g_zreturn dc_L_law_880 rfl rfl ⟨rfl, (Nat.le_of_ble_eq_true rfl), (Nat.le_of_ble_eq_true rfl)⟩
      · have hi2 : ¬ (p2.toInt ≤ 1000) := fun h9 => hc2 (Int32.le_iff_toInt_le.mpr h9)
        refine g_iconst (pc := 33) (v := 0) dc_W_set_33 rfl ?_
        refine g_zretC (pc := 34) dc_W_set_34 rfl rfl ?_
        refine g_aload_n (pc := 426) dc_L_law_426 rfl ?_
        refine g_xload_n (pc := 427) dc_L_law_427 rfl ?_
        refine g_iload (pc := 428) dc_L_law_428 rfl ?_
        refine g_iconst (pc := 430) (v := 1) dc_L_law_430 rfl ?_
        refine g_iadd (pc := 431) (v := 1) dc_L_law_431 (by decide) ?_
        refine g_scriptLoadV (pc := 432) dc_L_law_432 (by rw [hL]; exact am_vin rfl) e1 ?_
        refine g_xload_n (pc := 433) dc_L_law_433 rfl ?_
        refine g_iload (pc := 434) dc_L_law_434 rfl ?_
        refine g_iconst (pc := 436) (v := 2) dc_L_law_436 rfl ?_
        refine g_iadd (pc := 437) (v := 2) dc_L_law_437 (by decide) ?_
        refine g_scriptLoadV (pc := 438) dc_L_law_438 (by rw [hL]; exact am_vin rfl) e2 ?_
        refine g_v2 (pc := 439) (M' := mt_M_set) dc_L_law_439 mo_M_set im_M_set se_M_set ln_L_68 rfl rfl rfl (Nat.le_of_ble_eq_true rfl) (Nat.le_of_ble_eq_true rfl) ?_
        refine g_aload_n (pc := 0) dc_M_set_0 rfl ?_
        refine g_iconst (pc := 1) (v := 0) dc_M_set_1 rfl ?_
        refine g_putfield (pc := 2) dc_M_set_2 fp_M_set_1 rfl (Nat.le_of_ble_eq_true rfl) rfl rfl ?_
        refine g_iload_n (pc := 5) dc_M_set_5 rfl ?_
        refine g_if_ne (pc := 6) (tgt := 19) dc_M_set_6 rfl (fun _ => ?_) (fun hc => absurd hc (by decide))
        refine g_iload_n (pc := 19) dc_M_set_19 rfl ?_
        refine g_iconst (pc := 20) (v := 1) dc_M_set_20 rfl ?_
        refine g_icmp_ne (pc := 21) (tgt := 34) dc_M_set_21 rfl (fun _ => ?_) (fun hc => absurd hc (by decide))
        refine g_iload_n (pc := 34) dc_M_set_34 rfl ?_
        refine g_iconst (pc := 35) (v := 2) dc_M_set_35 rfl ?_
        refine g_icmp_ne (pc := 36) (tgt := 50) dc_M_set_36 rfl (fun hc => absurd hc (by decide)) (fun _ => ?_)
        refine g_iload_n (pc := 39) dc_M_set_39 rfl ?_
        refine g_if_lt (pc := 40) (tgt := 50) dc_M_set_40 rfl (fun hc => absurd (Int32.lt_iff_toInt_lt.mp hc) (by show ¬ (p2.toInt < 0); omega)) (fun _ => ?_)
        refine g_iload_n (pc := 43) dc_M_set_43 rfl ?_
        refine g_sipush (pc := 44) (v := 1000) dc_M_set_44 rfl ?_
        refine g_icmp_le (pc := 47) (tgt := 66) dc_M_set_47 rfl (fun hc => absurd (Int32.le_iff_toInt_le.mp hc) (by show ¬ (p2.toInt ≤ 1000); omega)) (fun _ => ?_)
        refine g_iload_n (pc := 50) dc_M_set_50 rfl ?_
        refine g_iconst (pc := 51) (v := 3) dc_M_set_51 rfl ?_
        refine g_icmp_ne (pc := 52) (tgt := 70) dc_M_set_52 rfl (fun _ => ?_) (fun hc => absurd hc (by decide))
        refine g_iconst (pc := 70) (v := 0) dc_M_set_70 rfl ?_
        refine g_istore_n (pc := 71) dc_M_set_71 (by decide) ?_
        refine g_iload_n (pc := 72) dc_M_set_72 rfl ?_
        refine g_if_eq (pc := 73) (tgt := 83) dc_M_set_73 rfl (fun _ => ?_) (fun hc => absurd hc (by decide))
        refine g_iload_n (pc := 83) dc_M_set_83 rfl ?_
        refine g_zretC (pc := 84) dc_M_set_84 rfl rfl ?_
        refine g_icmp_eq (pc := 442) (tgt := 873) dc_L_law_442 rfl (fun _ => ?_) (fun hc => absurd hc (by decide))
        refine g_iinc (pc := 873) (v := 6) dc_L_law_873 rfl (by decide) (by decide) ?_
        refine g_goto (pc := 876) (tgt := 23) dc_L_law_876 rfl ?_
        refine g_iload (pc := 23) dc_L_law_23 rfl ?_
        refine g_xload_n (pc := 25) dc_L_law_25 rfl ?_
        refine g_scriptLenV (pc := 26) (n := 6) dc_L_law_26 hL rfl ?_
        refine g_bipush (pc := 27) (v := 6) dc_L_law_27 rfl ?_
        refine g_isub (pc := 29) (v := 0) dc_L_law_29 (by decide) ?_
        refine g_icmp_gt (pc := 30) (tgt := 879) dc_L_law_30 rfl (fun _ => ?_) (fun hc => absurd hc (by decide))
        refine g_iconst (pc := 879) (v := 1) dc_L_law_879 rfl ?_
        exact g_zreturn dc_L_law_880 rfl rfl ⟨rfl, (Nat.le_of_ble_eq_true rfl), (Nat.le_of_ble_eq_true rfl)⟩
  · refine g_aload_n (pc := 410) dc_L_law_410 rfl ?_
    refine g_xload_n (pc := 411) dc_L_law_411 rfl ?_
    refine g_iload (pc := 412) dc_L_law_412 rfl ?_
    refine g_iconst (pc := 414) (v := 1) dc_L_law_414 rfl ?_
    refine g_iadd (pc := 415) (v := 1) dc_L_law_415 (by decide) ?_
    refine g_scriptLoadV (pc := 416) dc_L_law_416 (by rw [hL]; exact am_vin rfl) e1 ?_
    refine g_xload_n (pc := 417) dc_L_law_417 rfl ?_
    refine g_iload (pc := 418) dc_L_law_418 rfl ?_
    refine g_iconst (pc := 420) (v := 2) dc_L_law_420 rfl ?_
    refine g_iadd (pc := 421) (v := 2) dc_L_law_421 (by decide) ?_
    refine g_scriptLoadV (pc := 422) dc_L_law_422 (by rw [hL]; exact am_vin rfl) e2 ?_
    refine g_v2 (pc := 423) (M' := mt_W_set) dc_L_law_423 mo_W_set im_W_set se_W_set ln_L_64 rfl rfl rfl (Nat.le_of_ble_eq_true rfl) (Nat.le_of_ble_eq_true rfl) ?_
    refine g_iload_n (pc := 0) dc_W_set_0 rfl ?_
    refine g_if_lt (pc := 1) (tgt := 13) dc_W_set_1 rfl (fun hc => absurd hc (by decide)) (fun _ => ?_)
    refine g_iload_n (pc := 4) dc_W_set_4 rfl ?_
    refine g_aload_n (pc := 5) dc_W_set_5 rfl ?_
    refine g_getfield (pc := 6) dc_W_set_6 fl_W_47 rfl rfl ?_
    refine g_alen (pc := 9) dc_W_set_9 rfl (by decide) ?_
    refine g_icmp_lt (pc := 10) (tgt := 15) dc_W_set_10 rfl (fun _ => ?_) (fun hc => absurd hc (by decide))
    refine g_iload_n (pc := 15) dc_W_set_15 rfl ?_
    refine g_gsLeast (pc := 16) dc_W_set_16 (am_t6 40 rfl rfl) ?_
    refine g_iload_n (pc := 19) dc_W_set_19 rfl ?_
    refine g_leastLoad (pc := 20) (v := 1) dc_W_set_20 (am_vin rfl) rfl ?_
    refine g_icmp_lt (pc := 21) (tgt := 33) dc_W_set_21 rfl (fun hc0 => ?_) (fun hc0 => ?_)
    · have hi0 : p2.toInt < 1 := Int32.lt_iff_toInt_lt.mp hc0
      refine g_iconst (pc := 33) (v := 0) dc_W_set_33 rfl ?_
      refine g_zretC (pc := 34) dc_W_set_34 rfl rfl ?_
      refine g_aload_n (pc := 426) dc_L_law_426 rfl ?_
      refine g_xload_n (pc := 427) dc_L_law_427 rfl ?_
      refine g_iload (pc := 428) dc_L_law_428 rfl ?_
      refine g_iconst (pc := 430) (v := 1) dc_L_law_430 rfl ?_
      refine g_iadd (pc := 431) (v := 1) dc_L_law_431 (by decide) ?_
      refine g_scriptLoadV (pc := 432) dc_L_law_432 (by rw [hL]; exact am_vin rfl) e1 ?_
      refine g_xload_n (pc := 433) dc_L_law_433 rfl ?_
      refine g_iload (pc := 434) dc_L_law_434 rfl ?_
      refine g_iconst (pc := 436) (v := 2) dc_L_law_436 rfl ?_
      refine g_iadd (pc := 437) (v := 2) dc_L_law_437 (by decide) ?_
      refine g_scriptLoadV (pc := 438) dc_L_law_438 (by rw [hL]; exact am_vin rfl) e2 ?_
      refine g_v2 (pc := 439) (M' := mt_M_set) dc_L_law_439 mo_M_set im_M_set se_M_set ln_L_68 rfl rfl rfl (Nat.le_of_ble_eq_true rfl) (Nat.le_of_ble_eq_true rfl) ?_
      refine g_aload_n (pc := 0) dc_M_set_0 rfl ?_
      refine g_iconst (pc := 1) (v := 0) dc_M_set_1 rfl ?_
      refine g_putfield (pc := 2) dc_M_set_2 fp_M_set_1 rfl (Nat.le_of_ble_eq_true rfl) rfl rfl ?_
      refine g_iload_n (pc := 5) dc_M_set_5 rfl ?_
      refine g_if_ne (pc := 6) (tgt := 19) dc_M_set_6 rfl (fun _ => ?_) (fun hc => absurd hc (by decide))
      refine g_iload_n (pc := 19) dc_M_set_19 rfl ?_
      refine g_iconst (pc := 20) (v := 1) dc_M_set_20 rfl ?_
      refine g_icmp_ne (pc := 21) (tgt := 34) dc_M_set_21 rfl (fun _ => ?_) (fun hc => absurd hc (by decide))
      refine g_iload_n (pc := 34) dc_M_set_34 rfl ?_
      refine g_iconst (pc := 35) (v := 2) dc_M_set_35 rfl ?_
      refine g_icmp_ne (pc := 36) (tgt := 50) dc_M_set_36 rfl (fun _ => ?_) (fun hc => absurd hc (by decide))
      refine g_iload_n (pc := 50) dc_M_set_50 rfl ?_
      refine g_iconst (pc := 51) (v := 3) dc_M_set_51 rfl ?_
      refine g_icmp_ne (pc := 52) (tgt := 70) dc_M_set_52 rfl (fun hc => absurd hc (by decide)) (fun _ => ?_)
      refine g_iload_n (pc := 55) dc_M_set_55 rfl ?_
      refine g_iconst (pc := 56) (v := 1) dc_M_set_56 rfl ?_
      refine g_icmp_lt (pc := 57) (tgt := 70) dc_M_set_57 rfl (fun _ => ?_) (fun hc => absurd hc (fun h9 => h9 (Int32.lt_iff_toInt_lt.mpr (by show p2.toInt < 1; omega))))
      refine g_iconst (pc := 70) (v := 0) dc_M_set_70 rfl ?_
      refine g_istore_n (pc := 71) dc_M_set_71 (by decide) ?_
      refine g_iload_n (pc := 72) dc_M_set_72 rfl ?_
      refine g_if_eq (pc := 73) (tgt := 83) dc_M_set_73 rfl (fun _ => ?_) (fun hc => absurd hc (by decide))
      refine g_iload_n (pc := 83) dc_M_set_83 rfl ?_
      refine g_zretC (pc := 84) dc_M_set_84 rfl rfl ?_
      refine g_icmp_eq (pc := 442) (tgt := 873) dc_L_law_442 rfl (fun _ => ?_) (fun hc => absurd hc (by decide))
      refine g_iinc (pc := 873) (v := 6) dc_L_law_873 rfl (by decide) (by decide) ?_
      refine g_goto (pc := 876) (tgt := 23) dc_L_law_876 rfl ?_
      refine g_iload (pc := 23) dc_L_law_23 rfl ?_
      refine g_xload_n (pc := 25) dc_L_law_25 rfl ?_
      refine g_scriptLenV (pc := 26) (n := 6) dc_L_law_26 hL rfl ?_
      refine g_bipush (pc := 27) (v := 6) dc_L_law_27 rfl ?_
      refine g_isub (pc := 29) (v := 0) dc_L_law_29 (by decide) ?_
      refine g_icmp_gt (pc := 30) (tgt := 879) dc_L_law_30 rfl (fun _ => ?_) (fun hc => absurd hc (by decide))
      refine g_iconst (pc := 879) (v := 1) dc_L_law_879 rfl ?_
      exact g_zreturn dc_L_law_880 rfl rfl ⟨rfl, (Nat.le_of_ble_eq_true rfl), (Nat.le_of_ble_eq_true rfl)⟩
    · have hi0 : ¬ (p2.toInt < 1) := fun h9 => hc0 (Int32.lt_iff_toInt_lt.mpr h9)
      refine g_iload_n (pc := 24) dc_W_set_24 rfl ?_
      refine g_gsMost (pc := 25) dc_W_set_25 (am_t6 42 rfl rfl) ?_
      refine g_iload_n (pc := 28) dc_W_set_28 rfl ?_
      refine g_mostLoad (pc := 29) (v := 50) dc_W_set_29 (am_vin rfl) rfl ?_
      refine g_icmp_le (pc := 30) (tgt := 35) dc_W_set_30 rfl (fun hc2 => ?_) (fun hc2 => ?_)
      · have hi2 : p2.toInt ≤ 50 := Int32.le_iff_toInt_le.mp hc2
        refine g_aload_n (pc := 35) dc_W_set_35 rfl ?_
        refine g_getfield (pc := 36) dc_W_set_36 fl_W_47 rfl rfl ?_
        refine g_iload_n (pc := 39) dc_W_set_39 rfl ?_
        refine g_iload_n (pc := 40) dc_W_set_40 rfl ?_
        refine g_iastore (pc := 41) dc_W_set_41 rfl (am_vin rfl) ?_
        refine g_iconst (pc := 42) (v := 1) dc_W_set_42 rfl ?_
        refine g_zretC (pc := 43) dc_W_set_43 rfl rfl ?_
        refine g_aload_n (pc := 426) dc_L_law_426 rfl ?_
        refine g_xload_n (pc := 427) dc_L_law_427 rfl ?_
        refine g_iload (pc := 428) dc_L_law_428 rfl ?_
        refine g_iconst (pc := 430) (v := 1) dc_L_law_430 rfl ?_
        refine g_iadd (pc := 431) (v := 1) dc_L_law_431 (by decide) ?_
        refine g_scriptLoadV (pc := 432) dc_L_law_432 (by rw [hL]; exact am_vin rfl) e1 ?_
        refine g_xload_n (pc := 433) dc_L_law_433 rfl ?_
        refine g_iload (pc := 434) dc_L_law_434 rfl ?_
        refine g_iconst (pc := 436) (v := 2) dc_L_law_436 rfl ?_
        refine g_iadd (pc := 437) (v := 2) dc_L_law_437 (by decide) ?_
        refine g_scriptLoadV (pc := 438) dc_L_law_438 (by rw [hL]; exact am_vin rfl) e2 ?_
        refine g_v2 (pc := 439) (M' := mt_M_set) dc_L_law_439 mo_M_set im_M_set se_M_set ln_L_68 rfl rfl rfl (Nat.le_of_ble_eq_true rfl) (Nat.le_of_ble_eq_true rfl) ?_
        refine g_aload_n (pc := 0) dc_M_set_0 rfl ?_
        refine g_iconst (pc := 1) (v := 0) dc_M_set_1 rfl ?_
        refine g_putfield (pc := 2) dc_M_set_2 fp_M_set_1 rfl (Nat.le_of_ble_eq_true rfl) rfl rfl ?_
        refine g_iload_n (pc := 5) dc_M_set_5 rfl ?_
        refine g_if_ne (pc := 6) (tgt := 19) dc_M_set_6 rfl (fun _ => ?_) (fun hc => absurd hc (by decide))
        refine g_iload_n (pc := 19) dc_M_set_19 rfl ?_
        refine g_iconst (pc := 20) (v := 1) dc_M_set_20 rfl ?_
        refine g_icmp_ne (pc := 21) (tgt := 34) dc_M_set_21 rfl (fun _ => ?_) (fun hc => absurd hc (by decide))
        refine g_iload_n (pc := 34) dc_M_set_34 rfl ?_
        refine g_iconst (pc := 35) (v := 2) dc_M_set_35 rfl ?_
        refine g_icmp_ne (pc := 36) (tgt := 50) dc_M_set_36 rfl (fun _ => ?_) (fun hc => absurd hc (by decide))
        refine g_iload_n (pc := 50) dc_M_set_50 rfl ?_
        refine g_iconst (pc := 51) (v := 3) dc_M_set_51 rfl ?_
        refine g_icmp_ne (pc := 52) (tgt := 70) dc_M_set_52 rfl (fun hc => absurd hc (by decide)) (fun _ => ?_)
        refine g_iload_n (pc := 55) dc_M_set_55 rfl ?_
        refine g_iconst (pc := 56) (v := 1) dc_M_set_56 rfl ?_
        refine g_icmp_lt (pc := 57) (tgt := 70) dc_M_set_57 rfl (fun hc => absurd (Int32.lt_iff_toInt_lt.mp hc) (by show ¬ (p2.toInt < 1); omega)) (fun _ => ?_)
        refine g_iload_n (pc := 60) dc_M_set_60 rfl ?_
        refine g_bipush (pc := 61) (v := 50) dc_M_set_61 rfl ?_
        refine g_icmp_gt (pc := 63) (tgt := 70) dc_M_set_63 rfl (fun hc => absurd (Int32.lt_iff_toInt_lt.mp hc) (by show ¬ (50 < p2.toInt); omega)) (fun _ => ?_)
        refine g_iconst (pc := 66) (v := 1) dc_M_set_66 rfl ?_
        refine g_goto (pc := 67) (tgt := 71) dc_M_set_67 rfl ?_
        refine g_istore_n (pc := 71) dc_M_set_71 (by decide) ?_
        refine g_iload_n (pc := 72) dc_M_set_72 rfl ?_
        refine g_if_eq (pc := 73) (tgt := 83) dc_M_set_73 rfl (fun hc => absurd hc (by decide)) (fun _ => ?_)
        refine g_aload_n (pc := 76) dc_M_set_76 rfl ?_
        refine g_getfield (pc := 77) dc_M_set_77 fl_M_347 rfl rfl ?_
        refine g_iload_n (pc := 80) dc_M_set_80 rfl ?_
        refine g_iload_n (pc := 81) dc_M_set_81 rfl ?_
        refine g_iastore (pc := 82) dc_M_set_82 rfl (am_vin rfl) ?_
        refine g_iload_n (pc := 83) dc_M_set_83 rfl ?_
        refine g_zretC (pc := 84) dc_M_set_84 rfl rfl ?_
        refine g_icmp_eq (pc := 442) (tgt := 873) dc_L_law_442 rfl (fun _ => ?_) (fun hc => absurd hc (by decide))
        refine g_iinc (pc := 873) (v := 6) dc_L_law_873 rfl (by decide) (by decide) ?_
        refine g_goto (pc := 876) (tgt := 23) dc_L_law_876 rfl ?_
        refine g_iload (pc := 23) dc_L_law_23 rfl ?_
        refine g_xload_n (pc := 25) dc_L_law_25 rfl ?_
        refine g_scriptLenV (pc := 26) (n := 6) dc_L_law_26 hL rfl ?_
        refine g_bipush (pc := 27) (v := 6) dc_L_law_27 rfl ?_
        refine g_isub (pc := 29) (v := 0) dc_L_law_29 (by decide) ?_
        refine g_icmp_gt (pc := 30) (tgt := 879) dc_L_law_30 rfl (fun _ => ?_) (fun hc => absurd hc (by decide))
        refine g_iconst (pc := 879) (v := 1) dc_L_law_879 rfl ?_
        exact g_zreturn dc_L_law_880 rfl rfl ⟨rfl, (Nat.le_of_ble_eq_true rfl), (Nat.le_of_ble_eq_true rfl)⟩
      · have hi2 : ¬ (p2.toInt ≤ 50) := fun h9 => hc2 (Int32.le_iff_toInt_le.mpr h9)
        refine g_iconst (pc := 33) (v := 0) dc_W_set_33 rfl ?_
        refine g_zretC (pc := 34) dc_W_set_34 rfl rfl ?_
        refine g_aload_n (pc := 426) dc_L_law_426 rfl ?_
        refine g_xload_n (pc := 427) dc_L_law_427 rfl ?_
        refine g_iload (pc := 428) dc_L_law_428 rfl ?_
        refine g_iconst (pc := 430) (v := 1) dc_L_law_430 rfl ?_
        refine g_iadd (pc := 431) (v := 1) dc_L_law_431 (by decide) ?_
        refine g_scriptLoadV (pc := 432) dc_L_law_432 (by rw [hL]; exact am_vin rfl) e1 ?_
        refine g_xload_n (pc := 433) dc_L_law_433 rfl ?_
        refine g_iload (pc := 434) dc_L_law_434 rfl ?_
        refine g_iconst (pc := 436) (v := 2) dc_L_law_436 rfl ?_
        refine g_iadd (pc := 437) (v := 2) dc_L_law_437 (by decide) ?_
        refine g_scriptLoadV (pc := 438) dc_L_law_438 (by rw [hL]; exact am_vin rfl) e2 ?_
        refine g_v2 (pc := 439) (M' := mt_M_set) dc_L_law_439 mo_M_set im_M_set se_M_set ln_L_68 rfl rfl rfl (Nat.le_of_ble_eq_true rfl) (Nat.le_of_ble_eq_true rfl) ?_
        refine g_aload_n (pc := 0) dc_M_set_0 rfl ?_
        refine g_iconst (pc := 1) (v := 0) dc_M_set_1 rfl ?_
        refine g_putfield (pc := 2) dc_M_set_2 fp_M_set_1 rfl (Nat.le_of_ble_eq_true rfl) rfl rfl ?_
        refine g_iload_n (pc := 5) dc_M_set_5 rfl ?_
        refine g_if_ne (pc := 6) (tgt := 19) dc_M_set_6 rfl (fun _ => ?_) (fun hc => absurd hc (by decide))
        refine g_iload_n (pc := 19) dc_M_set_19 rfl ?_
        refine g_iconst (pc := 20) (v := 1) dc_M_set_20 rfl ?_
        refine g_icmp_ne (pc := 21) (tgt := 34) dc_M_set_21 rfl (fun _ => ?_) (fun hc => absurd hc (by decide))
        refine g_iload_n (pc := 34) dc_M_set_34 rfl ?_
        refine g_iconst (pc := 35) (v := 2) dc_M_set_35 rfl ?_
        refine g_icmp_ne (pc := 36) (tgt := 50) dc_M_set_36 rfl (fun _ => ?_) (fun hc => absurd hc (by decide))
        refine g_iload_n (pc := 50) dc_M_set_50 rfl ?_
        refine g_iconst (pc := 51) (v := 3) dc_M_set_51 rfl ?_
        refine g_icmp_ne (pc := 52) (tgt := 70) dc_M_set_52 rfl (fun hc => absurd hc (by decide)) (fun _ => ?_)
        refine g_iload_n (pc := 55) dc_M_set_55 rfl ?_
        refine g_iconst (pc := 56) (v := 1) dc_M_set_56 rfl ?_
        refine g_icmp_lt (pc := 57) (tgt := 70) dc_M_set_57 rfl (fun hc => absurd (Int32.lt_iff_toInt_lt.mp hc) (by show ¬ (p2.toInt < 1); omega)) (fun _ => ?_)
        refine g_iload_n (pc := 60) dc_M_set_60 rfl ?_
        refine g_bipush (pc := 61) (v := 50) dc_M_set_61 rfl ?_
        refine g_icmp_gt (pc := 63) (tgt := 70) dc_M_set_63 rfl (fun _ => ?_) (fun hc => absurd hc (fun h9 => h9 (Int32.lt_iff_toInt_lt.mpr (by show 50 < p2.toInt; omega))))
        refine g_iconst (pc := 70) (v := 0) dc_M_set_70 rfl ?_
        refine g_istore_n (pc := 71) dc_M_set_71 (by decide) ?_
        refine g_iload_n (pc := 72) dc_M_set_72 rfl ?_
        refine g_if_eq (pc := 73) (tgt := 83) dc_M_set_73 rfl (fun _ => ?_) (fun hc => absurd hc (by decide))
        refine g_iload_n (pc := 83) dc_M_set_83 rfl ?_
        refine g_zretC (pc := 84) dc_M_set_84 rfl rfl ?_
        refine g_icmp_eq (pc := 442) (tgt := 873) dc_L_law_442 rfl (fun _ => ?_) (fun hc => absurd hc (by decide))
        refine g_iinc (pc := 873) (v := 6) dc_L_law_873 rfl (by decide) (by decide) ?_
        refine g_goto (pc := 876) (tgt := 23) dc_L_law_876 rfl ?_
        refine g_iload (pc := 23) dc_L_law_23 rfl ?_
        refine g_xload_n (pc := 25) dc_L_law_25 rfl ?_
        refine g_scriptLenV (pc := 26) (n := 6) dc_L_law_26 hL rfl ?_
        refine g_bipush (pc := 27) (v := 6) dc_L_law_27 rfl ?_
        refine g_isub (pc := 29) (v := 0) dc_L_law_29 (by decide) ?_
        refine g_icmp_gt (pc := 30) (tgt := 879) dc_L_law_30 rfl (fun _ => ?_) (fun hc => absurd hc (by decide))
        refine g_iconst (pc := 879) (v := 1) dc_L_law_879 rfl ?_
        exact g_zreturn dc_L_law_880 rfl rfl ⟨rfl, (Nat.le_of_ble_eq_true rfl), (Nat.le_of_ble_eq_true rfl)⟩
  · refine g_aload_n (pc := 410) dc_L_law_410 rfl ?_
    refine g_xload_n (pc := 411) dc_L_law_411 rfl ?_
    refine g_iload (pc := 412) dc_L_law_412 rfl ?_
    refine g_iconst (pc := 414) (v := 1) dc_L_law_414 rfl ?_
    refine g_iadd (pc := 415) (v := 1) dc_L_law_415 (by decide) ?_
    refine g_scriptLoadV (pc := 416) dc_L_law_416 (by rw [hL]; exact am_vin rfl) e1 ?_
    refine g_xload_n (pc := 417) dc_L_law_417 rfl ?_
    refine g_iload (pc := 418) dc_L_law_418 rfl ?_
    refine g_iconst (pc := 420) (v := 2) dc_L_law_420 rfl ?_
    refine g_iadd (pc := 421) (v := 2) dc_L_law_421 (by decide) ?_
    refine g_scriptLoadV (pc := 422) dc_L_law_422 (by rw [hL]; exact am_vin rfl) e2 ?_
    refine g_v2 (pc := 423) (M' := mt_W_set) dc_L_law_423 mo_W_set im_W_set se_W_set ln_L_64 rfl rfl rfl (Nat.le_of_ble_eq_true rfl) (Nat.le_of_ble_eq_true rfl) ?_
    refine g_iload_n (pc := 0) dc_W_set_0 rfl ?_
    refine g_if_lt (pc := 1) (tgt := 13) dc_W_set_1 rfl (fun _ => ?_) (fun hc => absurd hc (fun h9 => h9 (Int32.lt_iff_toInt_lt.mpr (by show p1.toInt < 0; omega))))
    refine g_iconst (pc := 13) (v := 0) dc_W_set_13 rfl ?_
    refine g_zretC (pc := 14) dc_W_set_14 rfl rfl ?_
    refine g_aload_n (pc := 426) dc_L_law_426 rfl ?_
    refine g_xload_n (pc := 427) dc_L_law_427 rfl ?_
    refine g_iload (pc := 428) dc_L_law_428 rfl ?_
    refine g_iconst (pc := 430) (v := 1) dc_L_law_430 rfl ?_
    refine g_iadd (pc := 431) (v := 1) dc_L_law_431 (by decide) ?_
    refine g_scriptLoadV (pc := 432) dc_L_law_432 (by rw [hL]; exact am_vin rfl) e1 ?_
    refine g_xload_n (pc := 433) dc_L_law_433 rfl ?_
    refine g_iload (pc := 434) dc_L_law_434 rfl ?_
    refine g_iconst (pc := 436) (v := 2) dc_L_law_436 rfl ?_
    refine g_iadd (pc := 437) (v := 2) dc_L_law_437 (by decide) ?_
    refine g_scriptLoadV (pc := 438) dc_L_law_438 (by rw [hL]; exact am_vin rfl) e2 ?_
    refine g_v2 (pc := 439) (M' := mt_M_set) dc_L_law_439 mo_M_set im_M_set se_M_set ln_L_68 rfl rfl rfl (Nat.le_of_ble_eq_true rfl) (Nat.le_of_ble_eq_true rfl) ?_
    refine g_aload_n (pc := 0) dc_M_set_0 rfl ?_
    refine g_iconst (pc := 1) (v := 0) dc_M_set_1 rfl ?_
    refine g_putfield (pc := 2) dc_M_set_2 fp_M_set_1 rfl (Nat.le_of_ble_eq_true rfl) rfl rfl ?_
    refine g_iload_n (pc := 5) dc_M_set_5 rfl ?_
    refine g_if_ne (pc := 6) (tgt := 19) dc_M_set_6 rfl (fun _ => ?_) (fun hc => absurd hc (fun h9 => h9 (fun h8 => absurd (Int32.toInt_inj.symm.mp h8) (by show ¬ (p1.toInt = 0); omega))))
    refine g_iload_n (pc := 19) dc_M_set_19 rfl ?_
    refine g_iconst (pc := 20) (v := 1) dc_M_set_20 rfl ?_
    refine g_icmp_ne (pc := 21) (tgt := 34) dc_M_set_21 rfl (fun _ => ?_) (fun hc => absurd hc (fun h9 => h9 (fun h8 => absurd (Int32.toInt_inj.symm.mp h8) (by show ¬ (p1.toInt = 1); omega))))
    refine g_iload_n (pc := 34) dc_M_set_34 rfl ?_
    refine g_iconst (pc := 35) (v := 2) dc_M_set_35 rfl ?_
    refine g_icmp_ne (pc := 36) (tgt := 50) dc_M_set_36 rfl (fun _ => ?_) (fun hc => absurd hc (fun h9 => h9 (fun h8 => absurd (Int32.toInt_inj.symm.mp h8) (by show ¬ (p1.toInt = 2); omega))))
    refine g_iload_n (pc := 50) dc_M_set_50 rfl ?_
    refine g_iconst (pc := 51) (v := 3) dc_M_set_51 rfl ?_
    refine g_icmp_ne (pc := 52) (tgt := 70) dc_M_set_52 rfl (fun _ => ?_) (fun hc => absurd hc (fun h9 => h9 (fun h8 => absurd (Int32.toInt_inj.symm.mp h8) (by show ¬ (p1.toInt = 3); omega))))
    refine g_iconst (pc := 70) (v := 0) dc_M_set_70 rfl ?_
    refine g_istore_n (pc := 71) dc_M_set_71 (by decide) ?_
    refine g_iload_n (pc := 72) dc_M_set_72 rfl ?_
    refine g_if_eq (pc := 73) (tgt := 83) dc_M_set_73 rfl (fun _ => ?_) (fun hc => absurd hc (by decide))
    refine g_iload_n (pc := 83) dc_M_set_83 rfl ?_
    refine g_zretC (pc := 84) dc_M_set_84 rfl rfl ?_
    refine g_icmp_eq (pc := 442) (tgt := 873) dc_L_law_442 rfl (fun _ => ?_) (fun hc => absurd hc (by decide))
    refine g_iinc (pc := 873) (v := 6) dc_L_law_873 rfl (by decide) (by decide) ?_
    refine g_goto (pc := 876) (tgt := 23) dc_L_law_876 rfl ?_
    refine g_iload (pc := 23) dc_L_law_23 rfl ?_
    refine g_xload_n (pc := 25) dc_L_law_25 rfl ?_
    refine g_scriptLenV (pc := 26) (n := 6) dc_L_law_26 hL rfl ?_
    refine g_bipush (pc := 27) (v := 6) dc_L_law_27 rfl ?_
    refine g_isub (pc := 29) (v := 0) dc_L_law_29 (by decide) ?_
    refine g_icmp_gt (pc := 30) (tgt := 879) dc_L_law_30 rfl (fun _ => ?_) (fun hc => absurd hc (by decide))
    refine g_iconst (pc := 879) (v := 1) dc_L_law_879 rfl ?_
    exact g_zreturn dc_L_law_880 rfl rfl ⟨rfl, (Nat.le_of_ble_eq_true rfl), (Nat.le_of_ble_eq_true rfl)⟩
  · refine g_aload_n (pc := 410) dc_L_law_410 rfl ?_
    refine g_xload_n (pc := 411) dc_L_law_411 rfl ?_
    refine g_iload (pc := 412) dc_L_law_412 rfl ?_
    refine g_iconst (pc := 414) (v := 1) dc_L_law_414 rfl ?_
    refine g_iadd (pc := 415) (v := 1) dc_L_law_415 (by decide) ?_
    refine g_scriptLoadV (pc := 416) dc_L_law_416 (by rw [hL]; exact am_vin rfl) e1 ?_
    refine g_xload_n (pc := 417) dc_L_law_417 rfl ?_
    refine g_iload (pc := 418) dc_L_law_418 rfl ?_
    refine g_iconst (pc := 420) (v := 2) dc_L_law_420 rfl ?_
    refine g_iadd (pc := 421) (v := 2) dc_L_law_421 (by decide) ?_
    refine g_scriptLoadV (pc := 422) dc_L_law_422 (by rw [hL]; exact am_vin rfl) e2 ?_
    refine g_v2 (pc := 423) (M' := mt_W_set) dc_L_law_423 mo_W_set im_W_set se_W_set ln_L_64 rfl rfl rfl (Nat.le_of_ble_eq_true rfl) (Nat.le_of_ble_eq_true rfl) ?_
    refine g_iload_n (pc := 0) dc_W_set_0 rfl ?_
    refine g_if_lt (pc := 1) (tgt := 13) dc_W_set_1 rfl (fun hc => absurd (Int32.lt_iff_toInt_lt.mp hc) (by show ¬ (p1.toInt < 0); omega)) (fun _ => ?_)
    refine g_iload_n (pc := 4) dc_W_set_4 rfl ?_
    refine g_aload_n (pc := 5) dc_W_set_5 rfl ?_
    refine g_getfield (pc := 6) dc_W_set_6 fl_W_47 rfl rfl ?_
    refine g_alen (pc := 9) dc_W_set_9 rfl (by decide) ?_
    refine g_icmp_lt (pc := 10) (tgt := 15) dc_W_set_10 rfl (fun hc => absurd (Int32.lt_iff_toInt_lt.mp hc) (by show ¬ (p1.toInt < 4); omega)) (fun _ => ?_)
    refine g_iconst (pc := 13) (v := 0) dc_W_set_13 rfl ?_
    refine g_zretC (pc := 14) dc_W_set_14 rfl rfl ?_
    refine g_aload_n (pc := 426) dc_L_law_426 rfl ?_
    refine g_xload_n (pc := 427) dc_L_law_427 rfl ?_
    refine g_iload (pc := 428) dc_L_law_428 rfl ?_
    refine g_iconst (pc := 430) (v := 1) dc_L_law_430 rfl ?_
    refine g_iadd (pc := 431) (v := 1) dc_L_law_431 (by decide) ?_
    refine g_scriptLoadV (pc := 432) dc_L_law_432 (by rw [hL]; exact am_vin rfl) e1 ?_
    refine g_xload_n (pc := 433) dc_L_law_433 rfl ?_
    refine g_iload (pc := 434) dc_L_law_434 rfl ?_
    refine g_iconst (pc := 436) (v := 2) dc_L_law_436 rfl ?_
    refine g_iadd (pc := 437) (v := 2) dc_L_law_437 (by decide) ?_
    refine g_scriptLoadV (pc := 438) dc_L_law_438 (by rw [hL]; exact am_vin rfl) e2 ?_
    refine g_v2 (pc := 439) (M' := mt_M_set) dc_L_law_439 mo_M_set im_M_set se_M_set ln_L_68 rfl rfl rfl (Nat.le_of_ble_eq_true rfl) (Nat.le_of_ble_eq_true rfl) ?_
    refine g_aload_n (pc := 0) dc_M_set_0 rfl ?_
    refine g_iconst (pc := 1) (v := 0) dc_M_set_1 rfl ?_
    refine g_putfield (pc := 2) dc_M_set_2 fp_M_set_1 rfl (Nat.le_of_ble_eq_true rfl) rfl rfl ?_
    refine g_iload_n (pc := 5) dc_M_set_5 rfl ?_
    refine g_if_ne (pc := 6) (tgt := 19) dc_M_set_6 rfl (fun _ => ?_) (fun hc => absurd hc (fun h9 => h9 (fun h8 => absurd (Int32.toInt_inj.symm.mp h8) (by show ¬ (p1.toInt = 0); omega))))
    refine g_iload_n (pc := 19) dc_M_set_19 rfl ?_
    refine g_iconst (pc := 20) (v := 1) dc_M_set_20 rfl ?_
    refine g_icmp_ne (pc := 21) (tgt := 34) dc_M_set_21 rfl (fun _ => ?_) (fun hc => absurd hc (fun h9 => h9 (fun h8 => absurd (Int32.toInt_inj.symm.mp h8) (by show ¬ (p1.toInt = 1); omega))))
    refine g_iload_n (pc := 34) dc_M_set_34 rfl ?_
    refine g_iconst (pc := 35) (v := 2) dc_M_set_35 rfl ?_
    refine g_icmp_ne (pc := 36) (tgt := 50) dc_M_set_36 rfl (fun _ => ?_) (fun hc => absurd hc (fun h9 => h9 (fun h8 => absurd (Int32.toInt_inj.symm.mp h8) (by show ¬ (p1.toInt = 2); omega))))
    refine g_iload_n (pc := 50) dc_M_set_50 rfl ?_
    refine g_iconst (pc := 51) (v := 3) dc_M_set_51 rfl ?_
    refine g_icmp_ne (pc := 52) (tgt := 70) dc_M_set_52 rfl (fun _ => ?_) (fun hc => absurd hc (fun h9 => h9 (fun h8 => absurd (Int32.toInt_inj.symm.mp h8) (by show ¬ (p1.toInt = 3); omega))))
    refine g_iconst (pc := 70) (v := 0) dc_M_set_70 rfl ?_
    refine g_istore_n (pc := 71) dc_M_set_71 (by decide) ?_
    refine g_iload_n (pc := 72) dc_M_set_72 rfl ?_
    refine g_if_eq (pc := 73) (tgt := 83) dc_M_set_73 rfl (fun _ => ?_) (fun hc => absurd hc (by decide))
    refine g_iload_n (pc := 83) dc_M_set_83 rfl ?_
    refine g_zretC (pc := 84) dc_M_set_84 rfl rfl ?_
    refine g_icmp_eq (pc := 442) (tgt := 873) dc_L_law_442 rfl (fun _ => ?_) (fun hc => absurd hc (by decide))
    refine g_iinc (pc := 873) (v := 6) dc_L_law_873 rfl (by decide) (by decide) ?_
    refine g_goto (pc := 876) (tgt := 23) dc_L_law_876 rfl ?_
    refine g_iload (pc := 23) dc_L_law_23 rfl ?_
    refine g_xload_n (pc := 25) dc_L_law_25 rfl ?_
    refine g_scriptLenV (pc := 26) (n := 6) dc_L_law_26 hL rfl ?_
    refine g_bipush (pc := 27) (v := 6) dc_L_law_27 rfl ?_
    refine g_isub (pc := 29) (v := 0) dc_L_law_29 (by decide) ?_
    refine g_icmp_gt (pc := 30) (tgt := 879) dc_L_law_30 rfl (fun _ => ?_) (fun hc => absurd hc (by decide))
    refine g_iconst (pc := 879) (v := 1) dc_L_law_879 rfl ?_
    exact g_zreturn dc_L_law_880 rfl rfl ⟨rfl, (Nat.le_of_ble_eq_true rfl), (Nat.le_of_ble_eq_true rfl)⟩
set_option maxRecDepth 20000 in
set_option maxHeartbeats 4000000 in
theorem p1_9 {X : am_X} {p0 p1 p2 p3 p4 p5 : Int32} (hl9 : X.1.stackTraces = false) (hL : X.2.2.2.2.2.1 = 6) (e0 : X.2.2.2.2.2.2 (Int32.toNatClampNeg 0) = p0) (e1 : X.2.2.2.2.2.2 (Int32.toNatClampNeg 1) = p1) (e2 : X.2.2.2.2.2.2 (Int32.toNatClampNeg 2) = p2) (e3 : X.2.2.2.2.2.2 (Int32.toNatClampNeg 3) = p3) (e4 : X.2.2.2.2.2.2 (Int32.toNatClampNeg 4) = p4) (e5 : X.2.2.2.2.2.2 (Int32.toNatClampNeg 5) = p5) : am_G X mt_L_law 60 447 lo_0 [] hp_0 (fun r h => r = some (.int 1) ∧ h.length ≤ 601024 ∧ am_sl h ≤ 7293034) := by
  refine g_aload_n (pc := 447) dc_L_law_447 rfl ?_
  refine g_v0 (pc := 448) (M' := mt_W_seed) dc_L_law_448 mo_W_seed im_W_seed se_W_seed ln_L_69 rfl rfl rfl (Nat.le_of_ble_eq_true rfl) (Nat.le_of_ble_eq_true rfl) ?_
  refine g_aload_n (pc := 0) dc_W_seed_0 rfl ?_
  refine g_v0 (pc := 1) (M' := mt_W_resolveTape) dc_W_seed_1 mo_W_resolveTape im_W_resolveTape se_W_resolveTape ln_W_128 rfl rfl rfl (Nat.le_of_ble_eq_true rfl) (Nat.le_of_ble_eq_true rfl) ?_
  refine g_aload_n (pc := 0) dc_W_resolveTape_0 rfl ?_
  refine g_getfield (pc := 1) dc_W_resolveTape_1 fl_W_27 rfl rfl ?_
  refine g_aload_n (pc := 4) dc_W_resolveTape_4 rfl ?_
  refine g_getfield (pc := 5) dc_W_resolveTape_5 fl_W_12 rfl rfl ?_
  refine g_getfield (pc := 8) dc_W_resolveTape_8 fl_W_109 rfl rfl ?_
  refine g_iconst (pc := 11) (v := 0) dc_W_resolveTape_11 rfl ?_
  refine g_aload_n (pc := 12) dc_W_resolveTape_12 rfl ?_
  refine g_getfield (pc := 13) dc_W_resolveTape_13 fl_W_12 rfl rfl ?_
  refine g_getfield (pc := 16) dc_W_resolveTape_16 fl_W_85 rfl rfl ?_
  refine g_null (pc := 19) dc_W_resolveTape_19 ?_
  refine g_v4 (pc := 20) (M' := mt_A_resolve) dc_W_resolveTape_20 mo_A_resolve im_A_resolve se_A_resolve ln_W_117 rfl rfl rfl (Nat.le_of_ble_eq_true rfl) (Nat.le_of_ble_eq_true rfl) ?_
  refine g_aload_n (pc := 0) dc_A_resolve_0 rfl ?_
  refine g_getfield (pc := 1) dc_A_resolve_1 fl_A_14 rfl rfl ?_
  refine g_v0 (pc := 4) (M' := mt_B_clear) dc_A_resolve_4 mo_B_clear im_B_clear se_B_clear ln_A_23 rfl rfl rfl (Nat.le_of_ble_eq_true rfl) (Nat.le_of_ble_eq_true rfl) ?_
  refine g_aload_n (pc := 0) dc_B_clear_0 rfl ?_
  refine g_iconst (pc := 1) (v := 0) dc_B_clear_1 rfl ?_
  refine g_putfield (pc := 2) dc_B_clear_2 fp_B_clear_15 rfl (Nat.le_of_ble_eq_true rfl) rfl rfl ?_
  refine g_vretC (pc := 5) dc_B_clear_5 rfl ?_
  refine g_aload_n (pc := 7) dc_A_resolve_7 rfl ?_
  refine g_getfield (pc := 8) dc_A_resolve_8 fl_A_20 rfl rfl ?_
  refine g_v0 (pc := 11) (M' := mt_B_clear) dc_A_resolve_11 mo_B_clear im_B_clear se_B_clear ln_A_23 rfl rfl rfl (Nat.le_of_ble_eq_true rfl) (Nat.le_of_ble_eq_true rfl) ?_
  refine g_aload_n (pc := 0) dc_B_clear_0 rfl ?_
  refine g_iconst (pc := 1) (v := 0) dc_B_clear_1 rfl ?_
  refine g_putfield (pc := 2) dc_B_clear_2 fp_B_clear_15 rfl (Nat.le_of_ble_eq_true rfl) rfl rfl ?_
  refine g_vretC (pc := 5) dc_B_clear_5 rfl ?_
  refine g_aload_n (pc := 14) dc_A_resolve_14 rfl ?_
  refine g_iload_n (pc := 15) dc_A_resolve_15 rfl ?_
  refine g_iload_n (pc := 16) dc_A_resolve_16 rfl ?_
  refine g_s3 (pc := 17) (M' := mt_W_trimmedFrom) dc_A_resolve_17 mo_W_trimmedFrom st_W_trimmedFrom ln_A_26 (Nat.le_of_ble_eq_true rfl) (Nat.le_of_ble_eq_true rfl) ?_
  refine g_iload_n (pc := 0) dc_W_trimmedFrom_0 rfl ?_
  refine g_istore_n (pc := 1) dc_W_trimmedFrom_1 (by decide) ?_
  refine g_iload_n (pc := 2) dc_W_trimmedFrom_2 rfl ?_
  refine g_iload_n (pc := 3) dc_W_trimmedFrom_3 rfl ?_
  refine g_icmp_ge (pc := 4) (tgt := 22) dc_W_trimmedFrom_4 rfl (fun _ => ?_) (fun hc => absurd hc (by decide))
  refine g_iload_n (pc := 22) dc_W_trimmedFrom_22 rfl ?_
  refine g_iretC (pc := 23) dc_W_trimmedFrom_23 rfl ?_
  refine g_istore (pc := 20) dc_A_resolve_20 (by decide) ?_
  refine g_aload_n (pc := 22) dc_A_resolve_22 rfl ?_
  refine g_bipush (pc := 23) (v := 35) dc_A_resolve_23 rfl ?_
  refine g_iload (pc := 25) dc_A_resolve_25 rfl ?_
  refine g_aload_n (pc := 27) dc_A_resolve_27 rfl ?_
  refine g_iload (pc := 28) dc_A_resolve_28 rfl ?_
  refine g_iload_n (pc := 30) dc_A_resolve_30 rfl ?_
  refine g_s3 (pc := 31) (M' := mt_W_trimmedTo) dc_A_resolve_31 mo_W_trimmedTo st_W_trimmedTo ln_A_30 (Nat.le_of_ble_eq_true rfl) (Nat.le_of_ble_eq_true rfl) ?_
  refine g_iload_n (pc := 0) dc_W_trimmedTo_0 rfl ?_
  refine g_istore_n (pc := 1) dc_W_trimmedTo_1 (by decide) ?_
  refine g_iload_n (pc := 2) dc_W_trimmedTo_2 rfl ?_
  refine g_iload_n (pc := 3) dc_W_trimmedTo_3 rfl ?_
  refine g_icmp_le (pc := 4) (tgt := 24) dc_W_trimmedTo_4 rfl (fun _ => ?_) (fun hc => absurd hc (by decide))
  refine g_iload_n (pc := 24) dc_W_trimmedTo_24 rfl ?_
  refine g_iretC (pc := 25) dc_W_trimmedTo_25 rfl ?_
  refine g_s4 (pc := 34) (M' := mt_W_indexOf) dc_A_resolve_34 mo_W_indexOf st_W_indexOf ln_A_33 (Nat.le_of_ble_eq_true rfl) (Nat.le_of_ble_eq_true rfl) ?_
  refine g_iload_n (pc := 0) dc_W_indexOf_0 rfl ?_
  refine g_istore (pc := 1) dc_W_indexOf_1 (by decide) ?_
  refine g_iload (pc := 3) dc_W_indexOf_3 rfl ?_
  refine g_iload_n (pc := 5) dc_W_indexOf_5 rfl ?_
  refine g_icmp_ge (pc := 6) (tgt := 23) dc_W_indexOf_6 rfl (fun _ => ?_) (fun hc => absurd hc (by decide))
  refine g_iload (pc := 23) dc_W_indexOf_23 rfl ?_
  refine g_iretC (pc := 25) dc_W_indexOf_25 rfl ?_
  refine g_istore (pc := 37) dc_A_resolve_37 (by decide) ?_
  refine g_aload_n (pc := 39) dc_A_resolve_39 rfl ?_
  refine g_iload (pc := 40) dc_A_resolve_40 rfl ?_
  refine g_iload (pc := 42) dc_A_resolve_42 rfl ?_
  refine g_s3 (pc := 44) (M' := mt_A_isClean) dc_A_resolve_44 mo_A_isClean st_A_isClean ln_A_37 (Nat.le_of_ble_eq_true rfl) (Nat.le_of_ble_eq_true rfl) ?_
  refine g_iload_n (pc := 0) dc_A_isClean_0 rfl ?_
  refine g_istore_n (pc := 1) dc_A_isClean_1 (by decide) ?_
  refine g_iload_n (pc := 2) dc_A_isClean_2 rfl ?_
  refine g_iload_n (pc := 3) dc_A_isClean_3 rfl ?_
  refine g_icmp_ge (pc := 4) (tgt := 64) dc_A_isClean_4 rfl (fun _ => ?_) (fun hc => absurd hc (by decide))
  refine g_iconst (pc := 64) (v := 1) dc_A_isClean_64 rfl ?_
  refine g_zretC (pc := 65) dc_A_isClean_65 rfl rfl ?_
  refine g_if_ne (pc := 47) (tgt := 52) dc_A_resolve_47 rfl (fun _ => ?_) (fun hc => absurd hc (by decide))
  refine g_aload_n (pc := 52) dc_A_resolve_52 rfl ?_
  refine g_bipush (pc := 53) (v := 58) dc_A_resolve_53 rfl ?_
  refine g_iload (pc := 55) dc_A_resolve_55 rfl ?_
  refine g_iload (pc := 57) dc_A_resolve_57 rfl ?_
  refine g_s4 (pc := 59) (M' := mt_W_indexOf) dc_A_resolve_59 mo_W_indexOf st_W_indexOf ln_A_33 (Nat.le_of_ble_eq_true rfl) (Nat.le_of_ble_eq_true rfl) ?_
  refine g_iload_n (pc := 0) dc_W_indexOf_0 rfl ?_
  refine g_istore (pc := 1) dc_W_indexOf_1 (by decide) ?_
  refine g_iload (pc := 3) dc_W_indexOf_3 rfl ?_
  refine g_iload_n (pc := 5) dc_W_indexOf_5 rfl ?_
  refine g_icmp_ge (pc := 6) (tgt := 23) dc_W_indexOf_6 rfl (fun _ => ?_) (fun hc => absurd hc (by decide))
  refine g_iload (pc := 23) dc_W_indexOf_23 rfl ?_
  refine g_iretC (pc := 25) dc_W_indexOf_25 rfl ?_
  refine g_istore (pc := 62) dc_A_resolve_62 (by decide) ?_
  refine g_iload (pc := 64) dc_A_resolve_64 rfl ?_
  refine g_aload_n (pc := 66) dc_A_resolve_66 rfl ?_
  refine g_bipush (pc := 67) (v := 47) dc_A_resolve_67 rfl ?_
  refine g_iload (pc := 69) dc_A_resolve_69 rfl ?_
  refine g_iload (pc := 71) dc_A_resolve_71 rfl ?_
  refine g_s4 (pc := 73) (M' := mt_W_indexOf) dc_A_resolve_73 mo_W_indexOf st_W_indexOf ln_A_33 (Nat.le_of_ble_eq_true rfl) (Nat.le_of_ble_eq_true rfl) ?_
  refine g_iload_n (pc := 0) dc_W_indexOf_0 rfl ?_
  refine g_istore (pc := 1) dc_W_indexOf_1 (by decide) ?_
  refine g_iload (pc := 3) dc_W_indexOf_3 rfl ?_
  refine g_iload_n (pc := 5) dc_W_indexOf_5 rfl ?_
  refine g_icmp_ge (pc := 6) (tgt := 23) dc_W_indexOf_6 rfl (fun _ => ?_) (fun hc => absurd hc (by decide))
  refine g_iload (pc := 23) dc_W_indexOf_23 rfl ?_
  refine g_iretC (pc := 25) dc_W_indexOf_25 rfl ?_
  refine g_aload_n (pc := 76) dc_A_resolve_76 rfl ?_
  refine g_bipush (pc := 77) (v := 63) dc_A_resolve_77 rfl ?_
  refine g_iload (pc := 79) dc_A_resolve_79 rfl ?_
  refine g_iload (pc := 81) dc_A_resolve_81 rfl ?_
  refine g_s4 (pc := 83) (M' := mt_W_indexOf) dc_A_resolve_83 mo_W_indexOf st_W_indexOf ln_A_33 (Nat.le_of_ble_eq_true rfl) (Nat.le_of_ble_eq_true rfl) ?_
  refine g_iload_n (pc := 0) dc_W_indexOf_0 rfl ?_
  refine g_istore (pc := 1) dc_W_indexOf_1 (by decide) ?_
  refine g_iload (pc := 3) dc_W_indexOf_3 rfl ?_
  refine g_iload_n (pc := 5) dc_W_indexOf_5 rfl ?_
  refine g_icmp_ge (pc := 6) (tgt := 23) dc_W_indexOf_6 rfl (fun _ => ?_) (fun hc => absurd hc (by decide))
  refine g_iload (pc := 23) dc_W_indexOf_23 rfl ?_
  refine g_iretC (pc := 25) dc_W_indexOf_25 rfl ?_
  refine g_s2 (pc := 86) (M' := mt_JMath_min) dc_A_resolve_86 mo_JMath_min st_JMath_min ln_A_41 (Nat.le_of_ble_eq_true rfl) (Nat.le_of_ble_eq_true rfl) ?_
  refine g_iload_n (pc := 0) dc_JMath_min_0 rfl ?_
  refine g_iload_n (pc := 1) dc_JMath_min_1 rfl ?_
  refine g_icmp_gt (pc := 2) (tgt := 9) dc_JMath_min_2 rfl (fun hc => absurd hc (by decide)) (fun _ => ?_)
  refine g_iload_n (pc := 5) dc_JMath_min_5 rfl ?_
  refine g_goto (pc := 6) (tgt := 10) dc_JMath_min_6 rfl ?_
  refine g_iretC (pc := 10) dc_JMath_min_10 rfl ?_
  refine g_icmp_ge (pc := 89) (tgt := 128) dc_A_resolve_89 rfl (fun _ => ?_) (fun hc => absurd hc (by decide))
  refine g_aload_n (pc := 128) dc_A_resolve_128 rfl ?_
  refine g_iload (pc := 129) dc_A_resolve_129 rfl ?_
  refine g_iload (pc := 131) dc_A_resolve_131 rfl ?_
  refine g_ldcS (pc := 133) 2 dc_A_resolve_133 (by decide) rfl rfl ?_
  refine g_s4 (pc := 135) (M' := mt_W_beginsWith) dc_A_resolve_135 mo_W_beginsWith st_W_beginsWith ln_A_55 (Nat.le_of_ble_eq_true rfl) (Nat.le_of_ble_eq_true rfl) ?_
  refine g_iload_n (pc := 0) dc_W_beginsWith_0 rfl ?_
  refine g_xload_n (pc := 1) dc_W_beginsWith_1 rfl ?_
  refine g_x0 (pc := 2) (M' := mt_JString_length) dc_W_beginsWith_2 mo_JString_length im_JString_length se_JString_length (am_t3 75 rfl rfl) (by decide) (Nat.le_of_ble_eq_true rfl) (Nat.le_of_ble_eq_true rfl) ?_
  refine g_xload_n (pc := 0) dc_JString_length_0 rfl ?_
  refine g_sValue (pc := 1) dc_JString_length_1 (by decide) (am_t4 204 rfl rfl) ?_
  refine g_sLen (pc := 4) (n := 2) dc_JString_length_4 (by decide) rfl ?_
  refine g_xload_n (pc := 5) dc_JString_length_5 rfl ?_
  refine g_x0 (pc := 6) (M' := mt_JString_coder) dc_JString_length_6 mo_JString_coder im_JString_coder se_JString_coder (am_t2 236 rfl rfl) (by decide) (Nat.le_of_ble_eq_true rfl) (Nat.le_of_ble_eq_true rfl) ?_
  refine g_gsCompact (pc := 0) dc_JString_coder_0 (am_t2 230 rfl rfl) ?_
  refine g_if_eq (pc := 3) (tgt := 13) dc_JString_coder_3 rfl (fun hc => absurd hc (by decide)) (fun _ => ?_)
  refine g_xload_n (pc := 6) dc_JString_coder_6 rfl ?_
  refine g_sCoder (pc := 7) dc_JString_coder_7 (by decide) (am_t4 205 rfl rfl) ?_
  refine g_goto (pc := 10) (tgt := 14) dc_JString_coder_10 rfl ?_
  refine g_bretC (pc := 14) dc_JString_coder_14 rfl rfl ?_
  refine g_ishr (pc := 9) (v := 2) dc_JString_length_9 (by decide) ?_
  refine g_iretC (pc := 10) dc_JString_length_10 rfl ?_
  refine g_iadd (pc := 5) (v := 2) dc_W_beginsWith_5 (by decide) ?_
  refine g_istore (pc := 6) dc_W_beginsWith_6 (by decide) ?_
  refine g_iload (pc := 8) dc_W_beginsWith_8 rfl ?_
  refine g_iload_n (pc := 10) dc_W_beginsWith_10 rfl ?_
  refine g_icmp_gt (pc := 11) (tgt := 29) dc_W_beginsWith_11 rfl (fun _ => ?_) (fun hc => absurd hc (by decide))
  refine g_iconst (pc := 29) (v := 0) dc_W_beginsWith_29 rfl ?_
  refine g_zretC (pc := 30) dc_W_beginsWith_30 rfl rfl ?_
  refine g_if_eq (pc := 138) (tgt := 155) dc_A_resolve_138 rfl (fun _ => ?_) (fun hc => absurd hc (by decide))
  refine g_aload_n (pc := 155) dc_A_resolve_155 rfl ?_
  refine g_aload_n (pc := 156) dc_A_resolve_156 rfl ?_
  refine g_iload (pc := 157) dc_A_resolve_157 rfl ?_
  refine g_iload (pc := 159) dc_A_resolve_159 rfl ?_
  refine g_aloadN (pc := 161) dc_A_resolve_161 rfl ?_
  refine g_v4 (pc := 163) (M' := mt_A_joinBase) dc_A_resolve_163 mo_A_joinBase im_A_joinBase se_A_joinBase ln_A_61 rfl rfl rfl (Nat.le_of_ble_eq_true rfl) (Nat.le_of_ble_eq_true rfl) ?_
  refine g_aloadN (pc := 0) dc_A_joinBase_0 rfl ?_
  refine g_ifnullN (pc := 2) (tgt := 13) dc_A_joinBase_2 rfl ?_
  refine g_iconst (pc := 13) (v := (-1)) dc_A_joinBase_13 rfl ?_
  refine g_iretC (pc := 14) dc_A_joinBase_14 rfl ?_
  refine g_istore (pc := 166) dc_A_resolve_166 (by decide) ?_
  refine g_iload (pc := 168) dc_A_resolve_168 rfl ?_
  refine g_iconst (pc := 170) (v := (-1)) dc_A_resolve_170 rfl ?_
  refine g_icmp_ne (pc := 171) (tgt := 176) dc_A_resolve_171 rfl (fun hc => absurd hc (by decide)) (fun _ => ?_)
  refine g_iconst (pc := 174) (v := 0) dc_A_resolve_174 rfl ?_
  refine g_zretC (pc := 175) dc_A_resolve_175 rfl rfl ?_
  refine g_istore_n (pc := 23) dc_W_resolveTape_23 (by decide) ?_
  refine g_aload_n (pc := 24) dc_W_resolveTape_24 rfl ?_
  refine g_getfield (pc := 25) dc_W_resolveTape_25 fl_W_12 rfl rfl ?_
  refine g_v0 (pc := 28) (M' := mt_B_clear) dc_W_resolveTape_28 mo_B_clear im_B_clear se_B_clear ln_W_121 rfl rfl rfl (Nat.le_of_ble_eq_true rfl) (Nat.le_of_ble_eq_true rfl) ?_
  refine g_aload_n (pc := 0) dc_B_clear_0 rfl ?_
  refine g_iconst (pc := 1) (v := 0) dc_B_clear_1 rfl ?_
  refine g_putfield (pc := 2) dc_B_clear_2 fp_B_clear_15 rfl (Nat.le_of_ble_eq_true rfl) rfl rfl ?_
  refine g_vretC (pc := 5) dc_B_clear_5 rfl ?_
  refine g_iload_n (pc := 31) dc_W_resolveTape_31 rfl ?_
  refine g_zretC (pc := 32) dc_W_resolveTape_32 rfl rfl ?_
  refine g_if_eq (pc := 4) (tgt := 19) dc_W_seed_4 rfl (fun _ => ?_) (fun hc => absurd hc (by decide))
  refine g_iconst (pc := 19) (v := (-1)) dc_W_seed_19 rfl ?_
  refine g_iretC (pc := 20) dc_W_seed_20 rfl ?_
  refine g_aload_n (pc := 451) dc_L_law_451 rfl ?_
  refine g_v0 (pc := 452) (M' := mt_M_seed) dc_L_law_452 mo_M_seed im_M_seed se_M_seed ln_L_72 rfl rfl rfl (Nat.le_of_ble_eq_true rfl) (Nat.le_of_ble_eq_true rfl) ?_
  refine g_aload_n (pc := 0) dc_M_seed_0 rfl ?_
  refine g_v0 (pc := 1) (M' := mt_M_use) dc_M_seed_1 mo_M_use im_M_use se_M_use ln_M_505 rfl rfl rfl (Nat.le_of_ble_eq_true rfl) (Nat.le_of_ble_eq_true rfl) ?_
  refine g_aload_n (pc := 0) dc_M_use_0 rfl ?_
  refine g_iconst (pc := 1) (v := 0) dc_M_use_1 rfl ?_
  refine g_putfield (pc := 2) dc_M_use_2 fp_M_use_1 rfl (Nat.le_of_ble_eq_true rfl) rfl rfl ?_
  refine g_aload_n (pc := 5) dc_M_use_5 rfl ?_
  refine g_getfield (pc := 6) dc_M_use_6 fl_M_493 rfl rfl ?_
  refine g_istore_n (pc := 9) dc_M_use_9 (by decide) ?_
  refine g_aload_n (pc := 10) dc_M_use_10 rfl ?_
  refine g_iconst (pc := 11) (v := 0) dc_M_use_11 rfl ?_
  refine g_putfield (pc := 12) dc_M_use_12 fp_M_use_493 rfl (Nat.le_of_ble_eq_true rfl) rfl rfl ?_
  refine g_iload_n (pc := 15) dc_M_use_15 rfl ?_
  refine g_iretC (pc := 16) dc_M_use_16 rfl ?_
  refine g_istore_n (pc := 4) dc_M_seed_4 (by decide) ?_
  refine g_aload_n (pc := 5) dc_M_seed_5 rfl ?_
  refine g_aload_n (pc := 6) dc_M_seed_6 rfl ?_
  refine g_getfield (pc := 7) dc_M_seed_7 fl_M_143 rfl rfl ?_
  refine g_iconst (pc := 10) (v := 0) dc_M_seed_10 rfl ?_
  refine g_iload_n (pc := 11) dc_M_seed_11 rfl ?_
  refine g_iconst (pc := 12) (v := (-1)) dc_M_seed_12 rfl ?_
  refine g_v4 (pc := 13) (M' := mt_M_readReference) dc_M_seed_13 mo_M_readReference im_M_readReference se_M_readReference ln_M_297 rfl rfl rfl (Nat.le_of_ble_eq_true rfl) (Nat.le_of_ble_eq_true rfl) ?_
  refine g_iload_n (pc := 0) dc_M_readReference_0 rfl ?_
  refine g_istore (pc := 1) dc_M_readReference_1 (by decide) ?_
  refine g_iload_n (pc := 3) dc_M_readReference_3 rfl ?_
  refine g_istore (pc := 4) dc_M_readReference_4 (by decide) ?_
  refine g_iload (pc := 6) dc_M_readReference_6 rfl ?_
  refine g_iload (pc := 8) dc_M_readReference_8 rfl ?_
  refine g_icmp_ge (pc := 10) (tgt := 29) dc_M_readReference_10 rfl (fun _ => ?_) (fun hc => absurd hc (by decide))
  refine g_iload (pc := 29) dc_M_readReference_29 rfl ?_
  refine g_iload (pc := 31) dc_M_readReference_31 rfl ?_
  refine g_icmp_le (pc := 33) (tgt := 54) dc_M_readReference_33 rfl (fun _ => ?_) (fun hc => absurd hc (by decide))
  refine g_aload_n (pc := 54) dc_M_readReference_54 rfl ?_
  refine g_iload (pc := 55) dc_M_readReference_55 rfl ?_
  refine g_iload (pc := 57) dc_M_readReference_57 rfl ?_
  refine g_bipush (pc := 59) (v := 35) dc_M_readReference_59 rfl ?_
  refine g_s4 (pc := 61) (M' := mt_M_seek) dc_M_readReference_61 mo_M_seek st_M_seek ln_M_48 (Nat.le_of_ble_eq_true rfl) (Nat.le_of_ble_eq_true rfl) ?_
  refine g_iload_n (pc := 0) dc_M_seek_0 rfl ?_
  refine g_istore (pc := 1) dc_M_seek_1 (by decide) ?_
  refine g_iload (pc := 3) dc_M_seek_3 rfl ?_
  refine g_iload_n (pc := 5) dc_M_seek_5 rfl ?_
  refine g_icmp_ge (pc := 6) (tgt := 23) dc_M_seek_6 rfl (fun _ => ?_) (fun hc => absurd hc (by decide))
  refine g_iload (pc := 23) dc_M_seek_23 rfl ?_
  refine g_iretC (pc := 25) dc_M_seek_25 rfl ?_
  refine g_istore (pc := 64) dc_M_readReference_64 (by decide) ?_
  refine g_iload (pc := 66) dc_M_readReference_66 rfl ?_
  refine g_istore (pc := 68) dc_M_readReference_68 (by decide) ?_
  refine g_iload (pc := 70) dc_M_readReference_70 rfl ?_
  refine g_iload (pc := 72) dc_M_readReference_72 rfl ?_
  refine g_icmp_ge (pc := 74) (tgt := 96) dc_M_readReference_74 rfl (fun _ => ?_) (fun hc => absurd hc (by decide))
  refine g_aload_n (pc := 96) dc_M_readReference_96 rfl ?_
  refine g_iload (pc := 97) dc_M_readReference_97 rfl ?_
  refine g_iload (pc := 99) dc_M_readReference_99 rfl ?_
  refine g_bipush (pc := 101) (v := 58) dc_M_readReference_101 rfl ?_
  refine g_s4 (pc := 103) (M' := mt_M_seek) dc_M_readReference_103 mo_M_seek st_M_seek ln_M_48 (Nat.le_of_ble_eq_true rfl) (Nat.le_of_ble_eq_true rfl) ?_
  refine g_iload_n (pc := 0) dc_M_seek_0 rfl ?_
  refine g_istore (pc := 1) dc_M_seek_1 (by decide) ?_
  refine g_iload (pc := 3) dc_M_seek_3 rfl ?_
  refine g_iload_n (pc := 5) dc_M_seek_5 rfl ?_
  refine g_icmp_ge (pc := 6) (tgt := 23) dc_M_seek_6 rfl (fun _ => ?_) (fun hc => absurd hc (by decide))
  refine g_iload (pc := 23) dc_M_seek_23 rfl ?_
  refine g_iretC (pc := 25) dc_M_seek_25 rfl ?_
  refine g_istore (pc := 106) dc_M_readReference_106 (by decide) ?_
  refine g_aload_n (pc := 108) dc_M_readReference_108 rfl ?_
  refine g_iload (pc := 109) dc_M_readReference_109 rfl ?_
  refine g_iload (pc := 111) dc_M_readReference_111 rfl ?_
  refine g_bipush (pc := 113) (v := 47) dc_M_readReference_113 rfl ?_
  refine g_s4 (pc := 115) (M' := mt_M_seek) dc_M_readReference_115 mo_M_seek st_M_seek ln_M_48 (Nat.le_of_ble_eq_true rfl) (Nat.le_of_ble_eq_true rfl) ?_
  refine g_iload_n (pc := 0) dc_M_seek_0 rfl ?_
  refine g_istore (pc := 1) dc_M_seek_1 (by decide) ?_
  refine g_iload (pc := 3) dc_M_seek_3 rfl ?_
  refine g_iload_n (pc := 5) dc_M_seek_5 rfl ?_
  refine g_icmp_ge (pc := 6) (tgt := 23) dc_M_seek_6 rfl (fun _ => ?_) (fun hc => absurd hc (by decide))
  refine g_iload (pc := 23) dc_M_seek_23 rfl ?_
  refine g_iretC (pc := 25) dc_M_seek_25 rfl ?_
  refine g_istore (pc := 118) dc_M_readReference_118 (by decide) ?_
  refine g_aload_n (pc := 120) dc_M_readReference_120 rfl ?_
  refine g_iload (pc := 121) dc_M_readReference_121 rfl ?_
  refine g_iload (pc := 123) dc_M_readReference_123 rfl ?_
  refine g_bipush (pc := 125) (v := 63) dc_M_readReference_125 rfl ?_
  refine g_s4 (pc := 127) (M' := mt_M_seek) dc_M_readReference_127 mo_M_seek st_M_seek ln_M_48 (Nat.le_of_ble_eq_true rfl) (Nat.le_of_ble_eq_true rfl) ?_
  refine g_iload_n (pc := 0) dc_M_seek_0 rfl ?_
  refine g_istore (pc := 1) dc_M_seek_1 (by decide) ?_
  refine g_iload (pc := 3) dc_M_seek_3 rfl ?_
  refine g_iload_n (pc := 5) dc_M_seek_5 rfl ?_
  refine g_icmp_ge (pc := 6) (tgt := 23) dc_M_seek_6 rfl (fun _ => ?_) (fun hc => absurd hc (by decide))
  refine g_iload (pc := 23) dc_M_seek_23 rfl ?_
  refine g_iretC (pc := 25) dc_M_seek_25 rfl ?_
  refine g_istore (pc := 130) dc_M_readReference_130 (by decide) ?_
  refine g_iload (pc := 132) dc_M_readReference_132 rfl ?_
  refine g_iload (pc := 134) dc_M_readReference_134 rfl ?_
  refine g_icmp_ge (pc := 136) (tgt := 198) dc_M_readReference_136 rfl (fun _ => ?_) (fun hc => absurd hc (by decide))
  refine g_iload (pc := 198) dc_M_readReference_198 rfl ?_
  refine g_iconst (pc := 200) (v := 1) dc_M_readReference_200 rfl ?_
  refine g_iadd (pc := 201) (v := 1) dc_M_readReference_201 (by decide) ?_
  refine g_iload (pc := 202) dc_M_readReference_202 rfl ?_
  refine g_icmp_ge (pc := 204) (tgt := 307) dc_M_readReference_204 rfl (fun _ => ?_) (fun hc => absurd hc (by decide))
  refine g_iload (pc := 307) dc_M_readReference_307 rfl ?_
  refine g_if_ge (pc := 309) (tgt := 314) dc_M_readReference_309 rfl (fun hc => absurd hc (by decide)) (fun _ => ?_)
  refine g_iconst (pc := 312) (v := 0) dc_M_readReference_312 rfl ?_
  refine g_zretC (pc := 313) dc_M_readReference_313 rfl rfl ?_
  refine g_if_eq (pc := 16) (tgt := 28) dc_M_seed_16 rfl (fun _ => ?_) (fun hc => absurd hc (by decide))
  refine g_iconst (pc := 28) (v := (-1)) dc_M_seed_28 rfl ?_
  refine g_iretC (pc := 29) dc_M_seed_29 rfl ?_
  refine g_icmp_eq (pc := 455) (tgt := 873) dc_L_law_455 rfl (fun _ => ?_) (fun hc => absurd hc (by decide))
  refine g_iinc (pc := 873) (v := 6) dc_L_law_873 rfl (by decide) (by decide) ?_
  refine g_goto (pc := 876) (tgt := 23) dc_L_law_876 rfl ?_
  refine g_iload (pc := 23) dc_L_law_23 rfl ?_
  refine g_xload_n (pc := 25) dc_L_law_25 rfl ?_
  refine g_scriptLenV (pc := 26) (n := 6) dc_L_law_26 hL rfl ?_
  refine g_bipush (pc := 27) (v := 6) dc_L_law_27 rfl ?_
  refine g_isub (pc := 29) (v := 0) dc_L_law_29 (by decide) ?_
  refine g_icmp_gt (pc := 30) (tgt := 879) dc_L_law_30 rfl (fun _ => ?_) (fun hc => absurd hc (by decide))
  refine g_iconst (pc := 879) (v := 1) dc_L_law_879 rfl ?_
  exact g_zreturn dc_L_law_880 rfl rfl ⟨rfl, (Nat.le_of_ble_eq_true rfl), (Nat.le_of_ble_eq_true rfl)⟩
set_option maxRecDepth 20000 in
set_option maxHeartbeats 4000000 in
theorem p1_10 {X : am_X} {p0 p1 p2 p3 p4 p5 : Int32} (hl9 : X.1.stackTraces = false) (hL : X.2.2.2.2.2.1 = 6) (e0 : X.2.2.2.2.2.2 (Int32.toNatClampNeg 0) = p0) (e1 : X.2.2.2.2.2.2 (Int32.toNatClampNeg 1) = p1) (e2 : X.2.2.2.2.2.2 (Int32.toNatClampNeg 2) = p2) (e3 : X.2.2.2.2.2.2 (Int32.toNatClampNeg 3) = p3) (e4 : X.2.2.2.2.2.2 (Int32.toNatClampNeg 4) = p4) (e5 : X.2.2.2.2.2.2 (Int32.toNatClampNeg 5) = p5) : am_G X mt_L_law 60 460 lo_0 [] hp_0 (fun r h => r = some (.int 1) ∧ h.length ≤ 601024 ∧ am_sl h ≤ 7293034) := by
  refine g_aload_n (pc := 460) dc_L_law_460 rfl ?_
  refine g_v0 (pc := 461) (M' := mt_W_noSeeds) dc_L_law_461 mo_W_noSeeds im_W_noSeeds se_W_noSeeds ln_L_73 rfl rfl rfl (Nat.le_of_ble_eq_true rfl) (Nat.le_of_ble_eq_true rfl) ?_
  refine g_aload_n (pc := 0) dc_W_noSeeds_0 rfl ?_
  refine g_getfield (pc := 1) dc_W_noSeeds_1 fl_W_56 rfl rfl ?_
  refine g_v0 (pc := 4) (M' := mt_R_clear) dc_W_noSeeds_4 mo_R_clear im_R_clear se_R_clear ln_W_156 rfl rfl rfl (Nat.le_of_ble_eq_true rfl) (Nat.le_of_ble_eq_true rfl) ?_
  refine g_aload_n (pc := 0) dc_R_clear_0 rfl ?_
  refine g_iconst (pc := 1) (v := 0) dc_R_clear_1 rfl ?_
  refine g_v1 (pc := 2) (M' := mt_R_cut) dc_R_clear_2 mo_R_cut im_R_cut se_R_cut ln_R_24 rfl rfl rfl (Nat.le_of_ble_eq_true rfl) (Nat.le_of_ble_eq_true rfl) ?_
  refine g_iload_n (pc := 0) dc_R_cut_0 rfl ?_
  refine g_aload_n (pc := 1) dc_R_cut_1 rfl ?_
  refine g_getfield (pc := 2) dc_R_cut_2 fl_R_27 rfl rfl ?_
  refine g_icmp_gt (pc := 5) (tgt := 25) dc_R_cut_5 rfl (fun hc => absurd hc (by decide)) (fun _ => ?_)
  refine g_aload_n (pc := 8) dc_R_cut_8 rfl ?_
  refine g_iload_n (pc := 9) dc_R_cut_9 rfl ?_
  refine g_putfield (pc := 10) dc_R_cut_10 fp_R_cut_27 rfl (Nat.le_of_ble_eq_true rfl) rfl rfl ?_
  refine g_aload_n (pc := 13) dc_R_cut_13 rfl ?_
  refine g_getfield (pc := 14) dc_R_cut_14 fl_R_14 rfl rfl ?_
  refine g_aload_n (pc := 17) dc_R_cut_17 rfl ?_
  refine g_iload_n (pc := 18) dc_R_cut_18 rfl ?_
  refine g_v1 (pc := 19) (M' := mt_R_from) dc_R_cut_19 mo_R_from im_R_from se_R_from ln_R_31 rfl rfl rfl (Nat.le_of_ble_eq_true rfl) (Nat.le_of_ble_eq_true rfl) ?_
  refine g_iload_n (pc := 0) dc_R_from_0 rfl ?_
  refine g_if_ne (pc := 1) (tgt := 8) dc_R_from_1 rfl (fun hc => absurd hc (by decide)) (fun _ => ?_)
  refine g_iconst (pc := 4) (v := 0) dc_R_from_4 rfl ?_
  refine g_goto (pc := 5) (tgt := 16) dc_R_from_5 rfl ?_
  refine g_iretC (pc := 16) dc_R_from_16 rfl ?_
  refine g_putfield (pc := 22) dc_R_cut_22 fp_R_cut_35 rfl (Nat.le_of_ble_eq_true rfl) rfl rfl ?_
  refine g_vretC (pc := 25) dc_R_cut_25 rfl ?_
  refine g_vretC (pc := 5) dc_R_clear_5 rfl ?_
  refine g_vretC (pc := 7) dc_W_noSeeds_7 rfl ?_
  refine g_aload_n (pc := 464) dc_L_law_464 rfl ?_
  refine g_v0 (pc := 465) (M' := mt_M_noSeeds) dc_L_law_465 mo_M_noSeeds im_M_noSeeds se_M_noSeeds ln_L_76 rfl rfl rfl (Nat.le_of_ble_eq_true rfl) (Nat.le_of_ble_eq_true rfl) ?_
  refine g_aload_n (pc := 0) dc_M_noSeeds_0 rfl ?_
  refine g_iconst (pc := 1) (v := 0) dc_M_noSeeds_1 rfl ?_
  refine g_putfield (pc := 2) dc_M_noSeeds_2 fp_M_noSeeds_1 rfl (Nat.le_of_ble_eq_true rfl) rfl rfl ?_
  refine g_aload_n (pc := 5) dc_M_noSeeds_5 rfl ?_
  refine g_iconst (pc := 6) (v := 0) dc_M_noSeeds_6 rfl ?_
  refine g_putfield (pc := 7) dc_M_noSeeds_7 fp_M_noSeeds_517 rfl (Nat.le_of_ble_eq_true rfl) rfl rfl ?_
  refine g_vretC (pc := 10) dc_M_noSeeds_10 rfl ?_
  refine g_goto (pc := 468) (tgt := 873) dc_L_law_468 rfl ?_
  refine g_iinc (pc := 873) (v := 6) dc_L_law_873 rfl (by decide) (by decide) ?_
  refine g_goto (pc := 876) (tgt := 23) dc_L_law_876 rfl ?_
  refine g_iload (pc := 23) dc_L_law_23 rfl ?_
  refine g_xload_n (pc := 25) dc_L_law_25 rfl ?_
  refine g_scriptLenV (pc := 26) (n := 6) dc_L_law_26 hL rfl ?_
  refine g_bipush (pc := 27) (v := 6) dc_L_law_27 rfl ?_
  refine g_isub (pc := 29) (v := 0) dc_L_law_29 (by decide) ?_
  refine g_icmp_gt (pc := 30) (tgt := 879) dc_L_law_30 rfl (fun _ => ?_) (fun hc => absurd hc (by decide))
  refine g_iconst (pc := 879) (v := 1) dc_L_law_879 rfl ?_
  exact g_zreturn dc_L_law_880 rfl rfl ⟨rfl, (Nat.le_of_ble_eq_true rfl), (Nat.le_of_ble_eq_true rfl)⟩
set_option maxRecDepth 20000 in
set_option maxHeartbeats 4000000 in
theorem p1_11 {X : am_X} {p0 p1 p2 p3 p4 p5 : Int32} (hl9 : X.1.stackTraces = false) (hL : X.2.2.2.2.2.1 = 6) (e0 : X.2.2.2.2.2.2 (Int32.toNatClampNeg 0) = p0) (e1 : X.2.2.2.2.2.2 (Int32.toNatClampNeg 1) = p1) (e2 : X.2.2.2.2.2.2 (Int32.toNatClampNeg 2) = p2) (e3 : X.2.2.2.2.2.2 (Int32.toNatClampNeg 3) = p3) (e4 : X.2.2.2.2.2.2 (Int32.toNatClampNeg 4) = p4) (e5 : X.2.2.2.2.2.2 (Int32.toNatClampNeg 5) = p5) : am_G X mt_L_law 60 471 lo_0 [] hp_0 (fun r h => r = some (.int 1) ∧ h.length ≤ 601024 ∧ am_sl h ≤ 7293034) := by
  refine g_aload_n (pc := 471) dc_L_law_471 rfl ?_
  refine g_v0 (pc := 472) (M' := mt_W_start) dc_L_law_472 mo_W_start im_W_start se_W_start ln_L_77 rfl rfl rfl (Nat.le_of_ble_eq_true rfl) (Nat.le_of_ble_eq_true rfl) ?_
  refine g_aload_n (pc := 0) dc_W_start_0 rfl ?_
  refine g_getfield (pc := 1) dc_W_start_1 fl_W_65 rfl rfl ?_
  refine g_aload_n (pc := 4) dc_W_start_4 rfl ?_
  refine g_getfield (pc := 5) dc_W_start_5 fl_W_56 rfl rfl ?_
  refine g_aload_n (pc := 8) dc_W_start_8 rfl ?_
  refine g_getfield (pc := 9) dc_W_start_9 fl_W_47 rfl rfl ?_
  refine g_v2 (pc := 12) (M' := mt_C_begin) dc_W_start_12 mo_C_begin im_C_begin se_C_begin ln_W_174 rfl rfl rfl (Nat.le_of_ble_eq_true rfl) (Nat.le_of_ble_eq_true rfl) ?_
  refine g_aload_n (pc := 0) dc_C_begin_0 rfl ?_
  refine g_iconst (pc := 1) (v := 0) dc_C_begin_1 rfl ?_
  refine g_aload_n (pc := 2) dc_C_begin_2 rfl ?_
  refine g_getfield (pc := 3) dc_C_begin_3 fl_C_38 rfl rfl ?_
  refine g_iconst (pc := 6) (v := 0) dc_C_begin_6 rfl ?_
  refine g_aload_n (pc := 7) dc_C_begin_7 rfl ?_
  refine g_getfield (pc := 8) dc_C_begin_8 fl_C_38 rfl rfl ?_
  refine g_alen (pc := 11) dc_C_begin_11 rfl (by decide) ?_
  refine g_arraycopy (pc := 12) (t := 1) (sp := 0) (dp := 0) (n := 4) dc_C_begin_12 (am_t6 61 rfl rfl) rfl rfl rfl rfl (by decide) (by decide) (by decide) (by decide) (Nat.le_of_ble_eq_true rfl) ?_
  refine g_aload_n (pc := 15) dc_C_begin_15 rfl ?_
  refine g_iconst (pc := 16) (v := 1) dc_C_begin_16 rfl ?_
  refine g_putfield (pc := 17) dc_C_begin_17 fp_C_begin_74 rfl (Nat.le_of_ble_eq_true rfl) rfl rfl ?_
  refine g_aload_n (pc := 20) dc_C_begin_20 rfl ?_
  refine g_iconst (pc := 21) (v := 0) dc_C_begin_21 rfl ?_
  refine g_putfield (pc := 22) dc_C_begin_22 fp_C_begin_78 rfl (Nat.le_of_ble_eq_true rfl) rfl rfl ?_
  refine g_aload_n (pc := 25) dc_C_begin_25 rfl ?_
  refine g_iconst (pc := 26) (v := (-1)) dc_C_begin_26 rfl ?_
  refine g_putfield (pc := 27) dc_C_begin_27 fp_C_begin_82 rfl (Nat.le_of_ble_eq_true rfl) rfl rfl ?_
  refine g_aload_n (pc := 30) dc_C_begin_30 rfl ?_
  refine g_iconst (pc := 31) (v := 0) dc_C_begin_31 rfl ?_
  refine g_putfield (pc := 32) dc_C_begin_32 fp_C_begin_85 rfl (Nat.le_of_ble_eq_true rfl) rfl rfl ?_
  refine g_aload_n (pc := 35) dc_C_begin_35 rfl ?_
  refine g_getfield (pc := 36) dc_C_begin_36 fl_C_31 rfl rfl ?_
  refine g_v0 (pc := 39) (M' := mt_R_clear) dc_C_begin_39 mo_R_clear im_R_clear se_R_clear ln_C_88 rfl rfl rfl (Nat.le_of_ble_eq_true rfl) (Nat.le_of_ble_eq_true rfl) ?_
  refine g_aload_n (pc := 0) dc_R_clear_0 rfl ?_
  refine g_iconst (pc := 1) (v := 0) dc_R_clear_1 rfl ?_
  refine g_v1 (pc := 2) (M' := mt_R_cut) dc_R_clear_2 mo_R_cut im_R_cut se_R_cut ln_R_24 rfl rfl rfl (Nat.le_of_ble_eq_true rfl) (Nat.le_of_ble_eq_true rfl) ?_
  refine g_iload_n (pc := 0) dc_R_cut_0 rfl ?_
  refine g_aload_n (pc := 1) dc_R_cut_1 rfl ?_
  refine g_getfield (pc := 2) dc_R_cut_2 fl_R_27 rfl rfl ?_
  refine g_icmp_gt (pc := 5) (tgt := 25) dc_R_cut_5 rfl (fun hc => absurd hc (by decide)) (fun _ => ?_)
  refine g_aload_n (pc := 8) dc_R_cut_8 rfl ?_
  refine g_iload_n (pc := 9) dc_R_cut_9 rfl ?_
  refine g_putfield (pc := 10) dc_R_cut_10 fp_R_cut_27 rfl (Nat.le_of_ble_eq_true rfl) rfl rfl ?_
  refine g_aload_n (pc := 13) dc_R_cut_13 rfl ?_
  refine g_getfield (pc := 14) dc_R_cut_14 fl_R_14 rfl rfl ?_
  refine g_aload_n (pc := 17) dc_R_cut_17 rfl ?_
  refine g_iload_n (pc := 18) dc_R_cut_18 rfl ?_
  refine g_v1 (pc := 19) (M' := mt_R_from) dc_R_cut_19 mo_R_from im_R_from se_R_from ln_R_31 rfl rfl rfl (Nat.le_of_ble_eq_true rfl) (Nat.le_of_ble_eq_true rfl) ?_
  refine g_iload_n (pc := 0) dc_R_from_0 rfl ?_
  refine g_if_ne (pc := 1) (tgt := 8) dc_R_from_1 rfl (fun hc => absurd hc (by decide)) (fun _ => ?_)
  refine g_iconst (pc := 4) (v := 0) dc_R_from_4 rfl ?_
  refine g_goto (pc := 5) (tgt := 16) dc_R_from_5 rfl ?_
  refine g_iretC (pc := 16) dc_R_from_16 rfl ?_
  refine g_putfield (pc := 22) dc_R_cut_22 fp_R_cut_35 rfl (Nat.le_of_ble_eq_true rfl) rfl rfl ?_
  refine g_vretC (pc := 25) dc_R_cut_25 rfl ?_
  refine g_vretC (pc := 5) dc_R_clear_5 rfl ?_
  refine g_aload_n (pc := 42) dc_C_begin_42 rfl ?_
  refine g_getfield (pc := 43) dc_C_begin_43 fl_C_14 rfl rfl ?_
  refine g_v0 (pc := 46) (M' := mt_R_clear) dc_C_begin_46 mo_R_clear im_R_clear se_R_clear ln_C_88 rfl rfl rfl (Nat.le_of_ble_eq_true rfl) (Nat.le_of_ble_eq_true rfl) ?_
  refine g_aload_n (pc := 0) dc_R_clear_0 rfl ?_
  refine g_iconst (pc := 1) (v := 0) dc_R_clear_1 rfl ?_
  refine g_v1 (pc := 2) (M' := mt_R_cut) dc_R_clear_2 mo_R_cut im_R_cut se_R_cut ln_R_24 rfl rfl rfl (Nat.le_of_ble_eq_true rfl) (Nat.le_of_ble_eq_true rfl) ?_
  refine g_iload_n (pc := 0) dc_R_cut_0 rfl ?_
  refine g_aload_n (pc := 1) dc_R_cut_1 rfl ?_
  refine g_getfield (pc := 2) dc_R_cut_2 fl_R_27 rfl rfl ?_
  refine g_icmp_gt (pc := 5) (tgt := 25) dc_R_cut_5 rfl (fun hc => absurd hc (by decide)) (fun _ => ?_)
  refine g_aload_n (pc := 8) dc_R_cut_8 rfl ?_
  refine g_iload_n (pc := 9) dc_R_cut_9 rfl ?_
  refine g_putfield (pc := 10) dc_R_cut_10 fp_R_cut_27 rfl (Nat.le_of_ble_eq_true rfl) rfl rfl ?_
  refine g_aload_n (pc := 13) dc_R_cut_13 rfl ?_
  refine g_getfield (pc := 14) dc_R_cut_14 fl_R_14 rfl rfl ?_
  refine g_aload_n (pc := 17) dc_R_cut_17 rfl ?_
  refine g_iload_n (pc := 18) dc_R_cut_18 rfl ?_
  refine g_v1 (pc := 19) (M' := mt_R_from) dc_R_cut_19 mo_R_from im_R_from se_R_from ln_R_31 rfl rfl rfl (Nat.le_of_ble_eq_true rfl) (Nat.le_of_ble_eq_true rfl) ?_
  refine g_iload_n (pc := 0) dc_R_from_0 rfl ?_
  refine g_if_ne (pc := 1) (tgt := 8) dc_R_from_1 rfl (fun hc => absurd hc (by decide)) (fun _ => ?_)
  refine g_iconst (pc := 4) (v := 0) dc_R_from_4 rfl ?_
  refine g_goto (pc := 5) (tgt := 16) dc_R_from_5 rfl ?_
  refine g_iretC (pc := 16) dc_R_from_16 rfl ?_
  refine g_putfield (pc := 22) dc_R_cut_22 fp_R_cut_35 rfl (Nat.le_of_ble_eq_true rfl) rfl rfl ?_
  refine g_vretC (pc := 25) dc_R_cut_25 rfl ?_
  refine g_vretC (pc := 5) dc_R_clear_5 rfl ?_
  refine g_iconst (pc := 49) (v := 0) dc_C_begin_49 rfl ?_
  refine g_istore_n (pc := 50) dc_C_begin_50 (by decide) ?_
  refine g_iload_n (pc := 51) dc_C_begin_51 rfl ?_
  refine g_aload_n (pc := 52) dc_C_begin_52 rfl ?_
  refine g_getfield (pc := 53) dc_C_begin_53 fl_C_91 rfl rfl ?_
  refine g_icmp_ge (pc := 56) (tgt := 89) dc_C_begin_56 rfl (fun _ => ?_) (fun hc => absurd hc (by decide))
  refine g_aload_n (pc := 89) dc_C_begin_89 rfl ?_
  refine g_v0 (pc := 90) (M' := mt_C_save) dc_C_begin_90 mo_C_save im_C_save se_C_save ln_C_112 rfl rfl rfl (Nat.le_of_ble_eq_true rfl) (Nat.le_of_ble_eq_true rfl) ?_
  refine g_aload_n (pc := 0) dc_C_save_0 rfl ?_
  refine g_aload_n (pc := 1) dc_C_save_1 rfl ?_
  refine g_getfield (pc := 2) dc_C_save_2 fl_C_14 rfl rfl ?_
  refine g_getfield (pc := 5) dc_C_save_5 fl_C_91 rfl rfl ?_
  refine g_putfield (pc := 8) dc_C_save_8 fp_C_save_215 rfl (Nat.le_of_ble_eq_true rfl) rfl rfl ?_
  refine g_aload_n (pc := 11) dc_C_save_11 rfl ?_
  refine g_aload_n (pc := 12) dc_C_save_12 rfl ?_
  refine g_getfield (pc := 13) dc_C_save_13 fl_C_22 rfl rfl ?_
  refine g_aload_n (pc := 16) dc_C_save_16 rfl ?_
  refine g_getfield (pc := 17) dc_C_save_17 fl_C_53 rfl rfl ?_
  refine g_v2 (pc := 20) (M' := mt_C_copyMarks) dc_C_save_20 mo_C_copyMarks im_C_copyMarks se_C_copyMarks ln_C_218 rfl rfl rfl (Nat.le_of_ble_eq_true rfl) (Nat.le_of_ble_eq_true rfl) ?_
  refine g_iconst (pc := 0) (v := 0) dc_C_copyMarks_0 rfl ?_
  refine g_istore_n (pc := 1) dc_C_copyMarks_1 (by decide) ?_
  refine g_iload_n (pc := 2) dc_C_copyMarks_2 rfl ?_
  refine g_iconst (pc := 3) (v := 4) dc_C_copyMarks_3 rfl ?_
  refine g_icmp_ge (pc := 4) (tgt := 28) dc_C_copyMarks_4 rfl (fun hc => absurd hc (by decide)) (fun _ => ?_)
  refine g_aload_n (pc := 7) dc_C_copyMarks_7 rfl ?_
  refine g_iload_n (pc := 8) dc_C_copyMarks_8 rfl ?_
  refine g_rowload (pc := 9) dc_C_copyMarks_9 rfl (am_vin rfl) rfl ?_
  refine g_iconst (pc := 10) (v := 0) dc_C_copyMarks_10 rfl ?_
  refine g_aload_n (pc := 11) dc_C_copyMarks_11 rfl ?_
  refine g_iload_n (pc := 12) dc_C_copyMarks_12 rfl ?_
  refine g_rowload (pc := 13) dc_C_copyMarks_13 rfl (am_vin rfl) rfl ?_
  refine g_iconst (pc := 14) (v := 0) dc_C_copyMarks_14 rfl ?_
  refine g_aload_n (pc := 15) dc_C_copyMarks_15 rfl ?_
  refine g_getfield (pc := 16) dc_C_copyMarks_16 fl_C_215 rfl rfl ?_
  refine g_arraycopy (pc := 19) (t := 1) (sp := 0) (dp := 0) (n := 0) dc_C_copyMarks_19 (am_t6 61 rfl rfl) rfl rfl rfl rfl (by decide) (by decide) (by decide) (fun i hi => absurd hi (by omega)) (Nat.le_of_ble_eq_true rfl) ?_
  refine g_iinc (pc := 22) (v := 1) dc_C_copyMarks_22 rfl (by decide) (by decide) ?_
  refine g_goto (pc := 25) (tgt := 2) dc_C_copyMarks_25 rfl ?_
  refine g_iload_n (pc := 2) dc_C_copyMarks_2 rfl ?_
  refine g_iconst (pc := 3) (v := 4) dc_C_copyMarks_3 rfl ?_
  refine g_icmp_ge (pc := 4) (tgt := 28) dc_C_copyMarks_4 rfl (fun hc => absurd hc (by decide)) (fun _ => ?_)
  refine g_aload_n (pc := 7) dc_C_copyMarks_7 rfl ?_
  refine g_iload_n (pc := 8) dc_C_copyMarks_8 rfl ?_
  refine g_rowload (pc := 9) dc_C_copyMarks_9 rfl (am_vin rfl) rfl ?_
  refine g_iconst (pc := 10) (v := 0) dc_C_copyMarks_10 rfl ?_
  refine g_aload_n (pc := 11) dc_C_copyMarks_11 rfl ?_
  refine g_iload_n (pc := 12) dc_C_copyMarks_12 rfl ?_
  refine g_rowload (pc := 13) dc_C_copyMarks_13 rfl (am_vin rfl) rfl ?_
  refine g_iconst (pc := 14) (v := 0) dc_C_copyMarks_14 rfl ?_
  refine g_aload_n (pc := 15) dc_C_copyMarks_15 rfl ?_
  refine g_getfield (pc := 16) dc_C_copyMarks_16 fl_C_215 rfl rfl ?_
  refine g_arraycopy (pc := 19) (t := 1) (sp := 0) (dp := 0) (n := 0) dc_C_copyMarks_19 (am_t6 61 rfl rfl) rfl rfl rfl rfl (by decide) (by decide) (by decide) (fun i hi => absurd hi (by omega)) (Nat.le_of_ble_eq_true rfl) ?_
  refine g_iinc (pc := 22) (v := 2) dc_C_copyMarks_22 rfl (by decide) (by decide) ?_
  refine g_goto (pc := 25) (tgt := 2) dc_C_copyMarks_25 rfl ?_
  refine g_iload_n (pc := 2) dc_C_copyMarks_2 rfl ?_
  refine g_iconst (pc := 3) (v := 4) dc_C_copyMarks_3 rfl ?_
  refine g_icmp_ge (pc := 4) (tgt := 28) dc_C_copyMarks_4 rfl (fun hc => absurd hc (by decide)) (fun _ => ?_)
  refine g_aload_n (pc := 7) dc_C_copyMarks_7 rfl ?_
  refine g_iload_n (pc := 8) dc_C_copyMarks_8 rfl ?_
  refine g_rowload (pc := 9) dc_C_copyMarks_9 rfl (am_vin rfl) rfl ?_
  refine g_iconst (pc := 10) (v := 0) dc_C_copyMarks_10 rfl ?_
  refine g_aload_n (pc := 11) dc_C_copyMarks_11 rfl ?_
  refine g_iload_n (pc := 12) dc_C_copyMarks_12 rfl ?_
  refine g_rowload (pc := 13) dc_C_copyMarks_13 rfl (am_vin rfl) rfl ?_
  refine g_iconst (pc := 14) (v := 0) dc_C_copyMarks_14 rfl ?_
  refine g_aload_n (pc := 15) dc_C_copyMarks_15 rfl ?_
  refine g_getfield (pc := 16) dc_C_copyMarks_16 fl_C_215 rfl rfl ?_
  refine g_arraycopy (pc := 19) (t := 1) (sp := 0) (dp := 0) (n := 0) dc_C_copyMarks_19 (am_t6 61 rfl rfl) rfl rfl rfl rfl (by decide) (by decide) (by decide) (fun i hi => absurd hi (by omega)) (Nat.le_of_ble_eq_true rfl) ?_
  refine g_iinc (pc := 22) (v := 3) dc_C_copyMarks_22 rfl (by decide) (by decide) ?_
  refine g_goto (pc := 25) (tgt := 2) dc_C_copyMarks_25 rfl ?_
  refine g_iload_n (pc := 2) dc_C_copyMarks_2 rfl ?_
  refine g_iconst (pc := 3) (v := 4) dc_C_copyMarks_3 rfl ?_
  refine g_icmp_ge (pc := 4) (tgt := 28) dc_C_copyMarks_4 rfl (fun hc => absurd hc (by decide)) (fun _ => ?_)
  refine g_aload_n (pc := 7) dc_C_copyMarks_7 rfl ?_
  refine g_iload_n (pc := 8) dc_C_copyMarks_8 rfl ?_
  refine g_rowload (pc := 9) dc_C_copyMarks_9 rfl (am_vin rfl) rfl ?_
  refine g_iconst (pc := 10) (v := 0) dc_C_copyMarks_10 rfl ?_
  refine g_aload_n (pc := 11) dc_C_copyMarks_11 rfl ?_
  refine g_iload_n (pc := 12) dc_C_copyMarks_12 rfl ?_
  refine g_rowload (pc := 13) dc_C_copyMarks_13 rfl (am_vin rfl) rfl ?_
  refine g_iconst (pc := 14) (v := 0) dc_C_copyMarks_14 rfl ?_
  refine g_aload_n (pc := 15) dc_C_copyMarks_15 rfl ?_
  refine g_getfield (pc := 16) dc_C_copyMarks_16 fl_C_215 rfl rfl ?_
  refine g_arraycopy (pc := 19) (t := 1) (sp := 0) (dp := 0) (n := 0) dc_C_copyMarks_19 (am_t6 61 rfl rfl) rfl rfl rfl rfl (by decide) (by decide) (by decide) (fun i hi => absurd hi (by omega)) (Nat.le_of_ble_eq_true rfl) ?_
  refine g_iinc (pc := 22) (v := 4) dc_C_copyMarks_22 rfl (by decide) (by decide) ?_
  refine g_goto (pc := 25) (tgt := 2) dc_C_copyMarks_25 rfl ?_
  refine g_iload_n (pc := 2) dc_C_copyMarks_2 rfl ?_
  refine g_iconst (pc := 3) (v := 4) dc_C_copyMarks_3 rfl ?_
  refine g_icmp_ge (pc := 4) (tgt := 28) dc_C_copyMarks_4 rfl (fun _ => ?_) (fun hc => absurd hc (by decide))
  refine g_vretC (pc := 28) dc_C_copyMarks_28 rfl ?_
  refine g_aload_n (pc := 23) dc_C_save_23 rfl ?_
  refine g_iconst (pc := 24) (v := 0) dc_C_save_24 rfl ?_
  refine g_putfield (pc := 25) dc_C_save_25 fp_C_save_177 rfl (Nat.le_of_ble_eq_true rfl) rfl rfl ?_
  refine g_vretC (pc := 28) dc_C_save_28 rfl ?_
  refine g_vretC (pc := 93) dc_C_begin_93 rfl ?_
  refine g_aload_n (pc := 15) dc_W_start_15 rfl ?_
  refine g_getfield (pc := 16) dc_W_start_16 fl_W_65 rfl rfl ?_
  refine g_getfield (pc := 19) dc_W_start_19 fl_W_178 rfl rfl ?_
  refine g_getfield (pc := 22) dc_W_start_22 fl_W_167 rfl rfl ?_
  refine g_iretC (pc := 25) dc_W_start_25 rfl ?_
  refine g_aload_n (pc := 475) dc_L_law_475 rfl ?_
  refine g_v0 (pc := 476) (M' := mt_M_start) dc_L_law_476 mo_M_start im_M_start se_M_start ln_L_80 rfl rfl rfl (Nat.le_of_ble_eq_true rfl) (Nat.le_of_ble_eq_true rfl) ?_
  refine g_aload_n (pc := 0) dc_M_start_0 rfl ?_
  refine g_iconst (pc := 1) (v := 0) dc_M_start_1 rfl ?_
  refine g_putfield (pc := 2) dc_M_start_2 fp_M_start_1 rfl (Nat.le_of_ble_eq_true rfl) rfl rfl ?_
  refine g_aload_n (pc := 5) dc_M_start_5 rfl ?_
  refine g_iconst (pc := 6) (v := 1) dc_M_start_6 rfl ?_
  refine g_putfield (pc := 7) dc_M_start_7 fp_M_start_520 rfl (Nat.le_of_ble_eq_true rfl) rfl rfl ?_
  refine g_aload_n (pc := 10) dc_M_start_10 rfl ?_
  refine g_iconst (pc := 11) (v := 0) dc_M_start_11 rfl ?_
  refine g_putfield (pc := 12) dc_M_start_12 fp_M_start_433 rfl (Nat.le_of_ble_eq_true rfl) rfl rfl ?_
  refine g_aload_n (pc := 15) dc_M_start_15 rfl ?_
  refine g_iconst (pc := 16) (v := 0) dc_M_start_16 rfl ?_
  refine g_putfield (pc := 17) dc_M_start_17 fp_M_start_412 rfl (Nat.le_of_ble_eq_true rfl) rfl rfl ?_
  refine g_aload_n (pc := 20) dc_M_start_20 rfl ?_
  refine g_iconst (pc := 21) (v := 0) dc_M_start_21 rfl ?_
  refine g_putfield (pc := 22) dc_M_start_22 fp_M_start_436 rfl (Nat.le_of_ble_eq_true rfl) rfl rfl ?_
  refine g_aload_n (pc := 25) dc_M_start_25 rfl ?_
  refine g_iconst (pc := 26) (v := 0) dc_M_start_26 rfl ?_
  refine g_putfield (pc := 27) dc_M_start_27 fp_M_start_427 rfl (Nat.le_of_ble_eq_true rfl) rfl rfl ?_
  refine g_aload_n (pc := 30) dc_M_start_30 rfl ?_
  refine g_iconst (pc := 31) (v := (-1)) dc_M_start_31 rfl ?_
  refine g_putfield (pc := 32) dc_M_start_32 fp_M_start_430 rfl (Nat.le_of_ble_eq_true rfl) rfl rfl ?_
  refine g_iconst (pc := 35) (v := 0) dc_M_start_35 rfl ?_
  refine g_istore_n (pc := 36) dc_M_start_36 (by decide) ?_
  refine g_iload_n (pc := 37) dc_M_start_37 rfl ?_
  refine g_iconst (pc := 38) (v := 4) dc_M_start_38 rfl ?_
  refine g_icmp_ge (pc := 39) (tgt := 60) dc_M_start_39 rfl (fun hc => absurd hc (by decide)) (fun _ => ?_)
  refine g_aload_n (pc := 42) dc_M_start_42 rfl ?_
  refine g_getfield (pc := 43) dc_M_start_43 fl_M_350 rfl rfl ?_
  refine g_iload_n (pc := 46) dc_M_start_46 rfl ?_
  refine g_aload_n (pc := 47) dc_M_start_47 rfl ?_
  refine g_getfield (pc := 48) dc_M_start_48 fl_M_347 rfl rfl ?_
  refine g_iload_n (pc := 51) dc_M_start_51 rfl ?_
  refine g_iaload (pc := 52) dc_M_start_52 rfl (am_vin rfl) ?_
  refine g_iastore (pc := 53) dc_M_start_53 rfl (am_vin rfl) ?_
  refine g_iinc (pc := 54) (v := 1) dc_M_start_54 rfl (by decide) (by decide) ?_
  refine g_goto (pc := 57) (tgt := 37) dc_M_start_57 rfl ?_
  refine g_iload_n (pc := 37) dc_M_start_37 rfl ?_
  refine g_iconst (pc := 38) (v := 4) dc_M_start_38 rfl ?_
  refine g_icmp_ge (pc := 39) (tgt := 60) dc_M_start_39 rfl (fun hc => absurd hc (by decide)) (fun _ => ?_)
  refine g_aload_n (pc := 42) dc_M_start_42 rfl ?_
  refine g_getfield (pc := 43) dc_M_start_43 fl_M_350 rfl rfl ?_
  refine g_iload_n (pc := 46) dc_M_start_46 rfl ?_
  refine g_aload_n (pc := 47) dc_M_start_47 rfl ?_
  refine g_getfield (pc := 48) dc_M_start_48 fl_M_347 rfl rfl ?_
  refine g_iload_n (pc := 51) dc_M_start_51 rfl ?_
  refine g_iaload (pc := 52) dc_M_start_52 rfl (am_vin rfl) ?_
  refine g_iastore (pc := 53) dc_M_start_53 rfl (am_vin rfl) ?_
  refine g_iinc (pc := 54) (v := 2) dc_M_start_54 rfl (by decide) (by decide) ?_
  refine g_goto (pc := 57) (tgt := 37) dc_M_start_57 rfl ?_
  refine g_iload_n (pc := 37) dc_M_start_37 rfl ?_
  refine g_iconst (pc := 38) (v := 4) dc_M_start_38 rfl ?_
  refine g_icmp_ge (pc := 39) (tgt := 60) dc_M_start_39 rfl (fun hc => absurd hc (by decide)) (fun _ => ?_)
  refine g_aload_n (pc := 42) dc_M_start_42 rfl ?_
  refine g_getfield (pc := 43) dc_M_start_43 fl_M_350 rfl rfl ?_
  refine g_iload_n (pc := 46) dc_M_start_46 rfl ?_
  refine g_aload_n (pc := 47) dc_M_start_47 rfl ?_
  refine g_getfield (pc := 48) dc_M_start_48 fl_M_347 rfl rfl ?_
  refine g_iload_n (pc := 51) dc_M_start_51 rfl ?_
  refine g_iaload (pc := 52) dc_M_start_52 rfl (am_vin rfl) ?_
  refine g_iastore (pc := 53) dc_M_start_53 rfl (am_vin rfl) ?_
  refine g_iinc (pc := 54) (v := 3) dc_M_start_54 rfl (by decide) (by decide) ?_
  refine g_goto (pc := 57) (tgt := 37) dc_M_start_57 rfl ?_
  refine g_iload_n (pc := 37) dc_M_start_37 rfl ?_
  refine g_iconst (pc := 38) (v := 4) dc_M_start_38 rfl ?_
  refine g_icmp_ge (pc := 39) (tgt := 60) dc_M_start_39 rfl (fun hc => absurd hc (by decide)) (fun _ => ?_)
  refine g_aload_n (pc := 42) dc_M_start_42 rfl ?_
  refine g_getfield (pc := 43) dc_M_start_43 fl_M_350 rfl rfl ?_
  refine g_iload_n (pc := 46) dc_M_start_46 rfl ?_
  refine g_aload_n (pc := 47) dc_M_start_47 rfl ?_
  refine g_getfield (pc := 48) dc_M_start_48 fl_M_347 rfl rfl ?_
  refine g_iload_n (pc := 51) dc_M_start_51 rfl ?_
  refine g_iaload (pc := 52) dc_M_start_52 rfl (am_vin rfl) ?_
  refine g_iastore (pc := 53) dc_M_start_53 rfl (am_vin rfl) ?_
  refine g_iinc (pc := 54) (v := 4) dc_M_start_54 rfl (by decide) (by decide) ?_
  refine g_goto (pc := 57) (tgt := 37) dc_M_start_57 rfl ?_
  refine g_iload_n (pc := 37) dc_M_start_37 rfl ?_
  refine g_iconst (pc := 38) (v := 4) dc_M_start_38 rfl ?_
  refine g_icmp_ge (pc := 39) (tgt := 60) dc_M_start_39 rfl (fun _ => ?_) (fun hc => absurd hc (by decide))
  refine g_iconst (pc := 60) (v := 0) dc_M_start_60 rfl ?_
  refine g_istore_n (pc := 61) dc_M_start_61 (by decide) ?_
  refine g_iload_n (pc := 62) dc_M_start_62 rfl ?_
  refine g_aload_n (pc := 63) dc_M_start_63 rfl ?_
  refine g_getfield (pc := 64) dc_M_start_64 fl_M_517 rfl rfl ?_
  refine g_icmp_ge (pc := 67) (tgt := 88) dc_M_start_67 rfl (fun _ => ?_) (fun hc => absurd hc (by decide))
  refine g_aload_n (pc := 88) dc_M_start_88 rfl ?_
  refine g_v0 (pc := 89) (M' := mt_M_save) dc_M_start_89 mo_M_save im_M_save se_M_save ln_M_523 rfl rfl rfl (Nat.le_of_ble_eq_true rfl) (Nat.le_of_ble_eq_true rfl) ?_
  refine g_iconst (pc := 0) (v := 0) dc_M_save_0 rfl ?_
  refine g_istore_n (pc := 1) dc_M_save_1 (by decide) ?_
  refine g_iload_n (pc := 2) dc_M_save_2 rfl ?_
  refine g_bipush (pc := 3) (v := 6) dc_M_save_3 rfl ?_
  refine g_aload_n (pc := 5) dc_M_save_5 rfl ?_
  refine g_getfield (pc := 6) dc_M_save_6 fl_M_412 rfl rfl ?_
  refine g_imul (pc := 9) (v := 0) dc_M_save_9 (by decide) ?_
  refine g_icmp_ge (pc := 10) (tgt := 31) dc_M_save_10 rfl (fun _ => ?_) (fun hc => absurd hc (by decide))
  refine g_aload_n (pc := 31) dc_M_save_31 rfl ?_
  refine g_aload_n (pc := 32) dc_M_save_32 rfl ?_
  refine g_getfield (pc := 33) dc_M_save_33 fl_M_412 rfl rfl ?_
  refine g_putfield (pc := 36) dc_M_save_36 fp_M_save_421 rfl (Nat.le_of_ble_eq_true rfl) rfl rfl ?_
  refine g_aload_n (pc := 39) dc_M_save_39 rfl ?_
  refine g_iconst (pc := 40) (v := 0) dc_M_save_40 rfl ?_
  refine g_putfield (pc := 41) dc_M_save_41 fp_M_save_424 rfl (Nat.le_of_ble_eq_true rfl) rfl rfl ?_
  refine g_vretC (pc := 44) dc_M_save_44 rfl ?_
  refine g_aload_n (pc := 92) dc_M_start_92 rfl ?_
  refine g_getfield (pc := 93) dc_M_start_93 fl_M_412 rfl rfl ?_
  refine g_iretC (pc := 96) dc_M_start_96 rfl ?_
  refine g_icmp_eq (pc := 479) (tgt := 873) dc_L_law_479 rfl (fun _ => ?_) (fun hc => absurd hc (by decide))
  refine g_iinc (pc := 873) (v := 6) dc_L_law_873 rfl (by decide) (by decide) ?_
  refine g_goto (pc := 876) (tgt := 23) dc_L_law_876 rfl ?_
  refine g_iload (pc := 23) dc_L_law_23 rfl ?_
  refine g_xload_n (pc := 25) dc_L_law_25 rfl ?_
  refine g_scriptLenV (pc := 26) (n := 6) dc_L_law_26 hL rfl ?_
  refine g_bipush (pc := 27) (v := 6) dc_L_law_27 rfl ?_
  refine g_isub (pc := 29) (v := 0) dc_L_law_29 (by decide) ?_
  refine g_icmp_gt (pc := 30) (tgt := 879) dc_L_law_30 rfl (fun _ => ?_) (fun hc => absurd hc (by decide))
  refine g_iconst (pc := 879) (v := 1) dc_L_law_879 rfl ?_
  exact g_zreturn dc_L_law_880 rfl rfl ⟨rfl, (Nat.le_of_ble_eq_true rfl), (Nat.le_of_ble_eq_true rfl)⟩
