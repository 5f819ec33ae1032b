def hp_0 : List va_E := [.inr (0, [.ref 1, .ref 3, .ref 5, .ref 7, .ref 12, .ref 26, .ref 29, .ref 30, .ref 34, .ref 59, .ref 77]), .inr (1, [.ref 2, .int 0]), .inl (0, 256, .inl (fun _ => 0)), .inr (1, [.ref 4, .int 0]), .inl (0, 256, .inl (fun _ => 0)), .inr (1, [.ref 6, .int 0]), .inl (0, 200, .inl (fun _ => 0)), .inr (2, [.ref 8, .ref 10]), .inr (1, [.ref 9, .int 0]), .inl (0, 512, .inl (fun _ => 0)), .inr (1, [.ref 11, .int 0]), .inl (0, 512, .inl (fun _ => 0)), .inr (3, [.ref 13, .ref 17, .ref 7, .ref 21, .ref 22, .ref 24]), .inr (4, [.ref 14, .ref 16, .int 0]), .inr (1, [.ref 15, .int 0]), .inl (0, 512, .inl (fun _ => 0)), .inl (1, 60, .inl (fun _ => 0)), .inr (4, [.ref 18, .ref 20, .int 0]), .inr (1, [.ref 19, .int 0]), .inl (0, 512, .inl (fun _ => 0)), .inl (1, 128, .inl (fun _ => 0)), .inr (5, [.int 0, .int 0, .int 0, .int 0, .null, .int 0, .int 0, .int 0, .int 0]), .inr (1, [.ref 23, .int 0]), .inl (0, 200, .inl (fun _ => 0)), .inr (1, [.ref 25, .int 0]), .inl (0, 512, .inl (fun _ => 0)), .inr (6, [.int 0, .ref 27, .ref 28, .int 0]), .inl (4, 60, .inr (.inr (.inr (.inr (fun _ => none))))), .inl (5, 12, .inr (.inr (.inr (.inr (fun _ => none))))), .inl (1, 4, .inl (upd (upd (upd (upd (fun _ => 0) 0 3) 1 3) 2 2) 3 4)), .inr (4, [.ref 31, .ref 33, .int 0]), .inr (1, [.ref 32, .int 0]), .inl (0, 256, .inl (fun _ => 0)), .inl (1, 20, .inl (fun _ => 0)), .inr (7, [.int 0, .int 0, .int 0, .ref 35, .ref 39, .ref 44, .ref 45, .ref 49, .ref 26, .ref 7, .ref 12, .ref 50, .ref 51, .ref 53, .ref 54, .int 0, .int 0, .int 0]), .inr (4, [.ref 36, .ref 38, .int 0]), .inr (1, [.ref 37, .int 0]), .inl (0, 1024, .inl (fun _ => 0)), .inl (1, 250, .inl (fun _ => 0)), .inl (6, 4, .inr (.inr (.inr (.inr (fun j => if j < 4 then some (39 + 1 + j) else none))))), .inl (1, 250, .inl (fun _ => 0)), .inl (1, 250, .inl (fun _ => 0)), .inl (1, 250, .inl (fun _ => 0)), .inl (1, 250, .inl (fun _ => 0)), .inl (4, 250, .inr (.inr (.inr (.inr (fun _ => none))))), .inr (4, [.ref 46, .ref 48, .int 0]), .inr (1, [.ref 47, .int 0]), .inl (0, 1024, .inl (fun _ => 0)), .inl (1, 1000, .inl (fun _ => 0)), .inl (1, 1000, .inl (fun _ => 0)), .inl (1, 4, .inl (fun _ => 0)), .inr (1, [.ref 52, .int 0]), .inl (0, 200, .inl (fun _ => 0)), .inl (1, 250, .inl (fun _ => 0)), .inl (6, 4, .inr (.inr (.inr (.inr (fun j => if j < 4 then some (54 + 1 + j) else none))))), .inl (1, 250, .inl (fun _ => 0)), .inl (1, 250, .inl (fun _ => 0)), .inl (1, 250, .inl (fun _ => 0)), .inl (1, 250, .inl (fun _ => 0)), .inr (8, [.int 0, .ref 60, .ref 61, .ref 62, .ref 63, .ref 64, .ref 65, .ref 66, .ref 67, .ref 12, .ref 71, .ref 73, .ref 74, .ref 75, .ref 76]), .inl (4, 250, .inr (.inr (.inr (.inr (fun _ => none))))), .inl (1, 250, .inl (fun _ => 0)), .inl (1, 250, .inl (fun _ => 0)), .inl (1, 250, .inl (fun _ => 0)), .inl (1, 250, .inl (fun _ => 0)), .inl (1, 250, .inl (fun _ => 0)), .inl (1, 251, .inl (fun _ => 0)), .inr (4, [.ref 68, .ref 70, .int 0]), .inr (1, [.ref 69, .int 0]), .inl (0, 512, .inl (fun _ => 0)), .inl (1, 128, .inl (fun _ => 0)), .inr (1, [.ref 72, .int 0]), .inl (0, 200, .inl (fun _ => 0)), .inl (1, 15000, .inl (fun _ => 0)), .inl (1, 250, .inl (fun _ => 0)), .inl (1, 250, .inl (fun _ => 0)), .inl (1, 250, .inl (fun _ => 0)), .inr (9, [.int 0, .ref 78, .ref 79, .ref 80]), .inl (1, 250, .inl (fun _ => 0)), .inl (2, 250, .inr (.inl (fun _ => 0))), .inr (4, [.ref 81, .ref 83, .int 0]), .inr (1, [.ref 82, .int 0]), .inl (0, 256, .inl (fun _ => 0)), .inl (1, 64, .inl (fun _ => 0)), .inr (12, [.ref 85, .int 0, .int 0, .ref 86, .int 0, .ref 87, .ref 88, .ref 89, .int 0, .ref 90, .int 0, .ref 91, .ref 92, .ref 93, .ref 94, .ref 95, .int 0, .int 0, .int 0, .ref 96, .int 0, .ref 97, .ref 98, .int 0, .ref 99, .ref 100, .int 0, .int 0, .int 0, .int 0, .ref 101, .int 0, .ref 102, .int 0, .int 0, .ref 103, .int 0, .ref 104, .ref 105, .ref 106, .int 0, .ref 107, .ref 108, .ref 109, .int 0, .int 0, .int 0, .int 0, .int 0, .int 0, .int 0, .ref 110, .ref 111, .ref 112, .int 0, .ref 113, .int 0, .ref 114, .ref 115, .ref 116, .int 0, .int 0, .int 0, .ref 117, .int 0, .ref 118, .int 0, .int 0, .int 0, .ref 119, .ref 120, .ref 121, .ref 122, .int 0, .int 0, .int 0, .ref 123, .ref 124, .ref 125, .ref 126, .ref 127, .ref 128, .ref 129, .ref 130, .int 0, .ref 131, .ref 132, .ref 133, .ref 134, .int 0]), .inl (0, 8020, .inl (fun _ => 0)), .inl (0, 20000, .inl (fun _ => 0)), .inl (0, 700000, .inl (fun _ => 0)), .inl (1, 3500, .inl (fun _ => 0)), .inl (1, 3500, .inl (fun _ => 0)), .inl (0, 200, .inl (fun _ => 0)), .inl (0, 80, .inl (fun _ => 0)), .inl (0, 8400, .inl (fun _ => 0)), .inl (0, 8400, .inl (fun _ => 0)), .inl (0, 8400, .inl (fun _ => 0)), .inl (1, 8400, .inl (fun _ => 0)), .inl (0, 24000, .inl (fun _ => 0)), .inl (1, 1100, .inl (fun _ => 0)), .inl (1, 1100, .inl (fun _ => 0)), .inl (1, 12, .inl (fun _ => 0)), .inl (1, 12, .inl (fun _ => 0)), .inl (0, 8000, .inl (fun _ => 0)), .inl (3, 201, .inl (fun _ => 0)), .inl (0, 8000, .inl (fun _ => 0)), .inl (0, 8000, .inl (fun _ => 0)), .inl (1, 4001, .inl (fun _ => 0)), .inl (1, 4001, .inl (fun _ => 0)), .inl (0, 8000, .inl (fun _ => 0)), .inl (1, 1000, .inl (fun _ => 0)), .inl (1, 1000, .inl (fun _ => 0)), .inl (1, 60, .inl (fun _ => 0)), .inl (1, 60, .inl (fun _ => 0)), .inl (1, 60, .inl (fun _ => 0)), .inl (1, 60, .inl (fun _ => 0)), .inl (1, 4, .inl (upd (upd (upd (upd (fun _ => 0) 0 3) 1 3) 2 2) 3 4)), .inl (1, 4, .inl (fun _ => 0)), .inl (1, 20, .inl (fun _ => 0)), .inl (1, 1500, .inl (fun _ => 0)), .inl (1, 1500, .inl (fun _ => 0)), .inl (1, 1000, .inl (fun _ => 0)), .inl (1, 1000, .inl (fun _ => 0)), .inl (1, 250, .inl (fun _ => 0)), .inl (1, 250, .inl (fun _ => 0)), .inl (1, 250, .inl (fun _ => 0)), .inl (1, 250, .inl (fun _ => 0)), .inl (1, 250, .inl (fun _ => 0)), .inl (1, 250, .inl (fun _ => 0)), .inl (1, 250, .inl (fun _ => 0)), .inl (2, 250, .inr (.inl (fun _ => 0))), .inl (2, 250, .inr (.inl (fun _ => 0))), .inl (3, 62500, .inl (fun _ => 0)), .inl (1, 250, .inl (fun _ => 0)), .inl (2, 250, .inr (.inl (fun _ => 0))), .inl (0, 160, .inl (fun _ => 0)), .inl (1, 8, .inl (fun _ => 0)), .inl (2, 1, .inr (.inl (fun _ => 0)))]
abbrev lo_0 : List (Option Value) := [some (.retAddr 300), some (.ref 0), some (.ref 84), some (.ref 135), some (.int 0), none, none]
set_option maxRecDepth 20000 in
/-- the two objects are made: the law stands at its loop -/
theorem am_open {X : am_X} {Q : Option Value → List va_E → Prop} (k : am_G X mt_L_law 60 23 lo_0 [] hp_0 Q) : am_C X mt_L_law 60 [.retAddr 300] [] Q := by
  show am_G X mt_L_law 60 0 [some (.retAddr 300), none, none, none, none, none, none] [] [] Q
  refine g_new (pc := 0) dc_L_law_0 mk_L_8 ?_
  refine g_dup (pc := 3) dc_L_law_3 rfl ?_
  refine g_i0 (pc := 4) (M' := mt_W_init) dc_L_law_4 mo_W_init im_W_init rfl rfl ln_L_21 (Nat.le_of_ble_eq_true rfl) (Nat.le_of_ble_eq_true rfl) ?_
  refine g_aload_n (pc := 0) dc_W_init_0 rfl ?_
  refine g_objInit (pc := 1) dc_W_init_1 ob_W_1 (Nat.le_of_ble_eq_true rfl) ?_
  refine g_aload_n (pc := 4) dc_W_init_4 rfl ?_
  refine g_new (pc := 5) dc_W_init_5 mk_W_7 ?_
  refine g_dup (pc := 8) dc_W_init_8 rfl ?_
  refine g_sipush (pc := 9) (v := 256) dc_W_init_9 rfl ?_
  refine g_i1 (pc := 12) (M' := mt_B_init) dc_W_init_12 mo_B_init im_B_init rfl rfl ln_W_9 (Nat.le_of_ble_eq_true rfl) (Nat.le_of_ble_eq_true rfl) ?_
  refine g_aload_n (pc := 0) dc_B_init_0 rfl ?_
  refine g_objInit (pc := 1) dc_B_init_1 ob_B_3 (Nat.le_of_ble_eq_true rfl) ?_
  refine g_aload_n (pc := 4) dc_B_init_4 rfl ?_
  refine g_iload_n (pc := 5) dc_B_init_5 rfl ?_
  refine g_newarray_b (pc := 6) (N := 256) dc_B_init_6 (by decide) (by decide) (by decide) ?_
  refine g_putfield (pc := 8) dc_B_init_8 fp_B_init_9 rfl (Nat.le_of_ble_eq_true rfl) rfl rfl ?_
  refine g_vretC (pc := 11) dc_B_init_11 rfl ?_
  refine g_putfield (pc := 15) dc_W_init_15 fp_W_init_12 rfl (Nat.le_of_ble_eq_true rfl) rfl rfl ?_
  refine g_aload_n (pc := 18) dc_W_init_18 rfl ?_
  refine g_new (pc := 19) dc_W_init_19 mk_W_7 ?_
  refine g_dup (pc := 22) dc_W_init_22 rfl ?_
  refine g_sipush (pc := 23) (v := 256) dc_W_init_23 rfl ?_
  refine g_i1 (pc := 26) (M' := mt_B_init) dc_W_init_26 mo_B_init im_B_init rfl rfl ln_W_9 (Nat.le_of_ble_eq_true rfl) (Nat.le_of_ble_eq_true rfl) ?_
  refine g_aload_n (pc := 0) dc_B_init_0 rfl ?_
  refine g_objInit (pc := 1) dc_B_init_1 ob_B_3 (Nat.le_of_ble_eq_true rfl) ?_
  refine g_aload_n (pc := 4) dc_B_init_4 rfl ?_
  refine g_iload_n (pc := 5) dc_B_init_5 rfl ?_
  refine g_newarray_b (pc := 6) (N := 256) dc_B_init_6 (by decide) (by decide) (by decide) ?_
  refine g_putfield (pc := 8) dc_B_init_8 fp_B_init_9 rfl (Nat.le_of_ble_eq_true rfl) rfl rfl ?_
  refine g_vretC (pc := 11) dc_B_init_11 rfl ?_
  refine g_putfield (pc := 29) dc_W_init_29 fp_W_init_18 rfl (Nat.le_of_ble_eq_true rfl) rfl rfl ?_
  refine g_aload_n (pc := 32) dc_W_init_32 rfl ?_
  refine g_new (pc := 33) dc_W_init_33 mk_W_7 ?_
  refine g_dup (pc := 36) dc_W_init_36 rfl ?_
  refine g_sipush (pc := 37) (v := 200) dc_W_init_37 rfl ?_
  refine g_i1 (pc := 40) (M' := mt_B_init) dc_W_init_40 mo_B_init im_B_init rfl rfl ln_W_9 (Nat.le_of_ble_eq_true rfl) (Nat.le_of_ble_eq_true rfl) ?_
  refine g_aload_n (pc := 0) dc_B_init_0 rfl ?_
  refine g_objInit (pc := 1) dc_B_init_1 ob_B_3 (Nat.le_of_ble_eq_true rfl) ?_
  refine g_aload_n (pc := 4) dc_B_init_4 rfl ?_
  refine g_iload_n (pc := 5) dc_B_init_5 rfl ?_
  refine g_newarray_b (pc := 6) (N := 200) dc_B_init_6 (by decide) (by decide) (by decide) ?_
  refine g_putfield (pc := 8) dc_B_init_8 fp_B_init_9 rfl (Nat.le_of_ble_eq_true rfl) rfl rfl ?_
  refine g_vretC (pc := 11) dc_B_init_11 rfl ?_
  refine g_putfield (pc := 43) dc_W_init_43 fp_W_init_21 rfl (Nat.le_of_ble_eq_true rfl) rfl rfl ?_
  refine g_aload_n (pc := 46) dc_W_init_46 rfl ?_
  refine g_new (pc := 47) dc_W_init_47 mk_W_24 ?_
  refine g_dup (pc := 50) dc_W_init_50 rfl ?_
  refine g_i0 (pc := 51) (M' := mt_A_init) dc_W_init_51 mo_A_init im_A_init rfl rfl ln_W_26 (Nat.le_of_ble_eq_true rfl) (Nat.le_of_ble_eq_true rfl) ?_
  refine g_aload_n (pc := 0) dc_A_init_0 rfl ?_
  refine g_objInit (pc := 1) dc_A_init_1 ob_A_3 (Nat.le_of_ble_eq_true rfl) ?_
  refine g_aload_n (pc := 4) dc_A_init_4 rfl ?_
  refine g_new (pc := 5) dc_A_init_5 mk_A_9 ?_
  refine g_dup (pc := 8) dc_A_init_8 rfl ?_
  refine g_sipush (pc := 9) (v := 512) dc_A_init_9 rfl ?_
  refine g_i1 (pc := 12) (M' := mt_B_init) dc_A_init_12 mo_B_init im_B_init rfl rfl ln_A_11 (Nat.le_of_ble_eq_true rfl) (Nat.le_of_ble_eq_true rfl) ?_
  refine g_aload_n (pc := 0) dc_B_init_0 rfl ?_
  refine g_objInit (pc := 1) dc_B_init_1 ob_B_3 (Nat.le_of_ble_eq_true rfl) ?_
  refine g_aload_n (pc := 4) dc_B_init_4 rfl ?_
  refine g_iload_n (pc := 5) dc_B_init_5 rfl ?_
  refine g_newarray_b (pc := 6) (N := 512) dc_B_init_6 (by decide) (by decide) (by decide) ?_
  refine g_putfield (pc := 8) dc_B_init_8 fp_B_init_9 rfl (Nat.le_of_ble_eq_true rfl) rfl rfl ?_
  refine g_vretC (pc := 11) dc_B_init_11 rfl ?_
  refine g_putfield (pc := 15) dc_A_init_15 fp_A_init_14 rfl (Nat.le_of_ble_eq_true rfl) rfl rfl ?_
  refine g_aload_n (pc := 18) dc_A_init_18 rfl ?_
  refine g_new (pc := 19) dc_A_init_19 mk_A_9 ?_
  refine g_dup (pc := 22) dc_A_init_22 rfl ?_
  refine g_sipush (pc := 23) (v := 512) dc_A_init_23 rfl ?_
  refine g_i1 (pc := 26) (M' := mt_B_init) dc_A_init_26 mo_B_init im_B_init rfl rfl ln_A_11 (Nat.le_of_ble_eq_true rfl) (Nat.le_of_ble_eq_true rfl) ?_
  refine g_aload_n (pc := 0) dc_B_init_0 rfl ?_
  refine g_objInit (pc := 1) dc_B_init_1 ob_B_3 (Nat.le_of_ble_eq_true rfl) ?_
  refine g_aload_n (pc := 4) dc_B_init_4 rfl ?_
  refine g_iload_n (pc := 5) dc_B_init_5 rfl ?_
  refine g_newarray_b (pc := 6) (N := 512) dc_B_init_6 (by decide) (by decide) (by decide) ?_
  refine g_putfield (pc := 8) dc_B_init_8 fp_B_init_9 rfl (Nat.le_of_ble_eq_true rfl) rfl rfl ?_
  refine g_vretC (pc := 11) dc_B_init_11 rfl ?_
  refine g_putfield (pc := 29) dc_A_init_29 fp_A_init_20 rfl (Nat.le_of_ble_eq_true rfl) rfl rfl ?_
  refine g_vretC (pc := 32) dc_A_init_32 rfl ?_
  refine g_putfield (pc := 54) dc_W_init_54 fp_W_init_27 rfl (Nat.le_of_ble_eq_true rfl) rfl rfl ?_
  refine g_aload_n (pc := 57) dc_W_init_57 rfl ?_
  refine g_new (pc := 58) dc_W_init_58 mk_W_31 ?_
  refine g_dup (pc := 61) dc_W_init_61 rfl ?_
  refine g_aload_n (pc := 62) dc_W_init_62 rfl ?_
  refine g_getfield (pc := 63) dc_W_init_63 fl_W_27 rfl rfl ?_
  refine g_i1 (pc := 66) (M' := mt_P_init) dc_W_init_66 mo_P_init im_P_init rfl rfl ln_W_33 (Nat.le_of_ble_eq_true rfl) (Nat.le_of_ble_eq_true rfl) ?_
  refine g_aload_n (pc := 0) dc_P_init_0 rfl ?_
  refine g_objInit (pc := 1) dc_P_init_1 ob_P_3 (Nat.le_of_ble_eq_true rfl) ?_
  refine g_aload_n (pc := 4) dc_P_init_4 rfl ?_
  refine g_new (pc := 5) dc_P_init_5 mk_P_9 ?_
  refine g_dup (pc := 8) dc_P_init_8 rfl ?_
  refine g_sipush (pc := 9) (v := 512) dc_P_init_9 rfl ?_
  refine g_bipush (pc := 12) (v := 60) dc_P_init_12 rfl ?_
  refine g_i2 (pc := 14) (M' := mt_R_init) dc_P_init_14 mo_R_init im_R_init rfl rfl ln_P_11 (Nat.le_of_ble_eq_true rfl) (Nat.le_of_ble_eq_true rfl) ?_
  refine g_aload_n (pc := 0) dc_R_init_0 rfl ?_
  refine g_objInit (pc := 1) dc_R_init_1 ob_R_3 (Nat.le_of_ble_eq_true rfl) ?_
  refine g_aload_n (pc := 4) dc_R_init_4 rfl ?_
  refine g_new (pc := 5) dc_R_init_5 mk_R_9 ?_
  refine g_dup (pc := 8) dc_R_init_8 rfl ?_
  refine g_iload_n (pc := 9) dc_R_init_9 rfl ?_
  refine g_i1 (pc := 10) (M' := mt_B_init) dc_R_init_10 mo_B_init im_B_init rfl rfl ln_R_11 (Nat.le_of_ble_eq_true rfl) (Nat.le_of_ble_eq_true rfl) ?_
  refine g_aload_n (pc := 0) dc_B_init_0 rfl ?_
  refine g_objInit (pc := 1) dc_B_init_1 ob_B_3 (Nat.le_of_ble_eq_true rfl) ?_
  refine g_aload_n (pc := 4) dc_B_init_4 rfl ?_
  refine g_iload_n (pc := 5) dc_B_init_5 rfl ?_
  refine g_newarray_b (pc := 6) (N := 512) dc_B_init_6 (by decide) (by decide) (by decide) ?_
  refine g_putfield (pc := 8) dc_B_init_8 fp_B_init_9 rfl (Nat.le_of_ble_eq_true rfl) rfl rfl ?_
  refine g_vretC (pc := 11) dc_B_init_11 rfl ?_
  refine g_putfield (pc := 13) dc_R_init_13 fp_R_init_14 rfl (Nat.le_of_ble_eq_true rfl) rfl rfl ?_
  refine g_aload_n (pc := 16) dc_R_init_16 rfl ?_
  refine g_iload_n (pc := 17) dc_R_init_17 rfl ?_
  refine g_newarray_i (pc := 18) (N := 60) dc_R_init_18 (by decide) (by decide) (by decide) ?_
  refine g_putfield (pc := 20) dc_R_init_20 fp_R_init_20 rfl (Nat.le_of_ble_eq_true rfl) rfl rfl ?_
  refine g_vretC (pc := 23) dc_R_init_23 rfl ?_
  refine g_putfield (pc := 17) dc_P_init_17 fp_P_init_14 rfl (Nat.le_of_ble_eq_true rfl) rfl rfl ?_
  refine g_aload_n (pc := 20) dc_P_init_20 rfl ?_
  refine g_new (pc := 21) dc_P_init_21 mk_P_9 ?_
  refine g_dup (pc := 24) dc_P_init_24 rfl ?_
  refine g_sipush (pc := 25) (v := 512) dc_P_init_25 rfl ?_
  refine g_sipush (pc := 28) (v := 128) dc_P_init_28 rfl ?_
  refine g_i2 (pc := 31) (M' := mt_R_init) dc_P_init_31 mo_R_init im_R_init rfl rfl ln_P_11 (Nat.le_of_ble_eq_true rfl) (Nat.le_of_ble_eq_true rfl) ?_
  refine g_aload_n (pc := 0) dc_R_init_0 rfl ?_
  refine g_objInit (pc := 1) dc_R_init_1 ob_R_3 (Nat.le_of_ble_eq_true rfl) ?_
  refine g_aload_n (pc := 4) dc_R_init_4 rfl ?_
  refine g_new (pc := 5) dc_R_init_5 mk_R_9 ?_
  refine g_dup (pc := 8) dc_R_init_8 rfl ?_
  refine g_iload_n (pc := 9) dc_R_init_9 rfl ?_
  refine g_i1 (pc := 10) (M' := mt_B_init) dc_R_init_10 mo_B_init im_B_init rfl rfl ln_R_11 (Nat.le_of_ble_eq_true rfl) (Nat.le_of_ble_eq_true rfl) ?_
  refine g_aload_n (pc := 0) dc_B_init_0 rfl ?_
  refine g_objInit (pc := 1) dc_B_init_1 ob_B_3 (Nat.le_of_ble_eq_true rfl) ?_
  refine g_aload_n (pc := 4) dc_B_init_4 rfl ?_
  refine g_iload_n (pc := 5) dc_B_init_5 rfl ?_
  refine g_newarray_b (pc := 6) (N := 512) dc_B_init_6 (by decide) (by decide) (by decide) ?_
  refine g_putfield (pc := 8) dc_B_init_8 fp_B_init_9 rfl (Nat.le_of_ble_eq_true rfl) rfl rfl ?_
  refine g_vretC (pc := 11) dc_B_init_11 rfl ?_
  refine g_putfield (pc := 13) dc_R_init_13 fp_R_init_14 rfl (Nat.le_of_ble_eq_true rfl) rfl rfl ?_
  refine g_aload_n (pc := 16) dc_R_init_16 rfl ?_
  refine g_iload_n (pc := 17) dc_R_init_17 rfl ?_
  refine g_newarray_i (pc := 18) (N := 128) dc_R_init_18 (by decide) (by decide) (by decide) ?_
  refine g_putfield (pc := 20) dc_R_init_20 fp_R_init_20 rfl (Nat.le_of_ble_eq_true rfl) rfl rfl ?_
  refine g_vretC (pc := 23) dc_R_init_23 rfl ?_
  refine g_putfield (pc := 34) dc_P_init_34 fp_P_init_20 rfl (Nat.le_of_ble_eq_true rfl) rfl rfl ?_
  refine g_aload_n (pc := 37) dc_P_init_37 rfl ?_
  refine g_new (pc := 38) dc_P_init_38 mk_P_23 ?_
  refine g_dup (pc := 41) dc_P_init_41 rfl ?_
  refine g_i0 (pc := 42) (M' := mt_S_init) dc_P_init_42 mo_S_init im_S_init rfl rfl ln_P_25 (Nat.le_of_ble_eq_true rfl) (Nat.le_of_ble_eq_true rfl) ?_
  refine g_aload_n (pc := 0) dc_S_init_0 rfl ?_
  refine g_objInit (pc := 1) dc_S_init_1 ob_S_3 (Nat.le_of_ble_eq_true rfl) ?_
  refine g_vretC (pc := 4) dc_S_init_4 rfl ?_
  refine g_putfield (pc := 45) dc_P_init_45 fp_P_init_26 rfl (Nat.le_of_ble_eq_true rfl) rfl rfl ?_
  refine g_aload_n (pc := 48) dc_P_init_48 rfl ?_
  refine g_new (pc := 49) dc_P_init_49 mk_P_30 ?_
  refine g_dup (pc := 52) dc_P_init_52 rfl ?_
  refine g_sipush (pc := 53) (v := 200) dc_P_init_53 rfl ?_
  refine g_i1 (pc := 56) (M' := mt_B_init) dc_P_init_56 mo_B_init im_B_init rfl rfl ln_P_32 (Nat.le_of_ble_eq_true rfl) (Nat.le_of_ble_eq_true rfl) ?_
  refine g_aload_n (pc := 0) dc_B_init_0 rfl ?_
  refine g_objInit (pc := 1) dc_B_init_1 ob_B_3 (Nat.le_of_ble_eq_true rfl) ?_
  refine g_aload_n (pc := 4) dc_B_init_4 rfl ?_
  refine g_iload_n (pc := 5) dc_B_init_5 rfl ?_
  refine g_newarray_b (pc := 6) (N := 200) dc_B_init_6 (by decide) (by decide) (by decide) ?_
  refine g_putfield (pc := 8) dc_B_init_8 fp_B_init_9 rfl (Nat.le_of_ble_eq_true rfl) rfl rfl ?_
  refine g_vretC (pc := 11) dc_B_init_11 rfl ?_
  refine g_putfield (pc := 59) dc_P_init_59 fp_P_init_35 rfl (Nat.le_of_ble_eq_true rfl) rfl rfl ?_
  refine g_aload_n (pc := 62) dc_P_init_62 rfl ?_
  refine g_new (pc := 63) dc_P_init_63 mk_P_30 ?_
  refine g_dup (pc := 66) dc_P_init_66 rfl ?_
  refine g_sipush (pc := 67) (v := 512) dc_P_init_67 rfl ?_
  refine g_i1 (pc := 70) (M' := mt_B_init) dc_P_init_70 mo_B_init im_B_init rfl rfl ln_P_32 (Nat.le_of_ble_eq_true rfl) (Nat.le_of_ble_eq_true rfl) ?_
  refine g_aload_n (pc := 0) dc_B_init_0 rfl ?_
  refine g_objInit (pc := 1) dc_B_init_1 ob_B_3 (Nat.le_of_ble_eq_true rfl) ?_
  refine g_aload_n (pc := 4) dc_B_init_4 rfl ?_
  refine g_iload_n (pc := 5) dc_B_init_5 rfl ?_
  refine g_newarray_b (pc := 6) (N := 512) dc_B_init_6 (by decide) (by decide) (by decide) ?_
  refine g_putfield (pc := 8) dc_B_init_8 fp_B_init_9 rfl (Nat.le_of_ble_eq_true rfl) rfl rfl ?_
  refine g_vretC (pc := 11) dc_B_init_11 rfl ?_
  refine g_putfield (pc := 73) dc_P_init_73 fp_P_init_39 rfl (Nat.le_of_ble_eq_true rfl) rfl rfl ?_
  refine g_aload_n (pc := 76) dc_P_init_76 rfl ?_
  refine g_aload_n (pc := 77) dc_P_init_77 rfl ?_
  refine g_putfield (pc := 78) dc_P_init_78 fp_P_init_42 rfl (Nat.le_of_ble_eq_true rfl) rfl rfl ?_
  refine g_vretC (pc := 81) dc_P_init_81 rfl ?_
  refine g_putfield (pc := 69) dc_W_init_69 fp_W_init_36 rfl (Nat.le_of_ble_eq_true rfl) rfl rfl ?_
  refine g_aload_n (pc := 72) dc_W_init_72 rfl ?_
  refine g_new (pc := 73) dc_W_init_73 mk_W_40 ?_
  refine g_dup (pc := 76) dc_W_init_76 rfl ?_
  refine g_i0 (pc := 77) (M' := mt_V_init) dc_W_init_77 mo_V_init im_V_init rfl rfl ln_W_42 (Nat.le_of_ble_eq_true rfl) (Nat.le_of_ble_eq_true rfl) ?_
  refine g_aload_n (pc := 0) dc_V_init_0 rfl ?_
  refine g_objInit (pc := 1) dc_V_init_1 ob_V_3 (Nat.le_of_ble_eq_true rfl) ?_
  refine g_aload_n (pc := 4) dc_V_init_4 rfl ?_
  refine g_bipush (pc := 5) (v := 60) dc_V_init_5 rfl ?_
  refine g_anewarray (pc := 7) (N := 60) dc_V_init_7 (am_t1 195 rfl rfl) (Or.inl ⟨rfl, rfl⟩) (by decide) (by decide) (by decide) ?_
  refine g_putfield (pc := 10) dc_V_init_10 fp_V_init_11 rfl (Nat.le_of_ble_eq_true rfl) rfl rfl ?_
  refine g_aload_n (pc := 13) dc_V_init_13 rfl ?_
  refine g_bipush (pc := 14) (v := 12) dc_V_init_14 rfl ?_
  refine g_anewarray (pc := 16) (N := 12) dc_V_init_16 (am_t1 197 rfl rfl) (Or.inr ⟨rfl, rfl⟩) (by decide) (by decide) (by decide) ?_
  refine g_putfield (pc := 19) dc_V_init_19 fp_V_init_19 rfl (Nat.le_of_ble_eq_true rfl) rfl rfl ?_
  refine g_vretC (pc := 22) dc_V_init_22 rfl ?_
  refine g_putfield (pc := 80) dc_W_init_80 fp_W_init_43 rfl (Nat.le_of_ble_eq_true rfl) rfl rfl ?_
  refine g_aload_n (pc := 83) dc_W_init_83 rfl ?_
  refine g_iconst (pc := 84) (v := 4) dc_W_init_84 rfl ?_
  refine g_newarray_i (pc := 85) (N := 4) dc_W_init_85 (by decide) (by decide) (by decide) ?_
  refine g_dup (pc := 87) dc_W_init_87 rfl ?_
  refine g_iconst (pc := 88) (v := 0) dc_W_init_88 rfl ?_
  refine g_iconst (pc := 89) (v := 3) dc_W_init_89 rfl ?_
  refine g_iastore (pc := 90) dc_W_init_90 rfl (am_vin rfl) ?_
  refine g_dup (pc := 91) dc_W_init_91 rfl ?_
  refine g_iconst (pc := 92) (v := 1) dc_W_init_92 rfl ?_
  refine g_iconst (pc := 93) (v := 3) dc_W_init_93 rfl ?_
  refine g_iastore (pc := 94) dc_W_init_94 rfl (am_vin rfl) ?_
  refine g_dup (pc := 95) dc_W_init_95 rfl ?_
  refine g_iconst (pc := 96) (v := 2) dc_W_init_96 rfl ?_
  refine g_iconst (pc := 97) (v := 2) dc_W_init_97 rfl ?_
  refine g_iastore (pc := 98) dc_W_init_98 rfl (am_vin rfl) ?_
  refine g_dup (pc := 99) dc_W_init_99 rfl ?_
  refine g_iconst (pc := 100) (v := 3) dc_W_init_100 rfl ?_
  refine g_iconst (pc := 101) (v := 4) dc_W_init_101 rfl ?_
  refine g_iastore (pc := 102) dc_W_init_102 rfl (am_vin rfl) ?_
  refine g_putfield (pc := 103) dc_W_init_103 fp_W_init_47 rfl (Nat.le_of_ble_eq_true rfl) rfl rfl ?_
  refine g_aload_n (pc := 106) dc_W_init_106 rfl ?_
  refine g_new (pc := 107) dc_W_init_107 mk_W_51 ?_
  refine g_dup (pc := 110) dc_W_init_110 rfl ?_
  refine g_sipush (pc := 111) (v := 256) dc_W_init_111 rfl ?_
  refine g_bipush (pc := 114) (v := 20) dc_W_init_114 rfl ?_
  refine g_i2 (pc := 116) (M' := mt_R_init) dc_W_init_116 mo_R_init im_R_init rfl rfl ln_W_53 (Nat.le_of_ble_eq_true rfl) (Nat.le_of_ble_eq_true rfl) ?_
  refine g_aload_n (pc := 0) dc_R_init_0 rfl ?_
  refine g_objInit (pc := 1) dc_R_init_1 ob_R_3 (Nat.le_of_ble_eq_true rfl) ?_
  refine g_aload_n (pc := 4) dc_R_init_4 rfl ?_
  refine g_new (pc := 5) dc_R_init_5 mk_R_9 ?_
  refine g_dup (pc := 8) dc_R_init_8 rfl ?_
  refine g_iload_n (pc := 9) dc_R_init_9 rfl ?_
  refine g_i1 (pc := 10) (M' := mt_B_init) dc_R_init_10 mo_B_init im_B_init rfl rfl ln_R_11 (Nat.le_of_ble_eq_true rfl) (Nat.le_of_ble_eq_true rfl) ?_
  refine g_aload_n (pc := 0) dc_B_init_0 rfl ?_
  refine g_objInit (pc := 1) dc_B_init_1 ob_B_3 (Nat.le_of_ble_eq_true rfl) ?_
  refine g_aload_n (pc := 4) dc_B_init_4 rfl ?_
  refine g_iload_n (pc := 5) dc_B_init_5 rfl ?_
  refine g_newarray_b (pc := 6) (N := 256) dc_B_init_6 (by decide) (by decide) (by decide) ?_
  refine g_putfield (pc := 8) dc_B_init_8 fp_B_init_9 rfl (Nat.le_of_ble_eq_true rfl) rfl rfl ?_
  refine g_vretC (pc := 11) dc_B_init_11 rfl ?_
  refine g_putfield (pc := 13) dc_R_init_13 fp_R_init_14 rfl (Nat.le_of_ble_eq_true rfl) rfl rfl ?_
  refine g_aload_n (pc := 16) dc_R_init_16 rfl ?_
  refine g_iload_n (pc := 17) dc_R_init_17 rfl ?_
  refine g_newarray_i (pc := 18) (N := 20) dc_R_init_18 (by decide) (by decide) (by decide) ?_
  refine g_putfield (pc := 20) dc_R_init_20 fp_R_init_20 rfl (Nat.le_of_ble_eq_true rfl) rfl rfl ?_
  refine g_vretC (pc := 23) dc_R_init_23 rfl ?_
  refine g_putfield (pc := 119) dc_W_init_119 fp_W_init_56 rfl (Nat.le_of_ble_eq_true rfl) rfl rfl ?_
  refine g_aload_n (pc := 122) dc_W_init_122 rfl ?_
  refine g_new (pc := 123) dc_W_init_123 mk_W_60 ?_
  refine g_dup (pc := 126) dc_W_init_126 rfl ?_
  refine g_aload_n (pc := 127) dc_W_init_127 rfl ?_
  refine g_getfield (pc := 128) dc_W_init_128 fl_W_43 rfl rfl ?_
  refine g_aload_n (pc := 131) dc_W_init_131 rfl ?_
  refine g_getfield (pc := 132) dc_W_init_132 fl_W_27 rfl rfl ?_
  refine g_aload_n (pc := 135) dc_W_init_135 rfl ?_
  refine g_getfield (pc := 136) dc_W_init_136 fl_W_36 rfl rfl ?_
  refine g_i3 (pc := 139) (M' := mt_C_init) dc_W_init_139 mo_C_init im_C_init rfl rfl ln_W_62 (Nat.le_of_ble_eq_true rfl) (Nat.le_of_ble_eq_true rfl) ?_
  refine g_aload_n (pc := 0) dc_C_init_0 rfl ?_
  refine g_objInit (pc := 1) dc_C_init_1 ob_C_3 (Nat.le_of_ble_eq_true rfl) ?_
  refine g_aload_n (pc := 4) dc_C_init_4 rfl ?_
  refine g_new (pc := 5) dc_C_init_5 mk_C_9 ?_
  refine g_dup (pc := 8) dc_C_init_8 rfl ?_
  refine g_sipush (pc := 9) (v := 1024) dc_C_init_9 rfl ?_
  refine g_sipush (pc := 12) (v := 250) dc_C_init_12 rfl ?_
  refine g_i2 (pc := 15) (M' := mt_R_init) dc_C_init_15 mo_R_init im_R_init rfl rfl ln_C_11 (Nat.le_of_ble_eq_true rfl) (Nat.le_of_ble_eq_true rfl) ?_
  refine g_aload_n (pc := 0) dc_R_init_0 rfl ?_
  refine g_objInit (pc := 1) dc_R_init_1 ob_R_3 (Nat.le_of_ble_eq_true rfl) ?_
  refine g_aload_n (pc := 4) dc_R_init_4 rfl ?_
  refine g_new (pc := 5) dc_R_init_5 mk_R_9 ?_
  refine g_dup (pc := 8) dc_R_init_8 rfl ?_
  refine g_iload_n (pc := 9) dc_R_init_9 rfl ?_
  refine g_i1 (pc := 10) (M' := mt_B_init) dc_R_init_10 mo_B_init im_B_init rfl rfl ln_R_11 (Nat.le_of_ble_eq_true rfl) (Nat.le_of_ble_eq_true rfl) ?_
  refine g_aload_n (pc := 0) dc_B_init_0 rfl ?_
  refine g_objInit (pc := 1) dc_B_init_1 ob_B_3 (Nat.le_of_ble_eq_true rfl) ?_
  refine g_aload_n (pc := 4) dc_B_init_4 rfl ?_
  refine g_iload_n (pc := 5) dc_B_init_5 rfl ?_
  refine g_newarray_b (pc := 6) (N := 1024) dc_B_init_6 (by decide) (by decide) (by decide) ?_
  refine g_putfield (pc := 8) dc_B_init_8 fp_B_init_9 rfl (Nat.le_of_ble_eq_true rfl) rfl rfl ?_
  refine g_vretC (pc := 11) dc_B_init_11 rfl ?_
  refine g_putfield (pc := 13) dc_R_init_13 fp_R_init_14 rfl (Nat.le_of_ble_eq_true rfl) rfl rfl ?_
  refine g_aload_n (pc := 16) dc_R_init_16 rfl ?_
  refine g_iload_n (pc := 17) dc_R_init_17 rfl ?_
  refine g_newarray_i (pc := 18) (N := 250) dc_R_init_18 (by decide) (by decide) (by decide) ?_
  refine g_putfield (pc := 20) dc_R_init_20 fp_R_init_20 rfl (Nat.le_of_ble_eq_true rfl) rfl rfl ?_
  refine g_vretC (pc := 23) dc_R_init_23 rfl ?_
  refine g_putfield (pc := 18) dc_C_init_18 fp_C_init_14 rfl (Nat.le_of_ble_eq_true rfl) rfl rfl ?_
  refine g_aload_n (pc := 21) dc_C_init_21 rfl ?_
  refine g_iconst (pc := 22) (v := 4) dc_C_init_22 rfl ?_
  refine g_sipush (pc := 23) (v := 250) dc_C_init_23 rfl ?_
  refine g_multianew (pc := 26) (n := 250) dc_C_init_26 (am_t1 223 rfl rfl) (by decide) ?_
  refine g_putfield (pc := 30) dc_C_init_30 fp_C_init_22 rfl (Nat.le_of_ble_eq_true rfl) rfl rfl ?_
  refine g_aload_n (pc := 33) dc_C_init_33 rfl ?_
  refine g_sipush (pc := 34) (v := 250) dc_C_init_34 rfl ?_
  refine g_anewarray (pc := 37) (N := 250) dc_C_init_37 (am_t1 225 rfl rfl) (Or.inl ⟨rfl, rfl⟩) (by decide) (by decide) (by decide) ?_
  refine g_putfield (pc := 40) dc_C_init_40 fp_C_init_27 rfl (Nat.le_of_ble_eq_true rfl) rfl rfl ?_
  refine g_aload_n (pc := 43) dc_C_init_43 rfl ?_
  refine g_new (pc := 44) dc_C_init_44 mk_C_9 ?_
  refine g_dup (pc := 47) dc_C_init_47 rfl ?_
  refine g_sipush (pc := 48) (v := 1024) dc_C_init_48 rfl ?_
  refine g_sipush (pc := 51) (v := 1000) dc_C_init_51 rfl ?_
  refine g_i2 (pc := 54) (M' := mt_R_init) dc_C_init_54 mo_R_init im_R_init rfl rfl ln_C_11 (Nat.le_of_ble_eq_true rfl) (Nat.le_of_ble_eq_true rfl) ?_
  refine g_aload_n (pc := 0) dc_R_init_0 rfl ?_
  refine g_objInit (pc := 1) dc_R_init_1 ob_R_3 (Nat.le_of_ble_eq_true rfl) ?_
  refine g_aload_n (pc := 4) dc_R_init_4 rfl ?_
  refine g_new (pc := 5) dc_R_init_5 mk_R_9 ?_
  refine g_dup (pc := 8) dc_R_init_8 rfl ?_
  refine g_iload_n (pc := 9) dc_R_init_9 rfl ?_
  refine g_i1 (pc := 10) (M' := mt_B_init) dc_R_init_10 mo_B_init im_B_init rfl rfl ln_R_11 (Nat.le_of_ble_eq_true rfl) (Nat.le_of_ble_eq_true rfl) ?_
  refine g_aload_n (pc := 0) dc_B_init_0 rfl ?_
  refine g_objInit (pc := 1) dc_B_init_1 ob_B_3 (Nat.le_of_ble_eq_true rfl) ?_
  refine g_aload_n (pc := 4) dc_B_init_4 rfl ?_
  refine g_iload_n (pc := 5) dc_B_init_5 rfl ?_
  refine g_newarray_b (pc := 6) (N := 1024) dc_B_init_6 (by decide) (by decide) (by decide) ?_
  refine g_putfield (pc := 8) dc_B_init_8 fp_B_init_9 rfl (Nat.le_of_ble_eq_true rfl) rfl rfl ?_
  refine g_vretC (pc := 11) dc_B_init_11 rfl ?_
  refine g_putfield (pc := 13) dc_R_init_13 fp_R_init_14 rfl (Nat.le_of_ble_eq_true rfl) rfl rfl ?_
  refine g_aload_n (pc := 16) dc_R_init_16 rfl ?_
  refine g_iload_n (pc := 17) dc_R_init_17 rfl ?_
  refine g_newarray_i (pc := 18) (N := 1000) dc_R_init_18 (by decide) (by decide) (by decide) ?_
  refine g_putfield (pc := 20) dc_R_init_20 fp_R_init_20 rfl (Nat.le_of_ble_eq_true rfl) rfl rfl ?_
  refine g_vretC (pc := 23) dc_R_init_23 rfl ?_
  refine g_putfield (pc := 57) dc_C_init_57 fp_C_init_31 rfl (Nat.le_of_ble_eq_true rfl) rfl rfl ?_
  refine g_aload_n (pc := 60) dc_C_init_60 rfl ?_
  refine g_sipush (pc := 61) (v := 1000) dc_C_init_61 rfl ?_
  refine g_newarray_i (pc := 64) (N := 1000) dc_C_init_64 (by decide) (by decide) (by decide) ?_
  refine g_putfield (pc := 66) dc_C_init_66 fp_C_init_34 rfl (Nat.le_of_ble_eq_true rfl) rfl rfl ?_
  refine g_aload_n (pc := 69) dc_C_init_69 rfl ?_
  refine g_iconst (pc := 70) (v := 4) dc_C_init_70 rfl ?_
  refine g_newarray_i (pc := 71) (N := 4) dc_C_init_71 (by decide) (by decide) (by decide) ?_
  refine g_putfield (pc := 73) dc_C_init_73 fp_C_init_38 rfl (Nat.le_of_ble_eq_true rfl) rfl rfl ?_
  refine g_aload_n (pc := 76) dc_C_init_76 rfl ?_
  refine g_new (pc := 77) dc_C_init_77 mk_C_41 ?_
  refine g_dup (pc := 80) dc_C_init_80 rfl ?_
  refine g_sipush (pc := 81) (v := 200) dc_C_init_81 rfl ?_
  refine g_i1 (pc := 84) (M' := mt_B_init) dc_C_init_84 mo_B_init im_B_init rfl rfl ln_C_43 (Nat.le_of_ble_eq_true rfl) (Nat.le_of_ble_eq_true rfl) ?_
  refine g_aload_n (pc := 0) dc_B_init_0 rfl ?_
  refine g_objInit (pc := 1) dc_B_init_1 ob_B_3 (Nat.le_of_ble_eq_true rfl) ?_
  refine g_aload_n (pc := 4) dc_B_init_4 rfl ?_
  refine g_iload_n (pc := 5) dc_B_init_5 rfl ?_
  refine g_newarray_b (pc := 6) (N := 200) dc_B_init_6 (by decide) (by decide) (by decide) ?_
  refine g_putfield (pc := 8) dc_B_init_8 fp_B_init_9 rfl (Nat.le_of_ble_eq_true rfl) rfl rfl ?_
  refine g_vretC (pc := 11) dc_B_init_11 rfl ?_
  refine g_putfield (pc := 87) dc_C_init_87 fp_C_init_46 rfl (Nat.le_of_ble_eq_true rfl) rfl rfl ?_
  refine g_aload_n (pc := 90) dc_C_init_90 rfl ?_
  refine g_sipush (pc := 91) (v := 250) dc_C_init_91 rfl ?_
  refine g_newarray_i (pc := 94) (N := 250) dc_C_init_94 (by decide) (by decide) (by decide) ?_
  refine g_putfield (pc := 96) dc_C_init_96 fp_C_init_50 rfl (Nat.le_of_ble_eq_true rfl) rfl rfl ?_
  refine g_aload_n (pc := 99) dc_C_init_99 rfl ?_
  refine g_iconst (pc := 100) (v := 4) dc_C_init_100 rfl ?_
  refine g_sipush (pc := 101) (v := 250) dc_C_init_101 rfl ?_
  refine g_multianew (pc := 104) (n := 250) dc_C_init_104 (am_t1 223 rfl rfl) (by decide) ?_
  refine g_putfield (pc := 108) dc_C_init_108 fp_C_init_53 rfl (Nat.le_of_ble_eq_true rfl) rfl rfl ?_
  refine g_aload_n (pc := 111) dc_C_init_111 rfl ?_
  refine g_aload_n (pc := 112) dc_C_init_112 rfl ?_
  refine g_putfield (pc := 113) dc_C_init_113 fp_C_init_56 rfl (Nat.le_of_ble_eq_true rfl) rfl rfl ?_
  refine g_aload_n (pc := 116) dc_C_init_116 rfl ?_
  refine g_aload_n (pc := 117) dc_C_init_117 rfl ?_
  refine g_putfield (pc := 118) dc_C_init_118 fp_C_init_60 rfl (Nat.le_of_ble_eq_true rfl) rfl rfl ?_
  refine g_aload_n (pc := 121) dc_C_init_121 rfl ?_
  refine g_aload_n (pc := 122) dc_C_init_122 rfl ?_
  refine g_putfield (pc := 123) dc_C_init_123 fp_C_init_64 rfl (Nat.le_of_ble_eq_true rfl) rfl rfl ?_
  refine g_vretC (pc := 126) dc_C_init_126 rfl ?_
  refine g_putfield (pc := 142) dc_W_init_142 fp_W_init_65 rfl (Nat.le_of_ble_eq_true rfl) rfl rfl ?_
  refine g_aload_n (pc := 145) dc_W_init_145 rfl ?_
  refine g_new (pc := 146) dc_W_init_146 mk_W_69 ?_
  refine g_dup (pc := 149) dc_W_init_149 rfl ?_
  refine g_aload_n (pc := 150) dc_W_init_150 rfl ?_
  refine g_getfield (pc := 151) dc_W_init_151 fl_W_36 rfl rfl ?_
  refine g_i1 (pc := 154) (M' := mt_D_init) dc_W_init_154 mo_D_init im_D_init rfl rfl ln_W_71 (Nat.le_of_ble_eq_true rfl) (Nat.le_of_ble_eq_true rfl) ?_
  refine g_aload_n (pc := 0) dc_D_init_0 rfl ?_
  refine g_objInit (pc := 1) dc_D_init_1 ob_D_3 (Nat.le_of_ble_eq_true rfl) ?_
  refine g_aload_n (pc := 4) dc_D_init_4 rfl ?_
  refine g_sipush (pc := 5) (v := 250) dc_D_init_5 rfl ?_
  refine g_anewarray (pc := 8) (N := 250) dc_D_init_8 (am_t2 59 rfl rfl) (Or.inl ⟨rfl, rfl⟩) (by decide) (by decide) (by decide) ?_
  refine g_putfield (pc := 11) dc_D_init_11 fp_D_init_11 rfl (Nat.le_of_ble_eq_true rfl) rfl rfl ?_
  refine g_aload_n (pc := 14) dc_D_init_14 rfl ?_
  refine g_sipush (pc := 15) (v := 250) dc_D_init_15 rfl ?_
  refine g_newarray_i (pc := 18) (N := 250) dc_D_init_18 (by decide) (by decide) (by decide) ?_
  refine g_putfield (pc := 20) dc_D_init_20 fp_D_init_17 rfl (Nat.le_of_ble_eq_true rfl) rfl rfl ?_
  refine g_aload_n (pc := 23) dc_D_init_23 rfl ?_
  refine g_sipush (pc := 24) (v := 250) dc_D_init_24 rfl ?_
  refine g_newarray_i (pc := 27) (N := 250) dc_D_init_27 (by decide) (by decide) (by decide) ?_
  refine g_putfield (pc := 29) dc_D_init_29 fp_D_init_21 rfl (Nat.le_of_ble_eq_true rfl) rfl rfl ?_
  refine g_aload_n (pc := 32) dc_D_init_32 rfl ?_
  refine g_sipush (pc := 33) (v := 250) dc_D_init_33 rfl ?_
  refine g_newarray_i (pc := 36) (N := 250) dc_D_init_36 (by decide) (by decide) (by decide) ?_
  refine g_putfield (pc := 38) dc_D_init_38 fp_D_init_24 rfl (Nat.le_of_ble_eq_true rfl) rfl rfl ?_
  refine g_aload_n (pc := 41) dc_D_init_41 rfl ?_
  refine g_sipush (pc := 42) (v := 250) dc_D_init_42 rfl ?_
  refine g_newarray_i (pc := 45) (N := 250) dc_D_init_45 (by decide) (by decide) (by decide) ?_
  refine g_putfield (pc := 47) dc_D_init_47 fp_D_init_27 rfl (Nat.le_of_ble_eq_true rfl) rfl rfl ?_
  refine g_aload_n (pc := 50) dc_D_init_50 rfl ?_
  refine g_sipush (pc := 51) (v := 250) dc_D_init_51 rfl ?_
  refine g_newarray_i (pc := 54) (N := 250) dc_D_init_54 (by decide) (by decide) (by decide) ?_
  refine g_putfield (pc := 56) dc_D_init_56 fp_D_init_30 rfl (Nat.le_of_ble_eq_true rfl) rfl rfl ?_
  refine g_aload_n (pc := 59) dc_D_init_59 rfl ?_
  refine g_sipush (pc := 60) (v := 251) dc_D_init_60 rfl ?_
  refine g_newarray_i (pc := 63) (N := 251) dc_D_init_63 (by decide) (by decide) (by decide) ?_
  refine g_putfield (pc := 65) dc_D_init_65 fp_D_init_33 rfl (Nat.le_of_ble_eq_true rfl) rfl rfl ?_
  refine g_aload_n (pc := 68) dc_D_init_68 rfl ?_
  refine g_new (pc := 69) dc_D_init_69 mk_D_36 ?_
  refine g_dup (pc := 72) dc_D_init_72 rfl ?_
  refine g_sipush (pc := 73) (v := 512) dc_D_init_73 rfl ?_
  refine g_sipush (pc := 76) (v := 128) dc_D_init_76 rfl ?_
  refine g_i2 (pc := 79) (M' := mt_R_init) dc_D_init_79 mo_R_init im_R_init rfl rfl ln_D_38 (Nat.le_of_ble_eq_true rfl) (Nat.le_of_ble_eq_true rfl) ?_
  refine g_aload_n (pc := 0) dc_R_init_0 rfl ?_
  refine g_objInit (pc := 1) dc_R_init_1 ob_R_3 (Nat.le_of_ble_eq_true rfl) ?_
  refine g_aload_n (pc := 4) dc_R_init_4 rfl ?_
  refine g_new (pc := 5) dc_R_init_5 mk_R_9 ?_
  refine g_dup (pc := 8) dc_R_init_8 rfl ?_
  refine g_iload_n (pc := 9) dc_R_init_9 rfl ?_
  refine g_i1 (pc := 10) (M' := mt_B_init) dc_R_init_10 mo_B_init im_B_init rfl rfl ln_R_11 (Nat.le_of_ble_eq_true rfl) (Nat.le_of_ble_eq_true rfl) ?_
  refine g_aload_n (pc := 0) dc_B_init_0 rfl ?_
  refine g_objInit (pc := 1) dc_B_init_1 ob_B_3 (Nat.le_of_ble_eq_true rfl) ?_
  refine g_aload_n (pc := 4) dc_B_init_4 rfl ?_
  refine g_iload_n (pc := 5) dc_B_init_5 rfl ?_
  refine g_newarray_b (pc := 6) (N := 512) dc_B_init_6 (by decide) (by decide) (by decide) ?_
  refine g_putfield (pc := 8) dc_B_init_8 fp_B_init_9 rfl (Nat.le_of_ble_eq_true rfl) rfl rfl ?_
  refine g_vretC (pc := 11) dc_B_init_11 rfl ?_
  refine g_putfield (pc := 13) dc_R_init_13 fp_R_init_14 rfl (Nat.le_of_ble_eq_true rfl) rfl rfl ?_
  refine g_aload_n (pc := 16) dc_R_init_16 rfl ?_
  refine g_iload_n (pc := 17) dc_R_init_17 rfl ?_
  refine g_newarray_i (pc := 18) (N := 128) dc_R_init_18 (by decide) (by decide) (by decide) ?_
  refine g_putfield (pc := 20) dc_R_init_20 fp_R_init_20 rfl (Nat.le_of_ble_eq_true rfl) rfl rfl ?_
  refine g_vretC (pc := 23) dc_R_init_23 rfl ?_
  refine g_putfield (pc := 82) dc_D_init_82 fp_D_init_41 rfl (Nat.le_of_ble_eq_true rfl) rfl rfl ?_
  refine g_aload_n (pc := 85) dc_D_init_85 rfl ?_
  refine g_new (pc := 86) dc_D_init_86 mk_D_45 ?_
  refine g_dup (pc := 89) dc_D_init_89 rfl ?_
  refine g_sipush (pc := 90) (v := 200) dc_D_init_90 rfl ?_
  refine g_i1 (pc := 93) (M' := mt_B_init) dc_D_init_93 mo_B_init im_B_init rfl rfl ln_D_47 (Nat.le_of_ble_eq_true rfl) (Nat.le_of_ble_eq_true rfl) ?_
  refine g_aload_n (pc := 0) dc_B_init_0 rfl ?_
  refine g_objInit (pc := 1) dc_B_init_1 ob_B_3 (Nat.le_of_ble_eq_true rfl) ?_
  refine g_aload_n (pc := 4) dc_B_init_4 rfl ?_
  refine g_iload_n (pc := 5) dc_B_init_5 rfl ?_
  refine g_newarray_b (pc := 6) (N := 200) dc_B_init_6 (by decide) (by decide) (by decide) ?_
  refine g_putfield (pc := 8) dc_B_init_8 fp_B_init_9 rfl (Nat.le_of_ble_eq_true rfl) rfl rfl ?_
  refine g_vretC (pc := 11) dc_B_init_11 rfl ?_
  refine g_putfield (pc := 96) dc_D_init_96 fp_D_init_50 rfl (Nat.le_of_ble_eq_true rfl) rfl rfl ?_
  refine g_aload_n (pc := 99) dc_D_init_99 rfl ?_
  refine g_sipush (pc := 100) (v := 15000) dc_D_init_100 rfl ?_
  refine g_newarray_i (pc := 103) (N := 15000) dc_D_init_103 (by decide) (by decide) (by decide) ?_
  refine g_putfield (pc := 105) dc_D_init_105 fp_D_init_54 rfl (Nat.le_of_ble_eq_true rfl) rfl rfl ?_
  refine g_aload_n (pc := 108) dc_D_init_108 rfl ?_
  refine g_sipush (pc := 109) (v := 250) dc_D_init_109 rfl ?_
  refine g_newarray_i (pc := 112) (N := 250) dc_D_init_112 (by decide) (by decide) (by decide) ?_
  refine g_putfield (pc := 114) dc_D_init_114 fp_D_init_57 rfl (Nat.le_of_ble_eq_true rfl) rfl rfl ?_
  refine g_aload_n (pc := 117) dc_D_init_117 rfl ?_
  refine g_sipush (pc := 118) (v := 250) dc_D_init_118 rfl ?_
  refine g_newarray_i (pc := 121) (N := 250) dc_D_init_121 (by decide) (by decide) (by decide) ?_
  refine g_putfield (pc := 123) dc_D_init_123 fp_D_init_60 rfl (Nat.le_of_ble_eq_true rfl) rfl rfl ?_
  refine g_aload_n (pc := 126) dc_D_init_126 rfl ?_
  refine g_sipush (pc := 127) (v := 250) dc_D_init_127 rfl ?_
  refine g_newarray_i (pc := 130) (N := 250) dc_D_init_130 (by decide) (by decide) (by decide) ?_
  refine g_putfield (pc := 132) dc_D_init_132 fp_D_init_63 rfl (Nat.le_of_ble_eq_true rfl) rfl rfl ?_
  refine g_aload_n (pc := 135) dc_D_init_135 rfl ?_
  refine g_aload_n (pc := 136) dc_D_init_136 rfl ?_
  refine g_putfield (pc := 137) dc_D_init_137 fp_D_init_66 rfl (Nat.le_of_ble_eq_true rfl) rfl rfl ?_
  refine g_vretC (pc := 140) dc_D_init_140 rfl ?_
  refine g_putfield (pc := 157) dc_W_init_157 fp_W_init_74 rfl (Nat.le_of_ble_eq_true rfl) rfl rfl ?_
  refine g_aload_n (pc := 160) dc_W_init_160 rfl ?_
  refine g_new (pc := 161) dc_W_init_161 mk_W_78 ?_
  refine g_dup (pc := 164) dc_W_init_164 rfl ?_
  refine g_i0 (pc := 165) (M' := mt_N_init) dc_W_init_165 mo_N_init im_N_init rfl rfl ln_W_80 (Nat.le_of_ble_eq_true rfl) (Nat.le_of_ble_eq_true rfl) ?_
  refine g_aload_n (pc := 0) dc_N_init_0 rfl ?_
  refine g_objInit (pc := 1) dc_N_init_1 ob_N_3 (Nat.le_of_ble_eq_true rfl) ?_
  refine g_aload_n (pc := 4) dc_N_init_4 rfl ?_
  refine g_sipush (pc := 5) (v := 250) dc_N_init_5 rfl ?_
  refine g_newarray_i (pc := 8) (N := 250) dc_N_init_8 (by decide) (by decide) (by decide) ?_
  refine g_putfield (pc := 10) dc_N_init_10 fp_N_init_9 rfl (Nat.le_of_ble_eq_true rfl) rfl rfl ?_
  refine g_aload_n (pc := 13) dc_N_init_13 rfl ?_
  refine g_sipush (pc := 14) (v := 250) dc_N_init_14 rfl ?_
  refine g_newarray_l (pc := 17) (N := 250) dc_N_init_17 (by decide) (by decide) (by decide) ?_
  refine g_putfield (pc := 19) dc_N_init_19 fp_N_init_15 rfl (Nat.le_of_ble_eq_true rfl) rfl rfl ?_
  refine g_aload_n (pc := 22) dc_N_init_22 rfl ?_
  refine g_new (pc := 23) dc_N_init_23 mk_N_19 ?_
  refine g_dup (pc := 26) dc_N_init_26 rfl ?_
  refine g_sipush (pc := 27) (v := 256) dc_N_init_27 rfl ?_
  refine g_bipush (pc := 30) (v := 64) dc_N_init_30 rfl ?_
  refine g_i2 (pc := 32) (M' := mt_R_init) dc_N_init_32 mo_R_init im_R_init rfl rfl ln_N_21 (Nat.le_of_ble_eq_true rfl) (Nat.le_of_ble_eq_true rfl) ?_
  refine g_aload_n (pc := 0) dc_R_init_0 rfl ?_
  refine g_objInit (pc := 1) dc_R_init_1 ob_R_3 (Nat.le_of_ble_eq_true rfl) ?_
  refine g_aload_n (pc := 4) dc_R_init_4 rfl ?_
  refine g_new (pc := 5) dc_R_init_5 mk_R_9 ?_
  refine g_dup (pc := 8) dc_R_init_8 rfl ?_
  refine g_iload_n (pc := 9) dc_R_init_9 rfl ?_
  refine g_i1 (pc := 10) (M' := mt_B_init) dc_R_init_10 mo_B_init im_B_init rfl rfl ln_R_11 (Nat.le_of_ble_eq_true rfl) (Nat.le_of_ble_eq_true rfl) ?_
  refine g_aload_n (pc := 0) dc_B_init_0 rfl ?_
  refine g_objInit (pc := 1) dc_B_init_1 ob_B_3 (Nat.le_of_ble_eq_true rfl) ?_
  refine g_aload_n (pc := 4) dc_B_init_4 rfl ?_
  refine g_iload_n (pc := 5) dc_B_init_5 rfl ?_
  refine g_newarray_b (pc := 6) (N := 256) dc_B_init_6 (by decide) (by decide) (by decide) ?_
  refine g_putfield (pc := 8) dc_B_init_8 fp_B_init_9 rfl (Nat.le_of_ble_eq_true rfl) rfl rfl ?_
  refine g_vretC (pc := 11) dc_B_init_11 rfl ?_
  refine g_putfield (pc := 13) dc_R_init_13 fp_R_init_14 rfl (Nat.le_of_ble_eq_true rfl) rfl rfl ?_
  refine g_aload_n (pc := 16) dc_R_init_16 rfl ?_
  refine g_iload_n (pc := 17) dc_R_init_17 rfl ?_
  refine g_newarray_i (pc := 18) (N := 64) dc_R_init_18 (by decide) (by decide) (by decide) ?_
  refine g_putfield (pc := 20) dc_R_init_20 fp_R_init_20 rfl (Nat.le_of_ble_eq_true rfl) rfl rfl ?_
  refine g_vretC (pc := 23) dc_R_init_23 rfl ?_
  refine g_putfield (pc := 35) dc_N_init_35 fp_N_init_24 rfl (Nat.le_of_ble_eq_true rfl) rfl rfl ?_
  refine g_vretC (pc := 38) dc_N_init_38 rfl ?_
  refine g_putfield (pc := 168) dc_W_init_168 fp_W_init_81 rfl (Nat.le_of_ble_eq_true rfl) rfl rfl ?_
  refine g_vretC (pc := 171) dc_W_init_171 rfl ?_
  refine g_astore_n (pc := 7) dc_L_law_7 (by decide) ?_
  refine g_new (pc := 8) dc_L_law_8 mk_L_22 ?_
  refine g_dup (pc := 11) dc_L_law_11 rfl ?_
  refine g_i0 (pc := 12) (M' := mt_M_init) dc_L_law_12 mo_M_init im_M_init rfl rfl ln_L_24 (Nat.le_of_ble_eq_true rfl) (Nat.le_of_ble_eq_true rfl) ?_
  refine g_aload_n (pc := 0) dc_M_init_0 rfl ?_
  refine g_objInit (pc := 1) dc_M_init_1 ob_M_331 (Nat.le_of_ble_eq_true rfl) ?_
  refine g_aload_n (pc := 4) dc_M_init_4 rfl ?_
  refine g_sipush (pc := 5) (v := 8020) dc_M_init_5 rfl ?_
  refine g_newarray_b (pc := 8) (N := 8020) dc_M_init_8 (by decide) (by decide) (by decide) ?_
  refine g_putfield (pc := 10) dc_M_init_10 fp_M_init_143 rfl (Nat.le_of_ble_eq_true rfl) rfl rfl ?_
  refine g_aload_n (pc := 13) dc_M_init_13 rfl ?_
  refine g_sipush (pc := 14) (v := 20000) dc_M_init_14 rfl ?_
  refine g_newarray_b (pc := 17) (N := 20000) dc_M_init_17 (by decide) (by decide) (by decide) ?_
  refine g_putfield (pc := 19) dc_M_init_19 fp_M_init_337 rfl (Nat.le_of_ble_eq_true rfl) rfl rfl ?_
  refine g_aload_n (pc := 22) dc_M_init_22 rfl ?_
  refine g_ldc_w (pc := 23) dc_M_init_23 cs_M_340 ?_
  refine g_newarray_b (pc := 26) (N := 700000) dc_M_init_26 (by decide) (by decide) (by decide) ?_
  refine g_putfield (pc := 28) dc_M_init_28 fp_M_init_41 rfl (Nat.le_of_ble_eq_true rfl) rfl rfl ?_
  refine g_aload_n (pc := 31) dc_M_init_31 rfl ?_
  refine g_sipush (pc := 32) (v := 3500) dc_M_init_32 rfl ?_
  refine g_newarray_i (pc := 35) (N := 3500) dc_M_init_35 (by decide) (by decide) (by decide) ?_
  refine g_putfield (pc := 37) dc_M_init_37 fp_M_init_31 rfl (Nat.le_of_ble_eq_true rfl) rfl rfl ?_
  refine g_aload_n (pc := 40) dc_M_init_40 rfl ?_
  refine g_sipush (pc := 41) (v := 3500) dc_M_init_41 rfl ?_
  refine g_newarray_i (pc := 44) (N := 3500) dc_M_init_44 (by decide) (by decide) (by decide) ?_
  refine g_putfield (pc := 46) dc_M_init_46 fp_M_init_35 rfl (Nat.le_of_ble_eq_true rfl) rfl rfl ?_
  refine g_aload_n (pc := 49) dc_M_init_49 rfl ?_
  refine g_sipush (pc := 50) (v := 200) dc_M_init_50 rfl ?_
  refine g_newarray_b (pc := 53) (N := 200) dc_M_init_53 (by decide) (by decide) (by decide) ?_
  refine g_putfield (pc := 55) dc_M_init_55 fp_M_init_45 rfl (Nat.le_of_ble_eq_true rfl) rfl rfl ?_
  refine g_aload_n (pc := 58) dc_M_init_58 rfl ?_
  refine g_bipush (pc := 59) (v := 80) dc_M_init_59 rfl ?_
  refine g_newarray_b (pc := 61) (N := 80) dc_M_init_61 (by decide) (by decide) (by decide) ?_
  refine g_putfield (pc := 63) dc_M_init_63 fp_M_init_67 rfl (Nat.le_of_ble_eq_true rfl) rfl rfl ?_
  refine g_aload_n (pc := 66) dc_M_init_66 rfl ?_
  refine g_sipush (pc := 67) (v := 8400) dc_M_init_67 rfl ?_
  refine g_newarray_b (pc := 70) (N := 8400) dc_M_init_70 (by decide) (by decide) (by decide) ?_
  refine g_putfield (pc := 72) dc_M_init_72 fp_M_init_91 rfl (Nat.le_of_ble_eq_true rfl) rfl rfl ?_
  refine g_aload_n (pc := 75) dc_M_init_75 rfl ?_
  refine g_sipush (pc := 76) (v := 8400) dc_M_init_76 rfl ?_
  refine g_newarray_b (pc := 79) (N := 8400) dc_M_init_79 (by decide) (by decide) (by decide) ?_
  refine g_putfield (pc := 81) dc_M_init_81 fp_M_init_101 rfl (Nat.le_of_ble_eq_true rfl) rfl rfl ?_
  refine g_aload_n (pc := 84) dc_M_init_84 rfl ?_
  refine g_sipush (pc := 85) (v := 8400) dc_M_init_85 rfl ?_
  refine g_newarray_b (pc := 88) (N := 8400) dc_M_init_88 (by decide) (by decide) (by decide) ?_
  refine g_putfield (pc := 90) dc_M_init_90 fp_M_init_122 rfl (Nat.le_of_ble_eq_true rfl) rfl rfl ?_
  refine g_aload_n (pc := 93) dc_M_init_93 rfl ?_
  refine g_sipush (pc := 94) (v := 8400) dc_M_init_94 rfl ?_
  refine g_newarray_i (pc := 97) (N := 8400) dc_M_init_97 (by decide) (by decide) (by decide) ?_
  refine g_putfield (pc := 99) dc_M_init_99 fp_M_init_119 rfl (Nat.le_of_ble_eq_true rfl) rfl rfl ?_
  refine g_aload_n (pc := 102) dc_M_init_102 rfl ?_
  refine g_sipush (pc := 103) (v := 24000) dc_M_init_103 rfl ?_
  refine g_newarray_b (pc := 106) (N := 24000) dc_M_init_106 (by decide) (by decide) (by decide) ?_
  refine g_putfield (pc := 108) dc_M_init_108 fp_M_init_140 rfl (Nat.le_of_ble_eq_true rfl) rfl rfl ?_
  refine g_aload_n (pc := 111) dc_M_init_111 rfl ?_
  refine g_sipush (pc := 112) (v := 1100) dc_M_init_112 rfl ?_
  refine g_newarray_i (pc := 115) (N := 1100) dc_M_init_115 (by decide) (by decide) (by decide) ?_
  refine g_putfield (pc := 117) dc_M_init_117 fp_M_init_131 rfl (Nat.le_of_ble_eq_true rfl) rfl rfl ?_
  refine g_aload_n (pc := 120) dc_M_init_120 rfl ?_
  refine g_sipush (pc := 121) (v := 1100) dc_M_init_121 rfl ?_
  refine g_newarray_i (pc := 124) (N := 1100) dc_M_init_124 (by decide) (by decide) (by decide) ?_
  refine g_putfield (pc := 126) dc_M_init_126 fp_M_init_146 rfl (Nat.le_of_ble_eq_true rfl) rfl rfl ?_
  refine g_aload_n (pc := 129) dc_M_init_129 rfl ?_
  refine g_bipush (pc := 130) (v := 12) dc_M_init_130 rfl ?_
  refine g_newarray_i (pc := 132) (N := 12) dc_M_init_132 (by decide) (by decide) (by decide) ?_
  refine g_putfield (pc := 134) dc_M_init_134 fp_M_init_152 rfl (Nat.le_of_ble_eq_true rfl) rfl rfl ?_
  refine g_aload_n (pc := 137) dc_M_init_137 rfl ?_
  refine g_bipush (pc := 138) (v := 12) dc_M_init_138 rfl ?_
  refine g_newarray_i (pc := 140) (N := 12) dc_M_init_140 (by decide) (by decide) (by decide) ?_
  refine g_putfield (pc := 142) dc_M_init_142 fp_M_init_204 rfl (Nat.le_of_ble_eq_true rfl) rfl rfl ?_
  refine g_aload_n (pc := 145) dc_M_init_145 rfl ?_
  refine g_sipush (pc := 146) (v := 8000) dc_M_init_146 rfl ?_
  refine g_newarray_b (pc := 149) (N := 8000) dc_M_init_149 (by decide) (by decide) (by decide) ?_
  refine g_putfield (pc := 151) dc_M_init_151 fp_M_init_191 rfl (Nat.le_of_ble_eq_true rfl) rfl rfl ?_
  refine g_aload_n (pc := 154) dc_M_init_154 rfl ?_
  refine g_sipush (pc := 155) (v := 201) dc_M_init_155 rfl ?_
  refine g_newarray_z (pc := 158) (N := 201) dc_M_init_158 (by decide) (by decide) (by decide) ?_
  refine g_putfield (pc := 160) dc_M_init_160 fp_M_init_184 rfl (Nat.le_of_ble_eq_true rfl) rfl rfl ?_
  refine g_aload_n (pc := 163) dc_M_init_163 rfl ?_
  refine g_sipush (pc := 164) (v := 8000) dc_M_init_164 rfl ?_
  refine g_newarray_b (pc := 167) (N := 8000) dc_M_init_167 (by decide) (by decide) (by decide) ?_
  refine g_putfield (pc := 169) dc_M_init_169 fp_M_init_235 rfl (Nat.le_of_ble_eq_true rfl) rfl rfl ?_
  refine g_aload_n (pc := 172) dc_M_init_172 rfl ?_
  refine g_sipush (pc := 173) (v := 8000) dc_M_init_173 rfl ?_
  refine g_newarray_b (pc := 176) (N := 8000) dc_M_init_176 (by decide) (by decide) (by decide) ?_
  refine g_putfield (pc := 178) dc_M_init_178 fp_M_init_232 rfl (Nat.le_of_ble_eq_true rfl) rfl rfl ?_
  refine g_aload_n (pc := 181) dc_M_init_181 rfl ?_
  refine g_sipush (pc := 182) (v := 4001) dc_M_init_182 rfl ?_
  refine g_newarray_i (pc := 185) (N := 4001) dc_M_init_185 (by decide) (by decide) (by decide) ?_
  refine g_putfield (pc := 187) dc_M_init_187 fp_M_init_226 rfl (Nat.le_of_ble_eq_true rfl) rfl rfl ?_
  refine g_aload_n (pc := 190) dc_M_init_190 rfl ?_
  refine g_sipush (pc := 191) (v := 4001) dc_M_init_191 rfl ?_
  refine g_newarray_i (pc := 194) (N := 4001) dc_M_init_194 (by decide) (by decide) (by decide) ?_
  refine g_putfield (pc := 196) dc_M_init_196 fp_M_init_229 rfl (Nat.le_of_ble_eq_true rfl) rfl rfl ?_
  refine g_aload_n (pc := 199) dc_M_init_199 rfl ?_
  refine g_sipush (pc := 200) (v := 8000) dc_M_init_200 rfl ?_
  refine g_newarray_b (pc := 203) (N := 8000) dc_M_init_203 (by decide) (by decide) (by decide) ?_
  refine g_putfield (pc := 205) dc_M_init_205 fp_M_init_292 rfl (Nat.le_of_ble_eq_true rfl) rfl rfl ?_
  refine g_aload_n (pc := 208) dc_M_init_208 rfl ?_
  refine g_sipush (pc := 209) (v := 1000) dc_M_init_209 rfl ?_
  refine g_newarray_i (pc := 212) (N := 1000) dc_M_init_212 (by decide) (by decide) (by decide) ?_
  refine g_putfield (pc := 214) dc_M_init_214 fp_M_init_280 rfl (Nat.le_of_ble_eq_true rfl) rfl rfl ?_
  refine g_aload_n (pc := 217) dc_M_init_217 rfl ?_
  refine g_sipush (pc := 218) (v := 1000) dc_M_init_218 rfl ?_
  refine g_newarray_i (pc := 221) (N := 1000) dc_M_init_221 (by decide) (by decide) (by decide) ?_
  refine g_putfield (pc := 223) dc_M_init_223 fp_M_init_283 rfl (Nat.le_of_ble_eq_true rfl) rfl rfl ?_
  refine g_aload_n (pc := 226) dc_M_init_226 rfl ?_
  refine g_bipush (pc := 227) (v := 60) dc_M_init_227 rfl ?_
  refine g_newarray_i (pc := 229) (N := 60) dc_M_init_229 (by decide) (by decide) (by decide) ?_
  refine g_putfield (pc := 231) dc_M_init_231 fp_M_init_315 rfl (Nat.le_of_ble_eq_true rfl) rfl rfl ?_
  refine g_aload_n (pc := 234) dc_M_init_234 rfl ?_
  refine g_bipush (pc := 235) (v := 60) dc_M_init_235 rfl ?_
  refine g_newarray_i (pc := 237) (N := 60) dc_M_init_237 (by decide) (by decide) (by decide) ?_
  refine g_putfield (pc := 239) dc_M_init_239 fp_M_init_341 rfl (Nat.le_of_ble_eq_true rfl) rfl rfl ?_
  refine g_aload_n (pc := 242) dc_M_init_242 rfl ?_
  refine g_bipush (pc := 243) (v := 60) dc_M_init_243 rfl ?_
  refine g_newarray_i (pc := 245) (N := 60) dc_M_init_245 (by decide) (by decide) (by decide) ?_
  refine g_putfield (pc := 247) dc_M_init_247 fp_M_init_344 rfl (Nat.le_of_ble_eq_true rfl) rfl rfl ?_
  refine g_aload_n (pc := 250) dc_M_init_250 rfl ?_
  refine g_bipush (pc := 251) (v := 60) dc_M_init_251 rfl ?_
  refine g_newarray_i (pc := 253) (N := 60) dc_M_init_253 (by decide) (by decide) (by decide) ?_
  refine g_putfield (pc := 255) dc_M_init_255 fp_M_init_328 rfl (Nat.le_of_ble_eq_true rfl) rfl rfl ?_
  refine g_aload_n (pc := 258) dc_M_init_258 rfl ?_
  refine g_iconst (pc := 259) (v := 4) dc_M_init_259 rfl ?_
  refine g_newarray_i (pc := 260) (N := 4) dc_M_init_260 (by decide) (by decide) (by decide) ?_
  refine g_putfield (pc := 262) dc_M_init_262 fp_M_init_347 rfl (Nat.le_of_ble_eq_true rfl) rfl rfl ?_
  refine g_aload_n (pc := 265) dc_M_init_265 rfl ?_
  refine g_iconst (pc := 266) (v := 4) dc_M_init_266 rfl ?_
  refine g_newarray_i (pc := 267) (N := 4) dc_M_init_267 (by decide) (by decide) (by decide) ?_
  refine g_putfield (pc := 269) dc_M_init_269 fp_M_init_350 rfl (Nat.le_of_ble_eq_true rfl) rfl rfl ?_
  refine g_aload_n (pc := 272) dc_M_init_272 rfl ?_
  refine g_bipush (pc := 273) (v := 20) dc_M_init_273 rfl ?_
  refine g_newarray_i (pc := 275) (N := 20) dc_M_init_275 (by decide) (by decide) (by decide) ?_
  refine g_putfield (pc := 277) dc_M_init_277 fp_M_init_353 rfl (Nat.le_of_ble_eq_true rfl) rfl rfl ?_
  refine g_aload_n (pc := 280) dc_M_init_280 rfl ?_
  refine g_sipush (pc := 281) (v := 1500) dc_M_init_281 rfl ?_
  refine g_newarray_i (pc := 284) (N := 1500) dc_M_init_284 (by decide) (by decide) (by decide) ?_
  refine g_putfield (pc := 286) dc_M_init_286 fp_M_init_356 rfl (Nat.le_of_ble_eq_true rfl) rfl rfl ?_
  refine g_aload_n (pc := 289) dc_M_init_289 rfl ?_
  refine g_sipush (pc := 290) (v := 1500) dc_M_init_290 rfl ?_
  refine g_newarray_i (pc := 293) (N := 1500) dc_M_init_293 (by decide) (by decide) (by decide) ?_
  refine g_putfield (pc := 295) dc_M_init_295 fp_M_init_359 rfl (Nat.le_of_ble_eq_true rfl) rfl rfl ?_
  refine g_aload_n (pc := 298) dc_M_init_298 rfl ?_
  refine g_sipush (pc := 299) (v := 1000) dc_M_init_299 rfl ?_
  refine g_newarray_i (pc := 302) (N := 1000) dc_M_init_302 (by decide) (by decide) (by decide) ?_
  refine g_putfield (pc := 304) dc_M_init_304 fp_M_init_362 rfl (Nat.le_of_ble_eq_true rfl) rfl rfl ?_
  refine g_aload_n (pc := 307) dc_M_init_307 rfl ?_
  refine g_sipush (pc := 308) (v := 1000) dc_M_init_308 rfl ?_
  refine g_newarray_i (pc := 311) (N := 1000) dc_M_init_311 (by decide) (by decide) (by decide) ?_
  refine g_putfield (pc := 313) dc_M_init_313 fp_M_init_365 rfl (Nat.le_of_ble_eq_true rfl) rfl rfl ?_
  refine g_aload_n (pc := 316) dc_M_init_316 rfl ?_
  refine g_sipush (pc := 317) (v := 250) dc_M_init_317 rfl ?_
  refine g_newarray_i (pc := 320) (N := 250) dc_M_init_320 (by decide) (by decide) (by decide) ?_
  refine g_putfield (pc := 322) dc_M_init_322 fp_M_init_368 rfl (Nat.le_of_ble_eq_true rfl) rfl rfl ?_
  refine g_aload_n (pc := 325) dc_M_init_325 rfl ?_
  refine g_sipush (pc := 326) (v := 250) dc_M_init_326 rfl ?_
  refine g_newarray_i (pc := 329) (N := 250) dc_M_init_329 (by decide) (by decide) (by decide) ?_
  refine g_putfield (pc := 331) dc_M_init_331 fp_M_init_371 rfl (Nat.le_of_ble_eq_true rfl) rfl rfl ?_
  refine g_aload_n (pc := 334) dc_M_init_334 rfl ?_
  refine g_sipush (pc := 335) (v := 250) dc_M_init_335 rfl ?_
  refine g_newarray_i (pc := 338) (N := 250) dc_M_init_338 (by decide) (by decide) (by decide) ?_
  refine g_putfield (pc := 340) dc_M_init_340 fp_M_init_374 rfl (Nat.le_of_ble_eq_true rfl) rfl rfl ?_
  refine g_aload_n (pc := 343) dc_M_init_343 rfl ?_
  refine g_sipush (pc := 344) (v := 250) dc_M_init_344 rfl ?_
  refine g_newarray_i (pc := 347) (N := 250) dc_M_init_347 (by decide) (by decide) (by decide) ?_
  refine g_putfield (pc := 349) dc_M_init_349 fp_M_init_377 rfl (Nat.le_of_ble_eq_true rfl) rfl rfl ?_
  refine g_aload_n (pc := 352) dc_M_init_352 rfl ?_
  refine g_sipush (pc := 353) (v := 250) dc_M_init_353 rfl ?_
  refine g_newarray_i (pc := 356) (N := 250) dc_M_init_356 (by decide) (by decide) (by decide) ?_
  refine g_putfield (pc := 358) dc_M_init_358 fp_M_init_380 rfl (Nat.le_of_ble_eq_true rfl) rfl rfl ?_
  refine g_aload_n (pc := 361) dc_M_init_361 rfl ?_
  refine g_sipush (pc := 362) (v := 250) dc_M_init_362 rfl ?_
  refine g_newarray_i (pc := 365) (N := 250) dc_M_init_365 (by decide) (by decide) (by decide) ?_
  refine g_putfield (pc := 367) dc_M_init_367 fp_M_init_383 rfl (Nat.le_of_ble_eq_true rfl) rfl rfl ?_
  refine g_aload_n (pc := 370) dc_M_init_370 rfl ?_
  refine g_sipush (pc := 371) (v := 250) dc_M_init_371 rfl ?_
  refine g_newarray_i (pc := 374) (N := 250) dc_M_init_374 (by decide) (by decide) (by decide) ?_
  refine g_putfield (pc := 376) dc_M_init_376 fp_M_init_386 rfl (Nat.le_of_ble_eq_true rfl) rfl rfl ?_
  refine g_aload_n (pc := 379) dc_M_init_379 rfl ?_
  refine g_sipush (pc := 380) (v := 250) dc_M_init_380 rfl ?_
  refine g_newarray_l (pc := 383) (N := 250) dc_M_init_383 (by decide) (by decide) (by decide) ?_
  refine g_putfield (pc := 385) dc_M_init_385 fp_M_init_389 rfl (Nat.le_of_ble_eq_true rfl) rfl rfl ?_
  refine g_aload_n (pc := 388) dc_M_init_388 rfl ?_
  refine g_sipush (pc := 389) (v := 250) dc_M_init_389 rfl ?_
  refine g_newarray_l (pc := 392) (N := 250) dc_M_init_392 (by decide) (by decide) (by decide) ?_
  refine g_putfield (pc := 394) dc_M_init_394 fp_M_init_393 rfl (Nat.le_of_ble_eq_true rfl) rfl rfl ?_
  refine g_aload_n (pc := 397) dc_M_init_397 rfl ?_
  refine g_ldc_w (pc := 398) dc_M_init_398 cs_M_396 ?_
  refine g_newarray_z (pc := 401) (N := 62500) dc_M_init_401 (by decide) (by decide) (by decide) ?_
  refine g_putfield (pc := 403) dc_M_init_403 fp_M_init_397 rfl (Nat.le_of_ble_eq_true rfl) rfl rfl ?_
  refine g_aload_n (pc := 406) dc_M_init_406 rfl ?_
  refine g_sipush (pc := 407) (v := 250) dc_M_init_407 rfl ?_
  refine g_newarray_i (pc := 410) (N := 250) dc_M_init_410 (by decide) (by decide) (by decide) ?_
  refine g_putfield (pc := 412) dc_M_init_412 fp_M_init_400 rfl (Nat.le_of_ble_eq_true rfl) rfl rfl ?_
  refine g_aload_n (pc := 415) dc_M_init_415 rfl ?_
  refine g_sipush (pc := 416) (v := 250) dc_M_init_416 rfl ?_
  refine g_newarray_l (pc := 419) (N := 250) dc_M_init_419 (by decide) (by decide) (by decide) ?_
  refine g_putfield (pc := 421) dc_M_init_421 fp_M_init_403 rfl (Nat.le_of_ble_eq_true rfl) rfl rfl ?_
  refine g_aload_n (pc := 424) dc_M_init_424 rfl ?_
  refine g_sipush (pc := 425) (v := 160) dc_M_init_425 rfl ?_
  refine g_newarray_b (pc := 428) (N := 160) dc_M_init_428 (by decide) (by decide) (by decide) ?_
  refine g_putfield (pc := 430) dc_M_init_430 fp_M_init_406 rfl (Nat.le_of_ble_eq_true rfl) rfl rfl ?_
  refine g_aload_n (pc := 433) dc_M_init_433 rfl ?_
  refine g_bipush (pc := 434) (v := 8) dc_M_init_434 rfl ?_
  refine g_newarray_i (pc := 436) (N := 8) dc_M_init_436 (by decide) (by decide) (by decide) ?_
  refine g_putfield (pc := 438) dc_M_init_438 fp_M_init_409 rfl (Nat.le_of_ble_eq_true rfl) rfl rfl ?_
  refine g_aload_n (pc := 441) dc_M_init_441 rfl ?_
  refine g_getfield (pc := 442) dc_M_init_442 fl_M_347 rfl rfl ?_
  refine g_iconst (pc := 445) (v := 0) dc_M_init_445 rfl ?_
  refine g_iconst (pc := 446) (v := 3) dc_M_init_446 rfl ?_
  refine g_iastore (pc := 447) dc_M_init_447 rfl (am_vin rfl) ?_
  refine g_aload_n (pc := 448) dc_M_init_448 rfl ?_
  refine g_getfield (pc := 449) dc_M_init_449 fl_M_347 rfl rfl ?_
  refine g_iconst (pc := 452) (v := 1) dc_M_init_452 rfl ?_
  refine g_iconst (pc := 453) (v := 3) dc_M_init_453 rfl ?_
  refine g_iastore (pc := 454) dc_M_init_454 rfl (am_vin rfl) ?_
  refine g_aload_n (pc := 455) dc_M_init_455 rfl ?_
  refine g_getfield (pc := 456) dc_M_init_456 fl_M_347 rfl rfl ?_
  refine g_iconst (pc := 459) (v := 2) dc_M_init_459 rfl ?_
  refine g_iconst (pc := 460) (v := 2) dc_M_init_460 rfl ?_
  refine g_iastore (pc := 461) dc_M_init_461 rfl (am_vin rfl) ?_
  refine g_aload_n (pc := 462) dc_M_init_462 rfl ?_
  refine g_getfield (pc := 463) dc_M_init_463 fl_M_347 rfl rfl ?_
  refine g_iconst (pc := 466) (v := 3) dc_M_init_466 rfl ?_
  refine g_iconst (pc := 467) (v := 4) dc_M_init_467 rfl ?_
  refine g_iastore (pc := 468) dc_M_init_468 rfl (am_vin rfl) ?_
  refine g_vretC (pc := 469) dc_M_init_469 rfl ?_
  refine g_astore_n (pc := 15) dc_L_law_15 (by decide) ?_
  refine g_iconst (pc := 16) (v := 1) dc_L_law_16 rfl ?_
  refine g_newarray_l (pc := 17) (N := 1) dc_L_law_17 (by decide) (by decide) (by decide) ?_
  refine g_astore_n (pc := 19) dc_L_law_19 (by decide) ?_
  refine g_iconst (pc := 20) (v := 0) dc_L_law_20 rfl ?_
  refine g_istore (pc := 21) dc_L_law_21 (by decide) ?_
  exact k
theorem sl_0 : am_sl hp_0 = 938409 := by decide +kernel
theorem am_b0 {c N : Nat} (h : 938409 + c ≤ N) : am_sl hp_0 + c ≤ N := by rw [sl_0]; exact h
theorem am_bz {h : List va_E} {N : Nat} (k : am_sl h + 0 ≤ N) : am_sl h ≤ N := k
theorem am_bs : ∀ (h : List va_E) (a : Nat) (e : va_E), am_sl (h.set a e) ≤ am_sl h + am_n e
  | [], a, e => by simp [am_sl]
  | x :: t, 0, e => by show am_n e + am_sl t ≤ am_n x + am_sl t + am_n e; omega
  | x :: t, a + 1, e => by
    have h9 := am_bs t a e
    show am_n x + am_sl (t.set a e) ≤ am_n x + am_sl t + am_n e
    omega
theorem am_bw {h : List va_E} {a : Nat} {e : va_E} {c N : Nat} (hn : (am_n e).ble 20000 = true) (k : am_sl h + (c + 20000) ≤ N) : am_sl (h.set a e) + c ≤ N := by
  have h1 := am_bs h a e
  have h2 := Nat.le_of_ble_eq_true hn
  omega
theorem am_bA {h : List va_E} {e : va_E} {c N : Nat} (hn : (am_n e).ble 20000 = true) (k : am_sl h + (c + 20000) ≤ N) : am_sl (h ++ [e]) + c ≤ N := by
  have h2 := Nat.le_of_ble_eq_true hn
  have h3 : am_sl [e] = am_n e := rfl
  rw [am_sl_app, h3]
  omega
