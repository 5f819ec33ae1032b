set_option maxRecDepth 20000 in
set_option maxHeartbeats 1000000 in
theorem p1_23 {X : am_X} {p0 p1 p2 p3 p4 p5 : Int32} (hl9 : X.1.stackTraces = false) (hL : X.2.2.2.2.2.1 = 6) (e0 : X.2.2.2.2.2.2 (Int32.toNatClampNeg 0) = p0) (e1 : X.2.2.2.2.2.2 (Int32.toNatClampNeg 1) = p1) (e2 : X.2.2.2.2.2.2 (Int32.toNatClampNeg 2) = p2) (e3 : X.2.2.2.2.2.2 (Int32.toNatClampNeg 3) = p3) (e4 : X.2.2.2.2.2.2 (Int32.toNatClampNeg 4) = p4) (e5 : X.2.2.2.2.2.2 (Int32.toNatClampNeg 5) = p5) : am_G X mt_L_law 60 759 lo_0 [] hp_0 (fun r h => r = some (.int 1) ∧ h.length ≤ 600002 ∧ am_sl h ≤ 7302232) := by
  refine g_aload_n (pc := 759) dc_L_law_759 rfl ?_
  refine g_xload_n (pc := 760) dc_L_law_760 rfl ?_
  refine g_iload (pc := 761) dc_L_law_761 rfl ?_
  refine g_iconst (pc := 763) (v := 1) dc_L_law_763 rfl ?_
  refine g_iadd (pc := 764) (v := 1) dc_L_law_764 (by decide) ?_
  refine g_scriptLoadV (pc := 765) dc_L_law_765 (by rw [hL]; exact am_vin rfl) e1 ?_
  refine g_v1 (pc := 766) (M' := mt_W_ask) dc_L_law_766 mo_W_ask im_W_ask se_W_ask ln_L_126 rfl rfl rfl (Nat.le_of_ble_eq_true rfl) (Nat.le_of_ble_eq_true rfl) ?_
  refine g_iconst (pc := 0) (v := (-1)) dc_W_ask_0 rfl ?_
  refine g_istore_n (pc := 1) dc_W_ask_1 (by decide) ?_
  refine g_iload_n (pc := 2) dc_W_ask_2 rfl ?_
  refine g_if_lt (pc := 3) (tgt := 35) dc_W_ask_3 rfl (fun hc0 => ?_) (fun hc0 => ?_)
  · have hi0 : p1.toInt < 0 := Int32.lt_iff_toInt_lt.mp hc0
    refine g_aload_n (pc := 35) dc_W_ask_35 rfl ?_
    refine g_getfield (pc := 36) dc_W_ask_36 fl_W_12 rfl rfl ?_
    refine g_v0 (pc := 39) (M' := mt_B_clear) dc_W_ask_39 mo_B_clear im_B_clear se_B_clear ln_W_121 rfl rfl rfl (Nat.le_of_ble_eq_true rfl) (Nat.le_of_ble_eq_true rfl) ?_
    refine g_aload_n (pc := 0) dc_B_clear_0 rfl ?_
    refine g_iconst (pc := 1) (v := 0) dc_B_clear_1 rfl ?_
    refine g_putfield (pc := 2) dc_B_clear_2 fp_B_clear_15 rfl (Nat.le_of_ble_eq_true rfl) rfl rfl ?_
    refine g_vretC (pc := 5) dc_B_clear_5 rfl ?_
    refine g_iload_n (pc := 42) dc_W_ask_42 rfl ?_
    refine g_iretC (pc := 43) dc_W_ask_43 rfl ?_
    refine g_aload_n (pc := 769) dc_L_law_769 rfl ?_
    refine g_xload_n (pc := 770) dc_L_law_770 rfl ?_
    refine g_iload (pc := 771) dc_L_law_771 rfl ?_
    refine g_iconst (pc := 773) (v := 1) dc_L_law_773 rfl ?_
    refine g_iadd (pc := 774) (v := 1) dc_L_law_774 (by decide) ?_
    refine g_scriptLoadV (pc := 775) dc_L_law_775 (by rw [hL]; exact am_vin rfl) e1 ?_
    refine g_v1 (pc := 776) (M' := mt_M_ask) dc_L_law_776 mo_M_ask im_M_ask se_M_ask ln_L_129 rfl rfl rfl (Nat.le_of_ble_eq_true rfl) (Nat.le_of_ble_eq_true rfl) ?_
    refine g_aload_n (pc := 0) dc_M_ask_0 rfl ?_
    refine g_v0 (pc := 1) (M' := mt_M_use) dc_M_ask_1 mo_M_use im_M_use se_M_use ln_M_505 rfl rfl rfl (Nat.le_of_ble_eq_true rfl) (Nat.le_of_ble_eq_true rfl) ?_
    refine g_aload_n (pc := 0) dc_M_use_0 rfl ?_
    refine g_iconst (pc := 1) (v := 0) dc_M_use_1 rfl ?_
    refine g_putfield (pc := 2) dc_M_use_2 fp_M_use_1 rfl (Nat.le_of_ble_eq_true rfl) rfl rfl ?_
    refine g_aload_n (pc := 5) dc_M_use_5 rfl ?_
    refine g_getfield (pc := 6) dc_M_use_6 fl_M_493 rfl rfl ?_
    refine g_istore_n (pc := 9) dc_M_use_9 (by decide) ?_
    refine g_aload_n (pc := 10) dc_M_use_10 rfl ?_
    refine g_iconst (pc := 11) (v := 0) dc_M_use_11 rfl ?_
    refine g_putfield (pc := 12) dc_M_use_12 fp_M_use_493 rfl (Nat.le_of_ble_eq_true rfl) rfl rfl ?_
    refine g_iload_n (pc := 15) dc_M_use_15 rfl ?_
    refine g_iretC (pc := 16) dc_M_use_16 rfl ?_
    refine g_istore_n (pc := 4) dc_M_ask_4 (by decide) ?_
    refine g_iload_n (pc := 5) dc_M_ask_5 rfl ?_
    refine g_if_lt (pc := 6) (tgt := 14) dc_M_ask_6 rfl (fun _ => ?_) (fun hc => (hc (Int32.lt_iff_toInt_lt.mpr (show p1.toInt < 0 by omega))).elim)
    refine g_iconst (pc := 14) (v := (-1)) dc_M_ask_14 rfl ?_
    refine g_iretC (pc := 15) dc_M_ask_15 rfl ?_
    refine g_icmp_eq (pc := 779) (tgt := 873) dc_L_law_779 rfl (fun _ => ?_) (fun hc => absurd hc (by decide))
    refine g_iinc (pc := 873) (v := 6) dc_L_law_873 rfl (by decide) (by decide) ?_
    refine g_goto (pc := 876) (tgt := 23) dc_L_law_876 rfl ?_
    refine g_iload (pc := 23) dc_L_law_23 rfl ?_
    refine g_xload_n (pc := 25) dc_L_law_25 rfl ?_
    refine g_scriptLenV (pc := 26) (n := 6) dc_L_law_26 hL rfl ?_
    refine g_bipush (pc := 27) (v := 6) dc_L_law_27 rfl ?_
    refine g_isub (pc := 29) (v := 0) dc_L_law_29 (by decide) ?_
    refine g_icmp_gt (pc := 30) (tgt := 879) dc_L_law_30 rfl (fun _ => ?_) (fun hc => absurd hc (by decide))
    refine g_iconst (pc := 879) (v := 1) dc_L_law_879 rfl ?_
    exact g_zreturn dc_L_law_880 rfl rfl ⟨rfl, (Nat.le_of_ble_eq_true rfl), am_bz (by (repeat (first | refine am_bw rfl ?_ | refine am_bA rfl ?_ | refine am_bB rfl ?_ | refine am_bC rfl ?_)); exact am_b0 (Nat.le_of_ble_eq_true rfl))⟩
  · have hi0 : ¬ (p1.toInt < 0) := fun h9 => hc0 (Int32.lt_iff_toInt_lt.mpr h9)
    refine g_iload_n (pc := 6) dc_W_ask_6 rfl ?_
    refine g_iconst (pc := 7) (v := 2) dc_W_ask_7 rfl ?_
    refine g_icmp_gt (pc := 8) (tgt := 35) dc_W_ask_8 rfl (fun hc2 => ?_) (fun hc2 => ?_)
    · have hi2 : 2 < p1.toInt := Int32.lt_iff_toInt_lt.mp hc2
      refine g_aload_n (pc := 35) dc_W_ask_35 rfl ?_
      refine g_getfield (pc := 36) dc_W_ask_36 fl_W_12 rfl rfl ?_
      refine g_v0 (pc := 39) (M' := mt_B_clear) dc_W_ask_39 mo_B_clear im_B_clear se_B_clear ln_W_121 rfl rfl rfl (Nat.le_of_ble_eq_true rfl) (Nat.le_of_ble_eq_true rfl) ?_
      refine g_aload_n (pc := 0) dc_B_clear_0 rfl ?_
      refine g_iconst (pc := 1) (v := 0) dc_B_clear_1 rfl ?_
      refine g_putfield (pc := 2) dc_B_clear_2 fp_B_clear_15 rfl (Nat.le_of_ble_eq_true rfl) rfl rfl ?_
      refine g_vretC (pc := 5) dc_B_clear_5 rfl ?_
      refine g_iload_n (pc := 42) dc_W_ask_42 rfl ?_
      refine g_iretC (pc := 43) dc_W_ask_43 rfl ?_
      refine g_aload_n (pc := 769) dc_L_law_769 rfl ?_
      refine g_xload_n (pc := 770) dc_L_law_770 rfl ?_
      refine g_iload (pc := 771) dc_L_law_771 rfl ?_
      refine g_iconst (pc := 773) (v := 1) dc_L_law_773 rfl ?_
      refine g_iadd (pc := 774) (v := 1) dc_L_law_774 (by decide) ?_
      refine g_scriptLoadV (pc := 775) dc_L_law_775 (by rw [hL]; exact am_vin rfl) e1 ?_
      refine g_v1 (pc := 776) (M' := mt_M_ask) dc_L_law_776 mo_M_ask im_M_ask se_M_ask ln_L_129 rfl rfl rfl (Nat.le_of_ble_eq_true rfl) (Nat.le_of_ble_eq_true rfl) ?_
      refine g_aload_n (pc := 0) dc_M_ask_0 rfl ?_
      refine g_v0 (pc := 1) (M' := mt_M_use) dc_M_ask_1 mo_M_use im_M_use se_M_use ln_M_505 rfl rfl rfl (Nat.le_of_ble_eq_true rfl) (Nat.le_of_ble_eq_true rfl) ?_
      refine g_aload_n (pc := 0) dc_M_use_0 rfl ?_
      refine g_iconst (pc := 1) (v := 0) dc_M_use_1 rfl ?_
      refine g_putfield (pc := 2) dc_M_use_2 fp_M_use_1 rfl (Nat.le_of_ble_eq_true rfl) rfl rfl ?_
      refine g_aload_n (pc := 5) dc_M_use_5 rfl ?_
      refine g_getfield (pc := 6) dc_M_use_6 fl_M_493 rfl rfl ?_
      refine g_istore_n (pc := 9) dc_M_use_9 (by decide) ?_
      refine g_aload_n (pc := 10) dc_M_use_10 rfl ?_
      refine g_iconst (pc := 11) (v := 0) dc_M_use_11 rfl ?_
      refine g_putfield (pc := 12) dc_M_use_12 fp_M_use_493 rfl (Nat.le_of_ble_eq_true rfl) rfl rfl ?_
      refine g_iload_n (pc := 15) dc_M_use_15 rfl ?_
      refine g_iretC (pc := 16) dc_M_use_16 rfl ?_
      refine g_istore_n (pc := 4) dc_M_ask_4 (by decide) ?_
      refine g_iload_n (pc := 5) dc_M_ask_5 rfl ?_
      refine g_if_lt (pc := 6) (tgt := 14) dc_M_ask_6 rfl (fun hc => absurd (Int32.lt_iff_toInt_lt.mp hc) (show ¬ (p1.toInt < 0) by omega)) (fun _ => ?_)
      refine g_iload_n (pc := 9) dc_M_ask_9 rfl ?_
      refine g_iconst (pc := 10) (v := 2) dc_M_ask_10 rfl ?_
      refine g_icmp_le (pc := 11) (tgt := 16) dc_M_ask_11 rfl (fun hc => absurd (Int32.le_iff_toInt_le.mp hc) (show ¬ (p1.toInt ≤ 2) by omega)) (fun _ => ?_)
      refine g_iconst (pc := 14) (v := (-1)) dc_M_ask_14 rfl ?_
      refine g_iretC (pc := 15) dc_M_ask_15 rfl ?_
      refine g_icmp_eq (pc := 779) (tgt := 873) dc_L_law_779 rfl (fun _ => ?_) (fun hc => absurd hc (by decide))
      refine g_iinc (pc := 873) (v := 6) dc_L_law_873 rfl (by decide) (by decide) ?_
      refine g_goto (pc := 876) (tgt := 23) dc_L_law_876 rfl ?_
      refine g_iload (pc := 23) dc_L_law_23 rfl ?_
      refine g_xload_n (pc := 25) dc_L_law_25 rfl ?_
      refine g_scriptLenV (pc := 26) (n := 6) dc_L_law_26 hL rfl ?_
      refine g_bipush (pc := 27) (v := 6) dc_L_law_27 rfl ?_
      refine g_isub (pc := 29) (v := 0) dc_L_law_29 (by decide) ?_
      refine g_icmp_gt (pc := 30) (tgt := 879) dc_L_law_30 rfl (fun _ => ?_) (fun hc => absurd hc (by decide))
      refine g_iconst (pc := 879) (v := 1) dc_L_law_879 rfl ?_
      exact g_zreturn dc_L_law_880 rfl rfl ⟨rfl, (Nat.le_of_ble_eq_true rfl), am_bz (by (repeat (first | refine am_bw rfl ?_ | refine am_bA rfl ?_ | refine am_bB rfl ?_ | refine am_bC rfl ?_)); exact am_b0 (Nat.le_of_ble_eq_true rfl))⟩
    · have hi2 : ¬ (2 < p1.toInt) := fun h9 => hc2 (Int32.lt_iff_toInt_lt.mpr h9)
      refine g_aload_n (pc := 11) dc_W_ask_11 rfl ?_
      refine g_getfield (pc := 12) dc_W_ask_12 fl_W_81 rfl rfl ?_
      refine g_aload_n (pc := 15) dc_W_ask_15 rfl ?_
      refine g_getfield (pc := 16) dc_W_ask_16 fl_W_12 rfl rfl ?_
      refine g_iload_n (pc := 19) dc_W_ask_19 rfl ?_
      refine g_aload_n (pc := 20) dc_W_ask_20 rfl ?_
      refine g_getfield (pc := 21) dc_W_ask_21 fl_W_74 rfl rfl ?_
      refine g_v3 (pc := 24) (M' := mt_N_answer) dc_W_ask_24 mo_N_answer im_N_answer se_N_answer ln_W_268 rfl rfl rfl (Nat.le_of_ble_eq_true rfl) (Nat.le_of_ble_eq_true rfl) ?_
      refine g_aload_n (pc := 0) dc_N_answer_0 rfl ?_
      refine g_iconst (pc := 1) (v := 0) dc_N_answer_1 rfl ?_
      refine g_putfield (pc := 2) dc_N_answer_2 fp_N_answer_28 rfl (Nat.le_of_ble_eq_true rfl) rfl rfl ?_
      refine g_aload_n (pc := 5) dc_N_answer_5 rfl ?_
      refine g_getfield (pc := 6) dc_N_answer_6 fl_N_24 rfl rfl ?_
      refine g_v0 (pc := 9) (M' := mt_R_clear) dc_N_answer_9 mo_R_clear im_R_clear se_R_clear ln_N_32 rfl rfl rfl (Nat.le_of_ble_eq_true rfl) (Nat.le_of_ble_eq_true rfl) ?_
      refine g_aload_n (pc := 0) dc_R_clear_0 rfl ?_
      refine g_iconst (pc := 1) (v := 0) dc_R_clear_1 rfl ?_
      refine g_v1 (pc := 2) (M' := mt_R_cut) dc_R_clear_2 mo_R_cut im_R_cut se_R_cut ln_R_24 rfl rfl rfl (Nat.le_of_ble_eq_true rfl) (Nat.le_of_ble_eq_true rfl) ?_
      refine g_iload_n (pc := 0) dc_R_cut_0 rfl ?_
      refine g_aload_n (pc := 1) dc_R_cut_1 rfl ?_
      refine g_getfield (pc := 2) dc_R_cut_2 fl_R_27 rfl rfl ?_
      refine g_icmp_gt (pc := 5) (tgt := 25) dc_R_cut_5 rfl (fun hc => absurd hc (by decide)) (fun _ => ?_)
      refine g_aload_n (pc := 8) dc_R_cut_8 rfl ?_
      refine g_iload_n (pc := 9) dc_R_cut_9 rfl ?_
      refine g_putfield (pc := 10) dc_R_cut_10 fp_R_cut_27 rfl (Nat.le_of_ble_eq_true rfl) rfl rfl ?_
      refine g_aload_n (pc := 13) dc_R_cut_13 rfl ?_
      refine g_getfield (pc := 14) dc_R_cut_14 fl_R_14 rfl rfl ?_
      refine g_aload_n (pc := 17) dc_R_cut_17 rfl ?_
      refine g_iload_n (pc := 18) dc_R_cut_18 rfl ?_
      refine g_v1 (pc := 19) (M' := mt_R_from) dc_R_cut_19 mo_R_from im_R_from se_R_from ln_R_31 rfl rfl rfl (Nat.le_of_ble_eq_true rfl) (Nat.le_of_ble_eq_true rfl) ?_
      refine g_iload_n (pc := 0) dc_R_from_0 rfl ?_
      refine g_if_ne (pc := 1) (tgt := 8) dc_R_from_1 rfl (fun hc => absurd hc (by decide)) (fun _ => ?_)
      refine g_iconst (pc := 4) (v := 0) dc_R_from_4 rfl ?_
      refine g_goto (pc := 5) (tgt := 16) dc_R_from_5 rfl ?_
      refine g_iretC (pc := 16) dc_R_from_16 rfl ?_
      refine g_putfield (pc := 22) dc_R_cut_22 fp_R_cut_35 rfl (Nat.le_of_ble_eq_true rfl) rfl rfl ?_
      refine g_vretC (pc := 25) dc_R_cut_25 rfl ?_
      refine g_vretC (pc := 5) dc_R_clear_5 rfl ?_
      refine g_aload_n (pc := 12) dc_N_answer_12 rfl ?_
      refine g_aload_n (pc := 13) dc_N_answer_13 rfl ?_
      refine g_getfield (pc := 14) dc_N_answer_14 fl_N_24 rfl rfl ?_
      refine g_s2 (pc := 17) (M' := mt_P_splitWords) dc_N_answer_17 mo_P_splitWords st_P_splitWords ln_N_35 (Nat.le_of_ble_eq_true rfl) (Nat.le_of_ble_eq_true rfl) ?_
      refine g_iconst (pc := 0) (v := 0) dc_P_splitWords_0 rfl ?_
      refine g_istore_n (pc := 1) dc_P_splitWords_1 (by decide) ?_
      refine g_iconst (pc := 2) (v := 0) dc_P_splitWords_2 rfl ?_
      refine g_istore_n (pc := 3) dc_P_splitWords_3 (by decide) ?_
      refine g_iload_n (pc := 4) dc_P_splitWords_4 rfl ?_
      refine g_aload_n (pc := 5) dc_P_splitWords_5 rfl ?_
      refine g_getfield (pc := 6) dc_P_splitWords_6 fl_P_77 rfl rfl ?_
      refine g_icmp_ge (pc := 9) (tgt := 76) dc_P_splitWords_9 rfl (fun _ => ?_) (fun hc => absurd hc (by decide))
      refine g_iload_n (pc := 76) dc_P_splitWords_76 rfl ?_
      refine g_if_le (pc := 77) (tgt := 84) dc_P_splitWords_77 rfl (fun _ => ?_) (fun hc => absurd hc (by decide))
      refine g_vretC (pc := 84) dc_P_splitWords_84 rfl ?_
      refine g_aload_n (pc := 20) dc_N_answer_20 rfl ?_
      refine g_getfield (pc := 21) dc_N_answer_21 fl_N_24 rfl rfl ?_
      refine g_aload_n (pc := 24) dc_N_answer_24 rfl ?_
      refine g_getfield (pc := 25) dc_N_answer_25 fl_N_24 rfl rfl ?_
      refine g_getfield (pc := 28) dc_N_answer_28 fl_N_41 rfl rfl ?_
      refine g_bipush (pc := 31) (v := 8) dc_N_answer_31 rfl ?_
      refine g_s2 (pc := 33) (M' := mt_JMath_min) dc_N_answer_33 mo_JMath_min st_JMath_min ln_N_42 (Nat.le_of_ble_eq_true rfl) (Nat.le_of_ble_eq_true rfl) ?_
      refine g_iload_n (pc := 0) dc_JMath_min_0 rfl ?_
      refine g_iload_n (pc := 1) dc_JMath_min_1 rfl ?_
      refine g_icmp_gt (pc := 2) (tgt := 9) dc_JMath_min_2 rfl (fun hc => absurd hc (by decide)) (fun _ => ?_)
      refine g_iload_n (pc := 5) dc_JMath_min_5 rfl ?_
      refine g_goto (pc := 6) (tgt := 10) dc_JMath_min_6 rfl ?_
      refine g_iretC (pc := 10) dc_JMath_min_10 rfl ?_
      refine g_v1 (pc := 36) (M' := mt_R_cut) dc_N_answer_36 mo_R_cut im_R_cut se_R_cut ln_N_48 rfl rfl rfl (Nat.le_of_ble_eq_true rfl) (Nat.le_of_ble_eq_true rfl) ?_
      refine g_iload_n (pc := 0) dc_R_cut_0 rfl ?_
      refine g_aload_n (pc := 1) dc_R_cut_1 rfl ?_
      refine g_getfield (pc := 2) dc_R_cut_2 fl_R_27 rfl rfl ?_
      refine g_icmp_gt (pc := 5) (tgt := 25) dc_R_cut_5 rfl (fun hc => absurd hc (by decide)) (fun _ => ?_)
      refine g_aload_n (pc := 8) dc_R_cut_8 rfl ?_
      refine g_iload_n (pc := 9) dc_R_cut_9 rfl ?_
      refine g_putfield (pc := 10) dc_R_cut_10 fp_R_cut_27 rfl (Nat.le_of_ble_eq_true rfl) rfl rfl ?_
      refine g_aload_n (pc := 13) dc_R_cut_13 rfl ?_
      refine g_getfield (pc := 14) dc_R_cut_14 fl_R_14 rfl rfl ?_
      refine g_aload_n (pc := 17) dc_R_cut_17 rfl ?_
      refine g_iload_n (pc := 18) dc_R_cut_18 rfl ?_
      refine g_v1 (pc := 19) (M' := mt_R_from) dc_R_cut_19 mo_R_from im_R_from se_R_from ln_R_31 rfl rfl rfl (Nat.le_of_ble_eq_true rfl) (Nat.le_of_ble_eq_true rfl) ?_
      refine g_iload_n (pc := 0) dc_R_from_0 rfl ?_
      refine g_if_ne (pc := 1) (tgt := 8) dc_R_from_1 rfl (fun hc => absurd hc (by decide)) (fun _ => ?_)
      refine g_iconst (pc := 4) (v := 0) dc_R_from_4 rfl ?_
      refine g_goto (pc := 5) (tgt := 16) dc_R_from_5 rfl ?_
      refine g_iretC (pc := 16) dc_R_from_16 rfl ?_
      refine g_putfield (pc := 22) dc_R_cut_22 fp_R_cut_35 rfl (Nat.le_of_ble_eq_true rfl) rfl rfl ?_
      refine g_vretC (pc := 25) dc_R_cut_25 rfl ?_
      refine g_iconst (pc := 39) (v := 0) dc_N_answer_39 rfl ?_
      refine g_istore (pc := 40) dc_N_answer_40 (by decide) ?_
      refine g_iload (pc := 42) dc_N_answer_42 rfl ?_
      refine g_aload_n (pc := 44) dc_N_answer_44 rfl ?_
      refine g_getfield (pc := 45) dc_N_answer_45 fl_N_52 rfl rfl ?_
      refine g_icmp_ge (pc := 48) (tgt := 114) dc_N_answer_48 rfl (fun _ => ?_) (fun hc => absurd hc (by decide))
      refine g_vretC (pc := 114) dc_N_answer_114 rfl ?_
      refine g_aload_n (pc := 27) dc_W_ask_27 rfl ?_
      refine g_getfield (pc := 28) dc_W_ask_28 fl_W_81 rfl rfl ?_
      refine g_getfield (pc := 31) dc_W_ask_31 fl_W_272 rfl rfl ?_
      refine g_istore_n (pc := 34) dc_W_ask_34 (by decide) ?_
      refine g_aload_n (pc := 35) dc_W_ask_35 rfl ?_
      refine g_getfield (pc := 36) dc_W_ask_36 fl_W_12 rfl rfl ?_
      refine g_v0 (pc := 39) (M' := mt_B_clear) dc_W_ask_39 mo_B_clear im_B_clear se_B_clear ln_W_121 rfl rfl rfl (Nat.le_of_ble_eq_true rfl) (Nat.le_of_ble_eq_true rfl) ?_
      refine g_aload_n (pc := 0) dc_B_clear_0 rfl ?_
      refine g_iconst (pc := 1) (v := 0) dc_B_clear_1 rfl ?_
      refine g_putfield (pc := 2) dc_B_clear_2 fp_B_clear_15 rfl (Nat.le_of_ble_eq_true rfl) rfl rfl ?_
      refine g_vretC (pc := 5) dc_B_clear_5 rfl ?_
      refine g_iload_n (pc := 42) dc_W_ask_42 rfl ?_
      refine g_iretC (pc := 43) dc_W_ask_43 rfl ?_
      refine g_aload_n (pc := 769) dc_L_law_769 rfl ?_
      refine g_xload_n (pc := 770) dc_L_law_770 rfl ?_
      refine g_iload (pc := 771) dc_L_law_771 rfl ?_
      refine g_iconst (pc := 773) (v := 1) dc_L_law_773 rfl ?_
      refine g_iadd (pc := 774) (v := 1) dc_L_law_774 (by decide) ?_
      refine g_scriptLoadV (pc := 775) dc_L_law_775 (by rw [hL]; exact am_vin rfl) e1 ?_
      refine g_v1 (pc := 776) (M' := mt_M_ask) dc_L_law_776 mo_M_ask im_M_ask se_M_ask ln_L_129 rfl rfl rfl (Nat.le_of_ble_eq_true rfl) (Nat.le_of_ble_eq_true rfl) ?_
      refine g_aload_n (pc := 0) dc_M_ask_0 rfl ?_
      refine g_v0 (pc := 1) (M' := mt_M_use) dc_M_ask_1 mo_M_use im_M_use se_M_use ln_M_505 rfl rfl rfl (Nat.le_of_ble_eq_true rfl) (Nat.le_of_ble_eq_true rfl) ?_
      refine g_aload_n (pc := 0) dc_M_use_0 rfl ?_
      refine g_iconst (pc := 1) (v := 0) dc_M_use_1 rfl ?_
      refine g_putfield (pc := 2) dc_M_use_2 fp_M_use_1 rfl (Nat.le_of_ble_eq_true rfl) rfl rfl ?_
      refine g_aload_n (pc := 5) dc_M_use_5 rfl ?_
      refine g_getfield (pc := 6) dc_M_use_6 fl_M_493 rfl rfl ?_
      refine g_istore_n (pc := 9) dc_M_use_9 (by decide) ?_
      refine g_aload_n (pc := 10) dc_M_use_10 rfl ?_
      refine g_iconst (pc := 11) (v := 0) dc_M_use_11 rfl ?_
      refine g_putfield (pc := 12) dc_M_use_12 fp_M_use_493 rfl (Nat.le_of_ble_eq_true rfl) rfl rfl ?_
      refine g_iload_n (pc := 15) dc_M_use_15 rfl ?_
      refine g_iretC (pc := 16) dc_M_use_16 rfl ?_
      refine g_istore_n (pc := 4) dc_M_ask_4 (by decide) ?_
      refine g_iload_n (pc := 5) dc_M_ask_5 rfl ?_
      refine g_if_lt (pc := 6) (tgt := 14) dc_M_ask_6 rfl (fun hc => absurd (Int32.lt_iff_toInt_lt.mp hc) (show ¬ (p1.toInt < 0) by omega)) (fun _ => ?_)
      refine g_iload_n (pc := 9) dc_M_ask_9 rfl ?_
      refine g_iconst (pc := 10) (v := 2) dc_M_ask_10 rfl ?_
      refine g_icmp_le (pc := 11) (tgt := 16) dc_M_ask_11 rfl (fun _ => ?_) (fun hc => (hc (Int32.le_iff_toInt_le.mpr (show p1.toInt ≤ 2 by omega))).elim)
      refine g_aload_n (pc := 16) dc_M_ask_16 rfl ?_
      refine g_iconst (pc := 17) (v := 0) dc_M_ask_17 rfl ?_
      refine g_putfield (pc := 18) dc_M_ask_18 fp_M_ask_223 rfl (Nat.le_of_ble_eq_true rfl) rfl rfl ?_
      refine g_aload_n (pc := 21) dc_M_ask_21 rfl ?_
      refine g_aload_n (pc := 22) dc_M_ask_22 rfl ?_
      refine g_getfield (pc := 23) dc_M_ask_23 fl_M_143 rfl rfl ?_
      refine g_iconst (pc := 26) (v := 0) dc_M_ask_26 rfl ?_
      refine g_iload_n (pc := 27) dc_M_ask_27 rfl ?_
      refine g_v3 (pc := 28) (M' := mt_M_split) dc_M_ask_28 mo_M_split im_M_split se_M_split ln_M_244 rfl rfl rfl (Nat.le_of_ble_eq_true rfl) (Nat.le_of_ble_eq_true rfl) ?_
      refine g_iload_n (pc := 0) dc_M_split_0 rfl ?_
      refine g_istore (pc := 1) dc_M_split_1 (by decide) ?_
      refine g_iload (pc := 3) dc_M_split_3 rfl ?_
      refine g_iload_n (pc := 5) dc_M_split_5 rfl ?_
      refine g_icmp_ge (pc := 6) (tgt := 192) dc_M_split_6 rfl (fun _ => ?_) (fun hc => absurd hc (by decide))
      refine g_vretC (pc := 192) dc_M_split_192 rfl ?_
      refine g_aload_n (pc := 31) dc_M_ask_31 rfl ?_
      refine g_aload_n (pc := 32) dc_M_ask_32 rfl ?_
      refine g_getfield (pc := 33) dc_M_ask_33 fl_M_223 rfl rfl ?_
      refine g_bipush (pc := 36) (v := 8) dc_M_ask_36 rfl ?_
      refine g_icmp_ge (pc := 38) (tgt := 48) dc_M_ask_38 rfl (fun hc => absurd hc (by decide)) (fun _ => ?_)
      refine g_aload_n (pc := 41) dc_M_ask_41 rfl ?_
      refine g_getfield (pc := 42) dc_M_ask_42 fl_M_223 rfl rfl ?_
      refine g_goto (pc := 45) (tgt := 50) dc_M_ask_45 rfl ?_
      refine g_putfield (pc := 50) dc_M_ask_50 fp_M_ask_487 rfl (Nat.le_of_ble_eq_true rfl) rfl rfl ?_
      refine g_iconst (pc := 53) (v := 0) dc_M_ask_53 rfl ?_
      refine g_istore_n (pc := 54) dc_M_ask_54 (by decide) ?_
      refine g_iload_n (pc := 55) dc_M_ask_55 rfl ?_
      refine g_aload_n (pc := 56) dc_M_ask_56 rfl ?_
      refine g_getfield (pc := 57) dc_M_ask_57 fl_M_487 rfl rfl ?_
      refine g_icmp_ge (pc := 60) (tgt := 127) dc_M_ask_60 rfl (fun _ => ?_) (fun hc => absurd hc (by decide))
      refine g_aload_n (pc := 127) dc_M_ask_127 rfl ?_
      refine g_iconst (pc := 128) (v := 0) dc_M_ask_128 rfl ?_
      refine g_putfield (pc := 129) dc_M_ask_129 fp_M_ask_547 rfl (Nat.le_of_ble_eq_true rfl) rfl rfl ?_
      refine g_iconst (pc := 132) (v := 0) dc_M_ask_132 rfl ?_
      refine g_istore_n (pc := 133) dc_M_ask_133 (by decide) ?_
      refine g_iload_n (pc := 134) dc_M_ask_134 rfl ?_
      refine g_aload_n (pc := 135) dc_M_ask_135 rfl ?_
      refine g_getfield (pc := 136) dc_M_ask_136 fl_M_467 rfl rfl ?_
      refine g_icmp_ge (pc := 139) (tgt := 207) dc_M_ask_139 rfl (fun _ => ?_) (fun hc => absurd hc (by decide))
      refine g_aload_n (pc := 207) dc_M_ask_207 rfl ?_
      refine g_getfield (pc := 208) dc_M_ask_208 fl_M_547 rfl rfl ?_
      refine g_iretC (pc := 211) dc_M_ask_211 rfl ?_
      refine g_icmp_eq (pc := 779) (tgt := 873) dc_L_law_779 rfl (fun _ => ?_) (fun hc => absurd hc (by decide))
      refine g_iinc (pc := 873) (v := 6) dc_L_law_873 rfl (by decide) (by decide) ?_
      refine g_goto (pc := 876) (tgt := 23) dc_L_law_876 rfl ?_
      refine g_iload (pc := 23) dc_L_law_23 rfl ?_
      refine g_xload_n (pc := 25) dc_L_law_25 rfl ?_
      refine g_scriptLenV (pc := 26) (n := 6) dc_L_law_26 hL rfl ?_
      refine g_bipush (pc := 27) (v := 6) dc_L_law_27 rfl ?_
      refine g_isub (pc := 29) (v := 0) dc_L_law_29 (by decide) ?_
      refine g_icmp_gt (pc := 30) (tgt := 879) dc_L_law_30 rfl (fun _ => ?_) (fun hc => absurd hc (by decide))
      refine g_iconst (pc := 879) (v := 1) dc_L_law_879 rfl ?_
      exact g_zreturn dc_L_law_880 rfl rfl ⟨rfl, (Nat.le_of_ble_eq_true rfl), am_bz (by (repeat (first | refine am_bw rfl ?_ | refine am_bA rfl ?_ | refine am_bB rfl ?_ | refine am_bC rfl ?_)); exact am_b0 (Nat.le_of_ble_eq_true rfl))⟩
set_option maxRecDepth 20000 in
set_option maxHeartbeats 1000000 in
theorem p1_24 {X : am_X} {p0 p1 p2 p3 p4 p5 : Int32} (hl9 : X.1.stackTraces = false) (hL : X.2.2.2.2.2.1 = 6) (e0 : X.2.2.2.2.2.2 (Int32.toNatClampNeg 0) = p0) (e1 : X.2.2.2.2.2.2 (Int32.toNatClampNeg 1) = p1) (e2 : X.2.2.2.2.2.2 (Int32.toNatClampNeg 2) = p2) (e3 : X.2.2.2.2.2.2 (Int32.toNatClampNeg 3) = p3) (e4 : X.2.2.2.2.2.2 (Int32.toNatClampNeg 4) = p4) (e5 : X.2.2.2.2.2.2 (Int32.toNatClampNeg 5) = p5) : am_G X mt_L_law 60 784 lo_0 [] hp_0 (fun r h => r = some (.int 1) ∧ h.length ≤ 600002 ∧ am_sl h ≤ 7302232) := by
  refine g_aload_n (pc := 784) dc_L_law_784 rfl ?_
  refine g_xload_n (pc := 785) dc_L_law_785 rfl ?_
  refine g_iload (pc := 786) dc_L_law_786 rfl ?_
  refine g_iconst (pc := 788) (v := 1) dc_L_law_788 rfl ?_
  refine g_iadd (pc := 789) (v := 1) dc_L_law_789 (by decide) ?_
  refine g_scriptLoadV (pc := 790) dc_L_law_790 (by rw [hL]; exact am_vin rfl) e1 ?_
  refine g_v1 (pc := 791) (M' := mt_W_hit) dc_L_law_791 mo_W_hit im_W_hit se_W_hit ln_L_130 rfl rfl rfl (Nat.le_of_ble_eq_true rfl) (Nat.le_of_ble_eq_true rfl) ?_
  refine g_iload_n (pc := 0) dc_W_hit_0 rfl ?_
  refine g_if_lt (pc := 1) (tgt := 15) dc_W_hit_1 rfl (fun hc0 => ?_) (fun hc0 => ?_)
  · have hi0 : p1.toInt < 0 := Int32.lt_iff_toInt_lt.mp hc0
    refine g_iconst (pc := 15) (v := (-1)) dc_W_hit_15 rfl ?_
    refine g_goto (pc := 16) (tgt := 28) dc_W_hit_16 rfl ?_
    refine g_iretC (pc := 28) dc_W_hit_28 rfl ?_
    refine g_aload_n (pc := 794) dc_L_law_794 rfl ?_
    refine g_xload_n (pc := 795) dc_L_law_795 rfl ?_
    refine g_iload (pc := 796) dc_L_law_796 rfl ?_
    refine g_iconst (pc := 798) (v := 1) dc_L_law_798 rfl ?_
    refine g_iadd (pc := 799) (v := 1) dc_L_law_799 (by decide) ?_
    refine g_scriptLoadV (pc := 800) dc_L_law_800 (by rw [hL]; exact am_vin rfl) e1 ?_
    refine g_v1 (pc := 801) (M' := mt_M_hit) dc_L_law_801 mo_M_hit im_M_hit se_M_hit ln_L_133 rfl rfl rfl (Nat.le_of_ble_eq_true rfl) (Nat.le_of_ble_eq_true rfl) ?_
    refine g_aload_n (pc := 0) dc_M_hit_0 rfl ?_
    refine g_iconst (pc := 1) (v := 0) dc_M_hit_1 rfl ?_
    refine g_putfield (pc := 2) dc_M_hit_2 fp_M_hit_1 rfl (Nat.le_of_ble_eq_true rfl) rfl rfl ?_
    refine g_iload_n (pc := 5) dc_M_hit_5 rfl ?_
    refine g_if_lt (pc := 6) (tgt := 26) dc_M_hit_6 rfl (fun _ => ?_) (fun hc => (hc (Int32.lt_iff_toInt_lt.mpr (show p1.toInt < 0 by omega))).elim)
    refine g_iconst (pc := 26) (v := (-1)) dc_M_hit_26 rfl ?_
    refine g_iretC (pc := 27) dc_M_hit_27 rfl ?_
    refine g_icmp_eq (pc := 804) (tgt := 873) dc_L_law_804 rfl (fun _ => ?_) (fun hc => absurd hc (by decide))
    refine g_iinc (pc := 873) (v := 6) dc_L_law_873 rfl (by decide) (by decide) ?_
    refine g_goto (pc := 876) (tgt := 23) dc_L_law_876 rfl ?_
    refine g_iload (pc := 23) dc_L_law_23 rfl ?_
    refine g_xload_n (pc := 25) dc_L_law_25 rfl ?_
    refine g_scriptLenV (pc := 26) (n := 6) dc_L_law_26 hL rfl ?_
    refine g_bipush (pc := 27) (v := 6) dc_L_law_27 rfl ?_
    refine g_isub (pc := 29) (v := 0) dc_L_law_29 (by decide) ?_
    refine g_icmp_gt (pc := 30) (tgt := 879) dc_L_law_30 rfl (fun _ => ?_) (fun hc => absurd hc (by decide))
    refine g_iconst (pc := 879) (v := 1) dc_L_law_879 rfl ?_
    exact g_zreturn dc_L_law_880 rfl rfl ⟨rfl, (Nat.le_of_ble_eq_true rfl), am_bz (by (repeat (first | refine am_bw rfl ?_ | refine am_bA rfl ?_ | refine am_bB rfl ?_ | refine am_bC rfl ?_)); exact am_b0 (Nat.le_of_ble_eq_true rfl))⟩
  · have hi0 : ¬ (p1.toInt < 0) := fun h9 => hc0 (Int32.lt_iff_toInt_lt.mpr h9)
    refine g_iload_n (pc := 4) dc_W_hit_4 rfl ?_
    refine g_aload_n (pc := 5) dc_W_hit_5 rfl ?_
    refine g_getfield (pc := 6) dc_W_hit_6 fl_W_81 rfl rfl ?_
    refine g_getfield (pc := 9) dc_W_hit_9 fl_W_272 rfl rfl ?_
    refine g_icmp_lt (pc := 12) (tgt := 19) dc_W_hit_12 rfl (fun hc => absurd (Int32.lt_iff_toInt_lt.mp hc) (show ¬ (p1.toInt < 0) by omega)) (fun _ => ?_)
    refine g_iconst (pc := 15) (v := (-1)) dc_W_hit_15 rfl ?_
    refine g_goto (pc := 16) (tgt := 28) dc_W_hit_16 rfl ?_
    refine g_iretC (pc := 28) dc_W_hit_28 rfl ?_
    refine g_aload_n (pc := 794) dc_L_law_794 rfl ?_
    refine g_xload_n (pc := 795) dc_L_law_795 rfl ?_
    refine g_iload (pc := 796) dc_L_law_796 rfl ?_
    refine g_iconst (pc := 798) (v := 1) dc_L_law_798 rfl ?_
    refine g_iadd (pc := 799) (v := 1) dc_L_law_799 (by decide) ?_
    refine g_scriptLoadV (pc := 800) dc_L_law_800 (by rw [hL]; exact am_vin rfl) e1 ?_
    refine g_v1 (pc := 801) (M' := mt_M_hit) dc_L_law_801 mo_M_hit im_M_hit se_M_hit ln_L_133 rfl rfl rfl (Nat.le_of_ble_eq_true rfl) (Nat.le_of_ble_eq_true rfl) ?_
    refine g_aload_n (pc := 0) dc_M_hit_0 rfl ?_
    refine g_iconst (pc := 1) (v := 0) dc_M_hit_1 rfl ?_
    refine g_putfield (pc := 2) dc_M_hit_2 fp_M_hit_1 rfl (Nat.le_of_ble_eq_true rfl) rfl rfl ?_
    refine g_iload_n (pc := 5) dc_M_hit_5 rfl ?_
    refine g_if_lt (pc := 6) (tgt := 26) dc_M_hit_6 rfl (fun hc => absurd (Int32.lt_iff_toInt_lt.mp hc) (show ¬ (p1.toInt < 0) by omega)) (fun _ => ?_)
    refine g_iload_n (pc := 9) dc_M_hit_9 rfl ?_
    refine g_aload_n (pc := 10) dc_M_hit_10 rfl ?_
    refine g_getfield (pc := 11) dc_M_hit_11 fl_M_547 rfl rfl ?_
    refine g_icmp_ge (pc := 14) (tgt := 26) dc_M_hit_14 rfl (fun _ => ?_) (fun hc => (hc (Int32.le_iff_toInt_le.mpr (show 0 ≤ p1.toInt by omega))).elim)
    refine g_iconst (pc := 26) (v := (-1)) dc_M_hit_26 rfl ?_
    refine g_iretC (pc := 27) dc_M_hit_27 rfl ?_
    refine g_icmp_eq (pc := 804) (tgt := 873) dc_L_law_804 rfl (fun _ => ?_) (fun hc => absurd hc (by decide))
    refine g_iinc (pc := 873) (v := 6) dc_L_law_873 rfl (by decide) (by decide) ?_
    refine g_goto (pc := 876) (tgt := 23) dc_L_law_876 rfl ?_
    refine g_iload (pc := 23) dc_L_law_23 rfl ?_
    refine g_xload_n (pc := 25) dc_L_law_25 rfl ?_
    refine g_scriptLenV (pc := 26) (n := 6) dc_L_law_26 hL rfl ?_
    refine g_bipush (pc := 27) (v := 6) dc_L_law_27 rfl ?_
    refine g_isub (pc := 29) (v := 0) dc_L_law_29 (by decide) ?_
    refine g_icmp_gt (pc := 30) (tgt := 879) dc_L_law_30 rfl (fun _ => ?_) (fun hc => absurd hc (by decide))
    refine g_iconst (pc := 879) (v := 1) dc_L_law_879 rfl ?_
    exact g_zreturn dc_L_law_880 rfl rfl ⟨rfl, (Nat.le_of_ble_eq_true rfl), am_bz (by (repeat (first | refine am_bw rfl ?_ | refine am_bA rfl ?_ | refine am_bB rfl ?_ | refine am_bC rfl ?_)); exact am_b0 (Nat.le_of_ble_eq_true rfl))⟩
set_option maxRecDepth 20000 in
set_option maxHeartbeats 1000000 in
theorem p1_25 {X : am_X} {p0 p1 p2 p3 p4 p5 : Int32} (hl9 : X.1.stackTraces = false) (hL : X.2.2.2.2.2.1 = 6) (e0 : X.2.2.2.2.2.2 (Int32.toNatClampNeg 0) = p0) (e1 : X.2.2.2.2.2.2 (Int32.toNatClampNeg 1) = p1) (e2 : X.2.2.2.2.2.2 (Int32.toNatClampNeg 2) = p2) (e3 : X.2.2.2.2.2.2 (Int32.toNatClampNeg 3) = p3) (e4 : X.2.2.2.2.2.2 (Int32.toNatClampNeg 4) = p4) (e5 : X.2.2.2.2.2.2 (Int32.toNatClampNeg 5) = p5) : am_G X mt_L_law 60 809 lo_0 [] hp_0 (fun r h => r = some (.int 1) ∧ h.length ≤ 600002 ∧ am_sl h ≤ 7302232) := by
  refine g_aload_n (pc := 809) dc_L_law_809 rfl ?_
  refine g_xload_n (pc := 810) dc_L_law_810 rfl ?_
  refine g_iload (pc := 811) dc_L_law_811 rfl ?_
  refine g_iconst (pc := 813) (v := 1) dc_L_law_813 rfl ?_
  refine g_iadd (pc := 814) (v := 1) dc_L_law_814 (by decide) ?_
  refine g_scriptLoadV (pc := 815) dc_L_law_815 (by rw [hL]; exact am_vin rfl) e1 ?_
  refine g_v1 (pc := 816) (M' := mt_W_score) dc_L_law_816 mo_W_score im_W_score se_W_score ln_L_134 rfl rfl rfl (Nat.le_of_ble_eq_true rfl) (Nat.le_of_ble_eq_true rfl) ?_
  refine g_iload_n (pc := 0) dc_W_score_0 rfl ?_
  refine g_if_lt (pc := 1) (tgt := 15) dc_W_score_1 rfl (fun hc0 => ?_) (fun hc0 => ?_)
  · have hi0 : p1.toInt < 0 := Int32.lt_iff_toInt_lt.mp hc0
    refine g_ldc2 (pc := 15) dc_W_score_15 cl_W_276 ?_
    refine g_goto (pc := 18) (tgt := 30) dc_W_score_18 rfl ?_
    refine g_lretC (pc := 30) dc_W_score_30 rfl ?_
    refine g_aload_n (pc := 819) dc_L_law_819 rfl ?_
    refine g_xload_n (pc := 820) dc_L_law_820 rfl ?_
    refine g_iload (pc := 821) dc_L_law_821 rfl ?_
    refine g_iconst (pc := 823) (v := 1) dc_L_law_823 rfl ?_
    refine g_iadd (pc := 824) (v := 1) dc_L_law_824 (by decide) ?_
    refine g_scriptLoadV (pc := 825) dc_L_law_825 (by rw [hL]; exact am_vin rfl) e1 ?_
    refine g_v1 (pc := 826) (M' := mt_M_score) dc_L_law_826 mo_M_score im_M_score se_M_score ln_L_138 rfl rfl rfl (Nat.le_of_ble_eq_true rfl) (Nat.le_of_ble_eq_true rfl) ?_
    refine g_aload_n (pc := 0) dc_M_score_0 rfl ?_
    refine g_iconst (pc := 1) (v := 0) dc_M_score_1 rfl ?_
    refine g_putfield (pc := 2) dc_M_score_2 fp_M_score_1 rfl (Nat.le_of_ble_eq_true rfl) rfl rfl ?_
    refine g_iload_n (pc := 5) dc_M_score_5 rfl ?_
    refine g_if_lt (pc := 6) (tgt := 26) dc_M_score_6 rfl (fun _ => ?_) (fun hc => (hc (Int32.lt_iff_toInt_lt.mpr (show p1.toInt < 0 by omega))).elim)
    refine g_ldc2 (pc := 26) dc_M_score_26 cl_M_563 ?_
    refine g_lretC (pc := 29) dc_M_score_29 rfl ?_
    refine g_lcmp (pc := 829) (v := 0) dc_L_law_829 (by decide) ?_
    refine g_if_eq (pc := 830) (tgt := 873) dc_L_law_830 rfl (fun _ => ?_) (fun hc => absurd hc (by decide))
    refine g_iinc (pc := 873) (v := 6) dc_L_law_873 rfl (by decide) (by decide) ?_
    refine g_goto (pc := 876) (tgt := 23) dc_L_law_876 rfl ?_
    refine g_iload (pc := 23) dc_L_law_23 rfl ?_
    refine g_xload_n (pc := 25) dc_L_law_25 rfl ?_
    refine g_scriptLenV (pc := 26) (n := 6) dc_L_law_26 hL rfl ?_
    refine g_bipush (pc := 27) (v := 6) dc_L_law_27 rfl ?_
    refine g_isub (pc := 29) (v := 0) dc_L_law_29 (by decide) ?_
    refine g_icmp_gt (pc := 30) (tgt := 879) dc_L_law_30 rfl (fun _ => ?_) (fun hc => absurd hc (by decide))
    refine g_iconst (pc := 879) (v := 1) dc_L_law_879 rfl ?_
    exact g_zreturn dc_L_law_880 rfl rfl ⟨rfl, (Nat.le_of_ble_eq_true rfl), am_bz (by (repeat (first | refine am_bw rfl ?_ | refine am_bA rfl ?_ | refine am_bB rfl ?_ | refine am_bC rfl ?_)); exact am_b0 (Nat.le_of_ble_eq_true rfl))⟩
  · have hi0 : ¬ (p1.toInt < 0) := fun h9 => hc0 (Int32.lt_iff_toInt_lt.mpr h9)
    refine g_iload_n (pc := 4) dc_W_score_4 rfl ?_
    refine g_aload_n (pc := 5) dc_W_score_5 rfl ?_
    refine g_getfield (pc := 6) dc_W_score_6 fl_W_81 rfl rfl ?_
    refine g_getfield (pc := 9) dc_W_score_9 fl_W_272 rfl rfl ?_
    refine g_icmp_lt (pc := 12) (tgt := 21) dc_W_score_12 rfl (fun hc => absurd (Int32.lt_iff_toInt_lt.mp hc) (show ¬ (p1.toInt < 0) by omega)) (fun _ => ?_)
    refine g_ldc2 (pc := 15) dc_W_score_15 cl_W_276 ?_
    refine g_goto (pc := 18) (tgt := 30) dc_W_score_18 rfl ?_
    refine g_lretC (pc := 30) dc_W_score_30 rfl ?_
    refine g_aload_n (pc := 819) dc_L_law_819 rfl ?_
    refine g_xload_n (pc := 820) dc_L_law_820 rfl ?_
    refine g_iload (pc := 821) dc_L_law_821 rfl ?_
    refine g_iconst (pc := 823) (v := 1) dc_L_law_823 rfl ?_
    refine g_iadd (pc := 824) (v := 1) dc_L_law_824 (by decide) ?_
    refine g_scriptLoadV (pc := 825) dc_L_law_825 (by rw [hL]; exact am_vin rfl) e1 ?_
    refine g_v1 (pc := 826) (M' := mt_M_score) dc_L_law_826 mo_M_score im_M_score se_M_score ln_L_138 rfl rfl rfl (Nat.le_of_ble_eq_true rfl) (Nat.le_of_ble_eq_true rfl) ?_
    refine g_aload_n (pc := 0) dc_M_score_0 rfl ?_
    refine g_iconst (pc := 1) (v := 0) dc_M_score_1 rfl ?_
    refine g_putfield (pc := 2) dc_M_score_2 fp_M_score_1 rfl (Nat.le_of_ble_eq_true rfl) rfl rfl ?_
    refine g_iload_n (pc := 5) dc_M_score_5 rfl ?_
    refine g_if_lt (pc := 6) (tgt := 26) dc_M_score_6 rfl (fun hc => absurd (Int32.lt_iff_toInt_lt.mp hc) (show ¬ (p1.toInt < 0) by omega)) (fun _ => ?_)
    refine g_iload_n (pc := 9) dc_M_score_9 rfl ?_
    refine g_aload_n (pc := 10) dc_M_score_10 rfl ?_
    refine g_getfield (pc := 11) dc_M_score_11 fl_M_547 rfl rfl ?_
    refine g_icmp_ge (pc := 14) (tgt := 26) dc_M_score_14 rfl (fun _ => ?_) (fun hc => (hc (Int32.le_iff_toInt_le.mpr (show 0 ≤ p1.toInt by omega))).elim)
    refine g_ldc2 (pc := 26) dc_M_score_26 cl_M_563 ?_
    refine g_lretC (pc := 29) dc_M_score_29 rfl ?_
    refine g_lcmp (pc := 829) (v := 0) dc_L_law_829 (by decide) ?_
    refine g_if_eq (pc := 830) (tgt := 873) dc_L_law_830 rfl (fun _ => ?_) (fun hc => absurd hc (by decide))
    refine g_iinc (pc := 873) (v := 6) dc_L_law_873 rfl (by decide) (by decide) ?_
    refine g_goto (pc := 876) (tgt := 23) dc_L_law_876 rfl ?_
    refine g_iload (pc := 23) dc_L_law_23 rfl ?_
    refine g_xload_n (pc := 25) dc_L_law_25 rfl ?_
    refine g_scriptLenV (pc := 26) (n := 6) dc_L_law_26 hL rfl ?_
    refine g_bipush (pc := 27) (v := 6) dc_L_law_27 rfl ?_
    refine g_isub (pc := 29) (v := 0) dc_L_law_29 (by decide) ?_
    refine g_icmp_gt (pc := 30) (tgt := 879) dc_L_law_30 rfl (fun _ => ?_) (fun hc => absurd hc (by decide))
    refine g_iconst (pc := 879) (v := 1) dc_L_law_879 rfl ?_
    exact g_zreturn dc_L_law_880 rfl rfl ⟨rfl, (Nat.le_of_ble_eq_true rfl), am_bz (by (repeat (first | refine am_bw rfl ?_ | refine am_bA rfl ?_ | refine am_bB rfl ?_ | refine am_bC rfl ?_)); exact am_b0 (Nat.le_of_ble_eq_true rfl))⟩
set_option maxRecDepth 20000 in
set_option maxHeartbeats 1000000 in
theorem p1_26 {X : am_X} {p0 p1 p2 p3 p4 p5 : Int32} (hl9 : X.1.stackTraces = false) (hL : X.2.2.2.2.2.1 = 6) (e0 : X.2.2.2.2.2.2 (Int32.toNatClampNeg 0) = p0) (e1 : X.2.2.2.2.2.2 (Int32.toNatClampNeg 1) = p1) (e2 : X.2.2.2.2.2.2 (Int32.toNatClampNeg 2) = p2) (e3 : X.2.2.2.2.2.2 (Int32.toNatClampNeg 3) = p3) (e4 : X.2.2.2.2.2.2 (Int32.toNatClampNeg 4) = p4) (e5 : X.2.2.2.2.2.2 (Int32.toNatClampNeg 5) = p5) : am_G X mt_L_law 60 835 lo_0 [] hp_0 (fun r h => r = some (.int 1) ∧ h.length ≤ 600002 ∧ am_sl h ≤ 7302232) := by
  refine g_aload_n (pc := 835) dc_L_law_835 rfl ?_
  refine g_v0 (pc := 836) (M' := mt_W_made) dc_L_law_836 mo_W_made im_W_made se_W_made ln_L_139 rfl rfl rfl (Nat.le_of_ble_eq_true rfl) (Nat.le_of_ble_eq_true rfl) ?_
  refine g_aload_n (pc := 0) dc_W_made_0 rfl ?_
  refine g_getfield (pc := 1) dc_W_made_1 fl_W_18 rfl rfl ?_
  refine g_getfield (pc := 4) dc_W_made_4 fl_W_85 rfl rfl ?_
  refine g_iretC (pc := 7) dc_W_made_7 rfl ?_
  refine g_aload_n (pc := 839) dc_L_law_839 rfl ?_
  refine g_v0 (pc := 840) (M' := mt_M_made) dc_L_law_840 mo_M_made im_M_made se_M_made ln_L_142 rfl rfl rfl (Nat.le_of_ble_eq_true rfl) (Nat.le_of_ble_eq_true rfl) ?_
  refine g_aload_n (pc := 0) dc_M_made_0 rfl ?_
  refine g_iconst (pc := 1) (v := 0) dc_M_made_1 rfl ?_
  refine g_putfield (pc := 2) dc_M_made_2 fp_M_made_1 rfl (Nat.le_of_ble_eq_true rfl) rfl rfl ?_
  refine g_aload_n (pc := 5) dc_M_made_5 rfl ?_
  refine g_getfield (pc := 6) dc_M_made_6 fl_M_499 rfl rfl ?_
  refine g_iretC (pc := 9) dc_M_made_9 rfl ?_
  refine g_icmp_eq (pc := 843) (tgt := 873) dc_L_law_843 rfl (fun _ => ?_) (fun hc => absurd hc (by decide))
  refine g_iinc (pc := 873) (v := 6) dc_L_law_873 rfl (by decide) (by decide) ?_
  refine g_goto (pc := 876) (tgt := 23) dc_L_law_876 rfl ?_
  refine g_iload (pc := 23) dc_L_law_23 rfl ?_
  refine g_xload_n (pc := 25) dc_L_law_25 rfl ?_
  refine g_scriptLenV (pc := 26) (n := 6) dc_L_law_26 hL rfl ?_
  refine g_bipush (pc := 27) (v := 6) dc_L_law_27 rfl ?_
  refine g_isub (pc := 29) (v := 0) dc_L_law_29 (by decide) ?_
  refine g_icmp_gt (pc := 30) (tgt := 879) dc_L_law_30 rfl (fun _ => ?_) (fun hc => absurd hc (by decide))
  refine g_iconst (pc := 879) (v := 1) dc_L_law_879 rfl ?_
  exact g_zreturn dc_L_law_880 rfl rfl ⟨rfl, (Nat.le_of_ble_eq_true rfl), am_bz (by (repeat (first | refine am_bw rfl ?_ | refine am_bA rfl ?_ | refine am_bB rfl ?_ | refine am_bC rfl ?_)); exact am_b0 (Nat.le_of_ble_eq_true rfl))⟩
set_option maxRecDepth 20000 in
set_option maxHeartbeats 1000000 in
theorem p1_27 {X : am_X} {p0 p1 p2 p3 p4 p5 : Int32} (hl9 : X.1.stackTraces = false) (hL : X.2.2.2.2.2.1 = 6) (e0 : X.2.2.2.2.2.2 (Int32.toNatClampNeg 0) = p0) (e1 : X.2.2.2.2.2.2 (Int32.toNatClampNeg 1) = p1) (e2 : X.2.2.2.2.2.2 (Int32.toNatClampNeg 2) = p2) (e3 : X.2.2.2.2.2.2 (Int32.toNatClampNeg 3) = p3) (e4 : X.2.2.2.2.2.2 (Int32.toNatClampNeg 4) = p4) (e5 : X.2.2.2.2.2.2 (Int32.toNatClampNeg 5) = p5) : am_G X mt_L_law 60 848 lo_0 [] hp_0 (fun r h => r = some (.int 1) ∧ h.length ≤ 600002 ∧ am_sl h ≤ 7302232) := by
  refine g_aload_n (pc := 848) dc_L_law_848 rfl ?_
  refine g_xload_n (pc := 849) dc_L_law_849 rfl ?_
  refine g_iload (pc := 850) dc_L_law_850 rfl ?_
  refine g_iconst (pc := 852) (v := 1) dc_L_law_852 rfl ?_
  refine g_iadd (pc := 853) (v := 1) dc_L_law_853 (by decide) ?_
  refine g_scriptLoadV (pc := 854) dc_L_law_854 (by rw [hL]; exact am_vin rfl) e1 ?_
  refine g_v1 (pc := 855) (M' := mt_W_out) dc_L_law_855 mo_W_out im_W_out se_W_out ln_L_143 rfl rfl rfl (Nat.le_of_ble_eq_true rfl) (Nat.le_of_ble_eq_true rfl) ?_
  refine g_iload_n (pc := 0) dc_W_out_0 rfl ?_
  refine g_if_lt (pc := 1) (tgt := 15) dc_W_out_1 rfl (fun hc0 => ?_) (fun hc0 => ?_)
  · have hi0 : p1.toInt < 0 := Int32.lt_iff_toInt_lt.mp hc0
    refine g_iconst (pc := 15) (v := (-1)) dc_W_out_15 rfl ?_
    refine g_goto (pc := 16) (tgt := 32) dc_W_out_16 rfl ?_
    refine g_iretC (pc := 32) dc_W_out_32 rfl ?_
    refine g_aload_n (pc := 858) dc_L_law_858 rfl ?_
    refine g_xload_n (pc := 859) dc_L_law_859 rfl ?_
    refine g_iload (pc := 860) dc_L_law_860 rfl ?_
    refine g_iconst (pc := 862) (v := 1) dc_L_law_862 rfl ?_
    refine g_iadd (pc := 863) (v := 1) dc_L_law_863 (by decide) ?_
    refine g_scriptLoadV (pc := 864) dc_L_law_864 (by rw [hL]; exact am_vin rfl) e1 ?_
    refine g_v1 (pc := 865) (M' := mt_M_out) dc_L_law_865 mo_M_out im_M_out se_M_out ln_L_146 rfl rfl rfl (Nat.le_of_ble_eq_true rfl) (Nat.le_of_ble_eq_true rfl) ?_
    refine g_aload_n (pc := 0) dc_M_out_0 rfl ?_
    refine g_iconst (pc := 1) (v := 0) dc_M_out_1 rfl ?_
    refine g_putfield (pc := 2) dc_M_out_2 fp_M_out_1 rfl (Nat.le_of_ble_eq_true rfl) rfl rfl ?_
    refine g_iload_n (pc := 5) dc_M_out_5 rfl ?_
    refine g_if_lt (pc := 6) (tgt := 30) dc_M_out_6 rfl (fun _ => ?_) (fun hc => (hc (Int32.lt_iff_toInt_lt.mpr (show p1.toInt < 0 by omega))).elim)
    refine g_iconst (pc := 30) (v := (-1)) dc_M_out_30 rfl ?_
    refine g_iretC (pc := 31) dc_M_out_31 rfl ?_
    refine g_icmp_eq (pc := 868) (tgt := 873) dc_L_law_868 rfl (fun _ => ?_) (fun hc => absurd hc (by decide))
    refine g_iinc (pc := 873) (v := 6) dc_L_law_873 rfl (by decide) (by decide) ?_
    refine g_goto (pc := 876) (tgt := 23) dc_L_law_876 rfl ?_
    refine g_iload (pc := 23) dc_L_law_23 rfl ?_
    refine g_xload_n (pc := 25) dc_L_law_25 rfl ?_
    refine g_scriptLenV (pc := 26) (n := 6) dc_L_law_26 hL rfl ?_
    refine g_bipush (pc := 27) (v := 6) dc_L_law_27 rfl ?_
    refine g_isub (pc := 29) (v := 0) dc_L_law_29 (by decide) ?_
    refine g_icmp_gt (pc := 30) (tgt := 879) dc_L_law_30 rfl (fun _ => ?_) (fun hc => absurd hc (by decide))
    refine g_iconst (pc := 879) (v := 1) dc_L_law_879 rfl ?_
    exact g_zreturn dc_L_law_880 rfl rfl ⟨rfl, (Nat.le_of_ble_eq_true rfl), am_bz (by (repeat (first | refine am_bw rfl ?_ | refine am_bA rfl ?_ | refine am_bB rfl ?_ | refine am_bC rfl ?_)); exact am_b0 (Nat.le_of_ble_eq_true rfl))⟩
  · have hi0 : ¬ (p1.toInt < 0) := fun h9 => hc0 (Int32.lt_iff_toInt_lt.mpr h9)
    refine g_iload_n (pc := 4) dc_W_out_4 rfl ?_
    refine g_aload_n (pc := 5) dc_W_out_5 rfl ?_
    refine g_getfield (pc := 6) dc_W_out_6 fl_W_18 rfl rfl ?_
    refine g_getfield (pc := 9) dc_W_out_9 fl_W_85 rfl rfl ?_
    refine g_icmp_lt (pc := 12) (tgt := 19) dc_W_out_12 rfl (fun hc => absurd (Int32.lt_iff_toInt_lt.mp hc) (show ¬ (p1.toInt < 0) by omega)) (fun _ => ?_)
    refine g_iconst (pc := 15) (v := (-1)) dc_W_out_15 rfl ?_
    refine g_goto (pc := 16) (tgt := 32) dc_W_out_16 rfl ?_
    refine g_iretC (pc := 32) dc_W_out_32 rfl ?_
    refine g_aload_n (pc := 858) dc_L_law_858 rfl ?_
    refine g_xload_n (pc := 859) dc_L_law_859 rfl ?_
    refine g_iload (pc := 860) dc_L_law_860 rfl ?_
    refine g_iconst (pc := 862) (v := 1) dc_L_law_862 rfl ?_
    refine g_iadd (pc := 863) (v := 1) dc_L_law_863 (by decide) ?_
    refine g_scriptLoadV (pc := 864) dc_L_law_864 (by rw [hL]; exact am_vin rfl) e1 ?_
    refine g_v1 (pc := 865) (M' := mt_M_out) dc_L_law_865 mo_M_out im_M_out se_M_out ln_L_146 rfl rfl rfl (Nat.le_of_ble_eq_true rfl) (Nat.le_of_ble_eq_true rfl) ?_
    refine g_aload_n (pc := 0) dc_M_out_0 rfl ?_
    refine g_iconst (pc := 1) (v := 0) dc_M_out_1 rfl ?_
    refine g_putfield (pc := 2) dc_M_out_2 fp_M_out_1 rfl (Nat.le_of_ble_eq_true rfl) rfl rfl ?_
    refine g_iload_n (pc := 5) dc_M_out_5 rfl ?_
    refine g_if_lt (pc := 6) (tgt := 30) dc_M_out_6 rfl (fun hc => absurd (Int32.lt_iff_toInt_lt.mp hc) (show ¬ (p1.toInt < 0) by omega)) (fun _ => ?_)
    refine g_iload_n (pc := 9) dc_M_out_9 rfl ?_
    refine g_aload_n (pc := 10) dc_M_out_10 rfl ?_
    refine g_getfield (pc := 11) dc_M_out_11 fl_M_499 rfl rfl ?_
    refine g_icmp_ge (pc := 14) (tgt := 30) dc_M_out_14 rfl (fun _ => ?_) (fun hc => (hc (Int32.le_iff_toInt_le.mpr (show 0 ≤ p1.toInt by omega))).elim)
    refine g_iconst (pc := 30) (v := (-1)) dc_M_out_30 rfl ?_
    refine g_iretC (pc := 31) dc_M_out_31 rfl ?_
    refine g_icmp_eq (pc := 868) (tgt := 873) dc_L_law_868 rfl (fun _ => ?_) (fun hc => absurd hc (by decide))
    refine g_iinc (pc := 873) (v := 6) dc_L_law_873 rfl (by decide) (by decide) ?_
    refine g_goto (pc := 876) (tgt := 23) dc_L_law_876 rfl ?_
    refine g_iload (pc := 23) dc_L_law_23 rfl ?_
    refine g_xload_n (pc := 25) dc_L_law_25 rfl ?_
    refine g_scriptLenV (pc := 26) (n := 6) dc_L_law_26 hL rfl ?_
    refine g_bipush (pc := 27) (v := 6) dc_L_law_27 rfl ?_
    refine g_isub (pc := 29) (v := 0) dc_L_law_29 (by decide) ?_
    refine g_icmp_gt (pc := 30) (tgt := 879) dc_L_law_30 rfl (fun _ => ?_) (fun hc => absurd hc (by decide))
    refine g_iconst (pc := 879) (v := 1) dc_L_law_879 rfl ?_
    exact g_zreturn dc_L_law_880 rfl rfl ⟨rfl, (Nat.le_of_ble_eq_true rfl), am_bz (by (repeat (first | refine am_bw rfl ?_ | refine am_bA rfl ?_ | refine am_bB rfl ?_ | refine am_bC rfl ?_)); exact am_b0 (Nat.le_of_ble_eq_true rfl))⟩
set_option maxRecDepth 20000 in
set_option maxHeartbeats 1000000 in
theorem p1_28 {X : am_X} {p0 p1 p2 p3 p4 p5 : Int32} (hl9 : X.1.stackTraces = false) (hL : X.2.2.2.2.2.1 = 6) (e0 : X.2.2.2.2.2.2 (Int32.toNatClampNeg 0) = p0) (e1 : X.2.2.2.2.2.2 (Int32.toNatClampNeg 1) = p1) (e2 : X.2.2.2.2.2.2 (Int32.toNatClampNeg 2) = p2) (e3 : X.2.2.2.2.2.2 (Int32.toNatClampNeg 3) = p3) (e4 : X.2.2.2.2.2.2 (Int32.toNatClampNeg 4) = p4) (e5 : X.2.2.2.2.2.2 (Int32.toNatClampNeg 5) = p5) : am_G X mt_L_law 60 873 lo_0 [] hp_0 (fun r h => r = some (.int 1) ∧ h.length ≤ 600002 ∧ am_sl h ≤ 7302232) := by
  refine g_iinc (pc := 873) (v := 6) dc_L_law_873 rfl (by decide) (by decide) ?_
  refine g_goto (pc := 876) (tgt := 23) dc_L_law_876 rfl ?_
  refine g_iload (pc := 23) dc_L_law_23 rfl ?_
  refine g_xload_n (pc := 25) dc_L_law_25 rfl ?_
  refine g_scriptLenV (pc := 26) (n := 6) dc_L_law_26 hL rfl ?_
  refine g_bipush (pc := 27) (v := 6) dc_L_law_27 rfl ?_
  refine g_isub (pc := 29) (v := 0) dc_L_law_29 (by decide) ?_
  refine g_icmp_gt (pc := 30) (tgt := 879) dc_L_law_30 rfl (fun _ => ?_) (fun hc => absurd hc (by decide))
  refine g_iconst (pc := 879) (v := 1) dc_L_law_879 rfl ?_
  exact g_zreturn dc_L_law_880 rfl rfl ⟨rfl, (Nat.le_of_ble_eq_true rfl), am_bz (by (repeat (first | refine am_bw rfl ?_ | refine am_bA rfl ?_ | refine am_bB rfl ?_ | refine am_bC rfl ?_)); exact am_b0 (Nat.le_of_ble_eq_true rfl))⟩
