set_option maxRecDepth 20000 in
set_option maxHeartbeats 1000000 in
theorem p1_8 {X : am_X} {p0 p1 p2 p3 p4 p5 : Int32} (hl9 : X.1.stackTraces = false) (hL : X.2.2.2.2.2.1 = 6) (e0 : X.2.2.2.2.2.2 (Int32.toNatClampNeg 0) = p0) (e1 : X.2.2.2.2.2.2 (Int32.toNatClampNeg 1) = p1) (e2 : X.2.2.2.2.2.2 (Int32.toNatClampNeg 2) = p2) (e3 : X.2.2.2.2.2.2 (Int32.toNatClampNeg 3) = p3) (e4 : X.2.2.2.2.2.2 (Int32.toNatClampNeg 4) = p4) (e5 : X.2.2.2.2.2.2 (Int32.toNatClampNeg 5) = p5) : am_G X mt_L_law 60 410 lo_0 [] hp_0 (fun r h => r = some (.int 1) ∧ h.length ≤ 600002 ∧ am_sl h ≤ 7302232) := by
  rcases am_p4 p1 with rfl | rfl | rfl | rfl | hq | hq
  · refine g_aload_n (pc := 410) dc_L_law_410 rfl ?_
    refine g_xload_n (pc := 411) dc_L_law_411 rfl ?_
    refine g_iload (pc := 412) dc_L_law_412 rfl ?_
    refine g_iconst (pc := 414) (v := 1) dc_L_law_414 rfl ?_
    refine g_iadd (pc := 415) (v := 1) dc_L_law_415 (by decide) ?_
    refine g_scriptLoadV (pc := 416) dc_L_law_416 (by rw [hL]; exact am_vin rfl) e1 ?_
    refine g_xload_n (pc := 417) dc_L_law_417 rfl ?_
    refine g_iload (pc := 418) dc_L_law_418 rfl ?_
    refine g_iconst (pc := 420) (v := 2) dc_L_law_420 rfl ?_
    refine g_iadd (pc := 421) (v := 2) dc_L_law_421 (by decide) ?_
    refine g_scriptLoadV (pc := 422) dc_L_law_422 (by rw [hL]; exact am_vin rfl) e2 ?_
    refine g_v2 (pc := 423) (M' := mt_W_set) dc_L_law_423 mo_W_set im_W_set se_W_set ln_L_64 rfl rfl rfl (Nat.le_of_ble_eq_true rfl) (Nat.le_of_ble_eq_true rfl) ?_
    refine g_iload_n (pc := 0) dc_W_set_0 rfl ?_
    refine g_if_lt (pc := 1) (tgt := 13) dc_W_set_1 rfl (fun hc => absurd hc (by decide)) (fun _ => ?_)
    refine g_iload_n (pc := 4) dc_W_set_4 rfl ?_
    refine g_aload_n (pc := 5) dc_W_set_5 rfl ?_
    refine g_getfield (pc := 6) dc_W_set_6 fl_W_47 rfl rfl ?_
    refine g_alen (pc := 9) dc_W_set_9 rfl (by decide) ?_
    refine g_icmp_lt (pc := 10) (tgt := 15) dc_W_set_10 rfl (fun _ => ?_) (fun hc => absurd hc (by decide))
    refine g_iload_n (pc := 15) dc_W_set_15 rfl ?_
    refine g_gsLeast (pc := 16) dc_W_set_16 (am_t6 40 rfl rfl) ?_
    refine g_iload_n (pc := 19) dc_W_set_19 rfl ?_
    refine g_leastLoad (pc := 20) (v := 0) dc_W_set_20 (am_vin rfl) rfl ?_
    refine g_icmp_lt (pc := 21) (tgt := 33) dc_W_set_21 rfl (fun hc0 => ?_) (fun hc0 => ?_)
    · have hi0 : p2.toInt < 0 := Int32.lt_iff_toInt_lt.mp hc0
      refine g_iconst (pc := 33) (v := 0) dc_W_set_33 rfl ?_
      refine g_zretC (pc := 34) dc_W_set_34 rfl rfl ?_
      refine g_aload_n (pc := 426) dc_L_law_426 rfl ?_
      refine g_xload_n (pc := 427) dc_L_law_427 rfl ?_
      refine g_iload (pc := 428) dc_L_law_428 rfl ?_
      refine g_iconst (pc := 430) (v := 1) dc_L_law_430 rfl ?_
      refine g_iadd (pc := 431) (v := 1) dc_L_law_431 (by decide) ?_
      refine g_scriptLoadV (pc := 432) dc_L_law_432 (by rw [hL]; exact am_vin rfl) e1 ?_
      refine g_xload_n (pc := 433) dc_L_law_433 rfl ?_
      refine g_iload (pc := 434) dc_L_law_434 rfl ?_
      refine g_iconst (pc := 436) (v := 2) dc_L_law_436 rfl ?_
      refine g_iadd (pc := 437) (v := 2) dc_L_law_437 (by decide) ?_
      refine g_scriptLoadV (pc := 438) dc_L_law_438 (by rw [hL]; exact am_vin rfl) e2 ?_
      refine g_v2 (pc := 439) (M' := mt_M_set) dc_L_law_439 mo_M_set im_M_set se_M_set ln_L_68 rfl rfl rfl (Nat.le_of_ble_eq_true rfl) (Nat.le_of_ble_eq_true rfl) ?_
      refine g_aload_n (pc := 0) dc_M_set_0 rfl ?_
      refine g_iconst (pc := 1) (v := 0) dc_M_set_1 rfl ?_
      refine g_putfield (pc := 2) dc_M_set_2 fp_M_set_1 rfl (Nat.le_of_ble_eq_true rfl) rfl rfl ?_
      refine g_iload_n (pc := 5) dc_M_set_5 rfl ?_
      refine g_if_ne (pc := 6) (tgt := 19) dc_M_set_6 rfl (fun hc => absurd hc (by decide)) (fun _ => ?_)
      refine g_iload_n (pc := 9) dc_M_set_9 rfl ?_
      refine g_if_lt (pc := 10) (tgt := 19) dc_M_set_10 rfl (fun _ => ?_) (fun hc => (hc (Int32.lt_iff_toInt_lt.mpr (show p2.toInt < 0 by omega))).elim)
      refine g_iload_n (pc := 19) dc_M_set_19 rfl ?_
      refine g_iconst (pc := 20) (v := 1) dc_M_set_20 rfl ?_
      refine g_icmp_ne (pc := 21) (tgt := 34) dc_M_set_21 rfl (fun _ => ?_) (fun hc => absurd hc (by decide))
      refine g_iload_n (pc := 34) dc_M_set_34 rfl ?_
      refine g_iconst (pc := 35) (v := 2) dc_M_set_35 rfl ?_
      refine g_icmp_ne (pc := 36) (tgt := 50) dc_M_set_36 rfl (fun _ => ?_) (fun hc => absurd hc (by decide))
      refine g_iload_n (pc := 50) dc_M_set_50 rfl ?_
      refine g_iconst (pc := 51) (v := 3) dc_M_set_51 rfl ?_
      refine g_icmp_ne (pc := 52) (tgt := 70) dc_M_set_52 rfl (fun _ => ?_) (fun hc => absurd hc (by decide))
      refine g_iconst (pc := 70) (v := 0) dc_M_set_70 rfl ?_
      refine g_istore_n (pc := 71) dc_M_set_71 (by decide) ?_
      refine g_iload_n (pc := 72) dc_M_set_72 rfl ?_
      refine g_if_eq (pc := 73) (tgt := 83) dc_M_set_73 rfl (fun _ => ?_) (fun hc => absurd hc (by decide))
      refine g_iload_n (pc := 83) dc_M_set_83 rfl ?_
      refine g_zretC (pc := 84) dc_M_set_84 rfl rfl ?_
      refine g_icmp_eq (pc := 442) (tgt := 873) dc_L_law_442 rfl (fun _ => ?_) (fun hc => absurd hc (by decide))
      refine g_iinc (pc := 873) (v := 6) dc_L_law_873 rfl (by decide) (by decide) ?_
      refine g_goto (pc := 876) (tgt := 23) dc_L_law_876 rfl ?_
      refine g_iload (pc := 23) dc_L_law_23 rfl ?_
      refine g_xload_n (pc := 25) dc_L_law_25 rfl ?_
      refine g_scriptLenV (pc := 26) (n := 6) dc_L_law_26 hL rfl ?_
      refine g_bipush (pc := 27) (v := 6) dc_L_law_27 rfl ?_
      refine g_isub (pc := 29) (v := 0) dc_L_law_29 (by decide) ?_
      refine g_icmp_gt (pc := 30) (tgt := 879) dc_L_law_30 rfl (fun _ => ?_) (fun hc => absurd hc (by decide))
      refine g_iconst (pc := 879) (v := 1) dc_L_law_879 rfl ?_
      exact g_zreturn dc_L_law_880 rfl rfl ⟨rfl, (Nat.le_of_ble_eq_true rfl), am_bz (by (repeat (first | refine am_bw rfl ?_ | refine am_bA rfl ?_ | refine am_bB rfl ?_ | refine am_bC rfl ?_)); exact am_b0 (Nat.le_of_ble_eq_true rfl))⟩
    · have hi0 : ¬ (p2.toInt < 0) := fun h9 => hc0 (Int32.lt_iff_toInt_lt.mpr h9)
      refine g_iload_n (pc := 24) dc_W_set_24 rfl ?_
      refine g_gsMost (pc := 25) dc_W_set_25 (am_t6 42 rfl rfl) ?_
      refine g_iload_n (pc := 28) dc_W_set_28 rfl ?_
      refine g_mostLoad (pc := 29) (v := 20) dc_W_set_29 (am_vin rfl) rfl ?_
      refine g_icmp_le (pc := 30) (tgt := 35) dc_W_set_30 rfl (fun hc2 => ?_) (fun hc2 => ?_)
      · have hi2 : p2.toInt ≤ 20 := Int32.le_iff_toInt_le.mp hc2
        refine g_aload_n (pc := 35) dc_W_set_35 rfl ?_
        refine g_getfield (pc := 36) dc_W_set_36 fl_W_47 rfl rfl ?_
        refine g_iload_n (pc := 39) dc_W_set_39 rfl ?_
        refine g_iload_n (pc := 40) dc_W_set_40 rfl ?_
        refine g_iastore (pc := 41) dc_W_set_41 rfl (am_vin rfl) ?_
        refine g_iconst (pc := 42) (v := 1) dc_W_set_42 rfl ?_
        refine g_zretC (pc := 43) dc_W_set_43 rfl rfl ?_
        refine g_aload_n (pc := 426) dc_L_law_426 rfl ?_
        refine g_xload_n (pc := 427) dc_L_law_427 rfl ?_
        refine g_iload (pc := 428) dc_L_law_428 rfl ?_
        refine g_iconst (pc := 430) (v := 1) dc_L_law_430 rfl ?_
        refine g_iadd (pc := 431) (v := 1) dc_L_law_431 (by decide) ?_
        refine g_scriptLoadV (pc := 432) dc_L_law_432 (by rw [hL]; exact am_vin rfl) e1 ?_
        refine g_xload_n (pc := 433) dc_L_law_433 rfl ?_
        refine g_iload (pc := 434) dc_L_law_434 rfl ?_
        refine g_iconst (pc := 436) (v := 2) dc_L_law_436 rfl ?_
        refine g_iadd (pc := 437) (v := 2) dc_L_law_437 (by decide) ?_
        refine g_scriptLoadV (pc := 438) dc_L_law_438 (by rw [hL]; exact am_vin rfl) e2 ?_
        refine g_v2 (pc := 439) (M' := mt_M_set) dc_L_law_439 mo_M_set im_M_set se_M_set ln_L_68 rfl rfl rfl (Nat.le_of_ble_eq_true rfl) (Nat.le_of_ble_eq_true rfl) ?_
        refine g_aload_n (pc := 0) dc_M_set_0 rfl ?_
        refine g_iconst (pc := 1) (v := 0) dc_M_set_1 rfl ?_
        refine g_putfield (pc := 2) dc_M_set_2 fp_M_set_1 rfl (Nat.le_of_ble_eq_true rfl) rfl rfl ?_
        refine g_iload_n (pc := 5) dc_M_set_5 rfl ?_
        refine g_if_ne (pc := 6) (tgt := 19) dc_M_set_6 rfl (fun hc => absurd hc (by decide)) (fun _ => ?_)
        refine g_iload_n (pc := 9) dc_M_set_9 rfl ?_
        refine g_if_lt (pc := 10) (tgt := 19) dc_M_set_10 rfl (fun hc => absurd (Int32.lt_iff_toInt_lt.mp hc) (show ¬ (p2.toInt < 0) by omega)) (fun _ => ?_)
        refine g_iload_n (pc := 13) dc_M_set_13 rfl ?_
        refine g_bipush (pc := 14) (v := 20) dc_M_set_14 rfl ?_
        refine g_icmp_le (pc := 16) (tgt := 66) dc_M_set_16 rfl (fun _ => ?_) (fun hc => (hc (Int32.le_iff_toInt_le.mpr (show p2.toInt ≤ 20 by omega))).elim)
        refine g_iconst (pc := 66) (v := 1) dc_M_set_66 rfl ?_
        refine g_goto (pc := 67) (tgt := 71) dc_M_set_67 rfl ?_
        refine g_istore_n (pc := 71) dc_M_set_71 (by decide) ?_
        refine g_iload_n (pc := 72) dc_M_set_72 rfl ?_
        refine g_if_eq (pc := 73) (tgt := 83) dc_M_set_73 rfl (fun hc => absurd hc (by decide)) (fun _ => ?_)
        refine g_aload_n (pc := 76) dc_M_set_76 rfl ?_
        refine g_getfield (pc := 77) dc_M_set_77 fl_M_347 rfl rfl ?_
        refine g_iload_n (pc := 80) dc_M_set_80 rfl ?_
        refine g_iload_n (pc := 81) dc_M_set_81 rfl ?_
        refine g_iastore (pc := 82) dc_M_set_82 rfl (am_vin rfl) ?_
        refine g_iload_n (pc := 83) dc_M_set_83 rfl ?_
        refine g_zretC (pc := 84) dc_M_set_84 rfl rfl ?_
        refine g_icmp_eq (pc := 442) (tgt := 873) dc_L_law_442 rfl (fun _ => ?_) (fun hc => absurd hc (by decide))
        refine g_iinc (pc := 873) (v := 6) dc_L_law_873 rfl (by decide) (by decide) ?_
        refine g_goto (pc := 876) (tgt := 23) dc_L_law_876 rfl ?_
        refine g_iload (pc := 23) dc_L_law_23 rfl ?_
        refine g_xload_n (pc := 25) dc_L_law_25 rfl ?_
        refine g_scriptLenV (pc := 26) (n := 6) dc_L_law_26 hL rfl ?_
        refine g_bipush (pc := 27) (v := 6) dc_L_law_27 rfl ?_
        refine g_isub (pc := 29) (v := 0) dc_L_law_29 (by decide) ?_
        refine g_icmp_gt (pc := 30) (tgt := 879) dc_L_law_30 rfl (fun _ => ?_) (fun hc => absurd hc (by decide))
        refine g_iconst (pc := 879) (v := 1) dc_L_law_879 rfl ?_
        exact g_zreturn dc_L_law_880 rfl rfl ⟨rfl, (Nat.le_of_ble_eq_true rfl), am_bz (by (repeat (first | refine am_bw rfl ?_ | refine am_bA rfl ?_ | refine am_bB rfl ?_ | refine am_bC rfl ?_)); exact am_b0 (Nat.le_of_ble_eq_true rfl))⟩
      · have hi2 : ¬ (p2.toInt ≤ 20) := fun h9 => hc2 (Int32.le_iff_toInt_le.mpr h9)
        refine g_iconst (pc := 33) (v := 0) dc_W_set_33 rfl ?_
        refine g_zretC (pc := 34) dc_W_set_34 rfl rfl ?_
        refine g_aload_n (pc := 426) dc_L_law_426 rfl ?_
        refine g_xload_n (pc := 427) dc_L_law_427 rfl ?_
        refine g_iload (pc := 428) dc_L_law_428 rfl ?_
        refine g_iconst (pc := 430) (v := 1) dc_L_law_430 rfl ?_
        refine g_iadd (pc := 431) (v := 1) dc_L_law_431 (by decide) ?_
        refine g_scriptLoadV (pc := 432) dc_L_law_432 (by rw [hL]; exact am_vin rfl) e1 ?_
        refine g_xload_n (pc := 433) dc_L_law_433 rfl ?_
        refine g_iload (pc := 434) dc_L_law_434 rfl ?_
        refine g_iconst (pc := 436) (v := 2) dc_L_law_436 rfl ?_
        refine g_iadd (pc := 437) (v := 2) dc_L_law_437 (by decide) ?_
        refine g_scriptLoadV (pc := 438) dc_L_law_438 (by rw [hL]; exact am_vin rfl) e2 ?_
        refine g_v2 (pc := 439) (M' := mt_M_set) dc_L_law_439 mo_M_set im_M_set se_M_set ln_L_68 rfl rfl rfl (Nat.le_of_ble_eq_true rfl) (Nat.le_of_ble_eq_true rfl) ?_
        refine g_aload_n (pc := 0) dc_M_set_0 rfl ?_
        refine g_iconst (pc := 1) (v := 0) dc_M_set_1 rfl ?_
        refine g_putfield (pc := 2) dc_M_set_2 fp_M_set_1 rfl (Nat.le_of_ble_eq_true rfl) rfl rfl ?_
        refine g_iload_n (pc := 5) dc_M_set_5 rfl ?_
        refine g_if_ne (pc := 6) (tgt := 19) dc_M_set_6 rfl (fun hc => absurd hc (by decide)) (fun _ => ?_)
        refine g_iload_n (pc := 9) dc_M_set_9 rfl ?_
        refine g_if_lt (pc := 10) (tgt := 19) dc_M_set_10 rfl (fun hc => absurd (Int32.lt_iff_toInt_lt.mp hc) (show ¬ (p2.toInt < 0) by omega)) (fun _ => ?_)
        refine g_iload_n (pc := 13) dc_M_set_13 rfl ?_
        refine g_bipush (pc := 14) (v := 20) dc_M_set_14 rfl ?_
        refine g_icmp_le (pc := 16) (tgt := 66) dc_M_set_16 rfl (fun hc => absurd (Int32.le_iff_toInt_le.mp hc) (show ¬ (p2.toInt ≤ 20) by omega)) (fun _ => ?_)
        refine g_iload_n (pc := 19) dc_M_set_19 rfl ?_
        refine g_iconst (pc := 20) (v := 1) dc_M_set_20 rfl ?_
        refine g_icmp_ne (pc := 21) (tgt := 34) dc_M_set_21 rfl (fun _ => ?_) (fun hc => absurd hc (by decide))
        refine g_iload_n (pc := 34) dc_M_set_34 rfl ?_
        refine g_iconst (pc := 35) (v := 2) dc_M_set_35 rfl ?_
        refine g_icmp_ne (pc := 36) (tgt := 50) dc_M_set_36 rfl (fun _ => ?_) (fun hc => absurd hc (by decide))
        refine g_iload_n (pc := 50) dc_M_set_50 rfl ?_
        refine g_iconst (pc := 51) (v := 3) dc_M_set_51 rfl ?_
        refine g_icmp_ne (pc := 52) (tgt := 70) dc_M_set_52 rfl (fun _ => ?_) (fun hc => absurd hc (by decide))
        refine g_iconst (pc := 70) (v := 0) dc_M_set_70 rfl ?_
        refine g_istore_n (pc := 71) dc_M_set_71 (by decide) ?_
        refine g_iload_n (pc := 72) dc_M_set_72 rfl ?_
        refine g_if_eq (pc := 73) (tgt := 83) dc_M_set_73 rfl (fun _ => ?_) (fun hc => absurd hc (by decide))
        refine g_iload_n (pc := 83) dc_M_set_83 rfl ?_
        refine g_zretC (pc := 84) dc_M_set_84 rfl rfl ?_
        refine g_icmp_eq (pc := 442) (tgt := 873) dc_L_law_442 rfl (fun _ => ?_) (fun hc => absurd hc (by decide))
        refine g_iinc (pc := 873) (v := 6) dc_L_law_873 rfl (by decide) (by decide) ?_
        refine g_goto (pc := 876) (tgt := 23) dc_L_law_876 rfl ?_
        refine g_iload (pc := 23) dc_L_law_23 rfl ?_
        refine g_xload_n (pc := 25) dc_L_law_25 rfl ?_
        refine g_scriptLenV (pc := 26) (n := 6) dc_L_law_26 hL rfl ?_
        refine g_bipush (pc := 27) (v := 6) dc_L_law_27 rfl ?_
        refine g_isub (pc := 29) (v := 0) dc_L_law_29 (by decide) ?_
        refine g_icmp_gt (pc := 30) (tgt := 879) dc_L_law_30 rfl (fun _ => ?_) (fun hc => absurd hc (by decide))
        refine g_iconst (pc := 879) (v := 1) dc_L_law_879 rfl ?_
        exact g_zreturn dc_L_law_880 rfl rfl ⟨rfl, (Nat.le_of_ble_eq_true rfl), am_bz (by (repeat (first | refine am_bw rfl ?_ | refine am_bA rfl ?_ | refine am_bB rfl ?_ | refine am_bC rfl ?_)); exact am_b0 (Nat.le_of_ble_eq_true rfl))⟩
  · refine g_aload_n (pc := 410) dc_L_law_410 rfl ?_
    refine g_xload_n (pc := 411) dc_L_law_411 rfl ?_
    refine g_iload (pc := 412) dc_L_law_412 rfl ?_
    refine g_iconst (pc := 414) (v := 1) dc_L_law_414 rfl ?_
    refine g_iadd (pc := 415) (v := 1) dc_L_law_415 (by decide) ?_
    refine g_scriptLoadV (pc := 416) dc_L_law_416 (by rw [hL]; exact am_vin rfl) e1 ?_
    refine g_xload_n (pc := 417) dc_L_law_417 rfl ?_
    refine g_iload (pc := 418) dc_L_law_418 rfl ?_
    refine g_iconst (pc := 420) (v := 2) dc_L_law_420 rfl ?_
    refine g_iadd (pc := 421) (v := 2) dc_L_law_421 (by decide) ?_
    refine g_scriptLoadV (pc := 422) dc_L_law_422 (by rw [hL]; exact am_vin rfl) e2 ?_
    refine g_v2 (pc := 423) (M' := mt_W_set) dc_L_law_423 mo_W_set im_W_set se_W_set ln_L_64 rfl rfl rfl (Nat.le_of_ble_eq_true rfl) (Nat.le_of_ble_eq_true rfl) ?_
    refine g_iload_n (pc := 0) dc_W_set_0 rfl ?_
    refine g_if_lt (pc := 1) (tgt := 13) dc_W_set_1 rfl (fun hc => absurd hc (by decide)) (fun _ => ?_)
    refine g_iload_n (pc := 4) dc_W_set_4 rfl ?_
    refine g_aload_n (pc := 5) dc_W_set_5 rfl ?_
    refine g_getfield (pc := 6) dc_W_set_6 fl_W_47 rfl rfl ?_
    refine g_alen (pc := 9) dc_W_set_9 rfl (by decide) ?_
    refine g_icmp_lt (pc := 10) (tgt := 15) dc_W_set_10 rfl (fun _ => ?_) (fun hc => absurd hc (by decide))
    refine g_iload_n (pc := 15) dc_W_set_15 rfl ?_
    refine g_gsLeast (pc := 16) dc_W_set_16 (am_t6 40 rfl rfl) ?_
    refine g_iload_n (pc := 19) dc_W_set_19 rfl ?_
    refine g_leastLoad (pc := 20) (v := 0) dc_W_set_20 (am_vin rfl) rfl ?_
    refine g_icmp_lt (pc := 21) (tgt := 33) dc_W_set_21 rfl (fun hc0 => ?_) (fun hc0 => ?_)
    · have hi0 : p2.toInt < 0 := Int32.lt_iff_toInt_lt.mp hc0
      refine g_iconst (pc := 33) (v := 0) dc_W_set_33 rfl ?_
      refine g_zretC (pc := 34) dc_W_set_34 rfl rfl ?_
      refine g_aload_n (pc := 426) dc_L_law_426 rfl ?_
      refine g_xload_n (pc := 427) dc_L_law_427 rfl ?_
      refine g_iload (pc := 428) dc_L_law_428 rfl ?_
      refine g_iconst (pc := 430) (v := 1) dc_L_law_430 rfl ?_
      refine g_iadd (pc := 431) (v := 1) dc_L_law_431 (by decide) ?_
      refine g_scriptLoadV (pc := 432) dc_L_law_432 (by rw [hL]; exact am_vin rfl) e1 ?_
      refine g_xload_n (pc := 433) dc_L_law_433 rfl ?_
      refine g_iload (pc := 434) dc_L_law_434 rfl ?_
      refine g_iconst (pc := 436) (v := 2) dc_L_law_436 rfl ?_
      refine g_iadd (pc := 437) (v := 2) dc_L_law_437 (by decide) ?_
      refine g_scriptLoadV (pc := 438) dc_L_law_438 (by rw [hL]; exact am_vin rfl) e2 ?_
      refine g_v2 (pc := 439) (M' := mt_M_set) dc_L_law_439 mo_M_set im_M_set se_M_set ln_L_68 rfl rfl rfl (Nat.le_of_ble_eq_true rfl) (Nat.le_of_ble_eq_true rfl) ?_
      refine g_aload_n (pc := 0) dc_M_set_0 rfl ?_
      refine g_iconst (pc := 1) (v := 0) dc_M_set_1 rfl ?_
      refine g_putfield (pc := 2) dc_M_set_2 fp_M_set_1 rfl (Nat.le_of_ble_eq_true rfl) rfl rfl ?_
      refine g_iload_n (pc := 5) dc_M_set_5 rfl ?_
      refine g_if_ne (pc := 6) (tgt := 19) dc_M_set_6 rfl (fun _ => ?_) (fun hc => absurd hc (by decide))
      refine g_iload_n (pc := 19) dc_M_set_19 rfl ?_
      refine g_iconst (pc := 20) (v := 1) dc_M_set_20 rfl ?_
      refine g_icmp_ne (pc := 21) (tgt := 34) dc_M_set_21 rfl (fun hc => absurd hc (by decide)) (fun _ => ?_)
      refine g_iload_n (pc := 24) dc_M_set_24 rfl ?_
      refine g_if_lt (pc := 25) (tgt := 34) dc_M_set_25 rfl (fun _ => ?_) (fun hc => (hc (Int32.lt_iff_toInt_lt.mpr (show p2.toInt < 0 by omega))).elim)
      refine g_iload_n (pc := 34) dc_M_set_34 rfl ?_
      refine g_iconst (pc := 35) (v := 2) dc_M_set_35 rfl ?_
      refine g_icmp_ne (pc := 36) (tgt := 50) dc_M_set_36 rfl (fun _ => ?_) (fun hc => absurd hc (by decide))
      refine g_iload_n (pc := 50) dc_M_set_50 rfl ?_
      refine g_iconst (pc := 51) (v := 3) dc_M_set_51 rfl ?_
      refine g_icmp_ne (pc := 52) (tgt := 70) dc_M_set_52 rfl (fun _ => ?_) (fun hc => absurd hc (by decide))
      refine g_iconst (pc := 70) (v := 0) dc_M_set_70 rfl ?_
      refine g_istore_n (pc := 71) dc_M_set_71 (by decide) ?_
      refine g_iload_n (pc := 72) dc_M_set_72 rfl ?_
      refine g_if_eq (pc := 73) (tgt := 83) dc_M_set_73 rfl (fun _ => ?_) (fun hc => absurd hc (by decide))
      refine g_iload_n (pc := 83) dc_M_set_83 rfl ?_
      refine g_zretC (pc := 84) dc_M_set_84 rfl rfl ?_
      refine g_icmp_eq (pc := 442) (tgt := 873) dc_L_law_442 rfl (fun _ => ?_) (fun hc => absurd hc (by decide))
      refine g_iinc (pc := 873) (v := 6) dc_L_law_873 rfl (by decide) (by decide) ?_
      refine g_goto (pc := 876) (tgt := 23) dc_L_law_876 rfl ?_
      refine g_iload (pc := 23) dc_L_law_23 rfl ?_
      refine g_xload_n (pc := 25) dc_L_law_25 rfl ?_
      refine g_scriptLenV (pc := 26) (n := 6) dc_L_law_26 hL rfl ?_
      refine g_bipush (pc := 27) (v := 6) dc_L_law_27 rfl ?_
      refine g_isub (pc := 29) (v := 0) dc_L_law_29 (by decide) ?_
      refine g_icmp_gt (pc := 30) (tgt := 879) dc_L_law_30 rfl (fun _ => ?_) (fun hc => absurd hc (by decide))
      refine g_iconst (pc := 879) (v := 1) dc_L_law_879 rfl ?_
      exact g_zreturn dc_L_law_880 rfl rfl ⟨rfl, (Nat.le_of_ble_eq_true rfl), am_bz (by (repeat (first | refine am_bw rfl ?_ | refine am_bA rfl ?_ | refine am_bB rfl ?_ | refine am_bC rfl ?_)); exact am_b0 (Nat.le_of_ble_eq_true rfl))⟩
    · have hi0 : ¬ (p2.toInt < 0) := fun h9 => hc0 (Int32.lt_iff_toInt_lt.mpr h9)
      refine g_iload_n (pc := 24) dc_W_set_24 rfl ?_
      refine g_gsMost (pc := 25) dc_W_set_25 (am_t6 42 rfl rfl) ?_
      refine g_iload_n (pc := 28) dc_W_set_28 rfl ?_
      refine g_mostLoad (pc := 29) (v := 8) dc_W_set_29 (am_vin rfl) rfl ?_
      refine g_icmp_le (pc := 30) (tgt := 35) dc_W_set_30 rfl (fun hc2 => ?_) (fun hc2 => ?_)
      · have hi2 : p2.toInt ≤ 8 := Int32.le_iff_toInt_le.mp hc2
        refine g_aload_n (pc := 35) dc_W_set_35 rfl ?_
        refine g_getfield (pc := 36) dc_W_set_36 fl_W_47 rfl rfl ?_
        refine g_iload_n (pc := 39) dc_W_set_39 rfl ?_
        refine g_iload_n (pc := 40) dc_W_set_40 rfl ?_
        refine g_iastore (pc := 41) dc_W_set_41 rfl (am_vin rfl) ?_
        refine g_iconst (pc := 42) (v := 1) dc_W_set_42 rfl ?_
        refine g_zretC (pc := 43) dc_W_set_43 rfl rfl ?_
        refine g_aload_n (pc := 426) dc_L_law_426 rfl ?_
        refine g_xload_n (pc := 427) dc_L_law_427 rfl ?_
        refine g_iload (pc := 428) dc_L_law_428 rfl ?_
        refine g_iconst (pc := 430) (v := 1) dc_L_law_430 rfl ?_
        refine g_iadd (pc := 431) (v := 1) dc_L_law_431 (by decide) ?_
        refine g_scriptLoadV (pc := 432) dc_L_law_432 (by rw [hL]; exact am_vin rfl) e1 ?_
        refine g_xload_n (pc := 433) dc_L_law_433 rfl ?_
        refine g_iload (pc := 434) dc_L_law_434 rfl ?_
        refine g_iconst (pc := 436) (v := 2) dc_L_law_436 rfl ?_
        refine g_iadd (pc := 437) (v := 2) dc_L_law_437 (by decide) ?_
        refine g_scriptLoadV (pc := 438) dc_L_law_438 (by rw [hL]; exact am_vin rfl) e2 ?_
        refine g_v2 (pc := 439) (M' := mt_M_set) dc_L_law_439 mo_M_set im_M_set se_M_set ln_L_68 rfl rfl rfl (Nat.le_of_ble_eq_true rfl) (Nat.le_of_ble_eq_true rfl) ?_
        refine g_aload_n (pc := 0) dc_M_set_0 rfl ?_
        refine g_iconst (pc := 1) (v := 0) dc_M_set_1 rfl ?_
        refine g_putfield (pc := 2) dc_M_set_2 fp_M_set_1 rfl (Nat.le_of_ble_eq_true rfl) rfl rfl ?_
        refine g_iload_n (pc := 5) dc_M_set_5 rfl ?_
        refine g_if_ne (pc := 6) (tgt := 19) dc_M_set_6 rfl (fun _ => ?_) (fun hc => absurd hc (by decide))
        refine g_iload_n (pc := 19) dc_M_set_19 rfl ?_
        refine g_iconst (pc := 20) (v := 1) dc_M_set_20 rfl ?_
        refine g_icmp_ne (pc := 21) (tgt := 34) dc_M_set_21 rfl (fun hc => absurd hc (by decide)) (fun _ => ?_)
        refine g_iload_n (pc := 24) dc_M_set_24 rfl ?_
        refine g_if_lt (pc := 25) (tgt := 34) dc_M_set_25 rfl (fun hc => absurd (Int32.lt_iff_toInt_lt.mp hc) (show ¬ (p2.toInt < 0) by omega)) (fun _ => ?_)
        refine g_iload_n (pc := 28) dc_M_set_28 rfl ?_
        refine g_bipush (pc := 29) (v := 8) dc_M_set_29 rfl ?_
        refine g_icmp_le (pc := 31) (tgt := 66) dc_M_set_31 rfl (fun _ => ?_) (fun hc => (hc (Int32.le_iff_toInt_le.mpr (show p2.toInt ≤ 8 by omega))).elim)
        refine g_iconst (pc := 66) (v := 1) dc_M_set_66 rfl ?_
        refine g_goto (pc := 67) (tgt := 71) dc_M_set_67 rfl ?_
        refine g_istore_n (pc := 71) dc_M_set_71 (by decide) ?_
        refine g_iload_n (pc := 72) dc_M_set_72 rfl ?_
        refine g_if_eq (pc := 73) (tgt := 83) dc_M_set_73 rfl (fun hc => absurd hc (by decide)) (fun _ => ?_)
        refine g_aload_n (pc := 76) dc_M_set_76 rfl ?_
        refine g_getfield (pc := 77) dc_M_set_77 fl_M_347 rfl rfl ?_
        refine g_iload_n (pc := 80) dc_M_set_80 rfl ?_
        refine g_iload_n (pc := 81) dc_M_set_81 rfl ?_
        refine g_iastore (pc := 82) dc_M_set_82 rfl (am_vin rfl) ?_
        refine g_iload_n (pc := 83) dc_M_set_83 rfl ?_
        refine g_zretC (pc := 84) dc_M_set_84 rfl rfl ?_
        refine g_icmp_eq (pc := 442) (tgt := 873) dc_L_law_442 rfl (fun _ => ?_) (fun hc => absurd hc (by decide))
        refine g_iinc (pc := 873) (v := 6) dc_L_law_873 rfl (by decide) (by decide) ?_
        refine g_goto (pc := 876) (tgt := 23) dc_L_law_876 rfl ?_
        refine g_iload (pc := 23) dc_L_law_23 rfl ?_
        refine g_xload_n (pc := 25) dc_L_law_25 rfl ?_
        refine g_scriptLenV (pc := 26) (n := 6) dc_L_law_26 hL rfl ?_
        refine g_bipush (pc := 27) (v := 6) dc_L_law_27 rfl ?_
        refine g_isub (pc := 29) (v := 0) dc_L_law_29 (by decide) ?_
        refine g_icmp_gt (pc := 30) (tgt := 879) dc_L_law_30 rfl (fun _ => ?_) (fun hc => absurd hc (by decide))
        refine g_iconst (pc := 879) (v := 1) dc_L_law_879 rfl ?_
        exact g_zreturn dc_L_law_880 rfl rfl ⟨rfl, (Nat.le_of_ble_eq_true rfl), am_bz (by (repeat (first | refine am_bw rfl ?_ | refine am_bA rfl ?_ | refine am_bB rfl ?_ | refine am_bC rfl ?_)); exact am_b0 (Nat.le_of_ble_eq_true rfl))⟩
      · have hi2 : ¬ (p2.toInt ≤ 8) := fun h9 => hc2 (Int32.le_iff_toInt_le.mpr h9)
        refine g_iconst (pc := 33) (v := 0) dc_W_set_33 rfl ?_
        refine g_zretC (pc := 34) dc_W_set_34 rfl rfl ?_
        refine g_aload_n (pc := 426) dc_L_law_426 rfl ?_
        refine g_xload_n (pc := 427) dc_L_law_427 rfl ?_
        refine g_iload (pc := 428) dc_L_law_428 rfl ?_
        refine g_iconst (pc := 430) (v := 1) dc_L_law_430 rfl ?_
        refine g_iadd (pc := 431) (v := 1) dc_L_law_431 (by decide) ?_
        refine g_scriptLoadV (pc := 432) dc_L_law_432 (by rw [hL]; exact am_vin rfl) e1 ?_
        refine g_xload_n (pc := 433) dc_L_law_433 rfl ?_
        refine g_iload (pc := 434) dc_L_law_434 rfl ?_
        refine g_iconst (pc := 436) (v := 2) dc_L_law_436 rfl ?_
        refine g_iadd (pc := 437) (v := 2) dc_L_law_437 (by decide) ?_
        refine g_scriptLoadV (pc := 438) dc_L_law_438 (by rw [hL]; exact am_vin rfl) e2 ?_
        refine g_v2 (pc := 439) (M' := mt_M_set) dc_L_law_439 mo_M_set im_M_set se_M_set ln_L_68 rfl rfl rfl (Nat.le_of_ble_eq_true rfl) (Nat.le_of_ble_eq_true rfl) ?_
        refine g_aload_n (pc := 0) dc_M_set_0 rfl ?_
        refine g_iconst (pc := 1) (v := 0) dc_M_set_1 rfl ?_
        refine g_putfield (pc := 2) dc_M_set_2 fp_M_set_1 rfl (Nat.le_of_ble_eq_true rfl) rfl rfl ?_
        refine g_iload_n (pc := 5) dc_M_set_5 rfl ?_
        refine g_if_ne (pc := 6) (tgt := 19) dc_M_set_6 rfl (fun _ => ?_) (fun hc => absurd hc (by decide))
        refine g_iload_n (pc := 19) dc_M_set_19 rfl ?_
        refine g_iconst (pc := 20) (v := 1) dc_M_set_20 rfl ?_
        refine g_icmp_ne (pc := 21) (tgt := 34) dc_M_set_21 rfl (fun hc => absurd hc (by decide)) (fun _ => ?_)
        refine g_iload_n (pc := 24) dc_M_set_24 rfl ?_
        refine g_if_lt (pc := 25) (tgt := 34) dc_M_set_25 rfl (fun hc => absurd (Int32.lt_iff_toInt_lt.mp hc) (show ¬ (p2.toInt < 0) by omega)) (fun _ => ?_)
        refine g_iload_n (pc := 28) dc_M_set_28 rfl ?_
        refine g_bipush (pc := 29) (v := 8) dc_M_set_29 rfl ?_
        refine g_icmp_le (pc := 31) (tgt := 66) dc_M_set_31 rfl (fun hc => absurd (Int32.le_iff_toInt_le.mp hc) (show ¬ (p2.toInt ≤ 8) by omega)) (fun _ => ?_)
        refine g_iload_n (pc := 34) dc_M_set_34 rfl ?_
        refine g_iconst (pc := 35) (v := 2) dc_M_set_35 rfl ?_
        refine g_icmp_ne (pc := 36) (tgt := 50) dc_M_set_36 rfl (fun _ => ?_) (fun hc => absurd hc (by decide))
        refine g_iload_n (pc := 50) dc_M_set_50 rfl ?_
        refine g_iconst (pc := 51) (v := 3) dc_M_set_51 rfl ?_
        refine g_icmp_ne (pc := 52) (tgt := 70) dc_M_set_52 rfl (fun _ => ?_) (fun hc => absurd hc (by decide))
        refine g_iconst (pc := 70) (v := 0) dc_M_set_70 rfl ?_
        refine g_istore_n (pc := 71) dc_M_set_71 (by decide) ?_
        refine g_iload_n (pc := 72) dc_M_set_72 rfl ?_
        refine g_if_eq (pc := 73) (tgt := 83) dc_M_set_73 rfl (fun _ => ?_) (fun hc => absurd hc (by decide))
        refine g_iload_n (pc := 83) dc_M_set_83 rfl ?_
        refine g_zretC (pc := 84) dc_M_set_84 rfl rfl ?_
        refine g_icmp_eq (pc := 442) (tgt := 873) dc_L_law_442 rfl (fun _ => ?_) (fun hc => absurd hc (by decide))
        refine g_iinc (pc := 873) (v := 6) dc_L_law_873 rfl (by decide) (by decide) ?_
        refine g_goto (pc := 876) (tgt := 23) dc_L_law_876 rfl ?_
        refine g_iload (pc := 23) dc_L_law_23 rfl ?_
        refine g_xload_n (pc := 25) dc_L_law_25 rfl ?_
        refine g_scriptLenV (pc := 26) (n := 6) dc_L_law_26 hL rfl ?_
        refine g_bipush (pc := 27) (v := 6) dc_L_law_27 rfl ?_
        refine g_isub (pc := 29) (v := 0) dc_L_law_29 (by decide) ?_
        refine g_icmp_gt (pc := 30) (tgt := 879) dc_L_law_30 rfl (fun _ => ?_) (fun hc => absurd hc (by decide))
        refine g_iconst (pc := 879) (v := 1) dc_L_law_879 rfl ?_
        exact g_zreturn dc_L_law_880 rfl rfl ⟨rfl, (Nat.le_of_ble_eq_true rfl), am_bz (by (repeat (first | refine am_bw rfl ?_ | refine am_bA rfl ?_ | refine am_bB rfl ?_ | refine am_bC rfl ?_)); exact am_b0 (Nat.le_of_ble_eq_true rfl))⟩
  · refine g_aload_n (pc := 410) dc_L_law_410 rfl ?_
    refine g_xload_n (pc := 411) dc_L_law_411 rfl ?_
    refine g_iload (pc := 412) dc_L_law_412 rfl ?_
    refine g_iconst (pc := 414) (v := 1) dc_L_law_414 rfl ?_
    refine g_iadd (pc := 415) (v := 1) dc_L_law_415 (by decide) ?_
    refine g_scriptLoadV (pc := 416) dc_L_law_416 (by rw [hL]; exact am_vin rfl) e1 ?_
    refine g_xload_n (pc := 417) dc_L_law_417 rfl ?_
    refine g_iload (pc := 418) dc_L_law_418 rfl ?_
    refine g_iconst (pc := 420) (v := 2) dc_L_law_420 rfl ?_
    refine g_iadd (pc := 421) (v := 2) dc_L_law_421 (by decide) ?_
    refine g_scriptLoadV (pc := 422) dc_L_law_422 (by rw [hL]; exact am_vin rfl) e2 ?_
    refine g_v2 (pc := 423) (M' := mt_W_set) dc_L_law_423 mo_W_set im_W_set se_W_set ln_L_64 rfl rfl rfl (Nat.le_of_ble_eq_true rfl) (Nat.le_of_ble_eq_true rfl) ?_
    refine g_iload_n (pc := 0) dc_W_set_0 rfl ?_
    refine g_if_lt (pc := 1) (tgt := 13) dc_W_set_1 rfl (fun hc => absurd hc (by decide)) (fun _ => ?_)
    refine g_iload_n (pc := 4) dc_W_set_4 rfl ?_
    refine g_aload_n (pc := 5) dc_W_set_5 rfl ?_
    refine g_getfield (pc := 6) dc_W_set_6 fl_W_47 rfl rfl ?_
    refine g_alen (pc := 9) dc_W_set_9 rfl (by decide) ?_
    refine g_icmp_lt (pc := 10) (tgt := 15) dc_W_set_10 rfl (fun _ => ?_) (fun hc => absurd hc (by decide))
    refine g_iload_n (pc := 15) dc_W_set_15 rfl ?_
    refine g_gsLeast (pc := 16) dc_W_set_16 (am_t6 40 rfl rfl) ?_
    refine g_iload_n (pc := 19) dc_W_set_19 rfl ?_
    refine g_leastLoad (pc := 20) (v := 0) dc_W_set_20 (am_vin rfl) rfl ?_
    refine g_icmp_lt (pc := 21) (tgt := 33) dc_W_set_21 rfl (fun hc0 => ?_) (fun hc0 => ?_)
    · have hi0 : p2.toInt < 0 := Int32.lt_iff_toInt_lt.mp hc0
      refine g_iconst (pc := 33) (v := 0) dc_W_set_33 rfl ?_
      refine g_zretC (pc := 34) dc_W_set_34 rfl rfl ?_
      refine g_aload_n (pc := 426) dc_L_law_426 rfl ?_
      refine g_xload_n (pc := 427) dc_L_law_427 rfl ?_
      refine g_iload (pc := 428) dc_L_law_428 rfl ?_
      refine g_iconst (pc := 430) (v := 1) dc_L_law_430 rfl ?_
      refine g_iadd (pc := 431) (v := 1) dc_L_law_431 (by decide) ?_
      refine g_scriptLoadV (pc := 432) dc_L_law_432 (by rw [hL]; exact am_vin rfl) e1 ?_
      refine g_xload_n (pc := 433) dc_L_law_433 rfl ?_
      refine g_iload (pc := 434) dc_L_law_434 rfl ?_
      refine g_iconst (pc := 436) (v := 2) dc_L_law_436 rfl ?_
      refine g_iadd (pc := 437) (v := 2) dc_L_law_437 (by decide) ?_
      refine g_scriptLoadV (pc := 438) dc_L_law_438 (by rw [hL]; exact am_vin rfl) e2 ?_
      refine g_v2 (pc := 439) (M' := mt_M_set) dc_L_law_439 mo_M_set im_M_set se_M_set ln_L_68 rfl rfl rfl (Nat.le_of_ble_eq_true rfl) (Nat.le_of_ble_eq_true rfl) ?_
      refine g_aload_n (pc := 0) dc_M_set_0 rfl ?_
      refine g_iconst (pc := 1) (v := 0) dc_M_set_1 rfl ?_
      refine g_putfield (pc := 2) dc_M_set_2 fp_M_set_1 rfl (Nat.le_of_ble_eq_true rfl) rfl rfl ?_
      refine g_iload_n (pc := 5) dc_M_set_5 rfl ?_
      refine g_if_ne (pc := 6) (tgt := 19) dc_M_set_6 rfl (fun _ => ?_) (fun hc => absurd hc (by decide))
      refine g_iload_n (pc := 19) dc_M_set_19 rfl ?_
      refine g_iconst (pc := 20) (v := 1) dc_M_set_20 rfl ?_
      refine g_icmp_ne (pc := 21) (tgt := 34) dc_M_set_21 rfl (fun _ => ?_) (fun hc => absurd hc (by decide))
      refine g_iload_n (pc := 34) dc_M_set_34 rfl ?_
      refine g_iconst (pc := 35) (v := 2) dc_M_set_35 rfl ?_
      refine g_icmp_ne (pc := 36) (tgt := 50) dc_M_set_36 rfl (fun hc => absurd hc (by decide)) (fun _ => ?_)
      refine g_iload_n (pc := 39) dc_M_set_39 rfl ?_
      refine g_if_lt (pc := 40) (tgt := 50) dc_M_set_40 rfl (fun _ => ?_) (fun hc => (hc (Int32.lt_iff_toInt_lt.mpr (show p2.toInt < 0 by omega))).elim)
      refine g_iload_n (pc := 50) dc_M_set_50 rfl ?_
      refine g_iconst (pc := 51) (v := 3) dc_M_set_51 rfl ?_
      refine g_icmp_ne (pc := 52) (tgt := 70) dc_M_set_52 rfl (fun _ => ?_) (fun hc => absurd hc (by decide))
      refine g_iconst (pc := 70) (v := 0) dc_M_set_70 rfl ?_
      refine g_istore_n (pc := 71) dc_M_set_71 (by decide) ?_
      refine g_iload_n (pc := 72) dc_M_set_72 rfl ?_
      refine g_if_eq (pc := 73) (tgt := 83) dc_M_set_73 rfl (fun _ => ?_) (fun hc => absurd hc (by decide))
      refine g_iload_n (pc := 83) dc_M_set_83 rfl ?_
      refine g_zretC (pc := 84) dc_M_set_84 rfl rfl ?_
      refine g_icmp_eq (pc := 442) (tgt := 873) dc_L_law_442 rfl (fun _ => ?_) (fun hc => absurd hc (by decide))
      refine g_iinc (pc := 873) (v := 6) dc_L_law_873 rfl (by decide) (by decide) ?_
      refine g_goto (pc := 876) (tgt := 23) dc_L_law_876 rfl ?_
      refine g_iload (pc := 23) dc_L_law_23 rfl ?_
      refine g_xload_n (pc := 25) dc_L_law_25 rfl ?_
      refine g_scriptLenV (pc := 26) (n := 6) dc_L_law_26 hL rfl ?_
      refine g_bipush (pc := 27) (v := 6) dc_L_law_27 rfl ?_
      refine g_isub (pc := 29) (v := 0) dc_L_law_29 (by decide) ?_
      refine g_icmp_gt (pc := 30) (tgt := 879) dc_L_law_30 rfl (fun _ => ?_) (fun hc => absurd hc (by decide))
      refine g_iconst (pc := 879) (v := 1) dc_L_law_879 rfl ?_
      exact g_zreturn dc_L_law_880 rfl rfl ⟨rfl, (Nat.le_of_ble_eq_true rfl), am_bz (by (repeat (first | refine am_bw rfl ?_ | refine am_bA rfl ?_ | refine am_bB rfl ?_ | refine am_bC rfl ?_)); exact am_b0 (Nat.le_of_ble_eq_true rfl))⟩
    · have hi0 : ¬ (p2.toInt < 0) := fun h9 => hc0 (Int32.lt_iff_toInt_lt.mpr h9)
      refine g_iload_n (pc := 24) dc_W_set_24 rfl ?_
      refine g_gsMost (pc := 25) dc_W_set_25 (am_t6 42 rfl rfl) ?_
      refine g_iload_n (pc := 28) dc_W_set_28 rfl ?_
      refine g_mostLoad (pc := 29) (v := 1000) dc_W_set_29 (am_vin rfl) rfl ?_
      refine g_icmp_le (pc := 30) (tgt := 35) dc_W_set_30 rfl (fun hc2 => ?_) (fun hc2 => ?_)
      · have hi2 : p2.toInt ≤ 1000 := Int32.le_iff_toInt_le.mp hc2
        refine g_aload_n (pc := 35) dc_W_set_35 rfl ?_
        refine g_getfield (pc := 36) dc_W_set_36 fl_W_47 rfl rfl ?_
        refine g_iload_n (pc := 39) dc_W_set_39 rfl ?_
        refine g_iload_n (pc := 40) dc_W_set_40 rfl ?_
        refine g_iastore (pc := 41) dc_W_set_41 rfl (am_vin rfl) ?_
        refine g_iconst (pc := 42) (v := 1) dc_W_set_42 rfl ?_
        refine g_zretC (pc := 43) dc_W_set_43 rfl rfl ?_
        refine g_aload_n (pc := 426) dc_L_law_426 rfl ?_
        refine g_xload_n (pc := 427) dc_L_law_427 rfl ?_
        refine g_iload (pc := 428) dc_L_law_428 rfl ?_
        refine g_iconst (pc := 430) (v := 1) dc_L_law_430 rfl ?_
        refine g_iadd (pc := 431) (v := 1) dc_L_law_431 (by decide) ?_
        refine g_scriptLoadV (pc := 432) dc_L_law_432 (by rw [hL]; exact am_vin rfl) e1 ?_
        refine g_xload_n (pc := 433) dc_L_law_433 rfl ?_
        refine g_iload (pc := 434) dc_L_law_434 rfl ?_
        refine g_iconst (pc := 436) (v := 2) dc_L_law_436 rfl ?_
        refine g_iadd (pc := 437) (v := 2) dc_L_law_437 (by decide) ?_
        refine g_scriptLoadV (pc := 438) dc_L_law_438 (by rw [hL]; exact am_vin rfl) e2 ?_
        refine g_v2 (pc := 439) (M' := mt_M_set) dc_L_law_439 mo_M_set im_M_set se_M_set ln_L_68 rfl rfl rfl (Nat.le_of_ble_eq_true rfl) (Nat.le_of_ble_eq_true rfl) ?_
        refine g_aload_n (pc := 0) dc_M_set_0 rfl ?_
        refine g_iconst (pc := 1) (v := 0) dc_M_set_1 rfl ?_
        refine g_putfield (pc := 2) dc_M_set_2 fp_M_set_1 rfl (Nat.le_of_ble_eq_true rfl) rfl rfl ?_
        refine g_iload_n (pc := 5) dc_M_set_5 rfl ?_
        refine g_if_ne (pc := 6) (tgt := 19) dc_M_set_6 rfl (fun _ => ?_) (fun hc => absurd hc (by decide))
        refine g_iload_n (pc := 19) dc_M_set_19 rfl ?_
        refine g_iconst (pc := 20) (v := 1) dc_M_set_20 rfl ?_
        refine g_icmp_ne (pc := 21) (tgt := 34) dc_M_set_21 rfl (fun _ => ?_) (fun hc => absurd hc (by decide))
        refine g_iload_n (pc := 34) dc_M_set_34 rfl ?_
        refine g_iconst (pc := 35) (v := 2) dc_M_set_35 rfl ?_
        refine g_icmp_ne (pc := 36) (tgt := 50) dc_M_set_36 rfl (fun hc => absurd hc (by decide)) (fun _ => ?_)
        refine g_iload_n (pc := 39) dc_M_set_39 rfl ?_
        refine g_if_lt (pc := 40) (tgt := 50) dc_M_set_40 rfl (fun hc => absurd (Int32.lt_iff_toInt_lt.mp hc) (show ¬ (p2.toInt < 0) by omega)) (fun _ => ?_)
        refine g_iload_n (pc := 43) dc_M_set_43 rfl ?_
        refine g_sipush (pc := 44) (v := 1000) dc_M_set_44 rfl ?_
        refine g_icmp_le (pc := 47) (tgt := 66) dc_M_set_47 rfl (fun _ => ?_) (fun hc => (hc (Int32.le_iff_toInt_le.mpr (show p2.toInt ≤ 1000 by omega))).elim)
        refine g_iconst (pc := 66) (v := 1) dc_M_set_66 rfl ?_
        refine g_goto (pc := 67) (tgt := 71) dc_M_set_67 rfl ?_
        refine g_istore_n (pc := 71) dc_M_set_71 (by decide) ?_
        refine g_iload_n (pc := 72) dc_M_set_72 rfl ?_
        refine g_if_eq (pc := 73) (tgt := 83) dc_M_set_73 rfl (fun hc => absurd hc (by decide)) (fun _ => ?_)
        refine g_aload_n (pc := 76) dc_M_set_76 rfl ?_
        refine g_getfield (pc := 77) dc_M_set_77 fl_M_347 rfl rfl ?_
        refine g_iload_n (pc := 80) dc_M_set_80 rfl ?_
        refine g_iload_n (pc := 81) dc_M_set_81 rfl ?_
        refine g_iastore (pc := 82) dc_M_set_82 rfl (am_vin rfl) ?_
        refine g_iload_n (pc := 83) dc_M_set_83 rfl ?_
        refine g_zretC (pc := 84) dc_M_set_84 rfl rfl ?_
        refine g_icmp_eq (pc := 442) (tgt := 873) dc_L_law_442 rfl (fun _ => ?_) (fun hc => absurd hc (by decide))
        refine g_iinc (pc := 873) (v := 6) dc_L_law_873 rfl (by decide) (by decide) ?_
        refine g_goto (pc := 876) (tgt := 23) dc_L_law_876 rfl ?_
        refine g_iload (pc := 23) dc_L_law_23 rfl ?_
        refine g_xload_n (pc := 25) dc_L_law_25 rfl ?_
        refine g_scriptLenV (pc := 26) (n := 6) dc_L_law_26 hL rfl ?_
        refine g_bipush (pc := 27) (v := 6) dc_L_law_27 rfl ?_
        refine g_isub (pc := 29) (v := 0) dc_L_law_29 (by decide) ?_
        refine g_icmp_gt (pc := 30) (tgt := 879) dc_L_law_30 rfl (fun _ => ?_) (fun hc => absurd hc (by decide))
        refine g_iconst (pc := 879) (v := 1) dc_L_law_879 rfl ?_
        exact g_zreturn dc_L_law_880 rfl rfl ⟨rfl, (Nat.le_of_ble_eq_true rfl), am_bz (by (repeat (first | refine am_bw rfl ?_ | refine am_bA rfl ?_ | refine am_bB rfl ?_ | refine am_bC rfl ?_)); exact am_b0 (Nat.le_of_ble_eq_true rfl))⟩
      · have hi2 : ¬ (p2.toInt ≤ 1000) := fun h9 => hc2 (Int32.le_iff_toInt_le.mpr h9)
        refine g_iconst (pc := 33) (v := 0) dc_W_set_33 rfl ?_
        refine g_zretC (pc := 34) dc_W_set_34 rfl rfl ?_
        refine g_aload_n (pc := 426) dc_L_law_426 rfl ?_
        refine g_xload_n (pc := 427) dc_L_law_427 rfl ?_
        refine g_iload (pc := 428) dc_L_law_428 rfl ?_
        refine g_iconst (pc := 430) (v := 1) dc_L_law_430 rfl ?_
        refine g_iadd (pc := 431) (v := 1) dc_L_law_431 (by decide) ?_
        refine g_scriptLoadV (pc := 432) dc_L_law_432 (by rw [hL]; exact am_vin rfl) e1 ?_
        refine g_xload_n (pc := 433) dc_L_law_433 rfl ?_
        refine g_iload (pc := 434) dc_L_law_434 rfl ?_
        refine g_iconst (pc := 436) (v := 2) dc_L_law_436 rfl ?_
        refine g_iadd (pc := 437) (v := 2) dc_L_law_437 (by decide) ?_
        refine g_scriptLoadV (pc := 438) dc_L_law_438 (by rw [hL]; exact am_vin rfl) e2 ?_
        refine g_v2 (pc := 439) (M' := mt_M_set) dc_L_law_439 mo_M_set im_M_set se_M_set ln_L_68 rfl rfl rfl (Nat.le_of_ble_eq_true rfl) (Nat.le_of_ble_eq_true rfl) ?_
        refine g_aload_n (pc := 0) dc_M_set_0 rfl ?_
        refine g_iconst (pc := 1) (v := 0) dc_M_set_1 rfl ?_
        refine g_putfield (pc := 2) dc_M_set_2 fp_M_set_1 rfl (Nat.le_of_ble_eq_true rfl) rfl rfl ?_
        refine g_iload_n (pc := 5) dc_M_set_5 rfl ?_
        refine g_if_ne (pc := 6) (tgt := 19) dc_M_set_6 rfl (fun _ => ?_) (fun hc => absurd hc (by decide))
        refine g_iload_n (pc := 19) dc_M_set_19 rfl ?_
        refine g_iconst (pc := 20) (v := 1) dc_M_set_20 rfl ?_
        refine g_icmp_ne (pc := 21) (tgt := 34) dc_M_set_21 rfl (fun _ => ?_) (fun hc => absurd hc (by decide))
        refine g_iload_n (pc := 34) dc_M_set_34 rfl ?_
        refine g_iconst (pc := 35) (v := 2) dc_M_set_35 rfl ?_
        refine g_icmp_ne (pc := 36) (tgt := 50) dc_M_set_36 rfl (fun hc => absurd hc (by decide)) (fun _ => ?_)
        refine g_iload_n (pc := 39) dc_M_set_39 rfl ?_
        refine g_if_lt (pc := 40) (tgt := 50) dc_M_set_40 rfl (fun hc => absurd (Int32.lt_iff_toInt_lt.mp hc) (show ¬ (p2.toInt < 0) by omega)) (fun _ => ?_)
        refine g_iload_n (pc := 43) dc_M_set_43 rfl ?_
        refine g_sipush (pc := 44) (v := 1000) dc_M_set_44 rfl ?_
        refine g_icmp_le (pc := 47) (tgt := 66) dc_M_set_47 rfl (fun hc => absurd (Int32.le_iff_toInt_le.mp hc) (show ¬ (p2.toInt ≤ 1000) by omega)) (fun _ => ?_)
        refine g_iload_n (pc := 50) dc_M_set_50 rfl ?_
        refine g_iconst (pc := 51) (v := 3) dc_M_set_51 rfl ?_
        refine g_icmp_ne (pc := 52) (tgt := 70) dc_M_set_52 rfl (fun _ => ?_) (fun hc => absurd hc (by decide))
        refine g_iconst (pc := 70) (v := 0) dc_M_set_70 rfl ?_
        refine g_istore_n (pc := 71) dc_M_set_71 (by decide) ?_
        refine g_iload_n (pc := 72) dc_M_set_72 rfl ?_
        refine g_if_eq (pc := 73) (tgt := 83) dc_M_set_73 rfl (fun _ => ?_) (fun hc => absurd hc (by decide))
        refine g_iload_n (pc := 83) dc_M_set_83 rfl ?_
        refine g_zretC (pc := 84) dc_M_set_84 rfl rfl ?_
        refine g_icmp_eq (pc := 442) (tgt := 873) dc_L_law_442 rfl (fun _ => ?_) (fun hc => absurd hc (by decide))
        refine g_iinc (pc := 873) (v := 6) dc_L_law_873 rfl (by decide) (by decide) ?_
        refine g_goto (pc := 876) (tgt := 23) dc_L_law_876 rfl ?_
        refine g_iload (pc := 23) dc_L_law_23 rfl ?_
        refine g_xload_n (pc := 25) dc_L_law_25 rfl ?_
        refine g_scriptLenV (pc := 26) (n := 6) dc_L_law_26 hL rfl ?_
        refine g_bipush (pc := 27) (v := 6) dc_L_law_27 rfl ?_
        refine g_isub (pc := 29) (v := 0) dc_L_law_29 (by decide) ?_
        refine g_icmp_gt (pc := 30) (tgt := 879) dc_L_law_30 rfl (fun _ => ?_) (fun hc => absurd hc (by decide))
        refine g_iconst (pc := 879) (v := 1) dc_L_law_879 rfl ?_
        exact g_zreturn dc_L_law_880 rfl rfl ⟨rfl, (Nat.le_of_ble_eq_true rfl), am_bz (by (repeat (first | refine am_bw rfl ?_ | refine am_bA rfl ?_ | refine am_bB rfl ?_ | refine am_bC rfl ?_)); exact am_b0 (Nat.le_of_ble_eq_true rfl))⟩
  · refine g_aload_n (pc := 410) dc_L_law_410 rfl ?_
    refine g_xload_n (pc := 411) dc_L_law_411 rfl ?_
    refine g_iload (pc := 412) dc_L_law_412 rfl ?_
    refine g_iconst (pc := 414) (v := 1) dc_L_law_414 rfl ?_
    refine g_iadd (pc := 415) (v := 1) dc_L_law_415 (by decide) ?_
    refine g_scriptLoadV (pc := 416) dc_L_law_416 (by rw [hL]; exact am_vin rfl) e1 ?_
    refine g_xload_n (pc := 417) dc_L_law_417 rfl ?_
    refine g_iload (pc := 418) dc_L_law_418 rfl ?_
    refine g_iconst (pc := 420) (v := 2) dc_L_law_420 rfl ?_
    refine g_iadd (pc := 421) (v := 2) dc_L_law_421 (by decide) ?_
    refine g_scriptLoadV (pc := 422) dc_L_law_422 (by rw [hL]; exact am_vin rfl) e2 ?_
    refine g_v2 (pc := 423) (M' := mt_W_set) dc_L_law_423 mo_W_set im_W_set se_W_set ln_L_64 rfl rfl rfl (Nat.le_of_ble_eq_true rfl) (Nat.le_of_ble_eq_true rfl) ?_
    refine g_iload_n (pc := 0) dc_W_set_0 rfl ?_
    refine g_if_lt (pc := 1) (tgt := 13) dc_W_set_1 rfl (fun hc => absurd hc (by decide)) (fun _ => ?_)
    refine g_iload_n (pc := 4) dc_W_set_4 rfl ?_
    refine g_aload_n (pc := 5) dc_W_set_5 rfl ?_
    refine g_getfield (pc := 6) dc_W_set_6 fl_W_47 rfl rfl ?_
    refine g_alen (pc := 9) dc_W_set_9 rfl (by decide) ?_
    refine g_icmp_lt (pc := 10) (tgt := 15) dc_W_set_10 rfl (fun _ => ?_) (fun hc => absurd hc (by decide))
    refine g_iload_n (pc := 15) dc_W_set_15 rfl ?_
    refine g_gsLeast (pc := 16) dc_W_set_16 (am_t6 40 rfl rfl) ?_
    refine g_iload_n (pc := 19) dc_W_set_19 rfl ?_
    refine g_leastLoad (pc := 20) (v := 1) dc_W_set_20 (am_vin rfl) rfl ?_
    refine g_icmp_lt (pc := 21) (tgt := 33) dc_W_set_21 rfl (fun hc0 => ?_) (fun hc0 => ?_)
    · have hi0 : p2.toInt < 1 := Int32.lt_iff_toInt_lt.mp hc0
      refine g_iconst (pc := 33) (v := 0) dc_W_set_33 rfl ?_
      refine g_zretC (pc := 34) dc_W_set_34 rfl rfl ?_
      refine g_aload_n (pc := 426) dc_L_law_426 rfl ?_
      refine g_xload_n (pc := 427) dc_L_law_427 rfl ?_
      refine g_iload (pc := 428) dc_L_law_428 rfl ?_
      refine g_iconst (pc := 430) (v := 1) dc_L_law_430 rfl ?_
      refine g_iadd (pc := 431) (v := 1) dc_L_law_431 (by decide) ?_
      refine g_scriptLoadV (pc := 432) dc_L_law_432 (by rw [hL]; exact am_vin rfl) e1 ?_
      refine g_xload_n (pc := 433) dc_L_law_433 rfl ?_
      refine g_iload (pc := 434) dc_L_law_434 rfl ?_
      refine g_iconst (pc := 436) (v := 2) dc_L_law_436 rfl ?_
      refine g_iadd (pc := 437) (v := 2) dc_L_law_437 (by decide) ?_
      refine g_scriptLoadV (pc := 438) dc_L_law_438 (by rw [hL]; exact am_vin rfl) e2 ?_
      refine g_v2 (pc := 439) (M' := mt_M_set) dc_L_law_439 mo_M_set im_M_set se_M_set ln_L_68 rfl rfl rfl (Nat.le_of_ble_eq_true rfl) (Nat.le_of_ble_eq_true rfl) ?_
      refine g_aload_n (pc := 0) dc_M_set_0 rfl ?_
      refine g_iconst (pc := 1) (v := 0) dc_M_set_1 rfl ?_
      refine g_putfield (pc := 2) dc_M_set_2 fp_M_set_1 rfl (Nat.le_of_ble_eq_true rfl) rfl rfl ?_
      refine g_iload_n (pc := 5) dc_M_set_5 rfl ?_
      refine g_if_ne (pc := 6) (tgt := 19) dc_M_set_6 rfl (fun _ => ?_) (fun hc => absurd hc (by decide))
      refine g_iload_n (pc := 19) dc_M_set_19 rfl ?_
      refine g_iconst (pc := 20) (v := 1) dc_M_set_20 rfl ?_
      refine g_icmp_ne (pc := 21) (tgt := 34) dc_M_set_21 rfl (fun _ => ?_) (fun hc => absurd hc (by decide))
      refine g_iload_n (pc := 34) dc_M_set_34 rfl ?_
      refine g_iconst (pc := 35) (v := 2) dc_M_set_35 rfl ?_
      refine g_icmp_ne (pc := 36) (tgt := 50) dc_M_set_36 rfl (fun _ => ?_) (fun hc => absurd hc (by decide))
      refine g_iload_n (pc := 50) dc_M_set_50 rfl ?_
      refine g_iconst (pc := 51) (v := 3) dc_M_set_51 rfl ?_
      refine g_icmp_ne (pc := 52) (tgt := 70) dc_M_set_52 rfl (fun hc => absurd hc (by decide)) (fun _ => ?_)
      refine g_iload_n (pc := 55) dc_M_set_55 rfl ?_
      refine g_iconst (pc := 56) (v := 1) dc_M_set_56 rfl ?_
      refine g_icmp_lt (pc := 57) (tgt := 70) dc_M_set_57 rfl (fun _ => ?_) (fun hc => (hc (Int32.lt_iff_toInt_lt.mpr (show p2.toInt < 1 by omega))).elim)
      refine g_iconst (pc := 70) (v := 0) dc_M_set_70 rfl ?_
      refine g_istore_n (pc := 71) dc_M_set_71 (by decide) ?_
      refine g_iload_n (pc := 72) dc_M_set_72 rfl ?_
      refine g_if_eq (pc := 73) (tgt := 83) dc_M_set_73 rfl (fun _ => ?_) (fun hc => absurd hc (by decide))
      refine g_iload_n (pc := 83) dc_M_set_83 rfl ?_
      refine g_zretC (pc := 84) dc_M_set_84 rfl rfl ?_
      refine g_icmp_eq (pc := 442) (tgt := 873) dc_L_law_442 rfl (fun _ => ?_) (fun hc => absurd hc (by decide))
      refine g_iinc (pc := 873) (v := 6) dc_L_law_873 rfl (by decide) (by decide) ?_
      refine g_goto (pc := 876) (tgt := 23) dc_L_law_876 rfl ?_
      refine g_iload (pc := 23) dc_L_law_23 rfl ?_
      refine g_xload_n (pc := 25) dc_L_law_25 rfl ?_
      refine g_scriptLenV (pc := 26) (n := 6) dc_L_law_26 hL rfl ?_
      refine g_bipush (pc := 27) (v := 6) dc_L_law_27 rfl ?_
      refine g_isub (pc := 29) (v := 0) dc_L_law_29 (by decide) ?_
      refine g_icmp_gt (pc := 30) (tgt := 879) dc_L_law_30 rfl (fun _ => ?_) (fun hc => absurd hc (by decide))
      refine g_iconst (pc := 879) (v := 1) dc_L_law_879 rfl ?_
      exact g_zreturn dc_L_law_880 rfl rfl ⟨rfl, (Nat.le_of_ble_eq_true rfl), am_bz (by (repeat (first | refine am_bw rfl ?_ | refine am_bA rfl ?_ | refine am_bB rfl ?_ | refine am_bC rfl ?_)); exact am_b0 (Nat.le_of_ble_eq_true rfl))⟩
    · have hi0 : ¬ (p2.toInt < 1) := fun h9 => hc0 (Int32.lt_iff_toInt_lt.mpr h9)
      refine g_iload_n (pc := 24) dc_W_set_24 rfl ?_
      refine g_gsMost (pc := 25) dc_W_set_25 (am_t6 42 rfl rfl) ?_
      refine g_iload_n (pc := 28) dc_W_set_28 rfl ?_
      refine g_mostLoad (pc := 29) (v := 50) dc_W_set_29 (am_vin rfl) rfl ?_
      refine g_icmp_le (pc := 30) (tgt := 35) dc_W_set_30 rfl (fun hc2 => ?_) (fun hc2 => ?_)
      · have hi2 : p2.toInt ≤ 50 := Int32.le_iff_toInt_le.mp hc2
        refine g_aload_n (pc := 35) dc_W_set_35 rfl ?_
        refine g_getfield (pc := 36) dc_W_set_36 fl_W_47 rfl rfl ?_
        refine g_iload_n (pc := 39) dc_W_set_39 rfl ?_
        refine g_iload_n (pc := 40) dc_W_set_40 rfl ?_
        refine g_iastore (pc := 41) dc_W_set_41 rfl (am_vin rfl) ?_
        refine g_iconst (pc := 42) (v := 1) dc_W_set_42 rfl ?_
        refine g_zretC (pc := 43) dc_W_set_43 rfl rfl ?_
        refine g_aload_n (pc := 426) dc_L_law_426 rfl ?_
        refine g_xload_n (pc := 427) dc_L_law_427 rfl ?_
        refine g_iload (pc := 428) dc_L_law_428 rfl ?_
        refine g_iconst (pc := 430) (v := 1) dc_L_law_430 rfl ?_
        refine g_iadd (pc := 431) (v := 1) dc_L_law_431 (by decide) ?_
        refine g_scriptLoadV (pc := 432) dc_L_law_432 (by rw [hL]; exact am_vin rfl) e1 ?_
        refine g_xload_n (pc := 433) dc_L_law_433 rfl ?_
        refine g_iload (pc := 434) dc_L_law_434 rfl ?_
        refine g_iconst (pc := 436) (v := 2) dc_L_law_436 rfl ?_
        refine g_iadd (pc := 437) (v := 2) dc_L_law_437 (by decide) ?_
        refine g_scriptLoadV (pc := 438) dc_L_law_438 (by rw [hL]; exact am_vin rfl) e2 ?_
        refine g_v2 (pc := 439) (M' := mt_M_set) dc_L_law_439 mo_M_set im_M_set se_M_set ln_L_68 rfl rfl rfl (Nat.le_of_ble_eq_true rfl) (Nat.le_of_ble_eq_true rfl) ?_
        refine g_aload_n (pc := 0) dc_M_set_0 rfl ?_
        refine g_iconst (pc := 1) (v := 0) dc_M_set_1 rfl ?_
        refine g_putfield (pc := 2) dc_M_set_2 fp_M_set_1 rfl (Nat.le_of_ble_eq_true rfl) rfl rfl ?_
        refine g_iload_n (pc := 5) dc_M_set_5 rfl ?_
        refine g_if_ne (pc := 6) (tgt := 19) dc_M_set_6 rfl (fun _ => ?_) (fun hc => absurd hc (by decide))
        refine g_iload_n (pc := 19) dc_M_set_19 rfl ?_
        refine g_iconst (pc := 20) (v := 1) dc_M_set_20 rfl ?_
        refine g_icmp_ne (pc := 21) (tgt := 34) dc_M_set_21 rfl (fun _ => ?_) (fun hc => absurd hc (by decide))
        refine g_iload_n (pc := 34) dc_M_set_34 rfl ?_
        refine g_iconst (pc := 35) (v := 2) dc_M_set_35 rfl ?_
        refine g_icmp_ne (pc := 36) (tgt := 50) dc_M_set_36 rfl (fun _ => ?_) (fun hc => absurd hc (by decide))
        refine g_iload_n (pc := 50) dc_M_set_50 rfl ?_
        refine g_iconst (pc := 51) (v := 3) dc_M_set_51 rfl ?_
        refine g_icmp_ne (pc := 52) (tgt := 70) dc_M_set_52 rfl (fun hc => absurd hc (by decide)) (fun _ => ?_)
        refine g_iload_n (pc := 55) dc_M_set_55 rfl ?_
        refine g_iconst (pc := 56) (v := 1) dc_M_set_56 rfl ?_
        refine g_icmp_lt (pc := 57) (tgt := 70) dc_M_set_57 rfl (fun hc => absurd (Int32.lt_iff_toInt_lt.mp hc) (show ¬ (p2.toInt < 1) by omega)) (fun _ => ?_)
        refine g_iload_n (pc := 60) dc_M_set_60 rfl ?_
        refine g_bipush (pc := 61) (v := 50) dc_M_set_61 rfl ?_
        refine g_icmp_gt (pc := 63) (tgt := 70) dc_M_set_63 rfl (fun hc => absurd (Int32.lt_iff_toInt_lt.mp hc) (show ¬ (50 < p2.toInt) by omega)) (fun _ => ?_)
        refine g_iconst (pc := 66) (v := 1) dc_M_set_66 rfl ?_
        refine g_goto (pc := 67) (tgt := 71) dc_M_set_67 rfl ?_
        refine g_istore_n (pc := 71) dc_M_set_71 (by decide) ?_
        refine g_iload_n (pc := 72) dc_M_set_72 rfl ?_
        refine g_if_eq (pc := 73) (tgt := 83) dc_M_set_73 rfl (fun hc => absurd hc (by decide)) (fun _ => ?_)
        refine g_aload_n (pc := 76) dc_M_set_76 rfl ?_
        refine g_getfield (pc := 77) dc_M_set_77 fl_M_347 rfl rfl ?_
        refine g_iload_n (pc := 80) dc_M_set_80 rfl ?_
        refine g_iload_n (pc := 81) dc_M_set_81 rfl ?_
        refine g_iastore (pc := 82) dc_M_set_82 rfl (am_vin rfl) ?_
        refine g_iload_n (pc := 83) dc_M_set_83 rfl ?_
        refine g_zretC (pc := 84) dc_M_set_84 rfl rfl ?_
        refine g_icmp_eq (pc := 442) (tgt := 873) dc_L_law_442 rfl (fun _ => ?_) (fun hc => absurd hc (by decide))
        refine g_iinc (pc := 873) (v := 6) dc_L_law_873 rfl (by decide) (by decide) ?_
        refine g_goto (pc := 876) (tgt := 23) dc_L_law_876 rfl ?_
        refine g_iload (pc := 23) dc_L_law_23 rfl ?_
        refine g_xload_n (pc := 25) dc_L_law_25 rfl ?_
        refine g_scriptLenV (pc := 26) (n := 6) dc_L_law_26 hL rfl ?_
        refine g_bipush (pc := 27) (v := 6) dc_L_law_27 rfl ?_
        refine g_isub (pc := 29) (v := 0) dc_L_law_29 (by decide) ?_
        refine g_icmp_gt (pc := 30) (tgt := 879) dc_L_law_30 rfl (fun _ => ?_) (fun hc => absurd hc (by decide))
        refine g_iconst (pc := 879) (v := 1) dc_L_law_879 rfl ?_
        exact g_zreturn dc_L_law_880 rfl rfl ⟨rfl, (Nat.le_of_ble_eq_true rfl), am_bz (by (repeat (first | refine am_bw rfl ?_ | refine am_bA rfl ?_ | refine am_bB rfl ?_ | refine am_bC rfl ?_)); exact am_b0 (Nat.le_of_ble_eq_true rfl))⟩
      · have hi2 : ¬ (p2.toInt ≤ 50) := fun h9 => hc2 (Int32.le_iff_toInt_le.mpr h9)
        refine g_iconst (pc := 33) (v := 0) dc_W_set_33 rfl ?_
        refine g_zretC (pc := 34) dc_W_set_34 rfl rfl ?_
        refine g_aload_n (pc := 426) dc_L_law_426 rfl ?_
        refine g_xload_n (pc := 427) dc_L_law_427 rfl ?_
        refine g_iload (pc := 428) dc_L_law_428 rfl ?_
        refine g_iconst (pc := 430) (v := 1) dc_L_law_430 rfl ?_
        refine g_iadd (pc := 431) (v := 1) dc_L_law_431 (by decide) ?_
        refine g_scriptLoadV (pc := 432) dc_L_law_432 (by rw [hL]; exact am_vin rfl) e1 ?_
        refine g_xload_n (pc := 433) dc_L_law_433 rfl ?_
        refine g_iload (pc := 434) dc_L_law_434 rfl ?_
        refine g_iconst (pc := 436) (v := 2) dc_L_law_436 rfl ?_
        refine g_iadd (pc := 437) (v := 2) dc_L_law_437 (by decide) ?_
        refine g_scriptLoadV (pc := 438) dc_L_law_438 (by rw [hL]; exact am_vin rfl) e2 ?_
        refine g_v2 (pc := 439) (M' := mt_M_set) dc_L_law_439 mo_M_set im_M_set se_M_set ln_L_68 rfl rfl rfl (Nat.le_of_ble_eq_true rfl) (Nat.le_of_ble_eq_true rfl) ?_
        refine g_aload_n (pc := 0) dc_M_set_0 rfl ?_
        refine g_iconst (pc := 1) (v := 0) dc_M_set_1 rfl ?_
        refine g_putfield (pc := 2) dc_M_set_2 fp_M_set_1 rfl (Nat.le_of_ble_eq_true rfl) rfl rfl ?_
        refine g_iload_n (pc := 5) dc_M_set_5 rfl ?_
        refine g_if_ne (pc := 6) (tgt := 19) dc_M_set_6 rfl (fun _ => ?_) (fun hc => absurd hc (by decide))
        refine g_iload_n (pc := 19) dc_M_set_19 rfl ?_
        refine g_iconst (pc := 20) (v := 1) dc_M_set_20 rfl ?_
        refine g_icmp_ne (pc := 21) (tgt := 34) dc_M_set_21 rfl (fun _ => ?_) (fun hc => absurd hc (by decide))
        refine g_iload_n (pc := 34) dc_M_set_34 rfl ?_
        refine g_iconst (pc := 35) (v := 2) dc_M_set_35 rfl ?_
        refine g_icmp_ne (pc := 36) (tgt := 50) dc_M_set_36 rfl (fun _ => ?_) (fun hc => absurd hc (by decide))
        refine g_iload_n (pc := 50) dc_M_set_50 rfl ?_
        refine g_iconst (pc := 51) (v := 3) dc_M_set_51 rfl ?_
        refine g_icmp_ne (pc := 52) (tgt := 70) dc_M_set_52 rfl (fun hc => absurd hc (by decide)) (fun _ => ?_)
        refine g_iload_n (pc := 55) dc_M_set_55 rfl ?_
        refine g_iconst (pc := 56) (v := 1) dc_M_set_56 rfl ?_
        refine g_icmp_lt (pc := 57) (tgt := 70) dc_M_set_57 rfl (fun hc => absurd (Int32.lt_iff_toInt_lt.mp hc) (show ¬ (p2.toInt < 1) by omega)) (fun _ => ?_)
        refine g_iload_n (pc := 60) dc_M_set_60 rfl ?_
        refine g_bipush (pc := 61) (v := 50) dc_M_set_61 rfl ?_
        refine g_icmp_gt (pc := 63) (tgt := 70) dc_M_set_63 rfl (fun _ => ?_) (fun hc => (hc (Int32.lt_iff_toInt_lt.mpr (show 50 < p2.toInt by omega))).elim)
        refine g_iconst (pc := 70) (v := 0) dc_M_set_70 rfl ?_
        refine g_istore_n (pc := 71) dc_M_set_71 (by decide) ?_
        refine g_iload_n (pc := 72) dc_M_set_72 rfl ?_
        refine g_if_eq (pc := 73) (tgt := 83) dc_M_set_73 rfl (fun _ => ?_) (fun hc => absurd hc (by decide))
        refine g_iload_n (pc := 83) dc_M_set_83 rfl ?_
        refine g_zretC (pc := 84) dc_M_set_84 rfl rfl ?_
        refine g_icmp_eq (pc := 442) (tgt := 873) dc_L_law_442 rfl (fun _ => ?_) (fun hc => absurd hc (by decide))
        refine g_iinc (pc := 873) (v := 6) dc_L_law_873 rfl (by decide) (by decide) ?_
        refine g_goto (pc := 876) (tgt := 23) dc_L_law_876 rfl ?_
        refine g_iload (pc := 23) dc_L_law_23 rfl ?_
        refine g_xload_n (pc := 25) dc_L_law_25 rfl ?_
        refine g_scriptLenV (pc := 26) (n := 6) dc_L_law_26 hL rfl ?_
        refine g_bipush (pc := 27) (v := 6) dc_L_law_27 rfl ?_
        refine g_isub (pc := 29) (v := 0) dc_L_law_29 (by decide) ?_
        refine g_icmp_gt (pc := 30) (tgt := 879) dc_L_law_30 rfl (fun _ => ?_) (fun hc => absurd hc (by decide))
        refine g_iconst (pc := 879) (v := 1) dc_L_law_879 rfl ?_
        exact g_zreturn dc_L_law_880 rfl rfl ⟨rfl, (Nat.le_of_ble_eq_true rfl), am_bz (by (repeat (first | refine am_bw rfl ?_ | refine am_bA rfl ?_ | refine am_bB rfl ?_ | refine am_bC rfl ?_)); exact am_b0 (Nat.le_of_ble_eq_true rfl))⟩
  · refine g_aload_n (pc := 410) dc_L_law_410 rfl ?_
    refine g_xload_n (pc := 411) dc_L_law_411 rfl ?_
    refine g_iload (pc := 412) dc_L_law_412 rfl ?_
    refine g_iconst (pc := 414) (v := 1) dc_L_law_414 rfl ?_
    refine g_iadd (pc := 415) (v := 1) dc_L_law_415 (by decide) ?_
    refine g_scriptLoadV (pc := 416) dc_L_law_416 (by rw [hL]; exact am_vin rfl) e1 ?_
    refine g_xload_n (pc := 417) dc_L_law_417 rfl ?_
    refine g_iload (pc := 418) dc_L_law_418 rfl ?_
    refine g_iconst (pc := 420) (v := 2) dc_L_law_420 rfl ?_
    refine g_iadd (pc := 421) (v := 2) dc_L_law_421 (by decide) ?_
    refine g_scriptLoadV (pc := 422) dc_L_law_422 (by rw [hL]; exact am_vin rfl) e2 ?_
    refine g_v2 (pc := 423) (M' := mt_W_set) dc_L_law_423 mo_W_set im_W_set se_W_set ln_L_64 rfl rfl rfl (Nat.le_of_ble_eq_true rfl) (Nat.le_of_ble_eq_true rfl) ?_
    refine g_iload_n (pc := 0) dc_W_set_0 rfl ?_
    refine g_if_lt (pc := 1) (tgt := 13) dc_W_set_1 rfl (fun _ => ?_) (fun hc => (hc (Int32.lt_iff_toInt_lt.mpr (show p1.toInt < 0 by omega))).elim)
    refine g_iconst (pc := 13) (v := 0) dc_W_set_13 rfl ?_
    refine g_zretC (pc := 14) dc_W_set_14 rfl rfl ?_
    refine g_aload_n (pc := 426) dc_L_law_426 rfl ?_
    refine g_xload_n (pc := 427) dc_L_law_427 rfl ?_
    refine g_iload (pc := 428) dc_L_law_428 rfl ?_
    refine g_iconst (pc := 430) (v := 1) dc_L_law_430 rfl ?_
    refine g_iadd (pc := 431) (v := 1) dc_L_law_431 (by decide) ?_
    refine g_scriptLoadV (pc := 432) dc_L_law_432 (by rw [hL]; exact am_vin rfl) e1 ?_
    refine g_xload_n (pc := 433) dc_L_law_433 rfl ?_
    refine g_iload (pc := 434) dc_L_law_434 rfl ?_
    refine g_iconst (pc := 436) (v := 2) dc_L_law_436 rfl ?_
    refine g_iadd (pc := 437) (v := 2) dc_L_law_437 (by decide) ?_
    refine g_scriptLoadV (pc := 438) dc_L_law_438 (by rw [hL]; exact am_vin rfl) e2 ?_
    refine g_v2 (pc := 439) (M' := mt_M_set) dc_L_law_439 mo_M_set im_M_set se_M_set ln_L_68 rfl rfl rfl (Nat.le_of_ble_eq_true rfl) (Nat.le_of_ble_eq_true rfl) ?_
    refine g_aload_n (pc := 0) dc_M_set_0 rfl ?_
    refine g_iconst (pc := 1) (v := 0) dc_M_set_1 rfl ?_
    refine g_putfield (pc := 2) dc_M_set_2 fp_M_set_1 rfl (Nat.le_of_ble_eq_true rfl) rfl rfl ?_
    refine g_iload_n (pc := 5) dc_M_set_5 rfl ?_
    refine g_if_ne (pc := 6) (tgt := 19) dc_M_set_6 rfl (fun _ => ?_) (fun hc => absurd (Int32.toInt_inj.symm.mp hc) (show ¬ (p1.toInt = 0) by omega))
    refine g_iload_n (pc := 19) dc_M_set_19 rfl ?_
    refine g_iconst (pc := 20) (v := 1) dc_M_set_20 rfl ?_
    refine g_icmp_ne (pc := 21) (tgt := 34) dc_M_set_21 rfl (fun _ => ?_) (fun hc => absurd (Int32.toInt_inj.symm.mp hc) (show ¬ (p1.toInt = 1) by omega))
    refine g_iload_n (pc := 34) dc_M_set_34 rfl ?_
    refine g_iconst (pc := 35) (v := 2) dc_M_set_35 rfl ?_
    refine g_icmp_ne (pc := 36) (tgt := 50) dc_M_set_36 rfl (fun _ => ?_) (fun hc => absurd (Int32.toInt_inj.symm.mp hc) (show ¬ (p1.toInt = 2) by omega))
    refine g_iload_n (pc := 50) dc_M_set_50 rfl ?_
    refine g_iconst (pc := 51) (v := 3) dc_M_set_51 rfl ?_
    refine g_icmp_ne (pc := 52) (tgt := 70) dc_M_set_52 rfl (fun _ => ?_) (fun hc => absurd (Int32.toInt_inj.symm.mp hc) (show ¬ (p1.toInt = 3) by omega))
    refine g_iconst (pc := 70) (v := 0) dc_M_set_70 rfl ?_
    refine g_istore_n (pc := 71) dc_M_set_71 (by decide) ?_
    refine g_iload_n (pc := 72) dc_M_set_72 rfl ?_
    refine g_if_eq (pc := 73) (tgt := 83) dc_M_set_73 rfl (fun _ => ?_) (fun hc => absurd hc (by decide))
    refine g_iload_n (pc := 83) dc_M_set_83 rfl ?_
    refine g_zretC (pc := 84) dc_M_set_84 rfl rfl ?_
    refine g_icmp_eq (pc := 442) (tgt := 873) dc_L_law_442 rfl (fun _ => ?_) (fun hc => absurd hc (by decide))
    refine g_iinc (pc := 873) (v := 6) dc_L_law_873 rfl (by decide) (by decide) ?_
    refine g_goto (pc := 876) (tgt := 23) dc_L_law_876 rfl ?_
    refine g_iload (pc := 23) dc_L_law_23 rfl ?_
    refine g_xload_n (pc := 25) dc_L_law_25 rfl ?_
    refine g_scriptLenV (pc := 26) (n := 6) dc_L_law_26 hL rfl ?_
    refine g_bipush (pc := 27) (v := 6) dc_L_law_27 rfl ?_
    refine g_isub (pc := 29) (v := 0) dc_L_law_29 (by decide) ?_
    refine g_icmp_gt (pc := 30) (tgt := 879) dc_L_law_30 rfl (fun _ => ?_) (fun hc => absurd hc (by decide))
    refine g_iconst (pc := 879) (v := 1) dc_L_law_879 rfl ?_
    exact g_zreturn dc_L_law_880 rfl rfl ⟨rfl, (Nat.le_of_ble_eq_true rfl), am_bz (by (repeat (first | refine am_bw rfl ?_ | refine am_bA rfl ?_ | refine am_bB rfl ?_ | refine am_bC rfl ?_)); exact am_b0 (Nat.le_of_ble_eq_true rfl))⟩
  · refine g_aload_n (pc := 410) dc_L_law_410 rfl ?_
    refine g_xload_n (pc := 411) dc_L_law_411 rfl ?_
    refine g_iload (pc := 412) dc_L_law_412 rfl ?_
    refine g_iconst (pc := 414) (v := 1) dc_L_law_414 rfl ?_
    refine g_iadd (pc := 415) (v := 1) dc_L_law_415 (by decide) ?_
    refine g_scriptLoadV (pc := 416) dc_L_law_416 (by rw [hL]; exact am_vin rfl) e1 ?_
    refine g_xload_n (pc := 417) dc_L_law_417 rfl ?_
    refine g_iload (pc := 418) dc_L_law_418 rfl ?_
    refine g_iconst (pc := 420) (v := 2) dc_L_law_420 rfl ?_
    refine g_iadd (pc := 421) (v := 2) dc_L_law_421 (by decide) ?_
    refine g_scriptLoadV (pc := 422) dc_L_law_422 (by rw [hL]; exact am_vin rfl) e2 ?_
    refine g_v2 (pc := 423) (M' := mt_W_set) dc_L_law_423 mo_W_set im_W_set se_W_set ln_L_64 rfl rfl rfl (Nat.le_of_ble_eq_true rfl) (Nat.le_of_ble_eq_true rfl) ?_
    refine g_iload_n (pc := 0) dc_W_set_0 rfl ?_
    refine g_if_lt (pc := 1) (tgt := 13) dc_W_set_1 rfl (fun hc => absurd (Int32.lt_iff_toInt_lt.mp hc) (show ¬ (p1.toInt < 0) by omega)) (fun _ => ?_)
    refine g_iload_n (pc := 4) dc_W_set_4 rfl ?_
    refine g_aload_n (pc := 5) dc_W_set_5 rfl ?_
    refine g_getfield (pc := 6) dc_W_set_6 fl_W_47 rfl rfl ?_
    refine g_alen (pc := 9) dc_W_set_9 rfl (by decide) ?_
    refine g_icmp_lt (pc := 10) (tgt := 15) dc_W_set_10 rfl (fun hc => absurd (Int32.lt_iff_toInt_lt.mp hc) (show ¬ (p1.toInt < 4) by omega)) (fun _ => ?_)
    refine g_iconst (pc := 13) (v := 0) dc_W_set_13 rfl ?_
    refine g_zretC (pc := 14) dc_W_set_14 rfl rfl ?_
    refine g_aload_n (pc := 426) dc_L_law_426 rfl ?_
    refine g_xload_n (pc := 427) dc_L_law_427 rfl ?_
    refine g_iload (pc := 428) dc_L_law_428 rfl ?_
    refine g_iconst (pc := 430) (v := 1) dc_L_law_430 rfl ?_
    refine g_iadd (pc := 431) (v := 1) dc_L_law_431 (by decide) ?_
    refine g_scriptLoadV (pc := 432) dc_L_law_432 (by rw [hL]; exact am_vin rfl) e1 ?_
    refine g_xload_n (pc := 433) dc_L_law_433 rfl ?_
    refine g_iload (pc := 434) dc_L_law_434 rfl ?_
    refine g_iconst (pc := 436) (v := 2) dc_L_law_436 rfl ?_
    refine g_iadd (pc := 437) (v := 2) dc_L_law_437 (by decide) ?_
    refine g_scriptLoadV (pc := 438) dc_L_law_438 (by rw [hL]; exact am_vin rfl) e2 ?_
    refine g_v2 (pc := 439) (M' := mt_M_set) dc_L_law_439 mo_M_set im_M_set se_M_set ln_L_68 rfl rfl rfl (Nat.le_of_ble_eq_true rfl) (Nat.le_of_ble_eq_true rfl) ?_
    refine g_aload_n (pc := 0) dc_M_set_0 rfl ?_
    refine g_iconst (pc := 1) (v := 0) dc_M_set_1 rfl ?_
    refine g_putfield (pc := 2) dc_M_set_2 fp_M_set_1 rfl (Nat.le_of_ble_eq_true rfl) rfl rfl ?_
    refine g_iload_n (pc := 5) dc_M_set_5 rfl ?_
    refine g_if_ne (pc := 6) (tgt := 19) dc_M_set_6 rfl (fun _ => ?_) (fun hc => absurd (Int32.toInt_inj.symm.mp hc) (show ¬ (p1.toInt = 0) by omega))
    refine g_iload_n (pc := 19) dc_M_set_19 rfl ?_
    refine g_iconst (pc := 20) (v := 1) dc_M_set_20 rfl ?_
    refine g_icmp_ne (pc := 21) (tgt := 34) dc_M_set_21 rfl (fun _ => ?_) (fun hc => absurd (Int32.toInt_inj.symm.mp hc) (show ¬ (p1.toInt = 1) by omega))
    refine g_iload_n (pc := 34) dc_M_set_34 rfl ?_
    refine g_iconst (pc := 35) (v := 2) dc_M_set_35 rfl ?_
    refine g_icmp_ne (pc := 36) (tgt := 50) dc_M_set_36 rfl (fun _ => ?_) (fun hc => absurd (Int32.toInt_inj.symm.mp hc) (show ¬ (p1.toInt = 2) by omega))
    refine g_iload_n (pc := 50) dc_M_set_50 rfl ?_
    refine g_iconst (pc := 51) (v := 3) dc_M_set_51 rfl ?_
    refine g_icmp_ne (pc := 52) (tgt := 70) dc_M_set_52 rfl (fun _ => ?_) (fun hc => absurd (Int32.toInt_inj.symm.mp hc) (show ¬ (p1.toInt = 3) by omega))
    refine g_iconst (pc := 70) (v := 0) dc_M_set_70 rfl ?_
    refine g_istore_n (pc := 71) dc_M_set_71 (by decide) ?_
    refine g_iload_n (pc := 72) dc_M_set_72 rfl ?_
    refine g_if_eq (pc := 73) (tgt := 83) dc_M_set_73 rfl (fun _ => ?_) (fun hc => absurd hc (by decide))
    refine g_iload_n (pc := 83) dc_M_set_83 rfl ?_
    refine g_zretC (pc := 84) dc_M_set_84 rfl rfl ?_
    refine g_icmp_eq (pc := 442) (tgt := 873) dc_L_law_442 rfl (fun _ => ?_) (fun hc => absurd hc (by decide))
    refine g_iinc (pc := 873) (v := 6) dc_L_law_873 rfl (by decide) (by decide) ?_
    refine g_goto (pc := 876) (tgt := 23) dc_L_law_876 rfl ?_
    refine g_iload (pc := 23) dc_L_law_23 rfl ?_
    refine g_xload_n (pc := 25) dc_L_law_25 rfl ?_
    refine g_scriptLenV (pc := 26) (n := 6) dc_L_law_26 hL rfl ?_
    refine g_bipush (pc := 27) (v := 6) dc_L_law_27 rfl ?_
    refine g_isub (pc := 29) (v := 0) dc_L_law_29 (by decide) ?_
    refine g_icmp_gt (pc := 30) (tgt := 879) dc_L_law_30 rfl (fun _ => ?_) (fun hc => absurd hc (by decide))
    refine g_iconst (pc := 879) (v := 1) dc_L_law_879 rfl ?_
    exact g_zreturn dc_L_law_880 rfl rfl ⟨rfl, (Nat.le_of_ble_eq_true rfl), am_bz (by (repeat (first | refine am_bw rfl ?_ | refine am_bA rfl ?_ | refine am_bB rfl ?_ | refine am_bC rfl ?_)); exact am_b0 (Nat.le_of_ble_eq_true rfl))⟩
set_option maxRecDepth 20000 in
set_option maxHeartbeats 1000000 in
theorem p1_9 {X : am_X} {p0 p1 p2 p3 p4 p5 : Int32} (hl9 : X.1.stackTraces = false) (hL : X.2.2.2.2.2.1 = 6) (e0 : X.2.2.2.2.2.2 (Int32.toNatClampNeg 0) = p0) (e1 : X.2.2.2.2.2.2 (Int32.toNatClampNeg 1) = p1) (e2 : X.2.2.2.2.2.2 (Int32.toNatClampNeg 2) = p2) (e3 : X.2.2.2.2.2.2 (Int32.toNatClampNeg 3) = p3) (e4 : X.2.2.2.2.2.2 (Int32.toNatClampNeg 4) = p4) (e5 : X.2.2.2.2.2.2 (Int32.toNatClampNeg 5) = p5) : am_G X mt_L_law 60 447 lo_0 [] hp_0 (fun r h => r = some (.int 1) ∧ h.length ≤ 600002 ∧ am_sl h ≤ 7302232) := by
  refine g_aload_n (pc := 447) dc_L_law_447 rfl ?_
  refine g_v0 (pc := 448) (M' := mt_W_seed) dc_L_law_448 mo_W_seed im_W_seed se_W_seed ln_L_69 rfl rfl rfl (Nat.le_of_ble_eq_true rfl) (Nat.le_of_ble_eq_true rfl) ?_
  refine g_aload_n (pc := 0) dc_W_seed_0 rfl ?_
  refine g_v0 (pc := 1) (M' := mt_W_resolveTape) dc_W_seed_1 mo_W_resolveTape im_W_resolveTape se_W_resolveTape ln_W_128 rfl rfl rfl (Nat.le_of_ble_eq_true rfl) (Nat.le_of_ble_eq_true rfl) ?_
  refine g_aload_n (pc := 0) dc_W_resolveTape_0 rfl ?_
  refine g_getfield (pc := 1) dc_W_resolveTape_1 fl_W_27 rfl rfl ?_
  refine g_aload_n (pc := 4) dc_W_resolveTape_4 rfl ?_
  refine g_getfield (pc := 5) dc_W_resolveTape_5 fl_W_12 rfl rfl ?_
  refine g_getfield (pc := 8) dc_W_resolveTape_8 fl_W_109 rfl rfl ?_
  refine g_iconst (pc := 11) (v := 0) dc_W_resolveTape_11 rfl ?_
  refine g_aload_n (pc := 12) dc_W_resolveTape_12 rfl ?_
  refine g_getfield (pc := 13) dc_W_resolveTape_13 fl_W_12 rfl rfl ?_
  refine g_getfield (pc := 16) dc_W_resolveTape_16 fl_W_85 rfl rfl ?_
  refine g_null (pc := 19) dc_W_resolveTape_19 ?_
  refine g_v4 (pc := 20) (M' := mt_A_resolve) dc_W_resolveTape_20 mo_A_resolve im_A_resolve se_A_resolve ln_W_117 rfl rfl rfl (Nat.le_of_ble_eq_true rfl) (Nat.le_of_ble_eq_true rfl) ?_
  refine g_aload_n (pc := 0) dc_A_resolve_0 rfl ?_
  refine g_getfield (pc := 1) dc_A_resolve_1 fl_A_14 rfl rfl ?_
  refine g_v0 (pc := 4) (M' := mt_B_clear) dc_A_resolve_4 mo_B_clear im_B_clear se_B_clear ln_A_23 rfl rfl rfl (Nat.le_of_ble_eq_true rfl) (Nat.le_of_ble_eq_true rfl) ?_
  refine g_aload_n (pc := 0) dc_B_clear_0 rfl ?_
  refine g_iconst (pc := 1) (v := 0) dc_B_clear_1 rfl ?_
  refine g_putfield (pc := 2) dc_B_clear_2 fp_B_clear_15 rfl (Nat.le_of_ble_eq_true rfl) rfl rfl ?_
  refine g_vretC (pc := 5) dc_B_clear_5 rfl ?_
  refine g_aload_n (pc := 7) dc_A_resolve_7 rfl ?_
  refine g_getfield (pc := 8) dc_A_resolve_8 fl_A_20 rfl rfl ?_
  refine g_v0 (pc := 11) (M' := mt_B_clear) dc_A_resolve_11 mo_B_clear im_B_clear se_B_clear ln_A_23 rfl rfl rfl (Nat.le_of_ble_eq_true rfl) (Nat.le_of_ble_eq_true rfl) ?_
  refine g_aload_n (pc := 0) dc_B_clear_0 rfl ?_
  refine g_iconst (pc := 1) (v := 0) dc_B_clear_1 rfl ?_
  refine g_putfield (pc := 2) dc_B_clear_2 fp_B_clear_15 rfl (Nat.le_of_ble_eq_true rfl) rfl rfl ?_
  refine g_vretC (pc := 5) dc_B_clear_5 rfl ?_
  refine g_aload_n (pc := 14) dc_A_resolve_14 rfl ?_
  refine g_iload_n (pc := 15) dc_A_resolve_15 rfl ?_
  refine g_iload_n (pc := 16) dc_A_resolve_16 rfl ?_
  refine g_s3 (pc := 17) (M' := mt_W_trimmedFrom) dc_A_resolve_17 mo_W_trimmedFrom st_W_trimmedFrom ln_A_26 (Nat.le_of_ble_eq_true rfl) (Nat.le_of_ble_eq_true rfl) ?_
  refine g_iload_n (pc := 0) dc_W_trimmedFrom_0 rfl ?_
  refine g_istore_n (pc := 1) dc_W_trimmedFrom_1 (by decide) ?_
  refine g_iload_n (pc := 2) dc_W_trimmedFrom_2 rfl ?_
  refine g_iload_n (pc := 3) dc_W_trimmedFrom_3 rfl ?_
  refine g_icmp_ge (pc := 4) (tgt := 22) dc_W_trimmedFrom_4 rfl (fun _ => ?_) (fun hc => absurd hc (by decide))
  refine g_iload_n (pc := 22) dc_W_trimmedFrom_22 rfl ?_
  refine g_iretC (pc := 23) dc_W_trimmedFrom_23 rfl ?_
  refine g_istore (pc := 20) dc_A_resolve_20 (by decide) ?_
  refine g_aload_n (pc := 22) dc_A_resolve_22 rfl ?_
  refine g_bipush (pc := 23) (v := 35) dc_A_resolve_23 rfl ?_
  refine g_iload (pc := 25) dc_A_resolve_25 rfl ?_
  refine g_aload_n (pc := 27) dc_A_resolve_27 rfl ?_
  refine g_iload (pc := 28) dc_A_resolve_28 rfl ?_
  refine g_iload_n (pc := 30) dc_A_resolve_30 rfl ?_
  refine g_s3 (pc := 31) (M' := mt_W_trimmedTo) dc_A_resolve_31 mo_W_trimmedTo st_W_trimmedTo ln_A_30 (Nat.le_of_ble_eq_true rfl) (Nat.le_of_ble_eq_true rfl) ?_
  refine g_iload_n (pc := 0) dc_W_trimmedTo_0 rfl ?_
  refine g_istore_n (pc := 1) dc_W_trimmedTo_1 (by decide) ?_
  refine g_iload_n (pc := 2) dc_W_trimmedTo_2 rfl ?_
  refine g_iload_n (pc := 3) dc_W_trimmedTo_3 rfl ?_
  refine g_icmp_le (pc := 4) (tgt := 24) dc_W_trimmedTo_4 rfl (fun _ => ?_) (fun hc => absurd hc (by decide))
  refine g_iload_n (pc := 24) dc_W_trimmedTo_24 rfl ?_
  refine g_iretC (pc := 25) dc_W_trimmedTo_25 rfl ?_
  refine g_s4 (pc := 34) (M' := mt_W_indexOf) dc_A_resolve_34 mo_W_indexOf st_W_indexOf ln_A_33 (Nat.le_of_ble_eq_true rfl) (Nat.le_of_ble_eq_true rfl) ?_
  refine g_iload_n (pc := 0) dc_W_indexOf_0 rfl ?_
  refine g_istore (pc := 1) dc_W_indexOf_1 (by decide) ?_
  refine g_iload (pc := 3) dc_W_indexOf_3 rfl ?_
  refine g_iload_n (pc := 5) dc_W_indexOf_5 rfl ?_
  refine g_icmp_ge (pc := 6) (tgt := 23) dc_W_indexOf_6 rfl (fun _ => ?_) (fun hc => absurd hc (by decide))
  refine g_iload (pc := 23) dc_W_indexOf_23 rfl ?_
  refine g_iretC (pc := 25) dc_W_indexOf_25 rfl ?_
  refine g_istore (pc := 37) dc_A_resolve_37 (by decide) ?_
  refine g_aload_n (pc := 39) dc_A_resolve_39 rfl ?_
  refine g_iload (pc := 40) dc_A_resolve_40 rfl ?_
  refine g_iload (pc := 42) dc_A_resolve_42 rfl ?_
  refine g_s3 (pc := 44) (M' := mt_A_isClean) dc_A_resolve_44 mo_A_isClean st_A_isClean ln_A_37 (Nat.le_of_ble_eq_true rfl) (Nat.le_of_ble_eq_true rfl) ?_
  refine g_iload_n (pc := 0) dc_A_isClean_0 rfl ?_
  refine g_istore_n (pc := 1) dc_A_isClean_1 (by decide) ?_
  refine g_iload_n (pc := 2) dc_A_isClean_2 rfl ?_
  refine g_iload_n (pc := 3) dc_A_isClean_3 rfl ?_
  refine g_icmp_ge (pc := 4) (tgt := 64) dc_A_isClean_4 rfl (fun _ => ?_) (fun hc => absurd hc (by decide))
  refine g_iconst (pc := 64) (v := 1) dc_A_isClean_64 rfl ?_
  refine g_zretC (pc := 65) dc_A_isClean_65 rfl rfl ?_
  refine g_if_ne (pc := 47) (tgt := 52) dc_A_resolve_47 rfl (fun _ => ?_) (fun hc => absurd hc (by decide))
  refine g_aload_n (pc := 52) dc_A_resolve_52 rfl ?_
  refine g_bipush (pc := 53) (v := 58) dc_A_resolve_53 rfl ?_
  refine g_iload (pc := 55) dc_A_resolve_55 rfl ?_
  refine g_iload (pc := 57) dc_A_resolve_57 rfl ?_
  refine g_s4 (pc := 59) (M' := mt_W_indexOf) dc_A_resolve_59 mo_W_indexOf st_W_indexOf ln_A_33 (Nat.le_of_ble_eq_true rfl) (Nat.le_of_ble_eq_true rfl) ?_
  refine g_iload_n (pc := 0) dc_W_indexOf_0 rfl ?_
  refine g_istore (pc := 1) dc_W_indexOf_1 (by decide) ?_
  refine g_iload (pc := 3) dc_W_indexOf_3 rfl ?_
  refine g_iload_n (pc := 5) dc_W_indexOf_5 rfl ?_
  refine g_icmp_ge (pc := 6) (tgt := 23) dc_W_indexOf_6 rfl (fun _ => ?_) (fun hc => absurd hc (by decide))
  refine g_iload (pc := 23) dc_W_indexOf_23 rfl ?_
  refine g_iretC (pc := 25) dc_W_indexOf_25 rfl ?_
  refine g_istore (pc := 62) dc_A_resolve_62 (by decide) ?_
  refine g_iload (pc := 64) dc_A_resolve_64 rfl ?_
  refine g_aload_n (pc := 66) dc_A_resolve_66 rfl ?_
  refine g_bipush (pc := 67) (v := 47) dc_A_resolve_67 rfl ?_
  refine g_iload (pc := 69) dc_A_resolve_69 rfl ?_
  refine g_iload (pc := 71) dc_A_resolve_71 rfl ?_
  refine g_s4 (pc := 73) (M' := mt_W_indexOf) dc_A_resolve_73 mo_W_indexOf st_W_indexOf ln_A_33 (Nat.le_of_ble_eq_true rfl) (Nat.le_of_ble_eq_true rfl) ?_
  refine g_iload_n (pc := 0) dc_W_indexOf_0 rfl ?_
  refine g_istore (pc := 1) dc_W_indexOf_1 (by decide) ?_
  refine g_iload (pc := 3) dc_W_indexOf_3 rfl ?_
  refine g_iload_n (pc := 5) dc_W_indexOf_5 rfl ?_
  refine g_icmp_ge (pc := 6) (tgt := 23) dc_W_indexOf_6 rfl (fun _ => ?_) (fun hc => absurd hc (by decide))
  refine g_iload (pc := 23) dc_W_indexOf_23 rfl ?_
  refine g_iretC (pc := 25) dc_W_indexOf_25 rfl ?_
  refine g_aload_n (pc := 76) dc_A_resolve_76 rfl ?_
  refine g_bipush (pc := 77) (v := 63) dc_A_resolve_77 rfl ?_
  refine g_iload (pc := 79) dc_A_resolve_79 rfl ?_
  refine g_iload (pc := 81) dc_A_resolve_81 rfl ?_
  refine g_s4 (pc := 83) (M' := mt_W_indexOf) dc_A_resolve_83 mo_W_indexOf st_W_indexOf ln_A_33 (Nat.le_of_ble_eq_true rfl) (Nat.le_of_ble_eq_true rfl) ?_
  refine g_iload_n (pc := 0) dc_W_indexOf_0 rfl ?_
  refine g_istore (pc := 1) dc_W_indexOf_1 (by decide) ?_
  refine g_iload (pc := 3) dc_W_indexOf_3 rfl ?_
  refine g_iload_n (pc := 5) dc_W_indexOf_5 rfl ?_
  refine g_icmp_ge (pc := 6) (tgt := 23) dc_W_indexOf_6 rfl (fun _ => ?_) (fun hc => absurd hc (by decide))
  refine g_iload (pc := 23) dc_W_indexOf_23 rfl ?_
  refine g_iretC (pc := 25) dc_W_indexOf_25 rfl ?_
  refine g_s2 (pc := 86) (M' := mt_JMath_min) dc_A_resolve_86 mo_JMath_min st_JMath_min ln_A_41 (Nat.le_of_ble_eq_true rfl) (Nat.le_of_ble_eq_true rfl) ?_
  refine g_iload_n (pc := 0) dc_JMath_min_0 rfl ?_
  refine g_iload_n (pc := 1) dc_JMath_min_1 rfl ?_
  refine g_icmp_gt (pc := 2) (tgt := 9) dc_JMath_min_2 rfl (fun hc => absurd hc (by decide)) (fun _ => ?_)
  refine g_iload_n (pc := 5) dc_JMath_min_5 rfl ?_
  refine g_goto (pc := 6) (tgt := 10) dc_JMath_min_6 rfl ?_
  refine g_iretC (pc := 10) dc_JMath_min_10 rfl ?_
  refine g_icmp_ge (pc := 89) (tgt := 128) dc_A_resolve_89 rfl (fun _ => ?_) (fun hc => absurd hc (by decide))
  refine g_aload_n (pc := 128) dc_A_resolve_128 rfl ?_
  refine g_iload (pc := 129) dc_A_resolve_129 rfl ?_
  refine g_iload (pc := 131) dc_A_resolve_131 rfl ?_
  refine g_ldcS (pc := 133) 2 dc_A_resolve_133 (by decide) rfl rfl ?_
  refine g_s4 (pc := 135) (M' := mt_W_beginsWith) dc_A_resolve_135 mo_W_beginsWith st_W_beginsWith ln_A_55 (Nat.le_of_ble_eq_true rfl) (Nat.le_of_ble_eq_true rfl) ?_
  refine g_iload_n (pc := 0) dc_W_beginsWith_0 rfl ?_
  refine g_xload_n (pc := 1) dc_W_beginsWith_1 rfl ?_
  refine g_x0 (pc := 2) (M' := mt_JString_length) dc_W_beginsWith_2 mo_JString_length im_JString_length se_JString_length (am_t3 75 rfl rfl) (by decide) (Nat.le_of_ble_eq_true rfl) (Nat.le_of_ble_eq_true rfl) ?_
  refine g_xload_n (pc := 0) dc_JString_length_0 rfl ?_
  refine g_sValue (pc := 1) dc_JString_length_1 (by decide) (am_t4 204 rfl rfl) ?_
  refine g_sLen (pc := 4) (n := 2) dc_JString_length_4 (by decide) rfl ?_
  refine g_xload_n (pc := 5) dc_JString_length_5 rfl ?_
  refine g_x0 (pc := 6) (M' := mt_JString_coder) dc_JString_length_6 mo_JString_coder im_JString_coder se_JString_coder (am_t2 236 rfl rfl) (by decide) (Nat.le_of_ble_eq_true rfl) (Nat.le_of_ble_eq_true rfl) ?_
  refine g_gsCompact (pc := 0) dc_JString_coder_0 (am_t2 230 rfl rfl) ?_
  refine g_if_eq (pc := 3) (tgt := 13) dc_JString_coder_3 rfl (fun hc => absurd hc (by decide)) (fun _ => ?_)
  refine g_xload_n (pc := 6) dc_JString_coder_6 rfl ?_
  refine g_sCoder (pc := 7) dc_JString_coder_7 (by decide) (am_t4 205 rfl rfl) ?_
  refine g_goto (pc := 10) (tgt := 14) dc_JString_coder_10 rfl ?_
  refine g_bretC (pc := 14) dc_JString_coder_14 rfl rfl ?_
  refine g_ishr (pc := 9) (v := 2) dc_JString_length_9 (by decide) ?_
  refine g_iretC (pc := 10) dc_JString_length_10 rfl ?_
  refine g_iadd (pc := 5) (v := 2) dc_W_beginsWith_5 (by decide) ?_
  refine g_istore (pc := 6) dc_W_beginsWith_6 (by decide) ?_
  refine g_iload (pc := 8) dc_W_beginsWith_8 rfl ?_
  refine g_iload_n (pc := 10) dc_W_beginsWith_10 rfl ?_
  refine g_icmp_gt (pc := 11) (tgt := 29) dc_W_beginsWith_11 rfl (fun _ => ?_) (fun hc => absurd hc (by decide))
  refine g_iconst (pc := 29) (v := 0) dc_W_beginsWith_29 rfl ?_
  refine g_zretC (pc := 30) dc_W_beginsWith_30 rfl rfl ?_
  refine g_if_eq (pc := 138) (tgt := 155) dc_A_resolve_138 rfl (fun _ => ?_) (fun hc => absurd hc (by decide))
  refine g_aload_n (pc := 155) dc_A_resolve_155 rfl ?_
  refine g_aload_n (pc := 156) dc_A_resolve_156 rfl ?_
  refine g_iload (pc := 157) dc_A_resolve_157 rfl ?_
  refine g_iload (pc := 159) dc_A_resolve_159 rfl ?_
  refine g_aloadN (pc := 161) dc_A_resolve_161 rfl ?_
  refine g_v4 (pc := 163) (M' := mt_A_joinBase) dc_A_resolve_163 mo_A_joinBase im_A_joinBase se_A_joinBase ln_A_61 rfl rfl rfl (Nat.le_of_ble_eq_true rfl) (Nat.le_of_ble_eq_true rfl) ?_
  refine g_aloadN (pc := 0) dc_A_joinBase_0 rfl ?_
  refine g_ifnullN (pc := 2) (tgt := 13) dc_A_joinBase_2 rfl ?_
  refine g_iconst (pc := 13) (v := (-1)) dc_A_joinBase_13 rfl ?_
  refine g_iretC (pc := 14) dc_A_joinBase_14 rfl ?_
  refine g_istore (pc := 166) dc_A_resolve_166 (by decide) ?_
  refine g_iload (pc := 168) dc_A_resolve_168 rfl ?_
  refine g_iconst (pc := 170) (v := (-1)) dc_A_resolve_170 rfl ?_
  refine g_icmp_ne (pc := 171) (tgt := 176) dc_A_resolve_171 rfl (fun hc => absurd hc (by decide)) (fun _ => ?_)
  refine g_iconst (pc := 174) (v := 0) dc_A_resolve_174 rfl ?_
  refine g_zretC (pc := 175) dc_A_resolve_175 rfl rfl ?_
  refine g_istore_n (pc := 23) dc_W_resolveTape_23 (by decide) ?_
  refine g_aload_n (pc := 24) dc_W_resolveTape_24 rfl ?_
  refine g_getfield (pc := 25) dc_W_resolveTape_25 fl_W_12 rfl rfl ?_
  refine g_v0 (pc := 28) (M' := mt_B_clear) dc_W_resolveTape_28 mo_B_clear im_B_clear se_B_clear ln_W_121 rfl rfl rfl (Nat.le_of_ble_eq_true rfl) (Nat.le_of_ble_eq_true rfl) ?_
  refine g_aload_n (pc := 0) dc_B_clear_0 rfl ?_
  refine g_iconst (pc := 1) (v := 0) dc_B_clear_1 rfl ?_
  refine g_putfield (pc := 2) dc_B_clear_2 fp_B_clear_15 rfl (Nat.le_of_ble_eq_true rfl) rfl rfl ?_
  refine g_vretC (pc := 5) dc_B_clear_5 rfl ?_
  refine g_iload_n (pc := 31) dc_W_resolveTape_31 rfl ?_
  refine g_zretC (pc := 32) dc_W_resolveTape_32 rfl rfl ?_
  refine g_if_eq (pc := 4) (tgt := 19) dc_W_seed_4 rfl (fun _ => ?_) (fun hc => absurd hc (by decide))
  refine g_iconst (pc := 19) (v := (-1)) dc_W_seed_19 rfl ?_
  refine g_iretC (pc := 20) dc_W_seed_20 rfl ?_
  refine g_aload_n (pc := 451) dc_L_law_451 rfl ?_
  refine g_v0 (pc := 452) (M' := mt_M_seed) dc_L_law_452 mo_M_seed im_M_seed se_M_seed ln_L_72 rfl rfl rfl (Nat.le_of_ble_eq_true rfl) (Nat.le_of_ble_eq_true rfl) ?_
  refine g_aload_n (pc := 0) dc_M_seed_0 rfl ?_
  refine g_v0 (pc := 1) (M' := mt_M_use) dc_M_seed_1 mo_M_use im_M_use se_M_use ln_M_505 rfl rfl rfl (Nat.le_of_ble_eq_true rfl) (Nat.le_of_ble_eq_true rfl) ?_
  refine g_aload_n (pc := 0) dc_M_use_0 rfl ?_
  refine g_iconst (pc := 1) (v := 0) dc_M_use_1 rfl ?_
  refine g_putfield (pc := 2) dc_M_use_2 fp_M_use_1 rfl (Nat.le_of_ble_eq_true rfl) rfl rfl ?_
  refine g_aload_n (pc := 5) dc_M_use_5 rfl ?_
  refine g_getfield (pc := 6) dc_M_use_6 fl_M_493 rfl rfl ?_
  refine g_istore_n (pc := 9) dc_M_use_9 (by decide) ?_
  refine g_aload_n (pc := 10) dc_M_use_10 rfl ?_
  refine g_iconst (pc := 11) (v := 0) dc_M_use_11 rfl ?_
  refine g_putfield (pc := 12) dc_M_use_12 fp_M_use_493 rfl (Nat.le_of_ble_eq_true rfl) rfl rfl ?_
  refine g_iload_n (pc := 15) dc_M_use_15 rfl ?_
  refine g_iretC (pc := 16) dc_M_use_16 rfl ?_
  refine g_istore_n (pc := 4) dc_M_seed_4 (by decide) ?_
  refine g_aload_n (pc := 5) dc_M_seed_5 rfl ?_
  refine g_aload_n (pc := 6) dc_M_seed_6 rfl ?_
  refine g_getfield (pc := 7) dc_M_seed_7 fl_M_143 rfl rfl ?_
  refine g_iconst (pc := 10) (v := 0) dc_M_seed_10 rfl ?_
  refine g_iload_n (pc := 11) dc_M_seed_11 rfl ?_
  refine g_iconst (pc := 12) (v := (-1)) dc_M_seed_12 rfl ?_
  refine g_v4 (pc := 13) (M' := mt_M_readReference) dc_M_seed_13 mo_M_readReference im_M_readReference se_M_readReference ln_M_297 rfl rfl rfl (Nat.le_of_ble_eq_true rfl) (Nat.le_of_ble_eq_true rfl) ?_
  refine g_iload_n (pc := 0) dc_M_readReference_0 rfl ?_
  refine g_istore (pc := 1) dc_M_readReference_1 (by decide) ?_
  refine g_iload_n (pc := 3) dc_M_readReference_3 rfl ?_
  refine g_istore (pc := 4) dc_M_readReference_4 (by decide) ?_
  refine g_iload (pc := 6) dc_M_readReference_6 rfl ?_
  refine g_iload (pc := 8) dc_M_readReference_8 rfl ?_
  refine g_icmp_ge (pc := 10) (tgt := 29) dc_M_readReference_10 rfl (fun _ => ?_) (fun hc => absurd hc (by decide))
  refine g_iload (pc := 29) dc_M_readReference_29 rfl ?_
  refine g_iload (pc := 31) dc_M_readReference_31 rfl ?_
  refine g_icmp_le (pc := 33) (tgt := 54) dc_M_readReference_33 rfl (fun _ => ?_) (fun hc => absurd hc (by decide))
  refine g_aload_n (pc := 54) dc_M_readReference_54 rfl ?_
  refine g_iload (pc := 55) dc_M_readReference_55 rfl ?_
  refine g_iload (pc := 57) dc_M_readReference_57 rfl ?_
  refine g_bipush (pc := 59) (v := 35) dc_M_readReference_59 rfl ?_
  refine g_s4 (pc := 61) (M' := mt_M_seek) dc_M_readReference_61 mo_M_seek st_M_seek ln_M_48 (Nat.le_of_ble_eq_true rfl) (Nat.le_of_ble_eq_true rfl) ?_
  refine g_iload_n (pc := 0) dc_M_seek_0 rfl ?_
  refine g_istore (pc := 1) dc_M_seek_1 (by decide) ?_
  refine g_iload (pc := 3) dc_M_seek_3 rfl ?_
  refine g_iload_n (pc := 5) dc_M_seek_5 rfl ?_
  refine g_icmp_ge (pc := 6) (tgt := 23) dc_M_seek_6 rfl (fun _ => ?_) (fun hc => absurd hc (by decide))
  refine g_iload (pc := 23) dc_M_seek_23 rfl ?_
  refine g_iretC (pc := 25) dc_M_seek_25 rfl ?_
  refine g_istore (pc := 64) dc_M_readReference_64 (by decide) ?_
  refine g_iload (pc := 66) dc_M_readReference_66 rfl ?_
  refine g_istore (pc := 68) dc_M_readReference_68 (by decide) ?_
  refine g_iload (pc := 70) dc_M_readReference_70 rfl ?_
  refine g_iload (pc := 72) dc_M_readReference_72 rfl ?_
  refine g_icmp_ge (pc := 74) (tgt := 96) dc_M_readReference_74 rfl (fun _ => ?_) (fun hc => absurd hc (by decide))
  refine g_aload_n (pc := 96) dc_M_readReference_96 rfl ?_
  refine g_iload (pc := 97) dc_M_readReference_97 rfl ?_
  refine g_iload (pc := 99) dc_M_readReference_99 rfl ?_
  refine g_bipush (pc := 101) (v := 58) dc_M_readReference_101 rfl ?_
  refine g_s4 (pc := 103) (M' := mt_M_seek) dc_M_readReference_103 mo_M_seek st_M_seek ln_M_48 (Nat.le_of_ble_eq_true rfl) (Nat.le_of_ble_eq_true rfl) ?_
  refine g_iload_n (pc := 0) dc_M_seek_0 rfl ?_
  refine g_istore (pc := 1) dc_M_seek_1 (by decide) ?_
  refine g_iload (pc := 3) dc_M_seek_3 rfl ?_
  refine g_iload_n (pc := 5) dc_M_seek_5 rfl ?_
  refine g_icmp_ge (pc := 6) (tgt := 23) dc_M_seek_6 rfl (fun _ => ?_) (fun hc => absurd hc (by decide))
  refine g_iload (pc := 23) dc_M_seek_23 rfl ?_
  refine g_iretC (pc := 25) dc_M_seek_25 rfl ?_
  refine g_istore (pc := 106) dc_M_readReference_106 (by decide) ?_
  refine g_aload_n (pc := 108) dc_M_readReference_108 rfl ?_
  refine g_iload (pc := 109) dc_M_readReference_109 rfl ?_
  refine g_iload (pc := 111) dc_M_readReference_111 rfl ?_
  refine g_bipush (pc := 113) (v := 47) dc_M_readReference_113 rfl ?_
  refine g_s4 (pc := 115) (M' := mt_M_seek) dc_M_readReference_115 mo_M_seek st_M_seek ln_M_48 (Nat.le_of_ble_eq_true rfl) (Nat.le_of_ble_eq_true rfl) ?_
  refine g_iload_n (pc := 0) dc_M_seek_0 rfl ?_
  refine g_istore (pc := 1) dc_M_seek_1 (by decide) ?_
  refine g_iload (pc := 3) dc_M_seek_3 rfl ?_
  refine g_iload_n (pc := 5) dc_M_seek_5 rfl ?_
  refine g_icmp_ge (pc := 6) (tgt := 23) dc_M_seek_6 rfl (fun _ => ?_) (fun hc => absurd hc (by decide))
  refine g_iload (pc := 23) dc_M_seek_23 rfl ?_
  refine g_iretC (pc := 25) dc_M_seek_25 rfl ?_
  refine g_istore (pc := 118) dc_M_readReference_118 (by decide) ?_
  refine g_aload_n (pc := 120) dc_M_readReference_120 rfl ?_
  refine g_iload (pc := 121) dc_M_readReference_121 rfl ?_
  refine g_iload (pc := 123) dc_M_readReference_123 rfl ?_
  refine g_bipush (pc := 125) (v := 63) dc_M_readReference_125 rfl ?_
  refine g_s4 (pc := 127) (M' := mt_M_seek) dc_M_readReference_127 mo_M_seek st_M_seek ln_M_48 (Nat.le_of_ble_eq_true rfl) (Nat.le_of_ble_eq_true rfl) ?_
  refine g_iload_n (pc := 0) dc_M_seek_0 rfl ?_
  refine g_istore (pc := 1) dc_M_seek_1 (by decide) ?_
  refine g_iload (pc := 3) dc_M_seek_3 rfl ?_
  refine g_iload_n (pc := 5) dc_M_seek_5 rfl ?_
  refine g_icmp_ge (pc := 6) (tgt := 23) dc_M_seek_6 rfl (fun _ => ?_) (fun hc => absurd hc (by decide))
  refine g_iload (pc := 23) dc_M_seek_23 rfl ?_
  refine g_iretC (pc := 25) dc_M_seek_25 rfl ?_
  refine g_istore (pc := 130) dc_M_readReference_130 (by decide) ?_
  refine g_iload (pc := 132) dc_M_readReference_132 rfl ?_
  refine g_iload (pc := 134) dc_M_readReference_134 rfl ?_
  refine g_icmp_ge (pc := 136) (tgt := 198) dc_M_readReference_136 rfl (fun _ => ?_) (fun hc => absurd hc (by decide))
  refine g_iload (pc := 198) dc_M_readReference_198 rfl ?_
  refine g_iconst (pc := 200) (v := 1) dc_M_readReference_200 rfl ?_
  refine g_iadd (pc := 201) (v := 1) dc_M_readReference_201 (by decide) ?_
  refine g_iload (pc := 202) dc_M_readReference_202 rfl ?_
  refine g_icmp_ge (pc := 204) (tgt := 307) dc_M_readReference_204 rfl (fun _ => ?_) (fun hc => absurd hc (by decide))
  refine g_iload (pc := 307) dc_M_readReference_307 rfl ?_
  refine g_if_ge (pc := 309) (tgt := 314) dc_M_readReference_309 rfl (fun hc => absurd hc (by decide)) (fun _ => ?_)
  refine g_iconst (pc := 312) (v := 0) dc_M_readReference_312 rfl ?_
  refine g_zretC (pc := 313) dc_M_readReference_313 rfl rfl ?_
  refine g_if_eq (pc := 16) (tgt := 28) dc_M_seed_16 rfl (fun _ => ?_) (fun hc => absurd hc (by decide))
  refine g_iconst (pc := 28) (v := (-1)) dc_M_seed_28 rfl ?_
  refine g_iretC (pc := 29) dc_M_seed_29 rfl ?_
  refine g_icmp_eq (pc := 455) (tgt := 873) dc_L_law_455 rfl (fun _ => ?_) (fun hc => absurd hc (by decide))
  refine g_iinc (pc := 873) (v := 6) dc_L_law_873 rfl (by decide) (by decide) ?_
  refine g_goto (pc := 876) (tgt := 23) dc_L_law_876 rfl ?_
  refine g_iload (pc := 23) dc_L_law_23 rfl ?_
  refine g_xload_n (pc := 25) dc_L_law_25 rfl ?_
  refine g_scriptLenV (pc := 26) (n := 6) dc_L_law_26 hL rfl ?_
  refine g_bipush (pc := 27) (v := 6) dc_L_law_27 rfl ?_
  refine g_isub (pc := 29) (v := 0) dc_L_law_29 (by decide) ?_
  refine g_icmp_gt (pc := 30) (tgt := 879) dc_L_law_30 rfl (fun _ => ?_) (fun hc => absurd hc (by decide))
  refine g_iconst (pc := 879) (v := 1) dc_L_law_879 rfl ?_
  exact g_zreturn dc_L_law_880 rfl rfl ⟨rfl, (Nat.le_of_ble_eq_true rfl), am_bz (by (repeat (first | refine am_bw rfl ?_ | refine am_bA rfl ?_ | refine am_bB rfl ?_ | refine am_bC rfl ?_)); exact am_b0 (Nat.le_of_ble_eq_true rfl))⟩
set_option maxRecDepth 20000 in
set_option maxHeartbeats 1000000 in
theorem p1_10 {X : am_X} {p0 p1 p2 p3 p4 p5 : Int32} (hl9 : X.1.stackTraces = false) (hL : X.2.2.2.2.2.1 = 6) (e0 : X.2.2.2.2.2.2 (Int32.toNatClampNeg 0) = p0) (e1 : X.2.2.2.2.2.2 (Int32.toNatClampNeg 1) = p1) (e2 : X.2.2.2.2.2.2 (Int32.toNatClampNeg 2) = p2) (e3 : X.2.2.2.2.2.2 (Int32.toNatClampNeg 3) = p3) (e4 : X.2.2.2.2.2.2 (Int32.toNatClampNeg 4) = p4) (e5 : X.2.2.2.2.2.2 (Int32.toNatClampNeg 5) = p5) : am_G X mt_L_law 60 460 lo_0 [] hp_0 (fun r h => r = some (.int 1) ∧ h.length ≤ 600002 ∧ am_sl h ≤ 7302232) := by
  refine g_aload_n (pc := 460) dc_L_law_460 rfl ?_
  refine g_v0 (pc := 461) (M' := mt_W_noSeeds) dc_L_law_461 mo_W_noSeeds im_W_noSeeds se_W_noSeeds ln_L_73 rfl rfl rfl (Nat.le_of_ble_eq_true rfl) (Nat.le_of_ble_eq_true rfl) ?_
  refine g_aload_n (pc := 0) dc_W_noSeeds_0 rfl ?_
  refine g_getfield (pc := 1) dc_W_noSeeds_1 fl_W_56 rfl rfl ?_
  refine g_v0 (pc := 4) (M' := mt_R_clear) dc_W_noSeeds_4 mo_R_clear im_R_clear se_R_clear ln_W_156 rfl rfl rfl (Nat.le_of_ble_eq_true rfl) (Nat.le_of_ble_eq_true rfl) ?_
  refine g_aload_n (pc := 0) dc_R_clear_0 rfl ?_
  refine g_iconst (pc := 1) (v := 0) dc_R_clear_1 rfl ?_
  refine g_v1 (pc := 2) (M' := mt_R_cut) dc_R_clear_2 mo_R_cut im_R_cut se_R_cut ln_R_24 rfl rfl rfl (Nat.le_of_ble_eq_true rfl) (Nat.le_of_ble_eq_true rfl) ?_
  refine g_iload_n (pc := 0) dc_R_cut_0 rfl ?_
  refine g_aload_n (pc := 1) dc_R_cut_1 rfl ?_
  refine g_getfield (pc := 2) dc_R_cut_2 fl_R_27 rfl rfl ?_
  refine g_icmp_gt (pc := 5) (tgt := 25) dc_R_cut_5 rfl (fun hc => absurd hc (by decide)) (fun _ => ?_)
  refine g_aload_n (pc := 8) dc_R_cut_8 rfl ?_
  refine g_iload_n (pc := 9) dc_R_cut_9 rfl ?_
  refine g_putfield (pc := 10) dc_R_cut_10 fp_R_cut_27 rfl (Nat.le_of_ble_eq_true rfl) rfl rfl ?_
  refine g_aload_n (pc := 13) dc_R_cut_13 rfl ?_
  refine g_getfield (pc := 14) dc_R_cut_14 fl_R_14 rfl rfl ?_
  refine g_aload_n (pc := 17) dc_R_cut_17 rfl ?_
  refine g_iload_n (pc := 18) dc_R_cut_18 rfl ?_
  refine g_v1 (pc := 19) (M' := mt_R_from) dc_R_cut_19 mo_R_from im_R_from se_R_from ln_R_31 rfl rfl rfl (Nat.le_of_ble_eq_true rfl) (Nat.le_of_ble_eq_true rfl) ?_
  refine g_iload_n (pc := 0) dc_R_from_0 rfl ?_
  refine g_if_ne (pc := 1) (tgt := 8) dc_R_from_1 rfl (fun hc => absurd hc (by decide)) (fun _ => ?_)
  refine g_iconst (pc := 4) (v := 0) dc_R_from_4 rfl ?_
  refine g_goto (pc := 5) (tgt := 16) dc_R_from_5 rfl ?_
  refine g_iretC (pc := 16) dc_R_from_16 rfl ?_
  refine g_putfield (pc := 22) dc_R_cut_22 fp_R_cut_35 rfl (Nat.le_of_ble_eq_true rfl) rfl rfl ?_
  refine g_vretC (pc := 25) dc_R_cut_25 rfl ?_
  refine g_vretC (pc := 5) dc_R_clear_5 rfl ?_
  refine g_vretC (pc := 7) dc_W_noSeeds_7 rfl ?_
  refine g_aload_n (pc := 464) dc_L_law_464 rfl ?_
  refine g_v0 (pc := 465) (M' := mt_M_noSeeds) dc_L_law_465 mo_M_noSeeds im_M_noSeeds se_M_noSeeds ln_L_76 rfl rfl rfl (Nat.le_of_ble_eq_true rfl) (Nat.le_of_ble_eq_true rfl) ?_
  refine g_aload_n (pc := 0) dc_M_noSeeds_0 rfl ?_
  refine g_iconst (pc := 1) (v := 0) dc_M_noSeeds_1 rfl ?_
  refine g_putfield (pc := 2) dc_M_noSeeds_2 fp_M_noSeeds_1 rfl (Nat.le_of_ble_eq_true rfl) rfl rfl ?_
  refine g_aload_n (pc := 5) dc_M_noSeeds_5 rfl ?_
  refine g_iconst (pc := 6) (v := 0) dc_M_noSeeds_6 rfl ?_
  refine g_putfield (pc := 7) dc_M_noSeeds_7 fp_M_noSeeds_517 rfl (Nat.le_of_ble_eq_true rfl) rfl rfl ?_
  refine g_vretC (pc := 10) dc_M_noSeeds_10 rfl ?_
  refine g_goto (pc := 468) (tgt := 873) dc_L_law_468 rfl ?_
  refine g_iinc (pc := 873) (v := 6) dc_L_law_873 rfl (by decide) (by decide) ?_
  refine g_goto (pc := 876) (tgt := 23) dc_L_law_876 rfl ?_
  refine g_iload (pc := 23) dc_L_law_23 rfl ?_
  refine g_xload_n (pc := 25) dc_L_law_25 rfl ?_
  refine g_scriptLenV (pc := 26) (n := 6) dc_L_law_26 hL rfl ?_
  refine g_bipush (pc := 27) (v := 6) dc_L_law_27 rfl ?_
  refine g_isub (pc := 29) (v := 0) dc_L_law_29 (by decide) ?_
  refine g_icmp_gt (pc := 30) (tgt := 879) dc_L_law_30 rfl (fun _ => ?_) (fun hc => absurd hc (by decide))
  refine g_iconst (pc := 879) (v := 1) dc_L_law_879 rfl ?_
  exact g_zreturn dc_L_law_880 rfl rfl ⟨rfl, (Nat.le_of_ble_eq_true rfl), am_bz (by (repeat (first | refine am_bw rfl ?_ | refine am_bA rfl ?_ | refine am_bB rfl ?_ | refine am_bC rfl ?_)); exact am_b0 (Nat.le_of_ble_eq_true rfl))⟩
set_option maxRecDepth 20000 in
set_option maxHeartbeats 1000000 in
theorem p1_11 {X : am_X} {p0 p1 p2 p3 p4 p5 : Int32} (hl9 : X.1.stackTraces = false) (hL : X.2.2.2.2.2.1 = 6) (e0 : X.2.2.2.2.2.2 (Int32.toNatClampNeg 0) = p0) (e1 : X.2.2.2.2.2.2 (Int32.toNatClampNeg 1) = p1) (e2 : X.2.2.2.2.2.2 (Int32.toNatClampNeg 2) = p2) (e3 : X.2.2.2.2.2.2 (Int32.toNatClampNeg 3) = p3) (e4 : X.2.2.2.2.2.2 (Int32.toNatClampNeg 4) = p4) (e5 : X.2.2.2.2.2.2 (Int32.toNatClampNeg 5) = p5) : am_G X mt_L_law 60 471 lo_0 [] hp_0 (fun r h => r = some (.int 1) ∧ h.length ≤ 600002 ∧ am_sl h ≤ 7302232) := by
  refine g_aload_n (pc := 471) dc_L_law_471 rfl ?_
  refine g_v0 (pc := 472) (M' := mt_W_start) dc_L_law_472 mo_W_start im_W_start se_W_start ln_L_77 rfl rfl rfl (Nat.le_of_ble_eq_true rfl) (Nat.le_of_ble_eq_true rfl) ?_
  refine g_aload_n (pc := 0) dc_W_start_0 rfl ?_
  refine g_getfield (pc := 1) dc_W_start_1 fl_W_65 rfl rfl ?_
  refine g_aload_n (pc := 4) dc_W_start_4 rfl ?_
  refine g_getfield (pc := 5) dc_W_start_5 fl_W_56 rfl rfl ?_
  refine g_aload_n (pc := 8) dc_W_start_8 rfl ?_
  refine g_getfield (pc := 9) dc_W_start_9 fl_W_47 rfl rfl ?_
  refine g_v2 (pc := 12) (M' := mt_C_begin) dc_W_start_12 mo_C_begin im_C_begin se_C_begin ln_W_174 rfl rfl rfl (Nat.le_of_ble_eq_true rfl) (Nat.le_of_ble_eq_true rfl) ?_
  refine g_aload_n (pc := 0) dc_C_begin_0 rfl ?_
  refine g_iconst (pc := 1) (v := 0) dc_C_begin_1 rfl ?_
  refine g_aload_n (pc := 2) dc_C_begin_2 rfl ?_
  refine g_getfield (pc := 3) dc_C_begin_3 fl_C_38 rfl rfl ?_
  refine g_iconst (pc := 6) (v := 0) dc_C_begin_6 rfl ?_
  refine g_aload_n (pc := 7) dc_C_begin_7 rfl ?_
  refine g_getfield (pc := 8) dc_C_begin_8 fl_C_38 rfl rfl ?_
  refine g_alen (pc := 11) dc_C_begin_11 rfl (by decide) ?_
  refine g_arraycopy (pc := 12) (t := 1) (sp := 0) (dp := 0) (n := 4) dc_C_begin_12 (am_t6 61 rfl rfl) rfl rfl rfl rfl (by decide) (by decide) (by decide) (by decide) (Nat.le_of_ble_eq_true rfl) ?_
  refine g_aload_n (pc := 15) dc_C_begin_15 rfl ?_
  refine g_iconst (pc := 16) (v := 1) dc_C_begin_16 rfl ?_
  refine g_putfield (pc := 17) dc_C_begin_17 fp_C_begin_74 rfl (Nat.le_of_ble_eq_true rfl) rfl rfl ?_
  refine g_aload_n (pc := 20) dc_C_begin_20 rfl ?_
  refine g_iconst (pc := 21) (v := 0) dc_C_begin_21 rfl ?_
  refine g_putfield (pc := 22) dc_C_begin_22 fp_C_begin_78 rfl (Nat.le_of_ble_eq_true rfl) rfl rfl ?_
  refine g_aload_n (pc := 25) dc_C_begin_25 rfl ?_
  refine g_iconst (pc := 26) (v := (-1)) dc_C_begin_26 rfl ?_
  refine g_putfield (pc := 27) dc_C_begin_27 fp_C_begin_82 rfl (Nat.le_of_ble_eq_true rfl) rfl rfl ?_
  refine g_aload_n (pc := 30) dc_C_begin_30 rfl ?_
  refine g_iconst (pc := 31) (v := 0) dc_C_begin_31 rfl ?_
  refine g_putfield (pc := 32) dc_C_begin_32 fp_C_begin_85 rfl (Nat.le_of_ble_eq_true rfl) rfl rfl ?_
  refine g_aload_n (pc := 35) dc_C_begin_35 rfl ?_
  refine g_getfield (pc := 36) dc_C_begin_36 fl_C_31 rfl rfl ?_
  refine g_v0 (pc := 39) (M' := mt_R_clear) dc_C_begin_39 mo_R_clear im_R_clear se_R_clear ln_C_88 rfl rfl rfl (Nat.le_of_ble_eq_true rfl) (Nat.le_of_ble_eq_true rfl) ?_
  refine g_aload_n (pc := 0) dc_R_clear_0 rfl ?_
  refine g_iconst (pc := 1) (v := 0) dc_R_clear_1 rfl ?_
  refine g_v1 (pc := 2) (M' := mt_R_cut) dc_R_clear_2 mo_R_cut im_R_cut se_R_cut ln_R_24 rfl rfl rfl (Nat.le_of_ble_eq_true rfl) (Nat.le_of_ble_eq_true rfl) ?_
  refine g_iload_n (pc := 0) dc_R_cut_0 rfl ?_
  refine g_aload_n (pc := 1) dc_R_cut_1 rfl ?_
  refine g_getfield (pc := 2) dc_R_cut_2 fl_R_27 rfl rfl ?_
  refine g_icmp_gt (pc := 5) (tgt := 25) dc_R_cut_5 rfl (fun hc => absurd hc (by decide)) (fun _ => ?_)
  refine g_aload_n (pc := 8) dc_R_cut_8 rfl ?_
  refine g_iload_n (pc := 9) dc_R_cut_9 rfl ?_
  refine g_putfield (pc := 10) dc_R_cut_10 fp_R_cut_27 rfl (Nat.le_of_ble_eq_true rfl) rfl rfl ?_
  refine g_aload_n (pc := 13) dc_R_cut_13 rfl ?_
  refine g_getfield (pc := 14) dc_R_cut_14 fl_R_14 rfl rfl ?_
  refine g_aload_n (pc := 17) dc_R_cut_17 rfl ?_
  refine g_iload_n (pc := 18) dc_R_cut_18 rfl ?_
  refine g_v1 (pc := 19) (M' := mt_R_from) dc_R_cut_19 mo_R_from im_R_from se_R_from ln_R_31 rfl rfl rfl (Nat.le_of_ble_eq_true rfl) (Nat.le_of_ble_eq_true rfl) ?_
  refine g_iload_n (pc := 0) dc_R_from_0 rfl ?_
  refine g_if_ne (pc := 1) (tgt := 8) dc_R_from_1 rfl (fun hc => absurd hc (by decide)) (fun _ => ?_)
  refine g_iconst (pc := 4) (v := 0) dc_R_from_4 rfl ?_
  refine g_goto (pc := 5) (tgt := 16) dc_R_from_5 rfl ?_
  refine g_iretC (pc := 16) dc_R_from_16 rfl ?_
  refine g_putfield (pc := 22) dc_R_cut_22 fp_R_cut_35 rfl (Nat.le_of_ble_eq_true rfl) rfl rfl ?_
  refine g_vretC (pc := 25) dc_R_cut_25 rfl ?_
  refine g_vretC (pc := 5) dc_R_clear_5 rfl ?_
  refine g_aload_n (pc := 42) dc_C_begin_42 rfl ?_
  refine g_getfield (pc := 43) dc_C_begin_43 fl_C_14 rfl rfl ?_
  refine g_v0 (pc := 46) (M' := mt_R_clear) dc_C_begin_46 mo_R_clear im_R_clear se_R_clear ln_C_88 rfl rfl rfl (Nat.le_of_ble_eq_true rfl) (Nat.le_of_ble_eq_true rfl) ?_
  refine g_aload_n (pc := 0) dc_R_clear_0 rfl ?_
  refine g_iconst (pc := 1) (v := 0) dc_R_clear_1 rfl ?_
  refine g_v1 (pc := 2) (M' := mt_R_cut) dc_R_clear_2 mo_R_cut im_R_cut se_R_cut ln_R_24 rfl rfl rfl (Nat.le_of_ble_eq_true rfl) (Nat.le_of_ble_eq_true rfl) ?_
  refine g_iload_n (pc := 0) dc_R_cut_0 rfl ?_
  refine g_aload_n (pc := 1) dc_R_cut_1 rfl ?_
  refine g_getfield (pc := 2) dc_R_cut_2 fl_R_27 rfl rfl ?_
  refine g_icmp_gt (pc := 5) (tgt := 25) dc_R_cut_5 rfl (fun hc => absurd hc (by decide)) (fun _ => ?_)
  refine g_aload_n (pc := 8) dc_R_cut_8 rfl ?_
  refine g_iload_n (pc := 9) dc_R_cut_9 rfl ?_
  refine g_putfield (pc := 10) dc_R_cut_10 fp_R_cut_27 rfl (Nat.le_of_ble_eq_true rfl) rfl rfl ?_
  refine g_aload_n (pc := 13) dc_R_cut_13 rfl ?_
  refine g_getfield (pc := 14) dc_R_cut_14 fl_R_14 rfl rfl ?_
  refine g_aload_n (pc := 17) dc_R_cut_17 rfl ?_
  refine g_iload_n (pc := 18) dc_R_cut_18 rfl ?_
  refine g_v1 (pc := 19) (M' := mt_R_from) dc_R_cut_19 mo_R_from im_R_from se_R_from ln_R_31 rfl rfl rfl (Nat.le_of_ble_eq_true rfl) (Nat.le_of_ble_eq_true rfl) ?_
  refine g_iload_n (pc := 0) dc_R_from_0 rfl ?_
  refine g_if_ne (pc := 1) (tgt := 8) dc_R_from_1 rfl (fun hc => absurd hc (by decide)) (fun _ => ?_)
  refine g_iconst (pc := 4) (v := 0) dc_R_from_4 rfl ?_
  refine g_goto (pc := 5) (tgt := 16) dc_R_from_5 rfl ?_
  refine g_iretC (pc := 16) dc_R_from_16 rfl ?_
  refine g_putfield (pc := 22) dc_R_cut_22 fp_R_cut_35 rfl (Nat.le_of_ble_eq_true rfl) rfl rfl ?_
  refine g_vretC (pc := 25) dc_R_cut_25 rfl ?_
  refine g_vretC (pc := 5) dc_R_clear_5 rfl ?_
  refine g_iconst (pc := 49) (v := 0) dc_C_begin_49 rfl ?_
  refine g_istore_n (pc := 50) dc_C_begin_50 (by decide) ?_
  refine g_iload_n (pc := 51) dc_C_begin_51 rfl ?_
  refine g_aload_n (pc := 52) dc_C_begin_52 rfl ?_
  refine g_getfield (pc := 53) dc_C_begin_53 fl_C_91 rfl rfl ?_
  refine g_icmp_ge (pc := 56) (tgt := 89) dc_C_begin_56 rfl (fun _ => ?_) (fun hc => absurd hc (by decide))
  refine g_aload_n (pc := 89) dc_C_begin_89 rfl ?_
  refine g_v0 (pc := 90) (M' := mt_C_save) dc_C_begin_90 mo_C_save im_C_save se_C_save ln_C_112 rfl rfl rfl (Nat.le_of_ble_eq_true rfl) (Nat.le_of_ble_eq_true rfl) ?_
  refine g_aload_n (pc := 0) dc_C_save_0 rfl ?_
  refine g_aload_n (pc := 1) dc_C_save_1 rfl ?_
  refine g_getfield (pc := 2) dc_C_save_2 fl_C_14 rfl rfl ?_
  refine g_getfield (pc := 5) dc_C_save_5 fl_C_91 rfl rfl ?_
  refine g_putfield (pc := 8) dc_C_save_8 fp_C_save_215 rfl (Nat.le_of_ble_eq_true rfl) rfl rfl ?_
  refine g_aload_n (pc := 11) dc_C_save_11 rfl ?_
  refine g_aload_n (pc := 12) dc_C_save_12 rfl ?_
  refine g_getfield (pc := 13) dc_C_save_13 fl_C_22 rfl rfl ?_
  refine g_aload_n (pc := 16) dc_C_save_16 rfl ?_
  refine g_getfield (pc := 17) dc_C_save_17 fl_C_53 rfl rfl ?_
  refine g_v2 (pc := 20) (M' := mt_C_copyMarks) dc_C_save_20 mo_C_copyMarks im_C_copyMarks se_C_copyMarks ln_C_218 rfl rfl rfl (Nat.le_of_ble_eq_true rfl) (Nat.le_of_ble_eq_true rfl) ?_
  refine g_iconst (pc := 0) (v := 0) dc_C_copyMarks_0 rfl ?_
  refine g_istore_n (pc := 1) dc_C_copyMarks_1 (by decide) ?_
  refine g_iload_n (pc := 2) dc_C_copyMarks_2 rfl ?_
  refine g_iconst (pc := 3) (v := 4) dc_C_copyMarks_3 rfl ?_
  refine g_icmp_ge (pc := 4) (tgt := 28) dc_C_copyMarks_4 rfl (fun hc => absurd hc (by decide)) (fun _ => ?_)
  refine g_aload_n (pc := 7) dc_C_copyMarks_7 rfl ?_
  refine g_iload_n (pc := 8) dc_C_copyMarks_8 rfl ?_
  refine g_rowload (pc := 9) dc_C_copyMarks_9 rfl (am_vin rfl) rfl ?_
  refine g_iconst (pc := 10) (v := 0) dc_C_copyMarks_10 rfl ?_
  refine g_aload_n (pc := 11) dc_C_copyMarks_11 rfl ?_
  refine g_iload_n (pc := 12) dc_C_copyMarks_12 rfl ?_
  refine g_rowload (pc := 13) dc_C_copyMarks_13 rfl (am_vin rfl) rfl ?_
  refine g_iconst (pc := 14) (v := 0) dc_C_copyMarks_14 rfl ?_
  refine g_aload_n (pc := 15) dc_C_copyMarks_15 rfl ?_
  refine g_getfield (pc := 16) dc_C_copyMarks_16 fl_C_215 rfl rfl ?_
  refine g_arraycopy (pc := 19) (t := 1) (sp := 0) (dp := 0) (n := 0) dc_C_copyMarks_19 (am_t6 61 rfl rfl) rfl rfl rfl rfl (by decide) (by decide) (by decide) (fun i hi => absurd hi (by omega)) (Nat.le_of_ble_eq_true rfl) ?_
  refine g_iinc (pc := 22) (v := 1) dc_C_copyMarks_22 rfl (by decide) (by decide) ?_
  refine g_goto (pc := 25) (tgt := 2) dc_C_copyMarks_25 rfl ?_
  refine g_iload_n (pc := 2) dc_C_copyMarks_2 rfl ?_
  refine g_iconst (pc := 3) (v := 4) dc_C_copyMarks_3 rfl ?_
  refine g_icmp_ge (pc := 4) (tgt := 28) dc_C_copyMarks_4 rfl (fun hc => absurd hc (by decide)) (fun _ => ?_)
  refine g_aload_n (pc := 7) dc_C_copyMarks_7 rfl ?_
  refine g_iload_n (pc := 8) dc_C_copyMarks_8 rfl ?_
  refine g_rowload (pc := 9) dc_C_copyMarks_9 rfl (am_vin rfl) rfl ?_
  refine g_iconst (pc := 10) (v := 0) dc_C_copyMarks_10 rfl ?_
  refine g_aload_n (pc := 11) dc_C_copyMarks_11 rfl ?_
  refine g_iload_n (pc := 12) dc_C_copyMarks_12 rfl ?_
  refine g_rowload (pc := 13) dc_C_copyMarks_13 rfl (am_vin rfl) rfl ?_
  refine g_iconst (pc := 14) (v := 0) dc_C_copyMarks_14 rfl ?_
  refine g_aload_n (pc := 15) dc_C_copyMarks_15 rfl ?_
  refine g_getfield (pc := 16) dc_C_copyMarks_16 fl_C_215 rfl rfl ?_
  refine g_arraycopy (pc := 19) (t := 1) (sp := 0) (dp := 0) (n := 0) dc_C_copyMarks_19 (am_t6 61 rfl rfl) rfl rfl rfl rfl (by decide) (by decide) (by decide) (fun i hi => absurd hi (by omega)) (Nat.le_of_ble_eq_true rfl) ?_
  refine g_iinc (pc := 22) (v := 2) dc_C_copyMarks_22 rfl (by decide) (by decide) ?_
  refine g_goto (pc := 25) (tgt := 2) dc_C_copyMarks_25 rfl ?_
  refine g_iload_n (pc := 2) dc_C_copyMarks_2 rfl ?_
  refine g_iconst (pc := 3) (v := 4) dc_C_copyMarks_3 rfl ?_
  refine g_icmp_ge (pc := 4) (tgt := 28) dc_C_copyMarks_4 rfl (fun hc => absurd hc (by decide)) (fun _ => ?_)
  refine g_aload_n (pc := 7) dc_C_copyMarks_7 rfl ?_
  refine g_iload_n (pc := 8) dc_C_copyMarks_8 rfl ?_
  refine g_rowload (pc := 9) dc_C_copyMarks_9 rfl (am_vin rfl) rfl ?_
  refine g_iconst (pc := 10) (v := 0) dc_C_copyMarks_10 rfl ?_
  refine g_aload_n (pc := 11) dc_C_copyMarks_11 rfl ?_
  refine g_iload_n (pc := 12) dc_C_copyMarks_12 rfl ?_
  refine g_rowload (pc := 13) dc_C_copyMarks_13 rfl (am_vin rfl) rfl ?_
  refine g_iconst (pc := 14) (v := 0) dc_C_copyMarks_14 rfl ?_
  refine g_aload_n (pc := 15) dc_C_copyMarks_15 rfl ?_
  refine g_getfield (pc := 16) dc_C_copyMarks_16 fl_C_215 rfl rfl ?_
  refine g_arraycopy (pc := 19) (t := 1) (sp := 0) (dp := 0) (n := 0) dc_C_copyMarks_19 (am_t6 61 rfl rfl) rfl rfl rfl rfl (by decide) (by decide) (by decide) (fun i hi => absurd hi (by omega)) (Nat.le_of_ble_eq_true rfl) ?_
  refine g_iinc (pc := 22) (v := 3) dc_C_copyMarks_22 rfl (by decide) (by decide) ?_
  refine g_goto (pc := 25) (tgt := 2) dc_C_copyMarks_25 rfl ?_
  refine g_iload_n (pc := 2) dc_C_copyMarks_2 rfl ?_
  refine g_iconst (pc := 3) (v := 4) dc_C_copyMarks_3 rfl ?_
  refine g_icmp_ge (pc := 4) (tgt := 28) dc_C_copyMarks_4 rfl (fun hc => absurd hc (by decide)) (fun _ => ?_)
  refine g_aload_n (pc := 7) dc_C_copyMarks_7 rfl ?_
  refine g_iload_n (pc := 8) dc_C_copyMarks_8 rfl ?_
  refine g_rowload (pc := 9) dc_C_copyMarks_9 rfl (am_vin rfl) rfl ?_
  refine g_iconst (pc := 10) (v := 0) dc_C_copyMarks_10 rfl ?_
  refine g_aload_n (pc := 11) dc_C_copyMarks_11 rfl ?_
  refine g_iload_n (pc := 12) dc_C_copyMarks_12 rfl ?_
  refine g_rowload (pc := 13) dc_C_copyMarks_13 rfl (am_vin rfl) rfl ?_
  refine g_iconst (pc := 14) (v := 0) dc_C_copyMarks_14 rfl ?_
  refine g_aload_n (pc := 15) dc_C_copyMarks_15 rfl ?_
  refine g_getfield (pc := 16) dc_C_copyMarks_16 fl_C_215 rfl rfl ?_
  refine g_arraycopy (pc := 19) (t := 1) (sp := 0) (dp := 0) (n := 0) dc_C_copyMarks_19 (am_t6 61 rfl rfl) rfl rfl rfl rfl (by decide) (by decide) (by decide) (fun i hi => absurd hi (by omega)) (Nat.le_of_ble_eq_true rfl) ?_
  refine g_iinc (pc := 22) (v := 4) dc_C_copyMarks_22 rfl (by decide) (by decide) ?_
  refine g_goto (pc := 25) (tgt := 2) dc_C_copyMarks_25 rfl ?_
  refine g_iload_n (pc := 2) dc_C_copyMarks_2 rfl ?_
  refine g_iconst (pc := 3) (v := 4) dc_C_copyMarks_3 rfl ?_
  refine g_icmp_ge (pc := 4) (tgt := 28) dc_C_copyMarks_4 rfl (fun _ => ?_) (fun hc => absurd hc (by decide))
  refine g_vretC (pc := 28) dc_C_copyMarks_28 rfl ?_
  refine g_aload_n (pc := 23) dc_C_save_23 rfl ?_
  refine g_iconst (pc := 24) (v := 0) dc_C_save_24 rfl ?_
  refine g_putfield (pc := 25) dc_C_save_25 fp_C_save_177 rfl (Nat.le_of_ble_eq_true rfl) rfl rfl ?_
  refine g_vretC (pc := 28) dc_C_save_28 rfl ?_
  refine g_vretC (pc := 93) dc_C_begin_93 rfl ?_
  refine g_aload_n (pc := 15) dc_W_start_15 rfl ?_
  refine g_getfield (pc := 16) dc_W_start_16 fl_W_65 rfl rfl ?_
  refine g_getfield (pc := 19) dc_W_start_19 fl_W_178 rfl rfl ?_
  refine g_getfield (pc := 22) dc_W_start_22 fl_W_167 rfl rfl ?_
  refine g_iretC (pc := 25) dc_W_start_25 rfl ?_
  refine g_aload_n (pc := 475) dc_L_law_475 rfl ?_
  refine g_v0 (pc := 476) (M' := mt_M_start) dc_L_law_476 mo_M_start im_M_start se_M_start ln_L_80 rfl rfl rfl (Nat.le_of_ble_eq_true rfl) (Nat.le_of_ble_eq_true rfl) ?_
  refine g_aload_n (pc := 0) dc_M_start_0 rfl ?_
  refine g_iconst (pc := 1) (v := 0) dc_M_start_1 rfl ?_
  refine g_putfield (pc := 2) dc_M_start_2 fp_M_start_1 rfl (Nat.le_of_ble_eq_true rfl) rfl rfl ?_
  refine g_aload_n (pc := 5) dc_M_start_5 rfl ?_
  refine g_iconst (pc := 6) (v := 1) dc_M_start_6 rfl ?_
  refine g_putfield (pc := 7) dc_M_start_7 fp_M_start_520 rfl (Nat.le_of_ble_eq_true rfl) rfl rfl ?_
  refine g_aload_n (pc := 10) dc_M_start_10 rfl ?_
  refine g_iconst (pc := 11) (v := 0) dc_M_start_11 rfl ?_
  refine g_putfield (pc := 12) dc_M_start_12 fp_M_start_433 rfl (Nat.le_of_ble_eq_true rfl) rfl rfl ?_
  refine g_aload_n (pc := 15) dc_M_start_15 rfl ?_
  refine g_iconst (pc := 16) (v := 0) dc_M_start_16 rfl ?_
  refine g_putfield (pc := 17) dc_M_start_17 fp_M_start_412 rfl (Nat.le_of_ble_eq_true rfl) rfl rfl ?_
  refine g_aload_n (pc := 20) dc_M_start_20 rfl ?_
  refine g_iconst (pc := 21) (v := 0) dc_M_start_21 rfl ?_
  refine g_putfield (pc := 22) dc_M_start_22 fp_M_start_436 rfl (Nat.le_of_ble_eq_true rfl) rfl rfl ?_
  refine g_aload_n (pc := 25) dc_M_start_25 rfl ?_
  refine g_iconst (pc := 26) (v := 0) dc_M_start_26 rfl ?_
  refine g_putfield (pc := 27) dc_M_start_27 fp_M_start_427 rfl (Nat.le_of_ble_eq_true rfl) rfl rfl ?_
  refine g_aload_n (pc := 30) dc_M_start_30 rfl ?_
  refine g_iconst (pc := 31) (v := (-1)) dc_M_start_31 rfl ?_
  refine g_putfield (pc := 32) dc_M_start_32 fp_M_start_430 rfl (Nat.le_of_ble_eq_true rfl) rfl rfl ?_
  refine g_iconst (pc := 35) (v := 0) dc_M_start_35 rfl ?_
  refine g_istore_n (pc := 36) dc_M_start_36 (by decide) ?_
  refine g_iload_n (pc := 37) dc_M_start_37 rfl ?_
  refine g_iconst (pc := 38) (v := 4) dc_M_start_38 rfl ?_
  refine g_icmp_ge (pc := 39) (tgt := 60) dc_M_start_39 rfl (fun hc => absurd hc (by decide)) (fun _ => ?_)
  refine g_aload_n (pc := 42) dc_M_start_42 rfl ?_
  refine g_getfield (pc := 43) dc_M_start_43 fl_M_350 rfl rfl ?_
  refine g_iload_n (pc := 46) dc_M_start_46 rfl ?_
  refine g_aload_n (pc := 47) dc_M_start_47 rfl ?_
  refine g_getfield (pc := 48) dc_M_start_48 fl_M_347 rfl rfl ?_
  refine g_iload_n (pc := 51) dc_M_start_51 rfl ?_
  refine g_iaload (pc := 52) dc_M_start_52 rfl (am_vin rfl) ?_
  refine g_iastore (pc := 53) dc_M_start_53 rfl (am_vin rfl) ?_
  refine g_iinc (pc := 54) (v := 1) dc_M_start_54 rfl (by decide) (by decide) ?_
  refine g_goto (pc := 57) (tgt := 37) dc_M_start_57 rfl ?_
  refine g_iload_n (pc := 37) dc_M_start_37 rfl ?_
  refine g_iconst (pc := 38) (v := 4) dc_M_start_38 rfl ?_
  refine g_icmp_ge (pc := 39) (tgt := 60) dc_M_start_39 rfl (fun hc => absurd hc (by decide)) (fun _ => ?_)
  refine g_aload_n (pc := 42) dc_M_start_42 rfl ?_
  refine g_getfield (pc := 43) dc_M_start_43 fl_M_350 rfl rfl ?_
  refine g_iload_n (pc := 46) dc_M_start_46 rfl ?_
  refine g_aload_n (pc := 47) dc_M_start_47 rfl ?_
  refine g_getfield (pc := 48) dc_M_start_48 fl_M_347 rfl rfl ?_
  refine g_iload_n (pc := 51) dc_M_start_51 rfl ?_
  refine g_iaload (pc := 52) dc_M_start_52 rfl (am_vin rfl) ?_
  refine g_iastore (pc := 53) dc_M_start_53 rfl (am_vin rfl) ?_
  refine g_iinc (pc := 54) (v := 2) dc_M_start_54 rfl (by decide) (by decide) ?_
  refine g_goto (pc := 57) (tgt := 37) dc_M_start_57 rfl ?_
  refine g_iload_n (pc := 37) dc_M_start_37 rfl ?_
  refine g_iconst (pc := 38) (v := 4) dc_M_start_38 rfl ?_
  refine g_icmp_ge (pc := 39) (tgt := 60) dc_M_start_39 rfl (fun hc => absurd hc (by decide)) (fun _ => ?_)
  refine g_aload_n (pc := 42) dc_M_start_42 rfl ?_
  refine g_getfield (pc := 43) dc_M_start_43 fl_M_350 rfl rfl ?_
  refine g_iload_n (pc := 46) dc_M_start_46 rfl ?_
  refine g_aload_n (pc := 47) dc_M_start_47 rfl ?_
  refine g_getfield (pc := 48) dc_M_start_48 fl_M_347 rfl rfl ?_
  refine g_iload_n (pc := 51) dc_M_start_51 rfl ?_
  refine g_iaload (pc := 52) dc_M_start_52 rfl (am_vin rfl) ?_
  refine g_iastore (pc := 53) dc_M_start_53 rfl (am_vin rfl) ?_
  refine g_iinc (pc := 54) (v := 3) dc_M_start_54 rfl (by decide) (by decide) ?_
  refine g_goto (pc := 57) (tgt := 37) dc_M_start_57 rfl ?_
  refine g_iload_n (pc := 37) dc_M_start_37 rfl ?_
  refine g_iconst (pc := 38) (v := 4) dc_M_start_38 rfl ?_
  refine g_icmp_ge (pc := 39) (tgt := 60) dc_M_start_39 rfl (fun hc => absurd hc (by decide)) (fun _ => ?_)
  refine g_aload_n (pc := 42) dc_M_start_42 rfl ?_
  refine g_getfield (pc := 43) dc_M_start_43 fl_M_350 rfl rfl ?_
  refine g_iload_n (pc := 46) dc_M_start_46 rfl ?_
  refine g_aload_n (pc := 47) dc_M_start_47 rfl ?_
  refine g_getfield (pc := 48) dc_M_start_48 fl_M_347 rfl rfl ?_
  refine g_iload_n (pc := 51) dc_M_start_51 rfl ?_
  refine g_iaload (pc := 52) dc_M_start_52 rfl (am_vin rfl) ?_
  refine g_iastore (pc := 53) dc_M_start_53 rfl (am_vin rfl) ?_
  refine g_iinc (pc := 54) (v := 4) dc_M_start_54 rfl (by decide) (by decide) ?_
  refine g_goto (pc := 57) (tgt := 37) dc_M_start_57 rfl ?_
  refine g_iload_n (pc := 37) dc_M_start_37 rfl ?_
  refine g_iconst (pc := 38) (v := 4) dc_M_start_38 rfl ?_
  refine g_icmp_ge (pc := 39) (tgt := 60) dc_M_start_39 rfl (fun _ => ?_) (fun hc => absurd hc (by decide))
  refine g_iconst (pc := 60) (v := 0) dc_M_start_60 rfl ?_
  refine g_istore_n (pc := 61) dc_M_start_61 (by decide) ?_
  refine g_iload_n (pc := 62) dc_M_start_62 rfl ?_
  refine g_aload_n (pc := 63) dc_M_start_63 rfl ?_
  refine g_getfield (pc := 64) dc_M_start_64 fl_M_517 rfl rfl ?_
  refine g_icmp_ge (pc := 67) (tgt := 88) dc_M_start_67 rfl (fun _ => ?_) (fun hc => absurd hc (by decide))
  refine g_aload_n (pc := 88) dc_M_start_88 rfl ?_
  refine g_v0 (pc := 89) (M' := mt_M_save) dc_M_start_89 mo_M_save im_M_save se_M_save ln_M_523 rfl rfl rfl (Nat.le_of_ble_eq_true rfl) (Nat.le_of_ble_eq_true rfl) ?_
  refine g_iconst (pc := 0) (v := 0) dc_M_save_0 rfl ?_
  refine g_istore_n (pc := 1) dc_M_save_1 (by decide) ?_
  refine g_iload_n (pc := 2) dc_M_save_2 rfl ?_
  refine g_bipush (pc := 3) (v := 6) dc_M_save_3 rfl ?_
  refine g_aload_n (pc := 5) dc_M_save_5 rfl ?_
  refine g_getfield (pc := 6) dc_M_save_6 fl_M_412 rfl rfl ?_
  refine g_imul (pc := 9) (v := 0) dc_M_save_9 (by decide) ?_
  refine g_icmp_ge (pc := 10) (tgt := 31) dc_M_save_10 rfl (fun _ => ?_) (fun hc => absurd hc (by decide))
  refine g_aload_n (pc := 31) dc_M_save_31 rfl ?_
  refine g_aload_n (pc := 32) dc_M_save_32 rfl ?_
  refine g_getfield (pc := 33) dc_M_save_33 fl_M_412 rfl rfl ?_
  refine g_putfield (pc := 36) dc_M_save_36 fp_M_save_421 rfl (Nat.le_of_ble_eq_true rfl) rfl rfl ?_
  refine g_aload_n (pc := 39) dc_M_save_39 rfl ?_
  refine g_iconst (pc := 40) (v := 0) dc_M_save_40 rfl ?_
  refine g_putfield (pc := 41) dc_M_save_41 fp_M_save_424 rfl (Nat.le_of_ble_eq_true rfl) rfl rfl ?_
  refine g_vretC (pc := 44) dc_M_save_44 rfl ?_
  refine g_aload_n (pc := 92) dc_M_start_92 rfl ?_
  refine g_getfield (pc := 93) dc_M_start_93 fl_M_412 rfl rfl ?_
  refine g_iretC (pc := 96) dc_M_start_96 rfl ?_
  refine g_icmp_eq (pc := 479) (tgt := 873) dc_L_law_479 rfl (fun _ => ?_) (fun hc => absurd hc (by decide))
  refine g_iinc (pc := 873) (v := 6) dc_L_law_873 rfl (by decide) (by decide) ?_
  refine g_goto (pc := 876) (tgt := 23) dc_L_law_876 rfl ?_
  refine g_iload (pc := 23) dc_L_law_23 rfl ?_
  refine g_xload_n (pc := 25) dc_L_law_25 rfl ?_
  refine g_scriptLenV (pc := 26) (n := 6) dc_L_law_26 hL rfl ?_
  refine g_bipush (pc := 27) (v := 6) dc_L_law_27 rfl ?_
  refine g_isub (pc := 29) (v := 0) dc_L_law_29 (by decide) ?_
  refine g_icmp_gt (pc := 30) (tgt := 879) dc_L_law_30 rfl (fun _ => ?_) (fun hc => absurd hc (by decide))
  refine g_iconst (pc := 879) (v := 1) dc_L_law_879 rfl ?_
  exact g_zreturn dc_L_law_880 rfl rfl ⟨rfl, (Nat.le_of_ble_eq_true rfl), am_bz (by (repeat (first | refine am_bw rfl ?_ | refine am_bA rfl ?_ | refine am_bB rfl ?_ | refine am_bC rfl ?_)); exact am_b0 (Nat.le_of_ble_eq_true rfl))⟩
set_option maxRecDepth 20000 in
set_option maxHeartbeats 1000000 in
theorem p1_12 {X : am_X} {p0 p1 p2 p3 p4 p5 : Int32} (hl9 : X.1.stackTraces = false) (hL : X.2.2.2.2.2.1 = 6) (e0 : X.2.2.2.2.2.2 (Int32.toNatClampNeg 0) = p0) (e1 : X.2.2.2.2.2.2 (Int32.toNatClampNeg 1) = p1) (e2 : X.2.2.2.2.2.2 (Int32.toNatClampNeg 2) = p2) (e3 : X.2.2.2.2.2.2 (Int32.toNatClampNeg 3) = p3) (e4 : X.2.2.2.2.2.2 (Int32.toNatClampNeg 4) = p4) (e5 : X.2.2.2.2.2.2 (Int32.toNatClampNeg 5) = p5) : am_G X mt_L_law 60 484 lo_0 [] hp_0 (fun r h => r = some (.int 1) ∧ h.length ≤ 600002 ∧ am_sl h ≤ 7302232) := by
  refine g_aload_n (pc := 484) dc_L_law_484 rfl ?_
  refine g_v0 (pc := 485) (M' := mt_W_step) dc_L_law_485 mo_W_step im_W_step se_W_step ln_L_81 rfl rfl rfl (Nat.le_of_ble_eq_true rfl) (Nat.le_of_ble_eq_true rfl) ?_
  refine g_aload_n (pc := 0) dc_W_step_0 rfl ?_
  refine g_getfield (pc := 1) dc_W_step_1 fl_W_65 rfl rfl ?_
  refine g_v0 (pc := 4) (M' := mt_C_takeStep) dc_W_step_4 mo_C_takeStep im_C_takeStep se_C_takeStep ln_W_180 rfl rfl rfl (Nat.le_of_ble_eq_true rfl) (Nat.le_of_ble_eq_true rfl) ?_
  refine g_aload_n (pc := 0) dc_C_takeStep_0 rfl ?_
  refine g_v0 (pc := 1) (M' := mt_C_nextWaiting) dc_C_takeStep_1 mo_C_nextWaiting im_C_nextWaiting se_C_nextWaiting ln_C_115 rfl rfl rfl (Nat.le_of_ble_eq_true rfl) (Nat.le_of_ble_eq_true rfl) ?_
  refine g_iconst (pc := 0) (v := (-1)) dc_C_nextWaiting_0 rfl ?_
  refine g_istore_n (pc := 1) dc_C_nextWaiting_1 (by decide) ?_
  refine g_iconst (pc := 2) (v := 0) dc_C_nextWaiting_2 rfl ?_
  refine g_istore_n (pc := 3) dc_C_nextWaiting_3 (by decide) ?_
  refine g_iload_n (pc := 4) dc_C_nextWaiting_4 rfl ?_
  refine g_aload_n (pc := 5) dc_C_nextWaiting_5 rfl ?_
  refine g_getfield (pc := 6) dc_C_nextWaiting_6 fl_C_14 rfl rfl ?_
  refine g_getfield (pc := 9) dc_C_nextWaiting_9 fl_C_91 rfl rfl ?_
  refine g_icmp_ge (pc := 12) (tgt := 64) dc_C_nextWaiting_12 rfl (fun _ => ?_) (fun hc => absurd hc (by decide))
  refine g_iload_n (pc := 64) dc_C_nextWaiting_64 rfl ?_
  refine g_iretC (pc := 65) dc_C_nextWaiting_65 rfl ?_
  refine g_istore_n (pc := 4) dc_C_takeStep_4 (by decide) ?_
  refine g_iload_n (pc := 5) dc_C_takeStep_5 rfl ?_
  refine g_iconst (pc := 6) (v := (-1)) dc_C_takeStep_6 rfl ?_
  refine g_icmp_ne (pc := 7) (tgt := 12) dc_C_takeStep_7 rfl (fun hc => absurd hc (by decide)) (fun _ => ?_)
  refine g_iconst (pc := 10) (v := (-1)) dc_C_takeStep_10 rfl ?_
  refine g_iretC (pc := 11) dc_C_takeStep_11 rfl ?_
  refine g_iretC (pc := 7) dc_W_step_7 rfl ?_
  refine g_aload_n (pc := 488) dc_L_law_488 rfl ?_
  refine g_v0 (pc := 489) (M' := mt_M_step) dc_L_law_489 mo_M_step im_M_step se_M_step ln_L_84 rfl rfl rfl (Nat.le_of_ble_eq_true rfl) (Nat.le_of_ble_eq_true rfl) ?_
  refine g_aload_n (pc := 0) dc_M_step_0 rfl ?_
  refine g_iconst (pc := 1) (v := 0) dc_M_step_1 rfl ?_
  refine g_putfield (pc := 2) dc_M_step_2 fp_M_step_1 rfl (Nat.le_of_ble_eq_true rfl) rfl rfl ?_
  refine g_aload_n (pc := 5) dc_M_step_5 rfl ?_
  refine g_getfield (pc := 6) dc_M_step_6 fl_M_520 rfl rfl ?_
  refine g_if_eq (pc := 9) (tgt := 19) dc_M_step_9 rfl (fun _ => ?_) (fun hc => absurd hc (by decide))
  refine g_iconst (pc := 19) (v := (-1)) dc_M_step_19 rfl ?_
  refine g_istore_n (pc := 20) dc_M_step_20 (by decide) ?_
  refine g_iload_n (pc := 21) dc_M_step_21 rfl ?_
  refine g_if_ge (pc := 22) (tgt := 27) dc_M_step_22 rfl (fun hc => absurd hc (by decide)) (fun _ => ?_)
  refine g_iconst (pc := 25) (v := (-1)) dc_M_step_25 rfl ?_
  refine g_iretC (pc := 26) dc_M_step_26 rfl ?_
  refine g_icmp_eq (pc := 492) (tgt := 873) dc_L_law_492 rfl (fun _ => ?_) (fun hc => absurd hc (by decide))
  refine g_iinc (pc := 873) (v := 6) dc_L_law_873 rfl (by decide) (by decide) ?_
  refine g_goto (pc := 876) (tgt := 23) dc_L_law_876 rfl ?_
  refine g_iload (pc := 23) dc_L_law_23 rfl ?_
  refine g_xload_n (pc := 25) dc_L_law_25 rfl ?_
  refine g_scriptLenV (pc := 26) (n := 6) dc_L_law_26 hL rfl ?_
  refine g_bipush (pc := 27) (v := 6) dc_L_law_27 rfl ?_
  refine g_isub (pc := 29) (v := 0) dc_L_law_29 (by decide) ?_
  refine g_icmp_gt (pc := 30) (tgt := 879) dc_L_law_30 rfl (fun _ => ?_) (fun hc => absurd hc (by decide))
  refine g_iconst (pc := 879) (v := 1) dc_L_law_879 rfl ?_
  exact g_zreturn dc_L_law_880 rfl rfl ⟨rfl, (Nat.le_of_ble_eq_true rfl), am_bz (by (repeat (first | refine am_bw rfl ?_ | refine am_bA rfl ?_ | refine am_bB rfl ?_ | refine am_bC rfl ?_)); exact am_b0 (Nat.le_of_ble_eq_true rfl))⟩
set_option maxRecDepth 20000 in
set_option maxHeartbeats 1000000 in
theorem p1_13 {X : am_X} {p0 p1 p2 p3 p4 p5 : Int32} (hl9 : X.1.stackTraces = false) (hL : X.2.2.2.2.2.1 = 6) (e0 : X.2.2.2.2.2.2 (Int32.toNatClampNeg 0) = p0) (e1 : X.2.2.2.2.2.2 (Int32.toNatClampNeg 1) = p1) (e2 : X.2.2.2.2.2.2 (Int32.toNatClampNeg 2) = p2) (e3 : X.2.2.2.2.2.2 (Int32.toNatClampNeg 3) = p3) (e4 : X.2.2.2.2.2.2 (Int32.toNatClampNeg 4) = p4) (e5 : X.2.2.2.2.2.2 (Int32.toNatClampNeg 5) = p5) : am_G X mt_L_law 60 497 lo_0 [] hp_0 (fun r h => r = some (.int 1) ∧ h.length ≤ 600002 ∧ am_sl h ≤ 7302232) := by
  refine g_aload_n (pc := 497) dc_L_law_497 rfl ?_
  refine g_xload_n (pc := 498) dc_L_law_498 rfl ?_
  refine g_iload (pc := 499) dc_L_law_499 rfl ?_
  refine g_iconst (pc := 501) (v := 1) dc_L_law_501 rfl ?_
  refine g_iadd (pc := 502) (v := 1) dc_L_law_502 (by decide) ?_
  refine g_scriptLoadV (pc := 503) dc_L_law_503 (by rw [hL]; exact am_vin rfl) e1 ?_
  refine g_v1 (pc := 504) (M' := mt_W_run) dc_L_law_504 mo_W_run im_W_run se_W_run ln_L_85 rfl rfl rfl (Nat.le_of_ble_eq_true rfl) (Nat.le_of_ble_eq_true rfl) ?_
  refine g_aload_n (pc := 0) dc_W_run_0 rfl ?_
  refine g_getfield (pc := 1) dc_W_run_1 fl_W_65 rfl rfl ?_
  refine g_getfield (pc := 4) dc_W_run_4 fl_W_183 rfl rfl ?_
  refine g_if_eq (pc := 7) (tgt := 14) dc_W_run_7 rfl (fun _ => ?_) (fun hc => absurd hc (by decide))
  refine g_iconst (pc := 14) (v := (-1)) dc_W_run_14 rfl ?_
  refine g_iretC (pc := 15) dc_W_run_15 rfl ?_
  refine g_aload_n (pc := 507) dc_L_law_507 rfl ?_
  refine g_xload_n (pc := 508) dc_L_law_508 rfl ?_
  refine g_iload (pc := 509) dc_L_law_509 rfl ?_
  refine g_iconst (pc := 511) (v := 1) dc_L_law_511 rfl ?_
  refine g_iadd (pc := 512) (v := 1) dc_L_law_512 (by decide) ?_
  refine g_scriptLoadV (pc := 513) dc_L_law_513 (by rw [hL]; exact am_vin rfl) e1 ?_
  refine g_v1 (pc := 514) (M' := mt_M_run) dc_L_law_514 mo_M_run im_M_run se_M_run ln_L_88 rfl rfl rfl (Nat.le_of_ble_eq_true rfl) (Nat.le_of_ble_eq_true rfl) ?_
  refine g_aload_n (pc := 0) dc_M_run_0 rfl ?_
  refine g_iconst (pc := 1) (v := 0) dc_M_run_1 rfl ?_
  refine g_putfield (pc := 2) dc_M_run_2 fp_M_run_1 rfl (Nat.le_of_ble_eq_true rfl) rfl rfl ?_
  refine g_aload_n (pc := 5) dc_M_run_5 rfl ?_
  refine g_getfield (pc := 6) dc_M_run_6 fl_M_520 rfl rfl ?_
  refine g_if_eq (pc := 9) (tgt := 16) dc_M_run_9 rfl (fun _ => ?_) (fun hc => absurd hc (by decide))
  refine g_iconst (pc := 16) (v := (-1)) dc_M_run_16 rfl ?_
  refine g_iretC (pc := 17) dc_M_run_17 rfl ?_
  refine g_icmp_eq (pc := 517) (tgt := 873) dc_L_law_517 rfl (fun _ => ?_) (fun hc => absurd hc (by decide))
  refine g_iinc (pc := 873) (v := 6) dc_L_law_873 rfl (by decide) (by decide) ?_
  refine g_goto (pc := 876) (tgt := 23) dc_L_law_876 rfl ?_
  refine g_iload (pc := 23) dc_L_law_23 rfl ?_
  refine g_xload_n (pc := 25) dc_L_law_25 rfl ?_
  refine g_scriptLenV (pc := 26) (n := 6) dc_L_law_26 hL rfl ?_
  refine g_bipush (pc := 27) (v := 6) dc_L_law_27 rfl ?_
  refine g_isub (pc := 29) (v := 0) dc_L_law_29 (by decide) ?_
  refine g_icmp_gt (pc := 30) (tgt := 879) dc_L_law_30 rfl (fun _ => ?_) (fun hc => absurd hc (by decide))
  refine g_iconst (pc := 879) (v := 1) dc_L_law_879 rfl ?_
  exact g_zreturn dc_L_law_880 rfl rfl ⟨rfl, (Nat.le_of_ble_eq_true rfl), am_bz (by (repeat (first | refine am_bw rfl ?_ | refine am_bA rfl ?_ | refine am_bB rfl ?_ | refine am_bC rfl ?_)); exact am_b0 (Nat.le_of_ble_eq_true rfl))⟩
set_option maxRecDepth 20000 in
set_option maxHeartbeats 1000000 in
theorem p1_14 {X : am_X} {p0 p1 p2 p3 p4 p5 : Int32} (hl9 : X.1.stackTraces = false) (hL : X.2.2.2.2.2.1 = 6) (e0 : X.2.2.2.2.2.2 (Int32.toNatClampNeg 0) = p0) (e1 : X.2.2.2.2.2.2 (Int32.toNatClampNeg 1) = p1) (e2 : X.2.2.2.2.2.2 (Int32.toNatClampNeg 2) = p2) (e3 : X.2.2.2.2.2.2 (Int32.toNatClampNeg 3) = p3) (e4 : X.2.2.2.2.2.2 (Int32.toNatClampNeg 4) = p4) (e5 : X.2.2.2.2.2.2 (Int32.toNatClampNeg 5) = p5) : am_G X mt_L_law 60 522 lo_0 [] hp_0 (fun r h => r = some (.int 1) ∧ h.length ≤ 600002 ∧ am_sl h ≤ 7302232) := by
  refine g_aload_n (pc := 522) dc_L_law_522 rfl ?_
  refine g_v0 (pc := 523) (M' := mt_W_crash) dc_L_law_523 mo_W_crash im_W_crash se_W_crash ln_L_89 rfl rfl rfl (Nat.le_of_ble_eq_true rfl) (Nat.le_of_ble_eq_true rfl) ?_
  refine g_aload_n (pc := 0) dc_W_crash_0 rfl ?_
  refine g_getfield (pc := 1) dc_W_crash_1 fl_W_65 rfl rfl ?_
  refine g_getfield (pc := 4) dc_W_crash_4 fl_W_183 rfl rfl ?_
  refine g_if_eq (pc := 7) (tgt := 17) dc_W_crash_7 rfl (fun _ => ?_) (fun hc => absurd hc (by decide))
  refine g_aload_n (pc := 17) dc_W_crash_17 rfl ?_
  refine g_getfield (pc := 18) dc_W_crash_18 fl_W_65 rfl rfl ?_
  refine g_getfield (pc := 21) dc_W_crash_21 fl_W_183 rfl rfl ?_
  refine g_zretC (pc := 24) dc_W_crash_24 rfl rfl ?_
  refine g_aload_n (pc := 526) dc_L_law_526 rfl ?_
  refine g_v0 (pc := 527) (M' := mt_M_crash) dc_L_law_527 mo_M_crash im_M_crash se_M_crash ln_L_92 rfl rfl rfl (Nat.le_of_ble_eq_true rfl) (Nat.le_of_ble_eq_true rfl) ?_
  refine g_aload_n (pc := 0) dc_M_crash_0 rfl ?_
  refine g_iconst (pc := 1) (v := 0) dc_M_crash_1 rfl ?_
  refine g_putfield (pc := 2) dc_M_crash_2 fp_M_crash_1 rfl (Nat.le_of_ble_eq_true rfl) rfl rfl ?_
  refine g_aload_n (pc := 5) dc_M_crash_5 rfl ?_
  refine g_getfield (pc := 6) dc_M_crash_6 fl_M_520 rfl rfl ?_
  refine g_if_eq (pc := 9) (tgt := 69) dc_M_crash_9 rfl (fun _ => ?_) (fun hc => absurd hc (by decide))
  refine g_aload_n (pc := 69) dc_M_crash_69 rfl ?_
  refine g_getfield (pc := 70) dc_M_crash_70 fl_M_520 rfl rfl ?_
  refine g_zretC (pc := 73) dc_M_crash_73 rfl rfl ?_
  refine g_icmp_eq (pc := 530) (tgt := 873) dc_L_law_530 rfl (fun _ => ?_) (fun hc => absurd hc (by decide))
  refine g_iinc (pc := 873) (v := 6) dc_L_law_873 rfl (by decide) (by decide) ?_
  refine g_goto (pc := 876) (tgt := 23) dc_L_law_876 rfl ?_
  refine g_iload (pc := 23) dc_L_law_23 rfl ?_
  refine g_xload_n (pc := 25) dc_L_law_25 rfl ?_
  refine g_scriptLenV (pc := 26) (n := 6) dc_L_law_26 hL rfl ?_
  refine g_bipush (pc := 27) (v := 6) dc_L_law_27 rfl ?_
  refine g_isub (pc := 29) (v := 0) dc_L_law_29 (by decide) ?_
  refine g_icmp_gt (pc := 30) (tgt := 879) dc_L_law_30 rfl (fun _ => ?_) (fun hc => absurd hc (by decide))
  refine g_iconst (pc := 879) (v := 1) dc_L_law_879 rfl ?_
  exact g_zreturn dc_L_law_880 rfl rfl ⟨rfl, (Nat.le_of_ble_eq_true rfl), am_bz (by (repeat (first | refine am_bw rfl ?_ | refine am_bA rfl ?_ | refine am_bB rfl ?_ | refine am_bC rfl ?_)); exact am_b0 (Nat.le_of_ble_eq_true rfl))⟩
set_option maxRecDepth 20000 in
set_option maxHeartbeats 1000000 in
theorem p1_15 {X : am_X} {p0 p1 p2 p3 p4 p5 : Int32} (hl9 : X.1.stackTraces = false) (hL : X.2.2.2.2.2.1 = 6) (e0 : X.2.2.2.2.2.2 (Int32.toNatClampNeg 0) = p0) (e1 : X.2.2.2.2.2.2 (Int32.toNatClampNeg 1) = p1) (e2 : X.2.2.2.2.2.2 (Int32.toNatClampNeg 2) = p2) (e3 : X.2.2.2.2.2.2 (Int32.toNatClampNeg 3) = p3) (e4 : X.2.2.2.2.2.2 (Int32.toNatClampNeg 4) = p4) (e5 : X.2.2.2.2.2.2 (Int32.toNatClampNeg 5) = p5) : am_G X mt_L_law 60 535 lo_0 [] hp_0 (fun r h => r = some (.int 1) ∧ h.length ≤ 600002 ∧ am_sl h ≤ 7302232) := by
  refine g_aload_n (pc := 535) dc_L_law_535 rfl ?_
  refine g_v0 (pc := 536) (M' := mt_W_clock) dc_L_law_536 mo_W_clock im_W_clock se_W_clock ln_L_93 rfl rfl rfl (Nat.le_of_ble_eq_true rfl) (Nat.le_of_ble_eq_true rfl) ?_
  refine g_aload_n (pc := 0) dc_W_clock_0 rfl ?_
  refine g_getfield (pc := 1) dc_W_clock_1 fl_W_65 rfl rfl ?_
  refine g_getfield (pc := 4) dc_W_clock_4 fl_W_183 rfl rfl ?_
  refine g_if_eq (pc := 7) (tgt := 20) dc_W_clock_7 rfl (fun _ => ?_) (fun hc => absurd hc (by decide))
  refine g_iconst (pc := 20) (v := (-1)) dc_W_clock_20 rfl ?_
  refine g_iretC (pc := 21) dc_W_clock_21 rfl ?_
  refine g_aload_n (pc := 539) dc_L_law_539 rfl ?_
  refine g_v0 (pc := 540) (M' := mt_M_clock) dc_L_law_540 mo_M_clock im_M_clock se_M_clock ln_L_96 rfl rfl rfl (Nat.le_of_ble_eq_true rfl) (Nat.le_of_ble_eq_true rfl) ?_
  refine g_aload_n (pc := 0) dc_M_clock_0 rfl ?_
  refine g_iconst (pc := 1) (v := 0) dc_M_clock_1 rfl ?_
  refine g_putfield (pc := 2) dc_M_clock_2 fp_M_clock_1 rfl (Nat.le_of_ble_eq_true rfl) rfl rfl ?_
  refine g_aload_n (pc := 5) dc_M_clock_5 rfl ?_
  refine g_getfield (pc := 6) dc_M_clock_6 fl_M_520 rfl rfl ?_
  refine g_if_eq (pc := 9) (tgt := 19) dc_M_clock_9 rfl (fun _ => ?_) (fun hc => absurd hc (by decide))
  refine g_iconst (pc := 19) (v := (-1)) dc_M_clock_19 rfl ?_
  refine g_iretC (pc := 20) dc_M_clock_20 rfl ?_
  refine g_icmp_eq (pc := 543) (tgt := 873) dc_L_law_543 rfl (fun _ => ?_) (fun hc => absurd hc (by decide))
  refine g_iinc (pc := 873) (v := 6) dc_L_law_873 rfl (by decide) (by decide) ?_
  refine g_goto (pc := 876) (tgt := 23) dc_L_law_876 rfl ?_
  refine g_iload (pc := 23) dc_L_law_23 rfl ?_
  refine g_xload_n (pc := 25) dc_L_law_25 rfl ?_
  refine g_scriptLenV (pc := 26) (n := 6) dc_L_law_26 hL rfl ?_
  refine g_bipush (pc := 27) (v := 6) dc_L_law_27 rfl ?_
  refine g_isub (pc := 29) (v := 0) dc_L_law_29 (by decide) ?_
  refine g_icmp_gt (pc := 30) (tgt := 879) dc_L_law_30 rfl (fun _ => ?_) (fun hc => absurd hc (by decide))
  refine g_iconst (pc := 879) (v := 1) dc_L_law_879 rfl ?_
  exact g_zreturn dc_L_law_880 rfl rfl ⟨rfl, (Nat.le_of_ble_eq_true rfl), am_bz (by (repeat (first | refine am_bw rfl ?_ | refine am_bA rfl ?_ | refine am_bB rfl ?_ | refine am_bC rfl ?_)); exact am_b0 (Nat.le_of_ble_eq_true rfl))⟩
set_option maxRecDepth 20000 in
set_option maxHeartbeats 1000000 in
theorem p1_16 {X : am_X} {p0 p1 p2 p3 p4 p5 : Int32} (hl9 : X.1.stackTraces = false) (hL : X.2.2.2.2.2.1 = 6) (e0 : X.2.2.2.2.2.2 (Int32.toNatClampNeg 0) = p0) (e1 : X.2.2.2.2.2.2 (Int32.toNatClampNeg 1) = p1) (e2 : X.2.2.2.2.2.2 (Int32.toNatClampNeg 2) = p2) (e3 : X.2.2.2.2.2.2 (Int32.toNatClampNeg 3) = p3) (e4 : X.2.2.2.2.2.2 (Int32.toNatClampNeg 4) = p4) (e5 : X.2.2.2.2.2.2 (Int32.toNatClampNeg 5) = p5) : am_G X mt_L_law 60 548 lo_0 [] hp_0 (fun r h => r = some (.int 1) ∧ h.length ≤ 600002 ∧ am_sl h ≤ 7302232) := by
  rcases am_p5 p1 with rfl | rfl | rfl | rfl | rfl | hq | hq
  · refine g_aload_n (pc := 548) dc_L_law_548 rfl ?_
    refine g_xload_n (pc := 549) dc_L_law_549 rfl ?_
    refine g_iload (pc := 550) dc_L_law_550 rfl ?_
    refine g_iconst (pc := 552) (v := 1) dc_L_law_552 rfl ?_
    refine g_iadd (pc := 553) (v := 1) dc_L_law_553 (by decide) ?_
    refine g_scriptLoadV (pc := 554) dc_L_law_554 (by rw [hL]; exact am_vin rfl) e1 ?_
    refine g_v1 (pc := 555) (M' := mt_W_count) dc_L_law_555 mo_W_count im_W_count se_W_count ln_L_97 rfl rfl rfl (Nat.le_of_ble_eq_true rfl) (Nat.le_of_ble_eq_true rfl) ?_
    refine g_iload_n (pc := 0) dc_W_count_0 rfl ?_
    refine g_tableIn (pc := 1) (off := 35) (tgt := 36) dc_W_count_1 (by decide) (by decide) rfl rfl ?_
    refine g_aload_n (pc := 36) dc_W_count_36 rfl ?_
    refine g_getfield (pc := 37) dc_W_count_37 fl_W_43 rfl rfl ?_
    refine g_getfield (pc := 40) dc_W_count_40 fl_W_199 rfl rfl ?_
    refine g_iretC (pc := 43) dc_W_count_43 rfl ?_
    refine g_aload_n (pc := 558) dc_L_law_558 rfl ?_
    refine g_xload_n (pc := 559) dc_L_law_559 rfl ?_
    refine g_iload (pc := 560) dc_L_law_560 rfl ?_
    refine g_iconst (pc := 562) (v := 1) dc_L_law_562 rfl ?_
    refine g_iadd (pc := 563) (v := 1) dc_L_law_563 (by decide) ?_
    refine g_scriptLoadV (pc := 564) dc_L_law_564 (by rw [hL]; exact am_vin rfl) e1 ?_
    refine g_v1 (pc := 565) (M' := mt_M_count) dc_L_law_565 mo_M_count im_M_count se_M_count ln_L_100 rfl rfl rfl (Nat.le_of_ble_eq_true rfl) (Nat.le_of_ble_eq_true rfl) ?_
    refine g_aload_n (pc := 0) dc_M_count_0 rfl ?_
    refine g_iconst (pc := 1) (v := 0) dc_M_count_1 rfl ?_
    refine g_putfield (pc := 2) dc_M_count_2 fp_M_count_1 rfl (Nat.le_of_ble_eq_true rfl) rfl rfl ?_
    refine g_iload_n (pc := 5) dc_M_count_5 rfl ?_
    refine g_if_eq (pc := 6) (tgt := 14) dc_M_count_6 rfl (fun _ => ?_) (fun hc => absurd hc (by decide))
    refine g_iload_n (pc := 14) dc_M_count_14 rfl ?_
    refine g_if_ne (pc := 15) (tgt := 25) dc_M_count_15 rfl (fun hc => absurd hc (by decide)) (fun _ => ?_)
    refine g_aload_n (pc := 18) dc_M_count_18 rfl ?_
    refine g_getfield (pc := 19) dc_M_count_19 fl_M_312 rfl rfl ?_
    refine g_goto (pc := 22) (tgt := 29) dc_M_count_22 rfl ?_
    refine g_iretC (pc := 29) dc_M_count_29 rfl ?_
    refine g_icmp_eq (pc := 568) (tgt := 873) dc_L_law_568 rfl (fun _ => ?_) (fun hc => absurd hc (by decide))
    refine g_iinc (pc := 873) (v := 6) dc_L_law_873 rfl (by decide) (by decide) ?_
    refine g_goto (pc := 876) (tgt := 23) dc_L_law_876 rfl ?_
    refine g_iload (pc := 23) dc_L_law_23 rfl ?_
    refine g_xload_n (pc := 25) dc_L_law_25 rfl ?_
    refine g_scriptLenV (pc := 26) (n := 6) dc_L_law_26 hL rfl ?_
    refine g_bipush (pc := 27) (v := 6) dc_L_law_27 rfl ?_
    refine g_isub (pc := 29) (v := 0) dc_L_law_29 (by decide) ?_
    refine g_icmp_gt (pc := 30) (tgt := 879) dc_L_law_30 rfl (fun _ => ?_) (fun hc => absurd hc (by decide))
    refine g_iconst (pc := 879) (v := 1) dc_L_law_879 rfl ?_
    exact g_zreturn dc_L_law_880 rfl rfl ⟨rfl, (Nat.le_of_ble_eq_true rfl), am_bz (by (repeat (first | refine am_bw rfl ?_ | refine am_bA rfl ?_ | refine am_bB rfl ?_ | refine am_bC rfl ?_)); exact am_b0 (Nat.le_of_ble_eq_true rfl))⟩
  · refine g_aload_n (pc := 548) dc_L_law_548 rfl ?_
    refine g_xload_n (pc := 549) dc_L_law_549 rfl ?_
    refine g_iload (pc := 550) dc_L_law_550 rfl ?_
    refine g_iconst (pc := 552) (v := 1) dc_L_law_552 rfl ?_
    refine g_iadd (pc := 553) (v := 1) dc_L_law_553 (by decide) ?_
    refine g_scriptLoadV (pc := 554) dc_L_law_554 (by rw [hL]; exact am_vin rfl) e1 ?_
    refine g_v1 (pc := 555) (M' := mt_W_count) dc_L_law_555 mo_W_count im_W_count se_W_count ln_L_97 rfl rfl rfl (Nat.le_of_ble_eq_true rfl) (Nat.le_of_ble_eq_true rfl) ?_
    refine g_iload_n (pc := 0) dc_W_count_0 rfl ?_
    refine g_tableIn (pc := 1) (off := 43) (tgt := 44) dc_W_count_1 (by decide) (by decide) rfl rfl ?_
    refine g_aload_n (pc := 44) dc_W_count_44 rfl ?_
    refine g_getfield (pc := 45) dc_W_count_45 fl_W_56 rfl rfl ?_
    refine g_getfield (pc := 48) dc_W_count_48 fl_W_167 rfl rfl ?_
    refine g_iretC (pc := 51) dc_W_count_51 rfl ?_
    refine g_aload_n (pc := 558) dc_L_law_558 rfl ?_
    refine g_xload_n (pc := 559) dc_L_law_559 rfl ?_
    refine g_iload (pc := 560) dc_L_law_560 rfl ?_
    refine g_iconst (pc := 562) (v := 1) dc_L_law_562 rfl ?_
    refine g_iadd (pc := 563) (v := 1) dc_L_law_563 (by decide) ?_
    refine g_scriptLoadV (pc := 564) dc_L_law_564 (by rw [hL]; exact am_vin rfl) e1 ?_
    refine g_v1 (pc := 565) (M' := mt_M_count) dc_L_law_565 mo_M_count im_M_count se_M_count ln_L_100 rfl rfl rfl (Nat.le_of_ble_eq_true rfl) (Nat.le_of_ble_eq_true rfl) ?_
    refine g_aload_n (pc := 0) dc_M_count_0 rfl ?_
    refine g_iconst (pc := 1) (v := 0) dc_M_count_1 rfl ?_
    refine g_putfield (pc := 2) dc_M_count_2 fp_M_count_1 rfl (Nat.le_of_ble_eq_true rfl) rfl rfl ?_
    refine g_iload_n (pc := 5) dc_M_count_5 rfl ?_
    refine g_if_eq (pc := 6) (tgt := 14) dc_M_count_6 rfl (fun hc => absurd hc (by decide)) (fun _ => ?_)
    refine g_iload_n (pc := 9) dc_M_count_9 rfl ?_
    refine g_iconst (pc := 10) (v := 1) dc_M_count_10 rfl ?_
    refine g_icmp_ne (pc := 11) (tgt := 30) dc_M_count_11 rfl (fun hc => absurd hc (by decide)) (fun _ => ?_)
    refine g_iload_n (pc := 14) dc_M_count_14 rfl ?_
    refine g_if_ne (pc := 15) (tgt := 25) dc_M_count_15 rfl (fun _ => ?_) (fun hc => absurd hc (by decide))
    refine g_aload_n (pc := 25) dc_M_count_25 rfl ?_
    refine g_getfield (pc := 26) dc_M_count_26 fl_M_517 rfl rfl ?_
    refine g_iretC (pc := 29) dc_M_count_29 rfl ?_
    refine g_icmp_eq (pc := 568) (tgt := 873) dc_L_law_568 rfl (fun _ => ?_) (fun hc => absurd hc (by decide))
    refine g_iinc (pc := 873) (v := 6) dc_L_law_873 rfl (by decide) (by decide) ?_
    refine g_goto (pc := 876) (tgt := 23) dc_L_law_876 rfl ?_
    refine g_iload (pc := 23) dc_L_law_23 rfl ?_
    refine g_xload_n (pc := 25) dc_L_law_25 rfl ?_
    refine g_scriptLenV (pc := 26) (n := 6) dc_L_law_26 hL rfl ?_
    refine g_bipush (pc := 27) (v := 6) dc_L_law_27 rfl ?_
    refine g_isub (pc := 29) (v := 0) dc_L_law_29 (by decide) ?_
    refine g_icmp_gt (pc := 30) (tgt := 879) dc_L_law_30 rfl (fun _ => ?_) (fun hc => absurd hc (by decide))
    refine g_iconst (pc := 879) (v := 1) dc_L_law_879 rfl ?_
    exact g_zreturn dc_L_law_880 rfl rfl ⟨rfl, (Nat.le_of_ble_eq_true rfl), am_bz (by (repeat (first | refine am_bw rfl ?_ | refine am_bA rfl ?_ | refine am_bB rfl ?_ | refine am_bC rfl ?_)); exact am_b0 (Nat.le_of_ble_eq_true rfl))⟩
  · refine g_aload_n (pc := 548) dc_L_law_548 rfl ?_
    refine g_xload_n (pc := 549) dc_L_law_549 rfl ?_
    refine g_iload (pc := 550) dc_L_law_550 rfl ?_
    refine g_iconst (pc := 552) (v := 1) dc_L_law_552 rfl ?_
    refine g_iadd (pc := 553) (v := 1) dc_L_law_553 (by decide) ?_
    refine g_scriptLoadV (pc := 554) dc_L_law_554 (by rw [hL]; exact am_vin rfl) e1 ?_
    refine g_v1 (pc := 555) (M' := mt_W_count) dc_L_law_555 mo_W_count im_W_count se_W_count ln_L_97 rfl rfl rfl (Nat.le_of_ble_eq_true rfl) (Nat.le_of_ble_eq_true rfl) ?_
    refine g_iload_n (pc := 0) dc_W_count_0 rfl ?_
    refine g_tableIn (pc := 1) (off := 51) (tgt := 52) dc_W_count_1 (by decide) (by decide) rfl rfl ?_
    refine g_aload_n (pc := 52) dc_W_count_52 rfl ?_
    refine g_getfield (pc := 53) dc_W_count_53 fl_W_65 rfl rfl ?_
    refine g_getfield (pc := 56) dc_W_count_56 fl_W_178 rfl rfl ?_
    refine g_getfield (pc := 59) dc_W_count_59 fl_W_167 rfl rfl ?_
    refine g_iretC (pc := 62) dc_W_count_62 rfl ?_
    refine g_aload_n (pc := 558) dc_L_law_558 rfl ?_
    refine g_xload_n (pc := 559) dc_L_law_559 rfl ?_
    refine g_iload (pc := 560) dc_L_law_560 rfl ?_
    refine g_iconst (pc := 562) (v := 1) dc_L_law_562 rfl ?_
    refine g_iadd (pc := 563) (v := 1) dc_L_law_563 (by decide) ?_
    refine g_scriptLoadV (pc := 564) dc_L_law_564 (by rw [hL]; exact am_vin rfl) e1 ?_
    refine g_v1 (pc := 565) (M' := mt_M_count) dc_L_law_565 mo_M_count im_M_count se_M_count ln_L_100 rfl rfl rfl (Nat.le_of_ble_eq_true rfl) (Nat.le_of_ble_eq_true rfl) ?_
    refine g_aload_n (pc := 0) dc_M_count_0 rfl ?_
    refine g_iconst (pc := 1) (v := 0) dc_M_count_1 rfl ?_
    refine g_putfield (pc := 2) dc_M_count_2 fp_M_count_1 rfl (Nat.le_of_ble_eq_true rfl) rfl rfl ?_
    refine g_iload_n (pc := 5) dc_M_count_5 rfl ?_
    refine g_if_eq (pc := 6) (tgt := 14) dc_M_count_6 rfl (fun hc => absurd hc (by decide)) (fun _ => ?_)
    refine g_iload_n (pc := 9) dc_M_count_9 rfl ?_
    refine g_iconst (pc := 10) (v := 1) dc_M_count_10 rfl ?_
    refine g_icmp_ne (pc := 11) (tgt := 30) dc_M_count_11 rfl (fun _ => ?_) (fun hc => absurd hc (by decide))
    refine g_iload_n (pc := 30) dc_M_count_30 rfl ?_
    refine g_if_lt (pc := 31) (tgt := 39) dc_M_count_31 rfl (fun hc => absurd hc (by decide)) (fun _ => ?_)
    refine g_iload_n (pc := 34) dc_M_count_34 rfl ?_
    refine g_iconst (pc := 35) (v := 4) dc_M_count_35 rfl ?_
    refine g_icmp_le (pc := 36) (tgt := 41) dc_M_count_36 rfl (fun _ => ?_) (fun hc => absurd hc (by decide))
    refine g_iconst (pc := 41) (v := 0) dc_M_count_41 rfl ?_
    refine g_istore_n (pc := 42) dc_M_count_42 (by decide) ?_
    refine g_iconst (pc := 43) (v := 0) dc_M_count_43 rfl ?_
    refine g_istore_n (pc := 44) dc_M_count_44 (by decide) ?_
    refine g_iload_n (pc := 45) dc_M_count_45 rfl ?_
    refine g_aload_n (pc := 46) dc_M_count_46 rfl ?_
    refine g_getfield (pc := 47) dc_M_count_47 fl_M_412 rfl rfl ?_
    refine g_icmp_ge (pc := 50) (tgt := 77) dc_M_count_50 rfl (fun _ => ?_) (fun hc => absurd hc (by decide))
    refine g_iload_n (pc := 77) dc_M_count_77 rfl ?_
    refine g_iconst (pc := 78) (v := 2) dc_M_count_78 rfl ?_
    refine g_icmp_ne (pc := 79) (tgt := 89) dc_M_count_79 rfl (fun hc => absurd hc (by decide)) (fun _ => ?_)
    refine g_aload_n (pc := 82) dc_M_count_82 rfl ?_
    refine g_getfield (pc := 83) dc_M_count_83 fl_M_412 rfl rfl ?_
    refine g_goto (pc := 86) (tgt := 102) dc_M_count_86 rfl ?_
    refine g_iretC (pc := 102) dc_M_count_102 rfl ?_
    refine g_icmp_eq (pc := 568) (tgt := 873) dc_L_law_568 rfl (fun _ => ?_) (fun hc => absurd hc (by decide))
    refine g_iinc (pc := 873) (v := 6) dc_L_law_873 rfl (by decide) (by decide) ?_
    refine g_goto (pc := 876) (tgt := 23) dc_L_law_876 rfl ?_
    refine g_iload (pc := 23) dc_L_law_23 rfl ?_
    refine g_xload_n (pc := 25) dc_L_law_25 rfl ?_
    refine g_scriptLenV (pc := 26) (n := 6) dc_L_law_26 hL rfl ?_
    refine g_bipush (pc := 27) (v := 6) dc_L_law_27 rfl ?_
    refine g_isub (pc := 29) (v := 0) dc_L_law_29 (by decide) ?_
    refine g_icmp_gt (pc := 30) (tgt := 879) dc_L_law_30 rfl (fun _ => ?_) (fun hc => absurd hc (by decide))
    refine g_iconst (pc := 879) (v := 1) dc_L_law_879 rfl ?_
    exact g_zreturn dc_L_law_880 rfl rfl ⟨rfl, (Nat.le_of_ble_eq_true rfl), am_bz (by (repeat (first | refine am_bw rfl ?_ | refine am_bA rfl ?_ | refine am_bB rfl ?_ | refine am_bC rfl ?_)); exact am_b0 (Nat.le_of_ble_eq_true rfl))⟩
  · refine g_aload_n (pc := 548) dc_L_law_548 rfl ?_
    refine g_xload_n (pc := 549) dc_L_law_549 rfl ?_
    refine g_iload (pc := 550) dc_L_law_550 rfl ?_
    refine g_iconst (pc := 552) (v := 1) dc_L_law_552 rfl ?_
    refine g_iadd (pc := 553) (v := 1) dc_L_law_553 (by decide) ?_
    refine g_scriptLoadV (pc := 554) dc_L_law_554 (by rw [hL]; exact am_vin rfl) e1 ?_
    refine g_v1 (pc := 555) (M' := mt_W_count) dc_L_law_555 mo_W_count im_W_count se_W_count ln_L_97 rfl rfl rfl (Nat.le_of_ble_eq_true rfl) (Nat.le_of_ble_eq_true rfl) ?_
    refine g_iload_n (pc := 0) dc_W_count_0 rfl ?_
    refine g_tableIn (pc := 1) (off := 62) (tgt := 63) dc_W_count_1 (by decide) (by decide) rfl rfl ?_
    refine g_aload_n (pc := 63) dc_W_count_63 rfl ?_
    refine g_getfield (pc := 64) dc_W_count_64 fl_W_65 rfl rfl ?_
    refine g_v0 (pc := 67) (M' := mt_C_waiting) dc_W_count_67 mo_C_waiting im_C_waiting se_C_waiting ln_W_202 rfl rfl rfl (Nat.le_of_ble_eq_true rfl) (Nat.le_of_ble_eq_true rfl) ?_
    refine g_iconst (pc := 0) (v := 0) dc_C_waiting_0 rfl ?_
    refine g_istore_n (pc := 1) dc_C_waiting_1 (by decide) ?_
    refine g_iconst (pc := 2) (v := 0) dc_C_waiting_2 rfl ?_
    refine g_istore_n (pc := 3) dc_C_waiting_3 (by decide) ?_
    refine g_iload_n (pc := 4) dc_C_waiting_4 rfl ?_
    refine g_aload_n (pc := 5) dc_C_waiting_5 rfl ?_
    refine g_getfield (pc := 6) dc_C_waiting_6 fl_C_14 rfl rfl ?_
    refine g_getfield (pc := 9) dc_C_waiting_9 fl_C_91 rfl rfl ?_
    refine g_icmp_ge (pc := 12) (tgt := 36) dc_C_waiting_12 rfl (fun _ => ?_) (fun hc => absurd hc (by decide))
    refine g_iload_n (pc := 36) dc_C_waiting_36 rfl ?_
    refine g_iretC (pc := 37) dc_C_waiting_37 rfl ?_
    refine g_iretC (pc := 70) dc_W_count_70 rfl ?_
    refine g_aload_n (pc := 558) dc_L_law_558 rfl ?_
    refine g_xload_n (pc := 559) dc_L_law_559 rfl ?_
    refine g_iload (pc := 560) dc_L_law_560 rfl ?_
    refine g_iconst (pc := 562) (v := 1) dc_L_law_562 rfl ?_
    refine g_iadd (pc := 563) (v := 1) dc_L_law_563 (by decide) ?_
    refine g_scriptLoadV (pc := 564) dc_L_law_564 (by rw [hL]; exact am_vin rfl) e1 ?_
    refine g_v1 (pc := 565) (M' := mt_M_count) dc_L_law_565 mo_M_count im_M_count se_M_count ln_L_100 rfl rfl rfl (Nat.le_of_ble_eq_true rfl) (Nat.le_of_ble_eq_true rfl) ?_
    refine g_aload_n (pc := 0) dc_M_count_0 rfl ?_
    refine g_iconst (pc := 1) (v := 0) dc_M_count_1 rfl ?_
    refine g_putfield (pc := 2) dc_M_count_2 fp_M_count_1 rfl (Nat.le_of_ble_eq_true rfl) rfl rfl ?_
    refine g_iload_n (pc := 5) dc_M_count_5 rfl ?_
    refine g_if_eq (pc := 6) (tgt := 14) dc_M_count_6 rfl (fun hc => absurd hc (by decide)) (fun _ => ?_)
    refine g_iload_n (pc := 9) dc_M_count_9 rfl ?_
    refine g_iconst (pc := 10) (v := 1) dc_M_count_10 rfl ?_
    refine g_icmp_ne (pc := 11) (tgt := 30) dc_M_count_11 rfl (fun _ => ?_) (fun hc => absurd hc (by decide))
    refine g_iload_n (pc := 30) dc_M_count_30 rfl ?_
    refine g_if_lt (pc := 31) (tgt := 39) dc_M_count_31 rfl (fun hc => absurd hc (by decide)) (fun _ => ?_)
    refine g_iload_n (pc := 34) dc_M_count_34 rfl ?_
    refine g_iconst (pc := 35) (v := 4) dc_M_count_35 rfl ?_
    refine g_icmp_le (pc := 36) (tgt := 41) dc_M_count_36 rfl (fun _ => ?_) (fun hc => absurd hc (by decide))
    refine g_iconst (pc := 41) (v := 0) dc_M_count_41 rfl ?_
    refine g_istore_n (pc := 42) dc_M_count_42 (by decide) ?_
    refine g_iconst (pc := 43) (v := 0) dc_M_count_43 rfl ?_
    refine g_istore_n (pc := 44) dc_M_count_44 (by decide) ?_
    refine g_iload_n (pc := 45) dc_M_count_45 rfl ?_
    refine g_aload_n (pc := 46) dc_M_count_46 rfl ?_
    refine g_getfield (pc := 47) dc_M_count_47 fl_M_412 rfl rfl ?_
    refine g_icmp_ge (pc := 50) (tgt := 77) dc_M_count_50 rfl (fun _ => ?_) (fun hc => absurd hc (by decide))
    refine g_iload_n (pc := 77) dc_M_count_77 rfl ?_
    refine g_iconst (pc := 78) (v := 2) dc_M_count_78 rfl ?_
    refine g_icmp_ne (pc := 79) (tgt := 89) dc_M_count_79 rfl (fun _ => ?_) (fun hc => absurd hc (by decide))
    refine g_iload_n (pc := 89) dc_M_count_89 rfl ?_
    refine g_iconst (pc := 90) (v := 3) dc_M_count_90 rfl ?_
    refine g_icmp_ne (pc := 91) (tgt := 98) dc_M_count_91 rfl (fun hc => absurd hc (by decide)) (fun _ => ?_)
    refine g_iload_n (pc := 94) dc_M_count_94 rfl ?_
    refine g_goto (pc := 95) (tgt := 102) dc_M_count_95 rfl ?_
    refine g_iretC (pc := 102) dc_M_count_102 rfl ?_
    refine g_icmp_eq (pc := 568) (tgt := 873) dc_L_law_568 rfl (fun _ => ?_) (fun hc => absurd hc (by decide))
    refine g_iinc (pc := 873) (v := 6) dc_L_law_873 rfl (by decide) (by decide) ?_
    refine g_goto (pc := 876) (tgt := 23) dc_L_law_876 rfl ?_
    refine g_iload (pc := 23) dc_L_law_23 rfl ?_
    refine g_xload_n (pc := 25) dc_L_law_25 rfl ?_
    refine g_scriptLenV (pc := 26) (n := 6) dc_L_law_26 hL rfl ?_
    refine g_bipush (pc := 27) (v := 6) dc_L_law_27 rfl ?_
    refine g_isub (pc := 29) (v := 0) dc_L_law_29 (by decide) ?_
    refine g_icmp_gt (pc := 30) (tgt := 879) dc_L_law_30 rfl (fun _ => ?_) (fun hc => absurd hc (by decide))
    refine g_iconst (pc := 879) (v := 1) dc_L_law_879 rfl ?_
    exact g_zreturn dc_L_law_880 rfl rfl ⟨rfl, (Nat.le_of_ble_eq_true rfl), am_bz (by (repeat (first | refine am_bw rfl ?_ | refine am_bA rfl ?_ | refine am_bB rfl ?_ | refine am_bC rfl ?_)); exact am_b0 (Nat.le_of_ble_eq_true rfl))⟩
  · refine g_aload_n (pc := 548) dc_L_law_548 rfl ?_
    refine g_xload_n (pc := 549) dc_L_law_549 rfl ?_
    refine g_iload (pc := 550) dc_L_law_550 rfl ?_
    refine g_iconst (pc := 552) (v := 1) dc_L_law_552 rfl ?_
    refine g_iadd (pc := 553) (v := 1) dc_L_law_553 (by decide) ?_
    refine g_scriptLoadV (pc := 554) dc_L_law_554 (by rw [hL]; exact am_vin rfl) e1 ?_
    refine g_v1 (pc := 555) (M' := mt_W_count) dc_L_law_555 mo_W_count im_W_count se_W_count ln_L_97 rfl rfl rfl (Nat.le_of_ble_eq_true rfl) (Nat.le_of_ble_eq_true rfl) ?_
    refine g_iload_n (pc := 0) dc_W_count_0 rfl ?_
    refine g_tableIn (pc := 1) (off := 70) (tgt := 71) dc_W_count_1 (by decide) (by decide) rfl rfl ?_
    refine g_aload_n (pc := 71) dc_W_count_71 rfl ?_
    refine g_getfield (pc := 72) dc_W_count_72 fl_W_65 rfl rfl ?_
    refine g_getfield (pc := 75) dc_W_count_75 fl_W_205 rfl rfl ?_
    refine g_iretC (pc := 78) dc_W_count_78 rfl ?_
    refine g_aload_n (pc := 558) dc_L_law_558 rfl ?_
    refine g_xload_n (pc := 559) dc_L_law_559 rfl ?_
    refine g_iload (pc := 560) dc_L_law_560 rfl ?_
    refine g_iconst (pc := 562) (v := 1) dc_L_law_562 rfl ?_
    refine g_iadd (pc := 563) (v := 1) dc_L_law_563 (by decide) ?_
    refine g_scriptLoadV (pc := 564) dc_L_law_564 (by rw [hL]; exact am_vin rfl) e1 ?_
    refine g_v1 (pc := 565) (M' := mt_M_count) dc_L_law_565 mo_M_count im_M_count se_M_count ln_L_100 rfl rfl rfl (Nat.le_of_ble_eq_true rfl) (Nat.le_of_ble_eq_true rfl) ?_
    refine g_aload_n (pc := 0) dc_M_count_0 rfl ?_
    refine g_iconst (pc := 1) (v := 0) dc_M_count_1 rfl ?_
    refine g_putfield (pc := 2) dc_M_count_2 fp_M_count_1 rfl (Nat.le_of_ble_eq_true rfl) rfl rfl ?_
    refine g_iload_n (pc := 5) dc_M_count_5 rfl ?_
    refine g_if_eq (pc := 6) (tgt := 14) dc_M_count_6 rfl (fun hc => absurd hc (by decide)) (fun _ => ?_)
    refine g_iload_n (pc := 9) dc_M_count_9 rfl ?_
    refine g_iconst (pc := 10) (v := 1) dc_M_count_10 rfl ?_
    refine g_icmp_ne (pc := 11) (tgt := 30) dc_M_count_11 rfl (fun _ => ?_) (fun hc => absurd hc (by decide))
    refine g_iload_n (pc := 30) dc_M_count_30 rfl ?_
    refine g_if_lt (pc := 31) (tgt := 39) dc_M_count_31 rfl (fun hc => absurd hc (by decide)) (fun _ => ?_)
    refine g_iload_n (pc := 34) dc_M_count_34 rfl ?_
    refine g_iconst (pc := 35) (v := 4) dc_M_count_35 rfl ?_
    refine g_icmp_le (pc := 36) (tgt := 41) dc_M_count_36 rfl (fun _ => ?_) (fun hc => absurd hc (by decide))
    refine g_iconst (pc := 41) (v := 0) dc_M_count_41 rfl ?_
    refine g_istore_n (pc := 42) dc_M_count_42 (by decide) ?_
    refine g_iconst (pc := 43) (v := 0) dc_M_count_43 rfl ?_
    refine g_istore_n (pc := 44) dc_M_count_44 (by decide) ?_
    refine g_iload_n (pc := 45) dc_M_count_45 rfl ?_
    refine g_aload_n (pc := 46) dc_M_count_46 rfl ?_
    refine g_getfield (pc := 47) dc_M_count_47 fl_M_412 rfl rfl ?_
    refine g_icmp_ge (pc := 50) (tgt := 77) dc_M_count_50 rfl (fun _ => ?_) (fun hc => absurd hc (by decide))
    refine g_iload_n (pc := 77) dc_M_count_77 rfl ?_
    refine g_iconst (pc := 78) (v := 2) dc_M_count_78 rfl ?_
    refine g_icmp_ne (pc := 79) (tgt := 89) dc_M_count_79 rfl (fun _ => ?_) (fun hc => absurd hc (by decide))
    refine g_iload_n (pc := 89) dc_M_count_89 rfl ?_
    refine g_iconst (pc := 90) (v := 3) dc_M_count_90 rfl ?_
    refine g_icmp_ne (pc := 91) (tgt := 98) dc_M_count_91 rfl (fun _ => ?_) (fun hc => absurd hc (by decide))
    refine g_aload_n (pc := 98) dc_M_count_98 rfl ?_
    refine g_getfield (pc := 99) dc_M_count_99 fl_M_436 rfl rfl ?_
    refine g_iretC (pc := 102) dc_M_count_102 rfl ?_
    refine g_icmp_eq (pc := 568) (tgt := 873) dc_L_law_568 rfl (fun _ => ?_) (fun hc => absurd hc (by decide))
    refine g_iinc (pc := 873) (v := 6) dc_L_law_873 rfl (by decide) (by decide) ?_
    refine g_goto (pc := 876) (tgt := 23) dc_L_law_876 rfl ?_
    refine g_iload (pc := 23) dc_L_law_23 rfl ?_
    refine g_xload_n (pc := 25) dc_L_law_25 rfl ?_
    refine g_scriptLenV (pc := 26) (n := 6) dc_L_law_26 hL rfl ?_
    refine g_bipush (pc := 27) (v := 6) dc_L_law_27 rfl ?_
    refine g_isub (pc := 29) (v := 0) dc_L_law_29 (by decide) ?_
    refine g_icmp_gt (pc := 30) (tgt := 879) dc_L_law_30 rfl (fun _ => ?_) (fun hc => absurd hc (by decide))
    refine g_iconst (pc := 879) (v := 1) dc_L_law_879 rfl ?_
    exact g_zreturn dc_L_law_880 rfl rfl ⟨rfl, (Nat.le_of_ble_eq_true rfl), am_bz (by (repeat (first | refine am_bw rfl ?_ | refine am_bA rfl ?_ | refine am_bB rfl ?_ | refine am_bC rfl ?_)); exact am_b0 (Nat.le_of_ble_eq_true rfl))⟩
  · refine g_aload_n (pc := 548) dc_L_law_548 rfl ?_
    refine g_xload_n (pc := 549) dc_L_law_549 rfl ?_
    refine g_iload (pc := 550) dc_L_law_550 rfl ?_
    refine g_iconst (pc := 552) (v := 1) dc_L_law_552 rfl ?_
    refine g_iadd (pc := 553) (v := 1) dc_L_law_553 (by decide) ?_
    refine g_scriptLoadV (pc := 554) dc_L_law_554 (by rw [hL]; exact am_vin rfl) e1 ?_
    refine g_v1 (pc := 555) (M' := mt_W_count) dc_L_law_555 mo_W_count im_W_count se_W_count ln_L_97 rfl rfl rfl (Nat.le_of_ble_eq_true rfl) (Nat.le_of_ble_eq_true rfl) ?_
    refine g_iload_n (pc := 0) dc_W_count_0 rfl ?_
    refine g_tableOut (pc := 1) (tgt := 79) dc_W_count_1 (by omega) rfl ?_
    refine g_iconst (pc := 79) (v := (-1)) dc_W_count_79 rfl ?_
    refine g_iretC (pc := 80) dc_W_count_80 rfl ?_
    refine g_aload_n (pc := 558) dc_L_law_558 rfl ?_
    refine g_xload_n (pc := 559) dc_L_law_559 rfl ?_
    refine g_iload (pc := 560) dc_L_law_560 rfl ?_
    refine g_iconst (pc := 562) (v := 1) dc_L_law_562 rfl ?_
    refine g_iadd (pc := 563) (v := 1) dc_L_law_563 (by decide) ?_
    refine g_scriptLoadV (pc := 564) dc_L_law_564 (by rw [hL]; exact am_vin rfl) e1 ?_
    refine g_v1 (pc := 565) (M' := mt_M_count) dc_L_law_565 mo_M_count im_M_count se_M_count ln_L_100 rfl rfl rfl (Nat.le_of_ble_eq_true rfl) (Nat.le_of_ble_eq_true rfl) ?_
    refine g_aload_n (pc := 0) dc_M_count_0 rfl ?_
    refine g_iconst (pc := 1) (v := 0) dc_M_count_1 rfl ?_
    refine g_putfield (pc := 2) dc_M_count_2 fp_M_count_1 rfl (Nat.le_of_ble_eq_true rfl) rfl rfl ?_
    refine g_iload_n (pc := 5) dc_M_count_5 rfl ?_
    refine g_if_eq (pc := 6) (tgt := 14) dc_M_count_6 rfl (fun hc => absurd (Int32.toInt_inj.symm.mp hc) (show ¬ (p1.toInt = 0) by omega)) (fun _ => ?_)
    refine g_iload_n (pc := 9) dc_M_count_9 rfl ?_
    refine g_iconst (pc := 10) (v := 1) dc_M_count_10 rfl ?_
    refine g_icmp_ne (pc := 11) (tgt := 30) dc_M_count_11 rfl (fun _ => ?_) (fun hc => absurd (Int32.toInt_inj.symm.mp hc) (show ¬ (p1.toInt = 1) by omega))
    refine g_iload_n (pc := 30) dc_M_count_30 rfl ?_
    refine g_if_lt (pc := 31) (tgt := 39) dc_M_count_31 rfl (fun _ => ?_) (fun hc => (hc (Int32.lt_iff_toInt_lt.mpr (show p1.toInt < 0 by omega))).elim)
    refine g_iconst (pc := 39) (v := (-1)) dc_M_count_39 rfl ?_
    refine g_iretC (pc := 40) dc_M_count_40 rfl ?_
    refine g_icmp_eq (pc := 568) (tgt := 873) dc_L_law_568 rfl (fun _ => ?_) (fun hc => absurd hc (by decide))
    refine g_iinc (pc := 873) (v := 6) dc_L_law_873 rfl (by decide) (by decide) ?_
    refine g_goto (pc := 876) (tgt := 23) dc_L_law_876 rfl ?_
    refine g_iload (pc := 23) dc_L_law_23 rfl ?_
    refine g_xload_n (pc := 25) dc_L_law_25 rfl ?_
    refine g_scriptLenV (pc := 26) (n := 6) dc_L_law_26 hL rfl ?_
    refine g_bipush (pc := 27) (v := 6) dc_L_law_27 rfl ?_
    refine g_isub (pc := 29) (v := 0) dc_L_law_29 (by decide) ?_
    refine g_icmp_gt (pc := 30) (tgt := 879) dc_L_law_30 rfl (fun _ => ?_) (fun hc => absurd hc (by decide))
    refine g_iconst (pc := 879) (v := 1) dc_L_law_879 rfl ?_
    exact g_zreturn dc_L_law_880 rfl rfl ⟨rfl, (Nat.le_of_ble_eq_true rfl), am_bz (by (repeat (first | refine am_bw rfl ?_ | refine am_bA rfl ?_ | refine am_bB rfl ?_ | refine am_bC rfl ?_)); exact am_b0 (Nat.le_of_ble_eq_true rfl))⟩
  · refine g_aload_n (pc := 548) dc_L_law_548 rfl ?_
    refine g_xload_n (pc := 549) dc_L_law_549 rfl ?_
    refine g_iload (pc := 550) dc_L_law_550 rfl ?_
    refine g_iconst (pc := 552) (v := 1) dc_L_law_552 rfl ?_
    refine g_iadd (pc := 553) (v := 1) dc_L_law_553 (by decide) ?_
    refine g_scriptLoadV (pc := 554) dc_L_law_554 (by rw [hL]; exact am_vin rfl) e1 ?_
    refine g_v1 (pc := 555) (M' := mt_W_count) dc_L_law_555 mo_W_count im_W_count se_W_count ln_L_97 rfl rfl rfl (Nat.le_of_ble_eq_true rfl) (Nat.le_of_ble_eq_true rfl) ?_
    refine g_iload_n (pc := 0) dc_W_count_0 rfl ?_
    refine g_tableOut (pc := 1) (tgt := 79) dc_W_count_1 (by omega) rfl ?_
    refine g_iconst (pc := 79) (v := (-1)) dc_W_count_79 rfl ?_
    refine g_iretC (pc := 80) dc_W_count_80 rfl ?_
    refine g_aload_n (pc := 558) dc_L_law_558 rfl ?_
    refine g_xload_n (pc := 559) dc_L_law_559 rfl ?_
    refine g_iload (pc := 560) dc_L_law_560 rfl ?_
    refine g_iconst (pc := 562) (v := 1) dc_L_law_562 rfl ?_
    refine g_iadd (pc := 563) (v := 1) dc_L_law_563 (by decide) ?_
    refine g_scriptLoadV (pc := 564) dc_L_law_564 (by rw [hL]; exact am_vin rfl) e1 ?_
    refine g_v1 (pc := 565) (M' := mt_M_count) dc_L_law_565 mo_M_count im_M_count se_M_count ln_L_100 rfl rfl rfl (Nat.le_of_ble_eq_true rfl) (Nat.le_of_ble_eq_true rfl) ?_
    refine g_aload_n (pc := 0) dc_M_count_0 rfl ?_
    refine g_iconst (pc := 1) (v := 0) dc_M_count_1 rfl ?_
    refine g_putfield (pc := 2) dc_M_count_2 fp_M_count_1 rfl (Nat.le_of_ble_eq_true rfl) rfl rfl ?_
    refine g_iload_n (pc := 5) dc_M_count_5 rfl ?_
    refine g_if_eq (pc := 6) (tgt := 14) dc_M_count_6 rfl (fun hc => absurd (Int32.toInt_inj.symm.mp hc) (show ¬ (p1.toInt = 0) by omega)) (fun _ => ?_)
    refine g_iload_n (pc := 9) dc_M_count_9 rfl ?_
    refine g_iconst (pc := 10) (v := 1) dc_M_count_10 rfl ?_
    refine g_icmp_ne (pc := 11) (tgt := 30) dc_M_count_11 rfl (fun _ => ?_) (fun hc => absurd (Int32.toInt_inj.symm.mp hc) (show ¬ (p1.toInt = 1) by omega))
    refine g_iload_n (pc := 30) dc_M_count_30 rfl ?_
    refine g_if_lt (pc := 31) (tgt := 39) dc_M_count_31 rfl (fun hc => absurd (Int32.lt_iff_toInt_lt.mp hc) (show ¬ (p1.toInt < 0) by omega)) (fun _ => ?_)
    refine g_iload_n (pc := 34) dc_M_count_34 rfl ?_
    refine g_iconst (pc := 35) (v := 4) dc_M_count_35 rfl ?_
    refine g_icmp_le (pc := 36) (tgt := 41) dc_M_count_36 rfl (fun hc => absurd (Int32.le_iff_toInt_le.mp hc) (show ¬ (p1.toInt ≤ 4) by omega)) (fun _ => ?_)
    refine g_iconst (pc := 39) (v := (-1)) dc_M_count_39 rfl ?_
    refine g_iretC (pc := 40) dc_M_count_40 rfl ?_
    refine g_icmp_eq (pc := 568) (tgt := 873) dc_L_law_568 rfl (fun _ => ?_) (fun hc => absurd hc (by decide))
    refine g_iinc (pc := 873) (v := 6) dc_L_law_873 rfl (by decide) (by decide) ?_
    refine g_goto (pc := 876) (tgt := 23) dc_L_law_876 rfl ?_
    refine g_iload (pc := 23) dc_L_law_23 rfl ?_
    refine g_xload_n (pc := 25) dc_L_law_25 rfl ?_
    refine g_scriptLenV (pc := 26) (n := 6) dc_L_law_26 hL rfl ?_
    refine g_bipush (pc := 27) (v := 6) dc_L_law_27 rfl ?_
    refine g_isub (pc := 29) (v := 0) dc_L_law_29 (by decide) ?_
    refine g_icmp_gt (pc := 30) (tgt := 879) dc_L_law_30 rfl (fun _ => ?_) (fun hc => absurd hc (by decide))
    refine g_iconst (pc := 879) (v := 1) dc_L_law_879 rfl ?_
    exact g_zreturn dc_L_law_880 rfl rfl ⟨rfl, (Nat.le_of_ble_eq_true rfl), am_bz (by (repeat (first | refine am_bw rfl ?_ | refine am_bA rfl ?_ | refine am_bB rfl ?_ | refine am_bC rfl ?_)); exact am_b0 (Nat.le_of_ble_eq_true rfl))⟩
set_option maxRecDepth 20000 in
set_option maxHeartbeats 1000000 in
theorem p1_17 {X : am_X} {p0 p1 p2 p3 p4 p5 : Int32} (hl9 : X.1.stackTraces = false) (hL : X.2.2.2.2.2.1 = 6) (e0 : X.2.2.2.2.2.2 (Int32.toNatClampNeg 0) = p0) (e1 : X.2.2.2.2.2.2 (Int32.toNatClampNeg 1) = p1) (e2 : X.2.2.2.2.2.2 (Int32.toNatClampNeg 2) = p2) (e3 : X.2.2.2.2.2.2 (Int32.toNatClampNeg 3) = p3) (e4 : X.2.2.2.2.2.2 (Int32.toNatClampNeg 4) = p4) (e5 : X.2.2.2.2.2.2 (Int32.toNatClampNeg 5) = p5) : am_G X mt_L_law 60 573 lo_0 [] hp_0 (fun r h => r = some (.int 1) ∧ h.length ≤ 600002 ∧ am_sl h ≤ 7302232) := by
  refine g_aload_n (pc := 573) dc_L_law_573 rfl ?_
  refine g_xload_n (pc := 574) dc_L_law_574 rfl ?_
  refine g_iload (pc := 575) dc_L_law_575 rfl ?_
  refine g_iconst (pc := 577) (v := 1) dc_L_law_577 rfl ?_
  refine g_iadd (pc := 578) (v := 1) dc_L_law_578 (by decide) ?_
  refine g_scriptLoadV (pc := 579) dc_L_law_579 (by rw [hL]; exact am_vin rfl) e1 ?_
  refine g_xload_n (pc := 580) dc_L_law_580 rfl ?_
  refine g_iload (pc := 581) dc_L_law_581 rfl ?_
  refine g_iconst (pc := 583) (v := 2) dc_L_law_583 rfl ?_
  refine g_iadd (pc := 584) (v := 2) dc_L_law_584 (by decide) ?_
  refine g_scriptLoadV (pc := 585) dc_L_law_585 (by rw [hL]; exact am_vin rfl) e2 ?_
  refine g_v2 (pc := 586) (M' := mt_W_known) dc_L_law_586 mo_W_known im_W_known se_W_known ln_L_101 rfl rfl rfl (Nat.le_of_ble_eq_true rfl) (Nat.le_of_ble_eq_true rfl) ?_
  refine g_iload_n (pc := 0) dc_W_known_0 rfl ?_
  refine g_if_lt (pc := 1) (tgt := 27) dc_W_known_1 rfl (fun hc0 => ?_) (fun hc0 => ?_)
  · have hi0 : p1.toInt < 0 := Int32.lt_iff_toInt_lt.mp hc0
    refine g_iconst (pc := 27) (v := (-1)) dc_W_known_27 rfl ?_
    refine g_iretC (pc := 28) dc_W_known_28 rfl ?_
    refine g_aload_n (pc := 589) dc_L_law_589 rfl ?_
    refine g_xload_n (pc := 590) dc_L_law_590 rfl ?_
    refine g_iload (pc := 591) dc_L_law_591 rfl ?_
    refine g_iconst (pc := 593) (v := 1) dc_L_law_593 rfl ?_
    refine g_iadd (pc := 594) (v := 1) dc_L_law_594 (by decide) ?_
    refine g_scriptLoadV (pc := 595) dc_L_law_595 (by rw [hL]; exact am_vin rfl) e1 ?_
    refine g_xload_n (pc := 596) dc_L_law_596 rfl ?_
    refine g_iload (pc := 597) dc_L_law_597 rfl ?_
    refine g_iconst (pc := 599) (v := 2) dc_L_law_599 rfl ?_
    refine g_iadd (pc := 600) (v := 2) dc_L_law_600 (by decide) ?_
    refine g_scriptLoadV (pc := 601) dc_L_law_601 (by rw [hL]; exact am_vin rfl) e2 ?_
    refine g_v2 (pc := 602) (M' := mt_M_known) dc_L_law_602 mo_M_known im_M_known se_M_known ln_L_105 rfl rfl rfl (Nat.le_of_ble_eq_true rfl) (Nat.le_of_ble_eq_true rfl) ?_
    refine g_aload_n (pc := 0) dc_M_known_0 rfl ?_
    refine g_iconst (pc := 1) (v := 0) dc_M_known_1 rfl ?_
    refine g_putfield (pc := 2) dc_M_known_2 fp_M_known_1 rfl (Nat.le_of_ble_eq_true rfl) rfl rfl ?_
    refine g_iload_n (pc := 5) dc_M_known_5 rfl ?_
    refine g_if_lt (pc := 6) (tgt := 26) dc_M_known_6 rfl (fun _ => ?_) (fun hc => (hc (Int32.lt_iff_toInt_lt.mpr (show p1.toInt < 0 by omega))).elim)
    refine g_iconst (pc := 26) (v := (-1)) dc_M_known_26 rfl ?_
    refine g_iretC (pc := 27) dc_M_known_27 rfl ?_
    refine g_icmp_eq (pc := 605) (tgt := 873) dc_L_law_605 rfl (fun _ => ?_) (fun hc => absurd hc (by decide))
    refine g_iinc (pc := 873) (v := 6) dc_L_law_873 rfl (by decide) (by decide) ?_
    refine g_goto (pc := 876) (tgt := 23) dc_L_law_876 rfl ?_
    refine g_iload (pc := 23) dc_L_law_23 rfl ?_
    refine g_xload_n (pc := 25) dc_L_law_25 rfl ?_
    refine g_scriptLenV (pc := 26) (n := 6) dc_L_law_26 hL rfl ?_
    refine g_bipush (pc := 27) (v := 6) dc_L_law_27 rfl ?_
    refine g_isub (pc := 29) (v := 0) dc_L_law_29 (by decide) ?_
    refine g_icmp_gt (pc := 30) (tgt := 879) dc_L_law_30 rfl (fun _ => ?_) (fun hc => absurd hc (by decide))
    refine g_iconst (pc := 879) (v := 1) dc_L_law_879 rfl ?_
    exact g_zreturn dc_L_law_880 rfl rfl ⟨rfl, (Nat.le_of_ble_eq_true rfl), am_bz (by (repeat (first | refine am_bw rfl ?_ | refine am_bA rfl ?_ | refine am_bB rfl ?_ | refine am_bC rfl ?_)); exact am_b0 (Nat.le_of_ble_eq_true rfl))⟩
  · have hi0 : ¬ (p1.toInt < 0) := fun h9 => hc0 (Int32.lt_iff_toInt_lt.mpr h9)
    refine g_iload_n (pc := 4) dc_W_known_4 rfl ?_
    refine g_aload_n (pc := 5) dc_W_known_5 rfl ?_
    refine g_getfield (pc := 6) dc_W_known_6 fl_W_65 rfl rfl ?_
    refine g_getfield (pc := 9) dc_W_known_9 fl_W_178 rfl rfl ?_
    refine g_getfield (pc := 12) dc_W_known_12 fl_W_167 rfl rfl ?_
    refine g_icmp_ge (pc := 15) (tgt := 27) dc_W_known_15 rfl (fun _ => ?_) (fun hc => (hc (Int32.le_iff_toInt_le.mpr (show 0 ≤ p1.toInt by omega))).elim)
    refine g_iconst (pc := 27) (v := (-1)) dc_W_known_27 rfl ?_
    refine g_iretC (pc := 28) dc_W_known_28 rfl ?_
    refine g_aload_n (pc := 589) dc_L_law_589 rfl ?_
    refine g_xload_n (pc := 590) dc_L_law_590 rfl ?_
    refine g_iload (pc := 591) dc_L_law_591 rfl ?_
    refine g_iconst (pc := 593) (v := 1) dc_L_law_593 rfl ?_
    refine g_iadd (pc := 594) (v := 1) dc_L_law_594 (by decide) ?_
    refine g_scriptLoadV (pc := 595) dc_L_law_595 (by rw [hL]; exact am_vin rfl) e1 ?_
    refine g_xload_n (pc := 596) dc_L_law_596 rfl ?_
    refine g_iload (pc := 597) dc_L_law_597 rfl ?_
    refine g_iconst (pc := 599) (v := 2) dc_L_law_599 rfl ?_
    refine g_iadd (pc := 600) (v := 2) dc_L_law_600 (by decide) ?_
    refine g_scriptLoadV (pc := 601) dc_L_law_601 (by rw [hL]; exact am_vin rfl) e2 ?_
    refine g_v2 (pc := 602) (M' := mt_M_known) dc_L_law_602 mo_M_known im_M_known se_M_known ln_L_105 rfl rfl rfl (Nat.le_of_ble_eq_true rfl) (Nat.le_of_ble_eq_true rfl) ?_
    refine g_aload_n (pc := 0) dc_M_known_0 rfl ?_
    refine g_iconst (pc := 1) (v := 0) dc_M_known_1 rfl ?_
    refine g_putfield (pc := 2) dc_M_known_2 fp_M_known_1 rfl (Nat.le_of_ble_eq_true rfl) rfl rfl ?_
    refine g_iload_n (pc := 5) dc_M_known_5 rfl ?_
    refine g_if_lt (pc := 6) (tgt := 26) dc_M_known_6 rfl (fun hc => absurd (Int32.lt_iff_toInt_lt.mp hc) (show ¬ (p1.toInt < 0) by omega)) (fun _ => ?_)
    refine g_iload_n (pc := 9) dc_M_known_9 rfl ?_
    refine g_aload_n (pc := 10) dc_M_known_10 rfl ?_
    refine g_getfield (pc := 11) dc_M_known_11 fl_M_412 rfl rfl ?_
    refine g_icmp_ge (pc := 14) (tgt := 26) dc_M_known_14 rfl (fun _ => ?_) (fun hc => (hc (Int32.le_iff_toInt_le.mpr (show 0 ≤ p1.toInt by omega))).elim)
    refine g_iconst (pc := 26) (v := (-1)) dc_M_known_26 rfl ?_
    refine g_iretC (pc := 27) dc_M_known_27 rfl ?_
    refine g_icmp_eq (pc := 605) (tgt := 873) dc_L_law_605 rfl (fun _ => ?_) (fun hc => absurd hc (by decide))
    refine g_iinc (pc := 873) (v := 6) dc_L_law_873 rfl (by decide) (by decide) ?_
    refine g_goto (pc := 876) (tgt := 23) dc_L_law_876 rfl ?_
    refine g_iload (pc := 23) dc_L_law_23 rfl ?_
    refine g_xload_n (pc := 25) dc_L_law_25 rfl ?_
    refine g_scriptLenV (pc := 26) (n := 6) dc_L_law_26 hL rfl ?_
    refine g_bipush (pc := 27) (v := 6) dc_L_law_27 rfl ?_
    refine g_isub (pc := 29) (v := 0) dc_L_law_29 (by decide) ?_
    refine g_icmp_gt (pc := 30) (tgt := 879) dc_L_law_30 rfl (fun _ => ?_) (fun hc => absurd hc (by decide))
    refine g_iconst (pc := 879) (v := 1) dc_L_law_879 rfl ?_
    exact g_zreturn dc_L_law_880 rfl rfl ⟨rfl, (Nat.le_of_ble_eq_true rfl), am_bz (by (repeat (first | refine am_bw rfl ?_ | refine am_bA rfl ?_ | refine am_bB rfl ?_ | refine am_bC rfl ?_)); exact am_b0 (Nat.le_of_ble_eq_true rfl))⟩
set_option maxRecDepth 20000 in
set_option maxHeartbeats 1000000 in
theorem p1_18 {X : am_X} {p0 p1 p2 p3 p4 p5 : Int32} (hl9 : X.1.stackTraces = false) (hL : X.2.2.2.2.2.1 = 6) (e0 : X.2.2.2.2.2.2 (Int32.toNatClampNeg 0) = p0) (e1 : X.2.2.2.2.2.2 (Int32.toNatClampNeg 1) = p1) (e2 : X.2.2.2.2.2.2 (Int32.toNatClampNeg 2) = p2) (e3 : X.2.2.2.2.2.2 (Int32.toNatClampNeg 3) = p3) (e4 : X.2.2.2.2.2.2 (Int32.toNatClampNeg 4) = p4) (e5 : X.2.2.2.2.2.2 (Int32.toNatClampNeg 5) = p5) : am_G X mt_L_law 60 610 lo_0 [] hp_0 (fun r h => r = some (.int 1) ∧ h.length ≤ 600002 ∧ am_sl h ≤ 7302232) := by
  refine g_aload_n (pc := 610) dc_L_law_610 rfl ?_
  refine g_xload_n (pc := 611) dc_L_law_611 rfl ?_
  refine g_iload (pc := 612) dc_L_law_612 rfl ?_
  refine g_iconst (pc := 614) (v := 1) dc_L_law_614 rfl ?_
  refine g_iadd (pc := 615) (v := 1) dc_L_law_615 (by decide) ?_
  refine g_scriptLoadV (pc := 616) dc_L_law_616 (by rw [hL]; exact am_vin rfl) e1 ?_
  refine g_xload_n (pc := 617) dc_L_law_617 rfl ?_
  refine g_iload (pc := 618) dc_L_law_618 rfl ?_
  refine g_iconst (pc := 620) (v := 2) dc_L_law_620 rfl ?_
  refine g_iadd (pc := 621) (v := 2) dc_L_law_621 (by decide) ?_
  refine g_scriptLoadV (pc := 622) dc_L_law_622 (by rw [hL]; exact am_vin rfl) e2 ?_
  refine g_v2 (pc := 623) (M' := mt_W_asking) dc_L_law_623 mo_W_asking im_W_asking se_W_asking ln_L_106 rfl rfl rfl (Nat.le_of_ble_eq_true rfl) (Nat.le_of_ble_eq_true rfl) ?_
  refine g_iload_n (pc := 0) dc_W_asking_0 rfl ?_
  refine g_if_lt (pc := 1) (tgt := 18) dc_W_asking_1 rfl (fun hc0 => ?_) (fun hc0 => ?_)
  · have hi0 : p1.toInt < 0 := Int32.lt_iff_toInt_lt.mp hc0
    refine g_iconst (pc := 18) (v := (-1)) dc_W_asking_18 rfl ?_
    refine g_iretC (pc := 19) dc_W_asking_19 rfl ?_
    refine g_aload_n (pc := 626) dc_L_law_626 rfl ?_
    refine g_xload_n (pc := 627) dc_L_law_627 rfl ?_
    refine g_iload (pc := 628) dc_L_law_628 rfl ?_
    refine g_iconst (pc := 630) (v := 1) dc_L_law_630 rfl ?_
    refine g_iadd (pc := 631) (v := 1) dc_L_law_631 (by decide) ?_
    refine g_scriptLoadV (pc := 632) dc_L_law_632 (by rw [hL]; exact am_vin rfl) e1 ?_
    refine g_xload_n (pc := 633) dc_L_law_633 rfl ?_
    refine g_iload (pc := 634) dc_L_law_634 rfl ?_
    refine g_iconst (pc := 636) (v := 2) dc_L_law_636 rfl ?_
    refine g_iadd (pc := 637) (v := 2) dc_L_law_637 (by decide) ?_
    refine g_scriptLoadV (pc := 638) dc_L_law_638 (by rw [hL]; exact am_vin rfl) e2 ?_
    refine g_v2 (pc := 639) (M' := mt_M_asking) dc_L_law_639 mo_M_asking im_M_asking se_M_asking ln_L_109 rfl rfl rfl (Nat.le_of_ble_eq_true rfl) (Nat.le_of_ble_eq_true rfl) ?_
    refine g_aload_n (pc := 0) dc_M_asking_0 rfl ?_
    refine g_iconst (pc := 1) (v := 0) dc_M_asking_1 rfl ?_
    refine g_putfield (pc := 2) dc_M_asking_2 fp_M_asking_1 rfl (Nat.le_of_ble_eq_true rfl) rfl rfl ?_
    refine g_iload_n (pc := 5) dc_M_asking_5 rfl ?_
    refine g_if_lt (pc := 6) (tgt := 33) dc_M_asking_6 rfl (fun _ => ?_) (fun hc => (hc (Int32.lt_iff_toInt_lt.mpr (show p1.toInt < 0 by omega))).elim)
    refine g_iconst (pc := 33) (v := (-1)) dc_M_asking_33 rfl ?_
    refine g_iretC (pc := 34) dc_M_asking_34 rfl ?_
    refine g_icmp_eq (pc := 642) (tgt := 873) dc_L_law_642 rfl (fun _ => ?_) (fun hc => absurd hc (by decide))
    refine g_iinc (pc := 873) (v := 6) dc_L_law_873 rfl (by decide) (by decide) ?_
    refine g_goto (pc := 876) (tgt := 23) dc_L_law_876 rfl ?_
    refine g_iload (pc := 23) dc_L_law_23 rfl ?_
    refine g_xload_n (pc := 25) dc_L_law_25 rfl ?_
    refine g_scriptLenV (pc := 26) (n := 6) dc_L_law_26 hL rfl ?_
    refine g_bipush (pc := 27) (v := 6) dc_L_law_27 rfl ?_
    refine g_isub (pc := 29) (v := 0) dc_L_law_29 (by decide) ?_
    refine g_icmp_gt (pc := 30) (tgt := 879) dc_L_law_30 rfl (fun _ => ?_) (fun hc => absurd hc (by decide))
    refine g_iconst (pc := 879) (v := 1) dc_L_law_879 rfl ?_
    exact g_zreturn dc_L_law_880 rfl rfl ⟨rfl, (Nat.le_of_ble_eq_true rfl), am_bz (by (repeat (first | refine am_bw rfl ?_ | refine am_bA rfl ?_ | refine am_bB rfl ?_ | refine am_bC rfl ?_)); exact am_b0 (Nat.le_of_ble_eq_true rfl))⟩
  · have hi0 : ¬ (p1.toInt < 0) := fun h9 => hc0 (Int32.lt_iff_toInt_lt.mpr h9)
    refine g_iload_n (pc := 4) dc_W_asking_4 rfl ?_
    refine g_aload_n (pc := 5) dc_W_asking_5 rfl ?_
    refine g_getfield (pc := 6) dc_W_asking_6 fl_W_65 rfl rfl ?_
    refine g_getfield (pc := 9) dc_W_asking_9 fl_W_212 rfl rfl ?_
    refine g_getfield (pc := 12) dc_W_asking_12 fl_W_167 rfl rfl ?_
    refine g_icmp_lt (pc := 15) (tgt := 20) dc_W_asking_15 rfl (fun hc => absurd (Int32.lt_iff_toInt_lt.mp hc) (show ¬ (p1.toInt < 0) by omega)) (fun _ => ?_)
    refine g_iconst (pc := 18) (v := (-1)) dc_W_asking_18 rfl ?_
    refine g_iretC (pc := 19) dc_W_asking_19 rfl ?_
    refine g_aload_n (pc := 626) dc_L_law_626 rfl ?_
    refine g_xload_n (pc := 627) dc_L_law_627 rfl ?_
    refine g_iload (pc := 628) dc_L_law_628 rfl ?_
    refine g_iconst (pc := 630) (v := 1) dc_L_law_630 rfl ?_
    refine g_iadd (pc := 631) (v := 1) dc_L_law_631 (by decide) ?_
    refine g_scriptLoadV (pc := 632) dc_L_law_632 (by rw [hL]; exact am_vin rfl) e1 ?_
    refine g_xload_n (pc := 633) dc_L_law_633 rfl ?_
    refine g_iload (pc := 634) dc_L_law_634 rfl ?_
    refine g_iconst (pc := 636) (v := 2) dc_L_law_636 rfl ?_
    refine g_iadd (pc := 637) (v := 2) dc_L_law_637 (by decide) ?_
    refine g_scriptLoadV (pc := 638) dc_L_law_638 (by rw [hL]; exact am_vin rfl) e2 ?_
    refine g_v2 (pc := 639) (M' := mt_M_asking) dc_L_law_639 mo_M_asking im_M_asking se_M_asking ln_L_109 rfl rfl rfl (Nat.le_of_ble_eq_true rfl) (Nat.le_of_ble_eq_true rfl) ?_
    refine g_aload_n (pc := 0) dc_M_asking_0 rfl ?_
    refine g_iconst (pc := 1) (v := 0) dc_M_asking_1 rfl ?_
    refine g_putfield (pc := 2) dc_M_asking_2 fp_M_asking_1 rfl (Nat.le_of_ble_eq_true rfl) rfl rfl ?_
    refine g_iload_n (pc := 5) dc_M_asking_5 rfl ?_
    refine g_if_lt (pc := 6) (tgt := 33) dc_M_asking_6 rfl (fun hc => absurd (Int32.lt_iff_toInt_lt.mp hc) (show ¬ (p1.toInt < 0) by omega)) (fun _ => ?_)
    refine g_iload_n (pc := 9) dc_M_asking_9 rfl ?_
    refine g_aload_n (pc := 10) dc_M_asking_10 rfl ?_
    refine g_getfield (pc := 11) dc_M_asking_11 fl_M_436 rfl rfl ?_
    refine g_icmp_ge (pc := 14) (tgt := 33) dc_M_asking_14 rfl (fun _ => ?_) (fun hc => (hc (Int32.le_iff_toInt_le.mpr (show 0 ≤ p1.toInt by omega))).elim)
    refine g_iconst (pc := 33) (v := (-1)) dc_M_asking_33 rfl ?_
    refine g_iretC (pc := 34) dc_M_asking_34 rfl ?_
    refine g_icmp_eq (pc := 642) (tgt := 873) dc_L_law_642 rfl (fun _ => ?_) (fun hc => absurd hc (by decide))
    refine g_iinc (pc := 873) (v := 6) dc_L_law_873 rfl (by decide) (by decide) ?_
    refine g_goto (pc := 876) (tgt := 23) dc_L_law_876 rfl ?_
    refine g_iload (pc := 23) dc_L_law_23 rfl ?_
    refine g_xload_n (pc := 25) dc_L_law_25 rfl ?_
    refine g_scriptLenV (pc := 26) (n := 6) dc_L_law_26 hL rfl ?_
    refine g_bipush (pc := 27) (v := 6) dc_L_law_27 rfl ?_
    refine g_isub (pc := 29) (v := 0) dc_L_law_29 (by decide) ?_
    refine g_icmp_gt (pc := 30) (tgt := 879) dc_L_law_30 rfl (fun _ => ?_) (fun hc => absurd hc (by decide))
    refine g_iconst (pc := 879) (v := 1) dc_L_law_879 rfl ?_
    exact g_zreturn dc_L_law_880 rfl rfl ⟨rfl, (Nat.le_of_ble_eq_true rfl), am_bz (by (repeat (first | refine am_bw rfl ?_ | refine am_bA rfl ?_ | refine am_bB rfl ?_ | refine am_bC rfl ?_)); exact am_b0 (Nat.le_of_ble_eq_true rfl))⟩
set_option maxRecDepth 20000 in
set_option maxHeartbeats 1000000 in
theorem p1_19 {X : am_X} {p0 p1 p2 p3 p4 p5 : Int32} (hl9 : X.1.stackTraces = false) (hL : X.2.2.2.2.2.1 = 6) (e0 : X.2.2.2.2.2.2 (Int32.toNatClampNeg 0) = p0) (e1 : X.2.2.2.2.2.2 (Int32.toNatClampNeg 1) = p1) (e2 : X.2.2.2.2.2.2 (Int32.toNatClampNeg 2) = p2) (e3 : X.2.2.2.2.2.2 (Int32.toNatClampNeg 3) = p3) (e4 : X.2.2.2.2.2.2 (Int32.toNatClampNeg 4) = p4) (e5 : X.2.2.2.2.2.2 (Int32.toNatClampNeg 5) = p5) : am_G X mt_L_law 60 647 lo_0 [] hp_0 (fun r h => r = some (.int 1) ∧ h.length ≤ 600002 ∧ am_sl h ≤ 7302232) := by
  refine g_aload_n (pc := 647) dc_L_law_647 rfl ?_
  refine g_xload_n (pc := 648) dc_L_law_648 rfl ?_
  refine g_iload (pc := 649) dc_L_law_649 rfl ?_
  refine g_iconst (pc := 651) (v := 1) dc_L_law_651 rfl ?_
  refine g_iadd (pc := 652) (v := 1) dc_L_law_652 (by decide) ?_
  refine g_scriptLoadV (pc := 653) dc_L_law_653 (by rw [hL]; exact am_vin rfl) e1 ?_
  refine g_v1 (pc := 654) (M' := mt_W_address) dc_L_law_654 mo_W_address im_W_address se_W_address ln_L_110 rfl rfl rfl (Nat.le_of_ble_eq_true rfl) (Nat.le_of_ble_eq_true rfl) ?_
  refine g_aload_n (pc := 0) dc_W_address_0 rfl ?_
  refine g_aload_n (pc := 1) dc_W_address_1 rfl ?_
  refine g_getfield (pc := 2) dc_W_address_2 fl_W_65 rfl rfl ?_
  refine g_getfield (pc := 5) dc_W_address_5 fl_W_178 rfl rfl ?_
  refine g_iload_n (pc := 8) dc_W_address_8 rfl ?_
  refine g_v2 (pc := 9) (M' := mt_W_produceRow) dc_W_address_9 mo_W_produceRow im_W_produceRow se_W_produceRow ln_W_218 rfl rfl rfl (Nat.le_of_ble_eq_true rfl) (Nat.le_of_ble_eq_true rfl) ?_
  refine g_iload_n (pc := 0) dc_W_produceRow_0 rfl ?_
  refine g_if_lt (pc := 1) (tgt := 12) dc_W_produceRow_1 rfl (fun hc0 => ?_) (fun hc0 => ?_)
  · have hi0 : p1.toInt < 0 := Int32.lt_iff_toInt_lt.mp hc0
    refine g_iconst (pc := 12) (v := (-1)) dc_W_produceRow_12 rfl ?_
    refine g_iretC (pc := 13) dc_W_produceRow_13 rfl ?_
    refine g_iretC (pc := 12) dc_W_address_12 rfl ?_
    refine g_aload_n (pc := 657) dc_L_law_657 rfl ?_
    refine g_xload_n (pc := 658) dc_L_law_658 rfl ?_
    refine g_iload (pc := 659) dc_L_law_659 rfl ?_
    refine g_iconst (pc := 661) (v := 1) dc_L_law_661 rfl ?_
    refine g_iadd (pc := 662) (v := 1) dc_L_law_662 (by decide) ?_
    refine g_scriptLoadV (pc := 663) dc_L_law_663 (by rw [hL]; exact am_vin rfl) e1 ?_
    refine g_v1 (pc := 664) (M' := mt_M_address) dc_L_law_664 mo_M_address im_M_address se_M_address ln_L_113 rfl rfl rfl (Nat.le_of_ble_eq_true rfl) (Nat.le_of_ble_eq_true rfl) ?_
    refine g_aload_n (pc := 0) dc_M_address_0 rfl ?_
    refine g_iconst (pc := 1) (v := 0) dc_M_address_1 rfl ?_
    refine g_putfield (pc := 2) dc_M_address_2 fp_M_address_1 rfl (Nat.le_of_ble_eq_true rfl) rfl rfl ?_
    refine g_iload_n (pc := 5) dc_M_address_5 rfl ?_
    refine g_if_lt (pc := 6) (tgt := 17) dc_M_address_6 rfl (fun _ => ?_) (fun hc => (hc (Int32.lt_iff_toInt_lt.mpr (show p1.toInt < 0 by omega))).elim)
    refine g_iconst (pc := 17) (v := (-1)) dc_M_address_17 rfl ?_
    refine g_goto (pc := 18) (tgt := 31) dc_M_address_18 rfl ?_
    refine g_iretC (pc := 31) dc_M_address_31 rfl ?_
    refine g_icmp_eq (pc := 667) (tgt := 873) dc_L_law_667 rfl (fun _ => ?_) (fun hc => absurd hc (by decide))
    refine g_iinc (pc := 873) (v := 6) dc_L_law_873 rfl (by decide) (by decide) ?_
    refine g_goto (pc := 876) (tgt := 23) dc_L_law_876 rfl ?_
    refine g_iload (pc := 23) dc_L_law_23 rfl ?_
    refine g_xload_n (pc := 25) dc_L_law_25 rfl ?_
    refine g_scriptLenV (pc := 26) (n := 6) dc_L_law_26 hL rfl ?_
    refine g_bipush (pc := 27) (v := 6) dc_L_law_27 rfl ?_
    refine g_isub (pc := 29) (v := 0) dc_L_law_29 (by decide) ?_
    refine g_icmp_gt (pc := 30) (tgt := 879) dc_L_law_30 rfl (fun _ => ?_) (fun hc => absurd hc (by decide))
    refine g_iconst (pc := 879) (v := 1) dc_L_law_879 rfl ?_
    exact g_zreturn dc_L_law_880 rfl rfl ⟨rfl, (Nat.le_of_ble_eq_true rfl), am_bz (by (repeat (first | refine am_bw rfl ?_ | refine am_bA rfl ?_ | refine am_bB rfl ?_ | refine am_bC rfl ?_)); exact am_b0 (Nat.le_of_ble_eq_true rfl))⟩
  · have hi0 : ¬ (p1.toInt < 0) := fun h9 => hc0 (Int32.lt_iff_toInt_lt.mpr h9)
    refine g_iload_n (pc := 4) dc_W_produceRow_4 rfl ?_
    refine g_aload_n (pc := 5) dc_W_produceRow_5 rfl ?_
    refine g_getfield (pc := 6) dc_W_produceRow_6 fl_W_167 rfl rfl ?_
    refine g_icmp_lt (pc := 9) (tgt := 14) dc_W_produceRow_9 rfl (fun hc => absurd (Int32.lt_iff_toInt_lt.mp hc) (show ¬ (p1.toInt < 0) by omega)) (fun _ => ?_)
    refine g_iconst (pc := 12) (v := (-1)) dc_W_produceRow_12 rfl ?_
    refine g_iretC (pc := 13) dc_W_produceRow_13 rfl ?_
    refine g_iretC (pc := 12) dc_W_address_12 rfl ?_
    refine g_aload_n (pc := 657) dc_L_law_657 rfl ?_
    refine g_xload_n (pc := 658) dc_L_law_658 rfl ?_
    refine g_iload (pc := 659) dc_L_law_659 rfl ?_
    refine g_iconst (pc := 661) (v := 1) dc_L_law_661 rfl ?_
    refine g_iadd (pc := 662) (v := 1) dc_L_law_662 (by decide) ?_
    refine g_scriptLoadV (pc := 663) dc_L_law_663 (by rw [hL]; exact am_vin rfl) e1 ?_
    refine g_v1 (pc := 664) (M' := mt_M_address) dc_L_law_664 mo_M_address im_M_address se_M_address ln_L_113 rfl rfl rfl (Nat.le_of_ble_eq_true rfl) (Nat.le_of_ble_eq_true rfl) ?_
    refine g_aload_n (pc := 0) dc_M_address_0 rfl ?_
    refine g_iconst (pc := 1) (v := 0) dc_M_address_1 rfl ?_
    refine g_putfield (pc := 2) dc_M_address_2 fp_M_address_1 rfl (Nat.le_of_ble_eq_true rfl) rfl rfl ?_
    refine g_iload_n (pc := 5) dc_M_address_5 rfl ?_
    refine g_if_lt (pc := 6) (tgt := 17) dc_M_address_6 rfl (fun hc => absurd (Int32.lt_iff_toInt_lt.mp hc) (show ¬ (p1.toInt < 0) by omega)) (fun _ => ?_)
    refine g_iload_n (pc := 9) dc_M_address_9 rfl ?_
    refine g_aload_n (pc := 10) dc_M_address_10 rfl ?_
    refine g_getfield (pc := 11) dc_M_address_11 fl_M_412 rfl rfl ?_
    refine g_icmp_lt (pc := 14) (tgt := 21) dc_M_address_14 rfl (fun hc => absurd (Int32.lt_iff_toInt_lt.mp hc) (show ¬ (p1.toInt < 0) by omega)) (fun _ => ?_)
    refine g_iconst (pc := 17) (v := (-1)) dc_M_address_17 rfl ?_
    refine g_goto (pc := 18) (tgt := 31) dc_M_address_18 rfl ?_
    refine g_iretC (pc := 31) dc_M_address_31 rfl ?_
    refine g_icmp_eq (pc := 667) (tgt := 873) dc_L_law_667 rfl (fun _ => ?_) (fun hc => absurd hc (by decide))
    refine g_iinc (pc := 873) (v := 6) dc_L_law_873 rfl (by decide) (by decide) ?_
    refine g_goto (pc := 876) (tgt := 23) dc_L_law_876 rfl ?_
    refine g_iload (pc := 23) dc_L_law_23 rfl ?_
    refine g_xload_n (pc := 25) dc_L_law_25 rfl ?_
    refine g_scriptLenV (pc := 26) (n := 6) dc_L_law_26 hL rfl ?_
    refine g_bipush (pc := 27) (v := 6) dc_L_law_27 rfl ?_
    refine g_isub (pc := 29) (v := 0) dc_L_law_29 (by decide) ?_
    refine g_icmp_gt (pc := 30) (tgt := 879) dc_L_law_30 rfl (fun _ => ?_) (fun hc => absurd hc (by decide))
    refine g_iconst (pc := 879) (v := 1) dc_L_law_879 rfl ?_
    exact g_zreturn dc_L_law_880 rfl rfl ⟨rfl, (Nat.le_of_ble_eq_true rfl), am_bz (by (repeat (first | refine am_bw rfl ?_ | refine am_bA rfl ?_ | refine am_bB rfl ?_ | refine am_bC rfl ?_)); exact am_b0 (Nat.le_of_ble_eq_true rfl))⟩
set_option maxRecDepth 20000 in
set_option maxHeartbeats 1000000 in
theorem p1_20 {X : am_X} {p0 p1 p2 p3 p4 p5 : Int32} (hl9 : X.1.stackTraces = false) (hL : X.2.2.2.2.2.1 = 6) (e0 : X.2.2.2.2.2.2 (Int32.toNatClampNeg 0) = p0) (e1 : X.2.2.2.2.2.2 (Int32.toNatClampNeg 1) = p1) (e2 : X.2.2.2.2.2.2 (Int32.toNatClampNeg 2) = p2) (e3 : X.2.2.2.2.2.2 (Int32.toNatClampNeg 3) = p3) (e4 : X.2.2.2.2.2.2 (Int32.toNatClampNeg 4) = p4) (e5 : X.2.2.2.2.2.2 (Int32.toNatClampNeg 5) = p5) : am_G X mt_L_law 60 672 lo_0 [] hp_0 (fun r h => r = some (.int 1) ∧ h.length ≤ 600002 ∧ am_sl h ≤ 7302232) := by
  refine g_aload_n (pc := 672) dc_L_law_672 rfl ?_
  refine g_xload_n (pc := 673) dc_L_law_673 rfl ?_
  refine g_iload (pc := 674) dc_L_law_674 rfl ?_
  refine g_iconst (pc := 676) (v := 1) dc_L_law_676 rfl ?_
  refine g_iadd (pc := 677) (v := 1) dc_L_law_677 (by decide) ?_
  refine g_scriptLoadV (pc := 678) dc_L_law_678 (by rw [hL]; exact am_vin rfl) e1 ?_
  refine g_v1 (pc := 679) (M' := mt_W_find) dc_L_law_679 mo_W_find im_W_find se_W_find ln_L_114 rfl rfl rfl (Nat.le_of_ble_eq_true rfl) (Nat.le_of_ble_eq_true rfl) ?_
  refine g_aload_n (pc := 0) dc_W_find_0 rfl ?_
  refine g_getfield (pc := 1) dc_W_find_1 fl_W_65 rfl rfl ?_
  refine g_getfield (pc := 4) dc_W_find_4 fl_W_183 rfl rfl ?_
  refine g_if_eq (pc := 7) (tgt := 30) dc_W_find_7 rfl (fun _ => ?_) (fun hc => absurd hc (by decide))
  refine g_iconst (pc := 30) (v := (-1)) dc_W_find_30 rfl ?_
  refine g_iretC (pc := 31) dc_W_find_31 rfl ?_
  refine g_aload_n (pc := 682) dc_L_law_682 rfl ?_
  refine g_xload_n (pc := 683) dc_L_law_683 rfl ?_
  refine g_iload (pc := 684) dc_L_law_684 rfl ?_
  refine g_iconst (pc := 686) (v := 1) dc_L_law_686 rfl ?_
  refine g_iadd (pc := 687) (v := 1) dc_L_law_687 (by decide) ?_
  refine g_scriptLoadV (pc := 688) dc_L_law_688 (by rw [hL]; exact am_vin rfl) e1 ?_
  refine g_v1 (pc := 689) (M' := mt_M_find) dc_L_law_689 mo_M_find im_M_find se_M_find ln_L_117 rfl rfl rfl (Nat.le_of_ble_eq_true rfl) (Nat.le_of_ble_eq_true rfl) ?_
  refine g_aload_n (pc := 0) dc_M_find_0 rfl ?_
  refine g_iconst (pc := 1) (v := 0) dc_M_find_1 rfl ?_
  refine g_putfield (pc := 2) dc_M_find_2 fp_M_find_1 rfl (Nat.le_of_ble_eq_true rfl) rfl rfl ?_
  refine g_aload_n (pc := 5) dc_M_find_5 rfl ?_
  refine g_getfield (pc := 6) dc_M_find_6 fl_M_520 rfl rfl ?_
  refine g_if_eq (pc := 9) (tgt := 29) dc_M_find_9 rfl (fun _ => ?_) (fun hc => absurd hc (by decide))
  refine g_iconst (pc := 29) (v := (-1)) dc_M_find_29 rfl ?_
  refine g_iretC (pc := 30) dc_M_find_30 rfl ?_
  refine g_icmp_eq (pc := 692) (tgt := 873) dc_L_law_692 rfl (fun _ => ?_) (fun hc => absurd hc (by decide))
  refine g_iinc (pc := 873) (v := 6) dc_L_law_873 rfl (by decide) (by decide) ?_
  refine g_goto (pc := 876) (tgt := 23) dc_L_law_876 rfl ?_
  refine g_iload (pc := 23) dc_L_law_23 rfl ?_
  refine g_xload_n (pc := 25) dc_L_law_25 rfl ?_
  refine g_scriptLenV (pc := 26) (n := 6) dc_L_law_26 hL rfl ?_
  refine g_bipush (pc := 27) (v := 6) dc_L_law_27 rfl ?_
  refine g_isub (pc := 29) (v := 0) dc_L_law_29 (by decide) ?_
  refine g_icmp_gt (pc := 30) (tgt := 879) dc_L_law_30 rfl (fun _ => ?_) (fun hc => absurd hc (by decide))
  refine g_iconst (pc := 879) (v := 1) dc_L_law_879 rfl ?_
  exact g_zreturn dc_L_law_880 rfl rfl ⟨rfl, (Nat.le_of_ble_eq_true rfl), am_bz (by (repeat (first | refine am_bw rfl ?_ | refine am_bA rfl ?_ | refine am_bB rfl ?_ | refine am_bC rfl ?_)); exact am_b0 (Nat.le_of_ble_eq_true rfl))⟩
set_option maxRecDepth 20000 in
set_option maxHeartbeats 1000000 in
theorem p1_21 {X : am_X} {p0 p1 p2 p3 p4 p5 : Int32} (hl9 : X.1.stackTraces = false) (hL : X.2.2.2.2.2.1 = 6) (e0 : X.2.2.2.2.2.2 (Int32.toNatClampNeg 0) = p0) (e1 : X.2.2.2.2.2.2 (Int32.toNatClampNeg 1) = p1) (e2 : X.2.2.2.2.2.2 (Int32.toNatClampNeg 2) = p2) (e3 : X.2.2.2.2.2.2 (Int32.toNatClampNeg 3) = p3) (e4 : X.2.2.2.2.2.2 (Int32.toNatClampNeg 4) = p4) (e5 : X.2.2.2.2.2.2 (Int32.toNatClampNeg 5) = p5) : am_G X mt_L_law 60 697 lo_0 [] hp_0 (fun r h => r = some (.int 1) ∧ h.length ≤ 600002 ∧ am_sl h ≤ 7302232) := by
  refine g_aload_n (pc := 697) dc_L_law_697 rfl ?_
  refine g_xload_n (pc := 698) dc_L_law_698 rfl ?_
  refine g_iload (pc := 699) dc_L_law_699 rfl ?_
  refine g_iconst (pc := 701) (v := 1) dc_L_law_701 rfl ?_
  refine g_iadd (pc := 702) (v := 1) dc_L_law_702 (by decide) ?_
  refine g_scriptLoadV (pc := 703) dc_L_law_703 (by rw [hL]; exact am_vin rfl) e1 ?_
  refine g_xload_n (pc := 704) dc_L_law_704 rfl ?_
  refine g_iload (pc := 705) dc_L_law_705 rfl ?_
  refine g_iconst (pc := 707) (v := 2) dc_L_law_707 rfl ?_
  refine g_iadd (pc := 708) (v := 2) dc_L_law_708 (by decide) ?_
  refine g_scriptLoadV (pc := 709) dc_L_law_709 (by rw [hL]; exact am_vin rfl) e2 ?_
  refine g_v2 (pc := 710) (M' := mt_W_document) dc_L_law_710 mo_W_document im_W_document se_W_document ln_L_118 rfl rfl rfl (Nat.le_of_ble_eq_true rfl) (Nat.le_of_ble_eq_true rfl) ?_
  refine g_iload_n (pc := 0) dc_W_document_0 rfl ?_
  refine g_if_lt (pc := 1) (tgt := 15) dc_W_document_1 rfl (fun hc0 => ?_) (fun hc0 => ?_)
  · have hi0 : p1.toInt < 0 := Int32.lt_iff_toInt_lt.mp hc0
    refine g_iconst (pc := 15) (v := (-1)) dc_W_document_15 rfl ?_
    refine g_iretC (pc := 16) dc_W_document_16 rfl ?_
    refine g_aload_n (pc := 713) dc_L_law_713 rfl ?_
    refine g_xload_n (pc := 714) dc_L_law_714 rfl ?_
    refine g_iload (pc := 715) dc_L_law_715 rfl ?_
    refine g_iconst (pc := 717) (v := 1) dc_L_law_717 rfl ?_
    refine g_iadd (pc := 718) (v := 1) dc_L_law_718 (by decide) ?_
    refine g_scriptLoadV (pc := 719) dc_L_law_719 (by rw [hL]; exact am_vin rfl) e1 ?_
    refine g_xload_n (pc := 720) dc_L_law_720 rfl ?_
    refine g_iload (pc := 721) dc_L_law_721 rfl ?_
    refine g_iconst (pc := 723) (v := 2) dc_L_law_723 rfl ?_
    refine g_iadd (pc := 724) (v := 2) dc_L_law_724 (by decide) ?_
    refine g_scriptLoadV (pc := 725) dc_L_law_725 (by rw [hL]; exact am_vin rfl) e2 ?_
    refine g_v2 (pc := 726) (M' := mt_M_document) dc_L_law_726 mo_M_document im_M_document se_M_document ln_L_121 rfl rfl rfl (Nat.le_of_ble_eq_true rfl) (Nat.le_of_ble_eq_true rfl) ?_
    refine g_aload_n (pc := 0) dc_M_document_0 rfl ?_
    refine g_iload_n (pc := 1) dc_M_document_1 rfl ?_
    refine g_v1 (pc := 2) (M' := mt_M_isDocument) dc_M_document_2 mo_M_isDocument im_M_isDocument se_M_isDocument ln_M_550 rfl rfl rfl (Nat.le_of_ble_eq_true rfl) (Nat.le_of_ble_eq_true rfl) ?_
    refine g_aload_n (pc := 0) dc_M_isDocument_0 rfl ?_
    refine g_iconst (pc := 1) (v := 0) dc_M_isDocument_1 rfl ?_
    refine g_putfield (pc := 2) dc_M_isDocument_2 fp_M_isDocument_1 rfl (Nat.le_of_ble_eq_true rfl) rfl rfl ?_
    refine g_iload_n (pc := 5) dc_M_isDocument_5 rfl ?_
    refine g_if_lt (pc := 6) (tgt := 21) dc_M_isDocument_6 rfl (fun _ => ?_) (fun hc => (hc (Int32.lt_iff_toInt_lt.mpr (show p1.toInt < 0 by omega))).elim)
    refine g_iconst (pc := 21) (v := 0) dc_M_isDocument_21 rfl ?_
    refine g_zretC (pc := 22) dc_M_isDocument_22 rfl rfl ?_
    refine g_if_eq (pc := 5) (tgt := 17) dc_M_document_5 rfl (fun _ => ?_) (fun hc => absurd hc (by decide))
    refine g_iconst (pc := 17) (v := (-1)) dc_M_document_17 rfl ?_
    refine g_iretC (pc := 18) dc_M_document_18 rfl ?_
    refine g_icmp_eq (pc := 729) (tgt := 873) dc_L_law_729 rfl (fun _ => ?_) (fun hc => absurd hc (by decide))
    refine g_iinc (pc := 873) (v := 6) dc_L_law_873 rfl (by decide) (by decide) ?_
    refine g_goto (pc := 876) (tgt := 23) dc_L_law_876 rfl ?_
    refine g_iload (pc := 23) dc_L_law_23 rfl ?_
    refine g_xload_n (pc := 25) dc_L_law_25 rfl ?_
    refine g_scriptLenV (pc := 26) (n := 6) dc_L_law_26 hL rfl ?_
    refine g_bipush (pc := 27) (v := 6) dc_L_law_27 rfl ?_
    refine g_isub (pc := 29) (v := 0) dc_L_law_29 (by decide) ?_
    refine g_icmp_gt (pc := 30) (tgt := 879) dc_L_law_30 rfl (fun _ => ?_) (fun hc => absurd hc (by decide))
    refine g_iconst (pc := 879) (v := 1) dc_L_law_879 rfl ?_
    exact g_zreturn dc_L_law_880 rfl rfl ⟨rfl, (Nat.le_of_ble_eq_true rfl), am_bz (by (repeat (first | refine am_bw rfl ?_ | refine am_bA rfl ?_ | refine am_bB rfl ?_ | refine am_bC rfl ?_)); exact am_b0 (Nat.le_of_ble_eq_true rfl))⟩
  · have hi0 : ¬ (p1.toInt < 0) := fun h9 => hc0 (Int32.lt_iff_toInt_lt.mpr h9)
    refine g_iload_n (pc := 4) dc_W_document_4 rfl ?_
    refine g_aload_n (pc := 5) dc_W_document_5 rfl ?_
    refine g_getfield (pc := 6) dc_W_document_6 fl_W_74 rfl rfl ?_
    refine g_getfield (pc := 9) dc_W_document_9 fl_W_226 rfl rfl ?_
    refine g_icmp_lt (pc := 12) (tgt := 17) dc_W_document_12 rfl (fun hc => absurd (Int32.lt_iff_toInt_lt.mp hc) (show ¬ (p1.toInt < 0) by omega)) (fun _ => ?_)
    refine g_iconst (pc := 15) (v := (-1)) dc_W_document_15 rfl ?_
    refine g_iretC (pc := 16) dc_W_document_16 rfl ?_
    refine g_aload_n (pc := 713) dc_L_law_713 rfl ?_
    refine g_xload_n (pc := 714) dc_L_law_714 rfl ?_
    refine g_iload (pc := 715) dc_L_law_715 rfl ?_
    refine g_iconst (pc := 717) (v := 1) dc_L_law_717 rfl ?_
    refine g_iadd (pc := 718) (v := 1) dc_L_law_718 (by decide) ?_
    refine g_scriptLoadV (pc := 719) dc_L_law_719 (by rw [hL]; exact am_vin rfl) e1 ?_
    refine g_xload_n (pc := 720) dc_L_law_720 rfl ?_
    refine g_iload (pc := 721) dc_L_law_721 rfl ?_
    refine g_iconst (pc := 723) (v := 2) dc_L_law_723 rfl ?_
    refine g_iadd (pc := 724) (v := 2) dc_L_law_724 (by decide) ?_
    refine g_scriptLoadV (pc := 725) dc_L_law_725 (by rw [hL]; exact am_vin rfl) e2 ?_
    refine g_v2 (pc := 726) (M' := mt_M_document) dc_L_law_726 mo_M_document im_M_document se_M_document ln_L_121 rfl rfl rfl (Nat.le_of_ble_eq_true rfl) (Nat.le_of_ble_eq_true rfl) ?_
    refine g_aload_n (pc := 0) dc_M_document_0 rfl ?_
    refine g_iload_n (pc := 1) dc_M_document_1 rfl ?_
    refine g_v1 (pc := 2) (M' := mt_M_isDocument) dc_M_document_2 mo_M_isDocument im_M_isDocument se_M_isDocument ln_M_550 rfl rfl rfl (Nat.le_of_ble_eq_true rfl) (Nat.le_of_ble_eq_true rfl) ?_
    refine g_aload_n (pc := 0) dc_M_isDocument_0 rfl ?_
    refine g_iconst (pc := 1) (v := 0) dc_M_isDocument_1 rfl ?_
    refine g_putfield (pc := 2) dc_M_isDocument_2 fp_M_isDocument_1 rfl (Nat.le_of_ble_eq_true rfl) rfl rfl ?_
    refine g_iload_n (pc := 5) dc_M_isDocument_5 rfl ?_
    refine g_if_lt (pc := 6) (tgt := 21) dc_M_isDocument_6 rfl (fun hc => absurd (Int32.lt_iff_toInt_lt.mp hc) (show ¬ (p1.toInt < 0) by omega)) (fun _ => ?_)
    refine g_iload_n (pc := 9) dc_M_isDocument_9 rfl ?_
    refine g_aload_n (pc := 10) dc_M_isDocument_10 rfl ?_
    refine g_getfield (pc := 11) dc_M_isDocument_11 fl_M_467 rfl rfl ?_
    refine g_icmp_ge (pc := 14) (tgt := 21) dc_M_isDocument_14 rfl (fun _ => ?_) (fun hc => (hc (Int32.le_iff_toInt_le.mpr (show 0 ≤ p1.toInt by omega))).elim)
    refine g_iconst (pc := 21) (v := 0) dc_M_isDocument_21 rfl ?_
    refine g_zretC (pc := 22) dc_M_isDocument_22 rfl rfl ?_
    refine g_if_eq (pc := 5) (tgt := 17) dc_M_document_5 rfl (fun _ => ?_) (fun hc => absurd hc (by decide))
    refine g_iconst (pc := 17) (v := (-1)) dc_M_document_17 rfl ?_
    refine g_iretC (pc := 18) dc_M_document_18 rfl ?_
    refine g_icmp_eq (pc := 729) (tgt := 873) dc_L_law_729 rfl (fun _ => ?_) (fun hc => absurd hc (by decide))
    refine g_iinc (pc := 873) (v := 6) dc_L_law_873 rfl (by decide) (by decide) ?_
    refine g_goto (pc := 876) (tgt := 23) dc_L_law_876 rfl ?_
    refine g_iload (pc := 23) dc_L_law_23 rfl ?_
    refine g_xload_n (pc := 25) dc_L_law_25 rfl ?_
    refine g_scriptLenV (pc := 26) (n := 6) dc_L_law_26 hL rfl ?_
    refine g_bipush (pc := 27) (v := 6) dc_L_law_27 rfl ?_
    refine g_isub (pc := 29) (v := 0) dc_L_law_29 (by decide) ?_
    refine g_icmp_gt (pc := 30) (tgt := 879) dc_L_law_30 rfl (fun _ => ?_) (fun hc => absurd hc (by decide))
    refine g_iconst (pc := 879) (v := 1) dc_L_law_879 rfl ?_
    exact g_zreturn dc_L_law_880 rfl rfl ⟨rfl, (Nat.le_of_ble_eq_true rfl), am_bz (by (repeat (first | refine am_bw rfl ?_ | refine am_bA rfl ?_ | refine am_bB rfl ?_ | refine am_bC rfl ?_)); exact am_b0 (Nat.le_of_ble_eq_true rfl))⟩
set_option maxRecDepth 20000 in
set_option maxHeartbeats 1000000 in
theorem p1_22 {X : am_X} {p0 p1 p2 p3 p4 p5 : Int32} (hl9 : X.1.stackTraces = false) (hL : X.2.2.2.2.2.1 = 6) (e0 : X.2.2.2.2.2.2 (Int32.toNatClampNeg 0) = p0) (e1 : X.2.2.2.2.2.2 (Int32.toNatClampNeg 1) = p1) (e2 : X.2.2.2.2.2.2 (Int32.toNatClampNeg 2) = p2) (e3 : X.2.2.2.2.2.2 (Int32.toNatClampNeg 3) = p3) (e4 : X.2.2.2.2.2.2 (Int32.toNatClampNeg 4) = p4) (e5 : X.2.2.2.2.2.2 (Int32.toNatClampNeg 5) = p5) : am_G X mt_L_law 60 734 lo_0 [] hp_0 (fun r h => r = some (.int 1) ∧ h.length ≤ 600002 ∧ am_sl h ≤ 7302232) := by
  refine g_aload_n (pc := 734) dc_L_law_734 rfl ?_
  refine g_xload_n (pc := 735) dc_L_law_735 rfl ?_
  refine g_iload (pc := 736) dc_L_law_736 rfl ?_
  refine g_iconst (pc := 738) (v := 1) dc_L_law_738 rfl ?_
  refine g_iadd (pc := 739) (v := 1) dc_L_law_739 (by decide) ?_
  refine g_scriptLoadV (pc := 740) dc_L_law_740 (by rw [hL]; exact am_vin rfl) e1 ?_
  refine g_v1 (pc := 741) (M' := mt_W_where) dc_L_law_741 mo_W_where im_W_where se_W_where ln_L_122 rfl rfl rfl (Nat.le_of_ble_eq_true rfl) (Nat.le_of_ble_eq_true rfl) ?_
  refine g_iload_n (pc := 0) dc_W_where_0 rfl ?_
  refine g_if_lt (pc := 1) (tgt := 15) dc_W_where_1 rfl (fun hc0 => ?_) (fun hc0 => ?_)
  · have hi0 : p1.toInt < 0 := Int32.lt_iff_toInt_lt.mp hc0
    refine g_iconst (pc := 15) (v := (-1)) dc_W_where_15 rfl ?_
    refine g_iretC (pc := 16) dc_W_where_16 rfl ?_
    refine g_aload_n (pc := 744) dc_L_law_744 rfl ?_
    refine g_xload_n (pc := 745) dc_L_law_745 rfl ?_
    refine g_iload (pc := 746) dc_L_law_746 rfl ?_
    refine g_iconst (pc := 748) (v := 1) dc_L_law_748 rfl ?_
    refine g_iadd (pc := 749) (v := 1) dc_L_law_749 (by decide) ?_
    refine g_scriptLoadV (pc := 750) dc_L_law_750 (by rw [hL]; exact am_vin rfl) e1 ?_
    refine g_v1 (pc := 751) (M' := mt_M_where) dc_L_law_751 mo_M_where im_M_where se_M_where ln_L_125 rfl rfl rfl (Nat.le_of_ble_eq_true rfl) (Nat.le_of_ble_eq_true rfl) ?_
    refine g_aload_n (pc := 0) dc_M_where_0 rfl ?_
    refine g_iload_n (pc := 1) dc_M_where_1 rfl ?_
    refine g_v1 (pc := 2) (M' := mt_M_isDocument) dc_M_where_2 mo_M_isDocument im_M_isDocument se_M_isDocument ln_M_550 rfl rfl rfl (Nat.le_of_ble_eq_true rfl) (Nat.le_of_ble_eq_true rfl) ?_
    refine g_aload_n (pc := 0) dc_M_isDocument_0 rfl ?_
    refine g_iconst (pc := 1) (v := 0) dc_M_isDocument_1 rfl ?_
    refine g_putfield (pc := 2) dc_M_isDocument_2 fp_M_isDocument_1 rfl (Nat.le_of_ble_eq_true rfl) rfl rfl ?_
    refine g_iload_n (pc := 5) dc_M_isDocument_5 rfl ?_
    refine g_if_lt (pc := 6) (tgt := 21) dc_M_isDocument_6 rfl (fun _ => ?_) (fun hc => (hc (Int32.lt_iff_toInt_lt.mpr (show p1.toInt < 0 by omega))).elim)
    refine g_iconst (pc := 21) (v := 0) dc_M_isDocument_21 rfl ?_
    refine g_zretC (pc := 22) dc_M_isDocument_22 rfl rfl ?_
    refine g_if_eq (pc := 5) (tgt := 21) dc_M_where_5 rfl (fun _ => ?_) (fun hc => absurd hc (by decide))
    refine g_iconst (pc := 21) (v := (-1)) dc_M_where_21 rfl ?_
    refine g_iretC (pc := 22) dc_M_where_22 rfl ?_
    refine g_icmp_eq (pc := 754) (tgt := 873) dc_L_law_754 rfl (fun _ => ?_) (fun hc => absurd hc (by decide))
    refine g_iinc (pc := 873) (v := 6) dc_L_law_873 rfl (by decide) (by decide) ?_
    refine g_goto (pc := 876) (tgt := 23) dc_L_law_876 rfl ?_
    refine g_iload (pc := 23) dc_L_law_23 rfl ?_
    refine g_xload_n (pc := 25) dc_L_law_25 rfl ?_
    refine g_scriptLenV (pc := 26) (n := 6) dc_L_law_26 hL rfl ?_
    refine g_bipush (pc := 27) (v := 6) dc_L_law_27 rfl ?_
    refine g_isub (pc := 29) (v := 0) dc_L_law_29 (by decide) ?_
    refine g_icmp_gt (pc := 30) (tgt := 879) dc_L_law_30 rfl (fun _ => ?_) (fun hc => absurd hc (by decide))
    refine g_iconst (pc := 879) (v := 1) dc_L_law_879 rfl ?_
    exact g_zreturn dc_L_law_880 rfl rfl ⟨rfl, (Nat.le_of_ble_eq_true rfl), am_bz (by (repeat (first | refine am_bw rfl ?_ | refine am_bA rfl ?_ | refine am_bB rfl ?_ | refine am_bC rfl ?_)); exact am_b0 (Nat.le_of_ble_eq_true rfl))⟩
  · have hi0 : ¬ (p1.toInt < 0) := fun h9 => hc0 (Int32.lt_iff_toInt_lt.mpr h9)
    refine g_iload_n (pc := 4) dc_W_where_4 rfl ?_
    refine g_aload_n (pc := 5) dc_W_where_5 rfl ?_
    refine g_getfield (pc := 6) dc_W_where_6 fl_W_74 rfl rfl ?_
    refine g_getfield (pc := 9) dc_W_where_9 fl_W_226 rfl rfl ?_
    refine g_icmp_lt (pc := 12) (tgt := 17) dc_W_where_12 rfl (fun hc => absurd (Int32.lt_iff_toInt_lt.mp hc) (show ¬ (p1.toInt < 0) by omega)) (fun _ => ?_)
    refine g_iconst (pc := 15) (v := (-1)) dc_W_where_15 rfl ?_
    refine g_iretC (pc := 16) dc_W_where_16 rfl ?_
    refine g_aload_n (pc := 744) dc_L_law_744 rfl ?_
    refine g_xload_n (pc := 745) dc_L_law_745 rfl ?_
    refine g_iload (pc := 746) dc_L_law_746 rfl ?_
    refine g_iconst (pc := 748) (v := 1) dc_L_law_748 rfl ?_
    refine g_iadd (pc := 749) (v := 1) dc_L_law_749 (by decide) ?_
    refine g_scriptLoadV (pc := 750) dc_L_law_750 (by rw [hL]; exact am_vin rfl) e1 ?_
    refine g_v1 (pc := 751) (M' := mt_M_where) dc_L_law_751 mo_M_where im_M_where se_M_where ln_L_125 rfl rfl rfl (Nat.le_of_ble_eq_true rfl) (Nat.le_of_ble_eq_true rfl) ?_
    refine g_aload_n (pc := 0) dc_M_where_0 rfl ?_
    refine g_iload_n (pc := 1) dc_M_where_1 rfl ?_
    refine g_v1 (pc := 2) (M' := mt_M_isDocument) dc_M_where_2 mo_M_isDocument im_M_isDocument se_M_isDocument ln_M_550 rfl rfl rfl (Nat.le_of_ble_eq_true rfl) (Nat.le_of_ble_eq_true rfl) ?_
    refine g_aload_n (pc := 0) dc_M_isDocument_0 rfl ?_
    refine g_iconst (pc := 1) (v := 0) dc_M_isDocument_1 rfl ?_
    refine g_putfield (pc := 2) dc_M_isDocument_2 fp_M_isDocument_1 rfl (Nat.le_of_ble_eq_true rfl) rfl rfl ?_
    refine g_iload_n (pc := 5) dc_M_isDocument_5 rfl ?_
    refine g_if_lt (pc := 6) (tgt := 21) dc_M_isDocument_6 rfl (fun hc => absurd (Int32.lt_iff_toInt_lt.mp hc) (show ¬ (p1.toInt < 0) by omega)) (fun _ => ?_)
    refine g_iload_n (pc := 9) dc_M_isDocument_9 rfl ?_
    refine g_aload_n (pc := 10) dc_M_isDocument_10 rfl ?_
    refine g_getfield (pc := 11) dc_M_isDocument_11 fl_M_467 rfl rfl ?_
    refine g_icmp_ge (pc := 14) (tgt := 21) dc_M_isDocument_14 rfl (fun _ => ?_) (fun hc => (hc (Int32.le_iff_toInt_le.mpr (show 0 ≤ p1.toInt by omega))).elim)
    refine g_iconst (pc := 21) (v := 0) dc_M_isDocument_21 rfl ?_
    refine g_zretC (pc := 22) dc_M_isDocument_22 rfl rfl ?_
    refine g_if_eq (pc := 5) (tgt := 21) dc_M_where_5 rfl (fun _ => ?_) (fun hc => absurd hc (by decide))
    refine g_iconst (pc := 21) (v := (-1)) dc_M_where_21 rfl ?_
    refine g_iretC (pc := 22) dc_M_where_22 rfl ?_
    refine g_icmp_eq (pc := 754) (tgt := 873) dc_L_law_754 rfl (fun _ => ?_) (fun hc => absurd hc (by decide))
    refine g_iinc (pc := 873) (v := 6) dc_L_law_873 rfl (by decide) (by decide) ?_
    refine g_goto (pc := 876) (tgt := 23) dc_L_law_876 rfl ?_
    refine g_iload (pc := 23) dc_L_law_23 rfl ?_
    refine g_xload_n (pc := 25) dc_L_law_25 rfl ?_
    refine g_scriptLenV (pc := 26) (n := 6) dc_L_law_26 hL rfl ?_
    refine g_bipush (pc := 27) (v := 6) dc_L_law_27 rfl ?_
    refine g_isub (pc := 29) (v := 0) dc_L_law_29 (by decide) ?_
    refine g_icmp_gt (pc := 30) (tgt := 879) dc_L_law_30 rfl (fun _ => ?_) (fun hc => absurd hc (by decide))
    refine g_iconst (pc := 879) (v := 1) dc_L_law_879 rfl ?_
    exact g_zreturn dc_L_law_880 rfl rfl ⟨rfl, (Nat.le_of_ble_eq_true rfl), am_bz (by (repeat (first | refine am_bw rfl ?_ | refine am_bA rfl ?_ | refine am_bB rfl ?_ | refine am_bC rfl ?_)); exact am_b0 (Nat.le_of_ble_eq_true rfl))⟩
