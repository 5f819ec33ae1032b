set_option maxRecDepth 20000 in
set_option maxHeartbeats 4000000 in
theorem p1_12 {X : am_X} {p0 p1 p2 p3 p4 p5 : Int32} (hl9 : X.1.stackTraces = false) (hL : X.2.2.2.2.2.1 = 6) (e0 : X.2.2.2.2.2.2 (Int32.toNatClampNeg 0) = p0) (e1 : X.2.2.2.2.2.2 (Int32.toNatClampNeg 1) = p1) (e2 : X.2.2.2.2.2.2 (Int32.toNatClampNeg 2) = p2) (e3 : X.2.2.2.2.2.2 (Int32.toNatClampNeg 3) = p3) (e4 : X.2.2.2.2.2.2 (Int32.toNatClampNeg 4) = p4) (e5 : X.2.2.2.2.2.2 (Int32.toNatClampNeg 5) = p5) : am_G X mt_L_law 60 484 lo_0 [] hp_0 (fun r h => r = some (.int 1) ∧ h.length ≤ 601024 ∧ am_sl h ≤ 7293034) := by
  refine g_aload_n (pc := 484) dc_L_law_484 rfl ?_
  refine g_v0 (pc := 485) (M' := mt_W_step) dc_L_law_485 mo_W_step im_W_step se_W_step ln_L_81 rfl rfl rfl (Nat.le_of_ble_eq_true rfl) (Nat.le_of_ble_eq_true rfl) ?_
  refine g_aload_n (pc := 0) dc_W_step_0 rfl ?_
  refine g_getfield (pc := 1) dc_W_step_1 fl_W_65 rfl rfl ?_
  refine g_v0 (pc := 4) (M' := mt_C_takeStep) dc_W_step_4 mo_C_takeStep im_C_takeStep se_C_takeStep ln_W_180 rfl rfl rfl (Nat.le_of_ble_eq_true rfl) (Nat.le_of_ble_eq_true rfl) ?_
  refine g_aload_n (pc := 0) dc_C_takeStep_0 rfl ?_
  refine g_v0 (pc := 1) (M' := mt_C_nextWaiting) dc_C_takeStep_1 mo_C_nextWaiting im_C_nextWaiting se_C_nextWaiting ln_C_115 rfl rfl rfl (Nat.le_of_ble_eq_true rfl) (Nat.le_of_ble_eq_true rfl) ?_
  refine g_iconst (pc := 0) (v := (-1)) dc_C_nextWaiting_0 rfl ?_
  refine g_istore_n (pc := 1) dc_C_nextWaiting_1 (by decide) ?_
  refine g_iconst (pc := 2) (v := 0) dc_C_nextWaiting_2 rfl ?_
  refine g_istore_n (pc := 3) dc_C_nextWaiting_3 (by decide) ?_
  refine g_iload_n (pc := 4) dc_C_nextWaiting_4 rfl ?_
  refine g_aload_n (pc := 5) dc_C_nextWaiting_5 rfl ?_
  refine g_getfield (pc := 6) dc_C_nextWaiting_6 fl_C_14 rfl rfl ?_
  refine g_getfield (pc := 9) dc_C_nextWaiting_9 fl_C_91 rfl rfl ?_
  refine g_icmp_ge (pc := 12) (tgt := 64) dc_C_nextWaiting_12 rfl (fun _ => ?_) (fun hc => absurd hc (by decide))
  refine g_iload_n (pc := 64) dc_C_nextWaiting_64 rfl ?_
  refine g_iretC (pc := 65) dc_C_nextWaiting_65 rfl ?_
  refine g_istore_n (pc := 4) dc_C_takeStep_4 (by decide) ?_
  refine g_iload_n (pc := 5) dc_C_takeStep_5 rfl ?_
  refine g_iconst (pc := 6) (v := (-1)) dc_C_takeStep_6 rfl ?_
  refine g_icmp_ne (pc := 7) (tgt := 12) dc_C_takeStep_7 rfl (fun hc => absurd hc (by decide)) (fun _ => ?_)
  refine g_iconst (pc := 10) (v := (-1)) dc_C_takeStep_10 rfl ?_
  refine g_iretC (pc := 11) dc_C_takeStep_11 rfl ?_
  refine g_iretC (pc := 7) dc_W_step_7 rfl ?_
  refine g_aload_n (pc := 488) dc_L_law_488 rfl ?_
  refine g_v0 (pc := 489) (M' := mt_M_step) dc_L_law_489 mo_M_step im_M_step se_M_step ln_L_84 rfl rfl rfl (Nat.le_of_ble_eq_true rfl) (Nat.le_of_ble_eq_true rfl) ?_
  refine g_aload_n (pc := 0) dc_M_step_0 rfl ?_
  refine g_iconst (pc := 1) (v := 0) dc_M_step_1 rfl ?_
  refine g_putfield (pc := 2) dc_M_step_2 fp_M_step_1 rfl (Nat.le_of_ble_eq_true rfl) rfl rfl ?_
  refine g_aload_n (pc := 5) dc_M_step_5 rfl ?_
  refine g_getfield (pc := 6) dc_M_step_6 fl_M_520 rfl rfl ?_
  refine g_if_eq (pc := 9) (tgt := 19) dc_M_step_9 rfl (fun _ => ?_) (fun hc => absurd hc (by decide))
  refine g_iconst (pc := 19) (v := (-1)) dc_M_step_19 rfl ?_
  refine g_istore_n (pc := 20) dc_M_step_20 (by decide) ?_
  refine g_iload_n (pc := 21) dc_M_step_21 rfl ?_
  refine g_if_ge (pc := 22) (tgt := 27) dc_M_step_22 rfl (fun hc => absurd hc (by decide)) (fun _ => ?_)
  refine g_iconst (pc := 25) (v := (-1)) dc_M_step_25 rfl ?_
  refine g_iretC (pc := 26) dc_M_step_26 rfl ?_
  refine g_icmp_eq (pc := 492) (tgt := 873) dc_L_law_492 rfl (fun _ => ?_) (fun hc => absurd hc (by decide))
  refine g_iinc (pc := 873) (v := 6) dc_L_law_873 rfl (by decide) (by decide) ?_
  refine g_goto (pc := 876) (tgt := 23) dc_L_law_876 rfl ?_
  refine g_iload (pc := 23) dc_L_law_23 rfl ?_
  refine g_xload_n (pc := 25) dc_L_law_25 rfl ?_
  refine g_scriptLenV (pc := 26) (n := 6) dc_L_law_26 hL rfl ?_
  refine g_bipush (pc := 27) (v := 6) dc_L_law_27 rfl ?_
  refine g_isub (pc := 29) (v := 0) dc_L_law_29 (by decide) ?_
  refine g_icmp_gt (pc := 30) (tgt := 879) dc_L_law_30 rfl (fun _ => ?_) (fun hc => absurd hc (by decide))
  refine g_iconst (pc := 879) (v := 1) dc_L_law_879 rfl ?_
  exact g_zreturn dc_L_law_880 rfl rfl ⟨rfl, (Nat.le_of_ble_eq_true rfl), (Nat.le_of_ble_eq_true rfl)⟩
set_option maxRecDepth 20000 in
set_option maxHeartbeats 4000000 in
theorem p1_13 {X : am_X} {p0 p1 p2 p3 p4 p5 : Int32} (hl9 : X.1.stackTraces = false) (hL : X.2.2.2.2.2.1 = 6) (e0 : X.2.2.2.2.2.2 (Int32.toNatClampNeg 0) = p0) (e1 : X.2.2.2.2.2.2 (Int32.toNatClampNeg 1) = p1) (e2 : X.2.2.2.2.2.2 (Int32.toNatClampNeg 2) = p2) (e3 : X.2.2.2.2.2.2 (Int32.toNatClampNeg 3) = p3) (e4 : X.2.2.2.2.2.2 (Int32.toNatClampNeg 4) = p4) (e5 : X.2.2.2.2.2.2 (Int32.toNatClampNeg 5) = p5) : am_G X mt_L_law 60 497 lo_0 [] hp_0 (fun r h => r = some (.int 1) ∧ h.length ≤ 601024 ∧ am_sl h ≤ 7293034) := by
  refine g_aload_n (pc := 497) dc_L_law_497 rfl ?_
  refine g_xload_n (pc := 498) dc_L_law_498 rfl ?_
  refine g_iload (pc := 499) dc_L_law_499 rfl ?_
  refine g_iconst (pc := 501) (v := 1) dc_L_law_501 rfl ?_
  refine g_iadd (pc := 502) (v := 1) dc_L_law_502 (by decide) ?_
  refine g_scriptLoadV (pc := 503) dc_L_law_503 (by rw [hL]; exact am_vin rfl) e1 ?_
  refine g_v1 (pc := 504) (M' := mt_W_run) dc_L_law_504 mo_W_run im_W_run se_W_run ln_L_85 rfl rfl rfl (Nat.le_of_ble_eq_true rfl) (Nat.le_of_ble_eq_true rfl) ?_
  refine g_aload_n (pc := 0) dc_W_run_0 rfl ?_
  refine g_getfield (pc := 1) dc_W_run_1 fl_W_65 rfl rfl ?_
  refine g_getfield (pc := 4) dc_W_run_4 fl_W_183 rfl rfl ?_
  refine g_if_eq (pc := 7) (tgt := 14) dc_W_run_7 rfl (fun _ => ?_) (fun hc => absurd hc (by decide))
  refine g_iconst (pc := 14) (v := (-1)) dc_W_run_14 rfl ?_
  refine g_iretC (pc := 15) dc_W_run_15 rfl ?_
  refine g_aload_n (pc := 507) dc_L_law_507 rfl ?_
  refine g_xload_n (pc := 508) dc_L_law_508 rfl ?_
  refine g_iload (pc := 509) dc_L_law_509 rfl ?_
  refine g_iconst (pc := 511) (v := 1) dc_L_law_511 rfl ?_
  refine g_iadd (pc := 512) (v := 1) dc_L_law_512 (by decide) ?_
  refine g_scriptLoadV (pc := 513) dc_L_law_513 (by rw [hL]; exact am_vin rfl) e1 ?_
  refine g_v1 (pc := 514) (M' := mt_M_run) dc_L_law_514 mo_M_run im_M_run se_M_run ln_L_88 rfl rfl rfl (Nat.le_of_ble_eq_true rfl) (Nat.le_of_ble_eq_true rfl) ?_
  refine g_aload_n (pc := 0) dc_M_run_0 rfl ?_
  refine g_iconst (pc := 1) (v := 0) dc_M_run_1 rfl ?_
  refine g_putfield (pc := 2) dc_M_run_2 fp_M_run_1 rfl (Nat.le_of_ble_eq_true rfl) rfl rfl ?_
  refine g_aload_n (pc := 5) dc_M_run_5 rfl ?_
  refine g_getfield (pc := 6) dc_M_run_6 fl_M_520 rfl rfl ?_
  refine g_if_eq (pc := 9) (tgt := 16) dc_M_run_9 rfl (fun _ => ?_) (fun hc => absurd hc (by decide))
  refine g_iconst (pc := 16) (v := (-1)) dc_M_run_16 rfl ?_
  refine g_iretC (pc := 17) dc_M_run_17 rfl ?_
  refine g_icmp_eq (pc := 517) (tgt := 873) dc_L_law_517 rfl (fun _ => ?_) (fun hc => absurd hc (by decide))
  refine g_iinc (pc := 873) (v := 6) dc_L_law_873 rfl (by decide) (by decide) ?_
  refine g_goto (pc := 876) (tgt := 23) dc_L_law_876 rfl ?_
  refine g_iload (pc := 23) dc_L_law_23 rfl ?_
  refine g_xload_n (pc := 25) dc_L_law_25 rfl ?_
  refine g_scriptLenV (pc := 26) (n := 6) dc_L_law_26 hL rfl ?_
  refine g_bipush (pc := 27) (v := 6) dc_L_law_27 rfl ?_
  refine g_isub (pc := 29) (v := 0) dc_L_law_29 (by decide) ?_
  refine g_icmp_gt (pc := 30) (tgt := 879) dc_L_law_30 rfl (fun _ => ?_) (fun hc => absurd hc (by decide))
  refine g_iconst (pc := 879) (v := 1) dc_L_law_879 rfl ?_
  exact g_zreturn dc_L_law_880 rfl rfl ⟨rfl, (Nat.le_of_ble_eq_true rfl), (Nat.le_of_ble_eq_true rfl)⟩
set_option maxRecDepth 20000 in
set_option maxHeartbeats 4000000 in
theorem p1_14 {X : am_X} {p0 p1 p2 p3 p4 p5 : Int32} (hl9 : X.1.stackTraces = false) (hL : X.2.2.2.2.2.1 = 6) (e0 : X.2.2.2.2.2.2 (Int32.toNatClampNeg 0) = p0) (e1 : X.2.2.2.2.2.2 (Int32.toNatClampNeg 1) = p1) (e2 : X.2.2.2.2.2.2 (Int32.toNatClampNeg 2) = p2) (e3 : X.2.2.2.2.2.2 (Int32.toNatClampNeg 3) = p3) (e4 : X.2.2.2.2.2.2 (Int32.toNatClampNeg 4) = p4) (e5 : X.2.2.2.2.2.2 (Int32.toNatClampNeg 5) = p5) : am_G X mt_L_law 60 522 lo_0 [] hp_0 (fun r h => r = some (.int 1) ∧ h.length ≤ 601024 ∧ am_sl h ≤ 7293034) := by
  refine g_aload_n (pc := 522) dc_L_law_522 rfl ?_
  refine g_v0 (pc := 523) (M' := mt_W_crash) dc_L_law_523 mo_W_crash im_W_crash se_W_crash ln_L_89 rfl rfl rfl (Nat.le_of_ble_eq_true rfl) (Nat.le_of_ble_eq_true rfl) ?_
  refine g_aload_n (pc := 0) dc_W_crash_0 rfl ?_
  refine g_getfield (pc := 1) dc_W_crash_1 fl_W_65 rfl rfl ?_
  refine g_getfield (pc := 4) dc_W_crash_4 fl_W_183 rfl rfl ?_
  refine g_if_eq (pc := 7) (tgt := 17) dc_W_crash_7 rfl (fun _ => ?_) (fun hc => absurd hc (by decide))
  refine g_aload_n (pc := 17) dc_W_crash_17 rfl ?_
  refine g_getfield (pc := 18) dc_W_crash_18 fl_W_65 rfl rfl ?_
  refine g_getfield (pc := 21) dc_W_crash_21 fl_W_183 rfl rfl ?_
  refine g_zretC (pc := 24) dc_W_crash_24 rfl rfl ?_
  refine g_aload_n (pc := 526) dc_L_law_526 rfl ?_
  refine g_v0 (pc := 527) (M' := mt_M_crash) dc_L_law_527 mo_M_crash im_M_crash se_M_crash ln_L_92 rfl rfl rfl (Nat.le_of_ble_eq_true rfl) (Nat.le_of_ble_eq_true rfl) ?_
  refine g_aload_n (pc := 0) dc_M_crash_0 rfl ?_
  refine g_iconst (pc := 1) (v := 0) dc_M_crash_1 rfl ?_
  refine g_putfield (pc := 2) dc_M_crash_2 fp_M_crash_1 rfl (Nat.le_of_ble_eq_true rfl) rfl rfl ?_
  refine g_aload_n (pc := 5) dc_M_crash_5 rfl ?_
  refine g_getfield (pc := 6) dc_M_crash_6 fl_M_520 rfl rfl ?_
  refine g_if_eq (pc := 9) (tgt := 69) dc_M_crash_9 rfl (fun _ => ?_) (fun hc => absurd hc (by decide))
  refine g_aload_n (pc := 69) dc_M_crash_69 rfl ?_
  refine g_getfield (pc := 70) dc_M_crash_70 fl_M_520 rfl rfl ?_
  refine g_zretC (pc := 73) dc_M_crash_73 rfl rfl ?_
  refine g_icmp_eq (pc := 530) (tgt := 873) dc_L_law_530 rfl (fun _ => ?_) (fun hc => absurd hc (by decide))
  refine g_iinc (pc := 873) (v := 6) dc_L_law_873 rfl (by decide) (by decide) ?_
  refine g_goto (pc := 876) (tgt := 23) dc_L_law_876 rfl ?_
  refine g_iload (pc := 23) dc_L_law_23 rfl ?_
  refine g_xload_n (pc := 25) dc_L_law_25 rfl ?_
  refine g_scriptLenV (pc := 26) (n := 6) dc_L_law_26 hL rfl ?_
  refine g_bipush (pc := 27) (v := 6) dc_L_law_27 rfl ?_
  refine g_isub (pc := 29) (v := 0) dc_L_law_29 (by decide) ?_
  refine g_icmp_gt (pc := 30) (tgt := 879) dc_L_law_30 rfl (fun _ => ?_) (fun hc => absurd hc (by decide))
  refine g_iconst (pc := 879) (v := 1) dc_L_law_879 rfl ?_
  exact g_zreturn dc_L_law_880 rfl rfl ⟨rfl, (Nat.le_of_ble_eq_true rfl), (Nat.le_of_ble_eq_true rfl)⟩
set_option maxRecDepth 20000 in
set_option maxHeartbeats 4000000 in
theorem p1_15 {X : am_X} {p0 p1 p2 p3 p4 p5 : Int32} (hl9 : X.1.stackTraces = false) (hL : X.2.2.2.2.2.1 = 6) (e0 : X.2.2.2.2.2.2 (Int32.toNatClampNeg 0) = p0) (e1 : X.2.2.2.2.2.2 (Int32.toNatClampNeg 1) = p1) (e2 : X.2.2.2.2.2.2 (Int32.toNatClampNeg 2) = p2) (e3 : X.2.2.2.2.2.2 (Int32.toNatClampNeg 3) = p3) (e4 : X.2.2.2.2.2.2 (Int32.toNatClampNeg 4) = p4) (e5 : X.2.2.2.2.2.2 (Int32.toNatClampNeg 5) = p5) : am_G X mt_L_law 60 535 lo_0 [] hp_0 (fun r h => r = some (.int 1) ∧ h.length ≤ 601024 ∧ am_sl h ≤ 7293034) := by
  refine g_aload_n (pc := 535) dc_L_law_535 rfl ?_
  refine g_v0 (pc := 536) (M' := mt_W_clock) dc_L_law_536 mo_W_clock im_W_clock se_W_clock ln_L_93 rfl rfl rfl (Nat.le_of_ble_eq_true rfl) (Nat.le_of_ble_eq_true rfl) ?_
  refine g_aload_n (pc := 0) dc_W_clock_0 rfl ?_
  refine g_getfield (pc := 1) dc_W_clock_1 fl_W_65 rfl rfl ?_
  refine g_getfield (pc := 4) dc_W_clock_4 fl_W_183 rfl rfl ?_
  refine g_if_eq (pc := 7) (tgt := 20) dc_W_clock_7 rfl (fun _ => ?_) (fun hc => absurd hc (by decide))
  refine g_iconst (pc := 20) (v := (-1)) dc_W_clock_20 rfl ?_
  refine g_iretC (pc := 21) dc_W_clock_21 rfl ?_
  refine g_aload_n (pc := 539) dc_L_law_539 rfl ?_
  refine g_v0 (pc := 540) (M' := mt_M_clock) dc_L_law_540 mo_M_clock im_M_clock se_M_clock ln_L_96 rfl rfl rfl (Nat.le_of_ble_eq_true rfl) (Nat.le_of_ble_eq_true rfl) ?_
  refine g_aload_n (pc := 0) dc_M_clock_0 rfl ?_
  refine g_iconst (pc := 1) (v := 0) dc_M_clock_1 rfl ?_
  refine g_putfield (pc := 2) dc_M_clock_2 fp_M_clock_1 rfl (Nat.le_of_ble_eq_true rfl) rfl rfl ?_
  refine g_aload_n (pc := 5) dc_M_clock_5 rfl ?_
  refine g_getfield (pc := 6) dc_M_clock_6 fl_M_520 rfl rfl ?_
  refine g_if_eq (pc := 9) (tgt := 19) dc_M_clock_9 rfl (fun _ => ?_) (fun hc => absurd hc (by decide))
  refine g_iconst (pc := 19) (v := (-1)) dc_M_clock_19 rfl ?_
  refine g_iretC (pc := 20) dc_M_clock_20 rfl ?_
  refine g_icmp_eq (pc := 543) (tgt := 873) dc_L_law_543 rfl (fun _ => ?_) (fun hc => absurd hc (by decide))
  refine g_iinc (pc := 873) (v := 6) dc_L_law_873 rfl (by decide) (by decide) ?_
  refine g_goto (pc := 876) (tgt := 23) dc_L_law_876 rfl ?_
  refine g_iload (pc := 23) dc_L_law_23 rfl ?_
  refine g_xload_n (pc := 25) dc_L_law_25 rfl ?_
  refine g_scriptLenV (pc := 26) (n := 6) dc_L_law_26 hL rfl ?_
  refine g_bipush (pc := 27) (v := 6) dc_L_law_27 rfl ?_
  refine g_isub (pc := 29) (v := 0) dc_L_law_29 (by decide) ?_
  refine g_icmp_gt (pc := 30) (tgt := 879) dc_L_law_30 rfl (fun _ => ?_) (fun hc => absurd hc (by decide))
  refine g_iconst (pc := 879) (v := 1) dc_L_law_879 rfl ?_
  exact g_zreturn dc_L_law_880 rfl rfl ⟨rfl, (Nat.le_of_ble_eq_true rfl), (Nat.le_of_ble_eq_true rfl)⟩
set_option maxRecDepth 20000 in
set_option maxHeartbeats 4000000 in
theorem p1_16 {X : am_X} {p0 p1 p2 p3 p4 p5 : Int32} (hl9 : X.1.stackTraces = false) (hL : X.2.2.2.2.2.1 = 6) (e0 : X.2.2.2.2.2.2 (Int32.toNatClampNeg 0) = p0) (e1 : X.2.2.2.2.2.2 (Int32.toNatClampNeg 1) = p1) (e2 : X.2.2.2.2.2.2 (Int32.toNatClampNeg 2) = p2) (e3 : X.2.2.2.2.2.2 (Int32.toNatClampNeg 3) = p3) (e4 : X.2.2.2.2.2.2 (Int32.toNatClampNeg 4) = p4) (e5 : X.2.2.2.2.2.2 (Int32.toNatClampNeg 5) = p5) : am_G X mt_L_law 60 548 lo_0 [] hp_0 (fun r h => r = some (.int 1) ∧ h.length ≤ 601024 ∧ am_sl h ≤ 7293034) := by
  rcases am_p5 p1 with rfl | rfl | rfl | rfl | rfl | hq | hq
  · refine g_aload_n (pc := 548) dc_L_law_548 rfl ?_
    refine g_xload_n (pc := 549) dc_L_law_549 rfl ?_
    refine g_iload (pc := 550) dc_L_law_550 rfl ?_
    refine g_iconst (pc := 552) (v := 1) dc_L_law_552 rfl ?_
    refine g_iadd (pc := 553) (v := 1) dc_L_law_553 (by decide) ?_
    refine g_scriptLoadV (pc := 554) dc_L_law_554 (by rw [hL]; exact am_vin rfl) e1 ?_
    refine g_v1 (pc := 555) (M' := mt_W_count) dc_L_law_555 mo_W_count im_W_count se_W_count ln_L_97 rfl rfl rfl (Nat.le_of_ble_eq_true rfl) (Nat.le_of_ble_eq_true rfl) ?_
    refine g_iload_n (pc := 0) dc_W_count_0 rfl ?_
    refine g_tableIn (pc := 1) (off := 35) (tgt := 36) dc_W_count_1 (by decide) (by decide) rfl rfl ?_
    refine g_aload_n (pc := 36) dc_W_count_36 rfl ?_
    refine g_getfield (pc := 37) dc_W_count_37 fl_W_43 rfl rfl ?_
    refine g_getfield (pc := 40) dc_W_count_40 fl_W_199 rfl rfl ?_
    refine g_iretC (pc := 43) dc_W_count_43 rfl ?_
    refine g_aload_n (pc := 558) dc_L_law_558 rfl ?_
    refine g_xload_n (pc := 559) dc_L_law_559 rfl ?_
    refine g_iload (pc := 560) dc_L_law_560 rfl ?_
    refine g_iconst (pc := 562) (v := 1) dc_L_law_562 rfl ?_
    refine g_iadd (pc := 563) (v := 1) dc_L_law_563 (by decide) ?_
    refine g_scriptLoadV (pc := 564) dc_L_law_564 (by rw [hL]; exact am_vin rfl) e1 ?_
    refine g_v1 (pc := 565) (M' := mt_M_count) dc_L_law_565 mo_M_count im_M_count se_M_count ln_L_100 rfl rfl rfl (Nat.le_of_ble_eq_true rfl) (Nat.le_of_ble_eq_true rfl) ?_
    refine g_aload_n (pc := 0) dc_M_count_0 rfl ?_
    refine g_iconst (pc := 1) (v := 0) dc_M_count_1 rfl ?_
    refine g_putfield (pc := 2) dc_M_count_2 fp_M_count_1 rfl (Nat.le_of_ble_eq_true rfl) rfl rfl ?_
    refine g_iload_n (pc := 5) dc_M_count_5 rfl ?_
    refine g_if_eq (pc := 6) (tgt := 14) dc_M_count_6 rfl (fun _ => ?_) (fun hc => absurd hc (by decide))
    refine g_iload_n (pc := 14) dc_M_count_14 rfl ?_
    refine g_if_ne (pc := 15) (tgt := 25) dc_M_count_15 rfl (fun hc => absurd hc (by decide)) (fun _ => ?_)
    refine g_aload_n (pc := 18) dc_M_count_18 rfl ?_
    refine g_getfield (pc := 19) dc_M_count_19 fl_M_312 rfl rfl ?_
    refine g_goto (pc := 22) (tgt := 29) dc_M_count_22 rfl ?_
    refine g_iretC (pc := 29) dc_M_count_29 rfl ?_
    refine g_icmp_eq (pc := 568) (tgt := 873) dc_L_law_568 rfl (fun _ => ?_) (fun hc => absurd hc (by decide))
    refine g_iinc (pc := 873) (v := 6) dc_L_law_873 rfl (by decide) (by decide) ?_
    refine g_goto (pc := 876) (tgt := 23) dc_L_law_876 rfl ?_
    refine g_iload (pc := 23) dc_L_law_23 rfl ?_
    refine g_xload_n (pc := 25) dc_L_law_25 rfl ?_
    refine g_scriptLenV (pc := 26) (n := 6) dc_L_law_26 hL rfl ?_
    refine g_bipush (pc := 27) (v := 6) dc_L_law_27 rfl ?_
    refine g_isub (pc := 29) (v := 0) dc_L_law_29 (by decide) ?_
    refine g_icmp_gt (pc := 30) (tgt := 879) dc_L_law_30 rfl (fun _ => ?_) (fun hc => absurd hc (by decide))
    refine g_iconst (pc := 879) (v := 1) dc_L_law_879 rfl ?_
    exact g_zreturn dc_L_law_880 rfl rfl ⟨rfl, (Nat.le_of_ble_eq_true rfl), (Nat.le_of_ble_eq_true rfl)⟩
  · refine g_aload_n (pc := 548) dc_L_law_548 rfl ?_
    refine g_xload_n (pc := 549) dc_L_law_549 rfl ?_
    refine g_iload (pc := 550) dc_L_law_550 rfl ?_
    refine g_iconst (pc := 552) (v := 1) dc_L_law_552 rfl ?_
    refine g_iadd (pc := 553) (v := 1) dc_L_law_553 (by decide) ?_
    refine g_scriptLoadV (pc := 554) dc_L_law_554 (by rw [hL]; exact am_vin rfl) e1 ?_
    refine g_v1 (pc := 555) (M' := mt_W_count) dc_L_law_555 mo_W_count im_W_count se_W_count ln_L_97 rfl rfl rfl (Nat.le_of_ble_eq_true rfl) (Nat.le_of_ble_eq_true rfl) ?_
    refine g_iload_n (pc := 0) dc_W_count_0 rfl ?_
    refine g_tableIn (pc := 1) (off := 43) (tgt := 44) dc_W_count_1 (by decide) (by decide) rfl rfl ?_
    refine g_aload_n (pc := 44) dc_W_count_44 rfl ?_
    refine g_getfield (pc := 45) dc_W_count_45 fl_W_56 rfl rfl ?_
    refine g_getfield (pc := 48) dc_W_count_48 fl_W_167 rfl rfl ?_
    refine g_iretC (pc := 51) dc_W_count_51 rfl ?_
    refine g_aload_n (pc := 558) dc_L_law_558 rfl ?_
    refine g_xload_n (pc := 559) dc_L_law_559 rfl ?_
    refine g_iload (pc := 560) dc_L_law_560 rfl ?_
    refine g_iconst (pc := 562) (v := 1) dc_L_law_562 rfl ?_
    refine g_iadd (pc := 563) (v := 1) dc_L_law_563 (by decide) ?_
    refine g_scriptLoadV (pc := 564) dc_L_law_564 (by rw [hL]; exact am_vin rfl) e1 ?_
    refine g_v1 (pc := 565) (M' := mt_M_count) dc_L_law_565 mo_M_count im_M_count se_M_count ln_L_100 rfl rfl rfl (Nat.le_of_ble_eq_true rfl) (Nat.le_of_ble_eq_true rfl) ?_
    refine g_aload_n (pc := 0) dc_M_count_0 rfl ?_
    refine g_iconst (pc := 1) (v := 0) dc_M_count_1 rfl ?_
    refine g_putfield (pc := 2) dc_M_count_2 fp_M_count_1 rfl (Nat.le_of_ble_eq_true rfl) rfl rfl ?_
    refine g_iload_n (pc := 5) dc_M_count_5 rfl ?_
    refine g_if_eq (pc := 6) (tgt := 14) dc_M_count_6 rfl (fun hc => absurd hc (by decide)) (fun _ => ?_)
    refine g_iload_n (pc := 9) dc_M_count_9 rfl ?_
    refine g_iconst (pc := 10) (v := 1) dc_M_count_10 rfl ?_
    refine g_icmp_ne (pc := 11) (tgt := 30) dc_M_count_11 rfl (fun hc => absurd hc (by decide)) (fun _ => ?_)
    refine g_iload_n (pc := 14) dc_M_count_14 rfl ?_
    refine g_if_ne (pc := 15) (tgt := 25) dc_M_count_15 rfl (fun _ => ?_) (fun hc => absurd hc (by decide))
    refine g_aload_n (pc := 25) dc_M_count_25 rfl ?_
    refine g_getfield (pc := 26) dc_M_count_26 fl_M_517 rfl rfl ?_
    refine g_iretC (pc := 29) dc_M_count_29 rfl ?_
    refine g_icmp_eq (pc := 568) (tgt := 873) dc_L_law_568 rfl (fun _ => ?_) (fun hc => absurd hc (by decide))
    refine g_iinc (pc := 873) (v := 6) dc_L_law_873 rfl (by decide) (by decide) ?_
    refine g_goto (pc := 876) (tgt := 23) dc_L_law_876 rfl ?_
    refine g_iload (pc := 23) dc_L_law_23 rfl ?_
    refine g_xload_n (pc := 25) dc_L_law_25 rfl ?_
    refine g_scriptLenV (pc := 26) (n := 6) dc_L_law_26 hL rfl ?_
    refine g_bipush (pc := 27) (v := 6) dc_L_law_27 rfl ?_
    refine g_isub (pc := 29) (v := 0) dc_L_law_29 (by decide) ?_
    refine g_icmp_gt (pc := 30) (tgt := 879) dc_L_law_30 rfl (fun _ => ?_) (fun hc => absurd hc (by decide))
    refine g_iconst (pc := 879) (v := 1) dc_L_law_879 rfl ?_
    exact g_zreturn dc_L_law_880 rfl rfl ⟨rfl, (Nat.le_of_ble_eq_true rfl), (Nat.le_of_ble_eq_true rfl)⟩
  · refine g_aload_n (pc := 548) dc_L_law_548 rfl ?_
    refine g_xload_n (pc := 549) dc_L_law_549 rfl ?_
    refine g_iload (pc := 550) dc_L_law_550 rfl ?_
    refine g_iconst (pc := 552) (v := 1) dc_L_law_552 rfl ?_
    refine g_iadd (pc := 553) (v := 1) dc_L_law_553 (by decide) ?_
    refine g_scriptLoadV (pc := 554) dc_L_law_554 (by rw [hL]; exact am_vin rfl) e1 ?_
    refine g_v1 (pc := 555) (M' := mt_W_count) dc_L_law_555 mo_W_count im_W_count se_W_count ln_L_97 rfl rfl rfl (Nat.le_of_ble_eq_true rfl) (Nat.le_of_ble_eq_true rfl) ?_
    refine g_iload_n (pc := 0) dc_W_count_0 rfl ?_
    refine g_tableIn (pc := 1) (off := 51) (tgt := 52) dc_W_count_1 (by decide) (by decide) rfl rfl ?_
    refine g_aload_n (pc := 52) dc_W_count_52 rfl ?_
    refine g_getfield (pc := 53) dc_W_count_53 fl_W_65 rfl rfl ?_
    refine g_getfield (pc := 56) dc_W_count_56 fl_W_178 rfl rfl ?_
    refine g_getfield (pc := 59) dc_W_count_59 fl_W_167 rfl rfl ?_
    refine g_iretC (pc := 62) dc_W_count_62 rfl ?_
    refine g_aload_n (pc := 558) dc_L_law_558 rfl ?_
    refine g_xload_n (pc := 559) dc_L_law_559 rfl ?_
    refine g_iload (pc := 560) dc_L_law_560 rfl ?_
    refine g_iconst (pc := 562) (v := 1) dc_L_law_562 rfl ?_
    refine g_iadd (pc := 563) (v := 1) dc_L_law_563 (by decide) ?_
    refine g_scriptLoadV (pc := 564) dc_L_law_564 (by rw [hL]; exact am_vin rfl) e1 ?_
    refine g_v1 (pc := 565) (M' := mt_M_count) dc_L_law_565 mo_M_count im_M_count se_M_count ln_L_100 rfl rfl rfl (Nat.le_of_ble_eq_true rfl) (Nat.le_of_ble_eq_true rfl) ?_
    refine g_aload_n (pc := 0) dc_M_count_0 rfl ?_
    refine g_iconst (pc := 1) (v := 0) dc_M_count_1 rfl ?_
    refine g_putfield (pc := 2) dc_M_count_2 fp_M_count_1 rfl (Nat.le_of_ble_eq_true rfl) rfl rfl ?_
    refine g_iload_n (pc := 5) dc_M_count_5 rfl ?_
    refine g_if_eq (pc := 6) (tgt := 14) dc_M_count_6 rfl (fun hc => absurd hc (by decide)) (fun _ => ?_)
    refine g_iload_n (pc := 9) dc_M_count_9 rfl ?_
    refine g_iconst (pc := 10) (v := 1) dc_M_count_10 rfl ?_
    refine g_icmp_ne (pc := 11) (tgt := 30) dc_M_count_11 rfl (fun _ => ?_) (fun hc => absurd hc (by decide))
    refine g_iload_n (pc := 30) dc_M_count_30 rfl ?_
    refine g_if_lt (pc := 31) (tgt := 39) dc_M_count_31 rfl (fun hc => absurd hc (by decide)) (fun _ => ?_)
    refine g_iload_n (pc := 34) dc_M_count_34 rfl ?_
    refine g_iconst (pc := 35) (v := 4) dc_M_count_35 rfl ?_
    refine g_icmp_le (pc := 36) (tgt := 41) dc_M_count_36 rfl (fun _ => ?_) (fun hc => absurd hc (by decide))
    refine g_iconst (pc := 41) (v := 0) dc_M_count_41 rfl ?_
    refine g_istore_n (pc := 42) dc_M_count_42 (by decide) ?_
    refine g_iconst (pc := 43) (v := 0) dc_M_count_43 rfl ?_
    refine g_istore_n (pc := 44) dc_M_count_44 (by decide) ?_
    refine g_iload_n (pc := 45) dc_M_count_45 rfl ?_
    refine g_aload_n (pc := 46) dc_M_count_46 rfl ?_
    refine g_getfield (pc := 47) dc_M_count_47 fl_M_412 rfl rfl ?_
    refine g_icmp_ge (pc := 50) (tgt := 77) dc_M_count_50 rfl (fun _ => ?_) (fun hc => absurd hc (by decide))
    refine g_iload_n (pc := 77) dc_M_count_77 rfl ?_
    refine g_iconst (pc := 78) (v := 2) dc_M_count_78 rfl ?_
    refine g_icmp_ne (pc := 79) (tgt := 89) dc_M_count_79 rfl (fun hc => absurd hc (by decide)) (fun _ => ?_)
    refine g_aload_n (pc := 82) dc_M_count_82 rfl ?_
    refine g_getfield (pc := 83) dc_M_count_83 fl_M_412 rfl rfl ?_
    refine g_goto (pc := 86) (tgt := 102) dc_M_count_86 rfl ?_
    refine g_iretC (pc := 102) dc_M_count_102 rfl ?_
    refine g_icmp_eq (pc := 568) (tgt := 873) dc_L_law_568 rfl (fun _ => ?_) (fun hc => absurd hc (by decide))
    refine g_iinc (pc := 873) (v := 6) dc_L_law_873 rfl (by decide) (by decide) ?_
    refine g_goto (pc := 876) (tgt := 23) dc_L_law_876 rfl ?_
    refine g_iload (pc := 23) dc_L_law_23 rfl ?_
    refine g_xload_n (pc := 25) dc_L_law_25 rfl ?_
    refine g_scriptLenV (pc := 26) (n := 6) dc_L_law_26 hL rfl ?_
    refine g_bipush (pc := 27) (v := 6) dc_L_law_27 rfl ?_
    refine g_isub (pc := 29) (v := 0) dc_L_law_29 (by decide) ?_
    refine g_icmp_gt (pc := 30) (tgt := 879) dc_L_law_30 rfl (fun _ => ?_) (fun hc => absurd hc (by decide))
    refine g_iconst (pc := 879) (v := 1) dc_L_law_879 rfl ?_
    exact g_zreturn dc_L_law_880 rfl rfl ⟨rfl, (Nat.le_of_ble_eq_true rfl), (Nat.le_of_ble_eq_true rfl)⟩
  · refine g_aload_n (pc := 548) dc_L_law_548 rfl ?_
    refine g_xload_n (pc := 549) dc_L_law_549 rfl ?_
    refine g_iload (pc := 550) dc_L_law_550 rfl ?_
    refine g_iconst (pc := 552) (v := 1) dc_L_law_552 rfl ?_
    refine g_iadd (pc := 553) (v := 1) dc_L_law_553 (by decide) ?_
    refine g_scriptLoadV (pc := 554) dc_L_law_554 (by rw [hL]; exact am_vin rfl) e1 ?_
    refine g_v1 (pc := 555) (M' := mt_W_count) dc_L_law_555 mo_W_count im_W_count se_W_count ln_L_97 rfl rfl rfl (Nat.le_of_ble_eq_true rfl) (Nat.le_of_ble_eq_true rfl) ?_
    refine g_iload_n (pc := 0) dc_W_count_0 rfl ?_
    refine g_tableIn (pc := 1) (off := 62) (tgt := 63) dc_W_count_1 (by decide) (by decide) rfl rfl ?_
    refine g_aload_n (pc := 63) dc_W_count_63 rfl ?_
    refine g_getfield (pc := 64) dc_W_count_64 fl_W_65 rfl rfl ?_
    refine g_v0 (pc := 67) (M' := mt_C_waiting) dc_W_count_67 mo_C_waiting im_C_waiting se_C_waiting ln_W_202 rfl rfl rfl (Nat.le_of_ble_eq_true rfl) (Nat.le_of_ble_eq_true rfl) ?_
    refine g_iconst (pc := 0) (v := 0) dc_C_waiting_0 rfl ?_
    refine g_istore_n (pc := 1) dc_C_waiting_1 (by decide) ?_
    refine g_iconst (pc := 2) (v := 0) dc_C_waiting_2 rfl ?_
    refine g_istore_n (pc := 3) dc_C_waiting_3 (by decide) ?_
    refine g_iload_n (pc := 4) dc_C_waiting_4 rfl ?_
    refine g_aload_n (pc := 5) dc_C_waiting_5 rfl ?_
    refine g_getfield (pc := 6) dc_C_waiting_6 fl_C_14 rfl rfl ?_
    refine g_getfield (pc := 9) dc_C_waiting_9 fl_C_91 rfl rfl ?_
    refine g_icmp_ge (pc := 12) (tgt := 36) dc_C_waiting_12 rfl (fun _ => ?_) (fun hc => absurd hc (by decide))
    refine g_iload_n (pc := 36) dc_C_waiting_36 rfl ?_
    refine g_iretC (pc := 37) dc_C_waiting_37 rfl ?_
    refine g_iretC (pc := 70) dc_W_count_70 rfl ?_
    refine g_aload_n (pc := 558) dc_L_law_558 rfl ?_
    refine g_xload_n (pc := 559) dc_L_law_559 rfl ?_
    refine g_iload (pc := 560) dc_L_law_560 rfl ?_
    refine g_iconst (pc := 562) (v := 1) dc_L_law_562 rfl ?_
    refine g_iadd (pc := 563) (v := 1) dc_L_law_563 (by decide) ?_
    refine g_scriptLoadV (pc := 564) dc_L_law_564 (by rw [hL]; exact am_vin rfl) e1 ?_
    refine g_v1 (pc := 565) (M' := mt_M_count) dc_L_law_565 mo_M_count im_M_count se_M_count ln_L_100 rfl rfl rfl (Nat.le_of_ble_eq_true rfl) (Nat.le_of_ble_eq_true rfl) ?_
    refine g_aload_n (pc := 0) dc_M_count_0 rfl ?_
    refine g_iconst (pc := 1) (v := 0) dc_M_count_1 rfl ?_
    refine g_putfield (pc := 2) dc_M_count_2 fp_M_count_1 rfl (Nat.le_of_ble_eq_true rfl) rfl rfl ?_
    refine g_iload_n (pc := 5) dc_M_count_5 rfl ?_
    refine g_if_eq (pc := 6) (tgt := 14) dc_M_count_6 rfl (fun hc => absurd hc (by decide)) (fun _ => ?_)
    refine g_iload_n (pc := 9) dc_M_count_9 rfl ?_
    refine g_iconst (pc := 10) (v := 1) dc_M_count_10 rfl ?_
    refine g_icmp_ne (pc := 11) (tgt := 30) dc_M_count_11 rfl (fun _ => ?_) (fun hc => absurd hc (by decide))
    refine g_iload_n (pc := 30) dc_M_count_30 rfl ?_
    refine g_if_lt (pc := 31) (tgt := 39) dc_M_count_31 rfl (fun hc => absurd hc (by decide)) (fun _ => ?_)
    refine g_iload_n (pc := 34) dc_M_count_34 rfl ?_
    refine g_iconst (pc := 35) (v := 4) dc_M_count_35 rfl ?_
    refine g_icmp_le (pc := 36) (tgt := 41) dc_M_count_36 rfl (fun _ => ?_) (fun hc => absurd hc (by decide))
    refine g_iconst (pc := 41) (v := 0) dc_M_count_41 rfl ?_
    refine g_istore_n (pc := 42) dc_M_count_42 (by decide) ?_
    refine g_iconst (pc := 43) (v := 0) dc_M_count_43 rfl ?_
    refine g_istore_n (pc := 44) dc_M_count_44 (by decide) ?_
    refine g_iload_n (pc := 45) dc_M_count_45 rfl ?_
    refine g_aload_n (pc := 46) dc_M_count_46 rfl ?_
    refine g_getfield (pc := 47) dc_M_count_47 fl_M_412 rfl rfl ?_
    refine g_icmp_ge (pc := 50) (tgt := 77) dc_M_count_50 rfl (fun _ => ?_) (fun hc => absurd hc (by decide))
    refine g_iload_n (pc := 77) dc_M_count_77 rfl ?_
    refine g_iconst (pc := 78) (v := 2) dc_M_count_78 rfl ?_
    refine g_icmp_ne (pc := 79) (tgt := 89) dc_M_count_79 rfl (fun _ => ?_) (fun hc => absurd hc (by decide))
    refine g_iload_n (pc := 89) dc_M_count_89 rfl ?_
    refine g_iconst (pc := 90) (v := 3) dc_M_count_90 rfl ?_
    refine g_icmp_ne (pc := 91) (tgt := 98) dc_M_count_91 rfl (fun hc => absurd hc (by decide)) (fun _ => ?_)
    refine g_iload_n (pc := 94) dc_M_count_94 rfl ?_
    refine g_goto (pc := 95) (tgt := 102) dc_M_count_95 rfl ?_
    refine g_iretC (pc := 102) dc_M_count_102 rfl ?_
    refine g_icmp_eq (pc := 568) (tgt := 873) dc_L_law_568 rfl (fun _ => ?_) (fun hc => absurd hc (by decide))
    refine g_iinc (pc := 873) (v := 6) dc_L_law_873 rfl (by decide) (by decide) ?_
    refine g_goto (pc := 876) (tgt := 23) dc_L_law_876 rfl ?_
    refine g_iload (pc := 23) dc_L_law_23 rfl ?_
    refine g_xload_n (pc := 25) dc_L_law_25 rfl ?_
    refine g_scriptLenV (pc := 26) (n := 6) dc_L_law_26 hL rfl ?_
    refine g_bipush (pc := 27) (v := 6) dc_L_law_27 rfl ?_
    refine g_isub (pc := 29) (v := 0) dc_L_law_29 (by decide) ?_
    refine g_icmp_gt (pc := 30) (tgt := 879) dc_L_law_30 rfl (fun _ => ?_) (fun hc => absurd hc (by decide))
    refine g_iconst (pc := 879) (v := 1) dc_L_law_879 rfl ?_
    exact g_zreturn dc_L_law_880 rfl rfl ⟨rfl, (Nat.le_of_ble_eq_true rfl), (Nat.le_of_ble_eq_true rfl)⟩
  · refine g_aload_n (pc := 548) dc_L_law_548 rfl ?_
    refine g_xload_n (pc := 549) dc_L_law_549 rfl ?_
    refine g_iload (pc := 550) dc_L_law_550 rfl ?_
    refine g_iconst (pc := 552) (v := 1) dc_L_law_552 rfl ?_
    refine g_iadd (pc := 553) (v := 1) dc_L_law_553 (by decide) ?_
    refine g_scriptLoadV (pc := 554) dc_L_law_554 (by rw [hL]; exact am_vin rfl) e1 ?_
    refine g_v1 (pc := 555) (M' := mt_W_count) dc_L_law_555 mo_W_count im_W_count se_W_count ln_L_97 rfl rfl rfl (Nat.le_of_ble_eq_true rfl) (Nat.le_of_ble_eq_true rfl) ?_
    refine g_iload_n (pc := 0) dc_W_count_0 rfl ?_
    refine g_tableIn (pc := 1) (off := 70) (tgt := 71) dc_W_count_1 (by decide) (by decide) rfl rfl ?_
    refine g_aload_n (pc := 71) dc_W_count_71 rfl ?_
    refine g_getfield (pc := 72) dc_W_count_72 fl_W_65 rfl rfl ?_
    refine g_getfield (pc := 75) dc_W_count_75 fl_W_205 rfl rfl ?_
    refine g_iretC (pc := 78) dc_W_count_78 rfl ?_
    refine g_aload_n (pc := 558) dc_L_law_558 rfl ?_
    refine g_xload_n (pc := 559) dc_L_law_559 rfl ?_
    refine g_iload (pc := 560) dc_L_law_560 rfl ?_
    refine g_iconst (pc := 562) (v := 1) dc_L_law_562 rfl ?_
    refine g_iadd (pc := 563) (v := 1) dc_L_law_563 (by decide) ?_
    refine g_scriptLoadV (pc := 564) dc_L_law_564 (by rw [hL]; exact am_vin rfl) e1 ?_
    refine g_v1 (pc := 565) (M' := mt_M_count) dc_L_law_565 mo_M_count im_M_count se_M_count ln_L_100 rfl rfl rfl (Nat.le_of_ble_eq_true rfl) (Nat.le_of_ble_eq_true rfl) ?_
    refine g_aload_n (pc := 0) dc_M_count_0 rfl ?_
    refine g_iconst (pc := 1) (v := 0) dc_M_count_1 rfl ?_
    refine g_putfield (pc := 2) dc_M_count_2 fp_M_count_1 rfl (Nat.le_of_ble_eq_true rfl) rfl rfl ?_
    refine g_iload_n (pc := 5) dc_M_count_5 rfl ?_
    refine g_if_eq (pc := 6) (tgt := 14) dc_M_count_6 rfl (fun hc => absurd hc (by decide)) (fun _ => ?_)
    refine g_iload_n (pc := 9) dc_M_count_9 rfl ?_
    refine g_iconst (pc := 10) (v := 1) dc_M_count_10 rfl ?_
    refine g_icmp_ne (pc := 11) (tgt := 30) dc_M_count_11 rfl (fun _ => ?_) (fun hc => absurd hc (by decide))
    refine g_iload_n (pc := 30) dc_M_count_30 rfl ?_
    refine g_if_lt (pc := 31) (tgt := 39) dc_M_count_31 rfl (fun hc => absurd hc (by decide)) (fun _ => ?_)
    refine g_iload_n (pc := 34) dc_M_count_34 rfl ?_
    refine g_iconst (pc := 35) (v := 4) dc_M_count_35 rfl ?_
    refine g_icmp_le (pc := 36) (tgt := 41) dc_M_count_36 rfl (fun _ => ?_) (fun hc => absurd hc (by decide))
    refine g_iconst (pc := 41) (v := 0) dc_M_count_41 rfl ?_
    refine g_istore_n (pc := 42) dc_M_count_42 (by decide) ?_
    refine g_iconst (pc := 43) (v := 0) dc_M_count_43 rfl ?_
    refine g_istore_n (pc := 44) dc_M_count_44 (by decide) ?_
    refine g_iload_n (pc := 45) dc_M_count_45 rfl ?_
    refine g_aload_n (pc := 46) dc_M_count_46 rfl ?_
    refine g_getfield (pc := 47) dc_M_count_47 fl_M_412 rfl rfl ?_
    refine g_icmp_ge (pc := 50) (tgt := 77) dc_M_count_50 rfl (fun _ => ?_) (fun hc => absurd hc (by decide))
    refine g_iload_n (pc := 77) dc_M_count_77 rfl ?_
    refine g_iconst (pc := 78) (v := 2) dc_M_count_78 rfl ?_
    refine g_icmp_ne (pc := 79) (tgt := 89) dc_M_count_79 rfl (fun _ => ?_) (fun hc => absurd hc (by decide))
    refine g_iload_n (pc := 89) dc_M_count_89 rfl ?_
    refine g_iconst (pc := 90) (v := 3) dc_M_count_90 rfl ?_
    refine g_icmp_ne (pc := 91) (tgt := 98) dc_M_count_91 rfl (fun _ => ?_) (fun hc => absurd hc (by decide))
    refine g_aload_n (pc := 98) dc_M_count_98 rfl ?_
    refine g_getfield (pc := 99) dc_M_count_99 fl_M_436 rfl rfl ?_
    refine g_iretC (pc := 102) dc_M_count_102 rfl ?_
    refine g_icmp_eq (pc := 568) (tgt := 873) dc_L_law_568 rfl (fun _ => ?_) (fun hc => absurd hc (by decide))
    refine g_iinc (pc := 873) (v := 6) dc_L_law_873 rfl (by decide) (by decide) ?_
    refine g_goto (pc := 876) (tgt := 23) dc_L_law_876 rfl ?_
    refine g_iload (pc := 23) dc_L_law_23 rfl ?_
    refine g_xload_n (pc := 25) dc_L_law_25 rfl ?_
    refine g_scriptLenV (pc := 26) (n := 6) dc_L_law_26 hL rfl ?_
    refine g_bipush (pc := 27) (v := 6) dc_L_law_27 rfl ?_
    refine g_isub (pc := 29) (v := 0) dc_L_law_29 (by decide) ?_
    refine g_icmp_gt (pc := 30) (tgt := 879) dc_L_law_30 rfl (fun _ => ?_) (fun hc => absurd hc (by decide))
    refine g_iconst (pc := 879) (v := 1) dc_L_law_879 rfl ?_
    exact g_zreturn dc_L_law_880 rfl rfl ⟨rfl, (Nat.le_of_ble_eq_true rfl), (Nat.le_of_ble_eq_true rfl)⟩
  · refine g_aload_n (pc := 548) dc_L_law_548 rfl ?_
    refine g_xload_n (pc := 549) dc_L_law_549 rfl ?_
    refine g_iload (pc := 550) dc_L_law_550 rfl ?_
    refine g_iconst (pc := 552) (v := 1) dc_L_law_552 rfl ?_
    refine g_iadd (pc := 553) (v := 1) dc_L_law_553 (by decide) ?_
    refine g_scriptLoadV (pc := 554) dc_L_law_554 (by rw [hL]; exact am_vin rfl) e1 ?_
    refine g_v1 (pc := 555) (M' := mt_W_count) dc_L_law_555 mo_W_count im_W_count se_W_count ln_L_97 rfl rfl rfl (Nat.le_of_ble_eq_true rfl) (Nat.le_of_ble_eq_true rfl) ?_
    refine g_iload_n (pc := 0) dc_W_count_0 rfl ?_
    refine g_tableOut (pc := 1) (tgt := 79) dc_W_count_1 (by omega) rfl ?_
    refine g_iconst (pc := 79) (v := (-1)) dc_W_count_79 rfl ?_
    refine g_iretC (pc := 80) dc_W_count_80 rfl ?_
    refine g_aload_n (pc := 558) dc_L_law_558 rfl ?_
    refine g_xload_n (pc := 559) dc_L_law_559 rfl ?_
    refine g_iload (pc := 560) dc_L_law_560 rfl ?_
    refine g_iconst (pc := 562) (v := 1) dc_L_law_562 rfl ?_
    refine g_iadd (pc := 563) (v := 1) dc_L_law_563 (by decide) ?_
    refine g_scriptLoadV (pc := 564) dc_L_law_564 (by rw [hL]; exact am_vin rfl) e1 ?_
    refine g_v1 (pc := 565) (M' := mt_M_count) dc_L_law_565 mo_M_count im_M_count se_M_count ln_L_100 rfl rfl rfl (Nat.le_of_ble_eq_true rfl) (Nat.le_of_ble_eq_true rfl) ?_
    refine g_aload_n (pc := 0) dc_M_count_0 rfl ?_
    refine g_iconst (pc := 1) (v := 0) dc_M_count_1 rfl ?_
    refine g_putfield (pc := 2) dc_M_count_2 fp_M_count_1 rfl (Nat.le_of_ble_eq_true rfl) rfl rfl ?_
    refine g_iload_n (pc := 5) dc_M_count_5 rfl ?_
    refine g_if_eq (pc := 6) (tgt := 14) dc_M_count_6 rfl (fun hc => absurd (Int32.toInt_inj.symm.mp hc) (by show ¬ (p1.toInt = 0); omega)) (fun _ => ?_)
    refine g_iload_n (pc := 9) dc_M_count_9 rfl ?_
    refine g_iconst (pc := 10) (v := 1) dc_M_count_10 rfl ?_
    refine g_icmp_ne (pc := 11) (tgt := 30) dc_M_count_11 rfl (fun _ => ?_) (fun hc => absurd hc (fun h9 => h9 (fun h8 => absurd (Int32.toInt_inj.symm.mp h8) (by show ¬ (p1.toInt = 1); omega))))
    refine g_iload_n (pc := 30) dc_M_count_30 rfl ?_
    refine g_if_lt (pc := 31) (tgt := 39) dc_M_count_31 rfl (fun _ => ?_) (fun hc => absurd hc (fun h9 => h9 (Int32.lt_iff_toInt_lt.mpr (by show p1.toInt < 0; omega))))
    refine g_iconst (pc := 39) (v := (-1)) dc_M_count_39 rfl ?_
    refine g_iretC (pc := 40) dc_M_count_40 rfl ?_
    refine g_icmp_eq (pc := 568) (tgt := 873) dc_L_law_568 rfl (fun _ => ?_) (fun hc => absurd hc (by decide))
    refine g_iinc (pc := 873) (v := 6) dc_L_law_873 rfl (by decide) (by decide) ?_
    refine g_goto (pc := 876) (tgt := 23) dc_L_law_876 rfl ?_
    refine g_iload (pc := 23) dc_L_law_23 rfl ?_
    refine g_xload_n (pc := 25) dc_L_law_25 rfl ?_
    refine g_scriptLenV (pc := 26) (n := 6) dc_L_law_26 hL rfl ?_
    refine g_bipush (pc := 27) (v := 6) dc_L_law_27 rfl ?_
    refine g_isub (pc := 29) (v := 0) dc_L_law_29 (by decide) ?_
    refine g_icmp_gt (pc := 30) (tgt := 879) dc_L_law_30 rfl (fun _ => ?_) (fun hc => absurd hc (by decide))
    refine g_iconst (pc := 879) (v := 1) dc_L_law_879 rfl ?_
    exact g_zreturn dc_L_law_880 rfl rfl ⟨rfl, (Nat.le_of_ble_eq_true rfl), (Nat.le_of_ble_eq_true rfl)⟩
  · refine g_aload_n (pc := 548) dc_L_law_548 rfl ?_
    refine g_xload_n (pc := 549) dc_L_law_549 rfl ?_
    refine g_iload (pc := 550) dc_L_law_550 rfl ?_
    refine g_iconst (pc := 552) (v := 1) dc_L_law_552 rfl ?_
    refine g_iadd (pc := 553) (v := 1) dc_L_law_553 (by decide) ?_
    refine g_scriptLoadV (pc := 554) dc_L_law_554 (by rw [hL]; exact am_vin rfl) e1 ?_
    refine g_v1 (pc := 555) (M' := mt_W_count) dc_L_law_555 mo_W_count im_W_count se_W_count ln_L_97 rfl rfl rfl (Nat.le_of_ble_eq_true rfl) (Nat.le_of_ble_eq_true rfl) ?_
    refine g_iload_n (pc := 0) dc_W_count_0 rfl ?_
    refine g_tableOut (pc := 1) (tgt := 79) dc_W_count_1 (by omega) rfl ?_
    refine g_iconst (pc := 79) (v := (-1)) dc_W_count_79 rfl ?_
    refine g_iretC (pc := 80) dc_W_count_80 rfl ?_
    refine g_aload_n (pc := 558) dc_L_law_558 rfl ?_
    refine g_xload_n (pc := 559) dc_L_law_559 rfl ?_
    refine g_iload (pc := 560) dc_L_law_560 rfl ?_
    refine g_iconst (pc := 562) (v := 1) dc_L_law_562 rfl ?_
    refine g_iadd (pc := 563) (v := 1) dc_L_law_563 (by decide) ?_
    refine g_scriptLoadV (pc := 564) dc_L_law_564 (by rw [hL]; exact am_vin rfl) e1 ?_
    refine g_v1 (pc := 565) (M' := mt_M_count) dc_L_law_565 mo_M_count im_M_count se_M_count ln_L_100 rfl rfl rfl (Nat.le_of_ble_eq_true rfl) (Nat.le_of_ble_eq_true rfl) ?_
    refine g_aload_n (pc := 0) dc_M_count_0 rfl ?_
    refine g_iconst (pc := 1) (v := 0) dc_M_count_1 rfl ?_
    refine g_putfield (pc := 2) dc_M_count_2 fp_M_count_1 rfl (Nat.le_of_ble_eq_true rfl) rfl rfl ?_
    refine g_iload_n (pc := 5) dc_M_count_5 rfl ?_
    refine g_if_eq (pc := 6) (tgt := 14) dc_M_count_6 rfl (fun hc => absurd (Int32.toInt_inj.symm.mp hc) (by show ¬ (p1.toInt = 0); omega)) (fun _ => ?_)
    refine g_iload_n (pc := 9) dc_M_count_9 rfl ?_
    refine g_iconst (pc := 10) (v := 1) dc_M_count_10 rfl ?_
    refine g_icmp_ne (pc := 11) (tgt := 30) dc_M_count_11 rfl (fun _ => ?_) (fun hc => absurd hc (fun h9 => h9 (fun h8 => absurd (Int32.toInt_inj.symm.mp h8) (by show ¬ (p1.toInt = 1); omega))))
    refine g_iload_n (pc := 30) dc_M_count_30 rfl ?_
    refine g_if_lt (pc := 31) (tgt := 39) dc_M_count_31 rfl (fun hc => absurd (Int32.lt_iff_toInt_lt.mp hc) (by show ¬ (p1.toInt < 0); omega)) (fun _ => ?_)
    refine g_iload_n (pc := 34) dc_M_count_34 rfl ?_
    refine g_iconst (pc := 35) (v := 4) dc_M_count_35 rfl ?_
    refine g_icmp_le (pc := 36) (tgt := 41) dc_M_count_36 rfl (fun hc => absurd (Int32.le_iff_toInt_le.mp hc) (by show ¬ (p1.toInt ≤ 4); omega)) (fun _ => ?_)
    refine g_iconst (pc := 39) (v := (-1)) dc_M_count_39 rfl ?_
    refine g_iretC (pc := 40) dc_M_count_40 rfl ?_
    refine g_icmp_eq (pc := 568) (tgt := 873) dc_L_law_568 rfl (fun _ => ?_) (fun hc => absurd hc (by decide))
    refine g_iinc (pc := 873) (v := 6) dc_L_law_873 rfl (by decide) (by decide) ?_
    refine g_goto (pc := 876) (tgt := 23) dc_L_law_876 rfl ?_
    refine g_iload (pc := 23) dc_L_law_23 rfl ?_
    refine g_xload_n (pc := 25) dc_L_law_25 rfl ?_
    refine g_scriptLenV (pc := 26) (n := 6) dc_L_law_26 hL rfl ?_
    refine g_bipush (pc := 27) (v := 6) dc_L_law_27 rfl ?_
    refine g_isub (pc := 29) (v := 0) dc_L_law_29 (by decide) ?_
    refine g_icmp_gt (pc := 30) (tgt := 879) dc_L_law_30 rfl (fun _ => ?_) (fun hc => absurd hc (by decide))
    refine g_iconst (pc := 879) (v := 1) dc_L_law_879 rfl ?_
    exact g_zreturn dc_L_law_880 rfl rfl ⟨rfl, (Nat.le_of_ble_eq_true rfl), (Nat.le_of_ble_eq_true rfl)⟩
set_option maxRecDepth 20000 in
set_option maxHeartbeats 4000000 in
theorem p1_17 {X : am_X} {p0 p1 p2 p3 p4 p5 : Int32} (hl9 : X.1.stackTraces = false) (hL : X.2.2.2.2.2.1 = 6) (e0 : X.2.2.2.2.2.2 (Int32.toNatClampNeg 0) = p0) (e1 : X.2.2.2.2.2.2 (Int32.toNatClampNeg 1) = p1) (e2 : X.2.2.2.2.2.2 (Int32.toNatClampNeg 2) = p2) (e3 : X.2.2.2.2.2.2 (Int32.toNatClampNeg 3) = p3) (e4 : X.2.2.2.2.2.2 (Int32.toNatClampNeg 4) = p4) (e5 : X.2.2.2.2.2.2 (Int32.toNatClampNeg 5) = p5) : am_G X mt_L_law 60 573 lo_0 [] hp_0 (fun r h => r = some (.int 1) ∧ h.length ≤ 601024 ∧ am_sl h ≤ 7293034) := by
  refine g_aload_n (pc := 573) dc_L_law_573 rfl ?_
  refine g_xload_n (pc := 574) dc_L_law_574 rfl ?_
  refine g_iload (pc := 575) dc_L_law_575 rfl ?_
  refine g_iconst (pc := 577) (v := 1) dc_L_law_577 rfl ?_
  refine g_iadd (pc := 578) (v := 1) dc_L_law_578 (by decide) ?_
  refine g_scriptLoadV (pc := 579) dc_L_law_579 (by rw [hL]; exact am_vin rfl) e1 ?_
  refine g_xload_n (pc := 580) dc_L_law_580 rfl ?_
  refine g_iload (pc := 581) dc_L_law_581 rfl ?_
  refine g_iconst (pc := 583) (v := 2) dc_L_law_583 rfl ?_
  refine g_iadd (pc := 584) (v := 2) dc_L_law_584 (by decide) ?_
  refine g_scriptLoadV (pc := 585) dc_L_law_585 (by rw [hL]; exact am_vin rfl) e2 ?_
  refine g_v2 (pc := 586) (M' := mt_W_known) dc_L_law_586 mo_W_known im_W_known se_W_known ln_L_101 rfl rfl rfl (Nat.le_of_ble_eq_true rfl) (Nat.le_of_ble_eq_true rfl) ?_
  refine g_iload_n (pc := 0) dc_W_known_0 rfl ?_
  refine g_if_lt (pc := 1) (tgt := 27) dc_W_known_1 rfl (fun hc0 => ?_) (fun hc0 => ?_)
  · have hi0 : p1.toInt < 0 := Int32.lt_iff_toInt_lt.mp hc0
    refine g_iconst (pc := 27) (v := (-1)) dc_W_known_27 rfl ?_
    refine g_iretC (pc := 28) dc_W_known_28 rfl ?_
    refine g_aload_n (pc := 589) dc_L_law_589 rfl ?_
    refine g_xload_n (pc := 590) dc_L_law_590 rfl ?_
    refine g_iload (pc := 591) dc_L_law_591 rfl ?_
    refine g_iconst (pc := 593) (v := 1) dc_L_law_593 rfl ?_
    refine g_iadd (pc := 594) (v := 1) dc_L_law_594 (by decide) ?_
    refine g_scriptLoadV (pc := 595) dc_L_law_595 (by rw [hL]; exact am_vin rfl) e1 ?_
    refine g_xload_n (pc := 596) dc_L_law_596 rfl ?_
    refine g_iload (pc := 597) dc_L_law_597 rfl ?_
    refine g_iconst (pc := 599) (v := 2) dc_L_law_599 rfl ?_
    refine g_iadd (pc := 600) (v := 2) dc_L_law_600 (by decide) ?_
    refine g_scriptLoadV (pc := 601) dc_L_law_601 (by rw [hL]; exact am_vin rfl) e2 ?_
    refine g_v2 (pc := 602) (M' := mt_M_known) dc_L_law_602 mo_M_known im_M_known se_M_known ln_L_105 rfl rfl rfl (Nat.le_of_ble_eq_true rfl) (Nat.le_of_ble_eq_true rfl) ?_
    refine g_aload_n (pc := 0) dc_M_known_0 rfl ?_
    refine g_iconst (pc := 1) (v := 0) dc_M_known_1 rfl ?_
    refine g_putfield (pc := 2) dc_M_known_2 fp_M_known_1 rfl (Nat.le_of_ble_eq_true rfl) rfl rfl ?_
    refine g_iload_n (pc := 5) dc_M_known_5 rfl ?_
    refine g_if_lt (pc := 6) (tgt := 26) dc_M_known_6 rfl (fun _ => ?_) (fun hc => absurd hc (fun h9 => h9 (Int32.lt_iff_toInt_lt.mpr (by show p1.toInt < 0; omega))))
    refine g_iconst (pc := 26) (v := (-1)) dc_M_known_26 rfl ?_
    refine g_iretC (pc := 27) dc_M_known_27 rfl ?_
    refine g_icmp_eq (pc := 605) (tgt := 873) dc_L_law_605 rfl (fun _ => ?_) (fun hc => absurd hc (by decide))
    refine g_iinc (pc := 873) (v := 6) dc_L_law_873 rfl (by decide) (by decide) ?_
    refine g_goto (pc := 876) (tgt := 23) dc_L_law_876 rfl ?_
    refine g_iload (pc := 23) dc_L_law_23 rfl ?_
    refine g_xload_n (pc := 25) dc_L_law_25 rfl ?_
    refine g_scriptLenV (pc := 26) (n := 6) dc_L_law_26 hL rfl ?_
    refine g_bipush (pc := 27) (v := 6) dc_L_law_27 rfl ?_
    refine g_isub (pc := 29) (v := 0) dc_L_law_29 (by decide) ?_
    refine g_icmp_gt (pc := 30) (tgt := 879) dc_L_law_30 rfl (fun _ => ?_) (fun hc => absurd hc (by decide))
    refine g_iconst (pc := 879) (v := 1) dc_L_law_879 rfl ?_
    exact g_zreturn dc_L_law_880 rfl rfl ⟨rfl, (Nat.le_of_ble_eq_true rfl), (Nat.le_of_ble_eq_true rfl)⟩
  · have hi0 : ¬ (p1.toInt < 0) := fun h9 => hc0 (Int32.lt_iff_toInt_lt.mpr h9)
    refine g_iload_n (pc := 4) dc_W_known_4 rfl ?_
    refine g_aload_n (pc := 5) dc_W_known_5 rfl ?_
    refine g_getfield (pc := 6) dc_W_known_6 fl_W_65 rfl rfl ?_
    refine g_getfield (pc := 9) dc_W_known_9 fl_W_178 rfl rfl ?_
    refine g_getfield (pc := 12) dc_W_known_12 fl_W_167 rfl rfl ?_
    refine g_icmp_ge (pc := 15) (tgt := 27) dc_W_known_15 rfl (fun _ => ?_) (fun hc => absurd hc (fun h9 => h9 (Int32.le_iff_toInt_le.mpr (by show 0 ≤ p1.toInt; omega))))
    refine g_iconst (pc := 27) (v := (-1)) dc_W_known_27 rfl ?_
    refine g_iretC (pc := 28) dc_W_known_28 rfl ?_
    refine g_aload_n (pc := 589) dc_L_law_589 rfl ?_
    refine g_xload_n (pc := 590) dc_L_law_590 rfl ?_
    refine g_iload (pc := 591) dc_L_law_591 rfl ?_
    refine g_iconst (pc := 593) (v := 1) dc_L_law_593 rfl ?_
    refine g_iadd (pc := 594) (v := 1) dc_L_law_594 (by decide) ?_
    refine g_scriptLoadV (pc := 595) dc_L_law_595 (by rw [hL]; exact am_vin rfl) e1 ?_
    refine g_xload_n (pc := 596) dc_L_law_596 rfl ?_
    refine g_iload (pc := 597) dc_L_law_597 rfl ?_
    refine g_iconst (pc := 599) (v := 2) dc_L_law_599 rfl ?_
    refine g_iadd (pc := 600) (v := 2) dc_L_law_600 (by decide) ?_
    refine g_scriptLoadV (pc := 601) dc_L_law_601 (by rw [hL]; exact am_vin rfl) e2 ?_
    refine g_v2 (pc := 602) (M' := mt_M_known) dc_L_law_602 mo_M_known im_M_known se_M_known ln_L_105 rfl rfl rfl (Nat.le_of_ble_eq_true rfl) (Nat.le_of_ble_eq_true rfl) ?_
    refine g_aload_n (pc := 0) dc_M_known_0 rfl ?_
    refine g_iconst (pc := 1) (v := 0) dc_M_known_1 rfl ?_
    refine g_putfield (pc := 2) dc_M_known_2 fp_M_known_1 rfl (Nat.le_of_ble_eq_true rfl) rfl rfl ?_
    refine g_iload_n (pc := 5) dc_M_known_5 rfl ?_
    refine g_if_lt (pc := 6) (tgt := 26) dc_M_known_6 rfl (fun hc => absurd (Int32.lt_iff_toInt_lt.mp hc) (by show ¬ (p1.toInt < 0); omega)) (fun _ => ?_)
    refine g_iload_n (pc := 9) dc_M_known_9 rfl ?_
    refine g_aload_n (pc := 10) dc_M_known_10 rfl ?_
    refine g_getfield (pc := 11) dc_M_known_11 fl_M_412 rfl rfl ?_
    refine g_icmp_ge (pc := 14) (tgt := 26) dc_M_known_14 rfl (fun _ => ?_) (fun hc => absurd hc (fun h9 => h9 (Int32.le_iff_toInt_le.mpr (by show 0 ≤ p1.toInt; omega))))
    refine g_iconst (pc := 26) (v := (-1)) dc_M_known_26 rfl ?_
    refine g_iretC (pc := 27) dc_M_known_27 rfl ?_
    refine g_icmp_eq (pc := 605) (tgt := 873) dc_L_law_605 rfl (fun _ => ?_) (fun hc => absurd hc (by decide))
    refine g_iinc (pc := 873) (v := 6) dc_L_law_873 rfl (by decide) (by decide) ?_
    refine g_goto (pc := 876) (tgt := 23) dc_L_law_876 rfl ?_
    refine g_iload (pc := 23) dc_L_law_23 rfl ?_
    refine g_xload_n (pc := 25) dc_L_law_25 rfl ?_
    refine g_scriptLenV (pc := 26) (n := 6) dc_L_law_26 hL rfl ?_
    refine g_bipush (pc := 27) (v := 6) dc_L_law_27 rfl ?_
    refine g_isub (pc := 29) (v := 0) dc_L_law_29 (by decide) ?_
    refine g_icmp_gt (pc := 30) (tgt := 879) dc_L_law_30 rfl (fun _ => ?_) (fun hc => absurd hc (by decide))
    refine g_iconst (pc := 879) (v := 1) dc_L_law_879 rfl ?_
    exact g_zreturn dc_L_law_880 rfl rfl ⟨rfl, (Nat.le_of_ble_eq_true rfl), (Nat.le_of_ble_eq_true rfl)⟩
set_option maxRecDepth 20000 in
set_option maxHeartbeats 4000000 in
theorem p1_18 {X : am_X} {p0 p1 p2 p3 p4 p5 : Int32} (hl9 : X.1.stackTraces = false) (hL : X.2.2.2.2.2.1 = 6) (e0 : X.2.2.2.2.2.2 (Int32.toNatClampNeg 0) = p0) (e1 : X.2.2.2.2.2.2 (Int32.toNatClampNeg 1) = p1) (e2 : X.2.2.2.2.2.2 (Int32.toNatClampNeg 2) = p2) (e3 : X.2.2.2.2.2.2 (Int32.toNatClampNeg 3) = p3) (e4 : X.2.2.2.2.2.2 (Int32.toNatClampNeg 4) = p4) (e5 : X.2.2.2.2.2.2 (Int32.toNatClampNeg 5) = p5) : am_G X mt_L_law 60 610 lo_0 [] hp_0 (fun r h => r = some (.int 1) ∧ h.length ≤ 601024 ∧ am_sl h ≤ 7293034) := by
  refine g_aload_n (pc := 610) dc_L_law_610 rfl ?_
  refine g_xload_n (pc := 611) dc_L_law_611 rfl ?_
  refine g_iload (pc := 612) dc_L_law_612 rfl ?_
  refine g_iconst (pc := 614) (v := 1) dc_L_law_614 rfl ?_
  refine g_iadd (pc := 615) (v := 1) dc_L_law_615 (by decide) ?_
  refine g_scriptLoadV (pc := 616) dc_L_law_616 (by rw [hL]; exact am_vin rfl) e1 ?_
  refine g_xload_n (pc := 617) dc_L_law_617 rfl ?_
  refine g_iload (pc := 618) dc_L_law_618 rfl ?_
  refine g_iconst (pc := 620) (v := 2) dc_L_law_620 rfl ?_
  refine g_iadd (pc := 621) (v := 2) dc_L_law_621 (by decide) ?_
  refine g_scriptLoadV (pc := 622) dc_L_law_622 (by rw [hL]; exact am_vin rfl) e2 ?_
  refine g_v2 (pc := 623) (M' := mt_W_asking) dc_L_law_623 mo_W_asking im_W_asking se_W_asking ln_L_106 rfl rfl rfl (Nat.le_of_ble_eq_true rfl) (Nat.le_of_ble_eq_true rfl) ?_
  refine g_iload_n (pc := 0) dc_W_asking_0 rfl ?_
  refine g_if_lt (pc := 1) (tgt := 18) dc_W_asking_1 rfl (fun hc0 => ?_) (fun hc0 => ?_)
  · have hi0 : p1.toInt < 0 := Int32.lt_iff_toInt_lt.mp hc0
    refine g_iconst (pc := 18) (v := (-1)) dc_W_asking_18 rfl ?_
    refine g_iretC (pc := 19) dc_W_asking_19 rfl ?_
    refine g_aload_n (pc := 626) dc_L_law_626 rfl ?_
    refine g_xload_n (pc := 627) dc_L_law_627 rfl ?_
    refine g_iload (pc := 628) dc_L_law_628 rfl ?_
    refine g_iconst (pc := 630) (v := 1) dc_L_law_630 rfl ?_
    refine g_iadd (pc := 631) (v := 1) dc_L_law_631 (by decide) ?_
    refine g_scriptLoadV (pc := 632) dc_L_law_632 (by rw [hL]; exact am_vin rfl) e1 ?_
    refine g_xload_n (pc := 633) dc_L_law_633 rfl ?_
    refine g_iload (pc := 634) dc_L_law_634 rfl ?_
    refine g_iconst (pc := 636) (v := 2) dc_L_law_636 rfl ?_
    refine g_iadd (pc := 637) (v := 2) dc_L_law_637 (by decide) ?_
    refine g_scriptLoadV (pc := 638) dc_L_law_638 (by rw [hL]; exact am_vin rfl) e2 ?_
    refine g_v2 (pc := 639) (M' := mt_M_asking) dc_L_law_639 mo_M_asking im_M_asking se_M_asking ln_L_109 rfl rfl rfl (Nat.le_of_ble_eq_true rfl) (Nat.le_of_ble_eq_true rfl) ?_
    refine g_aload_n (pc := 0) dc_M_asking_0 rfl ?_
    refine g_iconst (pc := 1) (v := 0) dc_M_asking_1 rfl ?_
    refine g_putfield (pc := 2) dc_M_asking_2 fp_M_asking_1 rfl (Nat.le_of_ble_eq_true rfl) rfl rfl ?_
    refine g_iload_n (pc := 5) dc_M_asking_5 rfl ?_
    refine g_if_lt (pc := 6) (tgt := 33) dc_M_asking_6 rfl (fun _ => ?_) (fun hc => absurd hc (fun h9 => h9 (Int32.lt_iff_toInt_lt.mpr (by show p1.toInt < 0; omega))))
    refine g_iconst (pc := 33) (v := (-1)) dc_M_asking_33 rfl ?_
    refine g_iretC (pc := 34) dc_M_asking_34 rfl ?_
    refine g_icmp_eq (pc := 642) (tgt := 873) dc_L_law_642 rfl (fun _ => ?_) (fun hc => absurd hc (by decide))
    refine g_iinc (pc := 873) (v := 6) dc_L_law_873 rfl (by decide) (by decide) ?_
    refine g_goto (pc := 876) (tgt := 23) dc_L_law_876 rfl ?_
    refine g_iload (pc := 23) dc_L_law_23 rfl ?_
    refine g_xload_n (pc := 25) dc_L_law_25 rfl ?_
    refine g_scriptLenV (pc := 26) (n := 6) dc_L_law_26 hL rfl ?_
    refine g_bipush (pc := 27) (v := 6) dc_L_law_27 rfl ?_
    refine g_isub (pc := 29) (v := 0) dc_L_law_29 (by decide) ?_
    refine g_icmp_gt (pc := 30) (tgt := 879) dc_L_law_30 rfl (fun _ => ?_) (fun hc => absurd hc (by decide))
    refine g_iconst (pc := 879) (v := 1) dc_L_law_879 rfl ?_
    exact g_zreturn dc_L_law_880 rfl rfl ⟨rfl, (Nat.le_of_ble_eq_true rfl), (Nat.le_of_ble_eq_true rfl)⟩
  · have hi0 : ¬ (p1.toInt < 0) := fun h9 => hc0 (Int32.lt_iff_toInt_lt.mpr h9)
    refine g_iload_n (pc := 4) dc_W_asking_4 rfl ?_
    refine g_aload_n (pc := 5) dc_W_asking_5 rfl ?_
    refine g_getfield (pc := 6) dc_W_asking_6 fl_W_65 rfl rfl ?_
    refine g_getfield (pc := 9) dc_W_asking_9 fl_W_212 rfl rfl ?_
    refine g_getfield (pc := 12) dc_W_asking_12 fl_W_167 rfl rfl ?_
    refine g_icmp_lt (pc := 15) (tgt := 20) dc_W_asking_15 rfl (fun hc => absurd (Int32.lt_iff_toInt_lt.mp hc) (by show ¬ (p1.toInt < 0); omega)) (fun _ => ?_)
    refine g_iconst (pc := 18) (v := (-1)) dc_W_asking_18 rfl ?_
    refine g_iretC (pc := 19) dc_W_asking_19 rfl ?_
    refine g_aload_n (pc := 626) dc_L_law_626 rfl ?_
    refine g_xload_n (pc := 627) dc_L_law_627 rfl ?_
    refine g_iload (pc := 628) dc_L_law_628 rfl ?_
    refine g_iconst (pc := 630) (v := 1) dc_L_law_630 rfl ?_
    refine g_iadd (pc := 631) (v := 1) dc_L_law_631 (by decide) ?_
    refine g_scriptLoadV (pc := 632) dc_L_law_632 (by rw [hL]; exact am_vin rfl) e1 ?_
    refine g_xload_n (pc := 633) dc_L_law_633 rfl ?_
    refine g_iload (pc := 634) dc_L_law_634 rfl ?_
    refine g_iconst (pc := 636) (v := 2) dc_L_law_636 rfl ?_
    refine g_iadd (pc := 637) (v := 2) dc_L_law_637 (by decide) ?_
    refine g_scriptLoadV (pc := 638) dc_L_law_638 (by rw [hL]; exact am_vin rfl) e2 ?_
    refine g_v2 (pc := 639) (M' := mt_M_asking) dc_L_law_639 mo_M_asking im_M_asking se_M_asking ln_L_109 rfl rfl rfl (Nat.le_of_ble_eq_true rfl) (Nat.le_of_ble_eq_true rfl) ?_
    refine g_aload_n (pc := 0) dc_M_asking_0 rfl ?_
    refine g_iconst (pc := 1) (v := 0) dc_M_asking_1 rfl ?_
    refine g_putfield (pc := 2) dc_M_asking_2 fp_M_asking_1 rfl (Nat.le_of_ble_eq_true rfl) rfl rfl ?_
    refine g_iload_n (pc := 5) dc_M_asking_5 rfl ?_
    refine g_if_lt (pc := 6) (tgt := 33) dc_M_asking_6 rfl (fun hc => absurd (Int32.lt_iff_toInt_lt.mp hc) (by show ¬ (p1.toInt < 0); omega)) (fun _ => ?_)
    refine g_iload_n (pc := 9) dc_M_asking_9 rfl ?_
    refine g_aload_n (pc := 10) dc_M_asking_10 rfl ?_
    refine g_getfield (pc := 11) dc_M_asking_11 fl_M_436 rfl rfl ?_
    refine g_icmp_ge (pc := 14) (tgt := 33) dc_M_asking_14 rfl (fun _ => ?_) (fun hc => absurd hc (fun h9 => h9 (Int32.le_iff_toInt_le.mpr (by show 0 ≤ p1.toInt; omega))))
    refine g_iconst (pc := 33) (v := (-1)) dc_M_asking_33 rfl ?_
    refine g_iretC (pc := 34) dc_M_asking_34 rfl ?_
    refine g_icmp_eq (pc := 642) (tgt := 873) dc_L_law_642 rfl (fun _ => ?_) (fun hc => absurd hc (by decide))
    refine g_iinc (pc := 873) (v := 6) dc_L_law_873 rfl (by decide) (by decide) ?_
    refine g_goto (pc := 876) (tgt := 23) dc_L_law_876 rfl ?_
    refine g_iload (pc := 23) dc_L_law_23 rfl ?_
    refine g_xload_n (pc := 25) dc_L_law_25 rfl ?_
    refine g_scriptLenV (pc := 26) (n := 6) dc_L_law_26 hL rfl ?_
    refine g_bipush (pc := 27) (v := 6) dc_L_law_27 rfl ?_
    refine g_isub (pc := 29) (v := 0) dc_L_law_29 (by decide) ?_
    refine g_icmp_gt (pc := 30) (tgt := 879) dc_L_law_30 rfl (fun _ => ?_) (fun hc => absurd hc (by decide))
    refine g_iconst (pc := 879) (v := 1) dc_L_law_879 rfl ?_
    exact g_zreturn dc_L_law_880 rfl rfl ⟨rfl, (Nat.le_of_ble_eq_true rfl), (Nat.le_of_ble_eq_true rfl)⟩
set_option maxRecDepth 20000 in
set_option maxHeartbeats 4000000 in
theorem p1_19 {X : am_X} {p0 p1 p2 p3 p4 p5 : Int32} (hl9 : X.1.stackTraces = false) (hL : X.2.2.2.2.2.1 = 6) (e0 : X.2.2.2.2.2.2 (Int32.toNatClampNeg 0) = p0) (e1 : X.2.2.2.2.2.2 (Int32.toNatClampNeg 1) = p1) (e2 : X.2.2.2.2.2.2 (Int32.toNatClampNeg 2) = p2) (e3 : X.2.2.2.2.2.2 (Int32.toNatClampNeg 3) = p3) (e4 : X.2.2.2.2.2.2 (Int32.toNatClampNeg 4) = p4) (e5 : X.2.2.2.2.2.2 (Int32.toNatClampNeg 5) = p5) : am_G X mt_L_law 60 647 lo_0 [] hp_0 (fun r h => r = some (.int 1) ∧ h.length ≤ 601024 ∧ am_sl h ≤ 7293034) := by
  refine g_aload_n (pc := 647) dc_L_law_647 rfl ?_
  refine g_xload_n (pc := 648) dc_L_law_648 rfl ?_
  refine g_iload (pc := 649) dc_L_law_649 rfl ?_
  refine g_iconst (pc := 651) (v := 1) dc_L_law_651 rfl ?_
  refine g_iadd (pc := 652) (v := 1) dc_L_law_652 (by decide) ?_
  refine g_scriptLoadV (pc := 653) dc_L_law_653 (by rw [hL]; exact am_vin rfl) e1 ?_
  refine g_v1 (pc := 654) (M' := mt_W_address) dc_L_law_654 mo_W_address im_W_address se_W_address ln_L_110 rfl rfl rfl (Nat.le_of_ble_eq_true rfl) (Nat.le_of_ble_eq_true rfl) ?_
  refine g_aload_n (pc := 0) dc_W_address_0 rfl ?_
  refine g_aload_n (pc := 1) dc_W_address_1 rfl ?_
  refine g_getfield (pc := 2) dc_W_address_2 fl_W_65 rfl rfl ?_
  refine g_getfield (pc := 5) dc_W_address_5 fl_W_178 rfl rfl ?_
  refine g_iload_n (pc := 8) dc_W_address_8 rfl ?_
  refine g_v2 (pc := 9) (M' := mt_W_produceRow) dc_W_address_9 mo_W_produceRow im_W_produceRow se_W_produceRow ln_W_218 rfl rfl rfl (Nat.le_of_ble_eq_true rfl) (Nat.le_of_ble_eq_true rfl) ?_
  refine g_iload_n (pc := 0) dc_W_produceRow_0 rfl ?_
  refine g_if_lt (pc := 1) (tgt := 12) dc_W_produceRow_1 rfl (fun hc0 => ?_) (fun hc0 => ?_)
  · have hi0 : p1.toInt < 0 := Int32.lt_iff_toInt_lt.mp hc0
    refine g_iconst (pc := 12) (v := (-1)) dc_W_produceRow_12 rfl ?_
    refine g_iretC (pc := 13) dc_W_produceRow_13 rfl ?_
    refine g_iretC (pc := 12) dc_W_address_12 rfl ?_
    refine g_aload_n (pc := 657) dc_L_law_657 rfl ?_
    refine g_xload_n (pc := 658) dc_L_law_658 rfl ?_
    refine g_iload (pc := 659) dc_L_law_659 rfl ?_
    refine g_iconst (pc := 661) (v := 1) dc_L_law_661 rfl ?_
    refine g_iadd (pc := 662) (v := 1) dc_L_law_662 (by decide) ?_
    refine g_scriptLoadV (pc := 663) dc_L_law_663 (by rw [hL]; exact am_vin rfl) e1 ?_
    refine g_v1 (pc := 664) (M' := mt_M_address) dc_L_law_664 mo_M_address im_M_address se_M_address ln_L_113 rfl rfl rfl (Nat.le_of_ble_eq_true rfl) (Nat.le_of_ble_eq_true rfl) ?_
    refine g_aload_n (pc := 0) dc_M_address_0 rfl ?_
    refine g_iconst (pc := 1) (v := 0) dc_M_address_1 rfl ?_
    refine g_putfield (pc := 2) dc_M_address_2 fp_M_address_1 rfl (Nat.le_of_ble_eq_true rfl) rfl rfl ?_
    refine g_iload_n (pc := 5) dc_M_address_5 rfl ?_
    refine g_if_lt (pc := 6) (tgt := 17) dc_M_address_6 rfl (fun _ => ?_) (fun hc => absurd hc (fun h9 => h9 (Int32.lt_iff_toInt_lt.mpr (by show p1.toInt < 0; omega))))
    refine g_iconst (pc := 17) (v := (-1)) dc_M_address_17 rfl ?_
    refine g_goto (pc := 18) (tgt := 31) dc_M_address_18 rfl ?_
    refine g_iretC (pc := 31) dc_M_address_31 rfl ?_
    refine g_icmp_eq (pc := 667) (tgt := 873) dc_L_law_667 rfl (fun _ => ?_) (fun hc => absurd hc (by decide))
    refine g_iinc (pc := 873) (v := 6) dc_L_law_873 rfl (by decide) (by decide) ?_
    refine g_goto (pc := 876) (tgt := 23) dc_L_law_876 rfl ?_
    refine g_iload (pc := 23) dc_L_law_23 rfl ?_
    refine g_xload_n (pc := 25) dc_L_law_25 rfl ?_
    refine g_scriptLenV (pc := 26) (n := 6) dc_L_law_26 hL rfl ?_
    refine g_bipush (pc := 27) (v := 6) dc_L_law_27 rfl ?_
    refine g_isub (pc := 29) (v := 0) dc_L_law_29 (by decide) ?_
    refine g_icmp_gt (pc := 30) (tgt := 879) dc_L_law_30 rfl (fun _ => ?_) (fun hc => absurd hc (by decide))
    refine g_iconst (pc := 879) (v := 1) dc_L_law_879 rfl ?_
    exact g_zreturn dc_L_law_880 rfl rfl ⟨rfl, (Nat.le_of_ble_eq_true rfl), (Nat.le_of_ble_eq_true rfl)⟩
  · have hi0 : ¬ (p1.toInt < 0) := fun h9 => hc0 (Int32.lt_iff_toInt_lt.mpr h9)
    refine g_iload_n (pc := 4) dc_W_produceRow_4 rfl ?_
    refine g_aload_n (pc := 5) dc_W_produceRow_5 rfl ?_
    refine g_getfield (pc := 6) dc_W_produceRow_6 fl_W_167 rfl rfl ?_
    refine g_icmp_lt (pc := 9) (tgt := 14) dc_W_produceRow_9 rfl (fun hc => absurd (Int32.lt_iff_toInt_lt.mp hc) (by show ¬ (p1.toInt < 0); omega)) (fun _ => ?_)
    refine g_iconst (pc := 12) (v := (-1)) dc_W_produceRow_12 rfl ?_
    refine g_iretC (pc := 13) dc_W_produceRow_13 rfl ?_
    refine g_iretC (pc := 12) dc_W_address_12 rfl ?_
    refine g_aload_n (pc := 657) dc_L_law_657 rfl ?_
    refine g_xload_n (pc := 658) dc_L_law_658 rfl ?_
    refine g_iload (pc := 659) dc_L_law_659 rfl ?_
    refine g_iconst (pc := 661) (v := 1) dc_L_law_661 rfl ?_
    refine g_iadd (pc := 662) (v := 1) dc_L_law_662 (by decide) ?_
    refine g_scriptLoadV (pc := 663) dc_L_law_663 (by rw [hL]; exact am_vin rfl) e1 ?_
    refine g_v1 (pc := 664) (M' := mt_M_address) dc_L_law_664 mo_M_address im_M_address se_M_address ln_L_113 rfl rfl rfl (Nat.le_of_ble_eq_true rfl) (Nat.le_of_ble_eq_true rfl) ?_
    refine g_aload_n (pc := 0) dc_M_address_0 rfl ?_
    refine g_iconst (pc := 1) (v := 0) dc_M_address_1 rfl ?_
    refine g_putfield (pc := 2) dc_M_address_2 fp_M_address_1 rfl (Nat.le_of_ble_eq_true rfl) rfl rfl ?_
    refine g_iload_n (pc := 5) dc_M_address_5 rfl ?_
    refine g_if_lt (pc := 6) (tgt := 17) dc_M_address_6 rfl (fun hc => absurd (Int32.lt_iff_toInt_lt.mp hc) (by show ¬ (p1.toInt < 0); omega)) (fun _ => ?_)
    refine g_iload_n (pc := 9) dc_M_address_9 rfl ?_
    refine g_aload_n (pc := 10) dc_M_address_10 rfl ?_
    refine g_getfield (pc := 11) dc_M_address_11 fl_M_412 rfl rfl ?_
    refine g_icmp_lt (pc := 14) (tgt := 21) dc_M_address_14 rfl (fun hc => absurd (Int32.lt_iff_toInt_lt.mp hc) (by show ¬ (p1.toInt < 0); omega)) (fun _ => ?_)
    refine g_iconst (pc := 17) (v := (-1)) dc_M_address_17 rfl ?_
    refine g_goto (pc := 18) (tgt := 31) dc_M_address_18 rfl ?_
    refine g_iretC (pc := 31) dc_M_address_31 rfl ?_
    refine g_icmp_eq (pc := 667) (tgt := 873) dc_L_law_667 rfl (fun _ => ?_) (fun hc => absurd hc (by decide))
    refine g_iinc (pc := 873) (v := 6) dc_L_law_873 rfl (by decide) (by decide) ?_
    refine g_goto (pc := 876) (tgt := 23) dc_L_law_876 rfl ?_
    refine g_iload (pc := 23) dc_L_law_23 rfl ?_
    refine g_xload_n (pc := 25) dc_L_law_25 rfl ?_
    refine g_scriptLenV (pc := 26) (n := 6) dc_L_law_26 hL rfl ?_
    refine g_bipush (pc := 27) (v := 6) dc_L_law_27 rfl ?_
    refine g_isub (pc := 29) (v := 0) dc_L_law_29 (by decide) ?_
    refine g_icmp_gt (pc := 30) (tgt := 879) dc_L_law_30 rfl (fun _ => ?_) (fun hc => absurd hc (by decide))
    refine g_iconst (pc := 879) (v := 1) dc_L_law_879 rfl ?_
    exact g_zreturn dc_L_law_880 rfl rfl ⟨rfl, (Nat.le_of_ble_eq_true rfl), (Nat.le_of_ble_eq_true rfl)⟩
set_option maxRecDepth 20000 in
set_option maxHeartbeats 4000000 in
theorem p1_20 {X : am_X} {p0 p1 p2 p3 p4 p5 : Int32} (hl9 : X.1.stackTraces = false) (hL : X.2.2.2.2.2.1 = 6) (e0 : X.2.2.2.2.2.2 (Int32.toNatClampNeg 0) = p0) (e1 : X.2.2.2.2.2.2 (Int32.toNatClampNeg 1) = p1) (e2 : X.2.2.2.2.2.2 (Int32.toNatClampNeg 2) = p2) (e3 : X.2.2.2.2.2.2 (Int32.toNatClampNeg 3) = p3) (e4 : X.2.2.2.2.2.2 (Int32.toNatClampNeg 4) = p4) (e5 : X.2.2.2.2.2.2 (Int32.toNatClampNeg 5) = p5) : am_G X mt_L_law 60 672 lo_0 [] hp_0 (fun r h => r = some (.int 1) ∧ h.length ≤ 601024 ∧ am_sl h ≤ 7293034) := by
  refine g_aload_n (pc := 672) dc_L_law_672 rfl ?_
  refine g_xload_n (pc := 673) dc_L_law_673 rfl ?_
  refine g_iload (pc := 674) dc_L_law_674 rfl ?_
  refine g_iconst (pc := 676) (v := 1) dc_L_law_676 rfl ?_
  refine g_iadd (pc := 677) (v := 1) dc_L_law_677 (by decide) ?_
  refine g_scriptLoadV (pc := 678) dc_L_law_678 (by rw [hL]; exact am_vin rfl) e1 ?_
  refine g_v1 (pc := 679) (M' := mt_W_find) dc_L_law_679 mo_W_find im_W_find se_W_find ln_L_114 rfl rfl rfl (Nat.le_of_ble_eq_true rfl) (Nat.le_of_ble_eq_true rfl) ?_
  refine g_aload_n (pc := 0) dc_W_find_0 rfl ?_
  refine g_getfield (pc := 1) dc_W_find_1 fl_W_65 rfl rfl ?_
  refine g_getfield (pc := 4) dc_W_find_4 fl_W_183 rfl rfl ?_
  refine g_if_eq (pc := 7) (tgt := 30) dc_W_find_7 rfl (fun _ => ?_) (fun hc => absurd hc (by decide))
  refine g_iconst (pc := 30) (v := (-1)) dc_W_find_30 rfl ?_
  refine g_iretC (pc := 31) dc_W_find_31 rfl ?_
  refine g_aload_n (pc := 682) dc_L_law_682 rfl ?_
  refine g_xload_n (pc := 683) dc_L_law_683 rfl ?_
  refine g_iload (pc := 684) dc_L_law_684 rfl ?_
  refine g_iconst (pc := 686) (v := 1) dc_L_law_686 rfl ?_
  refine g_iadd (pc := 687) (v := 1) dc_L_law_687 (by decide) ?_
  refine g_scriptLoadV (pc := 688) dc_L_law_688 (by rw [hL]; exact am_vin rfl) e1 ?_
  refine g_v1 (pc := 689) (M' := mt_M_find) dc_L_law_689 mo_M_find im_M_find se_M_find ln_L_117 rfl rfl rfl (Nat.le_of_ble_eq_true rfl) (Nat.le_of_ble_eq_true rfl) ?_
  refine g_aload_n (pc := 0) dc_M_find_0 rfl ?_
  refine g_iconst (pc := 1) (v := 0) dc_M_find_1 rfl ?_
  refine g_putfield (pc := 2) dc_M_find_2 fp_M_find_1 rfl (Nat.le_of_ble_eq_true rfl) rfl rfl ?_
  refine g_aload_n (pc := 5) dc_M_find_5 rfl ?_
  refine g_getfield (pc := 6) dc_M_find_6 fl_M_520 rfl rfl ?_
  refine g_if_eq (pc := 9) (tgt := 29) dc_M_find_9 rfl (fun _ => ?_) (fun hc => absurd hc (by decide))
  refine g_iconst (pc := 29) (v := (-1)) dc_M_find_29 rfl ?_
  refine g_iretC (pc := 30) dc_M_find_30 rfl ?_
  refine g_icmp_eq (pc := 692) (tgt := 873) dc_L_law_692 rfl (fun _ => ?_) (fun hc => absurd hc (by decide))
  refine g_iinc (pc := 873) (v := 6) dc_L_law_873 rfl (by decide) (by decide) ?_
  refine g_goto (pc := 876) (tgt := 23) dc_L_law_876 rfl ?_
  refine g_iload (pc := 23) dc_L_law_23 rfl ?_
  refine g_xload_n (pc := 25) dc_L_law_25 rfl ?_
  refine g_scriptLenV (pc := 26) (n := 6) dc_L_law_26 hL rfl ?_
  refine g_bipush (pc := 27) (v := 6) dc_L_law_27 rfl ?_
  refine g_isub (pc := 29) (v := 0) dc_L_law_29 (by decide) ?_
  refine g_icmp_gt (pc := 30) (tgt := 879) dc_L_law_30 rfl (fun _ => ?_) (fun hc => absurd hc (by decide))
  refine g_iconst (pc := 879) (v := 1) dc_L_law_879 rfl ?_
  exact g_zreturn dc_L_law_880 rfl rfl ⟨rfl, (Nat.le_of_ble_eq_true rfl), (Nat.le_of_ble_eq_true rfl)⟩
set_option maxRecDepth 20000 in
set_option maxHeartbeats 4000000 in
theorem p1_21 {X : am_X} {p0 p1 p2 p3 p4 p5 : Int32} (hl9 : X.1.stackTraces = false) (hL : X.2.2.2.2.2.1 = 6) (e0 : X.2.2.2.2.2.2 (Int32.toNatClampNeg 0) = p0) (e1 : X.2.2.2.2.2.2 (Int32.toNatClampNeg 1) = p1) (e2 : X.2.2.2.2.2.2 (Int32.toNatClampNeg 2) = p2) (e3 : X.2.2.2.2.2.2 (Int32.toNatClampNeg 3) = p3) (e4 : X.2.2.2.2.2.2 (Int32.toNatClampNeg 4) = p4) (e5 : X.2.2.2.2.2.2 (Int32.toNatClampNeg 5) = p5) : am_G X mt_L_law 60 697 lo_0 [] hp_0 (fun r h => r = some (.int 1) ∧ h.length ≤ 601024 ∧ am_sl h ≤ 7293034) := by
  refine g_aload_n (pc := 697) dc_L_law_697 rfl ?_
  refine g_xload_n (pc := 698) dc_L_law_698 rfl ?_
  refine g_iload (pc := 699) dc_L_law_699 rfl ?_
  refine g_iconst (pc := 701) (v := 1) dc_L_law_701 rfl ?_
  refine g_iadd (pc := 702) (v := 1) dc_L_law_702 (by decide) ?_
  refine g_scriptLoadV (pc := 703) dc_L_law_703 (by rw [hL]; exact am_vin rfl) e1 ?_
  refine g_xload_n (pc := 704) dc_L_law_704 rfl ?_
  refine g_iload (pc := 705) dc_L_law_705 rfl ?_
  refine g_iconst (pc := 707) (v := 2) dc_L_law_707 rfl ?_
  refine g_iadd (pc := 708) (v := 2) dc_L_law_708 (by decide) ?_
  refine g_scriptLoadV (pc := 709) dc_L_law_709 (by rw [hL]; exact am_vin rfl) e2 ?_
  refine g_v2 (pc := 710) (M' := mt_W_document) dc_L_law_710 mo_W_document im_W_document se_W_document ln_L_118 rfl rfl rfl (Nat.le_of_ble_eq_true rfl) (Nat.le_of_ble_eq_true rfl) ?_
  refine g_iload_n (pc := 0) dc_W_document_0 rfl ?_
  refine g_if_lt (pc := 1) (tgt := 15) dc_W_document_1 rfl (fun hc0 => ?_) (fun hc0 => ?_)
  · have hi0 : p1.toInt < 0 := Int32.lt_iff_toInt_lt.mp hc0
    refine g_iconst (pc := 15) (v := (-1)) dc_W_document_15 rfl ?_
    refine g_iretC (pc := 16) dc_W_document_16 rfl ?_
    refine g_aload_n (pc := 713) dc_L_law_713 rfl ?_
    refine g_xload_n (pc := 714) dc_L_law_714 rfl ?_
    refine g_iload (pc := 715) dc_L_law_715 rfl ?_
    refine g_iconst (pc := 717) (v := 1) dc_L_law_717 rfl ?_
    refine g_iadd (pc := 718) (v := 1) dc_L_law_718 (by decide) ?_
    refine g_scriptLoadV (pc := 719) dc_L_law_719 (by rw [hL]; exact am_vin rfl) e1 ?_
    refine g_xload_n (pc := 720) dc_L_law_720 rfl ?_
    refine g_iload (pc := 721) dc_L_law_721 rfl ?_
    refine g_iconst (pc := 723) (v := 2) dc_L_law_723 rfl ?_
    refine g_iadd (pc := 724) (v := 2) dc_L_law_724 (by decide) ?_
    refine g_scriptLoadV (pc := 725) dc_L_law_725 (by rw [hL]; exact am_vin rfl) e2 ?_
    refine g_v2 (pc := 726) (M' := mt_M_document) dc_L_law_726 mo_M_document im_M_document se_M_document ln_L_121 rfl rfl rfl (Nat.le_of_ble_eq_true rfl) (Nat.le_of_ble_eq_true rfl) ?_
    refine g_aload_n (pc := 0) dc_M_document_0 rfl ?_
    refine g_iload_n (pc := 1) dc_M_document_1 rfl ?_
    refine g_v1 (pc := 2) (M' := mt_M_isDocument) dc_M_document_2 mo_M_isDocument im_M_isDocument se_M_isDocument ln_M_550 rfl rfl rfl (Nat.le_of_ble_eq_true rfl) (Nat.le_of_ble_eq_true rfl) ?_
    refine g_aload_n (pc := 0) dc_M_isDocument_0 rfl ?_
    refine g_iconst (pc := 1) (v := 0) dc_M_isDocument_1 rfl ?_
    refine g_putfield (pc := 2) dc_M_isDocument_2 fp_M_isDocument_1 rfl (Nat.le_of_ble_eq_true rfl) rfl rfl ?_
    refine g_iload_n (pc := 5) dc_M_isDocument_5 rfl ?_
    refine g_if_lt (pc := 6) (tgt := 21) dc_M_isDocument_6 rfl (fun _ => ?_) (fun hc => absurd hc (fun h9 => h9 (Int32.lt_iff_toInt_lt.mpr (by show p1.toInt < 0; omega))))
    refine g_iconst (pc := 21) (v := 0) dc_M_isDocument_21 rfl ?_
    refine g_zretC (pc := 22) dc_M_isDocument_22 rfl rfl ?_
    refine g_if_eq (pc := 5) (tgt := 17) dc_M_document_5 rfl (fun _ => ?_) (fun hc => absurd hc (by decide))
    refine g_iconst (pc := 17) (v := (-1)) dc_M_document_17 rfl ?_
    refine g_iretC (pc := 18) dc_M_document_18 rfl ?_
    refine g_icmp_eq (pc := 729) (tgt := 873) dc_L_law_729 rfl (fun _ => ?_) (fun hc => absurd hc (by decide))
    refine g_iinc (pc := 873) (v := 6) dc_L_law_873 rfl (by decide) (by decide) ?_
    refine g_goto (pc := 876) (tgt := 23) dc_L_law_876 rfl ?_
    refine g_iload (pc := 23) dc_L_law_23 rfl ?_
    refine g_xload_n (pc := 25) dc_L_law_25 rfl ?_
    refine g_scriptLenV (pc := 26) (n := 6) dc_L_law_26 hL rfl ?_
    refine g_bipush (pc := 27) (v := 6) dc_L_law_27 rfl ?_
    refine g_isub (pc := 29) (v := 0) dc_L_law_29 (by decide) ?_
    refine g_icmp_gt (pc := 30) (tgt := 879) dc_L_law_30 rfl (fun _ => ?_) (fun hc => absurd hc (by decide))
    refine g_iconst (pc := 879) (v := 1) dc_L_law_879 rfl ?_
    exact g_zreturn dc_L_law_880 rfl rfl ⟨rfl, (Nat.le_of_ble_eq_true rfl), (Nat.le_of_ble_eq_true rfl)⟩
  · have hi0 : ¬ (p1.toInt < 0) := fun h9 => hc0 (Int32.lt_iff_toInt_lt.mpr h9)
    refine g_iload_n (pc := 4) dc_W_document_4 rfl ?_
    refine g_aload_n (pc := 5) dc_W_document_5 rfl ?_
    refine g_getfield (pc := 6) dc_W_document_6 fl_W_74 rfl rfl ?_
    refine g_getfield (pc := 9) dc_W_document_9 fl_W_226 rfl rfl ?_
    refine g_icmp_lt (pc := 12) (tgt := 17) dc_W_document_12 rfl (fun hc => absurd (Int32.lt_iff_toInt_lt.mp hc) (by show ¬ (p1.toInt < 0); omega)) (fun _ => ?_)
    refine g_iconst (pc := 15) (v := (-1)) dc_W_document_15 rfl ?_
    refine g_iretC (pc := 16) dc_W_document_16 rfl ?_
    refine g_aload_n (pc := 713) dc_L_law_713 rfl ?_
    refine g_xload_n (pc := 714) dc_L_law_714 rfl ?_
    refine g_iload (pc := 715) dc_L_law_715 rfl ?_
    refine g_iconst (pc := 717) (v := 1) dc_L_law_717 rfl ?_
    refine g_iadd (pc := 718) (v := 1) dc_L_law_718 (by decide) ?_
    refine g_scriptLoadV (pc := 719) dc_L_law_719 (by rw [hL]; exact am_vin rfl) e1 ?_
    refine g_xload_n (pc := 720) dc_L_law_720 rfl ?_
    refine g_iload (pc := 721) dc_L_law_721 rfl ?_
    refine g_iconst (pc := 723) (v := 2) dc_L_law_723 rfl ?_
    refine g_iadd (pc := 724) (v := 2) dc_L_law_724 (by decide) ?_
    refine g_scriptLoadV (pc := 725) dc_L_law_725 (by rw [hL]; exact am_vin rfl) e2 ?_
    refine g_v2 (pc := 726) (M' := mt_M_document) dc_L_law_726 mo_M_document im_M_document se_M_document ln_L_121 rfl rfl rfl (Nat.le_of_ble_eq_true rfl) (Nat.le_of_ble_eq_true rfl) ?_
    refine g_aload_n (pc := 0) dc_M_document_0 rfl ?_
    refine g_iload_n (pc := 1) dc_M_document_1 rfl ?_
    refine g_v1 (pc := 2) (M' := mt_M_isDocument) dc_M_document_2 mo_M_isDocument im_M_isDocument se_M_isDocument ln_M_550 rfl rfl rfl (Nat.le_of_ble_eq_true rfl) (Nat.le_of_ble_eq_true rfl) ?_
    refine g_aload_n (pc := 0) dc_M_isDocument_0 rfl ?_
    refine g_iconst (pc := 1) (v := 0) dc_M_isDocument_1 rfl ?_
    refine g_putfield (pc := 2) dc_M_isDocument_2 fp_M_isDocument_1 rfl (Nat.le_of_ble_eq_true rfl) rfl rfl ?_
    refine g_iload_n (pc := 5) dc_M_isDocument_5 rfl ?_
    refine g_if_lt (pc := 6) (tgt := 21) dc_M_isDocument_6 rfl (fun hc => absurd (Int32.lt_iff_toInt_lt.mp hc) (by show ¬ (p1.toInt < 0); omega)) (fun _ => ?_)
    refine g_iload_n (pc := 9) dc_M_isDocument_9 rfl ?_
    refine g_aload_n (pc := 10) dc_M_isDocument_10 rfl ?_
    refine g_getfield (pc := 11) dc_M_isDocument_11 fl_M_467 rfl rfl ?_
    refine g_icmp_ge (pc := 14) (tgt := 21) dc_M_isDocument_14 rfl (fun _ => ?_) (fun hc => absurd hc (fun h9 => h9 (Int32.le_iff_toInt_le.mpr (by show 0 ≤ p1.toInt; omega))))
    refine g_iconst (pc := 21) (v := 0) dc_M_isDocument_21 rfl ?_
    refine g_zretC (pc := 22) dc_M_isDocument_22 rfl rfl ?_
    refine g_if_eq (pc := 5) (tgt := 17) dc_M_document_5 rfl (fun _ => ?_) (fun hc => absurd hc (by decide))
    refine g_iconst (pc := 17) (v := (-1)) dc_M_document_17 rfl ?_
    refine g_iretC (pc := 18) dc_M_document_18 rfl ?_
    refine g_icmp_eq (pc := 729) (tgt := 873) dc_L_law_729 rfl (fun _ => ?_) (fun hc => absurd hc (by decide))
    refine g_iinc (pc := 873) (v := 6) dc_L_law_873 rfl (by decide) (by decide) ?_
    refine g_goto (pc := 876) (tgt := 23) dc_L_law_876 rfl ?_
    refine g_iload (pc := 23) dc_L_law_23 rfl ?_
    refine g_xload_n (pc := 25) dc_L_law_25 rfl ?_
    refine g_scriptLenV (pc := 26) (n := 6) dc_L_law_26 hL rfl ?_
    refine g_bipush (pc := 27) (v := 6) dc_L_law_27 rfl ?_
    refine g_isub (pc := 29) (v := 0) dc_L_law_29 (by decide) ?_
    refine g_icmp_gt (pc := 30) (tgt := 879) dc_L_law_30 rfl (fun _ => ?_) (fun hc => absurd hc (by decide))
    refine g_iconst (pc := 879) (v := 1) dc_L_law_879 rfl ?_
    exact g_zreturn dc_L_law_880 rfl rfl ⟨rfl, (Nat.le_of_ble_eq_true rfl), (Nat.le_of_ble_eq_true rfl)⟩
set_option maxRecDepth 20000 in
set_option maxHeartbeats 4000000 in
theorem p1_22 {X : am_X} {p0 p1 p2 p3 p4 p5 : Int32} (hl9 : X.1.stackTraces = false) (hL : X.2.2.2.2.2.1 = 6) (e0 : X.2.2.2.2.2.2 (Int32.toNatClampNeg 0) = p0) (e1 : X.2.2.2.2.2.2 (Int32.toNatClampNeg 1) = p1) (e2 : X.2.2.2.2.2.2 (Int32.toNatClampNeg 2) = p2) (e3 : X.2.2.2.2.2.2 (Int32.toNatClampNeg 3) = p3) (e4 : X.2.2.2.2.2.2 (Int32.toNatClampNeg 4) = p4) (e5 : X.2.2.2.2.2.2 (Int32.toNatClampNeg 5) = p5) : am_G X mt_L_law 60 734 lo_0 [] hp_0 (fun r h => r = some (.int 1) ∧ h.length ≤ 601024 ∧ am_sl h ≤ 7293034) := by
  refine g_aload_n (pc := 734) dc_L_law_734 rfl ?_
  refine g_xload_n (pc := 735) dc_L_law_735 rfl ?_
  refine g_iload (pc := 736) dc_L_law_736 rfl ?_
  refine g_iconst (pc := 738) (v := 1) dc_L_law_738 rfl ?_
  refine g_iadd (pc := 739) (v := 1) dc_L_law_739 (by decide) ?_
  refine g_scriptLoadV (pc := 740) dc_L_law_740 (by rw [hL]; exact am_vin rfl) e1 ?_
  refine g_v1 (pc := 741) (M' := mt_W_where) dc_L_law_741 mo_W_where im_W_where se_W_where ln_L_122 rfl rfl rfl (Nat.le_of_ble_eq_true rfl) (Nat.le_of_ble_eq_true rfl) ?_
  refine g_iload_n (pc := 0) dc_W_where_0 rfl ?_
  refine g_if_lt (pc := 1) (tgt := 15) dc_W_where_1 rfl (fun hc0 => ?_) (fun hc0 => ?_)
  · have hi0 : p1.toInt < 0 := Int32.lt_iff_toInt_lt.mp hc0
    refine g_iconst (pc := 15) (v := (-1)) dc_W_where_15 rfl ?_
    refine g_iretC (pc := 16) dc_W_where_16 rfl ?_
    refine g_aload_n (pc := 744) dc_L_law_744 rfl ?_
    refine g_xload_n (pc := 745) dc_L_law_745 rfl ?_
    refine g_iload (pc := 746) dc_L_law_746 rfl ?_
    refine g_iconst (pc := 748) (v := 1) dc_L_law_748 rfl ?_
    refine g_iadd (pc := 749) (v := 1) dc_L_law_749 (by decide) ?_
    refine g_scriptLoadV (pc := 750) dc_L_law_750 (by rw [hL]; exact am_vin rfl) e1 ?_
    refine g_v1 (pc := 751) (M' := mt_M_where) dc_L_law_751 mo_M_where im_M_where se_M_where ln_L_125 rfl rfl rfl (Nat.le_of_ble_eq_true rfl) (Nat.le_of_ble_eq_true rfl) ?_
    refine g_aload_n (pc := 0) dc_M_where_0 rfl ?_
    refine g_iload_n (pc := 1) dc_M_where_1 rfl ?_
    refine g_v1 (pc := 2) (M' := mt_M_isDocument) dc_M_where_2 mo_M_isDocument im_M_isDocument se_M_isDocument ln_M_550 rfl rfl rfl (Nat.le_of_ble_eq_true rfl) (Nat.le_of_ble_eq_true rfl) ?_
    refine g_aload_n (pc := 0) dc_M_isDocument_0 rfl ?_
    refine g_iconst (pc := 1) (v := 0) dc_M_isDocument_1 rfl ?_
    refine g_putfield (pc := 2) dc_M_isDocument_2 fp_M_isDocument_1 rfl (Nat.le_of_ble_eq_true rfl) rfl rfl ?_
    refine g_iload_n (pc := 5) dc_M_isDocument_5 rfl ?_
    refine g_if_lt (pc := 6) (tgt := 21) dc_M_isDocument_6 rfl (fun _ => ?_) (fun hc => absurd hc (fun h9 => h9 (Int32.lt_iff_toInt_lt.mpr (by show p1.toInt < 0; omega))))
    refine g_iconst (pc := 21) (v := 0) dc_M_isDocument_21 rfl ?_
    refine g_zretC (pc := 22) dc_M_isDocument_22 rfl rfl ?_
    refine g_if_eq (pc := 5) (tgt := 21) dc_M_where_5 rfl (fun _ => ?_) (fun hc => absurd hc (by decide))
    refine g_iconst (pc := 21) (v := (-1)) dc_M_where_21 rfl ?_
    refine g_iretC (pc := 22) dc_M_where_22 rfl ?_
    refine g_icmp_eq (pc := 754) (tgt := 873) dc_L_law_754 rfl (fun _ => ?_) (fun hc => absurd hc (by decide))
    refine g_iinc (pc := 873) (v := 6) dc_L_law_873 rfl (by decide) (by decide) ?_
    refine g_goto (pc := 876) (tgt := 23) dc_L_law_876 rfl ?_
    refine g_iload (pc := 23) dc_L_law_23 rfl ?_
    refine g_xload_n (pc := 25) dc_L_law_25 rfl ?_
    refine g_scriptLenV (pc := 26) (n := 6) dc_L_law_26 hL rfl ?_
    refine g_bipush (pc := 27) (v := 6) dc_L_law_27 rfl ?_
    refine g_isub (pc := 29) (v := 0) dc_L_law_29 (by decide) ?_
    refine g_icmp_gt (pc := 30) (tgt := 879) dc_L_law_30 rfl (fun _ => ?_) (fun hc => absurd hc (by decide))
    refine g_iconst (pc := 879) (v := 1) dc_L_law_879 rfl ?_
    exact g_zreturn dc_L_law_880 rfl rfl ⟨rfl, (Nat.le_of_ble_eq_true rfl), (Nat.le_of_ble_eq_true rfl)⟩
  · have hi0 : ¬ (p1.toInt < 0) := fun h9 => hc0 (Int32.lt_iff_toInt_lt.mpr h9)
    refine g_iload_n (pc := 4) dc_W_where_4 rfl ?_
    refine g_aload_n (pc := 5) dc_W_where_5 rfl ?_
    refine g_getfield (pc := 6) dc_W_where_6 fl_W_74 rfl rfl ?_
    refine g_getfield (pc := 9) dc_W_where_9 fl_W_226 rfl rfl ?_
    refine g_icmp_lt (pc := 12) (tgt := 17) dc_W_where_12 rfl (fun hc => absurd (Int32.lt_iff_toInt_lt.mp hc) (by show ¬ (p1.toInt < 0); omega)) (fun _ => ?_)
    refine g_iconst (pc := 15) (v := (-1)) dc_W_where_15 rfl ?_
    refine g_iretC (pc := 16) dc_W_where_16 rfl ?_
    refine g_aload_n (pc := 744) dc_L_law_744 rfl ?_
    refine g_xload_n (pc := 745) dc_L_law_745 rfl ?_
    refine g_iload (pc := 746) dc_L_law_746 rfl ?_
    refine g_iconst (pc := 748) (v := 1) dc_L_law_748 rfl ?_
    refine g_iadd (pc := 749) (v := 1) dc_L_law_749 (by decide) ?_
    refine g_scriptLoadV (pc := 750) dc_L_law_750 (by rw [hL]; exact am_vin rfl) e1 ?_
    refine g_v1 (pc := 751) (M' := mt_M_where) dc_L_law_751 mo_M_where im_M_where se_M_where ln_L_125 rfl rfl rfl (Nat.le_of_ble_eq_true rfl) (Nat.le_of_ble_eq_true rfl) ?_
    refine g_aload_n (pc := 0) dc_M_where_0 rfl ?_
    refine g_iload_n (pc := 1) dc_M_where_1 rfl ?_
    refine g_v1 (pc := 2) (M' := mt_M_isDocument) dc_M_where_2 mo_M_isDocument im_M_isDocument se_M_isDocument ln_M_550 rfl rfl rfl (Nat.le_of_ble_eq_true rfl) (Nat.le_of_ble_eq_true rfl) ?_
    refine g_aload_n (pc := 0) dc_M_isDocument_0 rfl ?_
    refine g_iconst (pc := 1) (v := 0) dc_M_isDocument_1 rfl ?_
    refine g_putfield (pc := 2) dc_M_isDocument_2 fp_M_isDocument_1 rfl (Nat.le_of_ble_eq_true rfl) rfl rfl ?_
    refine g_iload_n (pc := 5) dc_M_isDocument_5 rfl ?_
    refine g_if_lt (pc := 6) (tgt := 21) dc_M_isDocument_6 rfl (fun hc => absurd (Int32.lt_iff_toInt_lt.mp hc) (by show ¬ (p1.toInt < 0); omega)) (fun _ => ?_)
    refine g_iload_n (pc := 9) dc_M_isDocument_9 rfl ?_
    refine g_aload_n (pc := 10) dc_M_isDocument_10 rfl ?_
    refine g_getfield (pc := 11) dc_M_isDocument_11 fl_M_467 rfl rfl ?_
    refine g_icmp_ge (pc := 14) (tgt := 21) dc_M_isDocument_14 rfl (fun _ => ?_) (fun hc => absurd hc (fun h9 => h9 (Int32.le_iff_toInt_le.mpr (by show 0 ≤ p1.toInt; omega))))
    refine g_iconst (pc := 21) (v := 0) dc_M_isDocument_21 rfl ?_
    refine g_zretC (pc := 22) dc_M_isDocument_22 rfl rfl ?_
    refine g_if_eq (pc := 5) (tgt := 21) dc_M_where_5 rfl (fun _ => ?_) (fun hc => absurd hc (by decide))
    refine g_iconst (pc := 21) (v := (-1)) dc_M_where_21 rfl ?_
    refine g_iretC (pc := 22) dc_M_where_22 rfl ?_
    refine g_icmp_eq (pc := 754) (tgt := 873) dc_L_law_754 rfl (fun _ => ?_) (fun hc => absurd hc (by decide))
    refine g_iinc (pc := 873) (v := 6) dc_L_law_873 rfl (by decide) (by decide) ?_
    refine g_goto (pc := 876) (tgt := 23) dc_L_law_876 rfl ?_
    refine g_iload (pc := 23) dc_L_law_23 rfl ?_
    refine g_xload_n (pc := 25) dc_L_law_25 rfl ?_
    refine g_scriptLenV (pc := 26) (n := 6) dc_L_law_26 hL rfl ?_
    refine g_bipush (pc := 27) (v := 6) dc_L_law_27 rfl ?_
    refine g_isub (pc := 29) (v := 0) dc_L_law_29 (by decide) ?_
    refine g_icmp_gt (pc := 30) (tgt := 879) dc_L_law_30 rfl (fun _ => ?_) (fun hc => absurd hc (by decide))
    refine g_iconst (pc := 879) (v := 1) dc_L_law_879 rfl ?_
    exact g_zreturn dc_L_law_880 rfl rfl ⟨rfl, (Nat.le_of_ble_eq_true rfl), (Nat.le_of_ble_eq_true rfl)⟩
set_option maxRecDepth 20000 in
set_option maxHeartbeats 4000000 in
theorem p1_23 {X : am_X} {p0 p1 p2 p3 p4 p5 : Int32} (hl9 : X.1.stackTraces = false) (hL : X.2.2.2.2.2.1 = 6) (e0 : X.2.2.2.2.2.2 (Int32.toNatClampNeg 0) = p0) (e1 : X.2.2.2.2.2.2 (Int32.toNatClampNeg 1) = p1) (e2 : X.2.2.2.2.2.2 (Int32.toNatClampNeg 2) = p2) (e3 : X.2.2.2.2.2.2 (Int32.toNatClampNeg 3) = p3) (e4 : X.2.2.2.2.2.2 (Int32.toNatClampNeg 4) = p4) (e5 : X.2.2.2.2.2.2 (Int32.toNatClampNeg 5) = p5) : am_G X mt_L_law 60 759 lo_0 [] hp_0 (fun r h => r = some (.int 1) ∧ h.length ≤ 601024 ∧ am_sl h ≤ 7293034) := by
  refine g_aload_n (pc := 759) dc_L_law_759 rfl ?_
  refine g_xload_n (pc := 760) dc_L_law_760 rfl ?_
  refine g_iload (pc := 761) dc_L_law_761 rfl ?_
  refine g_iconst (pc := 763) (v := 1) dc_L_law_763 rfl ?_
  refine g_iadd (pc := 764) (v := 1) dc_L_law_764 (by decide) ?_
  refine g_scriptLoadV (pc := 765) dc_L_law_765 (by rw [hL]; exact am_vin rfl) e1 ?_
  refine g_v1 (pc := 766) (M' := mt_W_ask) dc_L_law_766 mo_W_ask im_W_ask se_W_ask ln_L_126 rfl rfl rfl (Nat.le_of_ble_eq_true rfl) (Nat.le_of_ble_eq_true rfl) ?_
  refine g_iconst (pc := 0) (v := (-1)) dc_W_ask_0 rfl ?_
  refine g_istore_n (pc := 1) dc_W_ask_1 (by decide) ?_
  refine g_iload_n (pc := 2) dc_W_ask_2 rfl ?_
  refine g_if_lt (pc := 3) (tgt := 35) dc_W_ask_3 rfl (fun hc0 => ?_) (fun hc0 => ?_)
  · have hi0 : p1.toInt < 0 := Int32.lt_iff_toInt_lt.mp hc0
    refine g_aload_n (pc := 35) dc_W_ask_35 rfl ?_
    refine g_getfield (pc := 36) dc_W_ask_36 fl_W_12 rfl rfl ?_
    refine g_v0 (pc := 39) (M' := mt_B_clear) dc_W_ask_39 mo_B_clear im_B_clear se_B_clear ln_W_121 rfl rfl rfl (Nat.le_of_ble_eq_true rfl) (Nat.le_of_ble_eq_true rfl) ?_
    refine g_aload_n (pc := 0) dc_B_clear_0 rfl ?_
    refine g_iconst (pc := 1) (v := 0) dc_B_clear_1 rfl ?_
    refine g_putfield (pc := 2) dc_B_clear_2 fp_B_clear_15 rfl (Nat.le_of_ble_eq_true rfl) rfl rfl ?_
    refine g_vretC (pc := 5) dc_B_clear_5 rfl ?_
    refine g_iload_n (pc := 42) dc_W_ask_42 rfl ?_
    refine g_iretC (pc := 43) dc_W_ask_43 rfl ?_
    refine g_aload_n (pc := 769) dc_L_law_769 rfl ?_
    refine g_xload_n (pc := 770) dc_L_law_770 rfl ?_
    refine g_iload (pc := 771) dc_L_law_771 rfl ?_
    refine g_iconst (pc := 773) (v := 1) dc_L_law_773 rfl ?_
    refine g_iadd (pc := 774) (v := 1) dc_L_law_774 (by decide) ?_
    refine g_scriptLoadV (pc := 775) dc_L_law_775 (by rw [hL]; exact am_vin rfl) e1 ?_
    refine g_v1 (pc := 776) (M' := mt_M_ask) dc_L_law_776 mo_M_ask im_M_ask se_M_ask ln_L_129 rfl rfl rfl (Nat.le_of_ble_eq_true rfl) (Nat.le_of_ble_eq_true rfl) ?_
    refine g_aload_n (pc := 0) dc_M_ask_0 rfl ?_
    refine g_v0 (pc := 1) (M' := mt_M_use) dc_M_ask_1 mo_M_use im_M_use se_M_use ln_M_505 rfl rfl rfl (Nat.le_of_ble_eq_true rfl) (Nat.le_of_ble_eq_true rfl) ?_
    refine g_aload_n (pc := 0) dc_M_use_0 rfl ?_
    refine g_iconst (pc := 1) (v := 0) dc_M_use_1 rfl ?_
    refine g_putfield (pc := 2) dc_M_use_2 fp_M_use_1 rfl (Nat.le_of_ble_eq_true rfl) rfl rfl ?_
    refine g_aload_n (pc := 5) dc_M_use_5 rfl ?_
    refine g_getfield (pc := 6) dc_M_use_6 fl_M_493 rfl rfl ?_
    refine g_istore_n (pc := 9) dc_M_use_9 (by decide) ?_
    refine g_aload_n (pc := 10) dc_M_use_10 rfl ?_
    refine g_iconst (pc := 11) (v := 0) dc_M_use_11 rfl ?_
    refine g_putfield (pc := 12) dc_M_use_12 fp_M_use_493 rfl (Nat.le_of_ble_eq_true rfl) rfl rfl ?_
    refine g_iload_n (pc := 15) dc_M_use_15 rfl ?_
    refine g_iretC (pc := 16) dc_M_use_16 rfl ?_
    refine g_istore_n (pc := 4) dc_M_ask_4 (by decide) ?_
    refine g_iload_n (pc := 5) dc_M_ask_5 rfl ?_
    refine g_if_lt (pc := 6) (tgt := 14) dc_M_ask_6 rfl (fun _ => ?_) (fun hc => absurd hc (fun h9 => h9 (Int32.lt_iff_toInt_lt.mpr (by show p1.toInt < 0; omega))))
    refine g_iconst (pc := 14) (v := (-1)) dc_M_ask_14 rfl ?_
    refine g_iretC (pc := 15) dc_M_ask_15 rfl ?_
    refine g_icmp_eq (pc := 779) (tgt := 873) dc_L_law_779 rfl (fun _ => ?_) (fun hc => absurd hc (by decide))
    refine g_iinc (pc := 873) (v := 6) dc_L_law_873 rfl (by decide) (by decide) ?_
    refine g_goto (pc := 876) (tgt := 23) dc_L_law_876 rfl ?_
    refine g_iload (pc := 23) dc_L_law_23 rfl ?_
    refine g_xload_n (pc := 25) dc_L_law_25 rfl ?_
    refine g_scriptLenV (pc := 26) (n := 6) dc_L_law_26 hL rfl ?_
    refine g_bipush (pc := 27) (v := 6) dc_L_law_27 rfl ?_
    refine g_isub (pc := 29) (v := 0) dc_L_law_29 (by decide) ?_
    refine g_icmp_gt (pc := 30) (tgt := 879) dc_L_law_30 rfl (fun _ => ?_) (fun hc => absurd hc (by decide))
    refine g_iconst (pc := 879) (v := 1) dc_L_law_879 rfl ?_
    exact g_zreturn dc_L_law_880 rfl rfl ⟨rfl, (Nat.le_of_ble_eq_true rfl), (Nat.le_of_ble_eq_true rfl)⟩
  · have hi0 : ¬ (p1.toInt < 0) := fun h9 => hc0 (Int32.lt_iff_toInt_lt.mpr h9)
    refine g_iload_n (pc := 6) dc_W_ask_6 rfl ?_
    refine g_iconst (pc := 7) (v := 2) dc_W_ask_7 rfl ?_
    refine g_icmp_gt (pc := 8) (tgt := 35) dc_W_ask_8 rfl (fun hc2 => ?_) (fun hc2 => ?_)
    · have hi2 : 2 < p1.toInt := Int32.lt_iff_toInt_lt.mp hc2
      refine g_aload_n (pc := 35) dc_W_ask_35 rfl ?_
      refine g_getfield (pc := 36) dc_W_ask_36 fl_W_12 rfl rfl ?_
      refine g_v0 (pc := 39) (M' := mt_B_clear) dc_W_ask_39 mo_B_clear im_B_clear se_B_clear ln_W_121 rfl rfl rfl (Nat.le_of_ble_eq_true rfl) (Nat.le_of_ble_eq_true rfl) ?_
      refine g_aload_n (pc := 0) dc_B_clear_0 rfl ?_
      refine g_iconst (pc := 1) (v := 0) dc_B_clear_1 rfl ?_
      refine g_putfield (pc := 2) dc_B_clear_2 fp_B_clear_15 rfl (Nat.le_of_ble_eq_true rfl) rfl rfl ?_
      refine g_vretC (pc := 5) dc_B_clear_5 rfl ?_
      refine g_iload_n (pc := 42) dc_W_ask_42 rfl ?_
      refine g_iretC (pc := 43) dc_W_ask_43 rfl ?_
      refine g_aload_n (pc := 769) dc_L_law_769 rfl ?_
      refine g_xload_n (pc := 770) dc_L_law_770 rfl ?_
      refine g_iload (pc := 771) dc_L_law_771 rfl ?_
      refine g_iconst (pc := 773) (v := 1) dc_L_law_773 rfl ?_
      refine g_iadd (pc := 774) (v := 1) dc_L_law_774 (by decide) ?_
      refine g_scriptLoadV (pc := 775) dc_L_law_775 (by rw [hL]; exact am_vin rfl) e1 ?_
      refine g_v1 (pc := 776) (M' := mt_M_ask) dc_L_law_776 mo_M_ask im_M_ask se_M_ask ln_L_129 rfl rfl rfl (Nat.le_of_ble_eq_true rfl) (Nat.le_of_ble_eq_true rfl) ?_
      refine g_aload_n (pc := 0) dc_M_ask_0 rfl ?_
      refine g_v0 (pc := 1) (M' := mt_M_use) dc_M_ask_1 mo_M_use im_M_use se_M_use ln_M_505 rfl rfl rfl (Nat.le_of_ble_eq_true rfl) (Nat.le_of_ble_eq_true rfl) ?_
      refine g_aload_n (pc := 0) dc_M_use_0 rfl ?_
      refine g_iconst (pc := 1) (v := 0) dc_M_use_1 rfl ?_
      refine g_putfield (pc := 2) dc_M_use_2 fp_M_use_1 rfl (Nat.le_of_ble_eq_true rfl) rfl rfl ?_
      refine g_aload_n (pc := 5) dc_M_use_5 rfl ?_
      refine g_getfield (pc := 6) dc_M_use_6 fl_M_493 rfl rfl ?_
      refine g_istore_n (pc := 9) dc_M_use_9 (by decide) ?_
      refine g_aload_n (pc := 10) dc_M_use_10 rfl ?_
      refine g_iconst (pc := 11) (v := 0) dc_M_use_11 rfl ?_
      refine g_putfield (pc := 12) dc_M_use_12 fp_M_use_493 rfl (Nat.le_of_ble_eq_true rfl) rfl rfl ?_
      refine g_iload_n (pc := 15) dc_M_use_15 rfl ?_
      refine g_iretC (pc := 16) dc_M_use_16 rfl ?_
      refine g_istore_n (pc := 4) dc_M_ask_4 (by decide) ?_
      refine g_iload_n (pc := 5) dc_M_ask_5 rfl ?_
      refine g_if_lt (pc := 6) (tgt := 14) dc_M_ask_6 rfl (fun hc => absurd (Int32.lt_iff_toInt_lt.mp hc) (by show ¬ (p1.toInt < 0); omega)) (fun _ => ?_)
      refine g_iload_n (pc := 9) dc_M_ask_9 rfl ?_
      refine g_iconst (pc := 10) (v := 2) dc_M_ask_10 rfl ?_
      refine g_icmp_le (pc := 11) (tgt := 16) dc_M_ask_11 rfl (fun hc => absurd (Int32.le_iff_toInt_le.mp hc) (by show ¬ (p1.toInt ≤ 2); omega)) (fun _ => ?_)
      refine g_iconst (pc := 14) (v := (-1)) dc_M_ask_14 rfl ?_
      refine g_iretC (pc := 15) dc_M_ask_15 rfl ?_
      refine g_icmp_eq (pc := 779) (tgt := 873) dc_L_law_779 rfl (fun _ => ?_) (fun hc => absurd hc (by decide))
      refine g_iinc (pc := 873) (v := 6) dc_L_law_873 rfl (by decide) (by decide) ?_
      refine g_goto (pc := 876) (tgt := 23) dc_L_law_876 rfl ?_
      refine g_iload (pc := 23) dc_L_law_23 rfl ?_
      refine g_xload_n (pc := 25) dc_L_law_25 rfl ?_
      refine g_scriptLenV (pc := 26) (n := 6) dc_L_law_26 hL rfl ?_
      refine g_bipush (pc := 27) (v := 6) dc_L_law_27 rfl ?_
      refine g_isub (pc := 29) (v := 0) dc_L_law_29 (by decide) ?_
      refine g_icmp_gt (pc := 30) (tgt := 879) dc_L_law_30 rfl (fun _ => ?_) (fun hc => absurd hc (by decide))
      refine g_iconst (pc := 879) (v := 1) dc_L_law_879 rfl ?_
      exact g_zreturn dc_L_law_880 rfl rfl ⟨rfl, (Nat.le_of_ble_eq_true rfl), (Nat.le_of_ble_eq_true rfl)⟩
    · have hi2 : ¬ (2 < p1.toInt) := fun h9 => hc2 (Int32.lt_iff_toInt_lt.mpr h9)
      refine g_aload_n (pc := 11) dc_W_ask_11 rfl ?_
      refine g_getfield (pc := 12) dc_W_ask_12 fl_W_81 rfl rfl ?_
      refine g_aload_n (pc := 15) dc_W_ask_15 rfl ?_
      refine g_getfield (pc := 16) dc_W_ask_16 fl_W_12 rfl rfl ?_
      refine g_iload_n (pc := 19) dc_W_ask_19 rfl ?_
      refine g_aload_n (pc := 20) dc_W_ask_20 rfl ?_
      refine g_getfield (pc := 21) dc_W_ask_21 fl_W_74 rfl rfl ?_
      refine g_v3 (pc := 24) (M' := mt_N_answer) dc_W_ask_24 mo_N_answer im_N_answer se_N_answer ln_W_268 rfl rfl rfl (Nat.le_of_ble_eq_true rfl) (Nat.le_of_ble_eq_true rfl) ?_
      refine g_aload_n (pc := 0) dc_N_answer_0 rfl ?_
      refine g_iconst (pc := 1) (v := 0) dc_N_answer_1 rfl ?_
      refine g_putfield (pc := 2) dc_N_answer_2 fp_N_answer_28 rfl (Nat.le_of_ble_eq_true rfl) rfl rfl ?_
      refine g_aload_n (pc := 5) dc_N_answer_5 rfl ?_
      refine g_getfield (pc := 6) dc_N_answer_6 fl_N_24 rfl rfl ?_
      refine g_v0 (pc := 9) (M' := mt_R_clear) dc_N_answer_9 mo_R_clear im_R_clear se_R_clear ln_N_32 rfl rfl rfl (Nat.le_of_ble_eq_true rfl) (Nat.le_of_ble_eq_true rfl) ?_
      refine g_aload_n (pc := 0) dc_R_clear_0 rfl ?_
      refine g_iconst (pc := 1) (v := 0) dc_R_clear_1 rfl ?_
      refine g_v1 (pc := 2) (M' := mt_R_cut) dc_R_clear_2 mo_R_cut im_R_cut se_R_cut ln_R_24 rfl rfl rfl (Nat.le_of_ble_eq_true rfl) (Nat.le_of_ble_eq_true rfl) ?_
      refine g_iload_n (pc := 0) dc_R_cut_0 rfl ?_
      refine g_aload_n (pc := 1) dc_R_cut_1 rfl ?_
      refine g_getfield (pc := 2) dc_R_cut_2 fl_R_27 rfl rfl ?_
      refine g_icmp_gt (pc := 5) (tgt := 25) dc_R_cut_5 rfl (fun hc => absurd hc (by decide)) (fun _ => ?_)
      refine g_aload_n (pc := 8) dc_R_cut_8 rfl ?_
      refine g_iload_n (pc := 9) dc_R_cut_9 rfl ?_
      refine g_putfield (pc := 10) dc_R_cut_10 fp_R_cut_27 rfl (Nat.le_of_ble_eq_true rfl) rfl rfl ?_
      refine g_aload_n (pc := 13) dc_R_cut_13 rfl ?_
      refine g_getfield (pc := 14) dc_R_cut_14 fl_R_14 rfl rfl ?_
      refine g_aload_n (pc := 17) dc_R_cut_17 rfl ?_
      refine g_iload_n (pc := 18) dc_R_cut_18 rfl ?_
      refine g_v1 (pc := 19) (M' := mt_R_from) dc_R_cut_19 mo_R_from im_R_from se_R_from ln_R_31 rfl rfl rfl (Nat.le_of_ble_eq_true rfl) (Nat.le_of_ble_eq_true rfl) ?_
      refine g_iload_n (pc := 0) dc_R_from_0 rfl ?_
      refine g_if_ne (pc := 1) (tgt := 8) dc_R_from_1 rfl (fun hc => absurd hc (by decide)) (fun _ => ?_)
      refine g_iconst (pc := 4) (v := 0) dc_R_from_4 rfl ?_
      refine g_goto (pc := 5) (tgt := 16) dc_R_from_5 rfl ?_
      refine g_iretC (pc := 16) dc_R_from_16 rfl ?_
      refine g_putfield (pc := 22) dc_R_cut_22 fp_R_cut_35 rfl (Nat.le_of_ble_eq_true rfl) rfl rfl ?_
      refine g_vretC (pc := 25) dc_R_cut_25 rfl ?_
      refine g_vretC (pc := 5) dc_R_clear_5 rfl ?_
      refine g_aload_n (pc := 12) dc_N_answer_12 rfl ?_
      refine g_aload_n (pc := 13) dc_N_answer_13 rfl ?_
      refine g_getfield (pc := 14) dc_N_answer_14 fl_N_24 rfl rfl ?_
      refine g_s2 (pc := 17) (M' := mt_P_splitWords) dc_N_answer_17 mo_P_splitWords st_P_splitWords ln_N_35 (Nat.le_of_ble_eq_true rfl) (Nat.le_of_ble_eq_true rfl) ?_
      refine g_iconst (pc := 0) (v := 0) dc_P_splitWords_0 rfl ?_
      refine g_istore_n (pc := 1) dc_P_splitWords_1 (by decide) ?_
      refine g_iconst (pc := 2) (v := 0) dc_P_splitWords_2 rfl ?_
      refine g_istore_n (pc := 3) dc_P_splitWords_3 (by decide) ?_
      refine g_iload_n (pc := 4) dc_P_splitWords_4 rfl ?_
      refine g_aload_n (pc := 5) dc_P_splitWords_5 rfl ?_
      refine g_getfield (pc := 6) dc_P_splitWords_6 fl_P_77 rfl rfl ?_
      refine g_icmp_ge (pc := 9) (tgt := 76) dc_P_splitWords_9 rfl (fun _ => ?_) (fun hc => absurd hc (by decide))
      refine g_iload_n (pc := 76) dc_P_splitWords_76 rfl ?_
      refine g_if_le (pc := 77) (tgt := 84) dc_P_splitWords_77 rfl (fun _ => ?_) (fun hc => absurd hc (by decide))
      refine g_vretC (pc := 84) dc_P_splitWords_84 rfl ?_
      refine g_aload_n (pc := 20) dc_N_answer_20 rfl ?_
      refine g_getfield (pc := 21) dc_N_answer_21 fl_N_24 rfl rfl ?_
      refine g_aload_n (pc := 24) dc_N_answer_24 rfl ?_
      refine g_getfield (pc := 25) dc_N_answer_25 fl_N_24 rfl rfl ?_
      refine g_getfield (pc := 28) dc_N_answer_28 fl_N_41 rfl rfl ?_
      refine g_bipush (pc := 31) (v := 8) dc_N_answer_31 rfl ?_
      refine g_s2 (pc := 33) (M' := mt_JMath_min) dc_N_answer_33 mo_JMath_min st_JMath_min ln_N_42 (Nat.le_of_ble_eq_true rfl) (Nat.le_of_ble_eq_true rfl) ?_
      refine g_iload_n (pc := 0) dc_JMath_min_0 rfl ?_
      refine g_iload_n (pc := 1) dc_JMath_min_1 rfl ?_
      refine g_icmp_gt (pc := 2) (tgt := 9) dc_JMath_min_2 rfl (fun hc => absurd hc (by decide)) (fun _ => ?_)
      refine g_iload_n (pc := 5) dc_JMath_min_5 rfl ?_
      refine g_goto (pc := 6) (tgt := 10) dc_JMath_min_6 rfl ?_
      refine g_iretC (pc := 10) dc_JMath_min_10 rfl ?_
      refine g_v1 (pc := 36) (M' := mt_R_cut) dc_N_answer_36 mo_R_cut im_R_cut se_R_cut ln_N_48 rfl rfl rfl (Nat.le_of_ble_eq_true rfl) (Nat.le_of_ble_eq_true rfl) ?_
      refine g_iload_n (pc := 0) dc_R_cut_0 rfl ?_
      refine g_aload_n (pc := 1) dc_R_cut_1 rfl ?_
      refine g_getfield (pc := 2) dc_R_cut_2 fl_R_27 rfl rfl ?_
      refine g_icmp_gt (pc := 5) (tgt := 25) dc_R_cut_5 rfl (fun hc => absurd hc (by decide)) (fun _ => ?_)
      refine g_aload_n (pc := 8) dc_R_cut_8 rfl ?_
      refine g_iload_n (pc := 9) dc_R_cut_9 rfl ?_
      refine g_putfield (pc := 10) dc_R_cut_10 fp_R_cut_27 rfl (Nat.le_of_ble_eq_true rfl) rfl rfl ?_
      refine g_aload_n (pc := 13) dc_R_cut_13 rfl ?_
      refine g_getfield (pc := 14) dc_R_cut_14 fl_R_14 rfl rfl ?_
      refine g_aload_n (pc := 17) dc_R_cut_17 rfl ?_
      refine g_iload_n (pc := 18) dc_R_cut_18 rfl ?_
      refine g_v1 (pc := 19) (M' := mt_R_from) dc_R_cut_19 mo_R_from im_R_from se_R_from ln_R_31 rfl rfl rfl (Nat.le_of_ble_eq_true rfl) (Nat.le_of_ble_eq_true rfl) ?_
      refine g_iload_n (pc := 0) dc_R_from_0 rfl ?_
      refine g_if_ne (pc := 1) (tgt := 8) dc_R_from_1 rfl (fun hc => absurd hc (by decide)) (fun _ => ?_)
      refine g_iconst (pc := 4) (v := 0) dc_R_from_4 rfl ?_
      refine g_goto (pc := 5) (tgt := 16) dc_R_from_5 rfl ?_
      refine g_iretC (pc := 16) dc_R_from_16 rfl ?_
      refine g_putfield (pc := 22) dc_R_cut_22 fp_R_cut_35 rfl (Nat.le_of_ble_eq_true rfl) rfl rfl ?_
      refine g_vretC (pc := 25) dc_R_cut_25 rfl ?_
      refine g_iconst (pc := 39) (v := 0) dc_N_answer_39 rfl ?_
      refine g_istore (pc := 40) dc_N_answer_40 (by decide) ?_
      refine g_iload (pc := 42) dc_N_answer_42 rfl ?_
      refine g_aload_n (pc := 44) dc_N_answer_44 rfl ?_
      refine g_getfield (pc := 45) dc_N_answer_45 fl_N_52 rfl rfl ?_
      refine g_icmp_ge (pc := 48) (tgt := 114) dc_N_answer_48 rfl (fun _ => ?_) (fun hc => absurd hc (by decide))
      refine g_vretC (pc := 114) dc_N_answer_114 rfl ?_
      refine g_aload_n (pc := 27) dc_W_ask_27 rfl ?_
      refine g_getfield (pc := 28) dc_W_ask_28 fl_W_81 rfl rfl ?_
      refine g_getfield (pc := 31) dc_W_ask_31 fl_W_272 rfl rfl ?_
      refine g_istore_n (pc := 34) dc_W_ask_34 (by decide) ?_
      refine g_aload_n (pc := 35) dc_W_ask_35 rfl ?_
      refine g_getfield (pc := 36) dc_W_ask_36 fl_W_12 rfl rfl ?_
      refine g_v0 (pc := 39) (M' := mt_B_clear) dc_W_ask_39 mo_B_clear im_B_clear se_B_clear ln_W_121 rfl rfl rfl (Nat.le_of_ble_eq_true rfl) (Nat.le_of_ble_eq_true rfl) ?_
      refine g_aload_n (pc := 0) dc_B_clear_0 rfl ?_
      refine g_iconst (pc := 1) (v := 0) dc_B_clear_1 rfl ?_
      refine g_putfield (pc := 2) dc_B_clear_2 fp_B_clear_15 rfl (Nat.le_of_ble_eq_true rfl) rfl rfl ?_
      refine g_vretC (pc := 5) dc_B_clear_5 rfl ?_
      refine g_iload_n (pc := 42) dc_W_ask_42 rfl ?_
      refine g_iretC (pc := 43) dc_W_ask_43 rfl ?_
      refine g_aload_n (pc := 769) dc_L_law_769 rfl ?_
      refine g_xload_n (pc := 770) dc_L_law_770 rfl ?_
      refine g_iload (pc := 771) dc_L_law_771 rfl ?_
      refine g_iconst (pc := 773) (v := 1) dc_L_law_773 rfl ?_
      refine g_iadd (pc := 774) (v := 1) dc_L_law_774 (by decide) ?_
      refine g_scriptLoadV (pc := 775) dc_L_law_775 (by rw [hL]; exact am_vin rfl) e1 ?_
      refine g_v1 (pc := 776) (M' := mt_M_ask) dc_L_law_776 mo_M_ask im_M_ask se_M_ask ln_L_129 rfl rfl rfl (Nat.le_of_ble_eq_true rfl) (Nat.le_of_ble_eq_true rfl) ?_
      refine g_aload_n (pc := 0) dc_M_ask_0 rfl ?_
      refine g_v0 (pc := 1) (M' := mt_M_use) dc_M_ask_1 mo_M_use im_M_use se_M_use ln_M_505 rfl rfl rfl (Nat.le_of_ble_eq_true rfl) (Nat.le_of_ble_eq_true rfl) ?_
      refine g_aload_n (pc := 0) dc_M_use_0 rfl ?_
      refine g_iconst (pc := 1) (v := 0) dc_M_use_1 rfl ?_
      refine g_putfield (pc := 2) dc_M_use_2 fp_M_use_1 rfl (Nat.le_of_ble_eq_true rfl) rfl rfl ?_
      refine g_aload_n (pc := 5) dc_M_use_5 rfl ?_
      refine g_getfield (pc := 6) dc_M_use_6 fl_M_493 rfl rfl ?_
      refine g_istore_n (pc := 9) dc_M_use_9 (by decide) ?_
      refine g_aload_n (pc := 10) dc_M_use_10 rfl ?_
      refine g_iconst (pc := 11) (v := 0) dc_M_use_11 rfl ?_
      refine g_putfield (pc := 12) dc_M_use_12 fp_M_use_493 rfl (Nat.le_of_ble_eq_true rfl) rfl rfl ?_
      refine g_iload_n (pc := 15) dc_M_use_15 rfl ?_
      refine g_iretC (pc := 16) dc_M_use_16 rfl ?_
      refine g_istore_n (pc := 4) dc_M_ask_4 (by decide) ?_
      refine g_iload_n (pc := 5) dc_M_ask_5 rfl ?_
      refine g_if_lt (pc := 6) (tgt := 14) dc_M_ask_6 rfl (fun hc => absurd (Int32.lt_iff_toInt_lt.mp hc) (by show ¬ (p1.toInt < 0); omega)) (fun _ => ?_)
      refine g_iload_n (pc := 9) dc_M_ask_9 rfl ?_
      refine g_iconst (pc := 10) (v := 2) dc_M_ask_10 rfl ?_
      refine g_icmp_le (pc := 11) (tgt := 16) dc_M_ask_11 rfl (fun _ => ?_) (fun hc => absurd hc (fun h9 => h9 (Int32.le_iff_toInt_le.mpr (by show p1.toInt ≤ 2; omega))))
      refine g_aload_n (pc := 16) dc_M_ask_16 rfl ?_
      refine g_iconst (pc := 17) (v := 0) dc_M_ask_17 rfl ?_
      refine g_putfield (pc := 18) dc_M_ask_18 fp_M_ask_223 rfl (Nat.le_of_ble_eq_true rfl) rfl rfl ?_
      refine g_aload_n (pc := 21) dc_M_ask_21 rfl ?_
      refine g_aload_n (pc := 22) dc_M_ask_22 rfl ?_
      refine g_getfield (pc := 23) dc_M_ask_23 fl_M_143 rfl rfl ?_
      refine g_iconst (pc := 26) (v := 0) dc_M_ask_26 rfl ?_
      refine g_iload_n (pc := 27) dc_M_ask_27 rfl ?_
      refine g_v3 (pc := 28) (M' := mt_M_split) dc_M_ask_28 mo_M_split im_M_split se_M_split ln_M_244 rfl rfl rfl (Nat.le_of_ble_eq_true rfl) (Nat.le_of_ble_eq_true rfl) ?_
      refine g_iload_n (pc := 0) dc_M_split_0 rfl ?_
      refine g_istore (pc := 1) dc_M_split_1 (by decide) ?_
      refine g_iload (pc := 3) dc_M_split_3 rfl ?_
      refine g_iload_n (pc := 5) dc_M_split_5 rfl ?_
      refine g_icmp_ge (pc := 6) (tgt := 192) dc_M_split_6 rfl (fun _ => ?_) (fun hc => absurd hc (by decide))
      refine g_vretC (pc := 192) dc_M_split_192 rfl ?_
      refine g_aload_n (pc := 31) dc_M_ask_31 rfl ?_
      refine g_aload_n (pc := 32) dc_M_ask_32 rfl ?_
      refine g_getfield (pc := 33) dc_M_ask_33 fl_M_223 rfl rfl ?_
      refine g_bipush (pc := 36) (v := 8) dc_M_ask_36 rfl ?_
      refine g_icmp_ge (pc := 38) (tgt := 48) dc_M_ask_38 rfl (fun hc => absurd hc (by decide)) (fun _ => ?_)
      refine g_aload_n (pc := 41) dc_M_ask_41 rfl ?_
      refine g_getfield (pc := 42) dc_M_ask_42 fl_M_223 rfl rfl ?_
      refine g_goto (pc := 45) (tgt := 50) dc_M_ask_45 rfl ?_
      refine g_putfield (pc := 50) dc_M_ask_50 fp_M_ask_487 rfl (Nat.le_of_ble_eq_true rfl) rfl rfl ?_
      refine g_iconst (pc := 53) (v := 0) dc_M_ask_53 rfl ?_
      refine g_istore_n (pc := 54) dc_M_ask_54 (by decide) ?_
      refine g_iload_n (pc := 55) dc_M_ask_55 rfl ?_
      refine g_aload_n (pc := 56) dc_M_ask_56 rfl ?_
      refine g_getfield (pc := 57) dc_M_ask_57 fl_M_487 rfl rfl ?_
      refine g_icmp_ge (pc := 60) (tgt := 127) dc_M_ask_60 rfl (fun _ => ?_) (fun hc => absurd hc (by decide))
      refine g_aload_n (pc := 127) dc_M_ask_127 rfl ?_
      refine g_iconst (pc := 128) (v := 0) dc_M_ask_128 rfl ?_
      refine g_putfield (pc := 129) dc_M_ask_129 fp_M_ask_547 rfl (Nat.le_of_ble_eq_true rfl) rfl rfl ?_
      refine g_iconst (pc := 132) (v := 0) dc_M_ask_132 rfl ?_
      refine g_istore_n (pc := 133) dc_M_ask_133 (by decide) ?_
      refine g_iload_n (pc := 134) dc_M_ask_134 rfl ?_
      refine g_aload_n (pc := 135) dc_M_ask_135 rfl ?_
      refine g_getfield (pc := 136) dc_M_ask_136 fl_M_467 rfl rfl ?_
      refine g_icmp_ge (pc := 139) (tgt := 207) dc_M_ask_139 rfl (fun _ => ?_) (fun hc => absurd hc (by decide))
      refine g_aload_n (pc := 207) dc_M_ask_207 rfl ?_
      refine g_getfield (pc := 208) dc_M_ask_208 fl_M_547 rfl rfl ?_
      refine g_iretC (pc := 211) dc_M_ask_211 rfl ?_
      refine g_icmp_eq (pc := 779) (tgt := 873) dc_L_law_779 rfl (fun _ => ?_) (fun hc => absurd hc (by decide))
      refine g_iinc (pc := 873) (v := 6) dc_L_law_873 rfl (by decide) (by decide) ?_
      refine g_goto (pc := 876) (tgt := 23) dc_L_law_876 rfl ?_
      refine g_iload (pc := 23) dc_L_law_23 rfl ?_
      refine g_xload_n (pc := 25) dc_L_law_25 rfl ?_
      refine g_scriptLenV (pc := 26) (n := 6) dc_L_law_26 hL rfl ?_
      refine g_bipush (pc := 27) (v := 6) dc_L_law_27 rfl ?_
      refine g_isub (pc := 29) (v := 0) dc_L_law_29 (by decide) ?_
      refine g_icmp_gt (pc := 30) (tgt := 879) dc_L_law_30 rfl (fun _ => ?_) (fun hc => absurd hc (by decide))
      refine g_iconst (pc := 879) (v := 1) dc_L_law_879 rfl ?_
      exact g_zreturn dc_L_law_880 rfl rfl ⟨rfl, (Nat.le_of_ble_eq_true rfl), (Nat.le_of_ble_eq_true rfl)⟩
set_option maxRecDepth 20000 in
set_option maxHeartbeats 4000000 in
theorem p1_24 {X : am_X} {p0 p1 p2 p3 p4 p5 : Int32} (hl9 : X.1.stackTraces = false) (hL : X.2.2.2.2.2.1 = 6) (e0 : X.2.2.2.2.2.2 (Int32.toNatClampNeg 0) = p0) (e1 : X.2.2.2.2.2.2 (Int32.toNatClampNeg 1) = p1) (e2 : X.2.2.2.2.2.2 (Int32.toNatClampNeg 2) = p2) (e3 : X.2.2.2.2.2.2 (Int32.toNatClampNeg 3) = p3) (e4 : X.2.2.2.2.2.2 (Int32.toNatClampNeg 4) = p4) (e5 : X.2.2.2.2.2.2 (Int32.toNatClampNeg 5) = p5) : am_G X mt_L_law 60 784 lo_0 [] hp_0 (fun r h => r = some (.int 1) ∧ h.length ≤ 601024 ∧ am_sl h ≤ 7293034) := by
  refine g_aload_n (pc := 784) dc_L_law_784 rfl ?_
  refine g_xload_n (pc := 785) dc_L_law_785 rfl ?_
  refine g_iload (pc := 786) dc_L_law_786 rfl ?_
  refine g_iconst (pc := 788) (v := 1) dc_L_law_788 rfl ?_
  refine g_iadd (pc := 789) (v := 1) dc_L_law_789 (by decide) ?_
  refine g_scriptLoadV (pc := 790) dc_L_law_790 (by rw [hL]; exact am_vin rfl) e1 ?_
  refine g_v1 (pc := 791) (M' := mt_W_hit) dc_L_law_791 mo_W_hit im_W_hit se_W_hit ln_L_130 rfl rfl rfl (Nat.le_of_ble_eq_true rfl) (Nat.le_of_ble_eq_true rfl) ?_
  refine g_iload_n (pc := 0) dc_W_hit_0 rfl ?_
  refine g_if_lt (pc := 1) (tgt := 15) dc_W_hit_1 rfl (fun hc0 => ?_) (fun hc0 => ?_)
  · have hi0 : p1.toInt < 0 := Int32.lt_iff_toInt_lt.mp hc0
    refine g_iconst (pc := 15) (v := (-1)) dc_W_hit_15 rfl ?_
    refine g_goto (pc := 16) (tgt := 28) dc_W_hit_16 rfl ?_
    refine g_iretC (pc := 28) dc_W_hit_28 rfl ?_
    refine g_aload_n (pc := 794) dc_L_law_794 rfl ?_
    refine g_xload_n (pc := 795) dc_L_law_795 rfl ?_
    refine g_iload (pc := 796) dc_L_law_796 rfl ?_
    refine g_iconst (pc := 798) (v := 1) dc_L_law_798 rfl ?_
    refine g_iadd (pc := 799) (v := 1) dc_L_law_799 (by decide) ?_
    refine g_scriptLoadV (pc := 800) dc_L_law_800 (by rw [hL]; exact am_vin rfl) e1 ?_
    refine g_v1 (pc := 801) (M' := mt_M_hit) dc_L_law_801 mo_M_hit im_M_hit se_M_hit ln_L_133 rfl rfl rfl (Nat.le_of_ble_eq_true rfl) (Nat.le_of_ble_eq_true rfl) ?_
    refine g_aload_n (pc := 0) dc_M_hit_0 rfl ?_
    refine g_iconst (pc := 1) (v := 0) dc_M_hit_1 rfl ?_
    refine g_putfield (pc := 2) dc_M_hit_2 fp_M_hit_1 rfl (Nat.le_of_ble_eq_true rfl) rfl rfl ?_
    refine g_iload_n (pc := 5) dc_M_hit_5 rfl ?_
    refine g_if_lt (pc := 6) (tgt := 26) dc_M_hit_6 rfl (fun _ => ?_) (fun hc => absurd hc (fun h9 => h9 (Int32.lt_iff_toInt_lt.mpr (by show p1.toInt < 0; omega))))
    refine g_iconst (pc := 26) (v := (-1)) dc_M_hit_26 rfl ?_
    refine g_iretC (pc := 27) dc_M_hit_27 rfl ?_
    refine g_icmp_eq (pc := 804) (tgt := 873) dc_L_law_804 rfl (fun _ => ?_) (fun hc => absurd hc (by decide))
    refine g_iinc (pc := 873) (v := 6) dc_L_law_873 rfl (by decide) (by decide) ?_
    refine g_goto (pc := 876) (tgt := 23) dc_L_law_876 rfl ?_
    refine g_iload (pc := 23) dc_L_law_23 rfl ?_
    refine g_xload_n (pc := 25) dc_L_law_25 rfl ?_
    refine g_scriptLenV (pc := 26) (n := 6) dc_L_law_26 hL rfl ?_
    refine g_bipush (pc := 27) (v := 6) dc_L_law_27 rfl ?_
    refine g_isub (pc := 29) (v := 0) dc_L_law_29 (by decide) ?_
    refine g_icmp_gt (pc := 30) (tgt := 879) dc_L_law_30 rfl (fun _ => ?_) (fun hc => absurd hc (by decide))
    refine g_iconst (pc := 879) (v := 1) dc_L_law_879 rfl ?_
    exact g_zreturn dc_L_law_880 rfl rfl ⟨rfl, (Nat.le_of_ble_eq_true rfl), (Nat.le_of_ble_eq_true rfl)⟩
  · have hi0 : ¬ (p1.toInt < 0) := fun h9 => hc0 (Int32.lt_iff_toInt_lt.mpr h9)
    refine g_iload_n (pc := 4) dc_W_hit_4 rfl ?_
    refine g_aload_n (pc := 5) dc_W_hit_5 rfl ?_
    refine g_getfield (pc := 6) dc_W_hit_6 fl_W_81 rfl rfl ?_
    refine g_getfield (pc := 9) dc_W_hit_9 fl_W_272 rfl rfl ?_
    refine g_icmp_lt (pc := 12) (tgt := 19) dc_W_hit_12 rfl (fun hc => absurd (Int32.lt_iff_toInt_lt.mp hc) (by show ¬ (p1.toInt < 0); omega)) (fun _ => ?_)
    refine g_iconst (pc := 15) (v := (-1)) dc_W_hit_15 rfl ?_
    refine g_goto (pc := 16) (tgt := 28) dc_W_hit_16 rfl ?_
    refine g_iretC (pc := 28) dc_W_hit_28 rfl ?_
    refine g_aload_n (pc := 794) dc_L_law_794 rfl ?_
    refine g_xload_n (pc := 795) dc_L_law_795 rfl ?_
    refine g_iload (pc := 796) dc_L_law_796 rfl ?_
    refine g_iconst (pc := 798) (v := 1) dc_L_law_798 rfl ?_
    refine g_iadd (pc := 799) (v := 1) dc_L_law_799 (by decide) ?_
    refine g_scriptLoadV (pc := 800) dc_L_law_800 (by rw [hL]; exact am_vin rfl) e1 ?_
    refine g_v1 (pc := 801) (M' := mt_M_hit) dc_L_law_801 mo_M_hit im_M_hit se_M_hit ln_L_133 rfl rfl rfl (Nat.le_of_ble_eq_true rfl) (Nat.le_of_ble_eq_true rfl) ?_
    refine g_aload_n (pc := 0) dc_M_hit_0 rfl ?_
    refine g_iconst (pc := 1) (v := 0) dc_M_hit_1 rfl ?_
    refine g_putfield (pc := 2) dc_M_hit_2 fp_M_hit_1 rfl (Nat.le_of_ble_eq_true rfl) rfl rfl ?_
    refine g_iload_n (pc := 5) dc_M_hit_5 rfl ?_
    refine g_if_lt (pc := 6) (tgt := 26) dc_M_hit_6 rfl (fun hc => absurd (Int32.lt_iff_toInt_lt.mp hc) (by show ¬ (p1.toInt < 0); omega)) (fun _ => ?_)
    refine g_iload_n (pc := 9) dc_M_hit_9 rfl ?_
    refine g_aload_n (pc := 10) dc_M_hit_10 rfl ?_
    refine g_getfield (pc := 11) dc_M_hit_11 fl_M_547 rfl rfl ?_
    refine g_icmp_ge (pc := 14) (tgt := 26) dc_M_hit_14 rfl (fun _ => ?_) (fun hc => absurd hc (fun h9 => h9 (Int32.le_iff_toInt_le.mpr (by show 0 ≤ p1.toInt; omega))))
    refine g_iconst (pc := 26) (v := (-1)) dc_M_hit_26 rfl ?_
    refine g_iretC (pc := 27) dc_M_hit_27 rfl ?_
    refine g_icmp_eq (pc := 804) (tgt := 873) dc_L_law_804 rfl (fun _ => ?_) (fun hc => absurd hc (by decide))
    refine g_iinc (pc := 873) (v := 6) dc_L_law_873 rfl (by decide) (by decide) ?_
    refine g_goto (pc := 876) (tgt := 23) dc_L_law_876 rfl ?_
    refine g_iload (pc := 23) dc_L_law_23 rfl ?_
    refine g_xload_n (pc := 25) dc_L_law_25 rfl ?_
    refine g_scriptLenV (pc := 26) (n := 6) dc_L_law_26 hL rfl ?_
    refine g_bipush (pc := 27) (v := 6) dc_L_law_27 rfl ?_
    refine g_isub (pc := 29) (v := 0) dc_L_law_29 (by decide) ?_
    refine g_icmp_gt (pc := 30) (tgt := 879) dc_L_law_30 rfl (fun _ => ?_) (fun hc => absurd hc (by decide))
    refine g_iconst (pc := 879) (v := 1) dc_L_law_879 rfl ?_
    exact g_zreturn dc_L_law_880 rfl rfl ⟨rfl, (Nat.le_of_ble_eq_true rfl), (Nat.le_of_ble_eq_true rfl)⟩
set_option maxRecDepth 20000 in
set_option maxHeartbeats 4000000 in
theorem p1_25 {X : am_X} {p0 p1 p2 p3 p4 p5 : Int32} (hl9 : X.1.stackTraces = false) (hL : X.2.2.2.2.2.1 = 6) (e0 : X.2.2.2.2.2.2 (Int32.toNatClampNeg 0) = p0) (e1 : X.2.2.2.2.2.2 (Int32.toNatClampNeg 1) = p1) (e2 : X.2.2.2.2.2.2 (Int32.toNatClampNeg 2) = p2) (e3 : X.2.2.2.2.2.2 (Int32.toNatClampNeg 3) = p3) (e4 : X.2.2.2.2.2.2 (Int32.toNatClampNeg 4) = p4) (e5 : X.2.2.2.2.2.2 (Int32.toNatClampNeg 5) = p5) : am_G X mt_L_law 60 809 lo_0 [] hp_0 (fun r h => r = some (.int 1) ∧ h.length ≤ 601024 ∧ am_sl h ≤ 7293034) := by
  refine g_aload_n (pc := 809) dc_L_law_809 rfl ?_
  refine g_xload_n (pc := 810) dc_L_law_810 rfl ?_
  refine g_iload (pc := 811) dc_L_law_811 rfl ?_
  refine g_iconst (pc := 813) (v := 1) dc_L_law_813 rfl ?_
  refine g_iadd (pc := 814) (v := 1) dc_L_law_814 (by decide) ?_
  refine g_scriptLoadV (pc := 815) dc_L_law_815 (by rw [hL]; exact am_vin rfl) e1 ?_
  refine g_v1 (pc := 816) (M' := mt_W_score) dc_L_law_816 mo_W_score im_W_score se_W_score ln_L_134 rfl rfl rfl (Nat.le_of_ble_eq_true rfl) (Nat.le_of_ble_eq_true rfl) ?_
  refine g_iload_n (pc := 0) dc_W_score_0 rfl ?_
  refine g_if_lt (pc := 1) (tgt := 15) dc_W_score_1 rfl (fun hc0 => ?_) (fun hc0 => ?_)
  · have hi0 : p1.toInt < 0 := Int32.lt_iff_toInt_lt.mp hc0
    refine g_ldc2 (pc := 15) dc_W_score_15 cl_W_276 ?_
    refine g_goto (pc := 18) (tgt := 30) dc_W_score_18 rfl ?_
    refine g_lretC (pc := 30) dc_W_score_30 rfl ?_
    refine g_aload_n (pc := 819) dc_L_law_819 rfl ?_
    refine g_xload_n (pc := 820) dc_L_law_820 rfl ?_
    refine g_iload (pc := 821) dc_L_law_821 rfl ?_
    refine g_iconst (pc := 823) (v := 1) dc_L_law_823 rfl ?_
    refine g_iadd (pc := 824) (v := 1) dc_L_law_824 (by decide) ?_
    refine g_scriptLoadV (pc := 825) dc_L_law_825 (by rw [hL]; exact am_vin rfl) e1 ?_
    refine g_v1 (pc := 826) (M' := mt_M_score) dc_L_law_826 mo_M_score im_M_score se_M_score ln_L_138 rfl rfl rfl (Nat.le_of_ble_eq_true rfl) (Nat.le_of_ble_eq_true rfl) ?_
    refine g_aload_n (pc := 0) dc_M_score_0 rfl ?_
    refine g_iconst (pc := 1) (v := 0) dc_M_score_1 rfl ?_
    refine g_putfield (pc := 2) dc_M_score_2 fp_M_score_1 rfl (Nat.le_of_ble_eq_true rfl) rfl rfl ?_
    refine g_iload_n (pc := 5) dc_M_score_5 rfl ?_
    refine g_if_lt (pc := 6) (tgt := 26) dc_M_score_6 rfl (fun _ => ?_) (fun hc => absurd hc (fun h9 => h9 (Int32.lt_iff_toInt_lt.mpr (by show p1.toInt < 0; omega))))
    refine g_ldc2 (pc := 26) dc_M_score_26 cl_M_563 ?_
    refine g_lretC (pc := 29) dc_M_score_29 rfl ?_
    refine g_lcmp (pc := 829) (v := 0) dc_L_law_829 (by decide) ?_
    refine g_if_eq (pc := 830) (tgt := 873) dc_L_law_830 rfl (fun _ => ?_) (fun hc => absurd hc (by decide))
    refine g_iinc (pc := 873) (v := 6) dc_L_law_873 rfl (by decide) (by decide) ?_
    refine g_goto (pc := 876) (tgt := 23) dc_L_law_876 rfl ?_
    refine g_iload (pc := 23) dc_L_law_23 rfl ?_
    refine g_xload_n (pc := 25) dc_L_law_25 rfl ?_
    refine g_scriptLenV (pc := 26) (n := 6) dc_L_law_26 hL rfl ?_
    refine g_bipush (pc := 27) (v := 6) dc_L_law_27 rfl ?_
    refine g_isub (pc := 29) (v := 0) dc_L_law_29 (by decide) ?_
    refine g_icmp_gt (pc := 30) (tgt := 879) dc_L_law_30 rfl (fun _ => ?_) (fun hc => absurd hc (by decide))
    refine g_iconst (pc := 879) (v := 1) dc_L_law_879 rfl ?_
    exact g_zreturn dc_L_law_880 rfl rfl ⟨rfl, (Nat.le_of_ble_eq_true rfl), (Nat.le_of_ble_eq_true rfl)⟩
  · have hi0 : ¬ (p1.toInt < 0) := fun h9 => hc0 (Int32.lt_iff_toInt_lt.mpr h9)
    refine g_iload_n (pc := 4) dc_W_score_4 rfl ?_
    refine g_aload_n (pc := 5) dc_W_score_5 rfl ?_
    refine g_getfield (pc := 6) dc_W_score_6 fl_W_81 rfl rfl ?_
    refine g_getfield (pc := 9) dc_W_score_9 fl_W_272 rfl rfl ?_
    refine g_icmp_lt (pc := 12) (tgt := 21) dc_W_score_12 rfl (fun hc => absurd (Int32.lt_iff_toInt_lt.mp hc) (by show ¬ (p1.toInt < 0); omega)) (fun _ => ?_)
    refine g_ldc2 (pc := 15) dc_W_score_15 cl_W_276 ?_
    refine g_goto (pc := 18) (tgt := 30) dc_W_score_18 rfl ?_
    refine g_lretC (pc := 30) dc_W_score_30 rfl ?_
    refine g_aload_n (pc := 819) dc_L_law_819 rfl ?_
    refine g_xload_n (pc := 820) dc_L_law_820 rfl ?_
    refine g_iload (pc := 821) dc_L_law_821 rfl ?_
    refine g_iconst (pc := 823) (v := 1) dc_L_law_823 rfl ?_
    refine g_iadd (pc := 824) (v := 1) dc_L_law_824 (by decide) ?_
    refine g_scriptLoadV (pc := 825) dc_L_law_825 (by rw [hL]; exact am_vin rfl) e1 ?_
    refine g_v1 (pc := 826) (M' := mt_M_score) dc_L_law_826 mo_M_score im_M_score se_M_score ln_L_138 rfl rfl rfl (Nat.le_of_ble_eq_true rfl) (Nat.le_of_ble_eq_true rfl) ?_
    refine g_aload_n (pc := 0) dc_M_score_0 rfl ?_
    refine g_iconst (pc := 1) (v := 0) dc_M_score_1 rfl ?_
    refine g_putfield (pc := 2) dc_M_score_2 fp_M_score_1 rfl (Nat.le_of_ble_eq_true rfl) rfl rfl ?_
    refine g_iload_n (pc := 5) dc_M_score_5 rfl ?_
    refine g_if_lt (pc := 6) (tgt := 26) dc_M_score_6 rfl (fun hc => absurd (Int32.lt_iff_toInt_lt.mp hc) (by show ¬ (p1.toInt < 0); omega)) (fun _ => ?_)
    refine g_iload_n (pc := 9) dc_M_score_9 rfl ?_
    refine g_aload_n (pc := 10) dc_M_score_10 rfl ?_
    refine g_getfield (pc := 11) dc_M_score_11 fl_M_547 rfl rfl ?_
    refine g_icmp_ge (pc := 14) (tgt := 26) dc_M_score_14 rfl (fun _ => ?_) (fun hc => absurd hc (fun h9 => h9 (Int32.le_iff_toInt_le.mpr (by show 0 ≤ p1.toInt; omega))))
    refine g_ldc2 (pc := 26) dc_M_score_26 cl_M_563 ?_
    refine g_lretC (pc := 29) dc_M_score_29 rfl ?_
    refine g_lcmp (pc := 829) (v := 0) dc_L_law_829 (by decide) ?_
    refine g_if_eq (pc := 830) (tgt := 873) dc_L_law_830 rfl (fun _ => ?_) (fun hc => absurd hc (by decide))
    refine g_iinc (pc := 873) (v := 6) dc_L_law_873 rfl (by decide) (by decide) ?_
    refine g_goto (pc := 876) (tgt := 23) dc_L_law_876 rfl ?_
    refine g_iload (pc := 23) dc_L_law_23 rfl ?_
    refine g_xload_n (pc := 25) dc_L_law_25 rfl ?_
    refine g_scriptLenV (pc := 26) (n := 6) dc_L_law_26 hL rfl ?_
    refine g_bipush (pc := 27) (v := 6) dc_L_law_27 rfl ?_
    refine g_isub (pc := 29) (v := 0) dc_L_law_29 (by decide) ?_
    refine g_icmp_gt (pc := 30) (tgt := 879) dc_L_law_30 rfl (fun _ => ?_) (fun hc => absurd hc (by decide))
    refine g_iconst (pc := 879) (v := 1) dc_L_law_879 rfl ?_
    exact g_zreturn dc_L_law_880 rfl rfl ⟨rfl, (Nat.le_of_ble_eq_true rfl), (Nat.le_of_ble_eq_true rfl)⟩
set_option maxRecDepth 20000 in
set_option maxHeartbeats 4000000 in
theorem p1_26 {X : am_X} {p0 p1 p2 p3 p4 p5 : Int32} (hl9 : X.1.stackTraces = false) (hL : X.2.2.2.2.2.1 = 6) (e0 : X.2.2.2.2.2.2 (Int32.toNatClampNeg 0) = p0) (e1 : X.2.2.2.2.2.2 (Int32.toNatClampNeg 1) = p1) (e2 : X.2.2.2.2.2.2 (Int32.toNatClampNeg 2) = p2) (e3 : X.2.2.2.2.2.2 (Int32.toNatClampNeg 3) = p3) (e4 : X.2.2.2.2.2.2 (Int32.toNatClampNeg 4) = p4) (e5 : X.2.2.2.2.2.2 (Int32.toNatClampNeg 5) = p5) : am_G X mt_L_law 60 835 lo_0 [] hp_0 (fun r h => r = some (.int 1) ∧ h.length ≤ 601024 ∧ am_sl h ≤ 7293034) := by
  refine g_aload_n (pc := 835) dc_L_law_835 rfl ?_
  refine g_v0 (pc := 836) (M' := mt_W_made) dc_L_law_836 mo_W_made im_W_made se_W_made ln_L_139 rfl rfl rfl (Nat.le_of_ble_eq_true rfl) (Nat.le_of_ble_eq_true rfl) ?_
  refine g_aload_n (pc := 0) dc_W_made_0 rfl ?_
  refine g_getfield (pc := 1) dc_W_made_1 fl_W_18 rfl rfl ?_
  refine g_getfield (pc := 4) dc_W_made_4 fl_W_85 rfl rfl ?_
  refine g_iretC (pc := 7) dc_W_made_7 rfl ?_
  refine g_aload_n (pc := 839) dc_L_law_839 rfl ?_
  refine g_v0 (pc := 840) (M' := mt_M_made) dc_L_law_840 mo_M_made im_M_made se_M_made ln_L_142 rfl rfl rfl (Nat.le_of_ble_eq_true rfl) (Nat.le_of_ble_eq_true rfl) ?_
  refine g_aload_n (pc := 0) dc_M_made_0 rfl ?_
  refine g_iconst (pc := 1) (v := 0) dc_M_made_1 rfl ?_
  refine g_putfield (pc := 2) dc_M_made_2 fp_M_made_1 rfl (Nat.le_of_ble_eq_true rfl) rfl rfl ?_
  refine g_aload_n (pc := 5) dc_M_made_5 rfl ?_
  refine g_getfield (pc := 6) dc_M_made_6 fl_M_499 rfl rfl ?_
  refine g_iretC (pc := 9) dc_M_made_9 rfl ?_
  refine g_icmp_eq (pc := 843) (tgt := 873) dc_L_law_843 rfl (fun _ => ?_) (fun hc => absurd hc (by decide))
  refine g_iinc (pc := 873) (v := 6) dc_L_law_873 rfl (by decide) (by decide) ?_
  refine g_goto (pc := 876) (tgt := 23) dc_L_law_876 rfl ?_
  refine g_iload (pc := 23) dc_L_law_23 rfl ?_
  refine g_xload_n (pc := 25) dc_L_law_25 rfl ?_
  refine g_scriptLenV (pc := 26) (n := 6) dc_L_law_26 hL rfl ?_
  refine g_bipush (pc := 27) (v := 6) dc_L_law_27 rfl ?_
  refine g_isub (pc := 29) (v := 0) dc_L_law_29 (by decide) ?_
  refine g_icmp_gt (pc := 30) (tgt := 879) dc_L_law_30 rfl (fun _ => ?_) (fun hc => absurd hc (by decide))
  refine g_iconst (pc := 879) (v := 1) dc_L_law_879 rfl ?_
  exact g_zreturn dc_L_law_880 rfl rfl ⟨rfl, (Nat.le_of_ble_eq_true rfl), (Nat.le_of_ble_eq_true rfl)⟩
set_option maxRecDepth 20000 in
set_option maxHeartbeats 4000000 in
theorem p1_27 {X : am_X} {p0 p1 p2 p3 p4 p5 : Int32} (hl9 : X.1.stackTraces = false) (hL : X.2.2.2.2.2.1 = 6) (e0 : X.2.2.2.2.2.2 (Int32.toNatClampNeg 0) = p0) (e1 : X.2.2.2.2.2.2 (Int32.toNatClampNeg 1) = p1) (e2 : X.2.2.2.2.2.2 (Int32.toNatClampNeg 2) = p2) (e3 : X.2.2.2.2.2.2 (Int32.toNatClampNeg 3) = p3) (e4 : X.2.2.2.2.2.2 (Int32.toNatClampNeg 4) = p4) (e5 : X.2.2.2.2.2.2 (Int32.toNatClampNeg 5) = p5) : am_G X mt_L_law 60 848 lo_0 [] hp_0 (fun r h => r = some (.int 1) ∧ h.length ≤ 601024 ∧ am_sl h ≤ 7293034) := by
  refine g_aload_n (pc := 848) dc_L_law_848 rfl ?_
  refine g_xload_n (pc := 849) dc_L_law_849 rfl ?_
  refine g_iload (pc := 850) dc_L_law_850 rfl ?_
  refine g_iconst (pc := 852) (v := 1) dc_L_law_852 rfl ?_
  refine g_iadd (pc := 853) (v := 1) dc_L_law_853 (by decide) ?_
  refine g_scriptLoadV (pc := 854) dc_L_law_854 (by rw [hL]; exact am_vin rfl) e1 ?_
  refine g_v1 (pc := 855) (M' := mt_W_out) dc_L_law_855 mo_W_out im_W_out se_W_out ln_L_143 rfl rfl rfl (Nat.le_of_ble_eq_true rfl) (Nat.le_of_ble_eq_true rfl) ?_
  refine g_iload_n (pc := 0) dc_W_out_0 rfl ?_
  refine g_if_lt (pc := 1) (tgt := 15) dc_W_out_1 rfl (fun hc0 => ?_) (fun hc0 => ?_)
  · have hi0 : p1.toInt < 0 := Int32.lt_iff_toInt_lt.mp hc0
    refine g_iconst (pc := 15) (v := (-1)) dc_W_out_15 rfl ?_
    refine g_goto (pc := 16) (tgt := 32) dc_W_out_16 rfl ?_
    refine g_iretC (pc := 32) dc_W_out_32 rfl ?_
    refine g_aload_n (pc := 858) dc_L_law_858 rfl ?_
    refine g_xload_n (pc := 859) dc_L_law_859 rfl ?_
    refine g_iload (pc := 860) dc_L_law_860 rfl ?_
    refine g_iconst (pc := 862) (v := 1) dc_L_law_862 rfl ?_
    refine g_iadd (pc := 863) (v := 1) dc_L_law_863 (by decide) ?_
    refine g_scriptLoadV (pc := 864) dc_L_law_864 (by rw [hL]; exact am_vin rfl) e1 ?_
    refine g_v1 (pc := 865) (M' := mt_M_out) dc_L_law_865 mo_M_out im_M_out se_M_out ln_L_146 rfl rfl rfl (Nat.le_of_ble_eq_true rfl) (Nat.le_of_ble_eq_true rfl) ?_
    refine g_aload_n (pc := 0) dc_M_out_0 rfl ?_
    refine g_iconst (pc := 1) (v := 0) dc_M_out_1 rfl ?_
    refine g_putfield (pc := 2) dc_M_out_2 fp_M_out_1 rfl (Nat.le_of_ble_eq_true rfl) rfl rfl ?_
    refine g_iload_n (pc := 5) dc_M_out_5 rfl ?_
    refine g_if_lt (pc := 6) (tgt := 30) dc_M_out_6 rfl (fun _ => ?_) (fun hc => absurd hc (fun h9 => h9 (Int32.lt_iff_toInt_lt.mpr (by show p1.toInt < 0; omega))))
    refine g_iconst (pc := 30) (v := (-1)) dc_M_out_30 rfl ?_
    refine g_iretC (pc := 31) dc_M_out_31 rfl ?_
    refine g_icmp_eq (pc := 868) (tgt := 873) dc_L_law_868 rfl (fun _ => ?_) (fun hc => absurd hc (by decide))
    refine g_iinc (pc := 873) (v := 6) dc_L_law_873 rfl (by decide) (by decide) ?_
    refine g_goto (pc := 876) (tgt := 23) dc_L_law_876 rfl ?_
    refine g_iload (pc := 23) dc_L_law_23 rfl ?_
    refine g_xload_n (pc := 25) dc_L_law_25 rfl ?_
    refine g_scriptLenV (pc := 26) (n := 6) dc_L_law_26 hL rfl ?_
    refine g_bipush (pc := 27) (v := 6) dc_L_law_27 rfl ?_
    refine g_isub (pc := 29) (v := 0) dc_L_law_29 (by decide) ?_
    refine g_icmp_gt (pc := 30) (tgt := 879) dc_L_law_30 rfl (fun _ => ?_) (fun hc => absurd hc (by decide))
    refine g_iconst (pc := 879) (v := 1) dc_L_law_879 rfl ?_
    exact g_zreturn dc_L_law_880 rfl rfl ⟨rfl, (Nat.le_of_ble_eq_true rfl), (Nat.le_of_ble_eq_true rfl)⟩
  · have hi0 : ¬ (p1.toInt < 0) := fun h9 => hc0 (Int32.lt_iff_toInt_lt.mpr h9)
    refine g_iload_n (pc := 4) dc_W_out_4 rfl ?_
    refine g_aload_n (pc := 5) dc_W_out_5 rfl ?_
    refine g_getfield (pc := 6) dc_W_out_6 fl_W_18 rfl rfl ?_
    refine g_getfield (pc := 9) dc_W_out_9 fl_W_85 rfl rfl ?_
    refine g_icmp_lt (pc := 12) (tgt := 19) dc_W_out_12 rfl (fun hc => absurd (Int32.lt_iff_toInt_lt.mp hc) (by show ¬ (p1.toInt < 0); omega)) (fun _ => ?_)
    refine g_iconst (pc := 15) (v := (-1)) dc_W_out_15 rfl ?_
    refine g_goto (pc := 16) (tgt := 32) dc_W_out_16 rfl ?_
    refine g_iretC (pc := 32) dc_W_out_32 rfl ?_
    refine g_aload_n (pc := 858) dc_L_law_858 rfl ?_
    refine g_xload_n (pc := 859) dc_L_law_859 rfl ?_
    refine g_iload (pc := 860) dc_L_law_860 rfl ?_
    refine g_iconst (pc := 862) (v := 1) dc_L_law_862 rfl ?_
    refine g_iadd (pc := 863) (v := 1) dc_L_law_863 (by decide) ?_
    refine g_scriptLoadV (pc := 864) dc_L_law_864 (by rw [hL]; exact am_vin rfl) e1 ?_
    refine g_v1 (pc := 865) (M' := mt_M_out) dc_L_law_865 mo_M_out im_M_out se_M_out ln_L_146 rfl rfl rfl (Nat.le_of_ble_eq_true rfl) (Nat.le_of_ble_eq_true rfl) ?_
    refine g_aload_n (pc := 0) dc_M_out_0 rfl ?_
    refine g_iconst (pc := 1) (v := 0) dc_M_out_1 rfl ?_
    refine g_putfield (pc := 2) dc_M_out_2 fp_M_out_1 rfl (Nat.le_of_ble_eq_true rfl) rfl rfl ?_
    refine g_iload_n (pc := 5) dc_M_out_5 rfl ?_
    refine g_if_lt (pc := 6) (tgt := 30) dc_M_out_6 rfl (fun hc => absurd (Int32.lt_iff_toInt_lt.mp hc) (by show ¬ (p1.toInt < 0); omega)) (fun _ => ?_)
    refine g_iload_n (pc := 9) dc_M_out_9 rfl ?_
    refine g_aload_n (pc := 10) dc_M_out_10 rfl ?_
    refine g_getfield (pc := 11) dc_M_out_11 fl_M_499 rfl rfl ?_
    refine g_icmp_ge (pc := 14) (tgt := 30) dc_M_out_14 rfl (fun _ => ?_) (fun hc => absurd hc (fun h9 => h9 (Int32.le_iff_toInt_le.mpr (by show 0 ≤ p1.toInt; omega))))
    refine g_iconst (pc := 30) (v := (-1)) dc_M_out_30 rfl ?_
    refine g_iretC (pc := 31) dc_M_out_31 rfl ?_
    refine g_icmp_eq (pc := 868) (tgt := 873) dc_L_law_868 rfl (fun _ => ?_) (fun hc => absurd hc (by decide))
    refine g_iinc (pc := 873) (v := 6) dc_L_law_873 rfl (by decide) (by decide) ?_
    refine g_goto (pc := 876) (tgt := 23) dc_L_law_876 rfl ?_
    refine g_iload (pc := 23) dc_L_law_23 rfl ?_
    refine g_xload_n (pc := 25) dc_L_law_25 rfl ?_
    refine g_scriptLenV (pc := 26) (n := 6) dc_L_law_26 hL rfl ?_
    refine g_bipush (pc := 27) (v := 6) dc_L_law_27 rfl ?_
    refine g_isub (pc := 29) (v := 0) dc_L_law_29 (by decide) ?_
    refine g_icmp_gt (pc := 30) (tgt := 879) dc_L_law_30 rfl (fun _ => ?_) (fun hc => absurd hc (by decide))
    refine g_iconst (pc := 879) (v := 1) dc_L_law_879 rfl ?_
    exact g_zreturn dc_L_law_880 rfl rfl ⟨rfl, (Nat.le_of_ble_eq_true rfl), (Nat.le_of_ble_eq_true rfl)⟩
set_option maxRecDepth 20000 in
set_option maxHeartbeats 4000000 in
theorem p1_28 {X : am_X} {p0 p1 p2 p3 p4 p5 : Int32} (hl9 : X.1.stackTraces = false) (hL : X.2.2.2.2.2.1 = 6) (e0 : X.2.2.2.2.2.2 (Int32.toNatClampNeg 0) = p0) (e1 : X.2.2.2.2.2.2 (Int32.toNatClampNeg 1) = p1) (e2 : X.2.2.2.2.2.2 (Int32.toNatClampNeg 2) = p2) (e3 : X.2.2.2.2.2.2 (Int32.toNatClampNeg 3) = p3) (e4 : X.2.2.2.2.2.2 (Int32.toNatClampNeg 4) = p4) (e5 : X.2.2.2.2.2.2 (Int32.toNatClampNeg 5) = p5) : am_G X mt_L_law 60 873 lo_0 [] hp_0 (fun r h => r = some (.int 1) ∧ h.length ≤ 601024 ∧ am_sl h ≤ 7293034) := by
  refine g_iinc (pc := 873) (v := 6) dc_L_law_873 rfl (by decide) (by decide) ?_
  refine g_goto (pc := 876) (tgt := 23) dc_L_law_876 rfl ?_
  refine g_iload (pc := 23) dc_L_law_23 rfl ?_
  refine g_xload_n (pc := 25) dc_L_law_25 rfl ?_
  refine g_scriptLenV (pc := 26) (n := 6) dc_L_law_26 hL rfl ?_
  refine g_bipush (pc := 27) (v := 6) dc_L_law_27 rfl ?_
  refine g_isub (pc := 29) (v := 0) dc_L_law_29 (by decide) ?_
  refine g_icmp_gt (pc := 30) (tgt := 879) dc_L_law_30 rfl (fun _ => ?_) (fun hc => absurd hc (by decide))
  refine g_iconst (pc := 879) (v := 1) dc_L_law_879 rfl ?_
  exact g_zreturn dc_L_law_880 rfl rfl ⟨rfl, (Nat.le_of_ble_eq_true rfl), (Nat.le_of_ble_eq_true rfl)⟩
