set_option maxRecDepth 20000 in
theorem p1_law {X : am_X} (hl9 : X.1.stackTraces = false) (hN : X.2.2.2.2.2.1 ≤ 6) : am_C X mt_L_law 60 [.retAddr 300] [] (fun r h => r = some (.int 1) ∧ h.length ≤ 600002 ∧ am_sl h ≤ 7302232) := by
  refine am_open ?_
  rcases (by omega : X.2.2.2.2.2.1 = 0 ∨ X.2.2.2.2.2.1 = 1 ∨ X.2.2.2.2.2.1 = 2 ∨ X.2.2.2.2.2.1 = 3 ∨ X.2.2.2.2.2.1 = 4 ∨ X.2.2.2.2.2.1 = 5 ∨ X.2.2.2.2.2.1 = 6) with hL | hL | hL | hL | hL | hL | hL
  · refine g_iload (pc := 23) dc_L_law_23 rfl ?_
    refine g_xload_n (pc := 25) dc_L_law_25 rfl ?_
    refine g_scriptLenV (pc := 26) (n := 0) dc_L_law_26 hL rfl ?_
    refine g_bipush (pc := 27) (v := 6) dc_L_law_27 rfl ?_
    refine g_isub (pc := 29) (v := (-6)) dc_L_law_29 (by decide) ?_
    refine g_icmp_gt (pc := 30) (tgt := 879) dc_L_law_30 rfl (fun _ => ?_) (fun hc => absurd hc (by decide))
    refine g_iconst (pc := 879) (v := 1) dc_L_law_879 rfl ?_
    exact g_zreturn dc_L_law_880 rfl rfl ⟨rfl, (Nat.le_of_ble_eq_true rfl), am_bz (by (repeat (first | refine am_bw rfl ?_ | refine am_bA rfl ?_ | refine am_bB rfl ?_ | refine am_bC rfl ?_)); exact am_b0 (Nat.le_of_ble_eq_true rfl))⟩
  · refine g_iload (pc := 23) dc_L_law_23 rfl ?_
    refine g_xload_n (pc := 25) dc_L_law_25 rfl ?_
    refine g_scriptLenV (pc := 26) (n := 1) dc_L_law_26 hL rfl ?_
    refine g_bipush (pc := 27) (v := 6) dc_L_law_27 rfl ?_
    refine g_isub (pc := 29) (v := (-5)) dc_L_law_29 (by decide) ?_
    refine g_icmp_gt (pc := 30) (tgt := 879) dc_L_law_30 rfl (fun _ => ?_) (fun hc => absurd hc (by decide))
    refine g_iconst (pc := 879) (v := 1) dc_L_law_879 rfl ?_
    exact g_zreturn dc_L_law_880 rfl rfl ⟨rfl, (Nat.le_of_ble_eq_true rfl), am_bz (by (repeat (first | refine am_bw rfl ?_ | refine am_bA rfl ?_ | refine am_bB rfl ?_ | refine am_bC rfl ?_)); exact am_b0 (Nat.le_of_ble_eq_true rfl))⟩
  · refine g_iload (pc := 23) dc_L_law_23 rfl ?_
    refine g_xload_n (pc := 25) dc_L_law_25 rfl ?_
    refine g_scriptLenV (pc := 26) (n := 2) dc_L_law_26 hL rfl ?_
    refine g_bipush (pc := 27) (v := 6) dc_L_law_27 rfl ?_
    refine g_isub (pc := 29) (v := (-4)) dc_L_law_29 (by decide) ?_
    refine g_icmp_gt (pc := 30) (tgt := 879) dc_L_law_30 rfl (fun _ => ?_) (fun hc => absurd hc (by decide))
    refine g_iconst (pc := 879) (v := 1) dc_L_law_879 rfl ?_
    exact g_zreturn dc_L_law_880 rfl rfl ⟨rfl, (Nat.le_of_ble_eq_true rfl), am_bz (by (repeat (first | refine am_bw rfl ?_ | refine am_bA rfl ?_ | refine am_bB rfl ?_ | refine am_bC rfl ?_)); exact am_b0 (Nat.le_of_ble_eq_true rfl))⟩
  · refine g_iload (pc := 23) dc_L_law_23 rfl ?_
    refine g_xload_n (pc := 25) dc_L_law_25 rfl ?_
    refine g_scriptLenV (pc := 26) (n := 3) dc_L_law_26 hL rfl ?_
    refine g_bipush (pc := 27) (v := 6) dc_L_law_27 rfl ?_
    refine g_isub (pc := 29) (v := (-3)) dc_L_law_29 (by decide) ?_
    refine g_icmp_gt (pc := 30) (tgt := 879) dc_L_law_30 rfl (fun _ => ?_) (fun hc => absurd hc (by decide))
    refine g_iconst (pc := 879) (v := 1) dc_L_law_879 rfl ?_
    exact g_zreturn dc_L_law_880 rfl rfl ⟨rfl, (Nat.le_of_ble_eq_true rfl), am_bz (by (repeat (first | refine am_bw rfl ?_ | refine am_bA rfl ?_ | refine am_bB rfl ?_ | refine am_bC rfl ?_)); exact am_b0 (Nat.le_of_ble_eq_true rfl))⟩
  · refine g_iload (pc := 23) dc_L_law_23 rfl ?_
    refine g_xload_n (pc := 25) dc_L_law_25 rfl ?_
    refine g_scriptLenV (pc := 26) (n := 4) dc_L_law_26 hL rfl ?_
    refine g_bipush (pc := 27) (v := 6) dc_L_law_27 rfl ?_
    refine g_isub (pc := 29) (v := (-2)) dc_L_law_29 (by decide) ?_
    refine g_icmp_gt (pc := 30) (tgt := 879) dc_L_law_30 rfl (fun _ => ?_) (fun hc => absurd hc (by decide))
    refine g_iconst (pc := 879) (v := 1) dc_L_law_879 rfl ?_
    exact g_zreturn dc_L_law_880 rfl rfl ⟨rfl, (Nat.le_of_ble_eq_true rfl), am_bz (by (repeat (first | refine am_bw rfl ?_ | refine am_bA rfl ?_ | refine am_bB rfl ?_ | refine am_bC rfl ?_)); exact am_b0 (Nat.le_of_ble_eq_true rfl))⟩
  · refine g_iload (pc := 23) dc_L_law_23 rfl ?_
    refine g_xload_n (pc := 25) dc_L_law_25 rfl ?_
    refine g_scriptLenV (pc := 26) (n := 5) dc_L_law_26 hL rfl ?_
    refine g_bipush (pc := 27) (v := 6) dc_L_law_27 rfl ?_
    refine g_isub (pc := 29) (v := (-1)) dc_L_law_29 (by decide) ?_
    refine g_icmp_gt (pc := 30) (tgt := 879) dc_L_law_30 rfl (fun _ => ?_) (fun hc => absurd hc (by decide))
    refine g_iconst (pc := 879) (v := 1) dc_L_law_879 rfl ?_
    exact g_zreturn dc_L_law_880 rfl rfl ⟨rfl, (Nat.le_of_ble_eq_true rfl), am_bz (by (repeat (first | refine am_bw rfl ?_ | refine am_bA rfl ?_ | refine am_bB rfl ?_ | refine am_bC rfl ?_)); exact am_b0 (Nat.le_of_ble_eq_true rfl))⟩
  · refine g_iload (pc := 23) dc_L_law_23 rfl ?_
    refine g_xload_n (pc := 25) dc_L_law_25 rfl ?_
    refine g_scriptLenV (pc := 26) (n := 6) dc_L_law_26 hL rfl ?_
    refine g_bipush (pc := 27) (v := 6) dc_L_law_27 rfl ?_
    refine g_isub (pc := 29) (v := 0) dc_L_law_29 (by decide) ?_
    refine g_icmp_gt (pc := 30) (tgt := 879) dc_L_law_30 rfl (fun hc => absurd hc (by decide)) (fun _ => ?_)
    refine g_xload_n (pc := 33) dc_L_law_33 rfl ?_
    refine g_iload (pc := 34) dc_L_law_34 rfl ?_
    refine g_scriptLoadV (pc := 36) dc_L_law_36 (by rw [hL]; exact am_vin rfl) rfl ?_
    refine g_bipush (pc := 37) (v := 31) dc_L_law_37 rfl ?_
    obtain ⟨j, hj1, hj⟩ := am_and31 (X.2.2.2.2.2.2 (Int32.toNatClampNeg 0))
    refine g_iand (pc := 39) (v := nI j) dc_L_law_39 hj ?_
    rcases (by omega : j = 0 ∨ j = 1 ∨ j = 2 ∨ j = 3 ∨ j = 4 ∨ j = 5 ∨ j = 6 ∨ j = 7 ∨ j = 8 ∨ j = 9 ∨ j = 10 ∨ j = 11 ∨ j = 12 ∨ j = 13 ∨ j = 14 ∨ j = 15 ∨ j = 16 ∨ j = 17 ∨ j = 18 ∨ j = 19 ∨ j = 20 ∨ j = 21 ∨ j = 22 ∨ j = 23 ∨ j = 24 ∨ j = 25 ∨ j = 26 ∨ j = 27 ∨ j = 28 ∨ j = 29 ∨ j = 30 ∨ j = 31) with rfl | rfl | rfl | rfl | rfl | rfl | rfl | rfl | rfl | rfl | rfl | rfl | rfl | rfl | rfl | rfl | rfl | rfl | rfl | rfl | rfl | rfl | rfl | rfl | rfl | rfl | rfl | rfl | rfl | rfl | rfl | rfl
    · exact g_tableIn (pc := 40) (off := 128) (tgt := 168) dc_L_law_40 (by decide) (by decide) rfl rfl (p1_0 hl9 hL rfl rfl rfl rfl rfl rfl)
    · exact g_tableIn (pc := 40) (off := 212) (tgt := 252) dc_L_law_40 (by decide) (by decide) rfl rfl (p1_1 hl9 hL rfl rfl rfl rfl rfl rfl)
    · exact g_tableIn (pc := 40) (off := 268) (tgt := 308) dc_L_law_40 (by decide) (by decide) rfl rfl (p1_2 hl9 hL rfl rfl rfl rfl rfl rfl)
    · exact g_tableIn (pc := 40) (off := 281) (tgt := 321) dc_L_law_40 (by decide) (by decide) rfl rfl (p1_3 hl9 hL rfl rfl rfl rfl rfl rfl)
    · exact g_tableIn (pc := 40) (off := 306) (tgt := 346) dc_L_law_40 (by decide) (by decide) rfl rfl (p1_4 hl9 hL rfl rfl rfl rfl rfl rfl)
    · exact g_tableIn (pc := 40) (off := 319) (tgt := 359) dc_L_law_40 (by decide) (by decide) rfl rfl (p1_5 hl9 hL rfl rfl rfl rfl rfl rfl)
    · exact g_tableIn (pc := 40) (off := 332) (tgt := 372) dc_L_law_40 (by decide) (by decide) rfl rfl (p1_6 hl9 hL rfl rfl rfl rfl rfl rfl)
    · exact g_tableIn (pc := 40) (off := 345) (tgt := 385) dc_L_law_40 (by decide) (by decide) rfl rfl (p1_7 hl9 hL rfl rfl rfl rfl rfl rfl)
    · exact g_tableIn (pc := 40) (off := 370) (tgt := 410) dc_L_law_40 (by decide) (by decide) rfl rfl (p1_8 hl9 hL rfl rfl rfl rfl rfl rfl)
    · exact g_tableIn (pc := 40) (off := 407) (tgt := 447) dc_L_law_40 (by decide) (by decide) rfl rfl (p1_9 hl9 hL rfl rfl rfl rfl rfl rfl)
    · exact g_tableIn (pc := 40) (off := 420) (tgt := 460) dc_L_law_40 (by decide) (by decide) rfl rfl (p1_10 hl9 hL rfl rfl rfl rfl rfl rfl)
    · exact g_tableIn (pc := 40) (off := 431) (tgt := 471) dc_L_law_40 (by decide) (by decide) rfl rfl (p1_11 hl9 hL rfl rfl rfl rfl rfl rfl)
    · exact g_tableIn (pc := 40) (off := 444) (tgt := 484) dc_L_law_40 (by decide) (by decide) rfl rfl (p1_12 hl9 hL rfl rfl rfl rfl rfl rfl)
    · exact g_tableIn (pc := 40) (off := 457) (tgt := 497) dc_L_law_40 (by decide) (by decide) rfl rfl (p1_13 hl9 hL rfl rfl rfl rfl rfl rfl)
    · exact g_tableIn (pc := 40) (off := 482) (tgt := 522) dc_L_law_40 (by decide) (by decide) rfl rfl (p1_14 hl9 hL rfl rfl rfl rfl rfl rfl)
    · exact g_tableIn (pc := 40) (off := 495) (tgt := 535) dc_L_law_40 (by decide) (by decide) rfl rfl (p1_15 hl9 hL rfl rfl rfl rfl rfl rfl)
    · exact g_tableIn (pc := 40) (off := 508) (tgt := 548) dc_L_law_40 (by decide) (by decide) rfl rfl (p1_16 hl9 hL rfl rfl rfl rfl rfl rfl)
    · exact g_tableIn (pc := 40) (off := 533) (tgt := 573) dc_L_law_40 (by decide) (by decide) rfl rfl (p1_17 hl9 hL rfl rfl rfl rfl rfl rfl)
    · exact g_tableIn (pc := 40) (off := 570) (tgt := 610) dc_L_law_40 (by decide) (by decide) rfl rfl (p1_18 hl9 hL rfl rfl rfl rfl rfl rfl)
    · exact g_tableIn (pc := 40) (off := 607) (tgt := 647) dc_L_law_40 (by decide) (by decide) rfl rfl (p1_19 hl9 hL rfl rfl rfl rfl rfl rfl)
    · exact g_tableIn (pc := 40) (off := 632) (tgt := 672) dc_L_law_40 (by decide) (by decide) rfl rfl (p1_20 hl9 hL rfl rfl rfl rfl rfl rfl)
    · exact g_tableIn (pc := 40) (off := 657) (tgt := 697) dc_L_law_40 (by decide) (by decide) rfl rfl (p1_21 hl9 hL rfl rfl rfl rfl rfl rfl)
    · exact g_tableIn (pc := 40) (off := 694) (tgt := 734) dc_L_law_40 (by decide) (by decide) rfl rfl (p1_22 hl9 hL rfl rfl rfl rfl rfl rfl)
    · exact g_tableIn (pc := 40) (off := 719) (tgt := 759) dc_L_law_40 (by decide) (by decide) rfl rfl (p1_23 hl9 hL rfl rfl rfl rfl rfl rfl)
    · exact g_tableIn (pc := 40) (off := 744) (tgt := 784) dc_L_law_40 (by decide) (by decide) rfl rfl (p1_24 hl9 hL rfl rfl rfl rfl rfl rfl)
    · exact g_tableIn (pc := 40) (off := 769) (tgt := 809) dc_L_law_40 (by decide) (by decide) rfl rfl (p1_25 hl9 hL rfl rfl rfl rfl rfl rfl)
    · exact g_tableIn (pc := 40) (off := 795) (tgt := 835) dc_L_law_40 (by decide) (by decide) rfl rfl (p1_26 hl9 hL rfl rfl rfl rfl rfl rfl)
    · exact g_tableIn (pc := 40) (off := 808) (tgt := 848) dc_L_law_40 (by decide) (by decide) rfl rfl (p1_27 hl9 hL rfl rfl rfl rfl rfl rfl)
    · exact g_tableOut (pc := 40) (tgt := 873) dc_L_law_40 (by decide) rfl (p1_28 hl9 hL rfl rfl rfl rfl rfl rfl)
    · exact g_tableOut (pc := 40) (tgt := 873) dc_L_law_40 (by decide) rfl (p1_28 hl9 hL rfl rfl rfl rfl rfl rfl)
    · exact g_tableOut (pc := 40) (tgt := 873) dc_L_law_40 (by decide) rfl (p1_28 hl9 hL rfl rfl rfl rfl rfl rfl)
    · exact g_tableOut (pc := 40) (tgt := 873) dc_L_law_40 (by decide) rfl (p1_28 hl9 hL rfl rfl rfl rfl rfl rfl)
