/-! ===== the law ===== -/
def kz (i : Nat) : Nat := if i = 27 then 137216 else if gwl i = true then kb i else 0
theorem tos_le {c c2 : Nat → Nat} : ∀ n, (∀ i, i < n → c i ≤ c2 i) → tos c n ≤ tos c2 n
  | 0, _ => Nat.le_refl _
  | n + 1, h => by
    have h1 := tos_le n (fun i hi => h i (by omega))
    have h2 := h n (by omega)
    show tos c n + c n ≤ tos c2 n + c2 n
    omega
theorem kz_s : tos kz 400 ≤ 2958752 := Nat.le_of_ble_eq_true (by decide +kernel)
theorem inv_end {j : Nat} {h : List va_E} (hI : INV j h) (hj : j ≤ 512) : h.length ≤ 601024 ∧ am_sl h ≤ 7293034 := by
  obtain ⟨w, A, S, B, T, Y, U, L, D, P, Rs, Rt, sett, Sd, st9, lim, q, K0, pn, H, -, -, -, hp, hr⟩ := hI
  have h27 := hp.2.2.2.2.2.2.2.1
  have ht : tos w.2 400 ≤ tos kz 400 := tos_le 400 (fun i _ => by
    unfold kz
    by_cases e : i = 27
    · rw [if_pos e, e]; omega
    · rw [if_neg e]
      have h9 := hr.2.2 i e
      rcases h9.2 with e2 | e2
      · rw [e2]; exact Nat.zero_le _
      · rw [if_pos e2]; exact h9.1)
  have hk := kz_s
  have h1 := hr.1
  have h2 := hr.2.1
  rw [sl_0] at h1
  have h3 : hp_0.length = 136 := rfl
  rw [h3] at h2
  exact ⟨by omega, by omega⟩
theorem inv_nx {j : Nat} {h : List va_E} (hI : INV j h) : INV (j + 1) h := by
  obtain ⟨w, A, S, B, T, Y, U, L, D, P, Rs, Rt, sett, Sd, st9, lim, q, K0, pn, H, a1, a2, a3, hp, hr⟩ := hI
  exact ⟨w, A, S, B, T, Y, U, L, D, P, Rs, Rt, sett, Sd, st9, lim, q, K0, pn, H, a1, a2, a3, hp.nx rfl rfl, hr⟩
theorem law_loop {X : am_X} (hl9 : X.1.stackTraces = false) (hN : X.2.2.2.2.2.1 ≤ 3072) : ∀ (n j : Nat) (h : List va_E), X.2.2.2.2.2.1 < 6 * j + 6 * n + 6 → 6 * j ≤ X.2.2.2.2.2.1 → INV j h → am_G X mt_L_law 60 23 (LO j) [] h (fun r h => r = some (.int 1) ∧ h.length ≤ 601024 ∧ am_sl h ≤ 7293034) := by
  intro n
  induction n with
  | zero =>
    intro j h hlt hle hI
    have he := inv_end hI (by omega)
    have hls : (nI X.2.2.2.2.2.1 - nI 6).toInt = ((X.2.2.2.2.2.1 : Nat) : Int) - (6 : Nat) := pk_sub_toInt (by omega) (by omega)
    have hav : (nI (6 * j)).toInt = ((6 * j : Nat) : Int) := nI_toInt (by omega)
    refine g_iload (pc := 23) dc_L_law_23 rfl ?_
    refine g_xload_n (pc := 25) dc_L_law_25 rfl ?_
    refine g_scriptLenV (pc := 26) (v := nI X.2.2.2.2.2.1) dc_L_law_26 rfl rfl ?_
    refine g_bipush (pc := 27) (v := 6) dc_L_law_27 rfl ?_
    refine g_isub (pc := 29) (v := nI X.2.2.2.2.2.1 - nI 6) dc_L_law_29 rfl ?_
    refine g_icmp_gt (pc := 30) (tgt := 879) dc_L_law_30 rfl (fun _ => ?_) (fun hc => absurd (Int32.lt_iff_toInt_lt.mpr (by rw [hls, hav]; omega)) hc)
    refine g_iconst (pc := 879) (v := 1) dc_L_law_879 rfl ?_
    exact g_zreturn dc_L_law_880 rfl rfl ⟨rfl, he⟩
  | succ n ih =>
    intro j h hlt hle hI
    have hls : (nI X.2.2.2.2.2.1 - nI 6).toInt = ((X.2.2.2.2.2.1 : Nat) : Int) - (6 : Nat) := pk_sub_toInt (by omega) (by omega)
    have hav : (nI (6 * j)).toInt = ((6 * j : Nat) : Int) := nI_toInt (by omega)
    refine g_iload (pc := 23) dc_L_law_23 rfl ?_
    refine g_xload_n (pc := 25) dc_L_law_25 rfl ?_
    refine g_scriptLenV (pc := 26) (v := nI X.2.2.2.2.2.1) dc_L_law_26 rfl rfl ?_
    refine g_bipush (pc := 27) (v := 6) dc_L_law_27 rfl ?_
    refine g_isub (pc := 29) (v := nI X.2.2.2.2.2.1 - nI 6) dc_L_law_29 rfl ?_
    refine g_icmp_gt (pc := 30) (tgt := 879) dc_L_law_30 rfl (fun hc => ?_) (fun hc => ?_)
    · have he := inv_end hI (by omega)
      refine g_iconst (pc := 879) (v := 1) dc_L_law_879 rfl ?_
      exact g_zreturn dc_L_law_880 rfl rfl ⟨rfl, he⟩
    · have hk : 6 * j + 6 ≤ X.2.2.2.2.2.1 := by
        refine Classical.byContradiction (fun h9 => hc (Int32.lt_iff_toInt_lt.mpr ?_))
        rw [hls, hav]
        omega
      have hj : j < 512 := by omega
      have KK : ∀ h1, INV (j + 1) h1 → am_G X mt_L_law 60 873 (LO j) [] h1 (fun r h => r = some (.int 1) ∧ h.length ≤ 601024 ∧ am_sl h ≤ 7293034) := fun h1 hI1 => by
        refine g_iinc (pc := 873) (v := nI (6 * (j + 1))) dc_L_law_873 rfl ((nI_add (6 * j) 6).trans (congrArg nI (by omega))) (by decide) ?_
        refine g_goto (pc := 876) (tgt := 23) dc_L_law_876 rfl ?_
        exact ih (j + 1) h1 (by omega) (by omega) hI1
      obtain ⟨p0, e0⟩ : ∃ p, X.2.2.2.2.2.2 (6 * j) = p := ⟨_, rfl⟩
      refine g_xload_n (pc := 33) dc_L_law_33 rfl ?_
      refine g_iload (pc := 34) dc_L_law_34 rfl ?_
      refine g_scr (pc := 36) (6 * j) dc_L_law_36 (by omega) hN e0 ?_
      refine g_bipush (pc := 37) (v := 31) dc_L_law_37 rfl ?_
      obtain ⟨t, ht, et⟩ := am_and31 p0
      refine g_iand (pc := 39) (v := nI t) dc_L_law_39 et ?_
      rcases (by omega : t = 0 ∨ t = 1 ∨ t = 2 ∨ t = 3 ∨ t = 4 ∨ t = 5 ∨ t = 6 ∨ t = 7 ∨ t = 8 ∨ t = 9 ∨ t = 10 ∨ t = 11 ∨ t = 12 ∨ t = 13 ∨ t = 14 ∨ t = 15 ∨ t = 16 ∨ t = 17 ∨ t = 18 ∨ t = 19 ∨ t = 20 ∨ t = 21 ∨ t = 22 ∨ t = 23 ∨ t = 24 ∨ t = 25 ∨ t = 26 ∨ t = 27 ∨ 28 ≤ t) with rfl | rfl | rfl | rfl | rfl | rfl | rfl | rfl | rfl | rfl | rfl | rfl | rfl | rfl | rfl | rfl | rfl | rfl | rfl | rfl | rfl | rfl | rfl | rfl | rfl | rfl | rfl | rfl | h28
      · refine g_tableIn (pc := 40) (off := 128) (tgt := 168) dc_L_law_40 (by decide) (by decide) rfl rfl ?_
        exact op_0 hl9 hj hk hN hI KK
      · refine g_tableIn (pc := 40) (off := 212) (tgt := 252) dc_L_law_40 (by decide) (by decide) rfl rfl ?_
        exact op_1 hl9 hj hk hN hI KK
      · refine g_tableIn (pc := 40) (off := 268) (tgt := 308) dc_L_law_40 (by decide) (by decide) rfl rfl ?_
        exact op_2 hl9 hj hk hN hI KK
      · refine g_tableIn (pc := 40) (off := 281) (tgt := 321) dc_L_law_40 (by decide) (by decide) rfl rfl ?_
        exact op_3 hl9 hj hk hN hI KK
      · refine g_tableIn (pc := 40) (off := 306) (tgt := 346) dc_L_law_40 (by decide) (by decide) rfl rfl ?_
        exact op_4 hl9 hj hk hN hI KK
      · refine g_tableIn (pc := 40) (off := 319) (tgt := 359) dc_L_law_40 (by decide) (by decide) rfl rfl ?_
        exact op_5 hl9 hj hk hN hI KK
      · refine g_tableIn (pc := 40) (off := 332) (tgt := 372) dc_L_law_40 (by decide) (by decide) rfl rfl ?_
        exact op_6 hl9 hj hk hN hI KK
      · refine g_tableIn (pc := 40) (off := 345) (tgt := 385) dc_L_law_40 (by decide) (by decide) rfl rfl ?_
        exact op_7 hl9 hj hk hN hI KK
      · refine g_tableIn (pc := 40) (off := 370) (tgt := 410) dc_L_law_40 (by decide) (by decide) rfl rfl ?_
        exact op_8 hl9 hj hk hN hI KK
      · refine g_tableIn (pc := 40) (off := 407) (tgt := 447) dc_L_law_40 (by decide) (by decide) rfl rfl ?_
        exact op_9 hl9 hj hk hN hI KK
      · refine g_tableIn (pc := 40) (off := 420) (tgt := 460) dc_L_law_40 (by decide) (by decide) rfl rfl ?_
        exact op_10 hl9 hj hk hN hI KK
      · refine g_tableIn (pc := 40) (off := 431) (tgt := 471) dc_L_law_40 (by decide) (by decide) rfl rfl ?_
        exact op_11 hl9 hj hk hN hI KK
      · refine g_tableIn (pc := 40) (off := 444) (tgt := 484) dc_L_law_40 (by decide) (by decide) rfl rfl ?_
        exact op_12 hl9 hj hk hN hI KK
      · refine g_tableIn (pc := 40) (off := 457) (tgt := 497) dc_L_law_40 (by decide) (by decide) rfl rfl ?_
        exact op_13 hl9 hj hk hN hI KK
      · refine g_tableIn (pc := 40) (off := 482) (tgt := 522) dc_L_law_40 (by decide) (by decide) rfl rfl ?_
        exact op_14 hl9 hj hk hN hI KK
      · refine g_tableIn (pc := 40) (off := 495) (tgt := 535) dc_L_law_40 (by decide) (by decide) rfl rfl ?_
        exact op_15 hl9 hj hk hN hI KK
      · refine g_tableIn (pc := 40) (off := 508) (tgt := 548) dc_L_law_40 (by decide) (by decide) rfl rfl ?_
        exact op_16 hl9 hj hk hN hI KK
      · refine g_tableIn (pc := 40) (off := 533) (tgt := 573) dc_L_law_40 (by decide) (by decide) rfl rfl ?_
        exact op_17 hl9 hj hk hN hI KK
      · refine g_tableIn (pc := 40) (off := 570) (tgt := 610) dc_L_law_40 (by decide) (by decide) rfl rfl ?_
        exact op_18 hl9 hj hk hN hI KK
      · refine g_tableIn (pc := 40) (off := 607) (tgt := 647) dc_L_law_40 (by decide) (by decide) rfl rfl ?_
        exact op_19 hl9 hj hk hN hI KK
      · refine g_tableIn (pc := 40) (off := 632) (tgt := 672) dc_L_law_40 (by decide) (by decide) rfl rfl ?_
        exact op_20 hl9 hj hk hN hI KK
      · refine g_tableIn (pc := 40) (off := 657) (tgt := 697) dc_L_law_40 (by decide) (by decide) rfl rfl ?_
        exact op_21 hl9 hj hk hN hI KK
      · refine g_tableIn (pc := 40) (off := 694) (tgt := 734) dc_L_law_40 (by decide) (by decide) rfl rfl ?_
        exact op_22 hl9 hj hk hN hI KK
      · refine g_tableIn (pc := 40) (off := 719) (tgt := 759) dc_L_law_40 (by decide) (by decide) rfl rfl ?_
        exact op_23 hl9 hj hk hN hI KK
      · refine g_tableIn (pc := 40) (off := 744) (tgt := 784) dc_L_law_40 (by decide) (by decide) rfl rfl ?_
        exact op_24 hl9 hj hk hN hI KK
      · refine g_tableIn (pc := 40) (off := 769) (tgt := 809) dc_L_law_40 (by decide) (by decide) rfl rfl ?_
        exact op_25 hl9 hj hk hN hI KK
      · refine g_tableIn (pc := 40) (off := 795) (tgt := 835) dc_L_law_40 (by decide) (by decide) rfl rfl ?_
        exact op_26 hl9 hj hk hN hI KK
      · refine g_tableIn (pc := 40) (off := 808) (tgt := 848) dc_L_law_40 (by decide) (by decide) rfl rfl ?_
        exact op_27 hl9 hj hk hN hI KK
      · refine g_tableOut (pc := 40) (tgt := 873) dc_L_law_40 (Or.inr (by rw [nI_toInt (by omega)]; omega)) rfl ?_
        exact KK h (inv_nx hI)
theorem wh_law {X : am_X} (hl9 : X.1.stackTraces = false) (hN : X.2.2.2.2.2.1 ≤ 3072) : am_C X mt_L_law 60 [.retAddr 300] [] (fun r h => r = some (.int 1) ∧ h.length ≤ 601024 ∧ am_sl h ≤ 7293034) := am_open (law_loop hl9 hN 512 0 hp_0 (by omega) (Nat.zero_le _) inv_0)
