/-! ===== calls that only ask ===== -/
theorem op_26 {X : am_X} {Q : Option Value → List va_E → Prop} {j : Nat} {h : List va_E} (hl9 : X.1.stackTraces = false) (hj : j < 512) (hk : 6 * j + 6 ≤ X.2.2.2.2.2.1) (hN : X.2.2.2.2.2.1 ≤ 3072) (hI : INV j h) (KK : ∀ h1, INV (j + 1) h1 → am_G X mt_L_law 60 873 (LO j) [] h1 Q) : am_G X mt_L_law 60 835 (LO j) [] h Q := by
  obtain ⟨w, A, S, B, T, Y, U, L, D, P, Rs, Rt, sett, Sd, st9, lim, q, K0, pn, H, ⟨hA, rfl, ho⟩, ⟨c1, c2, c3, c4, c5⟩, ⟨m1, m2, m3, m4, hM⟩, hp, hr⟩ := hI
  have hb := hp.bd hj
  have hL8 := m1.1.2.2.1
  have hqe := hp.qe
  have hqw := hp.qw
  show am_G X mt_L_law 60 835 [some (.retAddr 300), some (.ref 0), some (.ref 84), some (.ref 135), some (.int (nI (6 * j))), none, none] [] (mput A S B) Q
  refine g_aload_n (pc := 835) dc_L_law_835 rfl ?_
  refine g_v0 (pc := 836) (M' := mt_W_made) dc_L_law_836 mo_W_made im_W_made se_W_made ln_L_139 c1.1.1 rfl rfl (Nat.le_of_ble_eq_true rfl) (Nat.le_of_ble_eq_true rfl) (am_G.mono (c_W_made (d := 59) c1.1 c1.2.2.1) ?_)
  intro r h1 hq
  rw [hq.1, hq.2]
  clear hq h1 r
  refine ⟨am_nti _, ?_⟩
  refine g_aload_n (pc := 839) dc_L_law_839 rfl ?_
  refine g_v0 (pc := 840) (M' := mt_M_made) dc_L_law_840 mo_M_made im_M_made se_M_made ln_L_142 (mp_o hA) rfl rfl (Nat.le_of_ble_eq_true rfl) (Nat.le_of_ble_eq_true rfl) (am_G.mono (c_M_made (d := 59) hA m1.2) ?_)
  intro r h1 hq
  rw [hq.1, hq.2]
  clear hq h1 r
  refine ⟨am_nti _, ?_⟩
  refine g_icmp_eq (pc := 843) (tgt := 873) dc_L_law_843 rfl (fun hc843 => ?_) (fun hc => absurd hc (fun h9 => h9 rfl))
  exact KK _ (inv_s hA ho c1 c2 c3 c4 c5 m1 m2 m3 m4 hM hp hr ((mA.rf S).a_fault _ (by decide) : mA [2] S (S.s_fault 0)) (by decide))
theorem op_27 {X : am_X} {Q : Option Value → List va_E → Prop} {j : Nat} {h : List va_E} (hl9 : X.1.stackTraces = false) (hj : j < 512) (hk : 6 * j + 6 ≤ X.2.2.2.2.2.1) (hN : X.2.2.2.2.2.1 ≤ 3072) (hI : INV j h) (KK : ∀ h1, INV (j + 1) h1 → am_G X mt_L_law 60 873 (LO j) [] h1 Q) : am_G X mt_L_law 60 848 (LO j) [] h Q := by
  obtain ⟨w, A, S, B, T, Y, U, L, D, P, Rs, Rt, sett, Sd, st9, lim, q, K0, pn, H, ⟨hA, rfl, ho⟩, ⟨c1, c2, c3, c4, c5⟩, ⟨m1, m2, m3, m4, hM⟩, hp, hr⟩ := hI
  have hb := hp.bd hj
  have hL8 := m1.1.2.2.1
  have hqe := hp.qe
  have hqw := hp.qw
  obtain ⟨p1, e1⟩ : ∃ p, X.2.2.2.2.2.2 (6 * j + 1) = p := ⟨_, rfl⟩
  show am_G X mt_L_law 60 848 [some (.retAddr 300), some (.ref 0), some (.ref 84), some (.ref 135), some (.int (nI (6 * j))), none, none] [] (mput A S B) Q
  refine g_aload_n (pc := 848) dc_L_law_848 rfl ?_
  refine g_xload_n (pc := 849) dc_L_law_849 rfl ?_
  refine g_iload (pc := 850) dc_L_law_850 rfl ?_
  refine g_iconst (pc := 852) (v := 1) dc_L_law_852 rfl ?_
  refine g_iadd (pc := 853) (v := (nI (6 * j + 1))) dc_L_law_853 (nI_add (6 * j) 1) ?_
  refine g_scr (pc := 854) (6 * j + 1) dc_L_law_854 (by omega) hN e1 ?_
  refine g_v1 (pc := 855) (M' := mt_W_out) dc_L_law_855 mo_W_out im_W_out se_W_out ln_L_143 c1.1.1 rfl rfl (Nat.le_of_ble_eq_true rfl) (Nat.le_of_ble_eq_true rfl) (am_G.mono (c_W_out (d := 59) c1.1 c1.2.2.1) ?_)
  intro r h1 hq
  rw [hq.1, hq.2]
  clear hq h1 r
  refine ⟨am_nti _, ?_⟩
  refine g_aload_n (pc := 858) dc_L_law_858 rfl ?_
  refine g_xload_n (pc := 859) dc_L_law_859 rfl ?_
  refine g_iload (pc := 860) dc_L_law_860 rfl ?_
  refine g_iconst (pc := 862) (v := 1) dc_L_law_862 rfl ?_
  refine g_iadd (pc := 863) (v := (nI (6 * j + 1))) dc_L_law_863 (nI_add (6 * j) 1) ?_
  refine g_scr (pc := 864) (6 * j + 1) dc_L_law_864 (by omega) hN e1 ?_
  refine g_v1 (pc := 865) (M' := mt_M_out) dc_L_law_865 mo_M_out im_M_out se_M_out ln_L_146 (mp_o hA) rfl rfl (Nat.le_of_ble_eq_true rfl) (Nat.le_of_ble_eq_true rfl) (am_G.mono (c_M_out (d := 59) hA m1.2) ?_)
  intro r h1 hq
  rw [hq.1, hq.2]
  clear hq h1 r
  refine ⟨am_nti _, ?_⟩
  refine g_icmp_eq (pc := 868) (tgt := 873) dc_L_law_868 rfl (fun hc868 => ?_) (fun hc => absurd hc (fun h9 => h9 rfl))
  exact KK _ (inv_s hA ho c1 c2 c3 c4 c5 m1 m2 m3 m4 hM hp hr ((mA.rf S).a_fault _ (by decide) : mA [2] S (S.s_fault 0)) (by decide))
theorem op_15 {X : am_X} {Q : Option Value → List va_E → Prop} {j : Nat} {h : List va_E} (hl9 : X.1.stackTraces = false) (hj : j < 512) (hk : 6 * j + 6 ≤ X.2.2.2.2.2.1) (hN : X.2.2.2.2.2.1 ≤ 3072) (hI : INV j h) (KK : ∀ h1, INV (j + 1) h1 → am_G X mt_L_law 60 873 (LO j) [] h1 Q) : am_G X mt_L_law 60 535 (LO j) [] h Q := by
  obtain ⟨w, A, S, B, T, Y, U, L, D, P, Rs, Rt, sett, Sd, st9, lim, q, K0, pn, H, ⟨hA, rfl, ho⟩, ⟨c1, c2, c3, c4, c5⟩, ⟨m1, m2, m3, m4, hM⟩, hp, hr⟩ := hI
  have hb := hp.bd hj
  have hL8 := m1.1.2.2.1
  have hqe := hp.qe
  have hqw := hp.qw
  have ev : (if st9 = true then nI (qC st9 q).2.1.ck else -1) = (if S.isStarted = true then nI q.2.1.ck else -1) := by rw [m3.1]; cases st9 <;> rfl
  show am_G X mt_L_law 60 535 [some (.retAddr 300), some (.ref 0), some (.ref 84), some (.ref 135), some (.int (nI (6 * j))), none, none] [] (mput A S B) Q
  refine g_aload_n (pc := 535) dc_L_law_535 rfl ?_
  refine g_v0 (pc := 536) (M' := mt_W_clock) dc_L_law_536 mo_W_clock im_W_clock se_W_clock ln_L_93 c1.1.1 rfl rfl (Nat.le_of_ble_eq_true rfl) (Nat.le_of_ble_eq_true rfl) (am_G.mono (c_W_clock (d := 59) c1.1 c3.1) ?_)
  intro r h1 hq
  rw [hq.1, hq.2, ev]
  clear hq h1 r
  refine ⟨am_nti _, ?_⟩
  refine g_aload_n (pc := 539) dc_L_law_539 rfl ?_
  refine g_v0 (pc := 540) (M' := mt_M_clock) dc_L_law_540 mo_M_clock im_M_clock se_M_clock ln_L_96 (mp_o hA) rfl rfl (Nat.le_of_ble_eq_true rfl) (Nat.le_of_ble_eq_true rfl) (am_G.mono (c_M_clock (d := 59) hA m3.2.2.2.1.1) ?_)
  intro r h1 hq
  rw [hq.1, hq.2]
  clear hq h1 r
  refine ⟨am_nti _, ?_⟩
  refine g_icmp_eq (pc := 543) (tgt := 873) dc_L_law_543 rfl (fun hc543 => ?_) (fun hc => absurd hc (fun h9 => h9 rfl))
  exact KK _ (inv_s hA ho c1 c2 c3 c4 c5 m1 m2 m3 m4 hM hp hr ((mA.rf S).a_fault _ (by decide) : mA [2] S (S.s_fault 0)) (by decide))
theorem op_16 {X : am_X} {Q : Option Value → List va_E → Prop} {j : Nat} {h : List va_E} (hl9 : X.1.stackTraces = false) (hj : j < 512) (hk : 6 * j + 6 ≤ X.2.2.2.2.2.1) (hN : X.2.2.2.2.2.1 ≤ 3072) (hI : INV j h) (KK : ∀ h1, INV (j + 1) h1 → am_G X mt_L_law 60 873 (LO j) [] h1 Q) : am_G X mt_L_law 60 548 (LO j) [] h Q := by
  obtain ⟨w, A, S, B, T, Y, U, L, D, P, Rs, Rt, sett, Sd, st9, lim, q, K0, pn, H, ⟨hA, rfl, ho⟩, ⟨c1, c2, c3, c4, c5⟩, ⟨m1, m2, m3, m4, hM⟩, hp, hr⟩ := hI
  have hb := hp.bd hj
  have hL8 := m1.1.2.2.1
  have hqe := hp.qe
  have hqw := hp.qw
  obtain ⟨p1, e1⟩ : ∃ p, X.2.2.2.2.2.2 (6 * j + 1) = p := ⟨_, rfl⟩
  show am_G X mt_L_law 60 548 [some (.retAddr 300), some (.ref 0), some (.ref 84), some (.ref 135), some (.int (nI (6 * j))), none, none] [] (mput A S B) Q
  refine g_aload_n (pc := 548) dc_L_law_548 rfl ?_
  refine g_xload_n (pc := 549) dc_L_law_549 rfl ?_
  refine g_iload (pc := 550) dc_L_law_550 rfl ?_
  refine g_iconst (pc := 552) (v := 1) dc_L_law_552 rfl ?_
  refine g_iadd (pc := 553) (v := (nI (6 * j + 1))) dc_L_law_553 (nI_add (6 * j) 1) ?_
  refine g_scr (pc := 554) (6 * j + 1) dc_L_law_554 (by omega) hN e1 ?_
  refine g_v1 (pc := 555) (M' := mt_W_count) dc_L_law_555 mo_W_count im_W_count se_W_count ln_L_97 c1.1.1 rfl rfl (Nat.le_of_ble_eq_true rfl) (Nat.le_of_ble_eq_true rfl) (am_G.mono (c_W_count (d := 57) c1.1 c3.1 (by rw [hqe.1]; exact hqw.1) c2.1.1 c2.2.2) ?_)
  intro r h1 hq
  rw [hq.1, hq.2, hqe.1, hqe.2.1]
  clear hq h1 r
  refine ⟨am_nti _, ?_⟩
  refine g_aload_n (pc := 558) dc_L_law_558 rfl ?_
  refine g_xload_n (pc := 559) dc_L_law_559 rfl ?_
  refine g_iload (pc := 560) dc_L_law_560 rfl ?_
  refine g_iconst (pc := 562) (v := 1) dc_L_law_562 rfl ?_
  refine g_iadd (pc := 563) (v := (nI (6 * j + 1))) dc_L_law_563 (nI_add (6 * j) 1) ?_
  refine g_scr (pc := 564) (6 * j + 1) dc_L_law_564 (by omega) hN e1 ?_
  refine g_v1 (pc := 565) (M' := mt_M_count) dc_L_law_565 mo_M_count im_M_count se_M_count ln_L_100 (mp_o hA) rfl rfl (Nat.le_of_ble_eq_true rfl) (Nat.le_of_ble_eq_true rfl) (am_G.mono (c_M_count (d := 58) hA m2.1.1 m2.2.2.2.1 m3.2.2.1 hqw.1 m3.2.2.2.1.2.1) ?_)
  intro r h1 hq
  rw [hq.1, hq.2]
  clear hq h1 r
  refine ⟨am_nti _, ?_⟩
  refine g_icmp_eq (pc := 568) (tgt := 873) dc_L_law_568 rfl (fun hc568 => ?_) (fun hc => absurd hc (fun h9 => h9 rfl))
  exact KK _ (inv_s hA ho c1 c2 c3 c4 c5 m1 m2 m3 m4 hM hp hr ((mA.rf S).a_fault _ (by decide) : mA [2] S (S.s_fault 0)) (by decide))
theorem op_17 {X : am_X} {Q : Option Value → List va_E → Prop} {j : Nat} {h : List va_E} (hl9 : X.1.stackTraces = false) (hj : j < 512) (hk : 6 * j + 6 ≤ X.2.2.2.2.2.1) (hN : X.2.2.2.2.2.1 ≤ 3072) (hI : INV j h) (KK : ∀ h1, INV (j + 1) h1 → am_G X mt_L_law 60 873 (LO j) [] h1 Q) : am_G X mt_L_law 60 573 (LO j) [] h Q := by
  obtain ⟨w, A, S, B, T, Y, U, L, D, P, Rs, Rt, sett, Sd, st9, lim, q, K0, pn, H, ⟨hA, rfl, ho⟩, ⟨c1, c2, c3, c4, c5⟩, ⟨m1, m2, m3, m4, hM⟩, hp, hr⟩ := hI
  have hb := hp.bd hj
  have hL8 := m1.1.2.2.1
  have hqe := hp.qe
  have hqw := hp.qw
  obtain ⟨p1, e1⟩ : ∃ p, X.2.2.2.2.2.2 (6 * j + 1) = p := ⟨_, rfl⟩
  obtain ⟨p2, e2⟩ : ∃ p, X.2.2.2.2.2.2 (6 * j + 2) = p := ⟨_, rfl⟩
  show am_G X mt_L_law 60 573 [some (.retAddr 300), some (.ref 0), some (.ref 84), some (.ref 135), some (.int (nI (6 * j))), none, none] [] (mput A S B) Q
  refine g_aload_n (pc := 573) dc_L_law_573 rfl ?_
  refine g_xload_n (pc := 574) dc_L_law_574 rfl ?_
  refine g_iload (pc := 575) dc_L_law_575 rfl ?_
  refine g_iconst (pc := 577) (v := 1) dc_L_law_577 rfl ?_
  refine g_iadd (pc := 578) (v := (nI (6 * j + 1))) dc_L_law_578 (nI_add (6 * j) 1) ?_
  refine g_scr (pc := 579) (6 * j + 1) dc_L_law_579 (by omega) hN e1 ?_
  refine g_xload_n (pc := 580) dc_L_law_580 rfl ?_
  refine g_iload (pc := 581) dc_L_law_581 rfl ?_
  refine g_iconst (pc := 583) (v := 2) dc_L_law_583 rfl ?_
  refine g_iadd (pc := 584) (v := (nI (6 * j + 2))) dc_L_law_584 (nI_add (6 * j) 2) ?_
  refine g_scr (pc := 585) (6 * j + 2) dc_L_law_585 (by omega) hN e2 ?_
  refine g_v2 (pc := 586) (M' := mt_W_known) dc_L_law_586 mo_W_known im_W_known se_W_known ln_L_101 c1.1.1 rfl rfl (Nat.le_of_ble_eq_true rfl) (Nat.le_of_ble_eq_true rfl) (am_G.mono (c_W_known (d := 59) c1.1 c3.1 (by rw [hqe.1]; exact hqw.1)) ?_)
  intro r h1 hq
  rw [hq.1, hq.2, hqe.1]
  clear hq h1 r
  refine ⟨am_nti _, ?_⟩
  refine g_aload_n (pc := 589) dc_L_law_589 rfl ?_
  refine g_xload_n (pc := 590) dc_L_law_590 rfl ?_
  refine g_iload (pc := 591) dc_L_law_591 rfl ?_
  refine g_iconst (pc := 593) (v := 1) dc_L_law_593 rfl ?_
  refine g_iadd (pc := 594) (v := (nI (6 * j + 1))) dc_L_law_594 (nI_add (6 * j) 1) ?_
  refine g_scr (pc := 595) (6 * j + 1) dc_L_law_595 (by omega) hN e1 ?_
  refine g_xload_n (pc := 596) dc_L_law_596 rfl ?_
  refine g_iload (pc := 597) dc_L_law_597 rfl ?_
  refine g_iconst (pc := 599) (v := 2) dc_L_law_599 rfl ?_
  refine g_iadd (pc := 600) (v := (nI (6 * j + 2))) dc_L_law_600 (nI_add (6 * j) 2) ?_
  refine g_scr (pc := 601) (6 * j + 2) dc_L_law_601 (by omega) hN e2 ?_
  refine g_v2 (pc := 602) (M' := mt_M_known) dc_L_law_602 mo_M_known im_M_known se_M_known ln_L_105 (mp_o hA) rfl rfl (Nat.le_of_ble_eq_true rfl) (Nat.le_of_ble_eq_true rfl) (am_G.mono (c_M_known (d := 57) hA hM.1 m3.2.2.1 hqw.1) ?_)
  intro r h1 hq
  rw [hq.1, hq.2]
  clear hq h1 r
  refine ⟨am_nti _, ?_⟩
  refine g_icmp_eq (pc := 605) (tgt := 873) dc_L_law_605 rfl (fun hc605 => ?_) (fun hc => absurd hc (fun h9 => h9 rfl))
  exact KK _ (inv_s hA ho c1 c2 c3 c4 c5 m1 m2 m3 m4 hM hp hr ((mA.rf S).a_fault _ (by decide) : mA [2] S (S.s_fault 0)) (by decide))
theorem op_21 {X : am_X} {Q : Option Value → List va_E → Prop} {j : Nat} {h : List va_E} (hl9 : X.1.stackTraces = false) (hj : j < 512) (hk : 6 * j + 6 ≤ X.2.2.2.2.2.1) (hN : X.2.2.2.2.2.1 ≤ 3072) (hI : INV j h) (KK : ∀ h1, INV (j + 1) h1 → am_G X mt_L_law 60 873 (LO j) [] h1 Q) : am_G X mt_L_law 60 697 (LO j) [] h Q := by
  obtain ⟨w, A, S, B, T, Y, U, L, D, P, Rs, Rt, sett, Sd, st9, lim, q, K0, pn, H, ⟨hA, rfl, ho⟩, ⟨c1, c2, c3, c4, c5⟩, ⟨m1, m2, m3, m4, hM⟩, hp, hr⟩ := hI
  have hb := hp.bd hj
  have hL8 := m1.1.2.2.1
  have hqe := hp.qe
  have hqw := hp.qw
  obtain ⟨p1, e1⟩ : ∃ p, X.2.2.2.2.2.2 (6 * j + 1) = p := ⟨_, rfl⟩
  obtain ⟨p2, e2⟩ : ∃ p, X.2.2.2.2.2.2 (6 * j + 2) = p := ⟨_, rfl⟩
  show am_G X mt_L_law 60 697 [some (.retAddr 300), some (.ref 0), some (.ref 84), some (.ref 135), some (.int (nI (6 * j))), none, none] [] (mput A S B) Q
  refine g_aload_n (pc := 697) dc_L_law_697 rfl ?_
  refine g_xload_n (pc := 698) dc_L_law_698 rfl ?_
  refine g_iload (pc := 699) dc_L_law_699 rfl ?_
  refine g_iconst (pc := 701) (v := 1) dc_L_law_701 rfl ?_
  refine g_iadd (pc := 702) (v := (nI (6 * j + 1))) dc_L_law_702 (nI_add (6 * j) 1) ?_
  refine g_scr (pc := 703) (6 * j + 1) dc_L_law_703 (by omega) hN e1 ?_
  refine g_xload_n (pc := 704) dc_L_law_704 rfl ?_
  refine g_iload (pc := 705) dc_L_law_705 rfl ?_
  refine g_iconst (pc := 707) (v := 2) dc_L_law_707 rfl ?_
  refine g_iadd (pc := 708) (v := (nI (6 * j + 2))) dc_L_law_708 (nI_add (6 * j) 2) ?_
  refine g_scr (pc := 709) (6 * j + 2) dc_L_law_709 (by omega) hN e2 ?_
  refine g_v2 (pc := 710) (M' := mt_W_document) dc_L_law_710 mo_W_document im_W_document se_W_document ln_L_118 c1.1.1 rfl rfl (Nat.le_of_ble_eq_true rfl) (Nat.le_of_ble_eq_true rfl) (am_G.mono (c_W_document (d := 59) c1.1 hp.2.1.2.2.1 c4.1) ?_)
  intro r h1 hq
  rw [hq.1, hq.2]
  clear hq h1 r
  refine ⟨am_nti _, ?_⟩
  refine g_aload_n (pc := 713) dc_L_law_713 rfl ?_
  refine g_xload_n (pc := 714) dc_L_law_714 rfl ?_
  refine g_iload (pc := 715) dc_L_law_715 rfl ?_
  refine g_iconst (pc := 717) (v := 1) dc_L_law_717 rfl ?_
  refine g_iadd (pc := 718) (v := (nI (6 * j + 1))) dc_L_law_718 (nI_add (6 * j) 1) ?_
  refine g_scr (pc := 719) (6 * j + 1) dc_L_law_719 (by omega) hN e1 ?_
  refine g_xload_n (pc := 720) dc_L_law_720 rfl ?_
  refine g_iload (pc := 721) dc_L_law_721 rfl ?_
  refine g_iconst (pc := 723) (v := 2) dc_L_law_723 rfl ?_
  refine g_iadd (pc := 724) (v := (nI (6 * j + 2))) dc_L_law_724 (nI_add (6 * j) 2) ?_
  refine g_scr (pc := 725) (6 * j + 2) dc_L_law_725 (by omega) hN e2 ?_
  refine g_v2 (pc := 726) (M' := mt_M_document) dc_L_law_726 mo_M_document im_M_document se_M_document ln_L_121 (mp_o hA) rfl rfl (Nat.le_of_ble_eq_true rfl) (Nat.le_of_ble_eq_true rfl) (am_G.mono (c_M_document (d := 58) hA hp.2.1.2.2.1 m4.1) ?_)
  intro r h1 hq
  rw [hq.1, hq.2]
  clear hq h1 r
  refine ⟨am_nti _, ?_⟩
  refine g_icmp_eq (pc := 729) (tgt := 873) dc_L_law_729 rfl (fun hc729 => ?_) (fun hc => absurd hc (fun h9 => h9 rfl))
  exact KK _ (inv_s hA ho c1 c2 c3 c4 c5 m1 m2 m3 m4 hM hp hr ((mA.rf S).a_fault _ (by decide) : mA [2] S (S.s_fault 0)) (by decide))
theorem op_24 {X : am_X} {Q : Option Value → List va_E → Prop} {j : Nat} {h : List va_E} (hl9 : X.1.stackTraces = false) (hj : j < 512) (hk : 6 * j + 6 ≤ X.2.2.2.2.2.1) (hN : X.2.2.2.2.2.1 ≤ 3072) (hI : INV j h) (KK : ∀ h1, INV (j + 1) h1 → am_G X mt_L_law 60 873 (LO j) [] h1 Q) : am_G X mt_L_law 60 784 (LO j) [] h Q := by
  obtain ⟨w, A, S, B, T, Y, U, L, D, P, Rs, Rt, sett, Sd, st9, lim, q, K0, pn, H, ⟨hA, rfl, ho⟩, ⟨c1, c2, c3, c4, c5⟩, ⟨m1, m2, m3, m4, hM⟩, hp, hr⟩ := hI
  have hb := hp.bd hj
  have hL8 := m1.1.2.2.1
  have hqe := hp.qe
  have hqw := hp.qw
  obtain ⟨p1, e1⟩ : ∃ p, X.2.2.2.2.2.2 (6 * j + 1) = p := ⟨_, rfl⟩
  show am_G X mt_L_law 60 784 [some (.retAddr 300), some (.ref 0), some (.ref 84), some (.ref 135), some (.int (nI (6 * j))), none, none] [] (mput A S B) Q
  refine g_aload_n (pc := 784) dc_L_law_784 rfl ?_
  refine g_xload_n (pc := 785) dc_L_law_785 rfl ?_
  refine g_iload (pc := 786) dc_L_law_786 rfl ?_
  refine g_iconst (pc := 788) (v := 1) dc_L_law_788 rfl ?_
  refine g_iadd (pc := 789) (v := (nI (6 * j + 1))) dc_L_law_789 (nI_add (6 * j) 1) ?_
  refine g_scr (pc := 790) (6 * j + 1) dc_L_law_790 (by omega) hN e1 ?_
  refine g_v1 (pc := 791) (M' := mt_W_hit) dc_L_law_791 mo_W_hit im_W_hit se_W_hit ln_L_130 c1.1.1 rfl rfl (Nat.le_of_ble_eq_true rfl) (Nat.le_of_ble_eq_true rfl) (am_G.mono (c_W_hit (d := 59) c1.1 c4.2.2 hp.2.1.2.2.2.2) ?_)
  intro r h1 hq
  rw [hq.1, hq.2]
  clear hq h1 r
  refine ⟨am_nti _, ?_⟩
  refine g_aload_n (pc := 794) dc_L_law_794 rfl ?_
  refine g_xload_n (pc := 795) dc_L_law_795 rfl ?_
  refine g_iload (pc := 796) dc_L_law_796 rfl ?_
  refine g_iconst (pc := 798) (v := 1) dc_L_law_798 rfl ?_
  refine g_iadd (pc := 799) (v := (nI (6 * j + 1))) dc_L_law_799 (nI_add (6 * j) 1) ?_
  refine g_scr (pc := 800) (6 * j + 1) dc_L_law_800 (by omega) hN e1 ?_
  refine g_v1 (pc := 801) (M' := mt_M_hit) dc_L_law_801 mo_M_hit im_M_hit se_M_hit ln_L_133 (mp_o hA) rfl rfl (Nat.le_of_ble_eq_true rfl) (Nat.le_of_ble_eq_true rfl) (am_G.mono (c_M_hit (d := 59) hA m4.2 hp.2.1.2.2.2.2) ?_)
  intro r h1 hq
  rw [hq.1, hq.2]
  clear hq h1 r
  refine ⟨am_nti _, ?_⟩
  refine g_icmp_eq (pc := 804) (tgt := 873) dc_L_law_804 rfl (fun hc804 => ?_) (fun hc => absurd hc (fun h9 => h9 rfl))
  exact KK _ (inv_s hA ho c1 c2 c3 c4 c5 m1 m2 m3 m4 hM hp hr ((mA.rf S).a_fault _ (by decide) : mA [2] S (S.s_fault 0)) (by decide))
theorem op_25 {X : am_X} {Q : Option Value → List va_E → Prop} {j : Nat} {h : List va_E} (hl9 : X.1.stackTraces = false) (hj : j < 512) (hk : 6 * j + 6 ≤ X.2.2.2.2.2.1) (hN : X.2.2.2.2.2.1 ≤ 3072) (hI : INV j h) (KK : ∀ h1, INV (j + 1) h1 → am_G X mt_L_law 60 873 (LO j) [] h1 Q) : am_G X mt_L_law 60 809 (LO j) [] h Q := by
  obtain ⟨w, A, S, B, T, Y, U, L, D, P, Rs, Rt, sett, Sd, st9, lim, q, K0, pn, H, ⟨hA, rfl, ho⟩, ⟨c1, c2, c3, c4, c5⟩, ⟨m1, m2, m3, m4, hM⟩, hp, hr⟩ := hI
  have hb := hp.bd hj
  have hL8 := m1.1.2.2.1
  have hqe := hp.qe
  have hqw := hp.qw
  obtain ⟨p1, e1⟩ : ∃ p, X.2.2.2.2.2.2 (6 * j + 1) = p := ⟨_, rfl⟩
  show am_G X mt_L_law 60 809 [some (.retAddr 300), some (.ref 0), some (.ref 84), some (.ref 135), some (.int (nI (6 * j))), none, none] [] (mput A S B) Q
  refine g_aload_n (pc := 809) dc_L_law_809 rfl ?_
  refine g_xload_n (pc := 810) dc_L_law_810 rfl ?_
  refine g_iload (pc := 811) dc_L_law_811 rfl ?_
  refine g_iconst (pc := 813) (v := 1) dc_L_law_813 rfl ?_
  refine g_iadd (pc := 814) (v := (nI (6 * j + 1))) dc_L_law_814 (nI_add (6 * j) 1) ?_
  refine g_scr (pc := 815) (6 * j + 1) dc_L_law_815 (by omega) hN e1 ?_
  refine g_v1 (pc := 816) (M' := mt_W_score) dc_L_law_816 mo_W_score im_W_score se_W_score ln_L_134 c1.1.1 rfl rfl (Nat.le_of_ble_eq_true rfl) (Nat.le_of_ble_eq_true rfl) (am_G.mono (c_W_score (d := 59) c1.1 c4.2.2 hp.2.1.2.2.2.2) ?_)
  intro r h1 hq
  rw [hq.1, hq.2]
  clear hq h1 r
  refine ⟨am_ntl _, ?_⟩
  refine g_aload_n (pc := 819) dc_L_law_819 rfl ?_
  refine g_xload_n (pc := 820) dc_L_law_820 rfl ?_
  refine g_iload (pc := 821) dc_L_law_821 rfl ?_
  refine g_iconst (pc := 823) (v := 1) dc_L_law_823 rfl ?_
  refine g_iadd (pc := 824) (v := (nI (6 * j + 1))) dc_L_law_824 (nI_add (6 * j) 1) ?_
  refine g_scr (pc := 825) (6 * j + 1) dc_L_law_825 (by omega) hN e1 ?_
  refine g_v1 (pc := 826) (M' := mt_M_score) dc_L_law_826 mo_M_score im_M_score se_M_score ln_L_138 (mp_o hA) rfl rfl (Nat.le_of_ble_eq_true rfl) (Nat.le_of_ble_eq_true rfl) (am_G.mono (c_M_score (d := 59) hA m4.2 hp.2.1.2.2.2.2) ?_)
  intro r h1 hq
  rw [hq.1, hq.2]
  clear hq h1 r
  refine ⟨am_ntl _, ?_⟩
  refine g_lcmp (pc := 829) dc_L_law_829 (lg_self _) ?_
  refine g_if_eq (pc := 830) (tgt := 873) dc_L_law_830 rfl (fun _ => ?_) (fun hc => absurd hc (by decide))
  exact KK _ (inv_s hA ho c1 c2 c3 c4 c5 m1 m2 m3 m4 hM hp hr ((mA.rf S).a_fault _ (by decide) : mA [2] S (S.s_fault 0)) (by decide))
