/-! ===== finding and asking ===== -/
theorem fnd_t {st9 : Bool} {K : Kn} {p : Int32} {k : Nat} (h : fnd st9 K p = some k) : st9 = true := by
  unfold fnd at h
  split at h
  · rename_i h9; exact h9.1
  · cases h
theorem op_20 {X : am_X} {Q : Option Value → List va_E → Prop} {j : Nat} {h : List va_E} (hl9 : X.1.stackTraces = false) (hj : j < 512) (hk : 6 * j + 6 ≤ X.2.2.2.2.2.1) (hN : X.2.2.2.2.2.1 ≤ 3072) (hI : INV j h) (KK : ∀ h1, INV (j + 1) h1 → am_G X mt_L_law 60 873 (LO j) [] h1 Q) : am_G X mt_L_law 60 672 (LO j) [] h Q := by
  obtain ⟨w, A, S, B, T, Y, U, L, D, P, Rs, Rt, sett, Sd, st9, lim, q, K0, pn, H, ⟨hA, rfl, ho⟩, ⟨c1, c2, c3, c4, c5⟩, ⟨m1, m2, m3, m4, hM⟩, hp, hr⟩ := hI
  have hb := hp.bd hj
  have hL8 := m1.1.2.2.1
  have hqe := hp.qe
  have hqw := hp.qw
  obtain ⟨p1, e1⟩ : ∃ p, X.2.2.2.2.2.2 (6 * j + 1) = p := ⟨_, rfl⟩
  cases e : fnd st9 q.1 p1 with
  | none =>
    show am_G X mt_L_law 60 672 [some (.retAddr 300), some (.ref 0), some (.ref 84), some (.ref 135), some (.int (nI (6 * j))), none, none] [] (mput A S B) Q
    refine g_aload_n (pc := 672) dc_L_law_672 rfl ?_
    refine g_xload_n (pc := 673) dc_L_law_673 rfl ?_
    refine g_iload (pc := 674) dc_L_law_674 rfl ?_
    refine g_iconst (pc := 676) (v := 1) dc_L_law_676 rfl ?_
    refine g_iadd (pc := 677) (v := (nI (6 * j + 1))) dc_L_law_677 (nI_add (6 * j) 1) ?_
    refine g_scr (pc := 678) (6 * j + 1) dc_L_law_678 (by omega) hN e1 ?_
    refine g_v1 (pc := 679) (M' := mt_W_find) dc_L_law_679 mo_W_find im_W_find se_W_find ln_L_114 c1.1.1 rfl rfl (Nat.le_of_ble_eq_true rfl) (Nat.le_of_ble_eq_true rfl) (am_G.mono (n_W_find (d := 48) c1.1 c3.1 (by rw [hqe.1]; exact hqw.1) (by rw [hqe.1]; exact e)) ?_)
    intro r h1 hq
    rw [hq.1, hq.2]
    clear hq h1 r
    refine ⟨am_nti _, ?_⟩
    refine g_aload_n (pc := 682) dc_L_law_682 rfl ?_
    refine g_xload_n (pc := 683) dc_L_law_683 rfl ?_
    refine g_iload (pc := 684) dc_L_law_684 rfl ?_
    refine g_iconst (pc := 686) (v := 1) dc_L_law_686 rfl ?_
    refine g_iadd (pc := 687) (v := (nI (6 * j + 1))) dc_L_law_687 (nI_add (6 * j) 1) ?_
    refine g_scr (pc := 688) (6 * j + 1) dc_L_law_688 (by omega) hN e1 ?_
    refine g_v1 (pc := 689) (M' := mt_M_find) dc_L_law_689 mo_M_find im_M_find se_M_find ln_L_117 (mp_o hA) rfl rfl (Nat.le_of_ble_eq_true rfl) (Nat.le_of_ble_eq_true rfl) (am_G.mono (n_M_find (d := 48) hA m3.1 m3.2.2.1 hqw.1 e) ?_)
    intro r h1 hq
    rw [hq.1, hq.2]
    clear hq h1 r
    refine ⟨am_nti _, ?_⟩
    refine g_icmp_eq (pc := 692) (tgt := 873) dc_L_law_692 rfl (fun _ => ?_) (fun hc => absurd hc (by decide))
    exact KK _ (inv_s hA ho c1 c2 c3 c4 c5 m1 m2 m3 m4 hM hp hr ((mA.rf S).a_fault _ (by decide) : mA [2] S (S.s_fault 0)) (by decide))
  | some k =>
    have hst := fnd_t e
    subst hst
    obtain ⟨j1, j2, j3, j4, j5⟩ := hp.2.2.1.1 rfl
    have ho24 := hp.2.2.2.2.1
    have hty := tx_Y (C := q.1) (Y := Y) (fun i hi => by have hm9 := dcs_mem hi; obtain ⟨y, y1, y2, y3⟩ := (m3.2.2.1.2 i hm9.1).2.2.2.2.2 hm9.2; exact ⟨y, y1, y3⟩) hp.2.1.1 hqw.1 (by omega)
    show am_G X mt_L_law 60 672 [some (.retAddr 300), some (.ref 0), some (.ref 84), some (.ref 135), some (.int (nI (6 * j))), none, none] [] (mput A S B) Q
    refine g_aload_n (pc := 672) dc_L_law_672 rfl ?_
    refine g_xload_n (pc := 673) dc_L_law_673 rfl ?_
    refine g_iload (pc := 674) dc_L_law_674 rfl ?_
    refine g_iconst (pc := 676) (v := 1) dc_L_law_676 rfl ?_
    refine g_iadd (pc := 677) (v := (nI (6 * j + 1))) dc_L_law_677 (nI_add (6 * j) 1) ?_
    refine g_scr (pc := 678) (6 * j + 1) dc_L_law_678 (by omega) hN e1 ?_
    refine g_v1 (pc := 679) (M' := mt_W_find) dc_L_law_679 mo_W_find im_W_find se_W_find ln_L_114 c1.1.1 rfl rfl (Nat.le_of_ble_eq_true rfl) (Nat.le_of_ble_eq_true rfl) (am_G.mono (w_W_find (d := 48) (K := q.1) (c := q.2.1) (V := q.2.2) c1.1 c3.1 hqw.1 hty.1 hty.2 c4.1 c4.2.1 c4.2.2 c1.2.2.2.2.1 e) ?_)
    intro r h1 hz
    obtain ⟨y1, w1, g1, s1, s2, s3, s4⟩ := hz
    rw [y1]
    clear y1 r
    obtain ⟨A1, B1, hA1, rfl, ho1⟩ := af_W g1 hA ho (by decide)
    refine ⟨am_nti _, ?_⟩
    refine g_aload_n (pc := 682) dc_L_law_682 rfl ?_
    refine g_xload_n (pc := 683) dc_L_law_683 rfl ?_
    refine g_iload (pc := 684) dc_L_law_684 rfl ?_
    refine g_iconst (pc := 686) (v := 1) dc_L_law_686 rfl ?_
    refine g_iadd (pc := 687) (v := (nI (6 * j + 1))) dc_L_law_687 (nI_add (6 * j) 1) ?_
    refine g_scr (pc := 688) (6 * j + 1) dc_L_law_688 (by omega) hN e1 ?_
    refine g_v1 (pc := 689) (M' := mt_M_find) dc_L_law_689 mo_M_find im_M_find se_M_find ln_L_117 (mp_o hA1) rfl rfl (Nat.le_of_ble_eq_true rfl) (Nat.le_of_ble_eq_true rfl) (am_G.mono (w_M_find (d := 48) hA1 hb.2.1 hp.2.1.1 m3.1 hM m3.2.2.1 hqw.1 j1.2.1 j4.1 e) ?_)
    intro r h9 hz
    obtain ⟨y1, S1, T1, y2, em, tb, hpre, pr, hh⟩ := hz
    rw [y1, y2]
    clear y1 y2 h9 r
    refine ⟨am_nti _, ?_⟩
    refine g_icmp_eq (pc := 692) (tgt := 873) dc_L_law_692 rfl (fun hc692 => ?_) (fun hc => absurd hc (fun h9 => h9 rfl))
    have hp1 : PU (j + 1) w1 Y U L P Rt Rs sett Sd true lim q q.1 [] := by
      have h9 := hp.nx (w1 := w1) (g1.2.1 27 (by decide)) (g1.2.1 98 (by decide))
      exact ⟨h9.1, ⟨h9.2.1.1, h9.2.1.2.1, hqw.1, fun i hi => (by have hm9 := dcs_mem hi; exact j4.1 i hm9.1 hm9.2), Nat.zero_le _⟩, h9.2.2⟩
    have c11 : C1 w1 (mput A1 S B1) L D := ⟨c1.1.fr g1 (by decide), c1.2.1.fr g1 (by decide), c1.2.2.1.fr g1 (by decide), c1.2.2.2.1.fr g1 (by decide), s4, by obtain ⟨Tx, hTx⟩ := c1.2.2.2.2.2; exact ⟨Tx, hTx.fr g1 (by decide) (by decide)⟩⟩
    have c41 : C4 w1 (mput A1 S B1) q.1 k [] := ⟨s1, s2, s3⟩
    exact KK _ (inv_mk hA1 ho1 c11 (c2.fr g1 (by decide) (by decide)) (c3.fr g1 (by decide)) c41 (c5.fr g1 (by decide)) (m1.m em (by decide)) ((m2.m em (by decide)).pre hpre (List.prefix_refl Y)) ((m3.m em (by decide)).pre hpre (List.prefix_refl Y)) ⟨pr, hh⟩ tb hp1 (hr.fr g1))
theorem op_23 {X : am_X} {Q : Option Value → List va_E → Prop} {j : Nat} {h : List va_E} (hl9 : X.1.stackTraces = false) (hj : j < 512) (hk : 6 * j + 6 ≤ X.2.2.2.2.2.1) (hN : X.2.2.2.2.2.1 ≤ 3072) (hI : INV j h) (KK : ∀ h1, INV (j + 1) h1 → am_G X mt_L_law 60 873 (LO j) [] h1 Q) : am_G X mt_L_law 60 759 (LO j) [] h Q := by
  obtain ⟨w, A, S, B, T, Y, U, L, D, P, Rs, Rt, sett, Sd, st9, lim, q, K0, pn, H, ⟨hA, rfl, ho⟩, ⟨c1, c2, c3, c4, c5⟩, ⟨m1, m2, m3, m4, hM⟩, hp, hr⟩ := hI
  have hb := hp.bd hj
  have hL8 := m1.1.2.2.1
  have hqe := hp.qe
  have hqw := hp.qw
  obtain ⟨p1, e1⟩ : ∃ p, X.2.2.2.2.2.2 (6 * j + 1) = p := ⟨_, rfl⟩
  cases e : ixo p1 3 with
  | none =>
    show am_G X mt_L_law 60 759 [some (.retAddr 300), some (.ref 0), some (.ref 84), some (.ref 135), some (.int (nI (6 * j))), none, none] [] (mput A S B) Q
    refine g_aload_n (pc := 759) dc_L_law_759 rfl ?_
    refine g_xload_n (pc := 760) dc_L_law_760 rfl ?_
    refine g_iload (pc := 761) dc_L_law_761 rfl ?_
    refine g_iconst (pc := 763) (v := 1) dc_L_law_763 rfl ?_
    refine g_iadd (pc := 764) (v := (nI (6 * j + 1))) dc_L_law_764 (nI_add (6 * j) 1) ?_
    refine g_scr (pc := 765) (6 * j + 1) dc_L_law_765 (by omega) hN e1 ?_
    refine g_v1 (pc := 766) (M' := mt_W_ask) dc_L_law_766 mo_W_ask im_W_ask se_W_ask ln_L_126 c1.1.1 rfl rfl (Nat.le_of_ble_eq_true rfl) (Nat.le_of_ble_eq_true rfl) (am_G.mono (n_W_ask (d := 54) c1.1 c1.2.1 e) ?_)
    intro r h1 hz
    obtain ⟨y1, w1, g1, s2⟩ := hz
    rw [y1]
    clear y1 r
    obtain ⟨A1, B1, hA1, rfl, ho1⟩ := af_W g1 hA ho (by decide)
    refine ⟨am_nti _, ?_⟩
    refine g_aload_n (pc := 769) dc_L_law_769 rfl ?_
    refine g_xload_n (pc := 770) dc_L_law_770 rfl ?_
    refine g_iload (pc := 771) dc_L_law_771 rfl ?_
    refine g_iconst (pc := 773) (v := 1) dc_L_law_773 rfl ?_
    refine g_iadd (pc := 774) (v := (nI (6 * j + 1))) dc_L_law_774 (nI_add (6 * j) 1) ?_
    refine g_scr (pc := 775) (6 * j + 1) dc_L_law_775 (by omega) hN e1 ?_
    refine g_v1 (pc := 776) (M' := mt_M_ask) dc_L_law_776 mo_M_ask im_M_ask se_M_ask ln_L_129 (mp_o hA1) rfl rfl (Nat.le_of_ble_eq_true rfl) (Nat.le_of_ble_eq_true rfl) (am_G.mono (n_M_ask (d := 50) hA1 m1.1 e) ?_)
    intro r h9 hz
    obtain ⟨y1, S1, y2, em, tp⟩ := hz
    rw [y1, y2]
    clear y1 y2 h9 r
    refine ⟨am_nti _, ?_⟩
    refine g_icmp_eq (pc := 779) (tgt := 873) dc_L_law_779 rfl (fun _ => ?_) (fun hc => absurd hc (by decide))
    have c11 : C1 w1 (mput A1 S B1) [] D := ⟨c1.1.fr g1 (by decide), s2, c1.2.2.1.fr g1 (by decide), c1.2.2.2.1.fr g1 (by decide), c1.2.2.2.2.1.fr g1 (by decide), by obtain ⟨Tx, hTx⟩ := c1.2.2.2.2.2; exact ⟨Tx, hTx.fr g1 (by decide) (by decide)⟩⟩
    exact KK _ (inv_mk hA1 ho1 c11 (c2.fr g1 (by decide) (by decide)) (c3.fr g1 (by decide)) (c4.fr g1 (by decide)) (c5.fr g1 (by decide)) ⟨tp, m1.2.m em (by decide) (by decide)⟩ (m2.m em (by decide)) (m3.m em (by decide)) (m4.m em (by decide)) ((hM.m em (by decide)).mo mem_l) (hp.us (by rw [g1.2.1 27 (by decide)]; omega) (g1.2.1 98 (by decide))) (hr.fr g1))
  | some md =>
    obtain ⟨hmd, rfl⟩ := ixo_s e
    have ho24 := hp.2.2.2.2.1
    have hty := tx_Y (C := K0) (Y := Y) (fun i hi => by obtain ⟨j9, g1, g2⟩ := mem_gN hi; obtain ⟨-, ⟨y, y1, y2, y3⟩, -⟩ := m4.1.2.1 j9 g1; rw [g2] at y3; exact ⟨y, y1, y3⟩) hp.2.1.1 hp.2.1.2.2.1 (by omega)
    show am_G X mt_L_law 60 759 [some (.retAddr 300), some (.ref 0), some (.ref 84), some (.ref 135), some (.int (nI (6 * j))), none, none] [] (mput A S B) Q
    refine g_aload_n (pc := 759) dc_L_law_759 rfl ?_
    refine g_xload_n (pc := 760) dc_L_law_760 rfl ?_
    refine g_iload (pc := 761) dc_L_law_761 rfl ?_
    refine g_iconst (pc := 763) (v := 1) dc_L_law_763 rfl ?_
    refine g_iadd (pc := 764) (v := (nI (6 * j + 1))) dc_L_law_764 (nI_add (6 * j) 1) ?_
    refine g_scr (pc := 765) (6 * j + 1) dc_L_law_765 (by omega) hN e1 ?_
    refine g_v1 (pc := 766) (M' := mt_W_ask) dc_L_law_766 mo_W_ask im_W_ask se_W_ask ln_L_126 c1.1.1 rfl rfl (Nat.le_of_ble_eq_true rfl) (Nat.le_of_ble_eq_true rfl) (am_G.mono (w_W_ask (d := 54) c1.1 hp.2.1.2.2.1 hty.1 hty.2 c4.1 c4.2.2 c1.2.1 hL8 hmd) ?_)
    intro r h1 hz
    obtain ⟨y1, w1, g1, s2, s3⟩ := hz
    rw [y1]
    clear y1 r
    obtain ⟨A1, B1, hA1, rfl, ho1⟩ := af_W g1 hA ho (by decide)
    refine ⟨am_nti _, ?_⟩
    refine g_aload_n (pc := 769) dc_L_law_769 rfl ?_
    refine g_xload_n (pc := 770) dc_L_law_770 rfl ?_
    refine g_iload (pc := 771) dc_L_law_771 rfl ?_
    refine g_iconst (pc := 773) (v := 1) dc_L_law_773 rfl ?_
    refine g_iadd (pc := 774) (v := (nI (6 * j + 1))) dc_L_law_774 (nI_add (6 * j) 1) ?_
    refine g_scr (pc := 775) (6 * j + 1) dc_L_law_775 (by omega) hN e1 ?_
    refine g_v1 (pc := 776) (M' := mt_M_ask) dc_L_law_776 mo_M_ask im_M_ask se_M_ask ln_L_129 (mp_o hA1) rfl rfl (Nat.le_of_ble_eq_true rfl) (Nat.le_of_ble_eq_true rfl) (am_G.mono (w_M_ask (d := 50) hA1 hb.2.1 hp.2.1.1 hp.2.1.2.2.1 hp.2.1.2.2.2.1 hmd m1.1 hM m4.1) ?_)
    intro r h9 hz
    obtain ⟨y1, S1, T1, y2, em, tb, hpre, tp, pr, hh⟩ := hz
    rw [y1, y2]
    clear y1 y2 h9 r
    refine ⟨am_nti _, ?_⟩
    refine g_icmp_eq (pc := 779) (tgt := 873) dc_L_law_779 rfl (fun hc779 => ?_) (fun hc => absurd hc (fun h9 => h9 rfl))
    have c11 : C1 w1 (mput A1 S B1) [] D := ⟨c1.1.fr g1 (by decide), s2, c1.2.2.1.fr g1 (by decide), c1.2.2.2.1.fr g1 (by decide), c1.2.2.2.2.1.fr g1 (by decide), by obtain ⟨Tx, hTx⟩ := c1.2.2.2.2.2; exact ⟨Tx, hTx.fr g1 (by decide) (by decide)⟩⟩
    have hp1 : PU (j + 1) w1 Y (U ++ adU L) [] P Rt Rs sett Sd st9 lim q K0 (ansQ K0 pn md (qsQ L) (dcs K0).length) := by
      have h9 := hp.us (w1 := w1) (by rw [g1.2.1 27 (by decide)]; omega) (g1.2.1 98 (by decide))
      exact ⟨h9.1, ⟨h9.2.1.1, h9.2.1.2.1, h9.2.1.2.2.1, h9.2.1.2.2.2.1, Nat.le_trans (ansQ_len _) (dcs_250 h9.2.1.2.2.1)⟩, h9.2.2⟩
    have c41 : C4 w1 (mput A1 S B1) K0 pn (ansQ K0 pn md (qsQ L) (dcs K0).length) := ⟨c4.1.fr g1 (by decide), c4.2.1.fr g1 (by decide), s3⟩
    exact KK _ (inv_mk hA1 ho1 c11 (c2.fr g1 (by decide) (by decide)) (c3.fr g1 (by decide)) c41 (c5.fr g1 (by decide)) ⟨tp, m1.2.m em (by decide) (by decide)⟩ ((m2.m em (by decide)).pre hpre (List.prefix_refl Y)) ((m3.m em (by decide)).pre hpre (List.prefix_refl Y)) ⟨pr, hh⟩ (tb.mo mem_l) hp1 (hr.fr g1))
