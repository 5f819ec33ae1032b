/-! ===== calls that show something; settings; seeds ===== -/
section OP2L
variable {p x : Int32} {sett : Nat → Nat} {z : Nat × Nat}
theorem stG_3 (e : stG p x = some z) (h : 1 ≤ sett 3) : 1 ≤ upf sett z.1 z.2 3 := by
  unfold stG at e
  cases e1 : ixo p 4 with
  | none => rw [e1] at e; cases e
  | some k =>
    rw [e1] at e
    dsimp only at e
    cases e2 : ixo x (stmx k + 1) with
    | none => rw [e2] at e; cases e
    | some v =>
      rw [e2] at e
      dsimp only at e
      split at e
      · rename_i hv
        have e9 := Option.some.inj e
        rw [← e9]
        show 1 ≤ upf sett k v 3
        by_cases q : 3 = k
        · rw [← q] at hv ⊢
          rw [upf_s]
          exact hv
        · rw [upf_n q]; exact h
      · cases e
end OP2L
theorem op_19 {X : am_X} {Q : Option Value → List va_E → Prop} {j : Nat} {h : List va_E} (hl9 : X.1.stackTraces = false) (hj : j < 512) (hk : 6 * j + 6 ≤ X.2.2.2.2.2.1) (hN : X.2.2.2.2.2.1 ≤ 3072) (hI : INV j h) (KK : ∀ h1, INV (j + 1) h1 → am_G X mt_L_law 60 873 (LO j) [] h1 Q) : am_G X mt_L_law 60 647 (LO j) [] h Q := by
  obtain ⟨w, A, S, B, T, Y, U, L, D, P, Rs, Rt, sett, Sd, st9, lim, q, K0, pn, H, ⟨hA, rfl, ho⟩, ⟨c1, c2, c3, c4, c5⟩, ⟨m1, m2, m3, m4, hM⟩, hp, hr⟩ := hI
  have hb := hp.bd hj
  have hL8 := m1.1.2.2.1
  have hqe := hp.qe
  have hqw := hp.qw
  obtain ⟨p1, e1⟩ : ∃ p, X.2.2.2.2.2.2 (6 * j + 1) = p := ⟨_, rfl⟩
  cases e : ixo p1 q.1.ad.length with
  | none =>
    show am_G X mt_L_law 60 647 [some (.retAddr 300), some (.ref 0), some (.ref 84), some (.ref 135), some (.int (nI (6 * j))), none, none] [] (mput A S B) Q
    refine g_aload_n (pc := 647) dc_L_law_647 rfl ?_
    refine g_xload_n (pc := 648) dc_L_law_648 rfl ?_
    refine g_iload (pc := 649) dc_L_law_649 rfl ?_
    refine g_iconst (pc := 651) (v := 1) dc_L_law_651 rfl ?_
    refine g_iadd (pc := 652) (v := (nI (6 * j + 1))) dc_L_law_652 (nI_add (6 * j) 1) ?_
    refine g_scr (pc := 653) (6 * j + 1) dc_L_law_653 (by omega) hN e1 ?_
    refine g_v1 (pc := 654) (M' := mt_W_address) dc_L_law_654 mo_W_address im_W_address se_W_address ln_L_110 c1.1.1 rfl rfl (Nat.le_of_ble_eq_true rfl) (Nat.le_of_ble_eq_true rfl) (am_G.mono (n_W_address (d := 55) c1.1 c3.1 (by rw [hqe.1]; exact hqw.1) (by rw [hqe.1]; exact e)) ?_)
    intro r h1 hq
    rw [hq.1, hq.2]
    clear hq h1 r
    refine ⟨am_nti _, ?_⟩
    refine g_aload_n (pc := 657) dc_L_law_657 rfl ?_
    refine g_xload_n (pc := 658) dc_L_law_658 rfl ?_
    refine g_iload (pc := 659) dc_L_law_659 rfl ?_
    refine g_iconst (pc := 661) (v := 1) dc_L_law_661 rfl ?_
    refine g_iadd (pc := 662) (v := (nI (6 * j + 1))) dc_L_law_662 (nI_add (6 * j) 1) ?_
    refine g_scr (pc := 663) (6 * j + 1) dc_L_law_663 (by omega) hN e1 ?_
    refine g_v1 (pc := 664) (M' := mt_M_address) dc_L_law_664 mo_M_address im_M_address se_M_address ln_L_113 (mp_o hA) rfl rfl (Nat.le_of_ble_eq_true rfl) (Nat.le_of_ble_eq_true rfl) (am_G.mono (n_M_address (d := 57) hA m3.2.2.1.1 (by have := hqw.1.1; omega) e) ?_)
    intro r h1 hq
    rw [hq.1, hq.2]
    clear hq h1 r
    refine ⟨am_nti _, ?_⟩
    refine g_icmp_eq (pc := 667) (tgt := 873) dc_L_law_667 rfl (fun _ => ?_) (fun hc => absurd hc (by decide))
    exact KK _ (inv_s hA ho c1 c2 c3 c4 c5 m1 m2 m3 m4 hM hp hr ((mA.rf S).a_fault _ (by decide) : mA [2] S (S.s_fault 0)) (by decide))
  | some k =>
    obtain ⟨hk9, rfl⟩ := ixo_s e
    show am_G X mt_L_law 60 647 [some (.retAddr 300), some (.ref 0), some (.ref 84), some (.ref 135), some (.int (nI (6 * j))), none, none] [] (mput A S B) Q
    refine g_aload_n (pc := 647) dc_L_law_647 rfl ?_
    refine g_xload_n (pc := 648) dc_L_law_648 rfl ?_
    refine g_iload (pc := 649) dc_L_law_649 rfl ?_
    refine g_iconst (pc := 651) (v := 1) dc_L_law_651 rfl ?_
    refine g_iadd (pc := 652) (v := (nI (6 * j + 1))) dc_L_law_652 (nI_add (6 * j) 1) ?_
    refine g_scr (pc := 653) (6 * j + 1) dc_L_law_653 (by omega) hN e1 ?_
    refine g_v1 (pc := 654) (M' := mt_W_address) dc_L_law_654 mo_W_address im_W_address se_W_address ln_L_110 c1.1.1 rfl rfl (Nat.le_of_ble_eq_true rfl) (Nat.le_of_ble_eq_true rfl) (am_G.mono (c_W_address (d := 55) (k := k) c1.1 ⟨_, c1.2.2.1⟩ c3.1 (by rw [hqe.1]; exact hqw.1) (by rw [hqe.1]; exact hk9)) ?_)
    intro r h1 hz
    rw [hqe.1] at hz
    obtain ⟨y1, w1, g1, b3⟩ := hz
    rw [y1]
    clear y1 r
    obtain ⟨A1, B1, hA1, rfl, ho1⟩ := af_W g1 hA ho (by decide)
    refine ⟨am_nti _, ?_⟩
    refine g_aload_n (pc := 657) dc_L_law_657 rfl ?_
    refine g_xload_n (pc := 658) dc_L_law_658 rfl ?_
    refine g_iload (pc := 659) dc_L_law_659 rfl ?_
    refine g_iconst (pc := 661) (v := 1) dc_L_law_661 rfl ?_
    refine g_iadd (pc := 662) (v := (nI (6 * j + 1))) dc_L_law_662 (nI_add (6 * j) 1) ?_
    refine g_scr (pc := 663) (6 * j + 1) dc_L_law_663 (by omega) hN e1 ?_
    refine g_v1 (pc := 664) (M' := mt_M_address) dc_L_law_664 mo_M_address im_M_address se_M_address ln_L_113 (mp_o hA1) rfl rfl (Nat.le_of_ble_eq_true rfl) (Nat.le_of_ble_eq_true rfl) (am_G.mono (c_M_address (d := 57) hA1 hM.1 hM.2.1 m3.2.2.1 hqw.1 hk9) ?_)
    intro r h9 hz
    obtain ⟨y1, S1, y2, em, pr⟩ := hz
    rw [y1, y2]
    clear y1 y2 h9 r
    refine ⟨am_nti _, ?_⟩
    refine g_icmp_eq (pc := 667) (tgt := 873) dc_L_law_667 rfl (fun hc667 => ?_) (fun hc => absurd hc (fun h9 => h9 rfl))
    exact KK _ (inv_mk hA1 ho1 (C1_p3 c1 g1 b3) (c2.fr g1 (by decide) (by decide)) (c3.fr g1 (by decide)) (c4.fr g1 (by decide)) (c5.fr g1 (by decide)) ⟨m1.1.m em (by decide) (by decide), pr⟩ (m2.m em (by decide)) (m3.m em (by decide)) (m4.m em (by decide)) (hM.m em (by decide)) (hp.nx (g1.2.1 27 (by decide)) (g1.2.1 98 (by decide))) (hr.fr g1))
theorem op_22 {X : am_X} {Q : Option Value → List va_E → Prop} {j : Nat} {h : List va_E} (hl9 : X.1.stackTraces = false) (hj : j < 512) (hk : 6 * j + 6 ≤ X.2.2.2.2.2.1) (hN : X.2.2.2.2.2.1 ≤ 3072) (hI : INV j h) (KK : ∀ h1, INV (j + 1) h1 → am_G X mt_L_law 60 873 (LO j) [] h1 Q) : am_G X mt_L_law 60 734 (LO j) [] h Q := by
  obtain ⟨w, A, S, B, T, Y, U, L, D, P, Rs, Rt, sett, Sd, st9, lim, q, K0, pn, H, ⟨hA, rfl, ho⟩, ⟨c1, c2, c3, c4, c5⟩, ⟨m1, m2, m3, m4, hM⟩, hp, hr⟩ := hI
  have hb := hp.bd hj
  have hL8 := m1.1.2.2.1
  have hqe := hp.qe
  have hqw := hp.qw
  obtain ⟨p1, e1⟩ : ∃ p, X.2.2.2.2.2.2 (6 * j + 1) = p := ⟨_, rfl⟩
  cases e : ixo p1 (dcs K0).length with
  | none =>
    show am_G X mt_L_law 60 734 [some (.retAddr 300), some (.ref 0), some (.ref 84), some (.ref 135), some (.int (nI (6 * j))), none, none] [] (mput A S B) Q
    refine g_aload_n (pc := 734) dc_L_law_734 rfl ?_
    refine g_xload_n (pc := 735) dc_L_law_735 rfl ?_
    refine g_iload (pc := 736) dc_L_law_736 rfl ?_
    refine g_iconst (pc := 738) (v := 1) dc_L_law_738 rfl ?_
    refine g_iadd (pc := 739) (v := (nI (6 * j + 1))) dc_L_law_739 (nI_add (6 * j) 1) ?_
    refine g_scr (pc := 740) (6 * j + 1) dc_L_law_740 (by omega) hN e1 ?_
    refine g_v1 (pc := 741) (M' := mt_W_where) dc_L_law_741 mo_W_where im_W_where se_W_where ln_L_122 c1.1.1 rfl rfl (Nat.le_of_ble_eq_true rfl) (Nat.le_of_ble_eq_true rfl) (am_G.mono (n_W_where (d := 56) c1.1 hp.2.1.2.2.1 c4.1 e) ?_)
    intro r h1 hq
    rw [hq.1, hq.2]
    clear hq h1 r
    refine ⟨am_nti _, ?_⟩
    refine g_aload_n (pc := 744) dc_L_law_744 rfl ?_
    refine g_xload_n (pc := 745) dc_L_law_745 rfl ?_
    refine g_iload (pc := 746) dc_L_law_746 rfl ?_
    refine g_iconst (pc := 748) (v := 1) dc_L_law_748 rfl ?_
    refine g_iadd (pc := 749) (v := (nI (6 * j + 1))) dc_L_law_749 (nI_add (6 * j) 1) ?_
    refine g_scr (pc := 750) (6 * j + 1) dc_L_law_750 (by omega) hN e1 ?_
    refine g_v1 (pc := 751) (M' := mt_M_where) dc_L_law_751 mo_M_where im_M_where se_M_where ln_L_125 (mp_o hA) rfl rfl (Nat.le_of_ble_eq_true rfl) (Nat.le_of_ble_eq_true rfl) (am_G.mono (n_M_where (d := 57) hA hp.2.1.2.2.1 m4.1 e) ?_)
    intro r h1 hq
    rw [hq.1, hq.2]
    clear hq h1 r
    refine ⟨am_nti _, ?_⟩
    refine g_icmp_eq (pc := 754) (tgt := 873) dc_L_law_754 rfl (fun _ => ?_) (fun hc => absurd hc (by decide))
    exact KK _ (inv_s hA ho c1 c2 c3 c4 c5 m1 m2 m3 m4 hM hp hr ((mA.rf S).a_fault _ (by decide) : mA [2] S (S.s_fault 0)) (by decide))
  | some k =>
    obtain ⟨hk9, rfl⟩ := ixo_s e
    show am_G X mt_L_law 60 734 [some (.retAddr 300), some (.ref 0), some (.ref 84), some (.ref 135), some (.int (nI (6 * j))), none, none] [] (mput A S B) Q
    refine g_aload_n (pc := 734) dc_L_law_734 rfl ?_
    refine g_xload_n (pc := 735) dc_L_law_735 rfl ?_
    refine g_iload (pc := 736) dc_L_law_736 rfl ?_
    refine g_iconst (pc := 738) (v := 1) dc_L_law_738 rfl ?_
    refine g_iadd (pc := 739) (v := (nI (6 * j + 1))) dc_L_law_739 (nI_add (6 * j) 1) ?_
    refine g_scr (pc := 740) (6 * j + 1) dc_L_law_740 (by omega) hN e1 ?_
    refine g_v1 (pc := 741) (M' := mt_W_where) dc_L_law_741 mo_W_where im_W_where se_W_where ln_L_122 c1.1.1 rfl rfl (Nat.le_of_ble_eq_true rfl) (Nat.le_of_ble_eq_true rfl) (am_G.mono (w_W_where (d := 56) c1.1 hp.2.1.2.2.1 c4.1 ⟨_, c1.2.2.1⟩ hk9) ?_)
    intro r h1 hz
    obtain ⟨y1, w1, g1, b3⟩ := hz
    rw [y1]
    clear y1 r
    obtain ⟨A1, B1, hA1, rfl, ho1⟩ := af_W g1 hA ho (by decide)
    refine ⟨am_nti _, ?_⟩
    refine g_aload_n (pc := 744) dc_L_law_744 rfl ?_
    refine g_xload_n (pc := 745) dc_L_law_745 rfl ?_
    refine g_iload (pc := 746) dc_L_law_746 rfl ?_
    refine g_iconst (pc := 748) (v := 1) dc_L_law_748 rfl ?_
    refine g_iadd (pc := 749) (v := (nI (6 * j + 1))) dc_L_law_749 (nI_add (6 * j) 1) ?_
    refine g_scr (pc := 750) (6 * j + 1) dc_L_law_750 (by omega) hN e1 ?_
    refine g_v1 (pc := 751) (M' := mt_M_where) dc_L_law_751 mo_M_where im_M_where se_M_where ln_L_125 (mp_o hA1) rfl rfl (Nat.le_of_ble_eq_true rfl) (Nat.le_of_ble_eq_true rfl) (am_G.mono (w_M_where (d := 57) hA1 hp.2.1.2.2.1 hM.1 hM.2.1 m4.1 hk9) ?_)
    intro r h9 hz
    obtain ⟨y1, S1, y2, em, pr⟩ := hz
    rw [y1, y2]
    clear y1 y2 h9 r
    refine ⟨am_nti _, ?_⟩
    refine g_icmp_eq (pc := 754) (tgt := 873) dc_L_law_754 rfl (fun hc754 => ?_) (fun hc => absurd hc (fun h9 => h9 rfl))
    exact KK _ (inv_mk hA1 ho1 (C1_p3 c1 g1 b3) (c2.fr g1 (by decide) (by decide)) (c3.fr g1 (by decide)) (c4.fr g1 (by decide)) (c5.fr g1 (by decide)) ⟨m1.1.m em (by decide) (by decide), pr⟩ (m2.m em (by decide)) (m3.m em (by decide)) (m4.m em (by decide)) (hM.m em (by decide)) (hp.nx (g1.2.1 27 (by decide)) (g1.2.1 98 (by decide))) (hr.fr g1))
theorem op_18 {X : am_X} {Q : Option Value → List va_E → Prop} {j : Nat} {h : List va_E} (hl9 : X.1.stackTraces = false) (hj : j < 512) (hk : 6 * j + 6 ≤ X.2.2.2.2.2.1) (hN : X.2.2.2.2.2.1 ≤ 3072) (hI : INV j h) (KK : ∀ h1, INV (j + 1) h1 → am_G X mt_L_law 60 873 (LO j) [] h1 Q) : am_G X mt_L_law 60 610 (LO j) [] h Q := by
  obtain ⟨w, A, S, B, T, Y, U, L, D, P, Rs, Rt, sett, Sd, st9, lim, q, K0, pn, H, ⟨hA, rfl, ho⟩, ⟨c1, c2, c3, c4, c5⟩, ⟨m1, m2, m3, m4, hM⟩, hp, hr⟩ := hI
  have hb := hp.bd hj
  have hL8 := m1.1.2.2.1
  have hqe := hp.qe
  have hqw := hp.qw
  obtain ⟨p1, e1⟩ : ∃ p, X.2.2.2.2.2.2 (6 * j + 1) = p := ⟨_, rfl⟩
  obtain ⟨p2, e2⟩ : ∃ p, X.2.2.2.2.2.2 (6 * j + 2) = p := ⟨_, rfl⟩
  cases e : ixo p1 q.2.1.aq.length with
  | none =>
    show am_G X mt_L_law 60 610 [some (.retAddr 300), some (.ref 0), some (.ref 84), some (.ref 135), some (.int (nI (6 * j))), none, none] [] (mput A S B) Q
    refine g_aload_n (pc := 610) dc_L_law_610 rfl ?_
    refine g_xload_n (pc := 611) dc_L_law_611 rfl ?_
    refine g_iload (pc := 612) dc_L_law_612 rfl ?_
    refine g_iconst (pc := 614) (v := 1) dc_L_law_614 rfl ?_
    refine g_iadd (pc := 615) (v := (nI (6 * j + 1))) dc_L_law_615 (nI_add (6 * j) 1) ?_
    refine g_scr (pc := 616) (6 * j + 1) dc_L_law_616 (by omega) hN e1 ?_
    refine g_xload_n (pc := 617) dc_L_law_617 rfl ?_
    refine g_iload (pc := 618) dc_L_law_618 rfl ?_
    refine g_iconst (pc := 620) (v := 2) dc_L_law_620 rfl ?_
    refine g_iadd (pc := 621) (v := (nI (6 * j + 2))) dc_L_law_621 (nI_add (6 * j) 2) ?_
    refine g_scr (pc := 622) (6 * j + 2) dc_L_law_622 (by omega) hN e2 ?_
    refine g_v2 (pc := 623) (M' := mt_W_asking) dc_L_law_623 mo_W_asking im_W_asking se_W_asking ln_L_106 c1.1.1 rfl rfl (Nat.le_of_ble_eq_true rfl) (Nat.le_of_ble_eq_true rfl) (am_G.mono (n_W_asking (d := 55) c1.1 c3.1 hqw.2.2 (Or.inl (by rw [hqe.2.2.1]; exact e))) ?_)
    intro r h1 hq
    rw [hq.1, hq.2]
    clear hq h1 r
    refine ⟨am_nti _, ?_⟩
    refine g_aload_n (pc := 626) dc_L_law_626 rfl ?_
    refine g_xload_n (pc := 627) dc_L_law_627 rfl ?_
    refine g_iload (pc := 628) dc_L_law_628 rfl ?_
    refine g_iconst (pc := 630) (v := 1) dc_L_law_630 rfl ?_
    refine g_iadd (pc := 631) (v := (nI (6 * j + 1))) dc_L_law_631 (nI_add (6 * j) 1) ?_
    refine g_scr (pc := 632) (6 * j + 1) dc_L_law_632 (by omega) hN e1 ?_
    refine g_xload_n (pc := 633) dc_L_law_633 rfl ?_
    refine g_iload (pc := 634) dc_L_law_634 rfl ?_
    refine g_iconst (pc := 636) (v := 2) dc_L_law_636 rfl ?_
    refine g_iadd (pc := 637) (v := (nI (6 * j + 2))) dc_L_law_637 (nI_add (6 * j) 2) ?_
    refine g_scr (pc := 638) (6 * j + 2) dc_L_law_638 (by omega) hN e2 ?_
    refine g_v2 (pc := 639) (M' := mt_M_asking) dc_L_law_639 mo_M_asking im_M_asking se_M_asking ln_L_109 (mp_o hA) rfl rfl (Nat.le_of_ble_eq_true rfl) (Nat.le_of_ble_eq_true rfl) (am_G.mono (n_M_asking (d := 57) hA m3.2.2.2.1.2.1 hqw.2.1 (Or.inl e)) ?_)
    intro r h1 hq
    rw [hq.1, hq.2]
    clear hq h1 r
    refine ⟨am_nti _, ?_⟩
    refine g_icmp_eq (pc := 642) (tgt := 873) dc_L_law_642 rfl (fun _ => ?_) (fun hc => absurd hc (by decide))
    exact KK _ (inv_s hA ho c1 c2 c3 c4 c5 m1 m2 m3 m4 hM hp hr ((mA.rf S).a_fault _ (by decide) : mA [2] S (S.s_fault 0)) (by decide))
  | some k =>
    obtain ⟨hk9, rfl⟩ := ixo_s e
    cases ee : ixo p2 2 with
    | none =>
      show am_G X mt_L_law 60 610 [some (.retAddr 300), some (.ref 0), some (.ref 84), some (.ref 135), some (.int (nI (6 * j))), none, none] [] (mput A S B) Q
      refine g_aload_n (pc := 610) dc_L_law_610 rfl ?_
      refine g_xload_n (pc := 611) dc_L_law_611 rfl ?_
      refine g_iload (pc := 612) dc_L_law_612 rfl ?_
      refine g_iconst (pc := 614) (v := 1) dc_L_law_614 rfl ?_
      refine g_iadd (pc := 615) (v := (nI (6 * j + 1))) dc_L_law_615 (nI_add (6 * j) 1) ?_
      refine g_scr (pc := 616) (6 * j + 1) dc_L_law_616 (by omega) hN e1 ?_
      refine g_xload_n (pc := 617) dc_L_law_617 rfl ?_
      refine g_iload (pc := 618) dc_L_law_618 rfl ?_
      refine g_iconst (pc := 620) (v := 2) dc_L_law_620 rfl ?_
      refine g_iadd (pc := 621) (v := (nI (6 * j + 2))) dc_L_law_621 (nI_add (6 * j) 2) ?_
      refine g_scr (pc := 622) (6 * j + 2) dc_L_law_622 (by omega) hN e2 ?_
      refine g_v2 (pc := 623) (M' := mt_W_asking) dc_L_law_623 mo_W_asking im_W_asking se_W_asking ln_L_106 c1.1.1 rfl rfl (Nat.le_of_ble_eq_true rfl) (Nat.le_of_ble_eq_true rfl) (am_G.mono (n_W_asking (d := 55) c1.1 c3.1 hqw.2.2 (Or.inr ee)) ?_)
      intro r h1 hq
      rw [hq.1, hq.2]
      clear hq h1 r
      refine ⟨am_nti _, ?_⟩
      refine g_aload_n (pc := 626) dc_L_law_626 rfl ?_
      refine g_xload_n (pc := 627) dc_L_law_627 rfl ?_
      refine g_iload (pc := 628) dc_L_law_628 rfl ?_
      refine g_iconst (pc := 630) (v := 1) dc_L_law_630 rfl ?_
      refine g_iadd (pc := 631) (v := (nI (6 * j + 1))) dc_L_law_631 (nI_add (6 * j) 1) ?_
      refine g_scr (pc := 632) (6 * j + 1) dc_L_law_632 (by omega) hN e1 ?_
      refine g_xload_n (pc := 633) dc_L_law_633 rfl ?_
      refine g_iload (pc := 634) dc_L_law_634 rfl ?_
      refine g_iconst (pc := 636) (v := 2) dc_L_law_636 rfl ?_
      refine g_iadd (pc := 637) (v := (nI (6 * j + 2))) dc_L_law_637 (nI_add (6 * j) 2) ?_
      refine g_scr (pc := 638) (6 * j + 2) dc_L_law_638 (by omega) hN e2 ?_
      refine g_v2 (pc := 639) (M' := mt_M_asking) dc_L_law_639 mo_M_asking im_M_asking se_M_asking ln_L_109 (mp_o hA) rfl rfl (Nat.le_of_ble_eq_true rfl) (Nat.le_of_ble_eq_true rfl) (am_G.mono (n_M_asking (d := 57) hA m3.2.2.2.1.2.1 hqw.2.1 (Or.inr ee)) ?_)
      intro r h1 hq
      rw [hq.1, hq.2]
      clear hq h1 r
      refine ⟨am_nti _, ?_⟩
      refine g_icmp_eq (pc := 642) (tgt := 873) dc_L_law_642 rfl (fun _ => ?_) (fun hc => absurd hc (by decide))
      exact KK _ (inv_s hA ho c1 c2 c3 c4 c5 m1 m2 m3 m4 hM hp hr ((mA.rf S).a_fault _ (by decide) : mA [2] S (S.s_fault 0)) (by decide))
    | some t =>
      obtain ⟨ht9, rfl⟩ := ixo_s ee
      rcases (by omega : t = 0 ∨ t = 1) with rfl | rfl
      · show am_G X mt_L_law 60 610 [some (.retAddr 300), some (.ref 0), some (.ref 84), some (.ref 135), some (.int (nI (6 * j))), none, none] [] (mput A S B) Q
        refine g_aload_n (pc := 610) dc_L_law_610 rfl ?_
        refine g_xload_n (pc := 611) dc_L_law_611 rfl ?_
        refine g_iload (pc := 612) dc_L_law_612 rfl ?_
        refine g_iconst (pc := 614) (v := 1) dc_L_law_614 rfl ?_
        refine g_iadd (pc := 615) (v := (nI (6 * j + 1))) dc_L_law_615 (nI_add (6 * j) 1) ?_
        refine g_scr (pc := 616) (6 * j + 1) dc_L_law_616 (by omega) hN e1 ?_
        refine g_xload_n (pc := 617) dc_L_law_617 rfl ?_
        refine g_iload (pc := 618) dc_L_law_618 rfl ?_
        refine g_iconst (pc := 620) (v := 2) dc_L_law_620 rfl ?_
        refine g_iadd (pc := 621) (v := (nI (6 * j + 2))) dc_L_law_621 (nI_add (6 * j) 2) ?_
        refine g_scr (pc := 622) (6 * j + 2) dc_L_law_622 (by omega) hN e2 ?_
        refine g_v2 (pc := 623) (M' := mt_W_asking) dc_L_law_623 mo_W_asking im_W_asking se_W_asking ln_L_106 c1.1.1 rfl rfl (Nat.le_of_ble_eq_true rfl) (Nat.le_of_ble_eq_true rfl) (am_G.mono (c0_W_asking (d := 55) (k := k) c1.1 c3.1 hqw.2.2 (by rw [hqe.2.2.1]; exact hk9)) ?_)
        intro r h1 hq
        rw [hq.1, hq.2, hqe.2.2.2]
        clear hq h1 r
        refine ⟨am_nti _, ?_⟩
        refine g_aload_n (pc := 626) dc_L_law_626 rfl ?_
        refine g_xload_n (pc := 627) dc_L_law_627 rfl ?_
        refine g_iload (pc := 628) dc_L_law_628 rfl ?_
        refine g_iconst (pc := 630) (v := 1) dc_L_law_630 rfl ?_
        refine g_iadd (pc := 631) (v := (nI (6 * j + 1))) dc_L_law_631 (nI_add (6 * j) 1) ?_
        refine g_scr (pc := 632) (6 * j + 1) dc_L_law_632 (by omega) hN e1 ?_
        refine g_xload_n (pc := 633) dc_L_law_633 rfl ?_
        refine g_iload (pc := 634) dc_L_law_634 rfl ?_
        refine g_iconst (pc := 636) (v := 2) dc_L_law_636 rfl ?_
        refine g_iadd (pc := 637) (v := (nI (6 * j + 2))) dc_L_law_637 (nI_add (6 * j) 2) ?_
        refine g_scr (pc := 638) (6 * j + 2) dc_L_law_638 (by omega) hN e2 ?_
        refine g_v2 (pc := 639) (M' := mt_M_asking) dc_L_law_639 mo_M_asking im_M_asking se_M_asking ln_L_109 (mp_o hA) rfl rfl (Nat.le_of_ble_eq_true rfl) (Nat.le_of_ble_eq_true rfl) (am_G.mono (c0_M_asking (d := 57) hA m3.2.2.2.1 hqw.2.1 hk9) ?_)
        intro r h1 hq
        rw [hq.1, hq.2]
        clear hq h1 r
        refine ⟨am_nti _, ?_⟩
        refine g_icmp_eq (pc := 642) (tgt := 873) dc_L_law_642 rfl (fun hc642 => ?_) (fun hc => absurd hc (fun h9 => h9 rfl))
        exact KK _ (inv_s hA ho c1 c2 c3 c4 c5 m1 m2 m3 m4 hM hp hr ((mA.rf S).a_fault _ (by decide) : mA [2] S (S.s_fault 0)) (by decide))
      · show am_G X mt_L_law 60 610 [some (.retAddr 300), some (.ref 0), some (.ref 84), some (.ref 135), some (.int (nI (6 * j))), none, none] [] (mput A S B) Q
        refine g_aload_n (pc := 610) dc_L_law_610 rfl ?_
        refine g_xload_n (pc := 611) dc_L_law_611 rfl ?_
        refine g_iload (pc := 612) dc_L_law_612 rfl ?_
        refine g_iconst (pc := 614) (v := 1) dc_L_law_614 rfl ?_
        refine g_iadd (pc := 615) (v := (nI (6 * j + 1))) dc_L_law_615 (nI_add (6 * j) 1) ?_
        refine g_scr (pc := 616) (6 * j + 1) dc_L_law_616 (by omega) hN e1 ?_
        refine g_xload_n (pc := 617) dc_L_law_617 rfl ?_
        refine g_iload (pc := 618) dc_L_law_618 rfl ?_
        refine g_iconst (pc := 620) (v := 2) dc_L_law_620 rfl ?_
        refine g_iadd (pc := 621) (v := (nI (6 * j + 2))) dc_L_law_621 (nI_add (6 * j) 2) ?_
        refine g_scr (pc := 622) (6 * j + 2) dc_L_law_622 (by omega) hN e2 ?_
        refine g_v2 (pc := 623) (M' := mt_W_asking) dc_L_law_623 mo_W_asking im_W_asking se_W_asking ln_L_106 c1.1.1 rfl rfl (Nat.le_of_ble_eq_true rfl) (Nat.le_of_ble_eq_true rfl) (am_G.mono (c1_W_asking (d := 55) (k := k) c1.1 ⟨_, c1.2.2.1⟩ c3.1 hqw.2.2 (by rw [hqe.2.2.1]; exact hk9)) ?_)
        intro r h1 hz
        rw [hqe.2.2.1] at hz
        obtain ⟨y1, w1, g1, b3⟩ := hz
        rw [y1]
        clear y1 r
        obtain ⟨A1, B1, hA1, rfl, ho1⟩ := af_W g1 hA ho (by decide)
        refine ⟨am_nti _, ?_⟩
        refine g_aload_n (pc := 626) dc_L_law_626 rfl ?_
        refine g_xload_n (pc := 627) dc_L_law_627 rfl ?_
        refine g_iload (pc := 628) dc_L_law_628 rfl ?_
        refine g_iconst (pc := 630) (v := 1) dc_L_law_630 rfl ?_
        refine g_iadd (pc := 631) (v := (nI (6 * j + 1))) dc_L_law_631 (nI_add (6 * j) 1) ?_
        refine g_scr (pc := 632) (6 * j + 1) dc_L_law_632 (by omega) hN e1 ?_
        refine g_xload_n (pc := 633) dc_L_law_633 rfl ?_
        refine g_iload (pc := 634) dc_L_law_634 rfl ?_
        refine g_iconst (pc := 636) (v := 2) dc_L_law_636 rfl ?_
        refine g_iadd (pc := 637) (v := (nI (6 * j + 2))) dc_L_law_637 (nI_add (6 * j) 2) ?_
        refine g_scr (pc := 638) (6 * j + 2) dc_L_law_638 (by omega) hN e2 ?_
        refine g_v2 (pc := 639) (M' := mt_M_asking) dc_L_law_639 mo_M_asking im_M_asking se_M_asking ln_L_109 (mp_o hA1) rfl rfl (Nat.le_of_ble_eq_true rfl) (Nat.le_of_ble_eq_true rfl) (am_G.mono (c1_M_asking (d := 57) hA1 hM.1 hM.2.1 m3.2.2.2.1 hqw.2.1 hk9) ?_)
        intro r h9 hz
        obtain ⟨y1, S1, y2, em, pr⟩ := hz
        rw [y1, y2]
        clear y1 y2 h9 r
        refine ⟨am_nti _, ?_⟩
        refine g_icmp_eq (pc := 642) (tgt := 873) dc_L_law_642 rfl (fun hc642 => ?_) (fun hc => absurd hc (fun h9 => h9 rfl))
        exact KK _ (inv_mk hA1 ho1 (C1_p3 c1 g1 b3) (c2.fr g1 (by decide) (by decide)) (c3.fr g1 (by decide)) (c4.fr g1 (by decide)) (c5.fr g1 (by decide)) ⟨m1.1.m em (by decide) (by decide), pr⟩ (m2.m em (by decide)) (m3.m em (by decide)) (m4.m em (by decide)) (hM.m em (by decide)) (hp.nx (g1.2.1 27 (by decide)) (g1.2.1 98 (by decide))) (hr.fr g1))
theorem op_8 {X : am_X} {Q : Option Value → List va_E → Prop} {j : Nat} {h : List va_E} (hl9 : X.1.stackTraces = false) (hj : j < 512) (hk : 6 * j + 6 ≤ X.2.2.2.2.2.1) (hN : X.2.2.2.2.2.1 ≤ 3072) (hI : INV j h) (KK : ∀ h1, INV (j + 1) h1 → am_G X mt_L_law 60 873 (LO j) [] h1 Q) : am_G X mt_L_law 60 410 (LO j) [] h Q := by
  obtain ⟨w, A, S, B, T, Y, U, L, D, P, Rs, Rt, sett, Sd, st9, lim, q, K0, pn, H, ⟨hA, rfl, ho⟩, ⟨c1, c2, c3, c4, c5⟩, ⟨m1, m2, m3, m4, hM⟩, hp, hr⟩ := hI
  have hb := hp.bd hj
  have hL8 := m1.1.2.2.1
  have hqe := hp.qe
  have hqw := hp.qw
  obtain ⟨p1, e1⟩ : ∃ p, X.2.2.2.2.2.2 (6 * j + 1) = p := ⟨_, rfl⟩
  obtain ⟨p2, e2⟩ : ∃ p, X.2.2.2.2.2.2 (6 * j + 2) = p := ⟨_, rfl⟩
  cases e : stG p1 p2 with
  | none =>
    show am_G X mt_L_law 60 410 [some (.retAddr 300), some (.ref 0), some (.ref 84), some (.ref 135), some (.int (nI (6 * j))), none, none] [] (mput A S B) Q
    refine g_aload_n (pc := 410) dc_L_law_410 rfl ?_
    refine g_xload_n (pc := 411) dc_L_law_411 rfl ?_
    refine g_iload (pc := 412) dc_L_law_412 rfl ?_
    refine g_iconst (pc := 414) (v := 1) dc_L_law_414 rfl ?_
    refine g_iadd (pc := 415) (v := (nI (6 * j + 1))) dc_L_law_415 (nI_add (6 * j) 1) ?_
    refine g_scr (pc := 416) (6 * j + 1) dc_L_law_416 (by omega) hN e1 ?_
    refine g_xload_n (pc := 417) dc_L_law_417 rfl ?_
    refine g_iload (pc := 418) dc_L_law_418 rfl ?_
    refine g_iconst (pc := 420) (v := 2) dc_L_law_420 rfl ?_
    refine g_iadd (pc := 421) (v := (nI (6 * j + 2))) dc_L_law_421 (nI_add (6 * j) 2) ?_
    refine g_scr (pc := 422) (6 * j + 2) dc_L_law_422 (by omega) hN e2 ?_
    refine g_v2 (pc := 423) (M' := mt_W_set) dc_L_law_423 mo_W_set im_W_set se_W_set ln_L_64 c1.1.1 rfl rfl (Nat.le_of_ble_eq_true rfl) (Nat.le_of_ble_eq_true rfl) (am_G.mono (w_W_set (d := 59) c1.1 c2.2.1) ?_)
    intro r h1 hz
    rw [e] at hz
    rw [hz.1, hz.2]
    clear hz h1 r
    refine ⟨am_nti _, ?_⟩
    refine g_aload_n (pc := 426) dc_L_law_426 rfl ?_
    refine g_xload_n (pc := 427) dc_L_law_427 rfl ?_
    refine g_iload (pc := 428) dc_L_law_428 rfl ?_
    refine g_iconst (pc := 430) (v := 1) dc_L_law_430 rfl ?_
    refine g_iadd (pc := 431) (v := (nI (6 * j + 1))) dc_L_law_431 (nI_add (6 * j) 1) ?_
    refine g_scr (pc := 432) (6 * j + 1) dc_L_law_432 (by omega) hN e1 ?_
    refine g_xload_n (pc := 433) dc_L_law_433 rfl ?_
    refine g_iload (pc := 434) dc_L_law_434 rfl ?_
    refine g_iconst (pc := 436) (v := 2) dc_L_law_436 rfl ?_
    refine g_iadd (pc := 437) (v := (nI (6 * j + 2))) dc_L_law_437 (nI_add (6 * j) 2) ?_
    refine g_scr (pc := 438) (6 * j + 2) dc_L_law_438 (by omega) hN e2 ?_
    refine g_v2 (pc := 439) (M' := mt_M_set) dc_L_law_439 mo_M_set im_M_set se_M_set ln_L_68 (mp_o hA) rfl rfl (Nat.le_of_ble_eq_true rfl) (Nat.le_of_ble_eq_true rfl) (am_G.mono (c_M_set (d := 59) hA m2.2.2.1) ?_)
    intro r h1 hz
    rw [e] at hz
    rw [hz.1, hz.2]
    clear hz h1 r
    refine ⟨am_nti _, ?_⟩
    refine g_icmp_eq (pc := 442) (tgt := 873) dc_L_law_442 rfl (fun _ => ?_) (fun hc => absurd hc (by decide))
    exact KK _ (inv_s hA ho c1 c2 c3 c4 c5 m1 m2 m3 m4 hM hp hr ((mA.rf S).a_fault _ (by decide) : mA [2] S (S.s_fault 0)) (by decide))
  | some z =>
    show am_G X mt_L_law 60 410 [some (.retAddr 300), some (.ref 0), some (.ref 84), some (.ref 135), some (.int (nI (6 * j))), none, none] [] (mput A S B) Q
    refine g_aload_n (pc := 410) dc_L_law_410 rfl ?_
    refine g_xload_n (pc := 411) dc_L_law_411 rfl ?_
    refine g_iload (pc := 412) dc_L_law_412 rfl ?_
    refine g_iconst (pc := 414) (v := 1) dc_L_law_414 rfl ?_
    refine g_iadd (pc := 415) (v := (nI (6 * j + 1))) dc_L_law_415 (nI_add (6 * j) 1) ?_
    refine g_scr (pc := 416) (6 * j + 1) dc_L_law_416 (by omega) hN e1 ?_
    refine g_xload_n (pc := 417) dc_L_law_417 rfl ?_
    refine g_iload (pc := 418) dc_L_law_418 rfl ?_
    refine g_iconst (pc := 420) (v := 2) dc_L_law_420 rfl ?_
    refine g_iadd (pc := 421) (v := (nI (6 * j + 2))) dc_L_law_421 (nI_add (6 * j) 2) ?_
    refine g_scr (pc := 422) (6 * j + 2) dc_L_law_422 (by omega) hN e2 ?_
    refine g_v2 (pc := 423) (M' := mt_W_set) dc_L_law_423 mo_W_set im_W_set se_W_set ln_L_64 c1.1.1 rfl rfl (Nat.le_of_ble_eq_true rfl) (Nat.le_of_ble_eq_true rfl) (am_G.mono (w_W_set (d := 59) c1.1 c2.2.1) ?_)
    intro r h1 hz
    rw [e] at hz
    obtain ⟨y1, w1, g1, s1⟩ := hz
    rw [y1]
    clear y1 r
    obtain ⟨A1, B1, hA1, rfl, ho1⟩ := af_W g1 hA ho (by decide)
    refine ⟨am_nti _, ?_⟩
    refine g_aload_n (pc := 426) dc_L_law_426 rfl ?_
    refine g_xload_n (pc := 427) dc_L_law_427 rfl ?_
    refine g_iload (pc := 428) dc_L_law_428 rfl ?_
    refine g_iconst (pc := 430) (v := 1) dc_L_law_430 rfl ?_
    refine g_iadd (pc := 431) (v := (nI (6 * j + 1))) dc_L_law_431 (nI_add (6 * j) 1) ?_
    refine g_scr (pc := 432) (6 * j + 1) dc_L_law_432 (by omega) hN e1 ?_
    refine g_xload_n (pc := 433) dc_L_law_433 rfl ?_
    refine g_iload (pc := 434) dc_L_law_434 rfl ?_
    refine g_iconst (pc := 436) (v := 2) dc_L_law_436 rfl ?_
    refine g_iadd (pc := 437) (v := (nI (6 * j + 2))) dc_L_law_437 (nI_add (6 * j) 2) ?_
    refine g_scr (pc := 438) (6 * j + 2) dc_L_law_438 (by omega) hN e2 ?_
    refine g_v2 (pc := 439) (M' := mt_M_set) dc_L_law_439 mo_M_set im_M_set se_M_set ln_L_68 (mp_o hA1) rfl rfl (Nat.le_of_ble_eq_true rfl) (Nat.le_of_ble_eq_true rfl) (am_G.mono (c_M_set (d := 59) hA1 m2.2.2.1) ?_)
    intro r h9 hz
    rw [e] at hz
    obtain ⟨y1, S1, y2, em, pr⟩ := hz
    rw [y1, y2]
    clear y1 y2 h9 r
    refine ⟨am_nti _, ?_⟩
    refine g_icmp_eq (pc := 442) (tgt := 873) dc_L_law_442 rfl (fun _ => ?_) (fun hc => absurd hc (by decide))
    have hp1 : PU (j + 1) w1 Y U L P Rt Rs (upf sett z.1 z.2) Sd st9 lim q K0 H := by
      have h9 := hp.nx (w1 := w1) (g1.2.1 27 (by decide)) (g1.2.1 98 (by decide))
      exact ⟨⟨h9.1.1, stG_3 e h9.1.2.1, h9.1.2.2⟩, h9.2⟩
    exact KK _ (inv_mk hA1 ho1 (c1.fr g1 (by decide)) ⟨⟨c2.1.1.fr g1 (by decide), c2.1.2.1.fr g1 (by decide) (by decide), c2.1.2.2.fr g1 (by decide)⟩, s1, c2.2.2.fr g1 (by decide) (by decide)⟩ (c3.fr g1 (by decide)) (c4.fr g1 (by decide)) (c5.fr g1 (by decide)) (m1.m em (by decide)) ⟨m2.1.m em (by decide) (by decide) (by decide) (by decide), m2.2.1.m em (by decide) (by decide) (by decide), pr, m2.2.2.2.m em (by decide) (by decide)⟩ (m3.m em (by decide)) (m4.m em (by decide)) (hM.m em (by decide)) hp1 (hr.fr g1))
theorem op_10 {X : am_X} {Q : Option Value → List va_E → Prop} {j : Nat} {h : List va_E} (hl9 : X.1.stackTraces = false) (hj : j < 512) (hk : 6 * j + 6 ≤ X.2.2.2.2.2.1) (hN : X.2.2.2.2.2.1 ≤ 3072) (hI : INV j h) (KK : ∀ h1, INV (j + 1) h1 → am_G X mt_L_law 60 873 (LO j) [] h1 Q) : am_G X mt_L_law 60 460 (LO j) [] h Q := by
  obtain ⟨w, A, S, B, T, Y, U, L, D, P, Rs, Rt, sett, Sd, st9, lim, q, K0, pn, H, ⟨hA, rfl, ho⟩, ⟨c1, c2, c3, c4, c5⟩, ⟨m1, m2, m3, m4, hM⟩, hp, hr⟩ := hI
  have hb := hp.bd hj
  have hL8 := m1.1.2.2.1
  have hqe := hp.qe
  have hqw := hp.qw
  show am_G X mt_L_law 60 460 [some (.retAddr 300), some (.ref 0), some (.ref 84), some (.ref 135), some (.int (nI (6 * j))), none, none] [] (mput A S B) Q
  refine g_aload_n (pc := 460) dc_L_law_460 rfl ?_
  refine g_v0 (pc := 461) (M' := mt_W_noSeeds) dc_L_law_461 mo_W_noSeeds im_W_noSeeds se_W_noSeeds ln_L_73 c1.1.1 rfl rfl (Nat.le_of_ble_eq_true rfl) (Nat.le_of_ble_eq_true rfl) (am_G.mono (w_W_noSeeds (d := 56) c1.1 c2.2.2) ?_)
  intro r h1 hz
  obtain ⟨y1, w1, g1, s1⟩ := hz
  rw [y1]
  clear y1 r
  obtain ⟨A1, B1, hA1, rfl, ho1⟩ := af_W g1 hA ho (by decide)
  refine ⟨am_nt0, ?_⟩
  refine g_aload_n (pc := 464) dc_L_law_464 rfl ?_
  refine g_v0 (pc := 465) (M' := mt_M_noSeeds) dc_L_law_465 mo_M_noSeeds im_M_noSeeds se_M_noSeeds ln_L_76 (mp_o hA1) rfl rfl (Nat.le_of_ble_eq_true rfl) (Nat.le_of_ble_eq_true rfl) (am_G.mono (c_M_noSeeds (d := 59) (T := T) hA1) ?_)
  intro r h9 hz
  obtain ⟨y1, S1, y2, em, pr⟩ := hz
  rw [y1, y2]
  clear y1 y2 h9 r
  refine ⟨am_nt0, ?_⟩
  refine g_goto (pc := 468) (tgt := 873) dc_L_law_468 rfl ?_
  have hp1 : PU (j + 1) w1 Y U L P Rt Rs sett [] st9 lim q K0 H := by
    have h9 := hp.nx (w1 := w1) (g1.2.1 27 (by decide)) (g1.2.1 98 (by decide))
    exact ⟨⟨h9.1.1, h9.1.2.1, fun x hx => absurd hx List.not_mem_nil⟩, h9.2⟩
  exact KK _ (inv_mk hA1 ho1 (c1.fr g1 (by decide)) ⟨⟨c2.1.1.fr g1 (by decide), c2.1.2.1.fr g1 (by decide) (by decide), c2.1.2.2.fr g1 (by decide)⟩, c2.2.1.fr g1 (by decide), s1⟩ (c3.fr g1 (by decide)) (c4.fr g1 (by decide)) (c5.fr g1 (by decide)) (m1.m em (by decide)) ⟨m2.1.m em (by decide) (by decide) (by decide) (by decide), m2.2.1.m em (by decide) (by decide) (by decide), m2.2.2.1.m em (by decide), pr⟩ (m3.m em (by decide)) (m4.m em (by decide)) (hM.m em (by decide)) hp1 (hr.fr g1))
