/-! ===== calls that crawl, find and ask ===== -/
section OP3L
variable {X : am_X} {d : Nat} {w : Gw} {h : List va_E} {st9 : Bool} {lim : Nat → Nat} {K V : Kn} {c : Cw} {st9x : Bool}
theorem n_C_takeStep (hC : cqC w h st9 lim K c V) (hw : wfK K) (hn : nxw K = none) : am_C X mt_C_takeStep (d + 2) [.ref 34] h (fun r h1 => r = some (.int (-1)) ∧ h1 = h) := by
  show am_G X mt_C_takeStep (d + 2) 0 [some (.ref 34), none, none] [] h _
  refine g_aload_n (pc := 0) dc_C_takeStep_0 rfl ?_
  refine g_v0 (pc := 1) (M' := mt_C_nextWaiting) dc_C_takeStep_1 mo_C_nextWaiting im_C_nextWaiting se_C_nextWaiting ln_C_115 hC.1.1 rfl rfl (Nat.le_of_ble_eq_true rfl) (Nat.le_of_ble_eq_true rfl) (am_G.mono (cw_nextWaiting (d := d) hC.1 hC.2.1.1 hC.2.2.2.1 hC.2.2.1 hw) ?_)
  intro r h1 hq
  rw [hq.1, hq.2, hn]
  clear hq h1 r
  refine ⟨am_nti _, ?_⟩
  refine g_istore_n (pc := 4) dc_C_takeStep_4 (by decide) ?_
  show am_G X mt_C_takeStep _ 5 [some (.ref 34), some (.int (-1)), none] [] _ _
  refine g_iload_n (pc := 5) dc_C_takeStep_5 rfl ?_
  refine g_iconst (pc := 6) (v := (-1)) dc_C_takeStep_6 rfl ?_
  refine g_icmp_ne (pc := 7) (tgt := 12) dc_C_takeStep_7 rfl (fun hc => absurd hc (by decide)) (fun _ => ?_)
  refine g_iconst (pc := 10) (v := (-1)) dc_C_takeStep_10 rfl ?_
  exact g_ireturn dc_C_takeStep_11 rfl ⟨rfl, rfl⟩
theorem n_W_step (hW : wO w h) (hC : cqC w h st9 lim K c V) (hw : wfK K) (hn : nxw K = none) : am_C X mt_W_step (d + 3) [.ref 0] h (fun r h1 => r = some (.int (-1)) ∧ h1 = h) := by
  show am_G X mt_W_step (d + 3) 0 [some (.ref 0)] [] h _
  refine g_aload_n (pc := 0) dc_W_step_0 rfl ?_
  refine g_getfield (pc := 1) dc_W_step_1 fl_W_65 hW.1 rfl ?_
  refine g_v0 (pc := 4) (M' := mt_C_takeStep) dc_W_step_4 mo_C_takeStep im_C_takeStep se_C_takeStep ln_W_180 hC.1.1 rfl rfl (Nat.le_of_ble_eq_true rfl) (Nat.le_of_ble_eq_true rfl) (am_G.mono (n_C_takeStep (d := d) hC hw hn) ?_)
  intro r h1 hq
  rw [hq.1, hq.2]
  clear hq h1 r
  refine ⟨am_nti _, ?_⟩
  exact g_ireturn dc_W_step_7 rfl ⟨rfl, rfl⟩
end OP3L
theorem op_11 {X : am_X} {Q : Option Value → List va_E → Prop} {j : Nat} {h : List va_E} (hl9 : X.1.stackTraces = false) (hj : j < 512) (hk : 6 * j + 6 ≤ X.2.2.2.2.2.1) (hN : X.2.2.2.2.2.1 ≤ 3072) (hI : INV j h) (KK : ∀ h1, INV (j + 1) h1 → am_G X mt_L_law 60 873 (LO j) [] h1 Q) : am_G X mt_L_law 60 471 (LO j) [] h Q := by
  obtain ⟨w, A, S, B, T, Y, U, L, D, P, Rs, Rt, sett, Sd, st9, lim, q, K0, pn, H, ⟨hA, rfl, ho⟩, ⟨c1, c2, c3, c4, c5⟩, ⟨m1, m2, m3, m4, hM⟩, hp, hr⟩ := hI
  have hb := hp.bd hj
  have hL8 := m1.1.2.2.1
  have hqe := hp.qe
  have hqw := hp.qw
  show am_G X mt_L_law 60 471 [some (.retAddr 300), some (.ref 0), some (.ref 84), some (.ref 135), some (.int (nI (6 * j))), none, none] [] (mput A S B) Q
  refine g_aload_n (pc := 471) dc_L_law_471 rfl ?_
  refine g_v0 (pc := 472) (M' := mt_W_start) dc_L_law_472 mo_W_start im_W_start se_W_start ln_L_77 c1.1.1 rfl rfl (Nat.le_of_ble_eq_true rfl) (Nat.le_of_ble_eq_true rfl) (am_G.mono (w_W_start (d := 53) hp.1.2.2 m2.2.2.2.2.1 m2.2.2.1.2.1 m2.2.2.1.2.2.1 c1.1 c3.1 c2.2.1 c2.2.2) ?_)
  intro r h1 hz
  obtain ⟨y1, w1, g1, s1⟩ := hz
  rw [y1]
  clear y1 r
  obtain ⟨A1, B1, hA1, rfl, ho1⟩ := af_W g1 hA ho (by decide)
  refine ⟨am_nti _, ?_⟩
  refine g_aload_n (pc := 475) dc_L_law_475 rfl ?_
  refine g_v0 (pc := 476) (M' := mt_M_start) dc_L_law_476 mo_M_start im_M_start se_M_start ln_L_80 (mp_o hA1) rfl rfl (Nat.le_of_ble_eq_true rfl) (Nat.le_of_ble_eq_true rfl) (am_G.mono (c_M_start (d := 56) hA1 hM m2.1 m2.2.1 m2.2.2.1 m2.2.2.2 hp.1.2.2) ?_)
  intro r h9 hz
  obtain ⟨y1, S1, y2, em, es, pr⟩ := hz
  rw [y1, y2]
  clear y1 y2 h9 r
  refine ⟨am_nti _, ?_⟩
  refine g_icmp_eq (pc := 479) (tgt := 873) dc_L_law_479 rfl (fun hc479 => ?_) (fun hc => absurd hc (fun h9 => h9 rfl))
  have hlm : lmO sett := m2.2.2.1.2
  have hp1 : PU (j + 1) w1 Y U L P Rt Rs sett Sd true sett (sta sett Sd) K0 H := by
    have h9 := hp.nx (w1 := w1) (g1.2.1 27 (by decide)) (g1.2.1 98 (by decide))
    exact ⟨h9.1, h9.2.1, ⟨fun _ => ⟨sta_J hlm h9.1.2.1 h9.1.2.2, hlm, h9.1.2.1, sta_U, Nat.le_add_left 1 j⟩, fun h8 => (by cases h8)⟩, h9.2.2.2.1, h9.2.2.2.2.1, h9.2.2.2.2.2.1, Nat.zero_le _, h9.2.2.2.2.2.2.2⟩
  have c31 : C3 w1 (mput A1 S B1) true sett (sta sett Sd) := ⟨s1, c3.2.fr g1 (by decide)⟩
  exact KK _ (inv_mk hA1 ho1 (c1.fr g1 (by decide)) (c2.fr g1 (by decide) (by decide)) c31 (c4.fr g1 (by decide)) (c5.fr g1 (by decide)) (m1.m em (by decide)) (m2.m em (by decide)) (M3.of pr es) (m4.m em (by decide)) (hM.m em (by decide)) hp1 (hr.fr g1))
theorem op_14 {X : am_X} {Q : Option Value → List va_E → Prop} {j : Nat} {h : List va_E} (hl9 : X.1.stackTraces = false) (hj : j < 512) (hk : 6 * j + 6 ≤ X.2.2.2.2.2.1) (hN : X.2.2.2.2.2.1 ≤ 3072) (hI : INV j h) (KK : ∀ h1, INV (j + 1) h1 → am_G X mt_L_law 60 873 (LO j) [] h1 Q) : am_G X mt_L_law 60 522 (LO j) [] h Q := by
  obtain ⟨w, A, S, B, T, Y, U, L, D, P, Rs, Rt, sett, Sd, st9, lim, q, K0, pn, H, ⟨hA, rfl, ho⟩, ⟨c1, c2, c3, c4, c5⟩, ⟨m1, m2, m3, m4, hM⟩, hp, hr⟩ := hI
  have hb := hp.bd hj
  have hL8 := m1.1.2.2.1
  have hqe := hp.qe
  have hqw := hp.qw
  cases st9 with
  | false =>
    show am_G X mt_L_law 60 522 [some (.retAddr 300), some (.ref 0), some (.ref 84), some (.ref 135), some (.int (nI (6 * j))), none, none] [] (mput A S B) Q
    refine g_aload_n (pc := 522) dc_L_law_522 rfl ?_
    refine g_v0 (pc := 523) (M' := mt_W_crash) dc_L_law_523 mo_W_crash im_W_crash se_W_crash ln_L_89 c1.1.1 rfl rfl (Nat.le_of_ble_eq_true rfl) (Nat.le_of_ble_eq_true rfl) (am_G.mono (n_W_crash (d := 56) c1.1 c3.1) ?_)
    intro r h1 hq
    rw [hq.1, hq.2]
    clear hq h1 r
    refine ⟨am_nti _, ?_⟩
    refine g_aload_n (pc := 526) dc_L_law_526 rfl ?_
    refine g_v0 (pc := 527) (M' := mt_M_crash) dc_L_law_527 mo_M_crash im_M_crash se_M_crash ln_L_92 (mp_o hA) rfl rfl (Nat.le_of_ble_eq_true rfl) (Nat.le_of_ble_eq_true rfl) (am_G.mono (n_M_crash (d := 59) hA m3.1) ?_)
    intro r h1 hq
    rw [hq.1, hq.2]
    clear hq h1 r
    refine ⟨am_nti _, ?_⟩
    refine g_icmp_eq (pc := 530) (tgt := 873) dc_L_law_530 rfl (fun _ => ?_) (fun hc => absurd hc (by decide))
    exact KK _ (inv_s hA ho c1 c2 c3 c4 c5 m1 m2 m3 m4 hM hp hr ((mA.rf S).a_fault _ (by decide) : mA [2] S (S.s_fault 0)) (by decide))
  | true =>
    obtain ⟨j1, j2, j3, j4, j5⟩ := hp.2.2.1.1 rfl
    show am_G X mt_L_law 60 522 [some (.retAddr 300), some (.ref 0), some (.ref 84), some (.ref 135), some (.int (nI (6 * j))), none, none] [] (mput A S B) Q
    refine g_aload_n (pc := 522) dc_L_law_522 rfl ?_
    refine g_v0 (pc := 523) (M' := mt_W_crash) dc_L_law_523 mo_W_crash im_W_crash se_W_crash ln_L_89 c1.1.1 rfl rfl (Nat.le_of_ble_eq_true rfl) (Nat.le_of_ble_eq_true rfl) (am_G.mono (w_W_crash (d := 56) (q := q) c1.1 c3.1 j1.1) ?_)
    intro r h1 hz
    obtain ⟨y1, w1, g1, s1⟩ := hz
    rw [y1]
    clear y1 r
    obtain ⟨A1, B1, hA1, rfl, ho1⟩ := af_W g1 hA ho (by decide)
    refine ⟨am_nti _, ?_⟩
    refine g_aload_n (pc := 526) dc_L_law_526 rfl ?_
    refine g_v0 (pc := 527) (M' := mt_M_crash) dc_L_law_527 mo_M_crash im_M_crash se_M_crash ln_L_92 (mp_o hA1) rfl rfl (Nat.le_of_ble_eq_true rfl) (Nat.le_of_ble_eq_true rfl) (am_G.mono (c_M_crash (d := 58) hA1 (m3.cq hM m2) j1.1.2.1 j1.1.2.2.2.2.1.1.length_le j1.1.1.1 m3.1) ?_)
    intro r h9 hz
    obtain ⟨y1, S1, y2, em, pr⟩ := hz
    rw [y1, y2]
    clear y1 y2 h9 r
    refine ⟨am_nti _, ?_⟩
    refine g_icmp_eq (pc := 530) (tgt := 873) dc_L_law_530 rfl (fun _ => ?_) (fun hc => absurd hc (by decide))
    have hp1 : PU (j + 1) w1 Y U L P Rt Rs sett Sd true lim (crq q) K0 H := by
      have h9 := hp.nx (w1 := w1) (g1.2.1 27 (by decide)) (g1.2.1 98 (by decide))
      exact ⟨h9.1, h9.2.1, ⟨fun _ => ⟨crq_J j3 j1, j2, j3, ⟨j4.2, j4.2⟩, Nat.le_add_left 1 j⟩, fun h8 => (by cases h8)⟩, h9.2.2.2⟩
    have c31 : C3 w1 (mput A1 S B1) true lim (crq q) := ⟨s1, c3.2.fr g1 (by decide)⟩
    exact KK _ (inv_mk hA1 ho1 (c1.fr g1 (by decide)) (c2.fr g1 (by decide) (by decide)) c31 (c4.fr g1 (by decide)) (c5.fr g1 (by decide)) (m1.m em (by decide)) (m2.m em (by decide)) (M3.of pr ((em.isStarted (by decide)).trans m3.1)) (m4.m em (by decide)) (hM.m em (by decide)) hp1 (hr.fr g1))
theorem op_12 {X : am_X} {Q : Option Value → List va_E → Prop} {j : Nat} {h : List va_E} (hl9 : X.1.stackTraces = false) (hj : j < 512) (hk : 6 * j + 6 ≤ X.2.2.2.2.2.1) (hN : X.2.2.2.2.2.1 ≤ 3072) (hI : INV j h) (KK : ∀ h1, INV (j + 1) h1 → am_G X mt_L_law 60 873 (LO j) [] h1 Q) : am_G X mt_L_law 60 484 (LO j) [] h Q := by
  obtain ⟨w, A, S, B, T, Y, U, L, D, P, Rs, Rt, sett, Sd, st9, lim, q, K0, pn, H, ⟨hA, rfl, ho⟩, ⟨c1, c2, c3, c4, c5⟩, ⟨m1, m2, m3, m4, hM⟩, hp, hr⟩ := hI
  have hb := hp.bd hj
  have hL8 := m1.1.2.2.1
  have hqe := hp.qe
  have hqw := hp.qw
  have hfw := wfW_of m2 hM hp.2.1.1 hp.1.1
  cases st9 with
  | false =>
    show am_G X mt_L_law 60 484 [some (.retAddr 300), some (.ref 0), some (.ref 84), some (.ref 135), some (.int (nI (6 * j))), none, none] [] (mput A S B) Q
    refine g_aload_n (pc := 484) dc_L_law_484 rfl ?_
    refine g_v0 (pc := 485) (M' := mt_W_step) dc_L_law_485 mo_W_step im_W_step se_W_step ln_L_81 c1.1.1 rfl rfl (Nat.le_of_ble_eq_true rfl) (Nat.le_of_ble_eq_true rfl) (am_G.mono (n_W_step (d := 56) c1.1 c3.1 wfK00 rfl) ?_)
    intro r h1 hq
    rw [hq.1, hq.2]
    clear hq h1 r
    refine ⟨am_nti _, ?_⟩
    refine g_aload_n (pc := 488) dc_L_law_488 rfl ?_
    refine g_v0 (pc := 489) (M' := mt_M_step) dc_L_law_489 mo_M_step im_M_step se_M_step ln_L_84 (mp_o hA) rfl rfl (Nat.le_of_ble_eq_true rfl) (Nat.le_of_ble_eq_true rfl) (am_G.mono (n_M_step (d := 48) hA m3.1) ?_)
    intro r h1 hq
    rw [hq.1, hq.2]
    clear hq h1 r
    refine ⟨am_nti _, ?_⟩
    refine g_icmp_eq (pc := 492) (tgt := 873) dc_L_law_492 rfl (fun _ => ?_) (fun hc => absurd hc (by decide))
    exact KK _ (inv_s hA ho c1 c2 c3 c4 c5 m1 m2 m3 m4 hM hp hr ((mA.rf S).a_fault _ (by decide) : mA [2] S (S.s_fault 0)) (by decide))
  | true =>
    obtain ⟨j1, j2, j3, j4, j5⟩ := hp.2.2.1.1 rfl
    have han := hp.2.2.2.2.2.2.1
    have h128 : q.2.1.an < 128000 := by omega
    cases e : stp lim P Rs Rt q with
    | none =>
      show am_G X mt_L_law 60 484 [some (.retAddr 300), some (.ref 0), some (.ref 84), some (.ref 135), some (.int (nI (6 * j))), none, none] [] (mput A S B) Q
      refine g_aload_n (pc := 484) dc_L_law_484 rfl ?_
      refine g_v0 (pc := 485) (M' := mt_W_step) dc_L_law_485 mo_W_step im_W_step se_W_step ln_L_81 c1.1.1 rfl rfl (Nat.le_of_ble_eq_true rfl) (Nat.le_of_ble_eq_true rfl) (am_G.mono (w_W_step (d := 48) (q := q) c1.1 c3.1 c3.2 c1.2.2.2.2.1 c2.1 hfw j2 j1.1 h128) ?_)
      intro r h1 hz
      rw [e] at hz
      rw [hz.1, hz.2]
      clear hz h1 r
      refine ⟨am_nti _, ?_⟩
      refine g_aload_n (pc := 488) dc_L_law_488 rfl ?_
      refine g_v0 (pc := 489) (M' := mt_M_step) dc_L_law_489 mo_M_step im_M_step se_M_step ln_L_84 (mp_o hA) rfl rfl (Nat.le_of_ble_eq_true rfl) (Nat.le_of_ble_eq_true rfl) (am_G.mono (c_M_step (d := 48) (q := q) hA hb.2.1 hp.2.1.1 hp.2.1.2.1 (m3.cq hM m2) hfw.1 h128 j1.1.1 j1.1.2.1 m3.1) ?_)
      intro r h9 hz
      rw [e] at hz
      obtain ⟨y1, S1, y2, em, pr⟩ := hz
      rw [y1, y2]
      clear y1 y2 h9 r
      refine ⟨am_nti _, ?_⟩
      refine g_icmp_eq (pc := 492) (tgt := 873) dc_L_law_492 rfl (fun _ => ?_) (fun hc => absurd hc (by decide))
      exact KK _ (inv_mk hA ho c1 c2 c3 c4 c5 (m1.m em (by decide)) (m2.m em (by decide)) (M3.of pr ((em.isStarted (by decide)).trans m3.1)) (m4.m em (by decide)) pr.1.1 (hp.nx rfl rfl) hr)
    | some z =>
      have hsj := stp_J e j2 j3 hfw.1 j1 h128
      have hsu := stp_U e hp.2.1.2.1 j4.1 j4.2
      show am_G X mt_L_law 60 484 [some (.retAddr 300), some (.ref 0), some (.ref 84), some (.ref 135), some (.int (nI (6 * j))), none, none] [] (mput A S B) Q
      refine g_aload_n (pc := 484) dc_L_law_484 rfl ?_
      refine g_v0 (pc := 485) (M' := mt_W_step) dc_L_law_485 mo_W_step im_W_step se_W_step ln_L_81 c1.1.1 rfl rfl (Nat.le_of_ble_eq_true rfl) (Nat.le_of_ble_eq_true rfl) (am_G.mono (w_W_step (d := 48) (q := q) c1.1 c3.1 c3.2 c1.2.2.2.2.1 c2.1 hfw j2 j1.1 h128) ?_)
      intro r h1 hz
      rw [e] at hz
      obtain ⟨y1, w1, g1, s1, s2, s3⟩ := hz
      rw [y1]
      clear y1 r
      obtain ⟨A1, B1, hA1, rfl, ho1⟩ := af_W g1 hA ho (by decide)
      refine ⟨am_nti _, ?_⟩
      refine g_aload_n (pc := 488) dc_L_law_488 rfl ?_
      refine g_v0 (pc := 489) (M' := mt_M_step) dc_L_law_489 mo_M_step im_M_step se_M_step ln_L_84 (mp_o hA1) rfl rfl (Nat.le_of_ble_eq_true rfl) (Nat.le_of_ble_eq_true rfl) (am_G.mono (c_M_step (d := 48) (q := q) hA1 hb.2.1 hp.2.1.1 hp.2.1.2.1 (m3.cq hM m2) hfw.1 h128 j1.1.1 j1.1.2.1 m3.1) ?_)
      intro r h9 hz
      rw [e] at hz
      obtain ⟨y1, S1, T1, y2, em, hpre, pr⟩ := hz
      rw [y1, y2]
      clear y1 y2 h9 r
      refine ⟨am_nti _, ?_⟩
      refine g_icmp_eq (pc := 492) (tgt := 873) dc_L_law_492 rfl (fun hc492 => ?_) (fun hc => absurd hc (fun h9 => h9 rfl))
      have hp1 : PU (j + 1) w1 Y U L P Rt Rs sett Sd true lim z.2 K0 H := by
        have h9 := hp.nx (w1 := w1) (g1.2.1 27 (by decide)) (g1.2.1 98 (by decide))
        exact ⟨h9.1, h9.2.1, ⟨fun _ => ⟨hsj.1, j2, j3, hsu, Nat.le_add_left 1 j⟩, fun h8 => (by cases h8)⟩, h9.2.2.2.1, h9.2.2.2.2.1, h9.2.2.2.2.2.1, (by have h7 := hsj.2.1; omega), h9.2.2.2.2.2.2.2⟩
      have c31 : C3 w1 (mput A1 S B1) true lim z.2 := ⟨s1, s2⟩
      have c11 : C1 w1 (mput A1 S B1) L D := ⟨c1.1.fr g1 (by decide), c1.2.1.fr g1 (by decide), c1.2.2.1.fr g1 (by decide), c1.2.2.2.1.fr g1 (by decide), s3, by obtain ⟨Tx, hTx⟩ := c1.2.2.2.2.2; exact ⟨Tx, hTx.fr g1 (by decide) (by decide)⟩⟩
      exact KK _ (inv_mk hA1 ho1 c11 (c2.fr g1 (by decide) (by decide)) c31 (c4.fr g1 (by decide)) (c5.fr g1 (by decide)) (m1.m em (by decide)) ((m2.m em (by decide)).pre hpre (List.prefix_refl Y)) (M3.of pr ((em.isStarted (by decide)).trans m3.1)) ((m4.m em (by decide)).pre hpre (List.prefix_refl Y)) pr.1.1 hp1 (hr.fr g1))
theorem op_13 {X : am_X} {Q : Option Value → List va_E → Prop} {j : Nat} {h : List va_E} (hl9 : X.1.stackTraces = false) (hj : j < 512) (hk : 6 * j + 6 ≤ X.2.2.2.2.2.1) (hN : X.2.2.2.2.2.1 ≤ 3072) (hI : INV j h) (KK : ∀ h1, INV (j + 1) h1 → am_G X mt_L_law 60 873 (LO j) [] h1 Q) : am_G X mt_L_law 60 497 (LO j) [] h Q := by
  obtain ⟨w, A, S, B, T, Y, U, L, D, P, Rs, Rt, sett, Sd, st9, lim, q, K0, pn, H, ⟨hA, rfl, ho⟩, ⟨c1, c2, c3, c4, c5⟩, ⟨m1, m2, m3, m4, hM⟩, hp, hr⟩ := hI
  have hb := hp.bd hj
  have hL8 := m1.1.2.2.1
  have hqe := hp.qe
  have hqw := hp.qw
  obtain ⟨p1, e1⟩ : ∃ p, X.2.2.2.2.2.2 (6 * j + 1) = p := ⟨_, rfl⟩
  have hfw := wfW_of m2 hM hp.2.1.1 hp.1.1
  cases st9 with
  | false =>
    show am_G X mt_L_law 60 497 [some (.retAddr 300), some (.ref 0), some (.ref 84), some (.ref 135), some (.int (nI (6 * j))), none, none] [] (mput A S B) Q
    refine g_aload_n (pc := 497) dc_L_law_497 rfl ?_
    refine g_xload_n (pc := 498) dc_L_law_498 rfl ?_
    refine g_iload (pc := 499) dc_L_law_499 rfl ?_
    refine g_iconst (pc := 501) (v := 1) dc_L_law_501 rfl ?_
    refine g_iadd (pc := 502) (v := (nI (6 * j + 1))) dc_L_law_502 (nI_add (6 * j) 1) ?_
    refine g_scr (pc := 503) (6 * j + 1) dc_L_law_503 (by omega) hN e1 ?_
    refine g_v1 (pc := 504) (M' := mt_W_run) dc_L_law_504 mo_W_run im_W_run se_W_run ln_L_85 c1.1.1 rfl rfl (Nat.le_of_ble_eq_true rfl) (Nat.le_of_ble_eq_true rfl) (am_G.mono (n_W_run (d := 48) c1.1 c3.1 (Or.inl rfl)) ?_)
    intro r h1 hq
    rw [hq.1, hq.2]
    clear hq h1 r
    refine ⟨am_nti _, ?_⟩
    refine g_aload_n (pc := 507) dc_L_law_507 rfl ?_
    refine g_xload_n (pc := 508) dc_L_law_508 rfl ?_
    refine g_iload (pc := 509) dc_L_law_509 rfl ?_
    refine g_iconst (pc := 511) (v := 1) dc_L_law_511 rfl ?_
    refine g_iadd (pc := 512) (v := (nI (6 * j + 1))) dc_L_law_512 (nI_add (6 * j) 1) ?_
    refine g_scr (pc := 513) (6 * j + 1) dc_L_law_513 (by omega) hN e1 ?_
    refine g_v1 (pc := 514) (M' := mt_M_run) dc_L_law_514 mo_M_run im_M_run se_M_run ln_L_88 (mp_o hA) rfl rfl (Nat.le_of_ble_eq_true rfl) (Nat.le_of_ble_eq_true rfl) (am_G.mono (n_M_run (d := 47) hA (Or.inl m3.1)) ?_)
    intro r h1 hq
    rw [hq.1, hq.2]
    clear hq h1 r
    refine ⟨am_nti _, ?_⟩
    refine g_icmp_eq (pc := 517) (tgt := 873) dc_L_law_517 rfl (fun _ => ?_) (fun hc => absurd hc (by decide))
    exact KK _ (inv_s hA ho c1 c2 c3 c4 c5 m1 m2 m3 m4 hM hp hr ((mA.rf S).a_fault _ (by decide) : mA [2] S (S.s_fault 0)) (by decide))
  | true =>
    obtain ⟨j1, j2, j3, j4, j5⟩ := hp.2.2.1.1 rfl
    have han := hp.2.2.2.2.2.2.1
    have h127 : q.2.1.an + 250 ≤ 127900 := by omega
    cases e : ixo p1 2147483648 with
    | none =>
      have hlt := ixo_t e
      have hlp := Int32.toInt_lt p1
      have hneg : p1 < 0 := Int32.lt_iff_toInt_lt.mpr (by show p1.toInt < 0; omega)
      show am_G X mt_L_law 60 497 [some (.retAddr 300), some (.ref 0), some (.ref 84), some (.ref 135), some (.int (nI (6 * j))), none, none] [] (mput A S B) Q
      refine g_aload_n (pc := 497) dc_L_law_497 rfl ?_
      refine g_xload_n (pc := 498) dc_L_law_498 rfl ?_
      refine g_iload (pc := 499) dc_L_law_499 rfl ?_
      refine g_iconst (pc := 501) (v := 1) dc_L_law_501 rfl ?_
      refine g_iadd (pc := 502) (v := (nI (6 * j + 1))) dc_L_law_502 (nI_add (6 * j) 1) ?_
      refine g_scr (pc := 503) (6 * j + 1) dc_L_law_503 (by omega) hN e1 ?_
      refine g_v1 (pc := 504) (M' := mt_W_run) dc_L_law_504 mo_W_run im_W_run se_W_run ln_L_85 c1.1.1 rfl rfl (Nat.le_of_ble_eq_true rfl) (Nat.le_of_ble_eq_true rfl) (am_G.mono (n_W_run (d := 48) c1.1 c3.1 (Or.inr hneg)) ?_)
      intro r h1 hq
      rw [hq.1, hq.2]
      clear hq h1 r
      refine ⟨am_nti _, ?_⟩
      refine g_aload_n (pc := 507) dc_L_law_507 rfl ?_
      refine g_xload_n (pc := 508) dc_L_law_508 rfl ?_
      refine g_iload (pc := 509) dc_L_law_509 rfl ?_
      refine g_iconst (pc := 511) (v := 1) dc_L_law_511 rfl ?_
      refine g_iadd (pc := 512) (v := (nI (6 * j + 1))) dc_L_law_512 (nI_add (6 * j) 1) ?_
      refine g_scr (pc := 513) (6 * j + 1) dc_L_law_513 (by omega) hN e1 ?_
      refine g_v1 (pc := 514) (M' := mt_M_run) dc_L_law_514 mo_M_run im_M_run se_M_run ln_L_88 (mp_o hA) rfl rfl (Nat.le_of_ble_eq_true rfl) (Nat.le_of_ble_eq_true rfl) (am_G.mono (n_M_run (d := 47) hA (Or.inr hneg)) ?_)
      intro r h1 hq
      rw [hq.1, hq.2]
      clear hq h1 r
      refine ⟨am_nti _, ?_⟩
      refine g_icmp_eq (pc := 517) (tgt := 873) dc_L_law_517 rfl (fun _ => ?_) (fun hc => absurd hc (by decide))
      exact KK _ (inv_s hA ho c1 c2 c3 c4 c5 m1 m2 m3 m4 hM hp hr ((mA.rf S).a_fault _ (by decide) : mA [2] S (S.s_fault 0)) (by decide))
    | some M =>
      obtain ⟨hM9, rfl⟩ := ixo_s e
      obtain ⟨n9, hn9, hne⟩ := rn_eq (M := M) (Rs := Rs) (Rt := Rt) j2 hfw.1 j1.1.1 j1.1.2.1 (by omega)
      have hsj := rn_J (Rs := Rs) (Rt := Rt) j2 j3 hfw.1 n9 q j1 (by omega)
      have hsu := rn_U (lim := lim) (Rs := Rs) (Rt := Rt) hp.2.1.2.1 n9 q j4.1 j4.2
      rw [← hne] at hsj hsu
      show am_G X mt_L_law 60 497 [some (.retAddr 300), some (.ref 0), some (.ref 84), some (.ref 135), some (.int (nI (6 * j))), none, none] [] (mput A S B) Q
      refine g_aload_n (pc := 497) dc_L_law_497 rfl ?_
      refine g_xload_n (pc := 498) dc_L_law_498 rfl ?_
      refine g_iload (pc := 499) dc_L_law_499 rfl ?_
      refine g_iconst (pc := 501) (v := 1) dc_L_law_501 rfl ?_
      refine g_iadd (pc := 502) (v := (nI (6 * j + 1))) dc_L_law_502 (nI_add (6 * j) 1) ?_
      refine g_scr (pc := 503) (6 * j + 1) dc_L_law_503 (by omega) hN e1 ?_
      refine g_v1 (pc := 504) (M' := mt_W_run) dc_L_law_504 mo_W_run im_W_run se_W_run ln_L_85 c1.1.1 rfl rfl (Nat.le_of_ble_eq_true rfl) (Nat.le_of_ble_eq_true rfl) (am_G.mono (w_W_run (d := 48) (q := q) (M := M) hM9 c1.1 c3.1 c3.2 c1.2.2.2.2.1 c2.1 hfw j2 j3 j1.1 h127) ?_)
      intro r h1 hz
      obtain ⟨y1, w1, g1, s1, s2, s3⟩ := hz
      rw [y1]
      clear y1 r
      obtain ⟨A1, B1, hA1, rfl, ho1⟩ := af_W g1 hA ho (by decide)
      refine ⟨am_nti _, ?_⟩
      refine g_aload_n (pc := 507) dc_L_law_507 rfl ?_
      refine g_xload_n (pc := 508) dc_L_law_508 rfl ?_
      refine g_iload (pc := 509) dc_L_law_509 rfl ?_
      refine g_iconst (pc := 511) (v := 1) dc_L_law_511 rfl ?_
      refine g_iadd (pc := 512) (v := (nI (6 * j + 1))) dc_L_law_512 (nI_add (6 * j) 1) ?_
      refine g_scr (pc := 513) (6 * j + 1) dc_L_law_513 (by omega) hN e1 ?_
      refine g_v1 (pc := 514) (M' := mt_M_run) dc_L_law_514 mo_M_run im_M_run se_M_run ln_L_88 (mp_o hA1) rfl rfl (Nat.le_of_ble_eq_true rfl) (Nat.le_of_ble_eq_true rfl) (am_G.mono (c_M_run (d := 47) (q := q) (M := M) hA1 hb.2.1 hp.2.1.1 hp.2.1.2.1 hfw.1 hM9 h127 (m3.cq hM m2) j1.1.1 j1.1.2.1 m3.1) ?_)
      intro r h9 hz
      obtain ⟨y1, S1, T1, y2, em, hpre, pr⟩ := hz
      rw [y1, y2]
      clear y1 y2 h9 r
      refine ⟨am_nti _, ?_⟩
      refine g_icmp_eq (pc := 517) (tgt := 873) dc_L_law_517 rfl (fun hc517 => ?_) (fun hc => absurd hc (fun h9 => h9 rfl))
      have hp1 : PU (j + 1) w1 Y U L P Rt Rs sett Sd true lim (rn lim P Rs Rt M q).2 K0 H := by
        have h9 := hp.nx (w1 := w1) (g1.2.1 27 (by decide)) (g1.2.1 98 (by decide))
        exact ⟨h9.1, h9.2.1, ⟨fun _ => ⟨hsj.1, j2, j3, hsu, Nat.le_add_left 1 j⟩, fun h8 => (by cases h8)⟩, h9.2.2.2.1, h9.2.2.2.2.1, h9.2.2.2.2.2.1, (by have h7 := hsj.2.1; omega), h9.2.2.2.2.2.2.2⟩
      have c31 : C3 w1 (mput A1 S B1) true lim (rn lim P Rs Rt M q).2 := ⟨s1, s2⟩
      have c11 : C1 w1 (mput A1 S B1) L D := ⟨c1.1.fr g1 (by decide), c1.2.1.fr g1 (by decide), c1.2.2.1.fr g1 (by decide), c1.2.2.2.1.fr g1 (by decide), s3, by obtain ⟨Tx, hTx⟩ := c1.2.2.2.2.2; exact ⟨Tx, hTx.fr g1 (by decide) (by decide)⟩⟩
      exact KK _ (inv_mk hA1 ho1 c11 (c2.fr g1 (by decide) (by decide)) c31 (c4.fr g1 (by decide)) (c5.fr g1 (by decide)) (m1.m em (by decide)) ((m2.m em (by decide)).pre hpre (List.prefix_refl Y)) (M3.of pr ((em.isStarted (by decide)).trans m3.1)) ((m4.m em (by decide)).pre hpre (List.prefix_refl Y)) pr.1.1 hp1 (hr.fr g1))
