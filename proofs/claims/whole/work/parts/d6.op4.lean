/-! ===== calls that take the tape ===== -/
section OP4L
variable {w w1 : Gw} {h h1 : List va_E} {I : List Nat} {S S1 : MS} {T T1 Y Y1 U U1 : List (List Int32)} {L D D1 : List Int32} {P P1 : List Pg} {Rs Rt Rs1 Rt1 : List (List Int32)} {sett lim : Nat → Nat} {Sd Zd : List (List Int32)} {st9 : Bool} {q : Cr} {K K0 : Kn} {pn j : Nat} {H : List (Nat × Nat)} {p : Int32}
theorem pge_U (e : pge L p P = some P1) (hp : pgP U P) : pgP (U ++ adU L) P1 := by
  unfold pge at e
  cases e1 : fsa L with
  | none => rw [e1] at e; cases e
  | some D =>
    rw [e1] at e
    dsimp only at e
    have hn : pgU (U ++ adU L) D (rst L) := (adU_p e1).mo mem_r
    cases e2 : ixo p 600 with
    | none => rw [e2] at e; cases e
    | some s =>
      rw [e2] at e
      dsimp only at e
      split at e
      · cases e
      · cases e3 : nbr (pad P) D with
        | some i =>
          rw [e3] at e
          have hi : i < P.length := by have := (nbr_s e3).1; rw [pad_len] at this; exact this
          have e9 := Option.some.inj e
          rw [← e9]
          intro k hk
          rw [List.length_set] at hk
          rw [gP_set hi]
          by_cases q : k = i
          · rw [if_pos q]; exact hn
          · rw [if_neg q]; exact (hp k hk).mo mem_l
        | none =>
          rw [e3] at e
          dsimp only at e
          split at e
          · cases e
          · have e9 := Option.some.inj e
            rw [← e9]
            intro k hk
            rw [List.length_append] at hk
            have hk2 : k < P.length + 1 := hk
            by_cases q : k = P.length
            · rw [q, gP_new]; exact hn
            · rw [gP_app (by omega)]; exact (hp k (by omega)).mo mem_l
theorem drp_U (e : drp L P = some P1) (hp : pgP U P) : pgP (U ++ adU L) P1 := by
  unfold drp at e
  cases e1 : rfa L with
  | none => rw [e1] at e; cases e
  | some D =>
    rw [e1] at e
    dsimp only at e
    cases e3 : nbr (pad P) D with
    | none => rw [e3] at e; cases e
    | some i =>
      rw [e3] at e
      have hi : i < P.length := by have := (nbr_s e3).1; rw [pad_len] at this; exact this
      have e9 := Option.some.inj e
      rw [← e9]
      intro k hk
      rw [List.length_take, List.length_set] at hk
      rw [gP_take (by omega), gP_set hi]
      by_cases q : k = i
      · rw [if_pos q]; exact (hp _ (by omega)).mo mem_l
      · rw [if_neg q]; exact (hp k (by omega)).mo mem_l
theorem rle_l {z : List (List Int32) × List (List Int32)} (e : rle L Rs Rt = some z) (hl : Rt.length = Rs.length) : z.2.length = z.1.length := by
  unfold rle at e
  cases e1 : fsa L with
  | none => rw [e1] at e; cases e
  | some D =>
    rw [e1] at e
    dsimp only at e
    cases e3 : nbr Rs (sit D) with
    | some i =>
      rw [e3] at e
      have e9 := Option.some.inj e
      rw [← e9]
      show (Rt.set i (rst L)).length = Rs.length
      rw [List.length_set]; exact hl
    | none =>
      rw [e3] at e
      dsimp only at e
      split at e
      · cases e
      · have e9 := Option.some.inj e
        rw [← e9]
        show (Rt ++ [rst L]).length = (Rs ++ [sit D]).length
        rw [List.length_append, List.length_append, hl]; rfl
theorem sde_ok (e : sde L Sd = some Zd) (h : ∀ x, x ∈ Sd → okD x) (hb : btg L) : ∀ x, x ∈ Zd → okD x := by
  unfold sde at e
  cases e1 : rfa L with
  | none => rw [e1] at e; cases e
  | some D =>
    rw [e1] at e
    dsimp only at e
    split at e
    · cases e
    · have e9 := Option.some.inj e
      rw [← e9]
      intro x hx
      rcases List.mem_append.mp hx with q | q
      · exact h x q
      · rw [List.mem_singleton.mp q]; exact rfa_ok hb e1
theorem ofs_ap {x : List Int32} : ofs (Y ++ [x]) (Y ++ [x]).length = ofs Y Y.length + x.length := by
  rw [← flat_len, ← flat_len, List.flatten_append, List.length_append]
  show _ + (x ++ []).length = _
  rw [List.append_nil]
theorem PU.uy (z : PU j w Y U L P Rt Rs sett Sd st9 lim q K0 H) (hj : j < 512) (hL8 : L.length ≤ 8000) (h27 : w1.2 27 ≤ w.2 27 + (248 + L.length)) (h98 : w1.2 98 = w.2 98) (hP : pgP (U ++ adU L) P1) (hl : Rt1.length = Rs1.length) : PU (j + 1) w1 (Y ++ [rst L]) (U ++ adU L) [] P1 Rt1 Rs1 sett Sd st9 lim q K0 H := by
  have h9 := z.us h27 h98
  have hb := z.bd hj
  have hr := rst_le (L := L)
  obtain ⟨a1, ⟨b1, b2, b3⟩, c1, a4, a5, a6, a7, a8, a9⟩ := h9
  have a5z := z.2.2.2.2.1
  refine ⟨⟨hl, a1.2⟩, ⟨yOK_app b1 hb.2.2.2 hb.2.2.1 (hr.2 hL8), hP, b3⟩, c1, a4, ?_, ?_, a7, a8, a9⟩
  · rw [ofs_ap]; show _ + 0 ≤ _; omega
  · rw [List.length_append]; have a6z := z.2.2.2.2.2.1; show _ + 1 ≤ _; omega
theorem tx_Y {C : Kn} (h : ∀ i, i ∈ dcs C → ∃ y, y < Y.length ∧ gT Y y = C.tx i) (hY : yOK Y) (hw : wfK C) (ho : ofs Y Y.length ≤ 10240) : (∀ i, i ∈ dcs C → (C.tx i).length ≤ 7999) ∧ (txs C (dcs C)).flatten.length ≤ 19000 := by
  refine ⟨fun i hi => ?_, Nat.le_trans (txs_Y hw (fun i hi => ?_)) (Nat.le_trans ho (by decide))⟩
  · obtain ⟨y, y1, y2⟩ := h i hi
    rw [← y2]; exact (hY.2 y y1).2
  · obtain ⟨y, y1, y2⟩ := h i hi
    rw [← y2]; exact gT_mem y1
end OP4L
theorem op_2 {X : am_X} {Q : Option Value → List va_E → Prop} {j : Nat} {h : List va_E} (hl9 : X.1.stackTraces = false) (hj : j < 512) (hk : 6 * j + 6 ≤ X.2.2.2.2.2.1) (hN : X.2.2.2.2.2.1 ≤ 3072) (hI : INV j h) (KK : ∀ h1, INV (j + 1) h1 → am_G X mt_L_law 60 873 (LO j) [] h1 Q) : am_G X mt_L_law 60 308 (LO j) [] h Q := by
  obtain ⟨w, A, S, B, T, Y, U, L, D, P, Rs, Rt, sett, Sd, st9, lim, q, K0, pn, H, ⟨hA, rfl, ho⟩, ⟨c1, c2, c3, c4, c5⟩, ⟨m1, m2, m3, m4, hM⟩, hp, hr⟩ := hI
  have hb := hp.bd hj
  have hL8 := m1.1.2.2.1
  have hqe := hp.qe
  have hqw := hp.qw
  have hM1 : tbM S T Y (U ++ adU L) := hM.mo mem_l
  show am_G X mt_L_law 60 308 [some (.retAddr 300), some (.ref 0), some (.ref 84), some (.ref 135), some (.int (nI (6 * j))), none, none] [] (mput A S B) Q
  refine g_aload_n (pc := 308) dc_L_law_308 rfl ?_
  refine g_v0 (pc := 309) (M' := mt_W_read) dc_L_law_309 mo_W_read im_W_read se_W_read ln_L_39 c1.1.1 rfl rfl (Nat.le_of_ble_eq_true rfl) (Nat.le_of_ble_eq_true rfl) (am_G.mono (w_W_read (d := 50) c1.1 c1.2.1 c1.2.2.2.2.1 hL8 c1.2.2.2.1 ⟨_, c1.2.2.1⟩) ?_)
  intro r h1 hz
  obtain ⟨y1, w1, g1, s1, s2, s3, s4⟩ := hz
  rw [y1]
  clear y1 r
  obtain ⟨A1, B1, hA1, rfl, ho1⟩ := af_W g1 hA ho (by decide)
  refine ⟨am_nti _, ?_⟩
  refine g_aload_n (pc := 312) dc_L_law_312 rfl ?_
  refine g_v0 (pc := 313) (M' := mt_M_read) dc_L_law_313 mo_M_read im_M_read se_M_read ln_L_42 (mp_o hA1) rfl rfl (Nat.le_of_ble_eq_true rfl) (Nat.le_of_ble_eq_true rfl) (am_G.mono (c_M_read (d := 52) hA1 hM1 hb.1 m1.1 (fun D9 e9 => mem_r _ (adU_f e9))) ?_)
  intro r h9 hz
  obtain ⟨y1, S1, T1, y2, em, tb, hpre, tp, pr⟩ := hz
  rw [y1, y2]
  clear y1 y2 h9 r
  refine ⟨am_nti _, ?_⟩
  refine g_icmp_eq (pc := 316) (tgt := 873) dc_L_law_316 rfl (fun hc316 => ?_) (fun hc => absurd hc (fun h9 => h9 rfl))
  have c11 : C1 w1 (mput A1 S B1) [] (rdA L) := ⟨c1.1.fr g1 (by decide), s2, s3, s4, s1, by obtain ⟨Tx, hTx⟩ := c1.2.2.2.2.2; exact ⟨Tx, hTx.fr g1 (by decide) (by decide)⟩⟩
  exact KK _ (inv_mk hA1 ho1 c11 (c2.fr g1 (by decide) (by decide)) (c3.fr g1 (by decide)) (c4.fr g1 (by decide)) (c5.fr g1 (by decide)) ⟨tp, pr⟩ ((m2.m em (by decide)).pre hpre (List.prefix_refl Y)) ((m3.m em (by decide)).pre hpre (List.prefix_refl Y)) ((m4.m em (by decide)).pre hpre (List.prefix_refl Y)) tb (hp.us (by rw [g1.2.1 27 (by decide)]; omega) (g1.2.1 98 (by decide))) (hr.fr g1))
theorem op_6 {X : am_X} {Q : Option Value → List va_E → Prop} {j : Nat} {h : List va_E} (hl9 : X.1.stackTraces = false) (hj : j < 512) (hk : 6 * j + 6 ≤ X.2.2.2.2.2.1) (hN : X.2.2.2.2.2.1 ≤ 3072) (hI : INV j h) (KK : ∀ h1, INV (j + 1) h1 → am_G X mt_L_law 60 873 (LO j) [] h1 Q) : am_G X mt_L_law 60 372 (LO j) [] h Q := by
  obtain ⟨w, A, S, B, T, Y, U, L, D, P, Rs, Rt, sett, Sd, st9, lim, q, K0, pn, H, ⟨hA, rfl, ho⟩, ⟨c1, c2, c3, c4, c5⟩, ⟨m1, m2, m3, m4, hM⟩, hp, hr⟩ := hI
  have hb := hp.bd hj
  have hL8 := m1.1.2.2.1
  have hqe := hp.qe
  have hqw := hp.qw
  have hM1 : tbM S T Y (U ++ adU L) := hM.mo mem_l
  have hfw := wfW_of m2 hM hp.2.1.1 hp.1.1
  show am_G X mt_L_law 60 372 [some (.retAddr 300), some (.ref 0), some (.ref 84), some (.ref 135), some (.int (nI (6 * j))), none, none] [] (mput A S B) Q
  refine g_aload_n (pc := 372) dc_L_law_372 rfl ?_
  refine g_v0 (pc := 373) (M' := mt_W_allowed) dc_L_law_373 mo_W_allowed im_W_allowed se_W_allowed ln_L_56 c1.1.1 rfl rfl (Nat.le_of_ble_eq_true rfl) (Nat.le_of_ble_eq_true rfl) (am_G.mono (w_W_allowed (d := 50) c1.1 c1.2.1 c1.2.2.2.2.1 hL8 c2.1.1 c2.1.2.2 hfw.2.1 hfw.2.2.1 hfw.2.2.2.2) ?_)
  intro r h1 hz
  obtain ⟨y1, w1, g1, s1, s2⟩ := hz
  rw [y1]
  clear y1 r
  obtain ⟨A1, B1, hA1, rfl, ho1⟩ := af_W g1 hA ho (by decide)
  refine ⟨am_nti _, ?_⟩
  refine g_aload_n (pc := 376) dc_L_law_376 rfl ?_
  refine g_v0 (pc := 377) (M' := mt_M_allowed) dc_L_law_377 mo_M_allowed im_M_allowed se_M_allowed ln_L_59 (mp_o hA1) rfl rfl (Nat.le_of_ble_eq_true rfl) (Nat.le_of_ble_eq_true rfl) (am_G.mono (c_M_allowed (d := 51) hA1 hM1 hb.1 m1.1 hp.2.1.1 m2.2.1 (fun D9 e9 => mem_r _ (adU_r e9))) ?_)
  intro r h9 hz
  obtain ⟨y1, S1, T1, y2, em, tb, hpre, tp⟩ := hz
  rw [y1, y2]
  clear y1 y2 h9 r
  refine ⟨am_nti _, ?_⟩
  refine g_icmp_eq (pc := 380) (tgt := 873) dc_L_law_380 rfl (fun hc380 => ?_) (fun hc => absurd hc (fun h9 => h9 rfl))
  have c11 : C1 w1 (mput A1 S B1) [] D := ⟨c1.1.fr g1 (by decide), s2, c1.2.2.1.fr g1 (by decide), c1.2.2.2.1.fr g1 (by decide), s1, by obtain ⟨Tx, hTx⟩ := c1.2.2.2.2.2; exact ⟨Tx, hTx.fr g1 (by decide) (by decide)⟩⟩
  exact KK _ (inv_mk hA1 ho1 c11 (c2.fr g1 (by decide) (by decide)) (c3.fr g1 (by decide)) (c4.fr g1 (by decide)) (c5.fr g1 (by decide)) ⟨tp, m1.2.m em (by decide) (by decide)⟩ ((m2.m em (by decide)).pre hpre (List.prefix_refl Y)) ((m3.m em (by decide)).pre hpre (List.prefix_refl Y)) ((m4.m em (by decide)).pre hpre (List.prefix_refl Y)) tb (hp.us (by rw [g1.2.1 27 (by decide)]; omega) (g1.2.1 98 (by decide))) (hr.fr g1))
theorem op_7 {X : am_X} {Q : Option Value → List va_E → Prop} {j : Nat} {h : List va_E} (hl9 : X.1.stackTraces = false) (hj : j < 512) (hk : 6 * j + 6 ≤ X.2.2.2.2.2.1) (hN : X.2.2.2.2.2.1 ≤ 3072) (hI : INV j h) (KK : ∀ h1, INV (j + 1) h1 → am_G X mt_L_law 60 873 (LO j) [] h1 Q) : am_G X mt_L_law 60 385 (LO j) [] h Q := by
  obtain ⟨w, A, S, B, T, Y, U, L, D, P, Rs, Rt, sett, Sd, st9, lim, q, K0, pn, H, ⟨hA, rfl, ho⟩, ⟨c1, c2, c3, c4, c5⟩, ⟨m1, m2, m3, m4, hM⟩, hp, hr⟩ := hI
  have hb := hp.bd hj
  have hL8 := m1.1.2.2.1
  have hqe := hp.qe
  have hqw := hp.qw
  obtain ⟨p1, e1⟩ : ∃ p, X.2.2.2.2.2.2 (6 * j + 1) = p := ⟨_, rfl⟩
  have hM1 : tbM S T Y (U ++ adU L) := hM.mo mem_l
  obtain ⟨Tx0, hTx0⟩ := c1.2.2.2.2.2
  cases e : lok L p1 with
  | none =>
    show am_G X mt_L_law 60 385 [some (.retAddr 300), some (.ref 0), some (.ref 84), some (.ref 135), some (.int (nI (6 * j))), none, none] [] (mput A S B) Q
    refine g_aload_n (pc := 385) dc_L_law_385 rfl ?_
    refine g_xload_n (pc := 386) dc_L_law_386 rfl ?_
    refine g_iload (pc := 387) dc_L_law_387 rfl ?_
    refine g_iconst (pc := 389) (v := 1) dc_L_law_389 rfl ?_
    refine g_iadd (pc := 390) (v := (nI (6 * j + 1))) dc_L_law_390 (nI_add (6 * j) 1) ?_
    refine g_scr (pc := 391) (6 * j + 1) dc_L_law_391 (by omega) hN e1 ?_
    refine g_v1 (pc := 392) (M' := mt_W_look) dc_L_law_392 mo_W_look im_W_look se_W_look ln_L_60 c1.1.1 rfl rfl (Nat.le_of_ble_eq_true rfl) (Nat.le_of_ble_eq_true rfl) (am_G.mono (w_W_look (d := 49) c1.1 c1.2.1 c1.2.2.2.2.1 hL8 c1.2.2.2.1 c1.2.2.1 hTx0) ?_)
    intro r h1 hz
    rw [e] at hz
    obtain ⟨w1, g1, s1, s2, s4, s5, y1, s3⟩ := hz
    rw [y1]
    clear y1 r
    obtain ⟨A1, B1, hA1, rfl, ho1⟩ := af_W g1 hA ho (by decide)
    refine ⟨am_nti _, ?_⟩
    refine g_aload_n (pc := 395) dc_L_law_395 rfl ?_
    refine g_xload_n (pc := 396) dc_L_law_396 rfl ?_
    refine g_iload (pc := 397) dc_L_law_397 rfl ?_
    refine g_iconst (pc := 399) (v := 1) dc_L_law_399 rfl ?_
    refine g_iadd (pc := 400) (v := (nI (6 * j + 1))) dc_L_law_400 (nI_add (6 * j) 1) ?_
    refine g_scr (pc := 401) (6 * j + 1) dc_L_law_401 (by omega) hN e1 ?_
    refine g_v1 (pc := 402) (M' := mt_M_look) dc_L_law_402 mo_M_look im_M_look se_M_look ln_L_63 (mp_o hA1) rfl rfl (Nat.le_of_ble_eq_true rfl) (Nat.le_of_ble_eq_true rfl) (am_G.mono (c_M_look (d := 49) hA1 hM1 hb.1 m1.1 m1.2 (fun D9 e9 => mem_r _ (adU_f e9)) (fun D9 e9 => (adU_p e9).mo mem_r) hb.2.2.1 hb.2.2.2) ?_)
    intro r h9 hz
    rw [e] at hz
    obtain ⟨S1, T1, y2, em, tb, hpre, tp, y1, pr⟩ := hz
    rw [y1, y2]
    clear y1 y2 h9 r
    refine ⟨am_nti _, ?_⟩
    refine g_icmp_eq (pc := 405) (tgt := 873) dc_L_law_405 rfl (fun _ => ?_) (fun hc => absurd hc (by decide))
    have c11 : C1 w1 (mput A1 S B1) [] D := ⟨c1.1.fr g1 (by decide), s2, s3, s4, s1, s5⟩
    exact KK _ (inv_mk hA1 ho1 c11 (c2.fr g1 (by decide) (by decide)) (c3.fr g1 (by decide)) (c4.fr g1 (by decide)) (c5.fr g1 (by decide)) ⟨tp, pr⟩ ((m2.m em (by decide)).pre hpre (List.prefix_refl Y)) ((m3.m em (by decide)).pre hpre (List.prefix_refl Y)) ((m4.m em (by decide)).pre hpre (List.prefix_refl Y)) tb (hp.us (by rw [g1.2.1 27 (by decide)]; omega) (g1.2.1 98 (by decide))) (hr.fr g1))
  | some Zk =>
    show am_G X mt_L_law 60 385 [some (.retAddr 300), some (.ref 0), some (.ref 84), some (.ref 135), some (.int (nI (6 * j))), none, none] [] (mput A S B) Q
    refine g_aload_n (pc := 385) dc_L_law_385 rfl ?_
    refine g_xload_n (pc := 386) dc_L_law_386 rfl ?_
    refine g_iload (pc := 387) dc_L_law_387 rfl ?_
    refine g_iconst (pc := 389) (v := 1) dc_L_law_389 rfl ?_
    refine g_iadd (pc := 390) (v := (nI (6 * j + 1))) dc_L_law_390 (nI_add (6 * j) 1) ?_
    refine g_scr (pc := 391) (6 * j + 1) dc_L_law_391 (by omega) hN e1 ?_
    refine g_v1 (pc := 392) (M' := mt_W_look) dc_L_law_392 mo_W_look im_W_look se_W_look ln_L_60 c1.1.1 rfl rfl (Nat.le_of_ble_eq_true rfl) (Nat.le_of_ble_eq_true rfl) (am_G.mono (w_W_look (d := 49) c1.1 c1.2.1 c1.2.2.2.2.1 hL8 c1.2.2.2.1 c1.2.2.1 hTx0) ?_)
    intro r h1 hz
    rw [e] at hz
    obtain ⟨w1, g1, s1, s2, s4, s5, y1, s3⟩ := hz
    rw [y1]
    clear y1 r
    obtain ⟨A1, B1, hA1, rfl, ho1⟩ := af_W g1 hA ho (by decide)
    refine ⟨am_nti _, ?_⟩
    refine g_aload_n (pc := 395) dc_L_law_395 rfl ?_
    refine g_xload_n (pc := 396) dc_L_law_396 rfl ?_
    refine g_iload (pc := 397) dc_L_law_397 rfl ?_
    refine g_iconst (pc := 399) (v := 1) dc_L_law_399 rfl ?_
    refine g_iadd (pc := 400) (v := (nI (6 * j + 1))) dc_L_law_400 (nI_add (6 * j) 1) ?_
    refine g_scr (pc := 401) (6 * j + 1) dc_L_law_401 (by omega) hN e1 ?_
    refine g_v1 (pc := 402) (M' := mt_M_look) dc_L_law_402 mo_M_look im_M_look se_M_look ln_L_63 (mp_o hA1) rfl rfl (Nat.le_of_ble_eq_true rfl) (Nat.le_of_ble_eq_true rfl) (am_G.mono (c_M_look (d := 49) hA1 hM1 hb.1 m1.1 m1.2 (fun D9 e9 => mem_r _ (adU_f e9)) (fun D9 e9 => (adU_p e9).mo mem_r) hb.2.2.1 hb.2.2.2) ?_)
    intro r h9 hz
    rw [e] at hz
    obtain ⟨S1, T1, y2, em, tb, hpre, tp, y1, pr⟩ := hz
    rw [y1, y2]
    clear y1 y2 h9 r
    refine ⟨am_nti _, ?_⟩
    refine g_icmp_eq (pc := 405) (tgt := 873) dc_L_law_405 rfl (fun hc405 => ?_) (fun hc => absurd hc (fun h9 => h9 rfl))
    have c11 : C1 w1 (mput A1 S B1) [] (lnR Zk) := ⟨c1.1.fr g1 (by decide), s2, s3, s4, s1, s5⟩
    exact KK _ (inv_mk hA1 ho1 c11 (c2.fr g1 (by decide) (by decide)) (c3.fr g1 (by decide)) (c4.fr g1 (by decide)) (c5.fr g1 (by decide)) ⟨tp, pr⟩ ((m2.m em (by decide)).pre hpre (List.prefix_refl Y)) ((m3.m em (by decide)).pre hpre (List.prefix_refl Y)) ((m4.m em (by decide)).pre hpre (List.prefix_refl Y)) tb (hp.us (by rw [g1.2.1 27 (by decide)]; omega) (g1.2.1 98 (by decide))) (hr.fr g1))
theorem op_9 {X : am_X} {Q : Option Value → List va_E → Prop} {j : Nat} {h : List va_E} (hl9 : X.1.stackTraces = false) (hj : j < 512) (hk : 6 * j + 6 ≤ X.2.2.2.2.2.1) (hN : X.2.2.2.2.2.1 ≤ 3072) (hI : INV j h) (KK : ∀ h1, INV (j + 1) h1 → am_G X mt_L_law 60 873 (LO j) [] h1 Q) : am_G X mt_L_law 60 447 (LO j) [] h Q := by
  obtain ⟨w, A, S, B, T, Y, U, L, D, P, Rs, Rt, sett, Sd, st9, lim, q, K0, pn, H, ⟨hA, rfl, ho⟩, ⟨c1, c2, c3, c4, c5⟩, ⟨m1, m2, m3, m4, hM⟩, hp, hr⟩ := hI
  have hb := hp.bd hj
  have hL8 := m1.1.2.2.1
  have hqe := hp.qe
  have hqw := hp.qw
  have hM1 : tbM S T Y (U ++ adU L) := hM.mo mem_l
  cases e : sde L Sd with
  | none =>
    show am_G X mt_L_law 60 447 [some (.retAddr 300), some (.ref 0), some (.ref 84), some (.ref 135), some (.int (nI (6 * j))), none, none] [] (mput A S B) Q
    refine g_aload_n (pc := 447) dc_L_law_447 rfl ?_
    refine g_v0 (pc := 448) (M' := mt_W_seed) dc_L_law_448 mo_W_seed im_W_seed se_W_seed ln_L_69 c1.1.1 rfl rfl (Nat.le_of_ble_eq_true rfl) (Nat.le_of_ble_eq_true rfl) (am_G.mono (w_W_seed (d := 50) c1.1 c1.2.1 c1.2.2.2.2.1 hL8 c2.2.2 hp.1.2.2 m2.2.2.2.2.1) ?_)
    intro r h1 hz
    rw [e] at hz
    obtain ⟨w1, g1, s1, s2, y1, s3⟩ := hz
    rw [y1]
    clear y1 r
    obtain ⟨A1, B1, hA1, rfl, ho1⟩ := af_W g1 hA ho (by decide)
    refine ⟨am_nti _, ?_⟩
    refine g_aload_n (pc := 451) dc_L_law_451 rfl ?_
    refine g_v0 (pc := 452) (M' := mt_M_seed) dc_L_law_452 mo_M_seed im_M_seed se_M_seed ln_L_72 (mp_o hA1) rfl rfl (Nat.le_of_ble_eq_true rfl) (Nat.le_of_ble_eq_true rfl) (am_G.mono (c_M_seed (d := 52) hA1 hM1 hb.1 m1.1 m2.2.2.2 (fun D9 e9 => mem_r _ (adU_r e9))) ?_)
    intro r h9 hz
    rw [e] at hz
    obtain ⟨y1, S1, T1, y2, em, tb, hpre, tp, pr⟩ := hz
    rw [y1, y2]
    clear y1 y2 h9 r
    refine ⟨am_nti _, ?_⟩
    refine g_icmp_eq (pc := 455) (tgt := 873) dc_L_law_455 rfl (fun _ => ?_) (fun hc => absurd hc (by decide))
    have c11 : C1 w1 (mput A1 S B1) [] D := ⟨c1.1.fr g1 (by decide), s2, c1.2.2.1.fr g1 (by decide), c1.2.2.2.1.fr g1 (by decide), s1, by obtain ⟨Tx, hTx⟩ := c1.2.2.2.2.2; exact ⟨Tx, hTx.fr g1 (by decide) (by decide)⟩⟩
    have hp1 : PU (j + 1) w1 Y (U ++ adU L) [] P Rt Rs sett Sd st9 lim q K0 H := by
      have h9 := hp.us (w1 := w1) (by rw [g1.2.1 27 (by decide)]; omega) (g1.2.1 98 (by decide))
      exact ⟨⟨h9.1.1, h9.1.2.1, h9.1.2.2⟩, h9.2⟩
    have c21 : C2 w1 (mput A1 S B1) P Rs Rt sett Sd := ⟨⟨c2.1.1.fr g1 (by decide), c2.1.2.1.fr g1 (by decide) (by decide), c2.1.2.2.fr g1 (by decide)⟩, c2.2.1.fr g1 (by decide), s3⟩
    have m21 : M2 S1 T1 Y P Rs Rt sett Sd := ⟨(m2.1.m em (by decide) (by decide) (by decide) (by decide)).pre hpre (List.prefix_refl Y), (m2.2.1.m em (by decide) (by decide) (by decide)).pre hpre (List.prefix_refl Y), m2.2.2.1.m em (by decide), pr⟩
    exact KK _ (inv_mk hA1 ho1 c11 c21 (c3.fr g1 (by decide)) (c4.fr g1 (by decide)) (c5.fr g1 (by decide)) ⟨tp, m1.2.m em (by decide) (by decide)⟩ m21 ((m3.m em (by decide)).pre hpre (List.prefix_refl Y)) ((m4.m em (by decide)).pre hpre (List.prefix_refl Y)) tb hp1 (hr.fr g1))
  | some Zd =>
    show am_G X mt_L_law 60 447 [some (.retAddr 300), some (.ref 0), some (.ref 84), some (.ref 135), some (.int (nI (6 * j))), none, none] [] (mput A S B) Q
    refine g_aload_n (pc := 447) dc_L_law_447 rfl ?_
    refine g_v0 (pc := 448) (M' := mt_W_seed) dc_L_law_448 mo_W_seed im_W_seed se_W_seed ln_L_69 c1.1.1 rfl rfl (Nat.le_of_ble_eq_true rfl) (Nat.le_of_ble_eq_true rfl) (am_G.mono (w_W_seed (d := 50) c1.1 c1.2.1 c1.2.2.2.2.1 hL8 c2.2.2 hp.1.2.2 m2.2.2.2.2.1) ?_)
    intro r h1 hz
    rw [e] at hz
    obtain ⟨w1, g1, s1, s2, y1, s3⟩ := hz
    rw [y1]
    clear y1 r
    obtain ⟨A1, B1, hA1, rfl, ho1⟩ := af_W g1 hA ho (by decide)
    refine ⟨am_nti _, ?_⟩
    refine g_aload_n (pc := 451) dc_L_law_451 rfl ?_
    refine g_v0 (pc := 452) (M' := mt_M_seed) dc_L_law_452 mo_M_seed im_M_seed se_M_seed ln_L_72 (mp_o hA1) rfl rfl (Nat.le_of_ble_eq_true rfl) (Nat.le_of_ble_eq_true rfl) (am_G.mono (c_M_seed (d := 52) hA1 hM1 hb.1 m1.1 m2.2.2.2 (fun D9 e9 => mem_r _ (adU_r e9))) ?_)
    intro r h9 hz
    rw [e] at hz
    obtain ⟨y1, S1, T1, y2, em, tb, hpre, tp, pr⟩ := hz
    rw [y1, y2]
    clear y1 y2 h9 r
    refine ⟨am_nti _, ?_⟩
    refine g_icmp_eq (pc := 455) (tgt := 873) dc_L_law_455 rfl (fun hc455 => ?_) (fun hc => absurd hc (fun h9 => h9 rfl))
    have c11 : C1 w1 (mput A1 S B1) [] D := ⟨c1.1.fr g1 (by decide), s2, c1.2.2.1.fr g1 (by decide), c1.2.2.2.1.fr g1 (by decide), s1, by obtain ⟨Tx, hTx⟩ := c1.2.2.2.2.2; exact ⟨Tx, hTx.fr g1 (by decide) (by decide)⟩⟩
    have hp1 : PU (j + 1) w1 Y (U ++ adU L) [] P Rt Rs sett Zd st9 lim q K0 H := by
      have h9 := hp.us (w1 := w1) (by rw [g1.2.1 27 (by decide)]; omega) (g1.2.1 98 (by decide))
      exact ⟨⟨h9.1.1, h9.1.2.1, sde_ok e h9.1.2.2 m1.1.2.2.2⟩, h9.2⟩
    have c21 : C2 w1 (mput A1 S B1) P Rs Rt sett Zd := ⟨⟨c2.1.1.fr g1 (by decide), c2.1.2.1.fr g1 (by decide) (by decide), c2.1.2.2.fr g1 (by decide)⟩, c2.2.1.fr g1 (by decide), s3⟩
    have m21 : M2 S1 T1 Y P Rs Rt sett Zd := ⟨(m2.1.m em (by decide) (by decide) (by decide) (by decide)).pre hpre (List.prefix_refl Y), (m2.2.1.m em (by decide) (by decide) (by decide)).pre hpre (List.prefix_refl Y), m2.2.2.1.m em (by decide), pr⟩
    exact KK _ (inv_mk hA1 ho1 c11 c21 (c3.fr g1 (by decide)) (c4.fr g1 (by decide)) (c5.fr g1 (by decide)) ⟨tp, m1.2.m em (by decide) (by decide)⟩ m21 ((m3.m em (by decide)).pre hpre (List.prefix_refl Y)) ((m4.m em (by decide)).pre hpre (List.prefix_refl Y)) tb hp1 (hr.fr g1))
theorem op_4 {X : am_X} {Q : Option Value → List va_E → Prop} {j : Nat} {h : List va_E} (hl9 : X.1.stackTraces = false) (hj : j < 512) (hk : 6 * j + 6 ≤ X.2.2.2.2.2.1) (hN : X.2.2.2.2.2.1 ≤ 3072) (hI : INV j h) (KK : ∀ h1, INV (j + 1) h1 → am_G X mt_L_law 60 873 (LO j) [] h1 Q) : am_G X mt_L_law 60 346 (LO j) [] h Q := by
  obtain ⟨w, A, S, B, T, Y, U, L, D, P, Rs, Rt, sett, Sd, st9, lim, q, K0, pn, H, ⟨hA, rfl, ho⟩, ⟨c1, c2, c3, c4, c5⟩, ⟨m1, m2, m3, m4, hM⟩, hp, hr⟩ := hI
  have hb := hp.bd hj
  have hL8 := m1.1.2.2.1
  have hqe := hp.qe
  have hqw := hp.qw
  have hM1 : tbM S T Y (U ++ adU L) := hM.mo mem_l
  cases e : drp L P with
  | none =>
    show am_G X mt_L_law 60 346 [some (.retAddr 300), some (.ref 0), some (.ref 84), some (.ref 135), some (.int (nI (6 * j))), none, none] [] (mput A S B) Q
    refine g_aload_n (pc := 346) dc_L_law_346 rfl ?_
    refine g_v0 (pc := 347) (M' := mt_W_drop) dc_L_law_347 mo_W_drop im_W_drop se_W_drop ln_L_47 c1.1.1 rfl rfl (Nat.le_of_ble_eq_true rfl) (Nat.le_of_ble_eq_true rfl) (am_G.mono (w_W_drop (d := 50) (n := Rs.length) c1.1 c1.2.1 c1.2.2.2.2.1 hL8 c2.1.1 c2.1.2.1 m2.1.2.1) ?_)
    intro r h1 hz
    rw [e] at hz
    obtain ⟨w1, g1, s1, s2, s3, y1, s4, s5⟩ := hz
    rw [y1]
    clear y1 r
    obtain ⟨A1, B1, hA1, rfl, ho1⟩ := af_W g1 hA ho (by decide)
    refine ⟨am_nti _, ?_⟩
    refine g_aload_n (pc := 350) dc_L_law_350 rfl ?_
    refine g_v0 (pc := 351) (M' := mt_M_drop) dc_L_law_351 mo_M_drop im_M_drop se_M_drop ln_L_51 (mp_o hA1) rfl rfl (Nat.le_of_ble_eq_true rfl) (Nat.le_of_ble_eq_true rfl) (am_G.mono (c_M_drop (d := 52) hA1 hM1 hb.1 m1.1 m2.1 (fun D9 e9 => mem_r _ (adU_r e9))) ?_)
    intro r h9 hz
    rw [e] at hz
    obtain ⟨y1, S1, T1, y2, em, tb, hpre, tp, pr⟩ := hz
    rw [y1, y2]
    clear y1 y2 h9 r
    refine ⟨am_nti _, ?_⟩
    refine g_icmp_eq (pc := 354) (tgt := 873) dc_L_law_354 rfl (fun _ => ?_) (fun hc => absurd hc (by decide))
    have c11 : C1 w1 (mput A1 S B1) [] D := ⟨c1.1.fr g1 (by decide), s2, c1.2.2.1.fr g1 (by decide), c1.2.2.2.1.fr g1 (by decide), s1, by obtain ⟨Tx, hTx⟩ := c1.2.2.2.2.2; exact ⟨Tx, hTx.fr g1 (by decide) (by decide)⟩⟩
    have hp1 := hp.us (w1 := w1) (by rw [s3]; omega) (g1.2.1 98 (by decide))
    have c21 : C2 w1 (mput A1 S B1) P Rs Rt sett Sd := ⟨⟨s4, s5, c2.1.2.2.fr g1 (by decide)⟩, c2.2.1.fr g1 (by decide), c2.2.2.fr g1 (by decide) (by decide)⟩
    have m21 : M2 S1 T1 Y P Rs Rt sett Sd := ⟨pr, (m2.2.1.m em (by decide) (by decide) (by decide)).pre hpre (List.prefix_refl Y), m2.2.2.1.m em (by decide), (m2.2.2.2.m em (by decide) (by decide)).pre hpre⟩
    exact KK _ (inv_mk hA1 ho1 c11 c21 (c3.fr g1 (by decide)) (c4.fr g1 (by decide)) (c5.fr g1 (by decide)) ⟨tp, m1.2.m em (by decide) (by decide)⟩ m21 ((m3.m em (by decide)).pre hpre (List.prefix_refl Y)) ((m4.m em (by decide)).pre hpre (List.prefix_refl Y)) tb hp1 (hr.fr g1))
  | some P1 =>
    show am_G X mt_L_law 60 346 [some (.retAddr 300), some (.ref 0), some (.ref 84), some (.ref 135), some (.int (nI (6 * j))), none, none] [] (mput A S B) Q
    refine g_aload_n (pc := 346) dc_L_law_346 rfl ?_
    refine g_v0 (pc := 347) (M' := mt_W_drop) dc_L_law_347 mo_W_drop im_W_drop se_W_drop ln_L_47 c1.1.1 rfl rfl (Nat.le_of_ble_eq_true rfl) (Nat.le_of_ble_eq_true rfl) (am_G.mono (w_W_drop (d := 50) (n := Rs.length) c1.1 c1.2.1 c1.2.2.2.2.1 hL8 c2.1.1 c2.1.2.1 m2.1.2.1) ?_)
    intro r h1 hz
    rw [e] at hz
    obtain ⟨w1, g1, s1, s2, s3, y1, s4, s5⟩ := hz
    rw [y1]
    clear y1 r
    obtain ⟨A1, B1, hA1, rfl, ho1⟩ := af_W g1 hA ho (by decide)
    refine ⟨am_nti _, ?_⟩
    refine g_aload_n (pc := 350) dc_L_law_350 rfl ?_
    refine g_v0 (pc := 351) (M' := mt_M_drop) dc_L_law_351 mo_M_drop im_M_drop se_M_drop ln_L_51 (mp_o hA1) rfl rfl (Nat.le_of_ble_eq_true rfl) (Nat.le_of_ble_eq_true rfl) (am_G.mono (c_M_drop (d := 52) hA1 hM1 hb.1 m1.1 m2.1 (fun D9 e9 => mem_r _ (adU_r e9))) ?_)
    intro r h9 hz
    rw [e] at hz
    obtain ⟨y1, S1, T1, y2, em, tb, hpre, tp, pr⟩ := hz
    rw [y1, y2]
    clear y1 y2 h9 r
    refine ⟨am_nti _, ?_⟩
    refine g_icmp_eq (pc := 354) (tgt := 873) dc_L_law_354 rfl (fun _ => ?_) (fun hc => absurd hc (by decide))
    have c11 : C1 w1 (mput A1 S B1) [] D := ⟨c1.1.fr g1 (by decide), s2, c1.2.2.1.fr g1 (by decide), c1.2.2.2.1.fr g1 (by decide), s1, by obtain ⟨Tx, hTx⟩ := c1.2.2.2.2.2; exact ⟨Tx, hTx.fr g1 (by decide) (by decide)⟩⟩
    have hp1 : PU (j + 1) w1 Y (U ++ adU L) [] P1 Rt Rs sett Sd st9 lim q K0 H := by have h9 := hp.us (w1 := w1) (by rw [s3]; omega) (g1.2.1 98 (by decide)); exact ⟨h9.1, ⟨h9.2.1.1, drp_U e hp.2.1.2.1, h9.2.1.2.2⟩, h9.2.2⟩
    have c21 : C2 w1 (mput A1 S B1) P1 Rs Rt sett Sd := ⟨⟨s4, s5, c2.1.2.2.fr g1 (by decide)⟩, c2.2.1.fr g1 (by decide), c2.2.2.fr g1 (by decide) (by decide)⟩
    have m21 : M2 S1 T1 Y P1 Rs Rt sett Sd := ⟨pr, (m2.2.1.m em (by decide) (by decide) (by decide)).pre hpre (List.prefix_refl Y), m2.2.2.1.m em (by decide), (m2.2.2.2.m em (by decide) (by decide)).pre hpre⟩
    exact KK _ (inv_mk hA1 ho1 c11 c21 (c3.fr g1 (by decide)) (c4.fr g1 (by decide)) (c5.fr g1 (by decide)) ⟨tp, m1.2.m em (by decide) (by decide)⟩ m21 ((m3.m em (by decide)).pre hpre (List.prefix_refl Y)) ((m4.m em (by decide)).pre hpre (List.prefix_refl Y)) tb hp1 (hr.fr g1))
theorem op_3 {X : am_X} {Q : Option Value → List va_E → Prop} {j : Nat} {h : List va_E} (hl9 : X.1.stackTraces = false) (hj : j < 512) (hk : 6 * j + 6 ≤ X.2.2.2.2.2.1) (hN : X.2.2.2.2.2.1 ≤ 3072) (hI : INV j h) (KK : ∀ h1, INV (j + 1) h1 → am_G X mt_L_law 60 873 (LO j) [] h1 Q) : am_G X mt_L_law 60 321 (LO j) [] h Q := by
  obtain ⟨w, A, S, B, T, Y, U, L, D, P, Rs, Rt, sett, Sd, st9, lim, q, K0, pn, H, ⟨hA, rfl, ho⟩, ⟨c1, c2, c3, c4, c5⟩, ⟨m1, m2, m3, m4, hM⟩, hp, hr⟩ := hI
  have hb := hp.bd hj
  have hL8 := m1.1.2.2.1
  have hqe := hp.qe
  have hqw := hp.qw
  obtain ⟨p1, e1⟩ : ∃ p, X.2.2.2.2.2.2 (6 * j + 1) = p := ⟨_, rfl⟩
  have hM1 : tbM S T Y (U ++ adU L) := hM.mo mem_l
  cases e : pge L p1 P with
  | none =>
    show am_G X mt_L_law 60 321 [some (.retAddr 300), some (.ref 0), some (.ref 84), some (.ref 135), some (.int (nI (6 * j))), none, none] [] (mput A S B) Q
    refine g_aload_n (pc := 321) dc_L_law_321 rfl ?_
    refine g_xload_n (pc := 322) dc_L_law_322 rfl ?_
    refine g_iload (pc := 323) dc_L_law_323 rfl ?_
    refine g_iconst (pc := 325) (v := 1) dc_L_law_325 rfl ?_
    refine g_iadd (pc := 326) (v := (nI (6 * j + 1))) dc_L_law_326 (nI_add (6 * j) 1) ?_
    refine g_scr (pc := 327) (6 * j + 1) dc_L_law_327 (by omega) hN e1 ?_
    refine g_v1 (pc := 328) (M' := mt_W_page) dc_L_law_328 mo_W_page im_W_page se_W_page ln_L_43 c1.1.1 rfl rfl (Nat.le_of_ble_eq_true rfl) (Nat.le_of_ble_eq_true rfl) (am_G.mono (w_W_page (d := 50) (n := Rs.length) c1.1 c1.2.1 c1.2.2.2.2.1 hL8 c2.1.1 c2.1.2.1 m2.1.2.1) ?_)
    intro r h1 hz
    rw [e] at hz
    obtain ⟨w1, g1, s1, s2, s3, y1, s4, s5⟩ := hz
    rw [y1]
    clear y1 r
    obtain ⟨A1, B1, hA1, rfl, ho1⟩ := af_W g1 hA ho (by decide)
    refine ⟨am_nti _, ?_⟩
    refine g_aload_n (pc := 331) dc_L_law_331 rfl ?_
    refine g_xload_n (pc := 332) dc_L_law_332 rfl ?_
    refine g_iload (pc := 333) dc_L_law_333 rfl ?_
    refine g_iconst (pc := 335) (v := 1) dc_L_law_335 rfl ?_
    refine g_iadd (pc := 336) (v := (nI (6 * j + 1))) dc_L_law_336 (nI_add (6 * j) 1) ?_
    refine g_scr (pc := 337) (6 * j + 1) dc_L_law_337 (by omega) hN e1 ?_
    refine g_v1 (pc := 338) (M' := mt_M_page) dc_L_law_338 mo_M_page im_M_page se_M_page ln_L_46 (mp_o hA1) rfl rfl (Nat.le_of_ble_eq_true rfl) (Nat.le_of_ble_eq_true rfl) (am_G.mono (c_M_page (d := 52) hA1 hM1 hb.1 m1.1 m2.1 (fun D9 e9 => mem_r _ (adU_f e9)) hb.2.2.1 hb.2.2.2) ?_)
    intro r h9 hz
    rw [e] at hz
    obtain ⟨y1, S1, T1, y2, em, tb, hpre, pr, tp⟩ := hz
    rw [y1, y2]
    clear y1 y2 h9 r
    refine ⟨am_nti _, ?_⟩
    refine g_icmp_eq (pc := 341) (tgt := 873) dc_L_law_341 rfl (fun _ => ?_) (fun hc => absurd hc (by decide))
    have c11 : C1 w1 (mput A1 S B1) [] D := ⟨c1.1.fr g1 (by decide), s2, c1.2.2.1.fr g1 (by decide), c1.2.2.2.1.fr g1 (by decide), s1, by obtain ⟨Tx, hTx⟩ := c1.2.2.2.2.2; exact ⟨Tx, hTx.fr g1 (by decide) (by decide)⟩⟩
    have hp1 := hp.us (w1 := w1) s3 (g1.2.1 98 (by decide))
    have c21 : C2 w1 (mput A1 S B1) P Rs Rt sett Sd := ⟨⟨s4, s5, c2.1.2.2.fr g1 (by decide)⟩, c2.2.1.fr g1 (by decide), c2.2.2.fr g1 (by decide) (by decide)⟩
    have m21 : M2 S1 T1 Y P Rs Rt sett Sd := ⟨pr, (m2.2.1.m em (by decide) (by decide) (by decide)).pre hpre (List.prefix_refl Y), m2.2.2.1.m em (by decide), (m2.2.2.2.m em (by decide) (by decide)).pre hpre⟩
    exact KK _ (inv_mk hA1 ho1 c11 c21 (c3.fr g1 (by decide)) (c4.fr g1 (by decide)) (c5.fr g1 (by decide)) ⟨tp, m1.2.m em (by decide) (by decide)⟩ m21 ((m3.m em (by decide)).pre hpre (List.prefix_refl Y)) ((m4.m em (by decide)).pre hpre (List.prefix_refl Y)) tb hp1 (hr.fr g1))
  | some P1 =>
    show am_G X mt_L_law 60 321 [some (.retAddr 300), some (.ref 0), some (.ref 84), some (.ref 135), some (.int (nI (6 * j))), none, none] [] (mput A S B) Q
    refine g_aload_n (pc := 321) dc_L_law_321 rfl ?_
    refine g_xload_n (pc := 322) dc_L_law_322 rfl ?_
    refine g_iload (pc := 323) dc_L_law_323 rfl ?_
    refine g_iconst (pc := 325) (v := 1) dc_L_law_325 rfl ?_
    refine g_iadd (pc := 326) (v := (nI (6 * j + 1))) dc_L_law_326 (nI_add (6 * j) 1) ?_
    refine g_scr (pc := 327) (6 * j + 1) dc_L_law_327 (by omega) hN e1 ?_
    refine g_v1 (pc := 328) (M' := mt_W_page) dc_L_law_328 mo_W_page im_W_page se_W_page ln_L_43 c1.1.1 rfl rfl (Nat.le_of_ble_eq_true rfl) (Nat.le_of_ble_eq_true rfl) (am_G.mono (w_W_page (d := 50) (n := Rs.length) c1.1 c1.2.1 c1.2.2.2.2.1 hL8 c2.1.1 c2.1.2.1 m2.1.2.1) ?_)
    intro r h1 hz
    rw [e] at hz
    obtain ⟨w1, g1, s1, s2, s3, y1, s4, s5⟩ := hz
    rw [y1]
    clear y1 r
    obtain ⟨A1, B1, hA1, rfl, ho1⟩ := af_W g1 hA ho (by decide)
    refine ⟨am_nti _, ?_⟩
    refine g_aload_n (pc := 331) dc_L_law_331 rfl ?_
    refine g_xload_n (pc := 332) dc_L_law_332 rfl ?_
    refine g_iload (pc := 333) dc_L_law_333 rfl ?_
    refine g_iconst (pc := 335) (v := 1) dc_L_law_335 rfl ?_
    refine g_iadd (pc := 336) (v := (nI (6 * j + 1))) dc_L_law_336 (nI_add (6 * j) 1) ?_
    refine g_scr (pc := 337) (6 * j + 1) dc_L_law_337 (by omega) hN e1 ?_
    refine g_v1 (pc := 338) (M' := mt_M_page) dc_L_law_338 mo_M_page im_M_page se_M_page ln_L_46 (mp_o hA1) rfl rfl (Nat.le_of_ble_eq_true rfl) (Nat.le_of_ble_eq_true rfl) (am_G.mono (c_M_page (d := 52) hA1 hM1 hb.1 m1.1 m2.1 (fun D9 e9 => mem_r _ (adU_f e9)) hb.2.2.1 hb.2.2.2) ?_)
    intro r h9 hz
    rw [e] at hz
    obtain ⟨y1, S1, T1, y2, em, tb, hpre, pr, tp⟩ := hz
    rw [y1, y2]
    clear y1 y2 h9 r
    refine ⟨am_nti _, ?_⟩
    refine g_icmp_eq (pc := 341) (tgt := 873) dc_L_law_341 rfl (fun hc341 => ?_) (fun hc => absurd hc (fun h9 => h9 rfl))
    have c11 : C1 w1 (mput A1 S B1) [] D := ⟨c1.1.fr g1 (by decide), s2, c1.2.2.1.fr g1 (by decide), c1.2.2.2.1.fr g1 (by decide), s1, by obtain ⟨Tx, hTx⟩ := c1.2.2.2.2.2; exact ⟨Tx, hTx.fr g1 (by decide) (by decide)⟩⟩
    have hp1 := hp.uy (w1 := w1) hj hL8 s3 (g1.2.1 98 (by decide)) (pge_U e hp.2.1.2.1) hp.1.1
    have c21 : C2 w1 (mput A1 S B1) P1 Rs Rt sett Sd := ⟨⟨s4, s5, c2.1.2.2.fr g1 (by decide)⟩, c2.2.1.fr g1 (by decide), c2.2.2.fr g1 (by decide) (by decide)⟩
    have m21 : M2 S1 T1 (Y ++ [rst L]) P1 Rs Rt sett Sd := ⟨pr, (m2.2.1.m em (by decide) (by decide) (by decide)).pre hpre (List.prefix_append Y [rst L]), m2.2.2.1.m em (by decide), (m2.2.2.2.m em (by decide) (by decide)).pre hpre⟩
    exact KK _ (inv_mk hA1 ho1 c11 c21 (c3.fr g1 (by decide)) (c4.fr g1 (by decide)) (c5.fr g1 (by decide)) ⟨tp, m1.2.m em (by decide) (by decide)⟩ m21 ((m3.m em (by decide)).pre hpre (List.prefix_append Y [rst L])) ((m4.m em (by decide)).pre hpre (List.prefix_append Y [rst L])) tb hp1 (hr.fr g1))
theorem op_5 {X : am_X} {Q : Option Value → List va_E → Prop} {j : Nat} {h : List va_E} (hl9 : X.1.stackTraces = false) (hj : j < 512) (hk : 6 * j + 6 ≤ X.2.2.2.2.2.1) (hN : X.2.2.2.2.2.1 ≤ 3072) (hI : INV j h) (KK : ∀ h1, INV (j + 1) h1 → am_G X mt_L_law 60 873 (LO j) [] h1 Q) : am_G X mt_L_law 60 359 (LO j) [] h Q := by
  obtain ⟨w, A, S, B, T, Y, U, L, D, P, Rs, Rt, sett, Sd, st9, lim, q, K0, pn, H, ⟨hA, rfl, ho⟩, ⟨c1, c2, c3, c4, c5⟩, ⟨m1, m2, m3, m4, hM⟩, hp, hr⟩ := hI
  have hb := hp.bd hj
  have hL8 := m1.1.2.2.1
  have hqe := hp.qe
  have hqw := hp.qw
  have hM1 : tbM S T Y (U ++ adU L) := hM.mo mem_l
  have hfw := wfW_of m2 hM hp.2.1.1 hp.1.1
  cases e : rle L Rs Rt with
  | none =>
    show am_G X mt_L_law 60 359 [some (.retAddr 300), some (.ref 0), some (.ref 84), some (.ref 135), some (.int (nI (6 * j))), none, none] [] (mput A S B) Q
    refine g_aload_n (pc := 359) dc_L_law_359 rfl ?_
    refine g_v0 (pc := 360) (M' := mt_W_rules) dc_L_law_360 mo_W_rules im_W_rules se_W_rules ln_L_52 c1.1.1 rfl rfl (Nat.le_of_ble_eq_true rfl) (Nat.le_of_ble_eq_true rfl) (am_G.mono (w_W_rules (d := 49) (n := P.length) c1.1 c1.2.1 c1.2.2.2.2.1 hL8 c2.1.1 c2.1.2.2 hfw.2.1 hfw.2.2.1 hp.1.1) ?_)
    intro r h1 hz
    rw [e] at hz
    obtain ⟨w1, g1, s1, s2, y1, s4, s5⟩ := hz
    rw [y1]
    clear y1 r
    obtain ⟨A1, B1, hA1, rfl, ho1⟩ := af_W g1 hA ho (by decide)
    refine ⟨am_nti _, ?_⟩
    refine g_aload_n (pc := 363) dc_L_law_363 rfl ?_
    refine g_v0 (pc := 364) (M' := mt_M_rules) dc_L_law_364 mo_M_rules im_M_rules se_M_rules ln_L_55 (mp_o hA1) rfl rfl (Nat.le_of_ble_eq_true rfl) (Nat.le_of_ble_eq_true rfl) (am_G.mono (c_M_rules (d := 51) hA1 hM1 hb.1 m1.1 hp.2.1.1 m2.2.1 hp.1.1 (fun D9 e9 => mem_r _ (adU_f e9)) hb.2.2.1 hb.2.2.2 (rst_le.2 hL8)) ?_)
    intro r h9 hz
    rw [e] at hz
    obtain ⟨y1, S1, T1, y2, em, tb, hpre, pr, tp⟩ := hz
    rw [y1, y2]
    clear y1 y2 h9 r
    refine ⟨am_nti _, ?_⟩
    refine g_icmp_eq (pc := 367) (tgt := 873) dc_L_law_367 rfl (fun _ => ?_) (fun hc => absurd hc (by decide))
    have c11 : C1 w1 (mput A1 S B1) [] D := ⟨c1.1.fr g1 (by decide), s2, c1.2.2.1.fr g1 (by decide), c1.2.2.2.1.fr g1 (by decide), s1, by obtain ⟨Tx, hTx⟩ := c1.2.2.2.2.2; exact ⟨Tx, hTx.fr g1 (by decide) (by decide)⟩⟩
    have hp1 := hp.us (w1 := w1) (by rw [g1.2.1 27 (by decide)]; omega) (g1.2.1 98 (by decide))
    have c21 : C2 w1 (mput A1 S B1) P Rs Rt sett Sd := ⟨⟨s4, c2.1.2.1.fr g1 (by decide) (by decide), s5⟩, c2.2.1.fr g1 (by decide), c2.2.2.fr g1 (by decide) (by decide)⟩
    have m21 : M2 S1 T1 Y P Rs Rt sett Sd := ⟨(m2.1.m em (by decide) (by decide) (by decide) (by decide)).pre hpre (List.prefix_refl Y), pr, m2.2.2.1.m em (by decide), (m2.2.2.2.m em (by decide) (by decide)).pre hpre⟩
    exact KK _ (inv_mk hA1 ho1 c11 c21 (c3.fr g1 (by decide)) (c4.fr g1 (by decide)) (c5.fr g1 (by decide)) ⟨tp, m1.2.m em (by decide) (by decide)⟩ m21 ((m3.m em (by decide)).pre hpre (List.prefix_refl Y)) ((m4.m em (by decide)).pre hpre (List.prefix_refl Y)) tb hp1 (hr.fr g1))
  | some z =>
    show am_G X mt_L_law 60 359 [some (.retAddr 300), some (.ref 0), some (.ref 84), some (.ref 135), some (.int (nI (6 * j))), none, none] [] (mput A S B) Q
    refine g_aload_n (pc := 359) dc_L_law_359 rfl ?_
    refine g_v0 (pc := 360) (M' := mt_W_rules) dc_L_law_360 mo_W_rules im_W_rules se_W_rules ln_L_52 c1.1.1 rfl rfl (Nat.le_of_ble_eq_true rfl) (Nat.le_of_ble_eq_true rfl) (am_G.mono (w_W_rules (d := 49) (n := P.length) c1.1 c1.2.1 c1.2.2.2.2.1 hL8 c2.1.1 c2.1.2.2 hfw.2.1 hfw.2.2.1 hp.1.1) ?_)
    intro r h1 hz
    rw [e] at hz
    obtain ⟨w1, g1, s1, s2, y1, s4, s5⟩ := hz
    rw [y1]
    clear y1 r
    obtain ⟨A1, B1, hA1, rfl, ho1⟩ := af_W g1 hA ho (by decide)
    refine ⟨am_nti _, ?_⟩
    refine g_aload_n (pc := 363) dc_L_law_363 rfl ?_
    refine g_v0 (pc := 364) (M' := mt_M_rules) dc_L_law_364 mo_M_rules im_M_rules se_M_rules ln_L_55 (mp_o hA1) rfl rfl (Nat.le_of_ble_eq_true rfl) (Nat.le_of_ble_eq_true rfl) (am_G.mono (c_M_rules (d := 51) hA1 hM1 hb.1 m1.1 hp.2.1.1 m2.2.1 hp.1.1 (fun D9 e9 => mem_r _ (adU_f e9)) hb.2.2.1 hb.2.2.2 (rst_le.2 hL8)) ?_)
    intro r h9 hz
    rw [e] at hz
    obtain ⟨y1, S1, T1, y2, em, tb, hpre, pr, tp⟩ := hz
    rw [y1, y2]
    clear y1 y2 h9 r
    refine ⟨am_nti _, ?_⟩
    refine g_icmp_eq (pc := 367) (tgt := 873) dc_L_law_367 rfl (fun hc367 => ?_) (fun hc => absurd hc (fun h9 => h9 rfl))
    have c11 : C1 w1 (mput A1 S B1) [] D := ⟨c1.1.fr g1 (by decide), s2, c1.2.2.1.fr g1 (by decide), c1.2.2.2.1.fr g1 (by decide), s1, by obtain ⟨Tx, hTx⟩ := c1.2.2.2.2.2; exact ⟨Tx, hTx.fr g1 (by decide) (by decide)⟩⟩
    have hp1 := hp.uy (w1 := w1) hj hL8 (by rw [g1.2.1 27 (by decide)]; omega) (g1.2.1 98 (by decide)) (hp.2.1.2.1.mo mem_l) (rle_l e hp.1.1)
    have c21 : C2 w1 (mput A1 S B1) P z.1 z.2 sett Sd := ⟨⟨s4, c2.1.2.1.fr g1 (by decide) (by decide), s5⟩, c2.2.1.fr g1 (by decide), c2.2.2.fr g1 (by decide) (by decide)⟩
    have m21 : M2 S1 T1 (Y ++ [rst L]) P z.1 z.2 sett Sd := ⟨(m2.1.m em (by decide) (by decide) (by decide) (by decide)).pre hpre (List.prefix_append Y [rst L]), pr, m2.2.2.1.m em (by decide), (m2.2.2.2.m em (by decide) (by decide)).pre hpre⟩
    exact KK _ (inv_mk hA1 ho1 c11 c21 (c3.fr g1 (by decide)) (c4.fr g1 (by decide)) (c5.fr g1 (by decide)) ⟨tp, m1.2.m em (by decide) (by decide)⟩ m21 ((m3.m em (by decide)).pre hpre (List.prefix_append Y [rst L])) ((m4.m em (by decide)).pre hpre (List.prefix_append Y [rst L])) tb hp1 (hr.fr g1))
