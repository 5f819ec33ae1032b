/-! ===== the finder looks at a page ===== -/
section E6S
variable {X : am_X} {d i k n : Nat} {D L E Dp : List Int32} {w w0 w1 : Gw} {h h0 h1 : List va_E} {I : List Nat} {T Tw : List (List Int32)} {p x : Int32}
theorem rst_len : (rst L).length = L.length - bhf L := by
  unfold rst
  rw [sub_len (Nat.le_refl _)]
theorem rst_tO {b : Nat} (z : tO w h i b 0 L) : tO w h i b (bhf L) (rst L) := tO.sub z bhf_le
theorem w_P_readLinks1 {c : Nat} {Ls : List (List Int32)} (ho : okD D) (hL8 : (rst L).length ≤ 7999) (hS : pgS w h Ls) (hx0 : tO w h 1 c 0 L) (hD0 : bE w h 5 5 D) : am_C X mt_P_readLinks (d + 9) [.ref 12, .ref c, .int (nI (bhf L)), .int (nI L.length), .ref 5] h (fun r h1 => r = none ∧ ∃ w1, fr w w1 h h1 [8, 10, 13, 14, 21, 22, 24] ∧ pgS w1 h1 (pgL (rst L) D)) := by
  have h9 := w_P_readLinks (X := X) (d := d) (s := bhf L) (q := 1) (ja := 5) (by decide) (by decide) ho hL8 hS (rst_tO hx0) hD0
  have := bhf_le (L := L)
  rw [show bhf L + (rst L).length = L.length by rw [rst_len]; omega] at h9
  exact h9
theorem w_P_readWords1 {c : Nat} (hL8 : (rst L).length ≤ 7999) (hP0 : pR w h) (hS : eS w h) (hPl0 : eB w h 24 24) (hRw0 : rE w h 17 18 17 18 [] []) (hx0 : tO w h 1 c 0 L) : am_C X mt_P_readWords (d + 9) [.ref 12, .ref c, .int (nI (bhf L)), .int (nI L.length), .ref 17] h (fun r h1 => r = none ∧ ∃ w1, fr w w1 h h1 [21, 24, 17, 18] ∧ pR w1 h1 ∧ eS w1 h1 ∧ eB w1 h1 24 24 ∧ rE w1 h1 17 18 17 18 (pgW (rst L)) []) := by
  have h9 := w_P_readWords_17 (X := X) (d := d) (s := bhf L) (q := 1) (by decide) hL8 hP0 hS hPl0 hRw0 (rst_tO hx0) (by show 0 + _ ≤ _; omega) (by show 0 + _ ≤ _; omega)
  have := bhf_le (L := L)
  rw [show bhf L + (rst L).length = L.length by rw [rst_len]; omega] at h9
  exact h9
theorem rdC_wd (z : rdC w h) (f : fr w w1 h h1 [21, 24, 17, 18]) (a : pR w1 h1) (b : eS w1 h1) (c : eB w1 h1 24 24) : rdC w1 h1 := by
  obtain ⟨Ls, a1, a2, a3, a4, a5, a6, a7⟩ := z
  exact ⟨Ls, a, a2.fr f (by decide) (by decide) (by decide), b, a4.fr f (by decide), a5.fr f (by decide), c, a7.fr f (by decide) (by decide)⟩
theorem w_W_look (hW : wO w h) (hT : bE w h 1 1 L) (hS : rdC w h) (h8 : L.length ≤ 8000) (hB : eB w h 5 5) (hP : bE w h 3 3 Dp) (hQ : rE w h 17 18 17 18 Tw []) : am_C X mt_W_look (d + 10) [.ref 0, .int p] h (fun r h1 => ∃ w1, fr w w1 h h1 [1, 3, 5, 8, 10, 13, 14, 17, 18, 21, 22, 24] ∧ rdC w1 h1 ∧ bE w1 h1 1 1 [] ∧ eB w1 h1 5 5 ∧ (∃ Tx, rE w1 h1 17 18 17 18 Tx []) ∧ match lok L p with | none => r = some (.int (-1)) ∧ bE w1 h1 3 3 Dp | some T => r = some (.int (nI T.length)) ∧ bE w1 h1 3 3 (lnR T)) := by
  show am_G X mt_W_look (d + 10) 0 [some (.ref 0), some (.int p), none, none] [] h _
  refine g_aload_n (pc := 0) dc_W_look_0 rfl ?_
  refine g_v0 (pc := 1) (M' := mt_W_resolveLine) dc_W_look_1 mo_W_resolveLine im_W_resolveLine se_W_resolveLine ln_W_98 hW.1 rfl rfl (Nat.le_of_ble_eq_true rfl) (Nat.le_of_ble_eq_true rfl) (am_G.mono (w_W_resolveLine (d := d + 1) hW hT hS.ar.1 hS.ar.2 h8) ?_)
  intro r h9 hz
  obtain ⟨w9, z1, hA9, z4⟩ := hz
  have hT9 := hT.fr z1 (by decide)
  have hP9 := hP.fr z1 (by decide)
  have hQ9 := hQ.fr z1 (by decide) (by decide)
  have hB9 := hB.fr z1 (by decide)
  have hbL := hT.bt
  have hW9 := hW.fr z1 (by decide)
  cases hm : fsa L with
  | none =>
    rw [hm] at z4
    rw [z4.1]
    refine ⟨am_nti _, ?_⟩
    have hS9 := rdC_nw hS z1 hA9 ⟨_, z4.2⟩ (by decide)
    rw [show lok L p = none by unfold lok; rw [hm]]
    refine g_istore_n (pc := 4) dc_W_look_4 (by decide) ?_
    show am_G X mt_W_look _ 5 [some (.ref 0), some (.int p), some (.int 0), none] [] _ _
    refine g_iconst (pc := 5) (v := (-1)) dc_W_look_5 rfl ?_
    refine g_istore_n (pc := 6) dc_W_look_6 (by decide) ?_
    show am_G X mt_W_look _ 7 [some (.ref 0), some (.int p), some (.int 0), some (.int (-1))] [] _ _
    refine g_iload_n (pc := 7) dc_W_look_7 rfl ?_
    refine g_if_eq (pc := 8) (tgt := 73) dc_W_look_8 rfl (fun _ => ?_) (fun hc => absurd hc (by decide))
    refine g_iload_n (pc := 73) dc_W_look_73 rfl ?_
    refine g_if_eq (pc := 74) (tgt := 136) dc_W_look_74 rfl (fun _ => ?_) (fun hc => absurd hc (by decide))
    refine g_aload_n (pc := 136) dc_W_look_136 rfl ?_
    refine g_getfield (pc := 137) dc_W_look_137 fl_W_12 hW9.1 rfl ?_
    have hT1c := hT9
    obtain ⟨b1c, q1c⟩ := hT1c
    refine g_v0 (pc := 140) (M' := mt_B_clear) dc_W_look_140 mo_B_clear im_B_clear se_B_clear ln_W_121 q1c.1.ha rfl rfl (Nat.le_of_ble_eq_true rfl) (Nat.le_of_ble_eq_true rfl) (am_G.mono (w_B_clear (i := 1) (by decide) hT9) ?_)
    intro r h5 hz
    obtain ⟨u1, w5, u2, u3⟩ := hz
    rw [u1]
    clear u1 r
    refine ⟨am_nt0, ?_⟩
    refine g_iload_n (pc := 143) dc_W_look_143 rfl ?_
    exact g_ireturn dc_W_look_144 rfl ⟨w5, (z1.mo (by decide)).tr (u2.mo (by decide)), hS9.fr u2 (by decide), u3, hB9.fr u2 (by decide), ⟨_, hQ9.fr u2 (by decide) (by decide)⟩, rfl, hP9.fr u2 (by decide)⟩
  | some D =>
    rw [hm] at z4
    rw [z4.1]
    refine ⟨am_nti _, ?_⟩
    have hS9 := rdC_nw hS z1 hA9 ⟨_, z4.2⟩ (by decide)
    have hoD := fsa_ok hbL hm
    have h200 := hoD.2.2.2.2.1
    have hf1 := fsa_1 hm
    have hr8 : (rst L).length ≤ 7999 := by rw [rst_len]; omega
    have hbR : btg (rst L) := btg_sub hbL (Nat.le_refl _)
    cases e6 : ixo p 2 with
    | none =>
      have hx0 : ¬ p = 0 := fun h9 => by rw [h9] at e6; exact absurd e6 (by decide)
      have hx1 : ¬ p = 1 := fun h9 => by rw [h9] at e6; exact absurd e6 (by decide)
      rw [show lok L p = none by unfold lok; rw [hm]; dsimp only; rw [e6]]
      refine g_istore_n (pc := 4) dc_W_look_4 (by decide) ?_
      show am_G X mt_W_look _ 5 [some (.ref 0), some (.int p), some (.int 1), none] [] _ _
      refine g_iconst (pc := 5) (v := (-1)) dc_W_look_5 rfl ?_
      refine g_istore_n (pc := 6) dc_W_look_6 (by decide) ?_
      show am_G X mt_W_look _ 7 [some (.ref 0), some (.int p), some (.int 1), some (.int (-1))] [] _ _
      refine g_iload_n (pc := 7) dc_W_look_7 rfl ?_
      refine g_if_eq (pc := 8) (tgt := 73) dc_W_look_8 rfl (fun hc => absurd hc (by decide)) (fun _ => ?_)
      refine g_iload_n (pc := 11) dc_W_look_11 rfl ?_
      refine g_if_ne (pc := 12) (tgt := 73) dc_W_look_12 rfl (fun hc12 => ?_) (fun hc => absurd hc (hx0))
      refine g_iload_n (pc := 73) dc_W_look_73 rfl ?_
      refine g_if_eq (pc := 74) (tgt := 136) dc_W_look_74 rfl (fun hc => absurd hc (by decide)) (fun _ => ?_)
      refine g_iload_n (pc := 77) dc_W_look_77 rfl ?_
      refine g_iconst (pc := 78) (v := 1) dc_W_look_78 rfl ?_
      refine g_icmp_ne (pc := 79) (tgt := 136) dc_W_look_79 rfl (fun hc79 => ?_) (fun hc => absurd hc (hx1))
      refine g_aload_n (pc := 136) dc_W_look_136 rfl ?_
      refine g_getfield (pc := 137) dc_W_look_137 fl_W_12 hW9.1 rfl ?_
      have hT1c := hT9
      obtain ⟨b1c, q1c⟩ := hT1c
      refine g_v0 (pc := 140) (M' := mt_B_clear) dc_W_look_140 mo_B_clear im_B_clear se_B_clear ln_W_121 q1c.1.ha rfl rfl (Nat.le_of_ble_eq_true rfl) (Nat.le_of_ble_eq_true rfl) (am_G.mono (w_B_clear (i := 1) (by decide) hT9) ?_)
      intro r h5 hz
      obtain ⟨u1, w5, u2, u3⟩ := hz
      rw [u1]
      clear u1 r
      refine ⟨am_nt0, ?_⟩
      refine g_iload_n (pc := 143) dc_W_look_143 rfl ?_
      exact g_ireturn dc_W_look_144 rfl ⟨w5, (z1.mo (by decide)).tr (u2.mo (by decide)), hS9.fr u2 (by decide), u3, hB9.fr u2 (by decide), ⟨_, hQ9.fr u2 (by decide) (by decide)⟩, rfl, hP9.fr u2 (by decide)⟩
    | some k =>
      obtain ⟨hk, rfl⟩ := ixo_s e6
      rcases (by omega : k = 0 ∨ k = 1) with rfl | rfl
      · rw [show lok L (nI 0) = some (pgL (rst L) D) by unfold lok; rw [hm]; dsimp only; rw [e6]]
        show am_G X mt_W_look (d + 10) 4 [some (.ref 0), some (.int 0), none, none] [.int 1] h9 _
        obtain ⟨LB, hB9b⟩ := hB9
        have hB9c := hB9b
        obtain ⟨b5, q5⟩ := hB9c
        have hok := pgL_ok (L := rst L) (D := D) hbR hoD
        have hfl := ok_fl _ hok
        have h60 := lkf_len (L := rst L) (D := D)
        refine g_istore_n (pc := 4) dc_W_look_4 (by decide) ?_
        show am_G X mt_W_look _ 5 [some (.ref 0), some (.int 0), some (.int 1), none] [] _ _
        refine g_iconst (pc := 5) (v := (-1)) dc_W_look_5 rfl ?_
        refine g_istore_n (pc := 6) dc_W_look_6 (by decide) ?_
        show am_G X mt_W_look _ 7 [some (.ref 0), some (.int 0), some (.int 1), some (.int (-1))] [] _ _
        refine g_iload_n (pc := 7) dc_W_look_7 rfl ?_
        refine g_if_eq (pc := 8) (tgt := 73) dc_W_look_8 rfl (fun hc => absurd hc (by decide)) (fun _ => ?_)
        refine g_iload_n (pc := 11) dc_W_look_11 rfl ?_
        refine g_if_ne (pc := 12) (tgt := 73) dc_W_look_12 rfl (fun hc => absurd hc (by decide)) (fun _ => ?_)
        refine g_aload_n (pc := 15) dc_W_look_15 rfl ?_
        refine g_getfield (pc := 16) dc_W_look_16 fl_W_21 hW9.1 rfl ?_
        refine g_aload_n (pc := 19) dc_W_look_19 rfl ?_
        refine g_getfield (pc := 20) dc_W_look_20 fl_W_27 hW9.1 rfl ?_
        refine g_getfield (pc := 23) dc_W_look_23 fl_W_102 hA9.1.1 rfl ?_
        refine g_v1 (pc := 26) (M' := mt_B_become) dc_W_look_26 mo_B_become im_B_become se_B_become ln_W_105 q5.1.ha rfl rfl (Nat.le_of_ble_eq_true rfl) (Nat.le_of_ble_eq_true rfl) (am_G.mono (w_B_become (d := d + 6) (i := 5) (j := 8) (by decide) hB9b z4.2 (by decide) (by show 2 * _ + 16 ≤ 40016; omega)) ?_)
        intro r h2 hz
        obtain ⟨y1, w2, g2, hB2⟩ := hz
        rw [y1]
        clear y1 r
        have hS2 := hS9.fr g2 (by decide)
        have hW2 := hW9.fr g2 (by decide)
        have hT2 := hT9.fr g2 (by decide)
        have hP2 := hP9.fr g2 (by decide)
        have hQ2 := hQ9.fr g2 (by decide) (by decide)
        have hT2c := hT2
        obtain ⟨b1t, q1t⟩ := hT2c
        obtain ⟨Ls, hS2s⟩ := hS2
        have hPr := hS2s.1
        refine ⟨am_nt0, ?_⟩
        refine g_aload_n (pc := 29) dc_W_look_29 rfl ?_
        refine g_getfield (pc := 30) dc_W_look_30 fl_W_36 hW2.1 rfl ?_
        refine g_aload_n (pc := 33) dc_W_look_33 rfl ?_
        refine g_getfield (pc := 34) dc_W_look_34 fl_W_12 hW2.1 rfl ?_
        refine g_getfield (pc := 37) dc_W_look_37 fl_W_109 q1t.1.ha rfl ?_
        refine g_aload_n (pc := 40) dc_W_look_40 rfl ?_
        refine g_v0 (pc := 41) (M' := mt_W_restFrom) dc_W_look_41 mo_W_restFrom im_W_restFrom se_W_restFrom ln_W_113 hW2.1 rfl rfl (Nat.le_of_ble_eq_true rfl) (Nat.le_of_ble_eq_true rfl) (am_G.mono (c_W_restFrom (d := d + 7) hW2 hT2 h8) ?_)
        intro r h1 hq
        rw [hq.1, hq.2]
        clear hq h1 r
        refine ⟨am_nti _, ?_⟩
        refine g_aload_n (pc := 44) dc_W_look_44 rfl ?_
        refine g_getfield (pc := 45) dc_W_look_45 fl_W_12 hW2.1 rfl ?_
        refine g_getfield (pc := 48) dc_W_look_48 fl_W_85 q1t.1.ha rfl ?_
        refine g_aload_n (pc := 51) dc_W_look_51 rfl ?_
        refine g_getfield (pc := 52) dc_W_look_52 fl_W_21 hW2.1 rfl ?_
        refine g_v4 (pc := 55) (M' := mt_P_readLinks) dc_W_look_55 mo_P_readLinks im_P_readLinks se_P_readLinks ln_W_142 hPr.1 rfl rfl (Nat.le_of_ble_eq_true rfl) (Nat.le_of_ble_eq_true rfl) (am_G.mono (w_P_readLinks1 (d := d) hoD hr8 hS2s q1t.tO hB2) ?_)
        intro r h3 hz
        obtain ⟨y1, w3, g3, hS3⟩ := hz
        rw [y1]
        clear y1 r
        have hW3 := hW2.fr g3 (by decide)
        have hT3 := hT2.fr g3 (by decide)
        have hP3 := hP2.fr g3 (by decide)
        have hQ3 := hQ2.fr g3 (by decide) (by decide)
        have hB3 := hB2.fr g3 (by decide)
        have hPr3 := hS3.1
        refine ⟨am_nt0, ?_⟩
        refine g_aload_n (pc := 58) dc_W_look_58 rfl ?_
        refine g_aload_n (pc := 59) dc_W_look_59 rfl ?_
        refine g_getfield (pc := 60) dc_W_look_60 fl_W_36 hW3.1 rfl ?_
        refine g_getfield (pc := 63) dc_W_look_63 fl_W_146 hPr3.1 rfl ?_
        refine g_v1 (pc := 66) (M' := mt_W_produceLines) dc_W_look_66 mo_W_produceLines im_W_produceLines se_W_produceLines ln_W_149 hW3.1 rfl rfl (Nat.le_of_ble_eq_true rfl) (Nat.le_of_ble_eq_true rfl) (am_G.mono (w_W_produceLines (d := d + 6) (i := 13) (j := 14) (by omega) (by decide) hW3 ⟨_, hP3⟩ hS3.2.2.2.2.2.2) ?_)
        intro r h4 hz
        obtain ⟨y1, w4, g4, hP4⟩ := hz
        rw [y1]
        clear y1 r
        have hW4 := hW3.fr g4 (by decide)
        have hT4 := hT3.fr g4 (by decide)
        have hQ4 := hQ3.fr g4 (by decide) (by decide)
        have hB4 := hB3.fr g4 (by decide)
        have hS4 : rdC w4 h4 := rdC.fr ⟨_, hS3⟩ g4 (by decide)
        refine ⟨am_nti _, ?_⟩
        refine g_istore_n (pc := 69) dc_W_look_69 (by decide) ?_
        show am_G X mt_W_look _ 70 [some (.ref 0), some (.int 0), some (.int 1), some (.int (nI ((pgL (rst L) D).length)))] [] _ _
        refine g_goto (pc := 70) (tgt := 136) dc_W_look_70 rfl ?_
        refine g_aload_n (pc := 136) dc_W_look_136 rfl ?_
        refine g_getfield (pc := 137) dc_W_look_137 fl_W_12 hW4.1 rfl ?_
        have hT1c := hT4
        obtain ⟨b1c, q1c⟩ := hT1c
        refine g_v0 (pc := 140) (M' := mt_B_clear) dc_W_look_140 mo_B_clear im_B_clear se_B_clear ln_W_121 q1c.1.ha rfl rfl (Nat.le_of_ble_eq_true rfl) (Nat.le_of_ble_eq_true rfl) (am_G.mono (w_B_clear (i := 1) (by decide) hT4) ?_)
        intro r h5 hz
        obtain ⟨u1, w5, u2, u3⟩ := hz
        rw [u1]
        clear u1 r
        refine ⟨am_nt0, ?_⟩
        refine g_iload_n (pc := 143) dc_W_look_143 rfl ?_
        exact g_ireturn dc_W_look_144 rfl ⟨w5, ((((z1.mo (by decide)).tr (g2.mo (by decide))).tr (g3.mo (by decide))).tr (g4.mo (by decide))).tr (u2.mo (by decide)), hS4.fr u2 (by decide), u3, ⟨_, hB4.fr u2 (by decide)⟩, ⟨_, hQ4.fr u2 (by decide) (by decide)⟩, rfl, hP4.fr u2 (by decide)⟩
      · rw [show lok L (nI 1) = some (pgW (rst L)) by unfold lok; rw [hm]; dsimp only; rw [e6]]
        show am_G X mt_W_look (d + 10) 4 [some (.ref 0), some (.int 1), none, none] [.int 1] h9 _
        have hwl := pgW_len (L := rst L)
        have hS9a := hS9
        obtain ⟨Ls, hS9s⟩ := hS9a
        have hPr := hS9s.1
        have hQ9c := hQ9
        obtain ⟨bQ, eQ, hQr⟩ := hQ9c
        refine g_istore_n (pc := 4) dc_W_look_4 (by decide) ?_
        show am_G X mt_W_look _ 5 [some (.ref 0), some (.int 1), some (.int 1), none] [] _ _
        refine g_iconst (pc := 5) (v := (-1)) dc_W_look_5 rfl ?_
        refine g_istore_n (pc := 6) dc_W_look_6 (by decide) ?_
        show am_G X mt_W_look _ 7 [some (.ref 0), some (.int 1), some (.int 1), some (.int (-1))] [] _ _
        refine g_iload_n (pc := 7) dc_W_look_7 rfl ?_
        refine g_if_eq (pc := 8) (tgt := 73) dc_W_look_8 rfl (fun hc => absurd hc (by decide)) (fun _ => ?_)
        refine g_iload_n (pc := 11) dc_W_look_11 rfl ?_
        refine g_if_ne (pc := 12) (tgt := 73) dc_W_look_12 rfl (fun _ => ?_) (fun hc => absurd hc (by decide))
        refine g_iload_n (pc := 73) dc_W_look_73 rfl ?_
        refine g_if_eq (pc := 74) (tgt := 136) dc_W_look_74 rfl (fun hc => absurd hc (by decide)) (fun _ => ?_)
        refine g_iload_n (pc := 77) dc_W_look_77 rfl ?_
        refine g_iconst (pc := 78) (v := 1) dc_W_look_78 rfl ?_
        refine g_icmp_ne (pc := 79) (tgt := 136) dc_W_look_79 rfl (fun hc => absurd hc (by decide)) (fun _ => ?_)
        refine g_aload_n (pc := 82) dc_W_look_82 rfl ?_
        refine g_getfield (pc := 83) dc_W_look_83 fl_W_36 hW9.1 rfl ?_
        refine g_getfield (pc := 86) dc_W_look_86 fl_W_153 hPr.1 rfl ?_
        refine g_v0 (pc := 89) (M' := mt_R_clear) dc_W_look_89 mo_R_clear im_R_clear se_R_clear ln_W_156 hQr.1.1 rfl rfl (Nat.le_of_ble_eq_true rfl) (Nat.le_of_ble_eq_true rfl) (am_G.mono (w_R_clear (d := d + 7) (i := 17) (j := 18) (by decide) (by decide) (by decide) hQ9) ?_)
        intro r h2 hz
        obtain ⟨y1, w2, g2, hQ2⟩ := hz
        rw [y1]
        clear y1 r
        have hS2 := hS9.fr g2 (by decide)
        have hW2 := hW9.fr g2 (by decide)
        have hT2 := hT9.fr g2 (by decide)
        have hP2 := hP9.fr g2 (by decide)
        have hB2 := hB9.fr g2 (by decide)
        have hT2c := hT2
        obtain ⟨b1t, q1t⟩ := hT2c
        have hS2a := hS2
        obtain ⟨Ls2, hS2s⟩ := hS2a
        have hPr2 := hS2s.1
        refine ⟨am_nt0, ?_⟩
        refine g_aload_n (pc := 92) dc_W_look_92 rfl ?_
        refine g_getfield (pc := 93) dc_W_look_93 fl_W_36 hW2.1 rfl ?_
        refine g_aload_n (pc := 96) dc_W_look_96 rfl ?_
        refine g_getfield (pc := 97) dc_W_look_97 fl_W_12 hW2.1 rfl ?_
        refine g_getfield (pc := 100) dc_W_look_100 fl_W_109 q1t.1.ha rfl ?_
        refine g_aload_n (pc := 103) dc_W_look_103 rfl ?_
        refine g_v0 (pc := 104) (M' := mt_W_restFrom) dc_W_look_104 mo_W_restFrom im_W_restFrom se_W_restFrom ln_W_113 hW2.1 rfl rfl (Nat.le_of_ble_eq_true rfl) (Nat.le_of_ble_eq_true rfl) (am_G.mono (c_W_restFrom (d := d + 7) hW2 hT2 h8) ?_)
        intro r h1 hq
        rw [hq.1, hq.2]
        clear hq h1 r
        refine ⟨am_nti _, ?_⟩
        refine g_aload_n (pc := 107) dc_W_look_107 rfl ?_
        refine g_getfield (pc := 108) dc_W_look_108 fl_W_12 hW2.1 rfl ?_
        refine g_getfield (pc := 111) dc_W_look_111 fl_W_85 q1t.1.ha rfl ?_
        refine g_aload_n (pc := 114) dc_W_look_114 rfl ?_
        refine g_getfield (pc := 115) dc_W_look_115 fl_W_36 hW2.1 rfl ?_
        refine g_getfield (pc := 118) dc_W_look_118 fl_W_153 hPr2.1 rfl ?_
        refine g_v4 (pc := 121) (M' := mt_P_readWords) dc_W_look_121 mo_P_readWords im_P_readWords se_P_readWords ln_W_157 hPr2.1 rfl rfl (Nat.le_of_ble_eq_true rfl) (Nat.le_of_ble_eq_true rfl) (am_G.mono (w_P_readWords1 (d := d) hr8 hS2s.1 hS2s.2.2.1 hS2s.2.2.2.2.2.1 hQ2 q1t.tO) ?_)
        intro r h3 hz
        obtain ⟨y1, w3, g3, hPr3, he3, hb3, hQ3⟩ := hz
        rw [y1]
        clear y1 r
        have hS3 := rdC_wd hS2 g3 hPr3 he3 hb3
        have hW3 := hW2.fr g3 (by decide)
        have hT3 := hT2.fr g3 (by decide)
        have hP3 := hP2.fr g3 (by decide)
        have hB3 := hB2.fr g3 (by decide)
        refine ⟨am_nt0, ?_⟩
        refine g_aload_n (pc := 124) dc_W_look_124 rfl ?_
        refine g_aload_n (pc := 125) dc_W_look_125 rfl ?_
        refine g_getfield (pc := 126) dc_W_look_126 fl_W_36 hW3.1 rfl ?_
        refine g_getfield (pc := 129) dc_W_look_129 fl_W_153 hPr3.1 rfl ?_
        refine g_v1 (pc := 132) (M' := mt_W_produceLines) dc_W_look_132 mo_W_produceLines im_W_produceLines se_W_produceLines ln_W_149 hW3.1 rfl rfl (Nat.le_of_ble_eq_true rfl) (Nat.le_of_ble_eq_true rfl) (am_G.mono (w_W_produceLines (d := d + 6) (i := 17) (j := 18) (by omega) (by decide) hW3 ⟨_, hP3⟩ hQ3) ?_)
        intro r h4 hz
        obtain ⟨y1, w4, g4, hP4⟩ := hz
        rw [y1]
        clear y1 r
        have hW4 := hW3.fr g4 (by decide)
        have hT4 := hT3.fr g4 (by decide)
        have hQ4 := hQ3.fr g4 (by decide) (by decide)
        have hB4 := hB3.fr g4 (by decide)
        have hS4 := hS3.fr g4 (by decide)
        refine ⟨am_nti _, ?_⟩
        refine g_istore_n (pc := 135) dc_W_look_135 (by decide) ?_
        show am_G X mt_W_look _ 136 [some (.ref 0), some (.int 1), some (.int 1), some (.int (nI ((pgW (rst L)).length)))] [] _ _
        refine g_aload_n (pc := 136) dc_W_look_136 rfl ?_
        refine g_getfield (pc := 137) dc_W_look_137 fl_W_12 hW4.1 rfl ?_
        have hT1c := hT4
        obtain ⟨b1c, q1c⟩ := hT1c
        refine g_v0 (pc := 140) (M' := mt_B_clear) dc_W_look_140 mo_B_clear im_B_clear se_B_clear ln_W_121 q1c.1.ha rfl rfl (Nat.le_of_ble_eq_true rfl) (Nat.le_of_ble_eq_true rfl) (am_G.mono (w_B_clear (i := 1) (by decide) hT4) ?_)
        intro r h5 hz
        obtain ⟨u1, w5, u2, u3⟩ := hz
        rw [u1]
        clear u1 r
        refine ⟨am_nt0, ?_⟩
        refine g_iload_n (pc := 143) dc_W_look_143 rfl ?_
        exact g_ireturn dc_W_look_144 rfl ⟨w5, ((((z1.mo (by decide)).tr (g2.mo (by decide))).tr (g3.mo (by decide))).tr (g4.mo (by decide))).tr (u2.mo (by decide)), hS4.fr u2 (by decide), u3, hB4.fr u2 (by decide), ⟨_, hQ4.fr u2 (by decide) (by decide)⟩, rfl, hP4.fr u2 (by decide)⟩
end E6S
