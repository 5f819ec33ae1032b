/-! ===== the class's resolve as a whole ===== -/
section ARU
variable {X : am_X} {d a r p c s br cr bp cp f0 t0 : Nat} {h1 : List va_E} {L R0 P0 : List Int32}
theorem cD_A_resolve {bb bbb cbb : Nat} {D : List Int32} (hAr : h1[a]? = some (.inr (2, [.ref r, .ref p]))) (z1 : isB h1 r br cr R0) (z2 : isB h1 p bp cp P0) (hrp : r ≠ p) (z3 : isB h1 bb bbb cbb D) (kb1 : bb ≠ r) (kb3 : bb ≠ p) (kb5 : bbb ≠ br) (kb6 : bbb ≠ bp) (hD8 : 8 ≤ D.length) (hD9 : D.length ≤ 200) (hDh : 1 ≤ hen D ∧ hen D ≤ 100) (hbe : br ≠ bp) (hx : ttb h1 c s L) (hcr : c ≠ br) (hcp : c ≠ bp) (hft : f0 ≤ t0) (ht : t0 ≤ L.length) (hL8 : L.length ≤ 8000) : am_C X mt_A_resolve (d + 7) [.ref a, .ref c, .int (nI (s + f0)), .int (nI (s + t0)), .ref bb] h1 (fun r9 h9 => ∃ P9, P9.length ≤ 8300 ∧ match crr L f0 t0 (some D) with | some D => r9 = some (.int 1) ∧ A2 h1 h9 r br cr p bp cp D P9 | none => r9 = some (.int 0) ∧ A2 h1 h9 r br cr p bp cp [] P9) := by
  show am_G X mt_A_resolve (d + 7) 0 [some (.ref a), some (.ref c), some (.int (nI (s + f0))), some (.int (nI (s + t0))), some (.ref bb), none, none, none, none] [] h1 _
  have ka1 : a ≠ r := fun e => by rw [e, z1.ha] at hAr; cases hAr
  have ka3 : a ≠ p := fun e => by rw [e, z2.ha] at hAr; cases hAr
  have ka2 : a ≠ br := fun e => by obtain ⟨g, q1, q2, -⟩ := z1; rw [e, q2] at hAr; cases hAr
  have ka4 : a ≠ bp := fun e => by obtain ⟨g, q1, q2, -⟩ := z2; rw [e, q2] at hAr; cases hAr
  have Y1 : A2 h1 h1 r br cr p bp cp R0 P0 := A2.rf z1 z2 hbe
  have B1 := Y1
  obtain ⟨br1, cr1, bp1, cp1, i1, j1, ne1, w1⟩ := B1
  have hbs : s + L.length < 2 ^ 30 := by obtain ⟨cq, g, -, -, q1, q2⟩ := hx.tt; omega
  have hfb := fw_bd (p := isBl) (L := L) hft
  have heb := bw_bd (p := isBl) (L := L) (f := fw isBl L f0 t0) (t := t0) hfb.2
  have hsb := fw_bd (p := nev 35) (L := L) (f := fw isBl L f0 t0) (t := bw isBl L (fw isBl L f0 t0) t0) heb.1
  have hcb := fw_bd (p := nev 58) (L := L) (f := fw isBl L f0 t0) (t := fw (nev 35) L (fw isBl L f0 t0) (bw isBl L (fw isBl L f0 t0) t0)) hsb.1
  have hcb2 := fw_bd (p := nev 47) (L := L) (f := fw isBl L f0 t0) (t := fw (nev 35) L (fw isBl L f0 t0) (bw isBl L (fw isBl L f0 t0) t0)) hsb.1
  have hcb3 := fw_bd (p := nev 63) (L := L) (f := fw isBl L f0 t0) (t := fw (nev 35) L (fw isBl L f0 t0) (bw isBl L (fw isBl L f0 t0) t0)) hsb.1
  have hmb := nmin_bd (fw (nev 47) L (fw isBl L f0 t0) (fw (nev 35) L (fw isBl L f0 t0) (bw isBl L (fw isBl L f0 t0) t0))) (fw (nev 63) L (fw isBl L f0 t0) (fw (nev 35) L (fw isBl L f0 t0) (bw isBl L (fw isBl L f0 t0) t0)))
  show am_G X mt_A_resolve (d + 7) 0 [some (.ref a), some (.ref c), some (.int (nI (s + f0))), some (.int (nI (s + t0))), some (.ref bb), none, none, none, none] [] h1 (fun r9 h9 => ∃ P9, P9.length ≤ 8300 ∧ match crt L (fw isBl L f0 t0) (fw (nev 35) L (fw isBl L f0 t0) (bw isBl L (fw isBl L f0 t0) t0)) (some D) with | some D => r9 = some (.int 1) ∧ A2 h1 h9 r br cr p bp cp D P9 | none => r9 = some (.int 0) ∧ A2 h1 h9 r br cr p bp cp [] P9)
  refine g_aload_n (pc := 0) dc_A_resolve_0 rfl ?_
  refine g_getfield (pc := 1) dc_A_resolve_1 fl_A_14 (Y1.kp hAr ka1 ka2 ka3 ka4) rfl ?_
  refine g_v0 (pc := 4) (M' := mt_B_clear) dc_A_resolve_4 mo_B_clear im_B_clear se_B_clear ln_A_23 i1.ha rfl rfl (Nat.le_of_ble_eq_true rfl) (Nat.le_of_ble_eq_true rfl) (am_G.mono (c_B_clear i1) ?_)
  intro r9 h2 hq
  obtain ⟨q0, hq⟩ := hq
  rw [q0]
  have Y2 : A2 h1 h2 r br cr p bp cp ([]) (P0) := A2.sr hrp (by decide) i1 j1 ne1 w1 hq
  clear hq q0 r9 i1 j1 ne1 w1 Y1
  have B2 := Y2
  obtain ⟨br2, cr2, bp2, cp2, i2, j2, ne2, w2⟩ := B2
  refine ⟨am_nt0, ?_⟩
  refine g_aload_n (pc := 7) dc_A_resolve_7 rfl ?_
  refine g_getfield (pc := 8) dc_A_resolve_8 fl_A_20 (Y2.kp hAr ka1 ka2 ka3 ka4) rfl ?_
  refine g_v0 (pc := 11) (M' := mt_B_clear) dc_A_resolve_11 mo_B_clear im_B_clear se_B_clear ln_A_23 j2.ha rfl rfl (Nat.le_of_ble_eq_true rfl) (Nat.le_of_ble_eq_true rfl) (am_G.mono (c_B_clear j2) ?_)
  intro r9 h3 hq
  obtain ⟨q0, hq⟩ := hq
  rw [q0]
  have Y3 : A2 h1 h3 r br cr p bp cp ([]) ([]) := A2.sp hrp (by decide) i2 j2 ne2 w2 hq
  clear hq q0 r9 i2 j2 ne2 w2 Y2
  have B3 := Y3
  obtain ⟨br3, cr3, bp3, cp3, i3, j3, ne3, w3⟩ := B3
  refine ⟨am_nt0, ?_⟩
  refine g_aload_n (pc := 14) dc_A_resolve_14 rfl ?_
  refine g_iload_n (pc := 15) dc_A_resolve_15 rfl ?_
  refine g_iload_n (pc := 16) dc_A_resolve_16 rfl ?_
  refine g_s3 (pc := 17) (M' := mt_W_trimmedFrom) dc_A_resolve_17 mo_W_trimmedFrom st_W_trimmedFrom ln_A_26 (Nat.le_of_ble_eq_true rfl) (Nat.le_of_ble_eq_true rfl) (am_G.mono (t_W_trimmedFrom  (f := f0) (t := t0) (Y3.tx hx hcr hcp z1 z2).tt (by omega) (by omega)) ?_)
  intro r h1 hq
  rw [hq.1, hq.2]
  clear hq h1 r
  refine ⟨am_nti _, ?_⟩
  have hb17 := fw_bd (p := isBl) (L := L) (f := f0) (t := t0) (by omega)
  refine g_istore (pc := 20) dc_A_resolve_20 (by decide) ?_
  show am_G X mt_A_resolve _ 22 [some (.ref a), some (.ref c), some (.int (nI (s + f0))), some (.int (nI (s + t0))), some (.ref bb), some (.int (nI (s + (fw isBl L f0 t0)))), none, none, none] [] _ _
  refine g_aload_n (pc := 22) dc_A_resolve_22 rfl ?_
  refine g_bipush (pc := 23) (v := 35) dc_A_resolve_23 rfl ?_
  refine g_iload (pc := 25) dc_A_resolve_25 rfl ?_
  refine g_aload_n (pc := 27) dc_A_resolve_27 rfl ?_
  refine g_iload (pc := 28) dc_A_resolve_28 rfl ?_
  refine g_iload_n (pc := 30) dc_A_resolve_30 rfl ?_
  refine g_s3 (pc := 31) (M' := mt_W_trimmedTo) dc_A_resolve_31 mo_W_trimmedTo st_W_trimmedTo ln_A_30 (Nat.le_of_ble_eq_true rfl) (Nat.le_of_ble_eq_true rfl) (am_G.mono (t_W_trimmedTo  (f := fw isBl L f0 t0) (t := t0) (Y3.tx hx hcr hcp z1 z2).tt (by omega) (by omega)) ?_)
  intro r h1 hq
  rw [hq.1, hq.2]
  clear hq h1 r
  refine ⟨am_nti _, ?_⟩
  have hb31 := bw_bd (p := isBl) (L := L) (f := fw isBl L f0 t0) (t := t0) (by omega)
  refine g_s4 (pc := 34) (M' := mt_W_indexOf) dc_A_resolve_34 mo_W_indexOf st_W_indexOf ln_A_33 (Nat.le_of_ble_eq_true rfl) (Nat.le_of_ble_eq_true rfl) (am_G.mono (t_W_indexOf (v := 35) (f := fw isBl L f0 t0) (t := bw isBl L (fw isBl L f0 t0) t0) (Y3.tx hx hcr hcp z1 z2).tt (by omega) (by omega)) ?_)
  intro r h1 hq
  rw [hq.1, hq.2]
  clear hq h1 r
  refine ⟨am_nti _, ?_⟩
  have hb34 := fw_bd (p := nev 35) (L := L) (f := fw isBl L f0 t0) (t := bw isBl L (fw isBl L f0 t0) t0) (by omega)
  refine g_istore (pc := 37) dc_A_resolve_37 (by decide) ?_
  show am_G X mt_A_resolve _ 39 [some (.ref a), some (.ref c), some (.int (nI (s + f0))), some (.int (nI (s + t0))), some (.ref bb), some (.int (nI (s + (fw isBl L f0 t0)))), some (.int (nI (s + (fw (nev 35) L (fw isBl L f0 t0) (bw isBl L (fw isBl L f0 t0) t0))))), none, none] [] _ _
  refine g_aload_n (pc := 39) dc_A_resolve_39 rfl ?_
  refine g_iload (pc := 40) dc_A_resolve_40 rfl ?_
  refine g_iload (pc := 42) dc_A_resolve_42 rfl ?_
  refine g_s3 (pc := 44) (M' := mt_A_isClean) dc_A_resolve_44 mo_A_isClean st_A_isClean ln_A_37 (Nat.le_of_ble_eq_true rfl) (Nat.le_of_ble_eq_true rfl) (am_G.mono (t_A_isClean (f := fw isBl L f0 t0) (t := fw (nev 35) L (fw isBl L f0 t0) (bw isBl L (fw isBl L f0 t0) t0)) (Y3.tx hx hcr hcp z1 z2).tt (by omega) (by omega)) ?_)
  intro r h1 hq
  rw [hq.1, hq.2]
  clear hq h1 r
  refine ⟨am_nti _, ?_⟩
  refine q_ifb_ne (pc := 47) (tgt := 52) dc_A_resolve_47 rfl (fun hc47 => ?_) (fun hc47 => ?_)
  · refine g_aload_n (pc := 52) dc_A_resolve_52 rfl ?_
    refine g_bipush (pc := 53) (v := 58) dc_A_resolve_53 rfl ?_
    refine g_iload (pc := 55) dc_A_resolve_55 rfl ?_
    refine g_iload (pc := 57) dc_A_resolve_57 rfl ?_
    refine g_s4 (pc := 59) (M' := mt_W_indexOf) dc_A_resolve_59 mo_W_indexOf st_W_indexOf ln_A_33 (Nat.le_of_ble_eq_true rfl) (Nat.le_of_ble_eq_true rfl) (am_G.mono (t_W_indexOf (v := 58) (f := fw isBl L f0 t0) (t := fw (nev 35) L (fw isBl L f0 t0) (bw isBl L (fw isBl L f0 t0) t0)) (Y3.tx hx hcr hcp z1 z2).tt (by omega) (by omega)) ?_)
    intro r h1 hq
    rw [hq.1, hq.2]
    clear hq h1 r
    refine ⟨am_nti _, ?_⟩
    have hb59 := fw_bd (p := nev 58) (L := L) (f := fw isBl L f0 t0) (t := fw (nev 35) L (fw isBl L f0 t0) (bw isBl L (fw isBl L f0 t0) t0)) (by omega)
    refine g_istore (pc := 62) dc_A_resolve_62 (by decide) ?_
    show am_G X mt_A_resolve _ 64 [some (.ref a), some (.ref c), some (.int (nI (s + f0))), some (.int (nI (s + t0))), some (.ref bb), some (.int (nI (s + (fw isBl L f0 t0)))), some (.int (nI (s + (fw (nev 35) L (fw isBl L f0 t0) (bw isBl L (fw isBl L f0 t0) t0))))), some (.int (nI (s + (fw (nev 58) L (fw isBl L f0 t0) (fw (nev 35) L (fw isBl L f0 t0) (bw isBl L (fw isBl L f0 t0) t0)))))), none] [] _ _
    refine g_iload (pc := 64) dc_A_resolve_64 rfl ?_
    refine g_aload_n (pc := 66) dc_A_resolve_66 rfl ?_
    refine g_bipush (pc := 67) (v := 47) dc_A_resolve_67 rfl ?_
    refine g_iload (pc := 69) dc_A_resolve_69 rfl ?_
    refine g_iload (pc := 71) dc_A_resolve_71 rfl ?_
    refine g_s4 (pc := 73) (M' := mt_W_indexOf) dc_A_resolve_73 mo_W_indexOf st_W_indexOf ln_A_33 (Nat.le_of_ble_eq_true rfl) (Nat.le_of_ble_eq_true rfl) (am_G.mono (t_W_indexOf (v := 47) (f := fw isBl L f0 t0) (t := fw (nev 35) L (fw isBl L f0 t0) (bw isBl L (fw isBl L f0 t0) t0)) (Y3.tx hx hcr hcp z1 z2).tt (by omega) (by omega)) ?_)
    intro r h1 hq
    rw [hq.1, hq.2]
    clear hq h1 r
    refine ⟨am_nti _, ?_⟩
    have hb73 := fw_bd (p := nev 47) (L := L) (f := fw isBl L f0 t0) (t := fw (nev 35) L (fw isBl L f0 t0) (bw isBl L (fw isBl L f0 t0) t0)) (by omega)
    refine g_aload_n (pc := 76) dc_A_resolve_76 rfl ?_
    refine g_bipush (pc := 77) (v := 63) dc_A_resolve_77 rfl ?_
    refine g_iload (pc := 79) dc_A_resolve_79 rfl ?_
    refine g_iload (pc := 81) dc_A_resolve_81 rfl ?_
    refine g_s4 (pc := 83) (M' := mt_W_indexOf) dc_A_resolve_83 mo_W_indexOf st_W_indexOf ln_A_33 (Nat.le_of_ble_eq_true rfl) (Nat.le_of_ble_eq_true rfl) (am_G.mono (t_W_indexOf (v := 63) (f := fw isBl L f0 t0) (t := fw (nev 35) L (fw isBl L f0 t0) (bw isBl L (fw isBl L f0 t0) t0)) (Y3.tx hx hcr hcp z1 z2).tt (by omega) (by omega)) ?_)
    intro r h1 hq
    rw [hq.1, hq.2]
    clear hq h1 r
    refine ⟨am_nti _, ?_⟩
    have hb83 := fw_bd (p := nev 63) (L := L) (f := fw isBl L f0 t0) (t := fw (nev 35) L (fw isBl L f0 t0) (bw isBl L (fw isBl L f0 t0) t0)) (by omega)
    refine g_s2 (pc := 86) (M' := mt_JMath_min) dc_A_resolve_86 mo_JMath_min st_JMath_min ln_A_41 (Nat.le_of_ble_eq_true rfl) (Nat.le_of_ble_eq_true rfl) (am_G.mono (t_min (s := s) (x := fw (nev 47) L (fw isBl L f0 t0) (fw (nev 35) L (fw isBl L f0 t0) (bw isBl L (fw isBl L f0 t0) t0))) (y := fw (nev 63) L (fw isBl L f0 t0) (fw (nev 35) L (fw isBl L f0 t0) (bw isBl L (fw isBl L f0 t0) t0))) (by omega) (by omega)) ?_)
    intro r h1 hq
    rw [hq.1, hq.2]
    clear hq h1 r
    refine ⟨am_nti _, ?_⟩
    have hb86 := nmin_bd (fw (nev 47) L (fw isBl L f0 t0) (fw (nev 35) L (fw isBl L f0 t0) (bw isBl L (fw isBl L f0 t0) t0))) (fw (nev 63) L (fw isBl L f0 t0) (fw (nev 35) L (fw isBl L f0 t0) (bw isBl L (fw isBl L f0 t0) t0)))
    refine q_icmp_ge (pc := 89) (tgt := 128) (s + (fw (nev 58) L (fw isBl L f0 t0) (fw (nev 35) L (fw isBl L f0 t0) (bw isBl L (fw isBl L f0 t0) t0)))) (s + (Nat.min (fw (nev 47) L (fw isBl L f0 t0) (fw (nev 35) L (fw isBl L f0 t0) (bw isBl L (fw isBl L f0 t0) t0))) (fw (nev 63) L (fw isBl L f0 t0) (fw (nev 35) L (fw isBl L f0 t0) (bw isBl L (fw isBl L f0 t0) t0))))) dc_A_resolve_89 (by omega) (by omega) rfl (fun hc89 => ?_) (fun hc89 => ?_)
    · rw [show crt L (fw isBl L f0 t0) (fw (nev 35) L (fw isBl L f0 t0) (bw isBl L (fw isBl L f0 t0) t0)) (some D) = crs L (fw isBl L f0 t0) (fw (nev 35) L (fw isBl L f0 t0) (bw isBl L (fw isBl L f0 t0) t0)) (some D) from by unfold crt; rw [if_pos hc47, if_neg (by omega)]]
      refine am_wk (am_le_s (am_le_s (am_le_n (am_le_n (am_le_s (am_le_s (am_le_s (am_le_n (am_le_n am_le_0))))))))) ?_
      exact sD_A_resolve hAr z1 z2 hrp z3 kb1 kb3 kb5 kb6 hD8 hD9 hDh Y3 hx hcr hcp (by omega) (by omega) hL8
    · refine g_aload_n (pc := 92) dc_A_resolve_92 rfl ?_
      refine g_iload (pc := 93) dc_A_resolve_93 rfl ?_
      refine g_iload (pc := 95) dc_A_resolve_95 rfl ?_
      refine g_ldcS (pc := 97) 1 dc_A_resolve_97 (by decide) rfl rfl ?_
      refine g_s4 (pc := 99) (M' := mt_W_isLower) dc_A_resolve_99 mo_W_isLower st_W_isLower ln_A_49 (Nat.le_of_ble_eq_true rfl) (Nat.le_of_ble_eq_true rfl) (am_G.mono (t_W_isLower (f := fw isBl L f0 t0) (t := fw (nev 58) L (fw isBl L f0 t0) (fw (nev 35) L (fw isBl L f0 t0) (bw isBl L (fw isBl L f0 t0) t0))) (i := 1) (Y3.tx hx hcr hcp z1 z2).tt (by decide) (by omega) (by omega)) ?_)
      intro r h1 hq
      rw [hq.1, hq.2]
      clear hq h1 r
      refine ⟨am_nti _, ?_⟩
      refine q_ifb_eq (pc := 102) (tgt := 120) dc_A_resolve_102 rfl (fun hc102 => ?_) (fun hc102 => ?_)
      · refine g_iconst (pc := 120) (v := 0) dc_A_resolve_120 rfl ?_
        exact g_zreturn dc_A_resolve_121 rfl rfl ⟨[], by decide, by rw [show crt L (fw isBl L f0 t0) (fw (nev 35) L (fw isBl L f0 t0) (bw isBl L (fw isBl L f0 t0) t0)) (some D) = none from by unfold crt; rw [if_pos hc47, if_pos (by omega), if_neg (fun h9 => by rw [hc102] at h9; exact absurd h9.1 (by decide))]]; exact ⟨rfl, Y3⟩⟩
      · refine g_aload_n (pc := 105) dc_A_resolve_105 rfl ?_
        refine g_iload (pc := 106) dc_A_resolve_106 rfl ?_
        refine g_iconst (pc := 108) (v := 1) dc_A_resolve_108 rfl ?_
        refine g_iadd (pc := 109) (v := (nI (s + (fw (nev 58) L (fw isBl L f0 t0) (fw (nev 35) L (fw isBl L f0 t0) (bw isBl L (fw isBl L f0 t0) t0)) + 1)))) dc_A_resolve_109 (q_as s (fw (nev 58) L (fw isBl L f0 t0) (fw (nev 35) L (fw isBl L f0 t0) (bw isBl L (fw isBl L f0 t0) t0))) 1) ?_
        refine g_iload (pc := 110) dc_A_resolve_110 rfl ?_
        refine g_ldcS (pc := 112) 2 dc_A_resolve_112 (by decide) rfl rfl ?_
        refine g_s4 (pc := 114) (M' := mt_W_beginsWith) dc_A_resolve_114 mo_W_beginsWith st_W_beginsWith ln_A_55 (Nat.le_of_ble_eq_true rfl) (Nat.le_of_ble_eq_true rfl) (am_G.mono (t_W_beginsWith (f := fw (nev 58) L (fw isBl L f0 t0) (fw (nev 35) L (fw isBl L f0 t0) (bw isBl L (fw isBl L f0 t0) t0)) + 1) (t := fw (nev 35) L (fw isBl L f0 t0) (bw isBl L (fw isBl L f0 t0) t0)) (i := 2) (Y3.tx hx hcr hcp z1 z2).tt (by decide) (by omega) (by omega)) ?_)
        intro r h1 hq
        rw [hq.1, hq.2]
        clear hq h1 r
        refine ⟨am_nti _, ?_⟩
        refine q_ifb_ne (pc := 117) (tgt := 122) dc_A_resolve_117 rfl (fun hc117 => ?_) (fun hc117 => ?_)
        · refine g_iload (pc := 122) dc_A_resolve_122 rfl ?_
          refine g_iconst (pc := 124) (v := 1) dc_A_resolve_124 rfl ?_
          refine g_iadd (pc := 125) (v := (nI (s + (fw (nev 58) L (fw isBl L f0 t0) (fw (nev 35) L (fw isBl L f0 t0) (bw isBl L (fw isBl L f0 t0) t0)) + 1)))) dc_A_resolve_125 (q_as s (fw (nev 58) L (fw isBl L f0 t0) (fw (nev 35) L (fw isBl L f0 t0) (bw isBl L (fw isBl L f0 t0) t0))) 1) ?_
          refine g_istore (pc := 126) dc_A_resolve_126 (by decide) ?_
          show am_G X mt_A_resolve _ 128 [some (.ref a), some (.ref c), some (.int (nI (s + f0))), some (.int (nI (s + t0))), some (.ref bb), some (.int (nI (s + (fw (nev 58) L (fw isBl L f0 t0) (fw (nev 35) L (fw isBl L f0 t0) (bw isBl L (fw isBl L f0 t0) t0)) + 1)))), some (.int (nI (s + (fw (nev 35) L (fw isBl L f0 t0) (bw isBl L (fw isBl L f0 t0) t0))))), some (.int (nI (s + (fw (nev 58) L (fw isBl L f0 t0) (fw (nev 35) L (fw isBl L f0 t0) (bw isBl L (fw isBl L f0 t0) t0)))))), none] [] _ _
          rw [show crt L (fw isBl L f0 t0) (fw (nev 35) L (fw isBl L f0 t0) (bw isBl L (fw isBl L f0 t0) t0)) (some D) = crs L (fw (nev 58) L (fw isBl L f0 t0) (fw (nev 35) L (fw isBl L f0 t0) (bw isBl L (fw isBl L f0 t0) t0)) + 1) (fw (nev 35) L (fw isBl L f0 t0) (bw isBl L (fw isBl L f0 t0) t0)) (some D) from by unfold crt; rw [if_pos hc47, if_pos (by omega), if_pos ⟨hc102, hc117⟩]]
          refine am_wk (am_le_s (am_le_s (am_le_n (am_le_n (am_le_s (am_le_s (am_le_s (am_le_n (am_le_n am_le_0))))))))) ?_
          exact sD_A_resolve hAr z1 z2 hrp z3 kb1 kb3 kb5 kb6 hD8 hD9 hDh Y3 hx hcr hcp (by omega) (by omega) hL8
        · refine g_iconst (pc := 120) (v := 0) dc_A_resolve_120 rfl ?_
          exact g_zreturn dc_A_resolve_121 rfl rfl ⟨[], by decide, by rw [show crt L (fw isBl L f0 t0) (fw (nev 35) L (fw isBl L f0 t0) (bw isBl L (fw isBl L f0 t0) t0)) (some D) = none from by unfold crt; rw [if_pos hc47, if_pos (by omega), if_neg (fun h9 => by rw [hc117] at h9; exact absurd h9.2 (by decide))]]; exact ⟨rfl, Y3⟩⟩
  · refine g_iconst (pc := 50) (v := 0) dc_A_resolve_50 rfl ?_
    exact g_zreturn dc_A_resolve_51 rfl rfl ⟨[], by decide, by rw [show crt L (fw isBl L f0 t0) (fw (nev 35) L (fw isBl L f0 t0) (bw isBl L (fw isBl L f0 t0) t0)) (some D) = none from by unfold crt; rw [if_neg (by rw [hc47]; decide)]]; exact ⟨rfl, Y3⟩⟩
theorem cE_A_resolve {bb bbb cbb : Nat} (hAr : h1[a]? = some (.inr (2, [.ref r, .ref p]))) (z1 : isB h1 r br cr R0) (z2 : isB h1 p bp cp P0) (hrp : r ≠ p) (z3 : isB h1 bb bbb cbb []) (kb1 : bb ≠ r) (kb3 : bb ≠ p) (hbe : br ≠ bp) (hx : ttb h1 c s L) (hcr : c ≠ br) (hcp : c ≠ bp) (hft : f0 ≤ t0) (ht : t0 ≤ L.length) (hL8 : L.length ≤ 8000) : am_C X mt_A_resolve (d + 7) [.ref a, .ref c, .int (nI (s + f0)), .int (nI (s + t0)), .ref bb] h1 (fun r9 h9 => ∃ P9, P9.length ≤ 8300 ∧ match crr L f0 t0 none with | some D => r9 = some (.int 1) ∧ A2 h1 h9 r br cr p bp cp D P9 | none => r9 = some (.int 0) ∧ A2 h1 h9 r br cr p bp cp [] P9) := by
  show am_G X mt_A_resolve (d + 7) 0 [some (.ref a), some (.ref c), some (.int (nI (s + f0))), some (.int (nI (s + t0))), some (.ref bb), none, none, none, none] [] h1 _
  have ka1 : a ≠ r := fun e => by rw [e, z1.ha] at hAr; cases hAr
  have ka3 : a ≠ p := fun e => by rw [e, z2.ha] at hAr; cases hAr
  have ka2 : a ≠ br := fun e => by obtain ⟨g, q1, q2, -⟩ := z1; rw [e, q2] at hAr; cases hAr
  have ka4 : a ≠ bp := fun e => by obtain ⟨g, q1, q2, -⟩ := z2; rw [e, q2] at hAr; cases hAr
  have Y1 : A2 h1 h1 r br cr p bp cp R0 P0 := A2.rf z1 z2 hbe
  have B1 := Y1
  obtain ⟨br1, cr1, bp1, cp1, i1, j1, ne1, w1⟩ := B1
  have hbs : s + L.length < 2 ^ 30 := by obtain ⟨cq, g, -, -, q1, q2⟩ := hx.tt; omega
  have hfb := fw_bd (p := isBl) (L := L) hft
  have heb := bw_bd (p := isBl) (L := L) (f := fw isBl L f0 t0) (t := t0) hfb.2
  have hsb := fw_bd (p := nev 35) (L := L) (f := fw isBl L f0 t0) (t := bw isBl L (fw isBl L f0 t0) t0) heb.1
  have hcb := fw_bd (p := nev 58) (L := L) (f := fw isBl L f0 t0) (t := fw (nev 35) L (fw isBl L f0 t0) (bw isBl L (fw isBl L f0 t0) t0)) hsb.1
  have hcb2 := fw_bd (p := nev 47) (L := L) (f := fw isBl L f0 t0) (t := fw (nev 35) L (fw isBl L f0 t0) (bw isBl L (fw isBl L f0 t0) t0)) hsb.1
  have hcb3 := fw_bd (p := nev 63) (L := L) (f := fw isBl L f0 t0) (t := fw (nev 35) L (fw isBl L f0 t0) (bw isBl L (fw isBl L f0 t0) t0)) hsb.1
  have hmb := nmin_bd (fw (nev 47) L (fw isBl L f0 t0) (fw (nev 35) L (fw isBl L f0 t0) (bw isBl L (fw isBl L f0 t0) t0))) (fw (nev 63) L (fw isBl L f0 t0) (fw (nev 35) L (fw isBl L f0 t0) (bw isBl L (fw isBl L f0 t0) t0)))
  show am_G X mt_A_resolve (d + 7) 0 [some (.ref a), some (.ref c), some (.int (nI (s + f0))), some (.int (nI (s + t0))), some (.ref bb), none, none, none, none] [] h1 (fun r9 h9 => ∃ P9, P9.length ≤ 8300 ∧ match crt L (fw isBl L f0 t0) (fw (nev 35) L (fw isBl L f0 t0) (bw isBl L (fw isBl L f0 t0) t0)) none with | some D => r9 = some (.int 1) ∧ A2 h1 h9 r br cr p bp cp D P9 | none => r9 = some (.int 0) ∧ A2 h1 h9 r br cr p bp cp [] P9)
  refine g_aload_n (pc := 0) dc_A_resolve_0 rfl ?_
  refine g_getfield (pc := 1) dc_A_resolve_1 fl_A_14 (Y1.kp hAr ka1 ka2 ka3 ka4) rfl ?_
  refine g_v0 (pc := 4) (M' := mt_B_clear) dc_A_resolve_4 mo_B_clear im_B_clear se_B_clear ln_A_23 i1.ha rfl rfl (Nat.le_of_ble_eq_true rfl) (Nat.le_of_ble_eq_true rfl) (am_G.mono (c_B_clear i1) ?_)
  intro r9 h2 hq
  obtain ⟨q0, hq⟩ := hq
  rw [q0]
  have Y2 : A2 h1 h2 r br cr p bp cp ([]) (P0) := A2.sr hrp (by decide) i1 j1 ne1 w1 hq
  clear hq q0 r9 i1 j1 ne1 w1 Y1
  have B2 := Y2
  obtain ⟨br2, cr2, bp2, cp2, i2, j2, ne2, w2⟩ := B2
  refine ⟨am_nt0, ?_⟩
  refine g_aload_n (pc := 7) dc_A_resolve_7 rfl ?_
  refine g_getfield (pc := 8) dc_A_resolve_8 fl_A_20 (Y2.kp hAr ka1 ka2 ka3 ka4) rfl ?_
  refine g_v0 (pc := 11) (M' := mt_B_clear) dc_A_resolve_11 mo_B_clear im_B_clear se_B_clear ln_A_23 j2.ha rfl rfl (Nat.le_of_ble_eq_true rfl) (Nat.le_of_ble_eq_true rfl) (am_G.mono (c_B_clear j2) ?_)
  intro r9 h3 hq
  obtain ⟨q0, hq⟩ := hq
  rw [q0]
  have Y3 : A2 h1 h3 r br cr p bp cp ([]) ([]) := A2.sp hrp (by decide) i2 j2 ne2 w2 hq
  clear hq q0 r9 i2 j2 ne2 w2 Y2
  have B3 := Y3
  obtain ⟨br3, cr3, bp3, cp3, i3, j3, ne3, w3⟩ := B3
  refine ⟨am_nt0, ?_⟩
  refine g_aload_n (pc := 14) dc_A_resolve_14 rfl ?_
  refine g_iload_n (pc := 15) dc_A_resolve_15 rfl ?_
  refine g_iload_n (pc := 16) dc_A_resolve_16 rfl ?_
  refine g_s3 (pc := 17) (M' := mt_W_trimmedFrom) dc_A_resolve_17 mo_W_trimmedFrom st_W_trimmedFrom ln_A_26 (Nat.le_of_ble_eq_true rfl) (Nat.le_of_ble_eq_true rfl) (am_G.mono (t_W_trimmedFrom  (f := f0) (t := t0) (Y3.tx hx hcr hcp z1 z2).tt (by omega) (by omega)) ?_)
  intro r h1 hq
  rw [hq.1, hq.2]
  clear hq h1 r
  refine ⟨am_nti _, ?_⟩
  have hb17 := fw_bd (p := isBl) (L := L) (f := f0) (t := t0) (by omega)
  refine g_istore (pc := 20) dc_A_resolve_20 (by decide) ?_
  show am_G X mt_A_resolve _ 22 [some (.ref a), some (.ref c), some (.int (nI (s + f0))), some (.int (nI (s + t0))), some (.ref bb), some (.int (nI (s + (fw isBl L f0 t0)))), none, none, none] [] _ _
  refine g_aload_n (pc := 22) dc_A_resolve_22 rfl ?_
  refine g_bipush (pc := 23) (v := 35) dc_A_resolve_23 rfl ?_
  refine g_iload (pc := 25) dc_A_resolve_25 rfl ?_
  refine g_aload_n (pc := 27) dc_A_resolve_27 rfl ?_
  refine g_iload (pc := 28) dc_A_resolve_28 rfl ?_
  refine g_iload_n (pc := 30) dc_A_resolve_30 rfl ?_
  refine g_s3 (pc := 31) (M' := mt_W_trimmedTo) dc_A_resolve_31 mo_W_trimmedTo st_W_trimmedTo ln_A_30 (Nat.le_of_ble_eq_true rfl) (Nat.le_of_ble_eq_true rfl) (am_G.mono (t_W_trimmedTo  (f := fw isBl L f0 t0) (t := t0) (Y3.tx hx hcr hcp z1 z2).tt (by omega) (by omega)) ?_)
  intro r h1 hq
  rw [hq.1, hq.2]
  clear hq h1 r
  refine ⟨am_nti _, ?_⟩
  have hb31 := bw_bd (p := isBl) (L := L) (f := fw isBl L f0 t0) (t := t0) (by omega)
  refine g_s4 (pc := 34) (M' := mt_W_indexOf) dc_A_resolve_34 mo_W_indexOf st_W_indexOf ln_A_33 (Nat.le_of_ble_eq_true rfl) (Nat.le_of_ble_eq_true rfl) (am_G.mono (t_W_indexOf (v := 35) (f := fw isBl L f0 t0) (t := bw isBl L (fw isBl L f0 t0) t0) (Y3.tx hx hcr hcp z1 z2).tt (by omega) (by omega)) ?_)
  intro r h1 hq
  rw [hq.1, hq.2]
  clear hq h1 r
  refine ⟨am_nti _, ?_⟩
  have hb34 := fw_bd (p := nev 35) (L := L) (f := fw isBl L f0 t0) (t := bw isBl L (fw isBl L f0 t0) t0) (by omega)
  refine g_istore (pc := 37) dc_A_resolve_37 (by decide) ?_
  show am_G X mt_A_resolve _ 39 [some (.ref a), some (.ref c), some (.int (nI (s + f0))), some (.int (nI (s + t0))), some (.ref bb), some (.int (nI (s + (fw isBl L f0 t0)))), some (.int (nI (s + (fw (nev 35) L (fw isBl L f0 t0) (bw isBl L (fw isBl L f0 t0) t0))))), none, none] [] _ _
  refine g_aload_n (pc := 39) dc_A_resolve_39 rfl ?_
  refine g_iload (pc := 40) dc_A_resolve_40 rfl ?_
  refine g_iload (pc := 42) dc_A_resolve_42 rfl ?_
  refine g_s3 (pc := 44) (M' := mt_A_isClean) dc_A_resolve_44 mo_A_isClean st_A_isClean ln_A_37 (Nat.le_of_ble_eq_true rfl) (Nat.le_of_ble_eq_true rfl) (am_G.mono (t_A_isClean (f := fw isBl L f0 t0) (t := fw (nev 35) L (fw isBl L f0 t0) (bw isBl L (fw isBl L f0 t0) t0)) (Y3.tx hx hcr hcp z1 z2).tt (by omega) (by omega)) ?_)
  intro r h1 hq
  rw [hq.1, hq.2]
  clear hq h1 r
  refine ⟨am_nti _, ?_⟩
  refine q_ifb_ne (pc := 47) (tgt := 52) dc_A_resolve_47 rfl (fun hc47 => ?_) (fun hc47 => ?_)
  · refine g_aload_n (pc := 52) dc_A_resolve_52 rfl ?_
    refine g_bipush (pc := 53) (v := 58) dc_A_resolve_53 rfl ?_
    refine g_iload (pc := 55) dc_A_resolve_55 rfl ?_
    refine g_iload (pc := 57) dc_A_resolve_57 rfl ?_
    refine g_s4 (pc := 59) (M' := mt_W_indexOf) dc_A_resolve_59 mo_W_indexOf st_W_indexOf ln_A_33 (Nat.le_of_ble_eq_true rfl) (Nat.le_of_ble_eq_true rfl) (am_G.mono (t_W_indexOf (v := 58) (f := fw isBl L f0 t0) (t := fw (nev 35) L (fw isBl L f0 t0) (bw isBl L (fw isBl L f0 t0) t0)) (Y3.tx hx hcr hcp z1 z2).tt (by omega) (by omega)) ?_)
    intro r h1 hq
    rw [hq.1, hq.2]
    clear hq h1 r
    refine ⟨am_nti _, ?_⟩
    have hb59 := fw_bd (p := nev 58) (L := L) (f := fw isBl L f0 t0) (t := fw (nev 35) L (fw isBl L f0 t0) (bw isBl L (fw isBl L f0 t0) t0)) (by omega)
    refine g_istore (pc := 62) dc_A_resolve_62 (by decide) ?_
    show am_G X mt_A_resolve _ 64 [some (.ref a), some (.ref c), some (.int (nI (s + f0))), some (.int (nI (s + t0))), some (.ref bb), some (.int (nI (s + (fw isBl L f0 t0)))), some (.int (nI (s + (fw (nev 35) L (fw isBl L f0 t0) (bw isBl L (fw isBl L f0 t0) t0))))), some (.int (nI (s + (fw (nev 58) L (fw isBl L f0 t0) (fw (nev 35) L (fw isBl L f0 t0) (bw isBl L (fw isBl L f0 t0) t0)))))), none] [] _ _
    refine g_iload (pc := 64) dc_A_resolve_64 rfl ?_
    refine g_aload_n (pc := 66) dc_A_resolve_66 rfl ?_
    refine g_bipush (pc := 67) (v := 47) dc_A_resolve_67 rfl ?_
    refine g_iload (pc := 69) dc_A_resolve_69 rfl ?_
    refine g_iload (pc := 71) dc_A_resolve_71 rfl ?_
    refine g_s4 (pc := 73) (M' := mt_W_indexOf) dc_A_resolve_73 mo_W_indexOf st_W_indexOf ln_A_33 (Nat.le_of_ble_eq_true rfl) (Nat.le_of_ble_eq_true rfl) (am_G.mono (t_W_indexOf (v := 47) (f := fw isBl L f0 t0) (t := fw (nev 35) L (fw isBl L f0 t0) (bw isBl L (fw isBl L f0 t0) t0)) (Y3.tx hx hcr hcp z1 z2).tt (by omega) (by omega)) ?_)
    intro r h1 hq
    rw [hq.1, hq.2]
    clear hq h1 r
    refine ⟨am_nti _, ?_⟩
    have hb73 := fw_bd (p := nev 47) (L := L) (f := fw isBl L f0 t0) (t := fw (nev 35) L (fw isBl L f0 t0) (bw isBl L (fw isBl L f0 t0) t0)) (by omega)
    refine g_aload_n (pc := 76) dc_A_resolve_76 rfl ?_
    refine g_bipush (pc := 77) (v := 63) dc_A_resolve_77 rfl ?_
    refine g_iload (pc := 79) dc_A_resolve_79 rfl ?_
    refine g_iload (pc := 81) dc_A_resolve_81 rfl ?_
    refine g_s4 (pc := 83) (M' := mt_W_indexOf) dc_A_resolve_83 mo_W_indexOf st_W_indexOf ln_A_33 (Nat.le_of_ble_eq_true rfl) (Nat.le_of_ble_eq_true rfl) (am_G.mono (t_W_indexOf (v := 63) (f := fw isBl L f0 t0) (t := fw (nev 35) L (fw isBl L f0 t0) (bw isBl L (fw isBl L f0 t0) t0)) (Y3.tx hx hcr hcp z1 z2).tt (by omega) (by omega)) ?_)
    intro r h1 hq
    rw [hq.1, hq.2]
    clear hq h1 r
    refine ⟨am_nti _, ?_⟩
    have hb83 := fw_bd (p := nev 63) (L := L) (f := fw isBl L f0 t0) (t := fw (nev 35) L (fw isBl L f0 t0) (bw isBl L (fw isBl L f0 t0) t0)) (by omega)
    refine g_s2 (pc := 86) (M' := mt_JMath_min) dc_A_resolve_86 mo_JMath_min st_JMath_min ln_A_41 (Nat.le_of_ble_eq_true rfl) (Nat.le_of_ble_eq_true rfl) (am_G.mono (t_min (s := s) (x := fw (nev 47) L (fw isBl L f0 t0) (fw (nev 35) L (fw isBl L f0 t0) (bw isBl L (fw isBl L f0 t0) t0))) (y := fw (nev 63) L (fw isBl L f0 t0) (fw (nev 35) L (fw isBl L f0 t0) (bw isBl L (fw isBl L f0 t0) t0))) (by omega) (by omega)) ?_)
    intro r h1 hq
    rw [hq.1, hq.2]
    clear hq h1 r
    refine ⟨am_nti _, ?_⟩
    have hb86 := nmin_bd (fw (nev 47) L (fw isBl L f0 t0) (fw (nev 35) L (fw isBl L f0 t0) (bw isBl L (fw isBl L f0 t0) t0))) (fw (nev 63) L (fw isBl L f0 t0) (fw (nev 35) L (fw isBl L f0 t0) (bw isBl L (fw isBl L f0 t0) t0)))
    refine q_icmp_ge (pc := 89) (tgt := 128) (s + (fw (nev 58) L (fw isBl L f0 t0) (fw (nev 35) L (fw isBl L f0 t0) (bw isBl L (fw isBl L f0 t0) t0)))) (s + (Nat.min (fw (nev 47) L (fw isBl L f0 t0) (fw (nev 35) L (fw isBl L f0 t0) (bw isBl L (fw isBl L f0 t0) t0))) (fw (nev 63) L (fw isBl L f0 t0) (fw (nev 35) L (fw isBl L f0 t0) (bw isBl L (fw isBl L f0 t0) t0))))) dc_A_resolve_89 (by omega) (by omega) rfl (fun hc89 => ?_) (fun hc89 => ?_)
    · rw [show crt L (fw isBl L f0 t0) (fw (nev 35) L (fw isBl L f0 t0) (bw isBl L (fw isBl L f0 t0) t0)) none = crs L (fw isBl L f0 t0) (fw (nev 35) L (fw isBl L f0 t0) (bw isBl L (fw isBl L f0 t0) t0)) none from by unfold crt; rw [if_pos hc47, if_neg (by omega)]]
      refine am_wk (am_le_s (am_le_s (am_le_n (am_le_n (am_le_s (am_le_s (am_le_s (am_le_n (am_le_n am_le_0))))))))) ?_
      exact sE_A_resolve hAr z1 z2 hrp z3 kb1 kb3 Y3 hx hcr hcp (by omega) (by omega) hL8
    · refine g_aload_n (pc := 92) dc_A_resolve_92 rfl ?_
      refine g_iload (pc := 93) dc_A_resolve_93 rfl ?_
      refine g_iload (pc := 95) dc_A_resolve_95 rfl ?_
      refine g_ldcS (pc := 97) 1 dc_A_resolve_97 (by decide) rfl rfl ?_
      refine g_s4 (pc := 99) (M' := mt_W_isLower) dc_A_resolve_99 mo_W_isLower st_W_isLower ln_A_49 (Nat.le_of_ble_eq_true rfl) (Nat.le_of_ble_eq_true rfl) (am_G.mono (t_W_isLower (f := fw isBl L f0 t0) (t := fw (nev 58) L (fw isBl L f0 t0) (fw (nev 35) L (fw isBl L f0 t0) (bw isBl L (fw isBl L f0 t0) t0))) (i := 1) (Y3.tx hx hcr hcp z1 z2).tt (by decide) (by omega) (by omega)) ?_)
      intro r h1 hq
      rw [hq.1, hq.2]
      clear hq h1 r
      refine ⟨am_nti _, ?_⟩
      refine q_ifb_eq (pc := 102) (tgt := 120) dc_A_resolve_102 rfl (fun hc102 => ?_) (fun hc102 => ?_)
      · refine g_iconst (pc := 120) (v := 0) dc_A_resolve_120 rfl ?_
        exact g_zreturn dc_A_resolve_121 rfl rfl ⟨[], by decide, by rw [show crt L (fw isBl L f0 t0) (fw (nev 35) L (fw isBl L f0 t0) (bw isBl L (fw isBl L f0 t0) t0)) none = none from by unfold crt; rw [if_pos hc47, if_pos (by omega), if_neg (fun h9 => by rw [hc102] at h9; exact absurd h9.1 (by decide))]]; exact ⟨rfl, Y3⟩⟩
      · refine g_aload_n (pc := 105) dc_A_resolve_105 rfl ?_
        refine g_iload (pc := 106) dc_A_resolve_106 rfl ?_
        refine g_iconst (pc := 108) (v := 1) dc_A_resolve_108 rfl ?_
        refine g_iadd (pc := 109) (v := (nI (s + (fw (nev 58) L (fw isBl L f0 t0) (fw (nev 35) L (fw isBl L f0 t0) (bw isBl L (fw isBl L f0 t0) t0)) + 1)))) dc_A_resolve_109 (q_as s (fw (nev 58) L (fw isBl L f0 t0) (fw (nev 35) L (fw isBl L f0 t0) (bw isBl L (fw isBl L f0 t0) t0))) 1) ?_
        refine g_iload (pc := 110) dc_A_resolve_110 rfl ?_
        refine g_ldcS (pc := 112) 2 dc_A_resolve_112 (by decide) rfl rfl ?_
        refine g_s4 (pc := 114) (M' := mt_W_beginsWith) dc_A_resolve_114 mo_W_beginsWith st_W_beginsWith ln_A_55 (Nat.le_of_ble_eq_true rfl) (Nat.le_of_ble_eq_true rfl) (am_G.mono (t_W_beginsWith (f := fw (nev 58) L (fw isBl L f0 t0) (fw (nev 35) L (fw isBl L f0 t0) (bw isBl L (fw isBl L f0 t0) t0)) + 1) (t := fw (nev 35) L (fw isBl L f0 t0) (bw isBl L (fw isBl L f0 t0) t0)) (i := 2) (Y3.tx hx hcr hcp z1 z2).tt (by decide) (by omega) (by omega)) ?_)
        intro r h1 hq
        rw [hq.1, hq.2]
        clear hq h1 r
        refine ⟨am_nti _, ?_⟩
        refine q_ifb_ne (pc := 117) (tgt := 122) dc_A_resolve_117 rfl (fun hc117 => ?_) (fun hc117 => ?_)
        · refine g_iload (pc := 122) dc_A_resolve_122 rfl ?_
          refine g_iconst (pc := 124) (v := 1) dc_A_resolve_124 rfl ?_
          refine g_iadd (pc := 125) (v := (nI (s + (fw (nev 58) L (fw isBl L f0 t0) (fw (nev 35) L (fw isBl L f0 t0) (bw isBl L (fw isBl L f0 t0) t0)) + 1)))) dc_A_resolve_125 (q_as s (fw (nev 58) L (fw isBl L f0 t0) (fw (nev 35) L (fw isBl L f0 t0) (bw isBl L (fw isBl L f0 t0) t0))) 1) ?_
          refine g_istore (pc := 126) dc_A_resolve_126 (by decide) ?_
          show am_G X mt_A_resolve _ 128 [some (.ref a), some (.ref c), some (.int (nI (s + f0))), some (.int (nI (s + t0))), some (.ref bb), some (.int (nI (s + (fw (nev 58) L (fw isBl L f0 t0) (fw (nev 35) L (fw isBl L f0 t0) (bw isBl L (fw isBl L f0 t0) t0)) + 1)))), some (.int (nI (s + (fw (nev 35) L (fw isBl L f0 t0) (bw isBl L (fw isBl L f0 t0) t0))))), some (.int (nI (s + (fw (nev 58) L (fw isBl L f0 t0) (fw (nev 35) L (fw isBl L f0 t0) (bw isBl L (fw isBl L f0 t0) t0)))))), none] [] _ _
          rw [show crt L (fw isBl L f0 t0) (fw (nev 35) L (fw isBl L f0 t0) (bw isBl L (fw isBl L f0 t0) t0)) none = crs L (fw (nev 58) L (fw isBl L f0 t0) (fw (nev 35) L (fw isBl L f0 t0) (bw isBl L (fw isBl L f0 t0) t0)) + 1) (fw (nev 35) L (fw isBl L f0 t0) (bw isBl L (fw isBl L f0 t0) t0)) none from by unfold crt; rw [if_pos hc47, if_pos (by omega), if_pos ⟨hc102, hc117⟩]]
          refine am_wk (am_le_s (am_le_s (am_le_n (am_le_n (am_le_s (am_le_s (am_le_s (am_le_n (am_le_n am_le_0))))))))) ?_
          exact sE_A_resolve hAr z1 z2 hrp z3 kb1 kb3 Y3 hx hcr hcp (by omega) (by omega) hL8
        · refine g_iconst (pc := 120) (v := 0) dc_A_resolve_120 rfl ?_
          exact g_zreturn dc_A_resolve_121 rfl rfl ⟨[], by decide, by rw [show crt L (fw isBl L f0 t0) (fw (nev 35) L (fw isBl L f0 t0) (bw isBl L (fw isBl L f0 t0) t0)) none = none from by unfold crt; rw [if_pos hc47, if_pos (by omega), if_neg (fun h9 => by rw [hc117] at h9; exact absurd h9.2 (by decide))]]; exact ⟨rfl, Y3⟩⟩
  · refine g_iconst (pc := 50) (v := 0) dc_A_resolve_50 rfl ?_
    exact g_zreturn dc_A_resolve_51 rfl rfl ⟨[], by decide, by rw [show crt L (fw isBl L f0 t0) (fw (nev 35) L (fw isBl L f0 t0) (bw isBl L (fw isBl L f0 t0) t0)) none = none from by unfold crt; rw [if_neg (by rw [hc47]; decide)]]; exact ⟨rfl, Y3⟩⟩
theorem cN_A_resolve  (hAr : h1[a]? = some (.inr (2, [.ref r, .ref p]))) (z1 : isB h1 r br cr R0) (z2 : isB h1 p bp cp P0) (hrp : r ≠ p)  (hbe : br ≠ bp) (hx : ttb h1 c s L) (hcr : c ≠ br) (hcp : c ≠ bp) (hft : f0 ≤ t0) (ht : t0 ≤ L.length) (hL8 : L.length ≤ 8000) : am_C X mt_A_resolve (d + 7) [.ref a, .ref c, .int (nI (s + f0)), .int (nI (s + t0)), .null] h1 (fun r9 h9 => ∃ P9, P9.length ≤ 8300 ∧ match crr L f0 t0 none with | some D => r9 = some (.int 1) ∧ A2 h1 h9 r br cr p bp cp D P9 | none => r9 = some (.int 0) ∧ A2 h1 h9 r br cr p bp cp [] P9) := by
  show am_G X mt_A_resolve (d + 7) 0 [some (.ref a), some (.ref c), some (.int (nI (s + f0))), some (.int (nI (s + t0))), some (.null), none, none, none, none] [] h1 _
  have ka1 : a ≠ r := fun e => by rw [e, z1.ha] at hAr; cases hAr
  have ka3 : a ≠ p := fun e => by rw [e, z2.ha] at hAr; cases hAr
  have ka2 : a ≠ br := fun e => by obtain ⟨g, q1, q2, -⟩ := z1; rw [e, q2] at hAr; cases hAr
  have ka4 : a ≠ bp := fun e => by obtain ⟨g, q1, q2, -⟩ := z2; rw [e, q2] at hAr; cases hAr
  have Y1 : A2 h1 h1 r br cr p bp cp R0 P0 := A2.rf z1 z2 hbe
  have B1 := Y1
  obtain ⟨br1, cr1, bp1, cp1, i1, j1, ne1, w1⟩ := B1
  have hbs : s + L.length < 2 ^ 30 := by obtain ⟨cq, g, -, -, q1, q2⟩ := hx.tt; omega
  have hfb := fw_bd (p := isBl) (L := L) hft
  have heb := bw_bd (p := isBl) (L := L) (f := fw isBl L f0 t0) (t := t0) hfb.2
  have hsb := fw_bd (p := nev 35) (L := L) (f := fw isBl L f0 t0) (t := bw isBl L (fw isBl L f0 t0) t0) heb.1
  have hcb := fw_bd (p := nev 58) (L := L) (f := fw isBl L f0 t0) (t := fw (nev 35) L (fw isBl L f0 t0) (bw isBl L (fw isBl L f0 t0) t0)) hsb.1
  have hcb2 := fw_bd (p := nev 47) (L := L) (f := fw isBl L f0 t0) (t := fw (nev 35) L (fw isBl L f0 t0) (bw isBl L (fw isBl L f0 t0) t0)) hsb.1
  have hcb3 := fw_bd (p := nev 63) (L := L) (f := fw isBl L f0 t0) (t := fw (nev 35) L (fw isBl L f0 t0) (bw isBl L (fw isBl L f0 t0) t0)) hsb.1
  have hmb := nmin_bd (fw (nev 47) L (fw isBl L f0 t0) (fw (nev 35) L (fw isBl L f0 t0) (bw isBl L (fw isBl L f0 t0) t0))) (fw (nev 63) L (fw isBl L f0 t0) (fw (nev 35) L (fw isBl L f0 t0) (bw isBl L (fw isBl L f0 t0) t0)))
  show am_G X mt_A_resolve (d + 7) 0 [some (.ref a), some (.ref c), some (.int (nI (s + f0))), some (.int (nI (s + t0))), some (.null), none, none, none, none] [] h1 (fun r9 h9 => ∃ P9, P9.length ≤ 8300 ∧ match crt L (fw isBl L f0 t0) (fw (nev 35) L (fw isBl L f0 t0) (bw isBl L (fw isBl L f0 t0) t0)) none with | some D => r9 = some (.int 1) ∧ A2 h1 h9 r br cr p bp cp D P9 | none => r9 = some (.int 0) ∧ A2 h1 h9 r br cr p bp cp [] P9)
  refine g_aload_n (pc := 0) dc_A_resolve_0 rfl ?_
  refine g_getfield (pc := 1) dc_A_resolve_1 fl_A_14 (Y1.kp hAr ka1 ka2 ka3 ka4) rfl ?_
  refine g_v0 (pc := 4) (M' := mt_B_clear) dc_A_resolve_4 mo_B_clear im_B_clear se_B_clear ln_A_23 i1.ha rfl rfl (Nat.le_of_ble_eq_true rfl) (Nat.le_of_ble_eq_true rfl) (am_G.mono (c_B_clear i1) ?_)
  intro r9 h2 hq
  obtain ⟨q0, hq⟩ := hq
  rw [q0]
  have Y2 : A2 h1 h2 r br cr p bp cp ([]) (P0) := A2.sr hrp (by decide) i1 j1 ne1 w1 hq
  clear hq q0 r9 i1 j1 ne1 w1 Y1
  have B2 := Y2
  obtain ⟨br2, cr2, bp2, cp2, i2, j2, ne2, w2⟩ := B2
  refine ⟨am_nt0, ?_⟩
  refine g_aload_n (pc := 7) dc_A_resolve_7 rfl ?_
  refine g_getfield (pc := 8) dc_A_resolve_8 fl_A_20 (Y2.kp hAr ka1 ka2 ka3 ka4) rfl ?_
  refine g_v0 (pc := 11) (M' := mt_B_clear) dc_A_resolve_11 mo_B_clear im_B_clear se_B_clear ln_A_23 j2.ha rfl rfl (Nat.le_of_ble_eq_true rfl) (Nat.le_of_ble_eq_true rfl) (am_G.mono (c_B_clear j2) ?_)
  intro r9 h3 hq
  obtain ⟨q0, hq⟩ := hq
  rw [q0]
  have Y3 : A2 h1 h3 r br cr p bp cp ([]) ([]) := A2.sp hrp (by decide) i2 j2 ne2 w2 hq
  clear hq q0 r9 i2 j2 ne2 w2 Y2
  have B3 := Y3
  obtain ⟨br3, cr3, bp3, cp3, i3, j3, ne3, w3⟩ := B3
  refine ⟨am_nt0, ?_⟩
  refine g_aload_n (pc := 14) dc_A_resolve_14 rfl ?_
  refine g_iload_n (pc := 15) dc_A_resolve_15 rfl ?_
  refine g_iload_n (pc := 16) dc_A_resolve_16 rfl ?_
  refine g_s3 (pc := 17) (M' := mt_W_trimmedFrom) dc_A_resolve_17 mo_W_trimmedFrom st_W_trimmedFrom ln_A_26 (Nat.le_of_ble_eq_true rfl) (Nat.le_of_ble_eq_true rfl) (am_G.mono (t_W_trimmedFrom  (f := f0) (t := t0) (Y3.tx hx hcr hcp z1 z2).tt (by omega) (by omega)) ?_)
  intro r h1 hq
  rw [hq.1, hq.2]
  clear hq h1 r
  refine ⟨am_nti _, ?_⟩
  have hb17 := fw_bd (p := isBl) (L := L) (f := f0) (t := t0) (by omega)
  refine g_istore (pc := 20) dc_A_resolve_20 (by decide) ?_
  show am_G X mt_A_resolve _ 22 [some (.ref a), some (.ref c), some (.int (nI (s + f0))), some (.int (nI (s + t0))), some (.null), some (.int (nI (s + (fw isBl L f0 t0)))), none, none, none] [] _ _
  refine g_aload_n (pc := 22) dc_A_resolve_22 rfl ?_
  refine g_bipush (pc := 23) (v := 35) dc_A_resolve_23 rfl ?_
  refine g_iload (pc := 25) dc_A_resolve_25 rfl ?_
  refine g_aload_n (pc := 27) dc_A_resolve_27 rfl ?_
  refine g_iload (pc := 28) dc_A_resolve_28 rfl ?_
  refine g_iload_n (pc := 30) dc_A_resolve_30 rfl ?_
  refine g_s3 (pc := 31) (M' := mt_W_trimmedTo) dc_A_resolve_31 mo_W_trimmedTo st_W_trimmedTo ln_A_30 (Nat.le_of_ble_eq_true rfl) (Nat.le_of_ble_eq_true rfl) (am_G.mono (t_W_trimmedTo  (f := fw isBl L f0 t0) (t := t0) (Y3.tx hx hcr hcp z1 z2).tt (by omega) (by omega)) ?_)
  intro r h1 hq
  rw [hq.1, hq.2]
  clear hq h1 r
  refine ⟨am_nti _, ?_⟩
  have hb31 := bw_bd (p := isBl) (L := L) (f := fw isBl L f0 t0) (t := t0) (by omega)
  refine g_s4 (pc := 34) (M' := mt_W_indexOf) dc_A_resolve_34 mo_W_indexOf st_W_indexOf ln_A_33 (Nat.le_of_ble_eq_true rfl) (Nat.le_of_ble_eq_true rfl) (am_G.mono (t_W_indexOf (v := 35) (f := fw isBl L f0 t0) (t := bw isBl L (fw isBl L f0 t0) t0) (Y3.tx hx hcr hcp z1 z2).tt (by omega) (by omega)) ?_)
  intro r h1 hq
  rw [hq.1, hq.2]
  clear hq h1 r
  refine ⟨am_nti _, ?_⟩
  have hb34 := fw_bd (p := nev 35) (L := L) (f := fw isBl L f0 t0) (t := bw isBl L (fw isBl L f0 t0) t0) (by omega)
  refine g_istore (pc := 37) dc_A_resolve_37 (by decide) ?_
  show am_G X mt_A_resolve _ 39 [some (.ref a), some (.ref c), some (.int (nI (s + f0))), some (.int (nI (s + t0))), some (.null), some (.int (nI (s + (fw isBl L f0 t0)))), some (.int (nI (s + (fw (nev 35) L (fw isBl L f0 t0) (bw isBl L (fw isBl L f0 t0) t0))))), none, none] [] _ _
  refine g_aload_n (pc := 39) dc_A_resolve_39 rfl ?_
  refine g_iload (pc := 40) dc_A_resolve_40 rfl ?_
  refine g_iload (pc := 42) dc_A_resolve_42 rfl ?_
  refine g_s3 (pc := 44) (M' := mt_A_isClean) dc_A_resolve_44 mo_A_isClean st_A_isClean ln_A_37 (Nat.le_of_ble_eq_true rfl) (Nat.le_of_ble_eq_true rfl) (am_G.mono (t_A_isClean (f := fw isBl L f0 t0) (t := fw (nev 35) L (fw isBl L f0 t0) (bw isBl L (fw isBl L f0 t0) t0)) (Y3.tx hx hcr hcp z1 z2).tt (by omega) (by omega)) ?_)
  intro r h1 hq
  rw [hq.1, hq.2]
  clear hq h1 r
  refine ⟨am_nti _, ?_⟩
  refine q_ifb_ne (pc := 47) (tgt := 52) dc_A_resolve_47 rfl (fun hc47 => ?_) (fun hc47 => ?_)
  · refine g_aload_n (pc := 52) dc_A_resolve_52 rfl ?_
    refine g_bipush (pc := 53) (v := 58) dc_A_resolve_53 rfl ?_
    refine g_iload (pc := 55) dc_A_resolve_55 rfl ?_
    refine g_iload (pc := 57) dc_A_resolve_57 rfl ?_
    refine g_s4 (pc := 59) (M' := mt_W_indexOf) dc_A_resolve_59 mo_W_indexOf st_W_indexOf ln_A_33 (Nat.le_of_ble_eq_true rfl) (Nat.le_of_ble_eq_true rfl) (am_G.mono (t_W_indexOf (v := 58) (f := fw isBl L f0 t0) (t := fw (nev 35) L (fw isBl L f0 t0) (bw isBl L (fw isBl L f0 t0) t0)) (Y3.tx hx hcr hcp z1 z2).tt (by omega) (by omega)) ?_)
    intro r h1 hq
    rw [hq.1, hq.2]
    clear hq h1 r
    refine ⟨am_nti _, ?_⟩
    have hb59 := fw_bd (p := nev 58) (L := L) (f := fw isBl L f0 t0) (t := fw (nev 35) L (fw isBl L f0 t0) (bw isBl L (fw isBl L f0 t0) t0)) (by omega)
    refine g_istore (pc := 62) dc_A_resolve_62 (by decide) ?_
    show am_G X mt_A_resolve _ 64 [some (.ref a), some (.ref c), some (.int (nI (s + f0))), some (.int (nI (s + t0))), some (.null), some (.int (nI (s + (fw isBl L f0 t0)))), some (.int (nI (s + (fw (nev 35) L (fw isBl L f0 t0) (bw isBl L (fw isBl L f0 t0) t0))))), some (.int (nI (s + (fw (nev 58) L (fw isBl L f0 t0) (fw (nev 35) L (fw isBl L f0 t0) (bw isBl L (fw isBl L f0 t0) t0)))))), none] [] _ _
    refine g_iload (pc := 64) dc_A_resolve_64 rfl ?_
    refine g_aload_n (pc := 66) dc_A_resolve_66 rfl ?_
    refine g_bipush (pc := 67) (v := 47) dc_A_resolve_67 rfl ?_
    refine g_iload (pc := 69) dc_A_resolve_69 rfl ?_
    refine g_iload (pc := 71) dc_A_resolve_71 rfl ?_
    refine g_s4 (pc := 73) (M' := mt_W_indexOf) dc_A_resolve_73 mo_W_indexOf st_W_indexOf ln_A_33 (Nat.le_of_ble_eq_true rfl) (Nat.le_of_ble_eq_true rfl) (am_G.mono (t_W_indexOf (v := 47) (f := fw isBl L f0 t0) (t := fw (nev 35) L (fw isBl L f0 t0) (bw isBl L (fw isBl L f0 t0) t0)) (Y3.tx hx hcr hcp z1 z2).tt (by omega) (by omega)) ?_)
    intro r h1 hq
    rw [hq.1, hq.2]
    clear hq h1 r
    refine ⟨am_nti _, ?_⟩
    have hb73 := fw_bd (p := nev 47) (L := L) (f := fw isBl L f0 t0) (t := fw (nev 35) L (fw isBl L f0 t0) (bw isBl L (fw isBl L f0 t0) t0)) (by omega)
    refine g_aload_n (pc := 76) dc_A_resolve_76 rfl ?_
    refine g_bipush (pc := 77) (v := 63) dc_A_resolve_77 rfl ?_
    refine g_iload (pc := 79) dc_A_resolve_79 rfl ?_
    refine g_iload (pc := 81) dc_A_resolve_81 rfl ?_
    refine g_s4 (pc := 83) (M' := mt_W_indexOf) dc_A_resolve_83 mo_W_indexOf st_W_indexOf ln_A_33 (Nat.le_of_ble_eq_true rfl) (Nat.le_of_ble_eq_true rfl) (am_G.mono (t_W_indexOf (v := 63) (f := fw isBl L f0 t0) (t := fw (nev 35) L (fw isBl L f0 t0) (bw isBl L (fw isBl L f0 t0) t0)) (Y3.tx hx hcr hcp z1 z2).tt (by omega) (by omega)) ?_)
    intro r h1 hq
    rw [hq.1, hq.2]
    clear hq h1 r
    refine ⟨am_nti _, ?_⟩
    have hb83 := fw_bd (p := nev 63) (L := L) (f := fw isBl L f0 t0) (t := fw (nev 35) L (fw isBl L f0 t0) (bw isBl L (fw isBl L f0 t0) t0)) (by omega)
    refine g_s2 (pc := 86) (M' := mt_JMath_min) dc_A_resolve_86 mo_JMath_min st_JMath_min ln_A_41 (Nat.le_of_ble_eq_true rfl) (Nat.le_of_ble_eq_true rfl) (am_G.mono (t_min (s := s) (x := fw (nev 47) L (fw isBl L f0 t0) (fw (nev 35) L (fw isBl L f0 t0) (bw isBl L (fw isBl L f0 t0) t0))) (y := fw (nev 63) L (fw isBl L f0 t0) (fw (nev 35) L (fw isBl L f0 t0) (bw isBl L (fw isBl L f0 t0) t0))) (by omega) (by omega)) ?_)
    intro r h1 hq
    rw [hq.1, hq.2]
    clear hq h1 r
    refine ⟨am_nti _, ?_⟩
    have hb86 := nmin_bd (fw (nev 47) L (fw isBl L f0 t0) (fw (nev 35) L (fw isBl L f0 t0) (bw isBl L (fw isBl L f0 t0) t0))) (fw (nev 63) L (fw isBl L f0 t0) (fw (nev 35) L (fw isBl L f0 t0) (bw isBl L (fw isBl L f0 t0) t0)))
    refine q_icmp_ge (pc := 89) (tgt := 128) (s + (fw (nev 58) L (fw isBl L f0 t0) (fw (nev 35) L (fw isBl L f0 t0) (bw isBl L (fw isBl L f0 t0) t0)))) (s + (Nat.min (fw (nev 47) L (fw isBl L f0 t0) (fw (nev 35) L (fw isBl L f0 t0) (bw isBl L (fw isBl L f0 t0) t0))) (fw (nev 63) L (fw isBl L f0 t0) (fw (nev 35) L (fw isBl L f0 t0) (bw isBl L (fw isBl L f0 t0) t0))))) dc_A_resolve_89 (by omega) (by omega) rfl (fun hc89 => ?_) (fun hc89 => ?_)
    · rw [show crt L (fw isBl L f0 t0) (fw (nev 35) L (fw isBl L f0 t0) (bw isBl L (fw isBl L f0 t0) t0)) none = crs L (fw isBl L f0 t0) (fw (nev 35) L (fw isBl L f0 t0) (bw isBl L (fw isBl L f0 t0) t0)) none from by unfold crt; rw [if_pos hc47, if_neg (by omega)]]
      refine am_wk (am_le_s (am_le_s (am_le_n (am_le_n (am_le_s (am_le_s (am_le_s (am_le_n (am_le_n am_le_0))))))))) ?_
      exact sN_A_resolve hAr z1 z2 hrp  Y3 hx hcr hcp (by omega) (by omega) hL8
    · refine g_aload_n (pc := 92) dc_A_resolve_92 rfl ?_
      refine g_iload (pc := 93) dc_A_resolve_93 rfl ?_
      refine g_iload (pc := 95) dc_A_resolve_95 rfl ?_
      refine g_ldcS (pc := 97) 1 dc_A_resolve_97 (by decide) rfl rfl ?_
      refine g_s4 (pc := 99) (M' := mt_W_isLower) dc_A_resolve_99 mo_W_isLower st_W_isLower ln_A_49 (Nat.le_of_ble_eq_true rfl) (Nat.le_of_ble_eq_true rfl) (am_G.mono (t_W_isLower (f := fw isBl L f0 t0) (t := fw (nev 58) L (fw isBl L f0 t0) (fw (nev 35) L (fw isBl L f0 t0) (bw isBl L (fw isBl L f0 t0) t0))) (i := 1) (Y3.tx hx hcr hcp z1 z2).tt (by decide) (by omega) (by omega)) ?_)
      intro r h1 hq
      rw [hq.1, hq.2]
      clear hq h1 r
      refine ⟨am_nti _, ?_⟩
      refine q_ifb_eq (pc := 102) (tgt := 120) dc_A_resolve_102 rfl (fun hc102 => ?_) (fun hc102 => ?_)
      · refine g_iconst (pc := 120) (v := 0) dc_A_resolve_120 rfl ?_
        exact g_zreturn dc_A_resolve_121 rfl rfl ⟨[], by decide, by rw [show crt L (fw isBl L f0 t0) (fw (nev 35) L (fw isBl L f0 t0) (bw isBl L (fw isBl L f0 t0) t0)) none = none from by unfold crt; rw [if_pos hc47, if_pos (by omega), if_neg (fun h9 => by rw [hc102] at h9; exact absurd h9.1 (by decide))]]; exact ⟨rfl, Y3⟩⟩
      · refine g_aload_n (pc := 105) dc_A_resolve_105 rfl ?_
        refine g_iload (pc := 106) dc_A_resolve_106 rfl ?_
        refine g_iconst (pc := 108) (v := 1) dc_A_resolve_108 rfl ?_
        refine g_iadd (pc := 109) (v := (nI (s + (fw (nev 58) L (fw isBl L f0 t0) (fw (nev 35) L (fw isBl L f0 t0) (bw isBl L (fw isBl L f0 t0) t0)) + 1)))) dc_A_resolve_109 (q_as s (fw (nev 58) L (fw isBl L f0 t0) (fw (nev 35) L (fw isBl L f0 t0) (bw isBl L (fw isBl L f0 t0) t0))) 1) ?_
        refine g_iload (pc := 110) dc_A_resolve_110 rfl ?_
        refine g_ldcS (pc := 112) 2 dc_A_resolve_112 (by decide) rfl rfl ?_
        refine g_s4 (pc := 114) (M' := mt_W_beginsWith) dc_A_resolve_114 mo_W_beginsWith st_W_beginsWith ln_A_55 (Nat.le_of_ble_eq_true rfl) (Nat.le_of_ble_eq_true rfl) (am_G.mono (t_W_beginsWith (f := fw (nev 58) L (fw isBl L f0 t0) (fw (nev 35) L (fw isBl L f0 t0) (bw isBl L (fw isBl L f0 t0) t0)) + 1) (t := fw (nev 35) L (fw isBl L f0 t0) (bw isBl L (fw isBl L f0 t0) t0)) (i := 2) (Y3.tx hx hcr hcp z1 z2).tt (by decide) (by omega) (by omega)) ?_)
        intro r h1 hq
        rw [hq.1, hq.2]
        clear hq h1 r
        refine ⟨am_nti _, ?_⟩
        refine q_ifb_ne (pc := 117) (tgt := 122) dc_A_resolve_117 rfl (fun hc117 => ?_) (fun hc117 => ?_)
        · refine g_iload (pc := 122) dc_A_resolve_122 rfl ?_
          refine g_iconst (pc := 124) (v := 1) dc_A_resolve_124 rfl ?_
          refine g_iadd (pc := 125) (v := (nI (s + (fw (nev 58) L (fw isBl L f0 t0) (fw (nev 35) L (fw isBl L f0 t0) (bw isBl L (fw isBl L f0 t0) t0)) + 1)))) dc_A_resolve_125 (q_as s (fw (nev 58) L (fw isBl L f0 t0) (fw (nev 35) L (fw isBl L f0 t0) (bw isBl L (fw isBl L f0 t0) t0))) 1) ?_
          refine g_istore (pc := 126) dc_A_resolve_126 (by decide) ?_
          show am_G X mt_A_resolve _ 128 [some (.ref a), some (.ref c), some (.int (nI (s + f0))), some (.int (nI (s + t0))), some (.null), some (.int (nI (s + (fw (nev 58) L (fw isBl L f0 t0) (fw (nev 35) L (fw isBl L f0 t0) (bw isBl L (fw isBl L f0 t0) t0)) + 1)))), some (.int (nI (s + (fw (nev 35) L (fw isBl L f0 t0) (bw isBl L (fw isBl L f0 t0) t0))))), some (.int (nI (s + (fw (nev 58) L (fw isBl L f0 t0) (fw (nev 35) L (fw isBl L f0 t0) (bw isBl L (fw isBl L f0 t0) t0)))))), none] [] _ _
          rw [show crt L (fw isBl L f0 t0) (fw (nev 35) L (fw isBl L f0 t0) (bw isBl L (fw isBl L f0 t0) t0)) none = crs L (fw (nev 58) L (fw isBl L f0 t0) (fw (nev 35) L (fw isBl L f0 t0) (bw isBl L (fw isBl L f0 t0) t0)) + 1) (fw (nev 35) L (fw isBl L f0 t0) (bw isBl L (fw isBl L f0 t0) t0)) none from by unfold crt; rw [if_pos hc47, if_pos (by omega), if_pos ⟨hc102, hc117⟩]]
          refine am_wk (am_le_s (am_le_s (am_le_n (am_le_n (am_le_s (am_le_s (am_le_s (am_le_n (am_le_n am_le_0))))))))) ?_
          exact sN_A_resolve hAr z1 z2 hrp  Y3 hx hcr hcp (by omega) (by omega) hL8
        · refine g_iconst (pc := 120) (v := 0) dc_A_resolve_120 rfl ?_
          exact g_zreturn dc_A_resolve_121 rfl rfl ⟨[], by decide, by rw [show crt L (fw isBl L f0 t0) (fw (nev 35) L (fw isBl L f0 t0) (bw isBl L (fw isBl L f0 t0) t0)) none = none from by unfold crt; rw [if_pos hc47, if_pos (by omega), if_neg (fun h9 => by rw [hc117] at h9; exact absurd h9.2 (by decide))]]; exact ⟨rfl, Y3⟩⟩
  · refine g_iconst (pc := 50) (v := 0) dc_A_resolve_50 rfl ?_
    exact g_zreturn dc_A_resolve_51 rfl rfl ⟨[], by decide, by rw [show crt L (fw isBl L f0 t0) (fw (nev 35) L (fw isBl L f0 t0) (bw isBl L (fw isBl L f0 t0) t0)) none = none from by unfold crt; rw [if_neg (by rw [hc47]; decide)]]; exact ⟨rfl, Y3⟩⟩
end ARU
