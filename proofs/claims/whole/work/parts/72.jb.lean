/-! ===== the class's joinBase ===== -/
theorem x0_B_putAll {X : am_X} {d a b cap c f t : Nat} {h : List va_E} {L R : List Int32} (hB : isB h a b cap R) (hx : ttb h c 0 L) (hbc : b ≠ c) (hft : f ≤ t) (ht : t ≤ L.length) (hbig : R.length + (t - f) < 8388608) : am_C X mt_B_putAll (d + 2) [.ref a, .ref c, .int (nI f), .int (nI t)] h (fun r h1 => r = none ∧ toB h h1 a b cap (R ++ sub L f t)) := by
  have h9 := x_B_putAll (X := X) (d := d) hB hx hbc hft ht hbig
  simp only [Nat.zero_add] at h9
  exact h9
theorem t0_A_behindLastSlash {X : am_X} {d : Nat} {h : List va_E} {a f t : Nat} {L : List Int32} (hx : tt h a 0 L) (hft : f ≤ t) (ht : t ≤ L.length) : am_C X mt_A_behindLastSlash d [.ref a, .int (nI f), .int (nI t)] h (fun r h1 => r = some (.int (nI (bw (nev 47) L f t))) ∧ h1 = h) := by
  have h9 := t_A_behindLastSlash (X := X) (d := d) hx hft ht
  simp only [Nat.zero_add] at h9
  exact h9
/-- what the base gives to the path -/
def cbP (L : List Int32) (f t : Nat) (D : List Int32) : List Int32 := if fw (nev 63) L f t = f then sub D (hen D) (if fw (nev 63) L f t = t then D.length else bmk D) else if gx L f = 47 then [] else sub D (hen D) (bw (nev 47) D (hen D) (bmk D))
section AJB
variable {X : am_X} {d a r p c s br cr bp cp f t bb bbb cbb : Nat} {h0 h1 : List va_E} {L D R0 P0 : List Int32}
theorem c_A_joinBase (hAr : h0[a]? = some (.inr (2, [.ref r, .ref p]))) (z1 : isB h0 r br cr R0) (z2 : isB h0 p bp cp P0) (hrp : r ≠ p) (z3 : isB h0 bb bbb cbb D) (kb1 : bb ≠ r) (kb3 : bb ≠ p) (kb5 : bbb ≠ br) (kb6 : bbb ≠ bp) (Y1 : A2 h0 h1 r br cr p bp cp [] []) (hx : ttb h0 c s L) (hcr : c ≠ br) (hcp : c ≠ bp) (hft : f ≤ t) (ht : t ≤ L.length) (hL8 : L.length ≤ 8000) (hD8 : 8 ≤ D.length) (hD9 : D.length ≤ 200) : am_C X mt_A_joinBase (d + 3) [.ref a, .ref c, .int (nI (s + f)), .int (nI (s + t)), .ref bb] h1 (fun r9 h9 => r9 = some (.int (nI (s + f))) ∧ A2 h0 h9 r br cr p bp cp (sub D 0 (hen D)) (cbP L f t D)) := by
  show am_G X mt_A_joinBase (d + 3) 0 [some (.ref a), some (.ref c), some (.int (nI (s + f))), some (.int (nI (s + t))), some (.ref bb), none, none, none] [] h1 _
  have ka1 : a ≠ r := fun e => by rw [e, z1.ha] at hAr; cases hAr
  have ka3 : a ≠ p := fun e => by rw [e, z2.ha] at hAr; cases hAr
  have ka2 : a ≠ br := fun e => by obtain ⟨g, q1, q2, -⟩ := z1; rw [e, q2] at hAr; cases hAr
  have ka4 : a ≠ bp := fun e => by obtain ⟨g, q1, q2, -⟩ := z2; rw [e, q2] at hAr; cases hAr
  have B1 := Y1
  obtain ⟨br1, cr1, bp1, cp1, i1, j1, ne1, w1⟩ := B1
  have kb2 : bb ≠ br := fun e => by obtain ⟨g, q1, q2, -⟩ := z1; have q3 := z3.ha; rw [e, q2] at q3; cases q3
  have kb4 : bb ≠ bp := fun e => by obtain ⟨g, q1, q2, -⟩ := z2; have q3 := z3.ha; rw [e, q2] at q3; cases q3
  have hbs : s + L.length < 2 ^ 30 := by obtain ⟨cq, g, -, -, q1, q2⟩ := hx.tt; omega
  have hh := hen_bd hD8
  have hbm := bmk_bd hh.2
  have hqb := fw_bd (p := nev 63) (L := L) hft
  have hla := bw_bd (p := nev 47) (L := D) hbm.1
  have hx9 := (Y1.tx hx hcr hcp z1 z2).tt
  obtain ⟨cap, g, ha, hT, hs, hc⟩ := hx9
  have hen_eq : fw (nev 47) D 7 D.length = hen D := rfl
  refine g_aload (pc := 0) dc_A_joinBase_0 rfl ?_
  refine g_ifnull (pc := 2) dc_A_joinBase_2 ?_
  refine g_aload (pc := 5) dc_A_joinBase_5 rfl ?_
  refine g_getfield (pc := 7) dc_A_joinBase_7 fl_A_72 (Y1.kp z3.ha kb1 kb2 kb3 kb4) rfl ?_
  refine q_if_ne (pc := 10) (tgt := 15) D.length dc_A_joinBase_10 (by omega) rfl (fun hc10 => ?_) (fun hc => absurd hc (by omega))
  refine g_aload (pc := 15) dc_A_joinBase_15 rfl ?_
  refine g_getfield (pc := 17) dc_A_joinBase_17 fl_A_115 (Y1.kp z3.ha kb1 kb2 kb3 kb4) rfl ?_
  refine g_aload (pc := 20) dc_A_joinBase_20 rfl ?_
  refine g_getfield (pc := 22) dc_A_joinBase_22 fl_A_72 (Y1.kp z3.ha kb1 kb2 kb3 kb4) rfl ?_
  refine g_s2 (pc := 25) (M' := mt_W_siteTo) dc_A_joinBase_25 mo_W_siteTo st_W_siteTo ln_A_119 (Nat.le_of_ble_eq_true rfl) (Nat.le_of_ble_eq_true rfl) (am_G.mono (t_siteTo (L := D) (t := D.length) (Y1.tx z3.ttb kb5 kb6 z1 z2).tt (by omega) (Nat.le_refl _)) ?_)
  intro r h1 hq
  rw [hq.1, hq.2]
  clear hq h1 r
  refine ⟨am_nti _, ?_⟩
  refine g_istore (pc := 28) dc_A_joinBase_28 (by decide) ?_
  show am_G X mt_A_joinBase _ 30 [some (.ref a), some (.ref c), some (.int (nI (s + f))), some (.int (nI (s + t))), some (.ref bb), some (.int (nI (hen D))), none, none] [] _ _
  refine g_aload (pc := 30) dc_A_joinBase_30 rfl ?_
  refine g_getfield (pc := 32) dc_A_joinBase_32 fl_A_115 (Y1.kp z3.ha kb1 kb2 kb3 kb4) rfl ?_
  refine g_bipush (pc := 35) (v := 63) dc_A_joinBase_35 rfl ?_
  refine g_iload (pc := 37) dc_A_joinBase_37 rfl ?_
  refine g_aload (pc := 39) dc_A_joinBase_39 rfl ?_
  refine g_getfield (pc := 41) dc_A_joinBase_41 fl_A_72 (Y1.kp z3.ha kb1 kb2 kb3 kb4) rfl ?_
  refine g_s4 (pc := 44) (M' := mt_W_indexOf) dc_A_joinBase_44 mo_W_indexOf st_W_indexOf ln_A_33 (Nat.le_of_ble_eq_true rfl) (Nat.le_of_ble_eq_true rfl) (am_G.mono (t0_W_indexOf (v := 63) (f := hen D) (t := D.length) (Y1.tx z3.ttb kb5 kb6 z1 z2).tt (by omega) (Nat.le_refl _)) ?_)
  intro r h1 hq
  rw [hq.1, hq.2]
  clear hq h1 r
  refine ⟨am_nti _, ?_⟩
  refine g_istore (pc := 47) dc_A_joinBase_47 (by decide) ?_
  show am_G X mt_A_joinBase _ 49 [some (.ref a), some (.ref c), some (.int (nI (s + f))), some (.int (nI (s + t))), some (.ref bb), some (.int (nI (hen D))), some (.int (nI (bmk D))), none] [] _ _
  refine g_aload_n (pc := 49) dc_A_joinBase_49 rfl ?_
  refine g_getfield (pc := 50) dc_A_joinBase_50 fl_A_14 (Y1.kp hAr ka1 ka2 ka3 ka4) rfl ?_
  refine g_aload (pc := 53) dc_A_joinBase_53 rfl ?_
  refine g_getfield (pc := 55) dc_A_joinBase_55 fl_A_115 (Y1.kp z3.ha kb1 kb2 kb3 kb4) rfl ?_
  refine g_iconst (pc := 58) (v := 0) dc_A_joinBase_58 rfl ?_
  refine g_iload (pc := 59) dc_A_joinBase_59 rfl ?_
  refine g_v3 (pc := 61) (M' := mt_B_putAll) dc_A_joinBase_61 mo_B_putAll im_B_putAll se_B_putAll ln_A_104 i1.ha rfl rfl (Nat.le_of_ble_eq_true rfl) (Nat.le_of_ble_eq_true rfl) (am_G.mono (x0_B_putAll (d := d) (f := 0) (t := hen D) i1 (Y1.tx z3.ttb kb5 kb6 z1 z2) (w1.nr z3.ttb.lt kb5) (by omega) (by omega) (by show 0 + _ < _; omega)) ?_)
  intro r9 h2 hq
  obtain ⟨q0, hq⟩ := hq
  rw [q0]
  have Y2 : A2 h0 h2 r br cr p bp cp ([] ++ sub D (0) (hen D)) ([]) := A2.sr hrp (by rw [List.nil_append, sub_len (by omega)]; omega) i1 j1 ne1 w1 hq
  clear hq q0 r9 i1 j1 ne1 w1 Y1
  have B2 := Y2
  obtain ⟨br2, cr2, bp2, cp2, i2, j2, ne2, w2⟩ := B2
  refine ⟨am_nt0, ?_⟩
  refine g_aload_n (pc := 64) dc_A_joinBase_64 rfl ?_
  refine g_bipush (pc := 65) (v := 63) dc_A_joinBase_65 rfl ?_
  refine g_iload_n (pc := 67) dc_A_joinBase_67 rfl ?_
  refine g_iload_n (pc := 68) dc_A_joinBase_68 rfl ?_
  refine g_s4 (pc := 69) (M' := mt_W_indexOf) dc_A_joinBase_69 mo_W_indexOf st_W_indexOf ln_A_33 (Nat.le_of_ble_eq_true rfl) (Nat.le_of_ble_eq_true rfl) (am_G.mono (t_W_indexOf (v := 63) (f := f) (t := t) (Y2.tx hx hcr hcp z1 z2).tt (by omega) (by omega)) ?_)
  intro r h1 hq
  rw [hq.1, hq.2]
  clear hq h1 r
  refine ⟨am_nti _, ?_⟩
  have hb69 := fw_bd (p := nev 63) (L := L) (f := f) (t := t) (by omega)
  refine g_istore (pc := 72) dc_A_joinBase_72 (by decide) ?_
  show am_G X mt_A_joinBase _ 74 [some (.ref a), some (.ref c), some (.int (nI (s + f))), some (.int (nI (s + t))), some (.ref bb), some (.int (nI (hen D))), some (.int (nI (bmk D))), some (.int (nI (s + (fw (nev 63) L f t))))] [] _ _
  refine g_iload (pc := 74) dc_A_joinBase_74 rfl ?_
  refine g_iload_n (pc := 76) dc_A_joinBase_76 rfl ?_
  refine q_icmp_ne (pc := 77) (tgt := 113) (s + (fw (nev 63) L f t)) (s + f) dc_A_joinBase_77 (by omega) (by omega) rfl (fun hc77 => ?_) (fun hc77 => ?_)
  · refine g_aload_n (pc := 113) dc_A_joinBase_113 rfl ?_
    refine g_iload_n (pc := 114) dc_A_joinBase_114 rfl ?_
    have hx8 := (Y2.tx hx hcr hcp z1 z2).tt
    obtain ⟨cap8, g8, ha8, hT8, hs8, hc8⟩ := hx8
    refine q_tx (pc := 115) f dc_A_joinBase_115 ha8 hT8 hs8 (by omega) hc8 ?_
    refine g_bipush (pc := 116) (v := 47) dc_A_joinBase_116 rfl ?_
    refine g_icmp_eq (pc := 118) (tgt := 147) dc_A_joinBase_118 rfl (fun hc118 => ?_) (fun hc118 => ?_)
    · refine g_iload_n (pc := 147) dc_A_joinBase_147 rfl ?_
      exact g_ireturn dc_A_joinBase_148 rfl ⟨rfl, by have q := Y2; rw [List.nil_append] at q; rw [show cbP L f t D = [] from by unfold cbP; rw [if_neg (by omega), if_pos hc118]]; exact q⟩
    · refine g_aload_n (pc := 121) dc_A_joinBase_121 rfl ?_
      refine g_getfield (pc := 122) dc_A_joinBase_122 fl_A_20 (Y2.kp hAr ka1 ka2 ka3 ka4) rfl ?_
      refine g_aload (pc := 125) dc_A_joinBase_125 rfl ?_
      refine g_getfield (pc := 127) dc_A_joinBase_127 fl_A_115 (Y2.kp z3.ha kb1 kb2 kb3 kb4) rfl ?_
      refine g_iload (pc := 130) dc_A_joinBase_130 rfl ?_
      refine g_aload (pc := 132) dc_A_joinBase_132 rfl ?_
      refine g_getfield (pc := 134) dc_A_joinBase_134 fl_A_115 (Y2.kp z3.ha kb1 kb2 kb3 kb4) rfl ?_
      refine g_iload (pc := 137) dc_A_joinBase_137 rfl ?_
      refine g_iload (pc := 139) dc_A_joinBase_139 rfl ?_
      refine g_s3 (pc := 141) (M' := mt_A_behindLastSlash) dc_A_joinBase_141 mo_A_behindLastSlash st_A_behindLastSlash ln_A_123 (Nat.le_of_ble_eq_true rfl) (Nat.le_of_ble_eq_true rfl) (am_G.mono (t0_A_behindLastSlash (L := D) (f := hen D) (t := bmk D) (Y2.tx z3.ttb kb5 kb6 z1 z2).tt (by omega) (by omega)) ?_)
      intro r h1 hq
      rw [hq.1, hq.2]
      clear hq h1 r
      refine ⟨am_nti _, ?_⟩
      refine g_v3 (pc := 144) (M' := mt_B_putAll) dc_A_joinBase_144 mo_B_putAll im_B_putAll se_B_putAll ln_A_104 j2.ha rfl rfl (Nat.le_of_ble_eq_true rfl) (Nat.le_of_ble_eq_true rfl) (am_G.mono (x0_B_putAll (d := d) (f := hen D) (t := bw (nev 47) D (hen D) (bmk D)) j2 (Y2.tx z3.ttb kb5 kb6 z1 z2) (w2.np z3.ttb.lt kb6) (by omega) (by omega) (by show 0 + _ < _; omega)) ?_)
      intro r9 h3 hq
      obtain ⟨q0, hq⟩ := hq
      rw [q0]
      have Y3 : A2 h0 h3 r br cr p bp cp ([] ++ sub D (0) (hen D)) ([] ++ sub D (hen D) (bw (nev 47) D (hen D) (bmk D))) := A2.sp hrp (by rw [List.nil_append, sub_len (by omega)]; omega) i2 j2 ne2 w2 hq
      clear hq q0 r9 i2 j2 ne2 w2 Y2
      have B3 := Y3
      obtain ⟨br3, cr3, bp3, cp3, i3, j3, ne3, w3⟩ := B3
      refine ⟨am_nt0, ?_⟩
      refine g_iload_n (pc := 147) dc_A_joinBase_147 rfl ?_
      exact g_ireturn dc_A_joinBase_148 rfl ⟨rfl, by have q := Y3; rw [List.nil_append] at q; rw [List.nil_append] at q; rw [show cbP L f t D = sub D (hen D) (bw (nev 47) D (hen D) (bmk D)) from by unfold cbP; rw [if_neg (by omega), if_neg hc118]]; exact q⟩
  · refine g_aload_n (pc := 80) dc_A_joinBase_80 rfl ?_
    refine g_getfield (pc := 81) dc_A_joinBase_81 fl_A_20 (Y2.kp hAr ka1 ka2 ka3 ka4) rfl ?_
    refine g_aload (pc := 84) dc_A_joinBase_84 rfl ?_
    refine g_getfield (pc := 86) dc_A_joinBase_86 fl_A_115 (Y2.kp z3.ha kb1 kb2 kb3 kb4) rfl ?_
    refine g_iload (pc := 89) dc_A_joinBase_89 rfl ?_
    refine g_iload (pc := 91) dc_A_joinBase_91 rfl ?_
    refine g_iload_n (pc := 93) dc_A_joinBase_93 rfl ?_
    refine q_icmp_ne (pc := 94) (tgt := 105) (s + (fw (nev 63) L f t)) (s + t) dc_A_joinBase_94 (by omega) (by omega) rfl (fun hc94 => ?_) (fun hc94 => ?_)
    · refine g_iload (pc := 105) dc_A_joinBase_105 rfl ?_
      refine g_v3 (pc := 107) (M' := mt_B_putAll) dc_A_joinBase_107 mo_B_putAll im_B_putAll se_B_putAll ln_A_104 j2.ha rfl rfl (Nat.le_of_ble_eq_true rfl) (Nat.le_of_ble_eq_true rfl) (am_G.mono (x0_B_putAll (d := d) (f := hen D) (t := bmk D) j2 (Y2.tx z3.ttb kb5 kb6 z1 z2) (w2.np z3.ttb.lt kb6) (by omega) (by omega) (by show 0 + _ < _; omega)) ?_)
      intro r9 h3 hq
      obtain ⟨q0, hq⟩ := hq
      rw [q0]
      have Y3 : A2 h0 h3 r br cr p bp cp ([] ++ sub D (0) (hen D)) ([] ++ sub D (hen D) (bmk D)) := A2.sp hrp (by rw [List.nil_append, sub_len (by omega)]; omega) i2 j2 ne2 w2 hq
      clear hq q0 r9 i2 j2 ne2 w2 Y2
      have B3 := Y3
      obtain ⟨br3, cr3, bp3, cp3, i3, j3, ne3, w3⟩ := B3
      refine ⟨am_nt0, ?_⟩
      refine g_goto (pc := 110) (tgt := 147) dc_A_joinBase_110 rfl ?_
      refine g_iload_n (pc := 147) dc_A_joinBase_147 rfl ?_
      exact g_ireturn dc_A_joinBase_148 rfl ⟨rfl, by have q := Y3; rw [List.nil_append] at q; rw [List.nil_append] at q; rw [show cbP L f t D = sub D (hen D) (bmk D) from by unfold cbP; rw [if_pos (by omega), if_neg (by omega)]]; exact q⟩
    · refine g_aload (pc := 97) dc_A_joinBase_97 rfl ?_
      refine g_getfield (pc := 99) dc_A_joinBase_99 fl_A_72 (Y2.kp z3.ha kb1 kb2 kb3 kb4) rfl ?_
      refine g_goto (pc := 102) (tgt := 107) dc_A_joinBase_102 rfl ?_
      refine g_v3 (pc := 107) (M' := mt_B_putAll) dc_A_joinBase_107 mo_B_putAll im_B_putAll se_B_putAll ln_A_104 j2.ha rfl rfl (Nat.le_of_ble_eq_true rfl) (Nat.le_of_ble_eq_true rfl) (am_G.mono (x0_B_putAll (d := d) (f := hen D) (t := D.length) j2 (Y2.tx z3.ttb kb5 kb6 z1 z2) (w2.np z3.ttb.lt kb6) (by omega) (by omega) (by show 0 + _ < _; omega)) ?_)
      intro r9 h3 hq
      obtain ⟨q0, hq⟩ := hq
      rw [q0]
      have Y3 : A2 h0 h3 r br cr p bp cp ([] ++ sub D (0) (hen D)) ([] ++ sub D (hen D) (D.length)) := A2.sp hrp (by rw [List.nil_append, sub_len (by omega)]; omega) i2 j2 ne2 w2 hq
      clear hq q0 r9 i2 j2 ne2 w2 Y2
      have B3 := Y3
      obtain ⟨br3, cr3, bp3, cp3, i3, j3, ne3, w3⟩ := B3
      refine ⟨am_nt0, ?_⟩
      refine g_goto (pc := 110) (tgt := 147) dc_A_joinBase_110 rfl ?_
      refine g_iload_n (pc := 147) dc_A_joinBase_147 rfl ?_
      exact g_ireturn dc_A_joinBase_148 rfl ⟨rfl, by have q := Y3; rw [List.nil_append] at q; rw [List.nil_append] at q; rw [show cbP L f t D = sub D (hen D) (D.length) from by unfold cbP; rw [if_pos (by omega), if_pos (by omega)]]; exact q⟩
theorem c_A_joinBase0 (hb : bb = 0 → True) : am_C X mt_A_joinBase (d + 3) [.ref a, .ref c, .int (nI (s + f)), .int (nI (s + t)), .null] h1 (fun r9 h9 => r9 = some (.int (-1)) ∧ h9 = h1) := by
  show am_G X mt_A_joinBase (d + 3) 0 [some (.ref a), some (.ref c), some (.int (nI (s + f))), some (.int (nI (s + t))), some .null, none, none, none] [] h1 _
  refine g_aloadN (pc := 0) dc_A_joinBase_0 rfl ?_
  refine g_ifnullN (pc := 2) (tgt := 13) dc_A_joinBase_2 rfl ?_
  refine g_iconst (pc := 13) (v := (-1)) dc_A_joinBase_13 rfl ?_
  exact g_ireturn dc_A_joinBase_14 rfl ⟨rfl, rfl⟩
theorem c_A_joinBaseE (hb : h1[bb]? = some (.inr (1, [.ref bbb, .int 0]))) : am_C X mt_A_joinBase (d + 3) [.ref a, .ref c, .int (nI (s + f)), .int (nI (s + t)), .ref bb] h1 (fun r9 h9 => r9 = some (.int (-1)) ∧ h9 = h1) := by
  show am_G X mt_A_joinBase (d + 3) 0 [some (.ref a), some (.ref c), some (.int (nI (s + f))), some (.int (nI (s + t))), some (.ref bb), none, none, none] [] h1 _
  refine g_aload (pc := 0) dc_A_joinBase_0 rfl ?_
  refine g_ifnull (pc := 2) dc_A_joinBase_2 ?_
  refine g_aload (pc := 5) dc_A_joinBase_5 rfl ?_
  refine g_getfield (pc := 7) dc_A_joinBase_7 fl_A_72 hb rfl ?_
  refine g_if_ne (pc := 10) (tgt := 15) dc_A_joinBase_10 rfl (fun hc => absurd hc (by decide)) (fun _ => ?_)
  refine g_iconst (pc := 13) (v := (-1)) dc_A_joinBase_13 rfl ?_
  exact g_ireturn dc_A_joinBase_14 rfl ⟨rfl, rfl⟩
end AJB
