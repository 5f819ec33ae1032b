/-! ===== the class's foldPath: its loop ===== -/
def cst (P : List Int32) (pt : Nat) : Nat → Nat → List (List Int32) → Bool → List (List Int32) × Bool
  | 0, _, Ss, b => (Ss, b)
  | n + 1, f, Ss, b => if f ≤ pt then (if isw 8 P f (fw (nev 47) P f pt) = true then cst P pt n (fw (nev 47) P f pt + 1) Ss.dropLast true else if isw 7 P f (fw (nev 47) P f pt) = true then cst P pt n (fw (nev 47) P f pt + 1) Ss true else cst P pt n (fw (nev 47) P f pt + 1) (Ss ++ [47 :: sub P f (fw (nev 47) P f pt)]) false) else (Ss, b)
theorem isw_12 {P : List Int32} {f e : Nat} (h : isw 7 P f e = true) : ¬ isw 8 P f e = true := fun h2 => by
  have a1 := (of_decide_eq_true h).1
  have a2 := (of_decide_eq_true h2).1
  have a3 : e - f = 1 := a1
  have a4 : e - f = 2 := a2
  omega
section AFQ
variable {X : am_X} {d a r p br cr bp cp pt : Nat} {h0 : List va_E} {P Z R0 P0 : List Int32}
theorem l_A_foldPath (hAr : h0[a]? = some (.inr (2, [.ref r, .ref p]))) (z1 : isB h0 r br cr R0) (z2 : isB h0 p bp cp P0) (hrp : r ≠ p) (hpt : pt ≤ P.length) (hP9 : P.length ≤ 8300) (hz : 1 ≤ Z.length) (hz2 : Z.length ≤ 100) : ∀ (n f : Nat) (Ss : List (List Int32)) (b : Bool) (h1 : List va_E), pt + 1 - f ≤ n → 1 ≤ f → f ≤ pt + 1 → sgs Ss → Ss.flatten.length + 1 ≤ f → A2 h0 h1 r br cr p bp cp (Z ++ Ss.flatten) P → am_G X mt_A_foldPath (d + 6) 42 [some (.ref a), some (.int (nI Z.length)), some (.int (nI pt)), some (.int (b1 b)), some (.int (nI f)), none, none, none] [] h1 (fun r9 h9 => r9 = none ∧ A2 h0 h9 r br cr p bp cp (Z ++ nty (cst P pt n f Ss b) ++ sub P pt P.length) P)
  | 0, f, Ss, b, h1, hm, hf1, hf2, hsg, hfl, Y1 => by
    have ka1 : a ≠ r := fun e => by rw [e, z1.ha] at hAr; cases hAr
    have ka3 : a ≠ p := fun e => by rw [e, z2.ha] at hAr; cases hAr
    have ka2 : a ≠ br := fun e => by obtain ⟨g, q1, q2, -⟩ := z1; rw [e, q2] at hAr; cases hAr
    have ka4 : a ≠ bp := fun e => by obtain ⟨g, q1, q2, -⟩ := z2; rw [e, q2] at hAr; cases hAr
    have B1 := Y1
    obtain ⟨br1, cr1, bp1, cp1, i1, j1, ne1, w1⟩ := B1
    have hZl : (Z ++ Ss.flatten).length = Z.length + Ss.flatten.length := List.length_append
    refine g_iload (pc := 42) dc_A_foldPath_42 rfl ?_
    refine g_iload_n (pc := 44) dc_A_foldPath_44 rfl ?_
    refine q_icmp_gt (pc := 45) (tgt := 172) f pt dc_A_foldPath_45 (by omega) (by omega) rfl (fun hc45 => ?_) (fun hc => absurd hc (by omega))
    refine g_iload_n (pc := 172) dc_A_foldPath_172 rfl ?_
    refine q_ifb_eq (pc := 173) (tgt := 185) dc_A_foldPath_173 rfl (fun hc173 => ?_) (fun hc173 => ?_)
    · refine g_aload_n (pc := 185) dc_A_foldPath_185 rfl ?_
      refine g_getfield (pc := 186) dc_A_foldPath_186 fl_A_14 (Y1.kp hAr ka1 ka2 ka3 ka4) rfl ?_
      refine g_aload_n (pc := 189) dc_A_foldPath_189 rfl ?_
      refine g_getfield (pc := 190) dc_A_foldPath_190 fl_A_20 (Y1.kp hAr ka1 ka2 ka3 ka4) rfl ?_
      refine g_getfield (pc := 193) dc_A_foldPath_193 fl_A_115 j1.ha rfl ?_
      refine g_iload_n (pc := 196) dc_A_foldPath_196 rfl ?_
      refine g_aload_n (pc := 197) dc_A_foldPath_197 rfl ?_
      refine g_getfield (pc := 198) dc_A_foldPath_198 fl_A_20 (Y1.kp hAr ka1 ka2 ka3 ka4) rfl ?_
      refine g_getfield (pc := 201) dc_A_foldPath_201 fl_A_72 j1.ha rfl ?_
      refine g_v3 (pc := 204) (M' := mt_B_putAll) dc_A_foldPath_204 mo_B_putAll im_B_putAll se_B_putAll ln_A_104 i1.ha rfl rfl (Nat.le_of_ble_eq_true rfl) (Nat.le_of_ble_eq_true rfl) (am_G.mono (x0_B_putAll (d := d + 3) (f := pt) (t := P.length) i1 j1.ttb (ne1) hpt (Nat.le_refl _) (by rw [List.length_append]; omega)) ?_)
      intro r9 h2 hq
      obtain ⟨q0, hq⟩ := hq
      rw [q0]
      have Y2 : A2 h0 h2 r br cr p bp cp (Z ++ Ss.flatten ++ sub P pt P.length) (P) := A2.sr hrp (by rw [List.length_append, List.length_append, sub_len (Nat.le_refl _)]; omega) i1 j1 ne1 w1 hq
      clear hq q0 r9 i1 j1 ne1 w1 Y1
      have B2 := Y2
      obtain ⟨br2, cr2, bp2, cp2, i2, j2, ne2, w2⟩ := B2
      refine ⟨am_nt0, ?_⟩
      exact g_return dc_A_foldPath_207 rfl ⟨rfl, by rw [show cst P pt 0 f Ss b = (Ss, b) from rfl, show nty (Ss, b) = Ss.flatten from by unfold nty; rw [hc173]; exact List.append_nil _]; have q := Y2; exact q⟩
    · refine g_aload_n (pc := 176) dc_A_foldPath_176 rfl ?_
      refine g_getfield (pc := 177) dc_A_foldPath_177 fl_A_14 (Y1.kp hAr ka1 ka2 ka3 ka4) rfl ?_
      refine g_bipush (pc := 180) (v := 47) dc_A_foldPath_180 rfl ?_
      refine g_v1 (pc := 182) (M' := mt_B_put) dc_A_foldPath_182 mo_B_put im_B_put se_B_put ln_A_101 i1.ha rfl rfl (Nat.le_of_ble_eq_true rfl) (Nat.le_of_ble_eq_true rfl) (am_G.mono (c_B_put (d := d + 3) (v := 47) i1 (by rw [List.length_append]; omega)) ?_)
      intro r9 h2 hq
      obtain ⟨q0, hq⟩ := hq
      rw [q0]
      have Y2 : A2 h0 h2 r br cr p bp cp (Z ++ Ss.flatten ++ [by8 47]) (P) := A2.sr hrp (by rw [List.length_append, List.length_append]; show _ + 1 ≤ _; omega) i1 j1 ne1 w1 hq
      clear hq q0 r9 i1 j1 ne1 w1 Y1
      have B2 := Y2
      obtain ⟨br2, cr2, bp2, cp2, i2, j2, ne2, w2⟩ := B2
      refine ⟨am_nt0, ?_⟩
      refine g_aload_n (pc := 185) dc_A_foldPath_185 rfl ?_
      refine g_getfield (pc := 186) dc_A_foldPath_186 fl_A_14 (Y2.kp hAr ka1 ka2 ka3 ka4) rfl ?_
      refine g_aload_n (pc := 189) dc_A_foldPath_189 rfl ?_
      refine g_getfield (pc := 190) dc_A_foldPath_190 fl_A_20 (Y2.kp hAr ka1 ka2 ka3 ka4) rfl ?_
      refine g_getfield (pc := 193) dc_A_foldPath_193 fl_A_115 j2.ha rfl ?_
      refine g_iload_n (pc := 196) dc_A_foldPath_196 rfl ?_
      refine g_aload_n (pc := 197) dc_A_foldPath_197 rfl ?_
      refine g_getfield (pc := 198) dc_A_foldPath_198 fl_A_20 (Y2.kp hAr ka1 ka2 ka3 ka4) rfl ?_
      refine g_getfield (pc := 201) dc_A_foldPath_201 fl_A_72 j2.ha rfl ?_
      refine g_v3 (pc := 204) (M' := mt_B_putAll) dc_A_foldPath_204 mo_B_putAll im_B_putAll se_B_putAll ln_A_104 i2.ha rfl rfl (Nat.le_of_ble_eq_true rfl) (Nat.le_of_ble_eq_true rfl) (am_G.mono (x0_B_putAll (d := d + 3) (f := pt) (t := P.length) i2 j2.ttb (ne2) hpt (Nat.le_refl _) (by rw [List.length_append, List.length_append]; show _ + 1 + _ < _; omega)) ?_)
      intro r9 h3 hq
      obtain ⟨q0, hq⟩ := hq
      rw [q0]
      have Y3 : A2 h0 h3 r br cr p bp cp (Z ++ Ss.flatten ++ [by8 47] ++ sub P pt P.length) (P) := A2.sr hrp (by rw [List.length_append, List.length_append, List.length_append, sub_len (Nat.le_refl _)]; show _ + 1 + _ ≤ _; omega) i2 j2 ne2 w2 hq
      clear hq q0 r9 i2 j2 ne2 w2 Y2
      have B3 := Y3
      obtain ⟨br3, cr3, bp3, cp3, i3, j3, ne3, w3⟩ := B3
      refine ⟨am_nt0, ?_⟩
      exact g_return dc_A_foldPath_207 rfl ⟨rfl, by rw [show cst P pt 0 f Ss b = (Ss, b) from rfl, show nty (Ss, b) = Ss.flatten ++ [47] from by unfold nty; rw [if_pos hc173]]; have q := Y3; rw [show by8 47 = 47 from rfl, List.append_assoc Z] at q; exact q⟩
  | n + 1, f, Ss, b, h1, hm, hf1, hf2, hsg, hfl, Y1 => by
    have ka1 : a ≠ r := fun e => by rw [e, z1.ha] at hAr; cases hAr
    have ka3 : a ≠ p := fun e => by rw [e, z2.ha] at hAr; cases hAr
    have ka2 : a ≠ br := fun e => by obtain ⟨g, q1, q2, -⟩ := z1; rw [e, q2] at hAr; cases hAr
    have ka4 : a ≠ bp := fun e => by obtain ⟨g, q1, q2, -⟩ := z2; rw [e, q2] at hAr; cases hAr
    have B1 := Y1
    obtain ⟨br1, cr1, bp1, cp1, i1, j1, ne1, w1⟩ := B1
    have hZl : (Z ++ Ss.flatten).length = Z.length + Ss.flatten.length := List.length_append
    by_cases hle : f ≤ pt
    · have hb := fw_bd (p := nev 47) (L := P) (f := f) (t := pt) hle
      have hin := fun j => fw_in (p := nev 47) (L := P) (f := f) (t := pt) (j := j)
      refine g_iload (pc := 42) dc_A_foldPath_42 rfl ?_
      refine g_iload_n (pc := 44) dc_A_foldPath_44 rfl ?_
      refine q_icmp_gt (pc := 45) (tgt := 172) f pt dc_A_foldPath_45 (by omega) (by omega) rfl (fun hc => absurd hc (by omega)) (fun hc45 => ?_)
      refine g_aload_n (pc := 48) dc_A_foldPath_48 rfl ?_
      refine g_getfield (pc := 49) dc_A_foldPath_49 fl_A_20 (Y1.kp hAr ka1 ka2 ka3 ka4) rfl ?_
      refine g_getfield (pc := 52) dc_A_foldPath_52 fl_A_115 j1.ha rfl ?_
      refine g_bipush (pc := 55) (v := 47) dc_A_foldPath_55 rfl ?_
      refine g_iload (pc := 57) dc_A_foldPath_57 rfl ?_
      refine g_iload_n (pc := 59) dc_A_foldPath_59 rfl ?_
      refine g_s4 (pc := 60) (M' := mt_W_indexOf) dc_A_foldPath_60 mo_W_indexOf st_W_indexOf ln_A_33 (Nat.le_of_ble_eq_true rfl) (Nat.le_of_ble_eq_true rfl) (am_G.mono (t0_W_indexOf (v := 47) (f := f) (t := pt) j1.tt (by omega) (by omega)) ?_)
      intro r h1 hq
      rw [hq.1, hq.2]
      clear hq h1 r
      refine ⟨am_nti _, ?_⟩
      have hb60 := fw_bd (p := nev 47) (L := (P)) (f := f) (t := pt) (by omega)
      refine g_istore (pc := 63) dc_A_foldPath_63 (by decide) ?_
      show am_G X mt_A_foldPath _ 65 [some (.ref a), some (.int (nI Z.length)), some (.int (nI pt)), some (.int (b1 b)), some (.int (nI f)), some (.int (nI (fw (nev 47) (P) f pt))), none, none] [] _ _
      refine g_aload_n (pc := 65) dc_A_foldPath_65 rfl ?_
      refine g_getfield (pc := 66) dc_A_foldPath_66 fl_A_20 (Y1.kp hAr ka1 ka2 ka3 ka4) rfl ?_
      refine g_getfield (pc := 69) dc_A_foldPath_69 fl_A_115 j1.ha rfl ?_
      refine g_iload (pc := 72) dc_A_foldPath_72 rfl ?_
      refine g_iload (pc := 74) dc_A_foldPath_74 rfl ?_
      refine g_ldcS (pc := 76) 7 dc_A_foldPath_76 (by decide) rfl rfl ?_
      refine g_s4 (pc := 78) (M' := mt_W_isLower) dc_A_foldPath_78 mo_W_isLower st_W_isLower ln_A_49 (Nat.le_of_ble_eq_true rfl) (Nat.le_of_ble_eq_true rfl) (am_G.mono (t0_W_isLower (f := f) (t := fw (nev 47) (P) f pt) (i := 7) j1.tt (by decide) (by omega) (by omega)) ?_)
      intro r h1 hq
      rw [hq.1, hq.2]
      clear hq h1 r
      refine ⟨am_nti _, ?_⟩
      refine g_istore (pc := 81) dc_A_foldPath_81 (by decide) ?_
      show am_G X mt_A_foldPath _ 83 [some (.ref a), some (.int (nI Z.length)), some (.int (nI pt)), some (.int (b1 b)), some (.int (nI f)), some (.int (nI (fw (nev 47) (P) f pt))), some (.int (b1 (isw 7 (P) f (fw (nev 47) (P) f pt)))), none] [] _ _
      refine g_aload_n (pc := 83) dc_A_foldPath_83 rfl ?_
      refine g_getfield (pc := 84) dc_A_foldPath_84 fl_A_20 (Y1.kp hAr ka1 ka2 ka3 ka4) rfl ?_
      refine g_getfield (pc := 87) dc_A_foldPath_87 fl_A_115 j1.ha rfl ?_
      refine g_iload (pc := 90) dc_A_foldPath_90 rfl ?_
      refine g_iload (pc := 92) dc_A_foldPath_92 rfl ?_
      refine g_ldcS (pc := 94) 8 dc_A_foldPath_94 (by decide) rfl rfl ?_
      refine g_s4 (pc := 96) (M' := mt_W_isLower) dc_A_foldPath_96 mo_W_isLower st_W_isLower ln_A_49 (Nat.le_of_ble_eq_true rfl) (Nat.le_of_ble_eq_true rfl) (am_G.mono (t0_W_isLower (f := f) (t := fw (nev 47) (P) f pt) (i := 8) j1.tt (by decide) (by omega) (by omega)) ?_)
      intro r h1 hq
      rw [hq.1, hq.2]
      clear hq h1 r
      refine ⟨am_nti _, ?_⟩
      refine g_istore (pc := 99) dc_A_foldPath_99 (by decide) ?_
      show am_G X mt_A_foldPath _ 101 [some (.ref a), some (.int (nI Z.length)), some (.int (nI pt)), some (.int (b1 b)), some (.int (nI f)), some (.int (nI (fw (nev 47) (P) f pt))), some (.int (b1 (isw 7 (P) f (fw (nev 47) (P) f pt)))), some (.int (b1 (isw 8 (P) f (fw (nev 47) (P) f pt))))] [] _ _
      refine g_iload (pc := 101) dc_A_foldPath_101 rfl ?_
      refine q_ifb_ne (pc := 103) (tgt := 111) dc_A_foldPath_103 rfl (fun hc103 => ?_) (fun hc103 => ?_)
      · refine g_iconst (pc := 111) (v := 1) dc_A_foldPath_111 rfl ?_
        refine g_goto (pc := 112) (tgt := 116) dc_A_foldPath_112 rfl ?_
        refine g_istore_n (pc := 116) dc_A_foldPath_116 (by decide) ?_
        show am_G X mt_A_foldPath _ 117 [some (.ref a), some (.int (nI Z.length)), some (.int (nI pt)), some (.int 1), some (.int (nI f)), some (.int (nI (fw (nev 47) (P) f pt))), some (.int (b1 (isw 7 (P) f (fw (nev 47) (P) f pt)))), some (.int (b1 (isw 8 (P) f (fw (nev 47) (P) f pt))))] [] _ _
        refine g_iload (pc := 117) dc_A_foldPath_117 rfl ?_
        refine q_ifb_eq (pc := 119) (tgt := 130) dc_A_foldPath_119 rfl (fun hc119 => ?_) (fun hc => absurd hc (isw_12 hc103))
        refine g_iload (pc := 130) dc_A_foldPath_130 rfl ?_
        refine q_ifb_ne (pc := 132) (tgt := 162) dc_A_foldPath_132 rfl (fun hc132 => ?_) (fun hc => absurd hc (by rw [hc103]; decide))
        refine g_iload (pc := 162) dc_A_foldPath_162 rfl ?_
        refine g_istore (pc := 164) dc_A_foldPath_164 (by decide) ?_
        show am_G X mt_A_foldPath _ 166 [some (.ref a), some (.int (nI Z.length)), some (.int (nI pt)), some (.int 1), some (.int (nI (fw (nev 47) (P) f pt))), some (.int (nI (fw (nev 47) (P) f pt))), some (.int (b1 (isw 7 (P) f (fw (nev 47) (P) f pt)))), some (.int (b1 (isw 8 (P) f (fw (nev 47) (P) f pt))))] [] _ _
        refine g_iinc (pc := 166) (v := (nI (fw (nev 47) (P) f pt + 1))) dc_A_foldPath_166 rfl (nI_add (fw (nev 47) (P) f pt) 1) (by decide) ?_
        show am_G X mt_A_foldPath _ 169 [some (.ref a), some (.int (nI Z.length)), some (.int (nI pt)), some (.int 1), some (.int (nI (fw (nev 47) (P) f pt + 1))), some (.int (nI (fw (nev 47) (P) f pt))), some (.int (b1 (isw 7 (P) f (fw (nev 47) (P) f pt)))), some (.int (b1 (isw 8 (P) f (fw (nev 47) (P) f pt))))] [] _ _
        refine g_goto (pc := 169) (tgt := 42) dc_A_foldPath_169 rfl ?_
        have hns : cst P pt (n + 1) f Ss b = cst P pt n (fw (nev 47) P f pt + 1) Ss true := by
          show (if f ≤ pt then _ else _) = _
          rw [if_pos hle, if_neg (by rw [hc119]; decide), if_pos hc132]
        rw [hns]
        refine am_wk (am_le_s (am_le_s (am_le_s (am_le_s (am_le_s (am_le_n (am_le_n (am_le_n am_le_0)))))))) ?_
        exact l_A_foldPath hAr z1 z2 hrp hpt hP9 hz hz2 n (fw (nev 47) P f pt + 1) Ss true h1 (by omega) (by omega) (by omega) hsg (by omega) Y1
      · refine g_iload (pc := 106) dc_A_foldPath_106 rfl ?_
        refine q_ifb_eq (pc := 108) (tgt := 115) dc_A_foldPath_108 rfl (fun hc108 => ?_) (fun hc108 => ?_)
        · refine g_iconst (pc := 115) (v := 0) dc_A_foldPath_115 rfl ?_
          refine g_istore_n (pc := 116) dc_A_foldPath_116 (by decide) ?_
          show am_G X mt_A_foldPath _ 117 [some (.ref a), some (.int (nI Z.length)), some (.int (nI pt)), some (.int 0), some (.int (nI f)), some (.int (nI (fw (nev 47) (P) f pt))), some (.int (b1 (isw 7 (P) f (fw (nev 47) (P) f pt)))), some (.int (b1 (isw 8 (P) f (fw (nev 47) (P) f pt))))] [] _ _
          refine g_iload (pc := 117) dc_A_foldPath_117 rfl ?_
          refine q_ifb_eq (pc := 119) (tgt := 130) dc_A_foldPath_119 rfl (fun hc119 => ?_) (fun hc => absurd hc (by rw [hc108]; decide))
          refine g_iload (pc := 130) dc_A_foldPath_130 rfl ?_
          refine q_ifb_ne (pc := 132) (tgt := 162) dc_A_foldPath_132 rfl (fun hc => absurd hc (by rw [hc103]; decide)) (fun hc132 => ?_)
          refine g_aload_n (pc := 135) dc_A_foldPath_135 rfl ?_
          refine g_getfield (pc := 136) dc_A_foldPath_136 fl_A_14 (Y1.kp hAr ka1 ka2 ka3 ka4) rfl ?_
          refine g_bipush (pc := 139) (v := 47) dc_A_foldPath_139 rfl ?_
          refine g_v1 (pc := 141) (M' := mt_B_put) dc_A_foldPath_141 mo_B_put im_B_put se_B_put ln_A_101 i1.ha rfl rfl (Nat.le_of_ble_eq_true rfl) (Nat.le_of_ble_eq_true rfl) (am_G.mono (c_B_put (d := d + 3) (v := 47) i1 (by omega)) ?_)
          intro r9 h2 hq
          obtain ⟨q0, hq⟩ := hq
          rw [q0]
          have Y2 : A2 h0 h2 r br cr p bp cp (Z ++ Ss.flatten ++ [by8 47]) (P) := A2.sr hrp (by rw [List.length_append]; show _ + 1 ≤ _; omega) i1 j1 ne1 w1 hq
          clear hq q0 r9 i1 j1 ne1 w1 Y1
          have B2 := Y2
          obtain ⟨br2, cr2, bp2, cp2, i2, j2, ne2, w2⟩ := B2
          refine ⟨am_nt0, ?_⟩
          refine g_aload_n (pc := 144) dc_A_foldPath_144 rfl ?_
          refine g_getfield (pc := 145) dc_A_foldPath_145 fl_A_14 (Y2.kp hAr ka1 ka2 ka3 ka4) rfl ?_
          refine g_aload_n (pc := 148) dc_A_foldPath_148 rfl ?_
          refine g_getfield (pc := 149) dc_A_foldPath_149 fl_A_20 (Y2.kp hAr ka1 ka2 ka3 ka4) rfl ?_
          refine g_getfield (pc := 152) dc_A_foldPath_152 fl_A_115 j2.ha rfl ?_
          refine g_iload (pc := 155) dc_A_foldPath_155 rfl ?_
          refine g_iload (pc := 157) dc_A_foldPath_157 rfl ?_
          refine g_v3 (pc := 159) (M' := mt_B_putAll) dc_A_foldPath_159 mo_B_putAll im_B_putAll se_B_putAll ln_A_104 i2.ha rfl rfl (Nat.le_of_ble_eq_true rfl) (Nat.le_of_ble_eq_true rfl) (am_G.mono (x0_B_putAll (d := d + 3) (f := f) (t := fw (nev 47) P f pt) i2 j2.ttb (ne2) (by omega) (by omega) (by rw [List.length_append]; show _ + 1 + _ < _; omega)) ?_)
          intro r9 h3 hq
          obtain ⟨q0, hq⟩ := hq
          rw [q0]
          have Y3 : A2 h0 h3 r br cr p bp cp (Z ++ Ss.flatten ++ [by8 47] ++ sub P f (fw (nev 47) P f pt)) (P) := A2.sr hrp (by rw [List.length_append, List.length_append, sub_len (by omega)]; show _ + 1 + _ ≤ _; omega) i2 j2 ne2 w2 hq
          clear hq q0 r9 i2 j2 ne2 w2 Y2
          have B3 := Y3
          obtain ⟨br3, cr3, bp3, cp3, i3, j3, ne3, w3⟩ := B3
          refine ⟨am_nt0, ?_⟩
          refine g_iload (pc := 162) dc_A_foldPath_162 rfl ?_
          refine g_istore (pc := 164) dc_A_foldPath_164 (by decide) ?_
          show am_G X mt_A_foldPath _ 166 [some (.ref a), some (.int (nI Z.length)), some (.int (nI pt)), some (.int 0), some (.int (nI (fw (nev 47) (P) f pt))), some (.int (nI (fw (nev 47) (P) f pt))), some (.int (b1 (isw 7 (P) f (fw (nev 47) (P) f pt)))), some (.int (b1 (isw 8 (P) f (fw (nev 47) (P) f pt))))] [] _ _
          refine g_iinc (pc := 166) (v := (nI (fw (nev 47) (P) f pt + 1))) dc_A_foldPath_166 rfl (nI_add (fw (nev 47) (P) f pt) 1) (by decide) ?_
          show am_G X mt_A_foldPath _ 169 [some (.ref a), some (.int (nI Z.length)), some (.int (nI pt)), some (.int 0), some (.int (nI (fw (nev 47) (P) f pt + 1))), some (.int (nI (fw (nev 47) (P) f pt))), some (.int (b1 (isw 7 (P) f (fw (nev 47) (P) f pt)))), some (.int (b1 (isw 8 (P) f (fw (nev 47) (P) f pt))))] [] _ _
          refine g_goto (pc := 169) (tgt := 42) dc_A_foldPath_169 rfl ?_
          have hns : cst P pt (n + 1) f Ss b = cst P pt n (fw (nev 47) P f pt + 1) (Ss ++ [47 :: sub P f (fw (nev 47) P f pt)]) false := by
            show (if f ≤ pt then _ else _) = _
            rw [if_pos hle, if_neg (by rw [hc119]; decide), if_neg (by rw [hc132]; decide)]
          rw [hns]
          have hsl := sub_len (L := P) (f := f) (t := fw (nev 47) P f pt) (by omega)
          have hfa : (Ss ++ [47 :: sub P f (fw (nev 47) P f pt)]).flatten = Ss.flatten ++ (47 :: sub P f (fw (nev 47) P f pt)) := by simp
          have q := Y3
          rw [show by8 47 = 47 from rfl, List.append_assoc, List.append_assoc] at q
          have q2 : A2 h0 h3 r br cr p bp cp (Z ++ (Ss ++ [47 :: sub P f (fw (nev 47) P f pt)]).flatten) P := by rw [hfa]; exact q
          refine am_wk (am_le_s (am_le_s (am_le_s (am_le_s (am_le_s (am_le_n (am_le_n (am_le_n am_le_0)))))))) ?_
          exact l_A_foldPath hAr z1 z2 hrp hpt hP9 hz hz2 n (fw (nev 47) P f pt + 1) (Ss ++ [47 :: sub P f (fw (nev 47) P f pt)]) false h3 (by omega) (by omega) (by omega) (sgs_app hsg ⟨_, rfl, fun j hj => by rw [hsl] at hj; rw [gx_sub hj (by omega)]; exact of_decide_eq_true (hin (f + j) (by omega) (by omega))⟩) (by rw [hfa, List.length_append, List.length_cons, hsl]; omega) q2
        · refine g_iconst (pc := 111) (v := 1) dc_A_foldPath_111 rfl ?_
          refine g_goto (pc := 112) (tgt := 116) dc_A_foldPath_112 rfl ?_
          refine g_istore_n (pc := 116) dc_A_foldPath_116 (by decide) ?_
          show am_G X mt_A_foldPath _ 117 [some (.ref a), some (.int (nI Z.length)), some (.int (nI pt)), some (.int 1), some (.int (nI f)), some (.int (nI (fw (nev 47) (P) f pt))), some (.int (b1 (isw 7 (P) f (fw (nev 47) (P) f pt)))), some (.int (b1 (isw 8 (P) f (fw (nev 47) (P) f pt))))] [] _ _
          refine g_iload (pc := 117) dc_A_foldPath_117 rfl ?_
          refine q_ifb_eq (pc := 119) (tgt := 130) dc_A_foldPath_119 rfl (fun hc => absurd hc (by rw [hc108]; decide)) (fun hc119 => ?_)
          refine g_aload_n (pc := 122) dc_A_foldPath_122 rfl ?_
          refine g_iload_n (pc := 123) dc_A_foldPath_123 rfl ?_
          refine g_v1 (pc := 124) (M' := mt_A_dropSegment) dc_A_foldPath_124 mo_A_dropSegment im_A_dropSegment se_A_dropSegment ln_A_130 (Y1.kp hAr ka1 ka2 ka3 ka4) rfl rfl (Nat.le_of_ble_eq_true rfl) (Nat.le_of_ble_eq_true rfl) (am_G.mono (c_A_dropSegment (d := d + 4) hAr z1 z2 hrp Y1 hsg hz (by omega)) ?_)
          intro r9 h2 hq
          obtain ⟨q0, Y2⟩ := hq
          rw [q0]
          clear q0 r9 i1 j1 ne1 w1 Y1
          have B2 := Y2
          obtain ⟨br2, cr2, bp2, cp2, i2, j2, ne2, w2⟩ := B2
          refine ⟨am_nt0, ?_⟩
          refine g_goto (pc := 127) (tgt := 162) dc_A_foldPath_127 rfl ?_
          refine g_iload (pc := 162) dc_A_foldPath_162 rfl ?_
          refine g_istore (pc := 164) dc_A_foldPath_164 (by decide) ?_
          show am_G X mt_A_foldPath _ 166 [some (.ref a), some (.int (nI Z.length)), some (.int (nI pt)), some (.int 1), some (.int (nI (fw (nev 47) (P) f pt))), some (.int (nI (fw (nev 47) (P) f pt))), some (.int (b1 (isw 7 (P) f (fw (nev 47) (P) f pt)))), some (.int (b1 (isw 8 (P) f (fw (nev 47) (P) f pt))))] [] _ _
          refine g_iinc (pc := 166) (v := (nI (fw (nev 47) (P) f pt + 1))) dc_A_foldPath_166 rfl (nI_add (fw (nev 47) (P) f pt) 1) (by decide) ?_
          show am_G X mt_A_foldPath _ 169 [some (.ref a), some (.int (nI Z.length)), some (.int (nI pt)), some (.int 1), some (.int (nI (fw (nev 47) (P) f pt + 1))), some (.int (nI (fw (nev 47) (P) f pt))), some (.int (b1 (isw 7 (P) f (fw (nev 47) (P) f pt)))), some (.int (b1 (isw 8 (P) f (fw (nev 47) (P) f pt))))] [] _ _
          refine g_goto (pc := 169) (tgt := 42) dc_A_foldPath_169 rfl ?_
          have hns : cst P pt (n + 1) f Ss b = cst P pt n (fw (nev 47) P f pt + 1) Ss.dropLast true := by
            show (if f ≤ pt then _ else _) = _
            rw [if_pos hle, if_pos hc119]
          rw [hns]
          have hdl : Ss.dropLast.flatten.length ≤ Ss.flatten.length := by
            by_cases h9 : 0 < Ss.length
            · rw [dl_split h9, List.length_append]; omega
            · have e9 : Ss = [] := List.length_eq_zero_iff.mp (by omega)
              subst e9; exact Nat.le_refl _
          refine am_wk (am_le_s (am_le_s (am_le_s (am_le_s (am_le_s (am_le_n (am_le_n (am_le_n am_le_0)))))))) ?_
          exact l_A_foldPath hAr z1 z2 hrp hpt hP9 hz hz2 n (fw (nev 47) P f pt + 1) Ss.dropLast true h2 (by omega) (by omega) (by omega) (sgs_dl hsg) (by omega) Y2
    · have hns : cst P pt (n + 1) f Ss b = (Ss, b) := by
        show (if f ≤ pt then _ else _) = _
        rw [if_neg hle]
      refine g_iload (pc := 42) dc_A_foldPath_42 rfl ?_
      refine g_iload_n (pc := 44) dc_A_foldPath_44 rfl ?_
      refine q_icmp_gt (pc := 45) (tgt := 172) f pt dc_A_foldPath_45 (by omega) (by omega) rfl (fun hc45 => ?_) (fun hc => absurd hc (by omega))
      refine g_iload_n (pc := 172) dc_A_foldPath_172 rfl ?_
      refine q_ifb_eq (pc := 173) (tgt := 185) dc_A_foldPath_173 rfl (fun hc173 => ?_) (fun hc173 => ?_)
      · refine g_aload_n (pc := 185) dc_A_foldPath_185 rfl ?_
        refine g_getfield (pc := 186) dc_A_foldPath_186 fl_A_14 (Y1.kp hAr ka1 ka2 ka3 ka4) rfl ?_
        refine g_aload_n (pc := 189) dc_A_foldPath_189 rfl ?_
        refine g_getfield (pc := 190) dc_A_foldPath_190 fl_A_20 (Y1.kp hAr ka1 ka2 ka3 ka4) rfl ?_
        refine g_getfield (pc := 193) dc_A_foldPath_193 fl_A_115 j1.ha rfl ?_
        refine g_iload_n (pc := 196) dc_A_foldPath_196 rfl ?_
        refine g_aload_n (pc := 197) dc_A_foldPath_197 rfl ?_
        refine g_getfield (pc := 198) dc_A_foldPath_198 fl_A_20 (Y1.kp hAr ka1 ka2 ka3 ka4) rfl ?_
        refine g_getfield (pc := 201) dc_A_foldPath_201 fl_A_72 j1.ha rfl ?_
        refine g_v3 (pc := 204) (M' := mt_B_putAll) dc_A_foldPath_204 mo_B_putAll im_B_putAll se_B_putAll ln_A_104 i1.ha rfl rfl (Nat.le_of_ble_eq_true rfl) (Nat.le_of_ble_eq_true rfl) (am_G.mono (x0_B_putAll (d := d + 3) (f := pt) (t := P.length) i1 j1.ttb (ne1) hpt (Nat.le_refl _) (by rw [List.length_append]; omega)) ?_)
        intro r9 h2 hq
        obtain ⟨q0, hq⟩ := hq
        rw [q0]
        have Y2 : A2 h0 h2 r br cr p bp cp (Z ++ Ss.flatten ++ sub P pt P.length) (P) := A2.sr hrp (by rw [List.length_append, List.length_append, sub_len (Nat.le_refl _)]; omega) i1 j1 ne1 w1 hq
        clear hq q0 r9 i1 j1 ne1 w1 Y1
        have B2 := Y2
        obtain ⟨br2, cr2, bp2, cp2, i2, j2, ne2, w2⟩ := B2
        refine ⟨am_nt0, ?_⟩
        exact g_return dc_A_foldPath_207 rfl ⟨rfl, by rw [hns, show nty (Ss, b) = Ss.flatten from by unfold nty; rw [hc173]; exact List.append_nil _]; have q := Y2; exact q⟩
      · refine g_aload_n (pc := 176) dc_A_foldPath_176 rfl ?_
        refine g_getfield (pc := 177) dc_A_foldPath_177 fl_A_14 (Y1.kp hAr ka1 ka2 ka3 ka4) rfl ?_
        refine g_bipush (pc := 180) (v := 47) dc_A_foldPath_180 rfl ?_
        refine g_v1 (pc := 182) (M' := mt_B_put) dc_A_foldPath_182 mo_B_put im_B_put se_B_put ln_A_101 i1.ha rfl rfl (Nat.le_of_ble_eq_true rfl) (Nat.le_of_ble_eq_true rfl) (am_G.mono (c_B_put (d := d + 3) (v := 47) i1 (by rw [List.length_append]; omega)) ?_)
        intro r9 h2 hq
        obtain ⟨q0, hq⟩ := hq
        rw [q0]
        have Y2 : A2 h0 h2 r br cr p bp cp (Z ++ Ss.flatten ++ [by8 47]) (P) := A2.sr hrp (by rw [List.length_append, List.length_append]; show _ + 1 ≤ _; omega) i1 j1 ne1 w1 hq
        clear hq q0 r9 i1 j1 ne1 w1 Y1
        have B2 := Y2
        obtain ⟨br2, cr2, bp2, cp2, i2, j2, ne2, w2⟩ := B2
        refine ⟨am_nt0, ?_⟩
        refine g_aload_n (pc := 185) dc_A_foldPath_185 rfl ?_
        refine g_getfield (pc := 186) dc_A_foldPath_186 fl_A_14 (Y2.kp hAr ka1 ka2 ka3 ka4) rfl ?_
        refine g_aload_n (pc := 189) dc_A_foldPath_189 rfl ?_
        refine g_getfield (pc := 190) dc_A_foldPath_190 fl_A_20 (Y2.kp hAr ka1 ka2 ka3 ka4) rfl ?_
        refine g_getfield (pc := 193) dc_A_foldPath_193 fl_A_115 j2.ha rfl ?_
        refine g_iload_n (pc := 196) dc_A_foldPath_196 rfl ?_
        refine g_aload_n (pc := 197) dc_A_foldPath_197 rfl ?_
        refine g_getfield (pc := 198) dc_A_foldPath_198 fl_A_20 (Y2.kp hAr ka1 ka2 ka3 ka4) rfl ?_
        refine g_getfield (pc := 201) dc_A_foldPath_201 fl_A_72 j2.ha rfl ?_
        refine g_v3 (pc := 204) (M' := mt_B_putAll) dc_A_foldPath_204 mo_B_putAll im_B_putAll se_B_putAll ln_A_104 i2.ha rfl rfl (Nat.le_of_ble_eq_true rfl) (Nat.le_of_ble_eq_true rfl) (am_G.mono (x0_B_putAll (d := d + 3) (f := pt) (t := P.length) i2 j2.ttb (ne2) hpt (Nat.le_refl _) (by rw [List.length_append, List.length_append]; show _ + 1 + _ < _; omega)) ?_)
        intro r9 h3 hq
        obtain ⟨q0, hq⟩ := hq
        rw [q0]
        have Y3 : A2 h0 h3 r br cr p bp cp (Z ++ Ss.flatten ++ [by8 47] ++ sub P pt P.length) (P) := A2.sr hrp (by rw [List.length_append, List.length_append, List.length_append, sub_len (Nat.le_refl _)]; show _ + 1 + _ ≤ _; omega) i2 j2 ne2 w2 hq
        clear hq q0 r9 i2 j2 ne2 w2 Y2
        have B3 := Y3
        obtain ⟨br3, cr3, bp3, cp3, i3, j3, ne3, w3⟩ := B3
        refine ⟨am_nt0, ?_⟩
        exact g_return dc_A_foldPath_207 rfl ⟨rfl, by rw [hns, show nty (Ss, b) = Ss.flatten ++ [47] from by unfold nty; rw [if_pos hc173]]; have q := Y3; rw [show by8 47 = 47 from rfl, List.append_assoc Z] at q; exact q⟩
end AFQ
