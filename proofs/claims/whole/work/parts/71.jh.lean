/-! ===== the class's joinHost ===== -/
def zB (v : Int32) : Bool := decide (v = 48)
def cpf (L : List Int32) (f t : Nat) : Nat := Nat.min (fw (nev 58) L f (hst L f t) + 1) (hst L f t)
/-- the host with its port, as the class makes it -/
def cho (L : List Int32) (f t : Nat) : Option (List Int32) := if isHo L f (fw (nev 58) L f (hst L f t)) = true then (match prt L (cpf L f t) (hst L f t) with | none => none | some q => some ((sub L f (fw (nev 58) L f (hst L f t))).map toLo ++ (if q = 80 then [] else 58 :: sub L (fw zB L (cpf L f t) (hst L f t - 1)) (hst L f t)))) else none
theorem prt_80 {L : List Int32} {f t : Nat} (h : f = t) : prt L f t = some 80 := by
  subst h
  unfold prt
  rw [if_neg (by omega), if_pos (alp_iff.mpr (fun j a b => absurd b (by omega))), if_pos rfl]
theorem prt_b {L : List Int32} {f t : Nat} : ∀ k, prt L f t = some k → k < 2 ^ 31 := fun k h => by
  unfold prt at h
  split at h
  · cases h
  · split at h
    · split at h
      · cases h; decide
      · split at h
        · cases h
        · cases h; omega
    · cases h
theorem cb_h7 : cb 3 = h7 := rfl
section AJH
variable {X : am_X} {d a r p c s br cr bp cp f t : Nat} {h0 h1 : List va_E} {L P R0 P0 : List Int32}
theorem v_A_joinHost {Q : Option Value → List va_E → Prop} {e co port : Nat} {h : List va_E} (hx : tt h c s L) (he : e ≤ L.length) (he1 : 1 ≤ e) : ∀ n i : Nat, i + n = (e - 1) → am_G X mt_A_joinHost (d + 5) 98 [some (.ref a), some (.ref c), some (.int (nI (s + f))), some (.int (nI (s + t))), some (.int (nI (s + e))), some (.int (nI (s + co))), some (.int (nI (s + (fw zB L i (e - 1))))), some (.int (nI port))] [] h Q → am_G X mt_A_joinHost (d + 5) 98 [some (.ref a), some (.ref c), some (.int (nI (s + f))), some (.int (nI (s + t))), some (.int (nI (s + e))), some (.int (nI (s + co))), some (.int (nI (s + i))), some (.int (nI port))] [] h Q
  | 0, i, e9, K => by
    have e1 : fw zB L i (e - 1) = i := fw_0 (by omega)
    rw [e1] at K
    exact K
  | n + 1, i, e9, K => by
    by_cases hp : zB (gx L i) = true
    · rw [fw_t (by omega) hp] at K
      have hx0 := hx
      obtain ⟨cap, g, ha, hT, hs, hc⟩ := hx
      refine g_iload (pc := 98) dc_A_joinHost_98 rfl ?_
      refine g_iload (pc := 100) dc_A_joinHost_100 rfl ?_
      refine g_iconst (pc := 102) (v := 1) dc_A_joinHost_102 rfl ?_
      refine g_isub (pc := 103) (v := (nI (s + (e - 1)))) dc_A_joinHost_103 (q_sn (s := s) (a := e) (b := 1) (by omega)) ?_
      refine q_icmp_ge (pc := 104) (tgt := 122) (s + i) (s + (e - 1)) dc_A_joinHost_104 (by omega) (by omega) rfl (fun hc => absurd hc (by omega)) (fun hc104 => ?_)
      refine g_aload_n (pc := 107) dc_A_joinHost_107 rfl ?_
      refine g_iload (pc := 108) dc_A_joinHost_108 rfl ?_
      refine q_tx (pc := 110) i dc_A_joinHost_110 ha hT hs (by omega) hc ?_
      refine g_bipush (pc := 111) (v := 48) dc_A_joinHost_111 rfl ?_
      refine g_icmp_ne (pc := 113) (tgt := 122) dc_A_joinHost_113 rfl (fun hc113 => ?_) (fun hc113 => ?_)
      · exact absurd hp (by simp [zB, hc104, hc113])
      · refine g_iinc (pc := 116) (v := (nI (s + (i + 1)))) dc_A_joinHost_116 rfl (q_as s i 1) (by decide) ?_
        show am_G X mt_A_joinHost _ 119 [some (.ref a), some (.ref c), some (.int (nI (s + f))), some (.int (nI (s + t))), some (.int (nI (s + e))), some (.int (nI (s + co))), some (.int (nI (s + (i + 1)))), some (.int (nI port))] [] _ _
        refine g_goto (pc := 119) (tgt := 98) dc_A_joinHost_119 rfl ?_
        exact v_A_joinHost hx0 he he1 n (i + 1) (by omega) K
    · rw [fw_f hp] at K
      exact K
theorem c_A_joinHost (hAr : h0[a]? = some (.inr (2, [.ref r, .ref p]))) (z1 : isB h0 r br cr R0) (z2 : isB h0 p bp cp P0) (hrp : r ≠ p) (Y1 : A2 h0 h1 r br cr p bp cp [] P) (hx : ttb h0 c s L) (hcr : c ≠ br) (hcp : c ≠ bp) (hft : f ≤ t) (ht : t ≤ L.length) (hL8 : L.length ≤ 8000) : am_C X mt_A_joinHost (d + 5) [.ref a, .ref c, .int (nI (s + f)), .int (nI (s + t))] h1 (fun r9 h9 => match cho L f t with | some H => r9 = some (.int (nI (s + hst L f t))) ∧ A2 h0 h9 r br cr p bp cp (h7 ++ H) P | none => r9 = some (.int (-1)) ∧ h9 = h1) := by
  show am_G X mt_A_joinHost (d + 5) 0 [some (.ref a), some (.ref c), some (.int (nI (s + f))), some (.int (nI (s + t))), none, none, none, none] [] h1 _
  have ka1 : a ≠ r := fun e => by rw [e, z1.ha] at hAr; cases hAr
  have ka3 : a ≠ p := fun e => by rw [e, z2.ha] at hAr; cases hAr
  have ka2 : a ≠ br := fun e => by obtain ⟨g, q1, q2, -⟩ := z1; rw [e, q2] at hAr; cases hAr
  have ka4 : a ≠ bp := fun e => by obtain ⟨g, q1, q2, -⟩ := z2; rw [e, q2] at hAr; cases hAr
  have B1 := Y1
  obtain ⟨br1, cr1, bp1, cp1, i1, j1, ne1, w1⟩ := B1
  have hsb := hst_bd (L := L) hft
  have hcb := fw_bd (p := nev 58) (L := L) (f := f) (t := hst L f t) hsb.1
  have hmb := nmin_bd (fw (nev 58) L f (hst L f t) + 1) (hst L f t)
  rw [show Nat.min (fw (nev 58) L f (hst L f t) + 1) (hst L f t) = cpf L f t from rfl] at hmb
  have hfb1 := fw_bd (p := nev 47) (L := L) hft
  have hfb2 := fw_bd (p := nev 63) (L := L) hft
  have hbs : s + L.length < 2 ^ 30 := by obtain ⟨cq, g, -, -, q1, q2⟩ := hx.tt; omega
  refine g_aload_n (pc := 0) dc_A_joinHost_0 rfl ?_
  refine g_bipush (pc := 1) (v := 47) dc_A_joinHost_1 rfl ?_
  refine g_iload_n (pc := 3) dc_A_joinHost_3 rfl ?_
  refine g_iload_n (pc := 4) dc_A_joinHost_4 rfl ?_
  refine g_s4 (pc := 5) (M' := mt_W_indexOf) dc_A_joinHost_5 mo_W_indexOf st_W_indexOf ln_A_33 (Nat.le_of_ble_eq_true rfl) (Nat.le_of_ble_eq_true rfl) (am_G.mono (t_W_indexOf (v := 47) (f := f) (t := t) (Y1.tx hx hcr hcp z1 z2).tt (by omega) (by omega)) ?_)
  intro r h1 hq
  rw [hq.1, hq.2]
  clear hq h1 r
  refine ⟨am_nti _, ?_⟩
  have hb5 := fw_bd (p := nev 47) (L := L) (f := f) (t := t) (by omega)
  refine g_aload_n (pc := 8) dc_A_joinHost_8 rfl ?_
  refine g_bipush (pc := 9) (v := 63) dc_A_joinHost_9 rfl ?_
  refine g_iload_n (pc := 11) dc_A_joinHost_11 rfl ?_
  refine g_iload_n (pc := 12) dc_A_joinHost_12 rfl ?_
  refine g_s4 (pc := 13) (M' := mt_W_indexOf) dc_A_joinHost_13 mo_W_indexOf st_W_indexOf ln_A_33 (Nat.le_of_ble_eq_true rfl) (Nat.le_of_ble_eq_true rfl) (am_G.mono (t_W_indexOf (v := 63) (f := f) (t := t) (Y1.tx hx hcr hcp z1 z2).tt (by omega) (by omega)) ?_)
  intro r h1 hq
  rw [hq.1, hq.2]
  clear hq h1 r
  refine ⟨am_nti _, ?_⟩
  have hb13 := fw_bd (p := nev 63) (L := L) (f := f) (t := t) (by omega)
  refine g_s2 (pc := 16) (M' := mt_JMath_min) dc_A_joinHost_16 mo_JMath_min st_JMath_min ln_A_41 (Nat.le_of_ble_eq_true rfl) (Nat.le_of_ble_eq_true rfl) (am_G.mono (t_min (s := s) (x := fw (nev 47) L f t) (y := fw (nev 63) L f t) (by omega) (by omega)) ?_)
  intro r h1 hq
  rw [hq.1, hq.2]
  clear hq h1 r
  refine ⟨am_nti _, ?_⟩
  refine g_istore (pc := 19) dc_A_joinHost_19 (by decide) ?_
  show am_G X mt_A_joinHost _ 21 [some (.ref a), some (.ref c), some (.int (nI (s + f))), some (.int (nI (s + t))), some (.int (nI (s + (hst L f t)))), none, none, none] [] _ _
  refine g_aload_n (pc := 21) dc_A_joinHost_21 rfl ?_
  refine g_bipush (pc := 22) (v := 58) dc_A_joinHost_22 rfl ?_
  refine g_iload_n (pc := 24) dc_A_joinHost_24 rfl ?_
  refine g_iload (pc := 25) dc_A_joinHost_25 rfl ?_
  refine g_s4 (pc := 27) (M' := mt_W_indexOf) dc_A_joinHost_27 mo_W_indexOf st_W_indexOf ln_A_33 (Nat.le_of_ble_eq_true rfl) (Nat.le_of_ble_eq_true rfl) (am_G.mono (t_W_indexOf (v := 58) (f := f) (t := hst L f t) (Y1.tx hx hcr hcp z1 z2).tt (by omega) (by omega)) ?_)
  intro r h1 hq
  rw [hq.1, hq.2]
  clear hq h1 r
  refine ⟨am_nti _, ?_⟩
  have hb27 := fw_bd (p := nev 58) (L := L) (f := f) (t := hst L f t) (by omega)
  refine g_istore (pc := 30) dc_A_joinHost_30 (by decide) ?_
  show am_G X mt_A_joinHost _ 32 [some (.ref a), some (.ref c), some (.int (nI (s + f))), some (.int (nI (s + t))), some (.int (nI (s + (hst L f t)))), some (.int (nI (s + (fw (nev 58) L f (hst L f t))))), none, none] [] _ _
  refine g_iload (pc := 32) dc_A_joinHost_32 rfl ?_
  refine g_iconst (pc := 34) (v := 1) dc_A_joinHost_34 rfl ?_
  refine g_iadd (pc := 35) (v := (nI (s + (fw (nev 58) L f (hst L f t) + 1)))) dc_A_joinHost_35 (q_as s (fw (nev 58) L f (hst L f t)) 1) ?_
  refine g_iload (pc := 36) dc_A_joinHost_36 rfl ?_
  refine g_s2 (pc := 38) (M' := mt_JMath_min) dc_A_joinHost_38 mo_JMath_min st_JMath_min ln_A_41 (Nat.le_of_ble_eq_true rfl) (Nat.le_of_ble_eq_true rfl) (am_G.mono (t_min (s := s) (x := fw (nev 58) L f (hst L f t) + 1) (y := hst L f t) (by omega) (by omega)) ?_)
  intro r h1 hq
  rw [hq.1, hq.2]
  clear hq h1 r
  refine ⟨am_nti _, ?_⟩
  refine g_istore (pc := 41) dc_A_joinHost_41 (by decide) ?_
  show am_G X mt_A_joinHost _ 43 [some (.ref a), some (.ref c), some (.int (nI (s + f))), some (.int (nI (s + t))), some (.int (nI (s + (hst L f t)))), some (.int (nI (s + (fw (nev 58) L f (hst L f t))))), some (.int (nI (s + (cpf L f t)))), none] [] _ _
  refine g_aload_n (pc := 43) dc_A_joinHost_43 rfl ?_
  refine g_iload (pc := 44) dc_A_joinHost_44 rfl ?_
  refine g_iload (pc := 46) dc_A_joinHost_46 rfl ?_
  refine g_s3 (pc := 48) (M' := mt_A_portOf) dc_A_joinHost_48 mo_A_portOf st_A_portOf ln_A_86 (Nat.le_of_ble_eq_true rfl) (Nat.le_of_ble_eq_true rfl) (am_G.mono (t_A_portOf (f := cpf L f t) (t := hst L f t) (Y1.tx hx hcr hcp z1 z2).tt (by omega) (by omega)) ?_)
  intro r h1 hq
  rw [hq.1, hq.2]
  clear hq h1 r
  refine ⟨am_nti _, ?_⟩
  refine g_istore (pc := 51) dc_A_joinHost_51 (by decide) ?_
  show am_G X mt_A_joinHost _ 53 [some (.ref a), some (.ref c), some (.int (nI (s + f))), some (.int (nI (s + t))), some (.int (nI (s + (hst L f t)))), some (.int (nI (s + (fw (nev 58) L f (hst L f t))))), some (.int (nI (s + (cpf L f t)))), some (.int (er (prt L (cpf L f t) (hst L f t))))] [] _ _
  refine g_aload_n (pc := 53) dc_A_joinHost_53 rfl ?_
  refine g_iload_n (pc := 54) dc_A_joinHost_54 rfl ?_
  refine g_iload (pc := 55) dc_A_joinHost_55 rfl ?_
  refine g_s3 (pc := 57) (M' := mt_A_isHost) dc_A_joinHost_57 mo_A_isHost st_A_isHost ln_A_89 (Nat.le_of_ble_eq_true rfl) (Nat.le_of_ble_eq_true rfl) (am_G.mono (t_A_isHost (f := f) (t := fw (nev 58) L f (hst L f t)) (Y1.tx hx hcr hcp z1 z2).tt (by omega) (by omega)) ?_)
  intro r h1 hq
  rw [hq.1, hq.2]
  clear hq h1 r
  refine ⟨am_nti _, ?_⟩
  refine q_ifb_eq (pc := 60) (tgt := 69) dc_A_joinHost_60 rfl (fun hc60 => ?_) (fun hc60 => ?_)
  · refine g_iconst (pc := 69) (v := (-1)) dc_A_joinHost_69 rfl ?_
    exact g_ireturn dc_A_joinHost_70 rfl (by rw [show cho L f t = none from by unfold cho; rw [if_neg (by rw [hc60]; decide)]]; exact ⟨rfl, rfl⟩)
  · refine g_iload (pc := 63) dc_A_joinHost_63 rfl ?_
    refine g_iconst (pc := 65) (v := (-1)) dc_A_joinHost_65 rfl ?_
    refine q_o_ne (pc := 66) (tgt := 71) dc_A_joinHost_66 prt_b rfl (fun k66 hc66 => ?_) (fun hc66 => ?_)
    · rw [hc66]
      rw [show er (some k66) = nI k66 from rfl]
      have hk66 := prt_b k66 hc66
      refine g_aload_n (pc := 71) dc_A_joinHost_71 rfl ?_
      refine g_getfield (pc := 72) dc_A_joinHost_72 fl_A_14 (Y1.kp hAr ka1 ka2 ka3 ka4) rfl ?_
      refine g_ldcS (pc := 75) 3 dc_A_joinHost_75 (by decide) rfl rfl ?_
      refine g_v1 (pc := 77) (M' := mt_B_putText) dc_A_joinHost_77 mo_B_putText im_B_putText se_B_putText ln_A_94 i1.ha rfl rfl (Nat.le_of_ble_eq_true rfl) (Nat.le_of_ble_eq_true rfl) (am_G.mono (c_B_putText (d := d) (i := 3) (by decide) i1 (by show ([] : List Int32).length < 900000; decide)) ?_)
      intro r9 h2 hq
      obtain ⟨q0, hq⟩ := hq
      rw [q0]
      have Y2 : A2 h0 h2 r br cr p bp cp ([] ++ cb 3) (P) := A2.sr hrp (by rw [cb_h7]; decide) i1 j1 ne1 w1 hq
      clear hq q0 r9 i1 j1 ne1 w1 Y1
      have B2 := Y2
      obtain ⟨br2, cr2, bp2, cp2, i2, j2, ne2, w2⟩ := B2
      refine ⟨am_nt0, ?_⟩
      refine g_aload_n (pc := 80) dc_A_joinHost_80 rfl ?_
      refine g_getfield (pc := 81) dc_A_joinHost_81 fl_A_14 (Y2.kp hAr ka1 ka2 ka3 ka4) rfl ?_
      refine g_aload_n (pc := 84) dc_A_joinHost_84 rfl ?_
      refine g_iload_n (pc := 85) dc_A_joinHost_85 rfl ?_
      refine g_iload (pc := 86) dc_A_joinHost_86 rfl ?_
      have bc2 : br2 ≠ c := w2.nr hx.lt hcr
      refine g_v3 (pc := 88) (M' := mt_B_putLower) dc_A_joinHost_88 mo_B_putLower im_B_putLower se_B_putLower ln_A_98 i2.ha rfl rfl (Nat.le_of_ble_eq_true rfl) (Nat.le_of_ble_eq_true rfl) (am_G.mono (x_B_putLower (d := d + 1) (f := f) (t := fw (nev 58) L f (hst L f t)) i2 (Y2.tx hx hcr hcp z1 z2) (bc2) (by omega) (by omega) (by rw [cb_h7]; show 7 + _ < _; omega)) ?_)
      intro r9 h3 hq
      obtain ⟨q0, hq⟩ := hq
      rw [q0]
      have Y3 : A2 h0 h3 r br cr p bp cp ([] ++ cb 3 ++ (sub L f (fw (nev 58) L f (hst L f t))).map toLo) (P) := A2.sr hrp (by rw [cb_h7, List.length_append, List.length_map, sub_len (by omega)]; show 7 + _ ≤ _; omega) i2 j2 ne2 w2 hq
      clear hq q0 r9 i2 j2 ne2 w2 Y2
      have B3 := Y3
      obtain ⟨br3, cr3, bp3, cp3, i3, j3, ne3, w3⟩ := B3
      refine ⟨am_nt0, ?_⟩
      refine g_iload (pc := 91) dc_A_joinHost_91 rfl ?_
      refine g_bipush (pc := 93) (v := 80) dc_A_joinHost_93 rfl ?_
      refine q_icmp_eq (pc := 95) (tgt := 143) k66 80 dc_A_joinHost_95 (by omega) (by omega) rfl (fun hc95 => ?_) (fun hc95 => ?_)
      · refine g_iload (pc := 143) dc_A_joinHost_143 rfl ?_
        exact g_ireturn dc_A_joinHost_145 rfl (by rw [show cho L f t = some ((sub L f (fw (nev 58) L f (hst L f t))).map toLo) from by unfold cho; rw [if_pos hc60, hc66]; show some (_ ++ (if k66 = 80 then [] else _)) = _; rw [if_pos hc95, List.append_nil]]; exact ⟨rfl, by have q := Y3; rw [List.nil_append, cb_h7] at q; exact q⟩)
      · have hpf : cpf L f t < hst L f t := by
          rcases Nat.eq_or_lt_of_le hmb.2.1 with e9 | e9
          · rw [prt_80 e9] at hc66; cases hc66; exact absurd rfl hc95
          · exact e9
        have hzb := fw_bd (p := zB) (L := L) (f := cpf L f t) (t := hst L f t - 1) (by omega)
        have hzo := fw_out (p := zB) (L := L) (f := cpf L f t) (t := hst L f t - 1)
        refine v_A_joinHost (Y3.tx hx hcr hcp z1 z2).tt (by omega) (by omega) (hst L f t - 1 - cpf L f t) (cpf L f t) (by omega) ?_
        have ha9 := (Y3.tx hx hcr hcp z1 z2).tt
        obtain ⟨cap, g, ha, hT, hs, hc⟩ := ha9
        refine g_iload (pc := 98) dc_A_joinHost_98 rfl ?_
        refine g_iload (pc := 100) dc_A_joinHost_100 rfl ?_
        refine g_iconst (pc := 102) (v := 1) dc_A_joinHost_102 rfl ?_
        refine g_isub (pc := 103) (v := (nI (s + (hst L f t - 1)))) dc_A_joinHost_103 (q_sn (s := s) (a := hst L f t) (b := 1) (by omega)) ?_
        refine q_icmp_ge (pc := 104) (tgt := 122) (s + (fw zB L (cpf L f t) (hst L f t - 1))) (s + (hst L f t - 1)) dc_A_joinHost_104 (by omega) (by omega) rfl (fun hc104 => ?_) (fun hc104 => ?_)
        · refine g_aload_n (pc := 122) dc_A_joinHost_122 rfl ?_
          refine g_getfield (pc := 123) dc_A_joinHost_123 fl_A_14 (Y3.kp hAr ka1 ka2 ka3 ka4) rfl ?_
          refine g_bipush (pc := 126) (v := 58) dc_A_joinHost_126 rfl ?_
          refine g_v1 (pc := 128) (M' := mt_B_put) dc_A_joinHost_128 mo_B_put im_B_put se_B_put ln_A_101 i3.ha rfl rfl (Nat.le_of_ble_eq_true rfl) (Nat.le_of_ble_eq_true rfl) (am_G.mono (c_B_put (d := d + 2) (v := 58) i3 (by rw [cb_h7, List.length_append, List.length_map, sub_len (by omega)]; show 7 + _ < _; omega)) ?_)
          intro r9 h4 hq
          obtain ⟨q0, hq⟩ := hq
          rw [q0]
          have Y4 : A2 h0 h4 r br cr p bp cp ([] ++ cb 3 ++ (sub L f (fw (nev 58) L f (hst L f t))).map toLo ++ [by8 58]) (P) := A2.sr hrp (by rw [cb_h7, List.length_append, List.length_append, List.length_map, sub_len (by omega)]; show 7 + _ + 1 ≤ _; omega) i3 j3 ne3 w3 hq
          clear hq q0 r9 i3 j3 ne3 w3 Y3
          have B4 := Y4
          obtain ⟨br4, cr4, bp4, cp4, i4, j4, ne4, w4⟩ := B4
          refine ⟨am_nt0, ?_⟩
          refine g_aload_n (pc := 131) dc_A_joinHost_131 rfl ?_
          refine g_getfield (pc := 132) dc_A_joinHost_132 fl_A_14 (Y4.kp hAr ka1 ka2 ka3 ka4) rfl ?_
          refine g_aload_n (pc := 135) dc_A_joinHost_135 rfl ?_
          refine g_iload (pc := 136) dc_A_joinHost_136 rfl ?_
          refine g_iload (pc := 138) dc_A_joinHost_138 rfl ?_
          have bc4 : br4 ≠ c := w4.nr hx.lt hcr
          refine g_v3 (pc := 140) (M' := mt_B_putAll) dc_A_joinHost_140 mo_B_putAll im_B_putAll se_B_putAll ln_A_104 i4.ha rfl rfl (Nat.le_of_ble_eq_true rfl) (Nat.le_of_ble_eq_true rfl) (am_G.mono (x_B_putAll (d := d + 2) (f := fw zB L (cpf L f t) (hst L f t - 1)) (t := hst L f t) i4 (Y4.tx hx hcr hcp z1 z2) (bc4) (by omega) (by omega) (by rw [cb_h7, List.length_append, List.length_append, List.length_map, sub_len (by omega)]; show 7 + _ + 1 + _ < _; omega)) ?_)
          intro r9 h5 hq
          obtain ⟨q0, hq⟩ := hq
          rw [q0]
          have Y5 : A2 h0 h5 r br cr p bp cp ([] ++ cb 3 ++ (sub L f (fw (nev 58) L f (hst L f t))).map toLo ++ [by8 58] ++ sub L (fw zB L (cpf L f t) (hst L f t - 1)) (hst L f t)) (P) := A2.sr hrp (by rw [cb_h7, List.length_append, List.length_append, List.length_append, List.length_map, sub_len (by omega), sub_len (by omega)]; show 7 + _ + 1 + _ ≤ _; omega) i4 j4 ne4 w4 hq
          clear hq q0 r9 i4 j4 ne4 w4 Y4
          have B5 := Y5
          obtain ⟨br5, cr5, bp5, cp5, i5, j5, ne5, w5⟩ := B5
          refine ⟨am_nt0, ?_⟩
          refine g_iload (pc := 143) dc_A_joinHost_143 rfl ?_
          exact g_ireturn dc_A_joinHost_145 rfl (by rw [show cho L f t = some ((sub L f (fw (nev 58) L f (hst L f t))).map toLo ++ (58 :: sub L (fw zB L (cpf L f t) (hst L f t - 1)) (hst L f t))) from by unfold cho; rw [if_pos hc60, hc66]; show some (_ ++ (if k66 = 80 then [] else _)) = _; rw [if_neg hc95]]; exact ⟨rfl, by have q := Y5; rw [List.nil_append, cb_h7, show by8 58 = 58 from rfl, List.append_assoc, List.append_assoc] at q; exact q⟩)
        · refine g_aload_n (pc := 107) dc_A_joinHost_107 rfl ?_
          refine g_iload (pc := 108) dc_A_joinHost_108 rfl ?_
          refine q_tx (pc := 110) (fw zB L (cpf L f t) (hst L f t - 1)) dc_A_joinHost_110 ha hT hs (by omega) hc ?_
          refine g_bipush (pc := 111) (v := 48) dc_A_joinHost_111 rfl ?_
          refine g_icmp_ne (pc := 113) (tgt := 122) dc_A_joinHost_113 rfl (fun hc113 => ?_) (fun hc => absurd hc (fun h9 => by have q1 := hzo (by omega); rw [show zB (gx L (fw zB L (cpf L f t) (hst L f t - 1))) = true from decide_eq_true h9] at q1; cases q1))
          refine g_aload_n (pc := 122) dc_A_joinHost_122 rfl ?_
          refine g_getfield (pc := 123) dc_A_joinHost_123 fl_A_14 (Y3.kp hAr ka1 ka2 ka3 ka4) rfl ?_
          refine g_bipush (pc := 126) (v := 58) dc_A_joinHost_126 rfl ?_
          refine g_v1 (pc := 128) (M' := mt_B_put) dc_A_joinHost_128 mo_B_put im_B_put se_B_put ln_A_101 i3.ha rfl rfl (Nat.le_of_ble_eq_true rfl) (Nat.le_of_ble_eq_true rfl) (am_G.mono (c_B_put (d := d + 2) (v := 58) i3 (by rw [cb_h7, List.length_append, List.length_map, sub_len (by omega)]; show 7 + _ < _; omega)) ?_)
          intro r9 h4 hq
          obtain ⟨q0, hq⟩ := hq
          rw [q0]
          have Y4 : A2 h0 h4 r br cr p bp cp ([] ++ cb 3 ++ (sub L f (fw (nev 58) L f (hst L f t))).map toLo ++ [by8 58]) (P) := A2.sr hrp (by rw [cb_h7, List.length_append, List.length_append, List.length_map, sub_len (by omega)]; show 7 + _ + 1 ≤ _; omega) i3 j3 ne3 w3 hq
          clear hq q0 r9 i3 j3 ne3 w3 Y3
          have B4 := Y4
          obtain ⟨br4, cr4, bp4, cp4, i4, j4, ne4, w4⟩ := B4
          refine ⟨am_nt0, ?_⟩
          refine g_aload_n (pc := 131) dc_A_joinHost_131 rfl ?_
          refine g_getfield (pc := 132) dc_A_joinHost_132 fl_A_14 (Y4.kp hAr ka1 ka2 ka3 ka4) rfl ?_
          refine g_aload_n (pc := 135) dc_A_joinHost_135 rfl ?_
          refine g_iload (pc := 136) dc_A_joinHost_136 rfl ?_
          refine g_iload (pc := 138) dc_A_joinHost_138 rfl ?_
          have bc4 : br4 ≠ c := w4.nr hx.lt hcr
          refine g_v3 (pc := 140) (M' := mt_B_putAll) dc_A_joinHost_140 mo_B_putAll im_B_putAll se_B_putAll ln_A_104 i4.ha rfl rfl (Nat.le_of_ble_eq_true rfl) (Nat.le_of_ble_eq_true rfl) (am_G.mono (x_B_putAll (d := d + 2) (f := fw zB L (cpf L f t) (hst L f t - 1)) (t := hst L f t) i4 (Y4.tx hx hcr hcp z1 z2) (bc4) (by omega) (by omega) (by rw [cb_h7, List.length_append, List.length_append, List.length_map, sub_len (by omega)]; show 7 + _ + 1 + _ < _; omega)) ?_)
          intro r9 h5 hq
          obtain ⟨q0, hq⟩ := hq
          rw [q0]
          have Y5 : A2 h0 h5 r br cr p bp cp ([] ++ cb 3 ++ (sub L f (fw (nev 58) L f (hst L f t))).map toLo ++ [by8 58] ++ sub L (fw zB L (cpf L f t) (hst L f t - 1)) (hst L f t)) (P) := A2.sr hrp (by rw [cb_h7, List.length_append, List.length_append, List.length_append, List.length_map, sub_len (by omega), sub_len (by omega)]; show 7 + _ + 1 + _ ≤ _; omega) i4 j4 ne4 w4 hq
          clear hq q0 r9 i4 j4 ne4 w4 Y4
          have B5 := Y5
          obtain ⟨br5, cr5, bp5, cp5, i5, j5, ne5, w5⟩ := B5
          refine ⟨am_nt0, ?_⟩
          refine g_iload (pc := 143) dc_A_joinHost_143 rfl ?_
          exact g_ireturn dc_A_joinHost_145 rfl (by rw [show cho L f t = some ((sub L f (fw (nev 58) L f (hst L f t))).map toLo ++ (58 :: sub L (fw zB L (cpf L f t) (hst L f t - 1)) (hst L f t))) from by unfold cho; rw [if_pos hc60, hc66]; show some (_ ++ (if k66 = 80 then [] else _)) = _; rw [if_neg hc95]]; exact ⟨rfl, by have q := Y5; rw [List.nil_append, cb_h7, show by8 58 = 58 from rfl, List.append_assoc, List.append_assoc] at q; exact q⟩)
    · rw [hc66]
      refine g_iconst (pc := 69) (v := (-1)) dc_A_joinHost_69 rfl ?_
      exact g_ireturn dc_A_joinHost_70 rfl (by rw [show cho L f t = none from by unfold cho; rw [if_pos hc60, hc66]]; exact ⟨rfl, rfl⟩)
end AJH
