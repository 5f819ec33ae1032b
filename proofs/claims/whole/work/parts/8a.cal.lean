/-! ===== the class judges by a site's rules ===== -/
def lgs (D : List Int32) (lo : Option Nat) (P : List Int32) : Option Nat := match lo with
  | none => if mch D P = true then some P.length else none
  | some l => if l < P.length ∧ mch D P = true then some P.length else some l
def lgm (D : List Int32) (T : List (List Int32)) : Option Nat := T.foldl (lgs D) none
def lgv (o : Option Nat) : Nat := match o with
  | none => 0
  | some l => l + 1
/-- by these rules the address is allowed -/
def alw (D : List Int32) (A Dd : List (List Int32)) : Bool := decide (lgv (lgm D Dd) ≤ lgv (lgm D A))
theorem er_lt {x y : Option Nat} (hx : ∀ k, x = some k → k < 2 ^ 30) (hy : ∀ k, y = some k → k < 2 ^ 30) : er x < er y ↔ lgv x < lgv y := by
  have m1 : ((-1 : Int32)).toInt = -1 := by decide
  rw [Int32.lt_iff_toInt_lt]
  cases x with
  | none =>
    cases y with
    | none => show (-1 : Int32).toInt < (-1 : Int32).toInt ↔ 0 < 0; rw [m1]; omega
    | some l =>
      have := hy l rfl
      show (-1 : Int32).toInt < (nI l).toInt ↔ 0 < l + 1
      rw [m1, nI_toInt (by omega)]; omega
  | some k =>
    have := hx k rfl
    cases y with
    | none => show (nI k).toInt < (-1 : Int32).toInt ↔ k + 1 < 0; rw [m1, nI_toInt (by omega)]; omega
    | some l =>
      have := hy l rfl
      show (nI k).toInt < (nI l).toInt ↔ k + 1 < l + 1
      rw [nI_toInt (by omega), nI_toInt (by omega)]; omega
section CAL
variable {X : am_X} {d aa b ra ab rb cap e ecap k i j : Nat} {h : List va_E} {D : List Int32} {T : List (List Int32)} {w : Gw}
theorem c_T_matches (hR : isR h ra ab rb cap e ecap T []) (hk : k < T.length) (hP1 : 1 ≤ (gT T k).length) (ha : h[aa]? = some (.inr (1, [.ref b, .int (nI D.length)]))) (hy : tt h b 0 D) (ho : okD D) : am_C X mt_T_matches (d + 3) [.ref ra, .int (nI k), .ref aa] h (fun r h1 => r = some (.int (b1 (mch D (gT T k)))) ∧ h1 = h) := by
  show am_G X mt_T_matches (d + 3) 0 [some (.ref ra), some (.int (nI k)), some (.ref aa), none, none, none, none, none, none, none, none, none] [] h _
  rw [← gmt_eq (Nat.le_of_lt ho.2.2.1) hP1]
  have hx := hR.tt hk
  have hkc : k < 33554432 := by obtain ⟨-, -, gE, -, -, z1, z2⟩ := hR; omega
  have hF := c_R_from (X := X) (d := d + 2) hR (Nat.le_of_lt hk)
  have hTo := c_R_to (X := X) (d := d + 2) hR hk
  rw [ofs_s hk] at hTo
  have hb1 := hR.2.1.ha
  have hD7 : 7 ≤ D.length ∧ D.length ≤ 200 ∧ hen D ≤ D.length := ⟨by have := ho.2.1; have := ho.2.2.1; omega, ho.2.2.2.2.1, Nat.le_of_lt ho.2.2.1⟩
  have hSt := t_siteTo (X := X) (d := d) (t := D.length) hy hD7.1 (Nat.le_refl _)
  rw [show fw (nev 47) D 7 D.length = hen D from rfl] at hSt
  generalize gT T k = P at *
  generalize ofs T k = s at *
  have hx0 := hx
  obtain ⟨cp, g, hpa, hT, hs, hc⟩ := hx0
  have hptb : ppt P ≤ pto P := (fw_bd (p := nev 42) (L := P) (f := 0) (t := pto P) (Nat.zero_le _)).2
  have hptl : pto P ≤ P.length := by unfold pto; split <;> omega
  refine g_aload_n (pc := 0) dc_T_matches_0 rfl ?_
  refine g_getfield (pc := 1) dc_T_matches_1 fl_T_77 hR.1 rfl ?_
  refine g_getfield (pc := 4) dc_T_matches_4 fl_T_102 hb1 rfl ?_
  refine g_astore_n (pc := 7) dc_T_matches_7 (by decide) ?_
  show am_G X mt_T_matches _ 8 [some (.ref ra), some (.int (nI k)), some (.ref aa), some (.ref rb), none, none, none, none, none, none, none, none] [] _ _
  refine g_aload_n (pc := 8) dc_T_matches_8 rfl ?_
  refine g_iload_n (pc := 9) dc_T_matches_9 rfl ?_
  refine g_v1 (pc := 10) (M' := mt_R_from) dc_T_matches_10 mo_R_from im_R_from se_R_from ln_T_95 hR.1 rfl rfl (Nat.le_of_ble_eq_true rfl) (Nat.le_of_ble_eq_true rfl) (am_G.mono hF ?_)
  intro r h1 hq
  rw [hq.1, hq.2]
  clear hq h1 r
  refine ⟨am_nti _, ?_⟩
  refine g_istore (pc := 13) dc_T_matches_13 (by decide) ?_
  show am_G X mt_T_matches _ 15 [some (.ref ra), some (.int (nI k)), some (.ref aa), some (.ref rb), some (.int (nI s)), none, none, none, none, none, none, none] [] _ _
  refine g_aload_n (pc := 15) dc_T_matches_15 rfl ?_
  refine g_aload_n (pc := 16) dc_T_matches_16 rfl ?_
  refine g_iload_n (pc := 17) dc_T_matches_17 rfl ?_
  refine g_v1 (pc := 18) (M' := mt_R_to) dc_T_matches_18 mo_R_to im_R_to se_R_to ln_T_91 hR.1 rfl rfl (Nat.le_of_ble_eq_true rfl) (Nat.le_of_ble_eq_true rfl) (am_G.mono hTo ?_)
  intro r h1 hq
  rw [hq.1, hq.2]
  clear hq h1 r
  refine ⟨am_nti _, ?_⟩
  refine g_iconst (pc := 21) (v := 1) dc_T_matches_21 rfl ?_
  refine g_isub (pc := 22) (v := (nI (s + (P.length - 1)))) dc_T_matches_22 (q_sn (s := s) (a := P.length) (b := 1) (by omega)) ?_
  refine q_tx (pc := 23) (P.length - 1) dc_T_matches_23 hpa hT hs (by omega) hc ?_
  refine g_bipush (pc := 24) (v := 36) dc_T_matches_24 rfl ?_
  refine g_icmp_ne (pc := 26) (tgt := 33) dc_T_matches_26 rfl (fun hc26 => ?_) (fun hc26 => ?_)
  · refine g_iconst (pc := 33) (v := 0) dc_T_matches_33 rfl ?_
    refine g_istore (pc := 34) dc_T_matches_34 (by decide) ?_
    show am_G X mt_T_matches _ 36 [some (.ref ra), some (.int (nI k)), some (.ref aa), some (.ref rb), some (.int (nI s)), some (.int 0), none, none, none, none, none, none] [] _ _
    refine g_iload (pc := 36) dc_T_matches_36 rfl ?_
    refine g_if_eq (pc := 38) (tgt := 51) dc_T_matches_38 rfl (fun _ => ?_) (fun hc => absurd hc (by decide))
    refine g_aload_n (pc := 51) dc_T_matches_51 rfl ?_
    refine g_iload_n (pc := 52) dc_T_matches_52 rfl ?_
    refine g_v1 (pc := 53) (M' := mt_R_to) dc_T_matches_53 mo_R_to im_R_to se_R_to ln_T_91 hR.1 rfl rfl (Nat.le_of_ble_eq_true rfl) (Nat.le_of_ble_eq_true rfl) (am_G.mono hTo ?_)
    intro r h1 hq
    rw [hq.1, hq.2]
    clear hq h1 r
    refine ⟨am_nti _, ?_⟩
    refine g_istore (pc := 56) dc_T_matches_56 (by decide) ?_
    show am_G X mt_T_matches _ 58 [some (.ref ra), some (.int (nI k)), some (.ref aa), some (.ref rb), some (.int (nI s)), some (.int 0), some (.int (nI (s + P.length))), none, none, none, none, none] [] _ _
    have hte : pte P = false := decide_eq_false hc26
    have hto : pto P = P.length := if_neg (by rw [hte]; decide)
    have e9 : nI (s + P.length) = nI (s + pto P) := by rw [hto]
    rw [e9]
    refine g_aload_n (pc := 58) dc_T_matches_58 rfl ?_
    refine g_getfield (pc := 59) dc_T_matches_59 fl_T_102 ha rfl ?_
    refine g_aload_n (pc := 62) dc_T_matches_62 rfl ?_
    refine g_getfield (pc := 63) dc_T_matches_63 fl_T_106 ha rfl ?_
    refine g_s2 (pc := 66) (M' := mt_W_siteTo) dc_T_matches_66 mo_W_siteTo st_W_siteTo ln_T_109 (Nat.le_of_ble_eq_true rfl) (Nat.le_of_ble_eq_true rfl) (am_G.mono hSt ?_)
    intro r h1 hq
    rw [hq.1, hq.2]
    clear hq h1 r
    refine ⟨am_nti _, ?_⟩
    refine g_istore (pc := 69) dc_T_matches_69 (by decide) ?_
    show am_G X mt_T_matches _ 71 [some (.ref ra), some (.int (nI k)), some (.ref aa), some (.ref rb), some (.int (nI s)), some (.int 0), some (.int (nI (s + (pto P)))), some (.int (nI (hen D))), none, none, none, none] [] _ _
    refine g_aload_n (pc := 71) dc_T_matches_71 rfl ?_
    refine g_bipush (pc := 72) (v := 42) dc_T_matches_72 rfl ?_
    refine g_iload (pc := 74) dc_T_matches_74 rfl ?_
    refine g_iload (pc := 76) dc_T_matches_76 rfl ?_
    refine g_s4 (pc := 78) (M' := mt_W_indexOf) dc_T_matches_78 mo_W_indexOf st_W_indexOf ln_T_47 (Nat.le_of_ble_eq_true rfl) (Nat.le_of_ble_eq_true rfl) (am_G.mono (t_W_indexOf (v := 42) (f := 0) (t := pto P) hx (Nat.zero_le _) hptl) ?_)
    intro r h1 hq
    rw [hq.1, hq.2]
    clear hq h1 r
    refine ⟨am_nti _, ?_⟩
    rw [show fw (nev 42) P 0 (pto P) = ppt P from rfl]
    refine g_istore (pc := 81) dc_T_matches_81 (by decide) ?_
    show am_G X mt_T_matches _ 83 [some (.ref ra), some (.int (nI k)), some (.ref aa), some (.ref rb), some (.int (nI s)), some (.int 0), some (.int (nI (s + (pto P)))), some (.int (nI (hen D))), some (.int (nI (s + (ppt P)))), none, none, none] [] _ _
    refine g_aload_n (pc := 83) dc_T_matches_83 rfl ?_
    refine g_iload (pc := 84) dc_T_matches_84 rfl ?_
    refine g_iload (pc := 86) dc_T_matches_86 rfl ?_
    refine g_aload_n (pc := 88) dc_T_matches_88 rfl ?_
    refine g_iload (pc := 89) dc_T_matches_89 rfl ?_
    refine g_s5 (pc := 91) (M' := mt_T_standsAt) dc_T_matches_91 mo_T_standsAt st_T_standsAt ln_T_113 (Nat.le_of_ble_eq_true rfl) (Nat.le_of_ble_eq_true rfl) (am_G.mono (c_T_standsAt (d := d + 1) (f := 0) (t := ppt P) hx ha hy hD7.2.1 (Nat.zero_le _) (by omega) (by omega)) ?_)
    intro r h1 hq
    rw [hq.1, hq.2]
    clear hq h1 r
    refine ⟨am_nti _, ?_⟩
    refine q_ifb_ne (pc := 94) (tgt := 99) dc_T_matches_94 rfl (fun hc94 => ?_) (fun hc94 => ?_)
    · refine g_iload (pc := 99) dc_T_matches_99 rfl ?_
      refine g_iload (pc := 101) dc_T_matches_101 rfl ?_
      refine g_iload (pc := 103) dc_T_matches_103 rfl ?_
      refine g_isub (pc := 105) (v := (nI (ppt P))) dc_T_matches_105 ((q_sub (a := s + ppt P) (b := s) (by omega)).trans (congrArg nI (by omega))) ?_
      refine g_iadd (pc := 106) (v := (nI (hen D + (ppt P)))) dc_T_matches_106 (nI_add (hen D) (ppt P)) ?_
      refine g_istore (pc := 107) dc_T_matches_107 (by decide) ?_
      show am_G X mt_T_matches _ 109 [some (.ref ra), some (.int (nI k)), some (.ref aa), some (.ref rb), some (.int (nI s)), some (.int 0), some (.int (nI (s + (pto P)))), some (.int (nI (hen D + (ppt P)))), some (.int (nI (s + (ppt P)))), none, none, none] [] _ _
      refine g_iload (pc := 109) dc_T_matches_109 rfl ?_
      refine g_iload (pc := 111) dc_T_matches_111 rfl ?_
      refine q_icmp_ge (pc := 113) (tgt := 120) (s + (ppt P)) (s + (pto P)) dc_T_matches_113 (by omega) (by omega) rfl (fun hc113 => ?_) (fun hc113 => ?_)
      · refine g_iconst (pc := 120) (v := 0) dc_T_matches_120 rfl ?_
        refine g_istore (pc := 121) dc_T_matches_121 (by decide) ?_
        show am_G X mt_T_matches _ 123 [some (.ref ra), some (.int (nI k)), some (.ref aa), some (.ref rb), some (.int (nI s)), some (.int 0), some (.int (nI (s + (pto P)))), some (.int (nI (hen D + (ppt P)))), some (.int (nI (s + (ppt P)))), some (.int 0), none, none] [] _ _
        refine g_iload (pc := 123) dc_T_matches_123 rfl ?_
        refine g_iconst (pc := 125) (v := 1) dc_T_matches_125 rfl ?_
        refine g_iadd (pc := 126) (v := (nI (s + (ppt P + 1)))) dc_T_matches_126 (q_as s (ppt P) 1) ?_
        refine g_istore (pc := 127) dc_T_matches_127 (by decide) ?_
        show am_G X mt_T_matches _ 129 [some (.ref ra), some (.int (nI k)), some (.ref aa), some (.ref rb), some (.int (nI s)), some (.int 0), some (.int (nI (s + (pto P)))), some (.int (nI (hen D + (ppt P)))), some (.int (nI (s + (ppt P)))), some (.int 0), some (.int (nI (s + (ppt P + 1)))), none] [] _ _
        have hgs := of_decide_eq_true hc94
        have hG : gmt D P = gml D P (pto P) false false (P.length + 1) (hen D + ppt P) (ppt P + 1) := by unfold gmt; rw [if_pos hc94, hte, decide_eq_false (show ¬ ppt P < pto P by omega)]
        rw [hG]
        refine am_wk (am_le_n (am_le_n (am_le_s (am_le_s (am_le_n (am_le_s (am_le_s (am_le_s (am_le_n (am_le_s (am_le_s (am_le_n am_le_0)))))))))))) ?_
        exact l00_T_matches (d := d + 1) hx ha hy hD7.2.1 (by omega) (P.length + 1) (hen D + ppt P) (ppt P + 1) (by omega) (by omega) (by omega)
      · refine g_iconst (pc := 116) (v := 1) dc_T_matches_116 rfl ?_
        refine g_goto (pc := 117) (tgt := 121) dc_T_matches_117 rfl ?_
        refine g_istore (pc := 121) dc_T_matches_121 (by decide) ?_
        show am_G X mt_T_matches _ 123 [some (.ref ra), some (.int (nI k)), some (.ref aa), some (.ref rb), some (.int (nI s)), some (.int 0), some (.int (nI (s + (pto P)))), some (.int (nI (hen D + (ppt P)))), some (.int (nI (s + (ppt P)))), some (.int 1), none, none] [] _ _
        refine g_iload (pc := 123) dc_T_matches_123 rfl ?_
        refine g_iconst (pc := 125) (v := 1) dc_T_matches_125 rfl ?_
        refine g_iadd (pc := 126) (v := (nI (s + (ppt P + 1)))) dc_T_matches_126 (q_as s (ppt P) 1) ?_
        refine g_istore (pc := 127) dc_T_matches_127 (by decide) ?_
        show am_G X mt_T_matches _ 129 [some (.ref ra), some (.int (nI k)), some (.ref aa), some (.ref rb), some (.int (nI s)), some (.int 0), some (.int (nI (s + (pto P)))), some (.int (nI (hen D + (ppt P)))), some (.int (nI (s + (ppt P)))), some (.int 1), some (.int (nI (s + (ppt P + 1)))), none] [] _ _
        have hgs := of_decide_eq_true hc94
        have hG : gmt D P = gml D P (pto P) false true (P.length + 1) (hen D + ppt P) (ppt P + 1) := by unfold gmt; rw [if_pos hc94, hte, decide_eq_true (show ppt P < pto P by omega)]
        rw [hG]
        refine am_wk (am_le_n (am_le_n (am_le_s (am_le_s (am_le_n (am_le_s (am_le_s (am_le_s (am_le_n (am_le_s (am_le_s (am_le_n am_le_0)))))))))))) ?_
        exact l01_T_matches (d := d + 1) hx ha hy hD7.2.1 (by omega) (P.length + 1) (hen D + ppt P) (ppt P + 1) (by omega) (by omega) (by omega)
    · refine g_iconst (pc := 97) (v := 0) dc_T_matches_97 rfl ?_
      exact g_zreturn dc_T_matches_98 rfl rfl ⟨by rw [show gmt D P = false from if_neg (by rw [hc94]; decide)]; rfl, rfl⟩
  · refine g_iconst (pc := 29) (v := 1) dc_T_matches_29 rfl ?_
    refine g_goto (pc := 30) (tgt := 34) dc_T_matches_30 rfl ?_
    refine g_istore (pc := 34) dc_T_matches_34 (by decide) ?_
    show am_G X mt_T_matches _ 36 [some (.ref ra), some (.int (nI k)), some (.ref aa), some (.ref rb), some (.int (nI s)), some (.int 1), none, none, none, none, none, none] [] _ _
    refine g_iload (pc := 36) dc_T_matches_36 rfl ?_
    refine g_if_eq (pc := 38) (tgt := 51) dc_T_matches_38 rfl (fun hc => absurd hc (by decide)) (fun _ => ?_)
    refine g_aload_n (pc := 41) dc_T_matches_41 rfl ?_
    refine g_iload_n (pc := 42) dc_T_matches_42 rfl ?_
    refine g_v1 (pc := 43) (M' := mt_R_to) dc_T_matches_43 mo_R_to im_R_to se_R_to ln_T_91 hR.1 rfl rfl (Nat.le_of_ble_eq_true rfl) (Nat.le_of_ble_eq_true rfl) (am_G.mono hTo ?_)
    intro r h1 hq
    rw [hq.1, hq.2]
    clear hq h1 r
    refine ⟨am_nti _, ?_⟩
    refine g_iconst (pc := 46) (v := 1) dc_T_matches_46 rfl ?_
    refine g_isub (pc := 47) (v := (nI (s + (P.length - 1)))) dc_T_matches_47 (q_sn (s := s) (a := P.length) (b := 1) (by omega)) ?_
    refine g_goto (pc := 48) (tgt := 56) dc_T_matches_48 rfl ?_
    refine g_istore (pc := 56) dc_T_matches_56 (by decide) ?_
    show am_G X mt_T_matches _ 58 [some (.ref ra), some (.int (nI k)), some (.ref aa), some (.ref rb), some (.int (nI s)), some (.int 1), some (.int (nI (s + (P.length - 1)))), none, none, none, none, none] [] _ _
    have hte : pte P = true := decide_eq_true hc26
    have hto : pto P = P.length - 1 := if_pos hte
    have e9 : nI (s + (P.length - 1)) = nI (s + pto P) := by rw [hto]
    rw [e9]
    refine g_aload_n (pc := 58) dc_T_matches_58 rfl ?_
    refine g_getfield (pc := 59) dc_T_matches_59 fl_T_102 ha rfl ?_
    refine g_aload_n (pc := 62) dc_T_matches_62 rfl ?_
    refine g_getfield (pc := 63) dc_T_matches_63 fl_T_106 ha rfl ?_
    refine g_s2 (pc := 66) (M' := mt_W_siteTo) dc_T_matches_66 mo_W_siteTo st_W_siteTo ln_T_109 (Nat.le_of_ble_eq_true rfl) (Nat.le_of_ble_eq_true rfl) (am_G.mono hSt ?_)
    intro r h1 hq
    rw [hq.1, hq.2]
    clear hq h1 r
    refine ⟨am_nti _, ?_⟩
    refine g_istore (pc := 69) dc_T_matches_69 (by decide) ?_
    show am_G X mt_T_matches _ 71 [some (.ref ra), some (.int (nI k)), some (.ref aa), some (.ref rb), some (.int (nI s)), some (.int 1), some (.int (nI (s + (pto P)))), some (.int (nI (hen D))), none, none, none, none] [] _ _
    refine g_aload_n (pc := 71) dc_T_matches_71 rfl ?_
    refine g_bipush (pc := 72) (v := 42) dc_T_matches_72 rfl ?_
    refine g_iload (pc := 74) dc_T_matches_74 rfl ?_
    refine g_iload (pc := 76) dc_T_matches_76 rfl ?_
    refine g_s4 (pc := 78) (M' := mt_W_indexOf) dc_T_matches_78 mo_W_indexOf st_W_indexOf ln_T_47 (Nat.le_of_ble_eq_true rfl) (Nat.le_of_ble_eq_true rfl) (am_G.mono (t_W_indexOf (v := 42) (f := 0) (t := pto P) hx (Nat.zero_le _) hptl) ?_)
    intro r h1 hq
    rw [hq.1, hq.2]
    clear hq h1 r
    refine ⟨am_nti _, ?_⟩
    rw [show fw (nev 42) P 0 (pto P) = ppt P from rfl]
    refine g_istore (pc := 81) dc_T_matches_81 (by decide) ?_
    show am_G X mt_T_matches _ 83 [some (.ref ra), some (.int (nI k)), some (.ref aa), some (.ref rb), some (.int (nI s)), some (.int 1), some (.int (nI (s + (pto P)))), some (.int (nI (hen D))), some (.int (nI (s + (ppt P)))), none, none, none] [] _ _
    refine g_aload_n (pc := 83) dc_T_matches_83 rfl ?_
    refine g_iload (pc := 84) dc_T_matches_84 rfl ?_
    refine g_iload (pc := 86) dc_T_matches_86 rfl ?_
    refine g_aload_n (pc := 88) dc_T_matches_88 rfl ?_
    refine g_iload (pc := 89) dc_T_matches_89 rfl ?_
    refine g_s5 (pc := 91) (M' := mt_T_standsAt) dc_T_matches_91 mo_T_standsAt st_T_standsAt ln_T_113 (Nat.le_of_ble_eq_true rfl) (Nat.le_of_ble_eq_true rfl) (am_G.mono (c_T_standsAt (d := d + 1) (f := 0) (t := ppt P) hx ha hy hD7.2.1 (Nat.zero_le _) (by omega) (by omega)) ?_)
    intro r h1 hq
    rw [hq.1, hq.2]
    clear hq h1 r
    refine ⟨am_nti _, ?_⟩
    refine q_ifb_ne (pc := 94) (tgt := 99) dc_T_matches_94 rfl (fun hc94 => ?_) (fun hc94 => ?_)
    · refine g_iload (pc := 99) dc_T_matches_99 rfl ?_
      refine g_iload (pc := 101) dc_T_matches_101 rfl ?_
      refine g_iload (pc := 103) dc_T_matches_103 rfl ?_
      refine g_isub (pc := 105) (v := (nI (ppt P))) dc_T_matches_105 ((q_sub (a := s + ppt P) (b := s) (by omega)).trans (congrArg nI (by omega))) ?_
      refine g_iadd (pc := 106) (v := (nI (hen D + (ppt P)))) dc_T_matches_106 (nI_add (hen D) (ppt P)) ?_
      refine g_istore (pc := 107) dc_T_matches_107 (by decide) ?_
      show am_G X mt_T_matches _ 109 [some (.ref ra), some (.int (nI k)), some (.ref aa), some (.ref rb), some (.int (nI s)), some (.int 1), some (.int (nI (s + (pto P)))), some (.int (nI (hen D + (ppt P)))), some (.int (nI (s + (ppt P)))), none, none, none] [] _ _
      refine g_iload (pc := 109) dc_T_matches_109 rfl ?_
      refine g_iload (pc := 111) dc_T_matches_111 rfl ?_
      refine q_icmp_ge (pc := 113) (tgt := 120) (s + (ppt P)) (s + (pto P)) dc_T_matches_113 (by omega) (by omega) rfl (fun hc113 => ?_) (fun hc113 => ?_)
      · refine g_iconst (pc := 120) (v := 0) dc_T_matches_120 rfl ?_
        refine g_istore (pc := 121) dc_T_matches_121 (by decide) ?_
        show am_G X mt_T_matches _ 123 [some (.ref ra), some (.int (nI k)), some (.ref aa), some (.ref rb), some (.int (nI s)), some (.int 1), some (.int (nI (s + (pto P)))), some (.int (nI (hen D + (ppt P)))), some (.int (nI (s + (ppt P)))), some (.int 0), none, none] [] _ _
        refine g_iload (pc := 123) dc_T_matches_123 rfl ?_
        refine g_iconst (pc := 125) (v := 1) dc_T_matches_125 rfl ?_
        refine g_iadd (pc := 126) (v := (nI (s + (ppt P + 1)))) dc_T_matches_126 (q_as s (ppt P) 1) ?_
        refine g_istore (pc := 127) dc_T_matches_127 (by decide) ?_
        show am_G X mt_T_matches _ 129 [some (.ref ra), some (.int (nI k)), some (.ref aa), some (.ref rb), some (.int (nI s)), some (.int 1), some (.int (nI (s + (pto P)))), some (.int (nI (hen D + (ppt P)))), some (.int (nI (s + (ppt P)))), some (.int 0), some (.int (nI (s + (ppt P + 1)))), none] [] _ _
        have hgs := of_decide_eq_true hc94
        have hG : gmt D P = gml D P (pto P) true false (P.length + 1) (hen D + ppt P) (ppt P + 1) := by unfold gmt; rw [if_pos hc94, hte, decide_eq_false (show ¬ ppt P < pto P by omega)]
        rw [hG]
        refine am_wk (am_le_n (am_le_n (am_le_s (am_le_s (am_le_n (am_le_s (am_le_s (am_le_s (am_le_n (am_le_s (am_le_s (am_le_n am_le_0)))))))))))) ?_
        exact l10_T_matches (d := d + 1) hx ha hy hD7.2.1 (by omega) (P.length + 1) (hen D + ppt P) (ppt P + 1) (by omega) (by omega) (by omega)
      · refine g_iconst (pc := 116) (v := 1) dc_T_matches_116 rfl ?_
        refine g_goto (pc := 117) (tgt := 121) dc_T_matches_117 rfl ?_
        refine g_istore (pc := 121) dc_T_matches_121 (by decide) ?_
        show am_G X mt_T_matches _ 123 [some (.ref ra), some (.int (nI k)), some (.ref aa), some (.ref rb), some (.int (nI s)), some (.int 1), some (.int (nI (s + (pto P)))), some (.int (nI (hen D + (ppt P)))), some (.int (nI (s + (ppt P)))), some (.int 1), none, none] [] _ _
        refine g_iload (pc := 123) dc_T_matches_123 rfl ?_
        refine g_iconst (pc := 125) (v := 1) dc_T_matches_125 rfl ?_
        refine g_iadd (pc := 126) (v := (nI (s + (ppt P + 1)))) dc_T_matches_126 (q_as s (ppt P) 1) ?_
        refine g_istore (pc := 127) dc_T_matches_127 (by decide) ?_
        show am_G X mt_T_matches _ 129 [some (.ref ra), some (.int (nI k)), some (.ref aa), some (.ref rb), some (.int (nI s)), some (.int 1), some (.int (nI (s + (pto P)))), some (.int (nI (hen D + (ppt P)))), some (.int (nI (s + (ppt P)))), some (.int 1), some (.int (nI (s + (ppt P + 1)))), none] [] _ _
        have hgs := of_decide_eq_true hc94
        have hG : gmt D P = gml D P (pto P) true true (P.length + 1) (hen D + ppt P) (ppt P + 1) := by unfold gmt; rw [if_pos hc94, hte, decide_eq_true (show ppt P < pto P by omega)]
        rw [hG]
        refine am_wk (am_le_n (am_le_n (am_le_s (am_le_s (am_le_n (am_le_s (am_le_s (am_le_s (am_le_n (am_le_s (am_le_s (am_le_n am_le_0)))))))))))) ?_
        exact l11_T_matches (d := d + 1) hx ha hy hD7.2.1 (by omega) (P.length + 1) (hen D + ppt P) (ppt P + 1) (by omega) (by omega) (by omega)
    · refine g_iconst (pc := 97) (v := 0) dc_T_matches_97 rfl ?_
      exact g_zreturn dc_T_matches_98 rfl rfl ⟨by rw [show gmt D P = false from if_neg (by rw [hc94]; decide)]; rfl, rfl⟩
theorem lgs_b {lo : Option Nat} {P : List Int32} (h1 : ∀ k, lo = some k → k < 2 ^ 30) (h2 : P.length < 2 ^ 30) : ∀ k, lgs D lo P = some k → k < 2 ^ 30 := by
  intro k hk
  unfold lgs at hk
  cases lo with
  | none =>
    by_cases h : mch D P = true
    · have hk : (if mch D P = true then some P.length else none) = some k := hk
      rw [if_pos h] at hk
      cases hk; exact h2
    · have hk : (if mch D P = true then some P.length else none) = some k := hk
      rw [if_neg h] at hk
      cases hk
  | some l =>
    have hk : (if l < P.length ∧ mch D P = true then some P.length else some l) = some k := hk
    by_cases h : l < P.length ∧ mch D P = true
    · rw [if_pos h] at hk
      cases hk; exact h2
    · rw [if_neg h] at hk
      cases hk; exact h1 _ rfl
theorem lgm_b : ∀ (T : List (List Int32)) (lo : Option Nat), (∀ k, lo = some k → k < 2 ^ 30) → (∀ x, x ∈ T → x.length < 2 ^ 30) → ∀ k, T.foldl (lgs D) lo = some k → k < 2 ^ 30
  | [], lo, h1, _ => h1
  | x :: r, lo, h1, h2 => lgm_b r (lgs D lo x) (lgs_b h1 (h2 x (List.mem_cons_self ..))) (fun y hy => h2 y (List.mem_cons_of_mem _ hy))
theorem nI_nle1 {x : Nat} (hx : x < 2 ^ 31) : ¬ nI x ≤ (-1 : Int32) := by
  have m1 : ((-1 : Int32)).toInt = -1 := by decide
  rw [Int32.le_iff_toInt_le, m1, nI_toInt hx]; omega
theorem l_T_longestMatch (hR : isR h ra ab rb cap e ecap T []) (hT1 : ∀ x, x ∈ T → 1 ≤ x.length) (ha : h[aa]? = some (.inr (1, [.ref b, .int (nI D.length)]))) (hy : tt h b 0 D) (ho : okD D) : ∀ (n i : Nat) (lo : Option Nat), i + n = T.length → (∀ k, lo = some k → k < 2 ^ 30) → am_G X mt_T_longestMatch (d + 4) 4 [some (.ref ra), some (.ref aa), some (.int (er lo)), some (.int (nI i)), none] [] h (fun r h1 => r = some (.int (er ((T.drop i).foldl (lgs D) lo))) ∧ h1 = h)
  | 0, i, lo, hn, hlo => by
    have hkc : T.length ≤ 33554432 := by obtain ⟨-, -, gE, -, -, z1, z2⟩ := hR; omega
    rw [List.drop_of_length_le (by omega)]
    refine g_iload_n (pc := 4) dc_T_longestMatch_4 rfl ?_
    refine g_aload_n (pc := 5) dc_T_longestMatch_5 rfl ?_
    refine g_getfield (pc := 6) dc_T_longestMatch_6 fl_T_40 hR.1 rfl ?_
    refine q_icmp_ge (pc := 9) (tgt := 49) i T.length dc_T_longestMatch_9 (by omega) (by omega) rfl (fun hc9 => ?_) (fun hc => absurd hc (by omega))
    refine g_iload_n (pc := 49) dc_T_longestMatch_49 rfl ?_
    exact g_ireturn dc_T_longestMatch_50 rfl ⟨rfl, rfl⟩
  | n + 1, i, lo, hn, hlo => by
    have hkc : T.length ≤ 33554432 := by obtain ⟨-, -, gE, -, -, z1, z2⟩ := hR; omega
    have hi : i < T.length := by omega
    have hofs := hR.of (k := i + 1) (by omega)
    rw [drop_s hi, List.foldl_cons]
    have hos := ofs_s (T := T) hi
    cases lo with
    | none =>
      refine g_iload_n (pc := 4) dc_T_longestMatch_4 rfl ?_
      refine g_aload_n (pc := 5) dc_T_longestMatch_5 rfl ?_
      refine g_getfield (pc := 6) dc_T_longestMatch_6 fl_T_40 hR.1 rfl ?_
      refine q_icmp_ge (pc := 9) (tgt := 49) i T.length dc_T_longestMatch_9 (by omega) (by omega) rfl (fun hc => absurd hc (by omega)) (fun hc9 => ?_)
      refine g_aload_n (pc := 12) dc_T_longestMatch_12 rfl ?_
      refine g_iload_n (pc := 13) dc_T_longestMatch_13 rfl ?_
      refine g_v1 (pc := 14) (M' := mt_R_to) dc_T_longestMatch_14 mo_R_to im_R_to se_R_to ln_T_91 hR.1 rfl rfl (Nat.le_of_ble_eq_true rfl) (Nat.le_of_ble_eq_true rfl) (am_G.mono (c_R_to (d := d + 3) hR hi) ?_)
      intro r h1 hq
      rw [hq.1, hq.2]
      clear hq h1 r
      refine ⟨am_nti _, ?_⟩
      refine g_aload_n (pc := 17) dc_T_longestMatch_17 rfl ?_
      refine g_iload_n (pc := 18) dc_T_longestMatch_18 rfl ?_
      refine g_v1 (pc := 19) (M' := mt_R_from) dc_T_longestMatch_19 mo_R_from im_R_from se_R_from ln_T_95 hR.1 rfl rfl (Nat.le_of_ble_eq_true rfl) (Nat.le_of_ble_eq_true rfl) (am_G.mono (c_R_from (d := d + 3) hR (Nat.le_of_lt hi)) ?_)
      intro r h1 hq
      rw [hq.1, hq.2]
      clear hq h1 r
      refine ⟨am_nti _, ?_⟩
      refine g_isub (pc := 22) (v := (nI ((gT T i).length))) dc_T_longestMatch_22 ((q_sub (a := ofs T (i + 1)) (b := ofs T i) (by omega)).trans (congrArg nI (by omega))) ?_
      refine g_istore (pc := 23) dc_T_longestMatch_23 (by decide) ?_
      show am_G X mt_T_longestMatch _ 25 [some (.ref ra), some (.ref aa), some (.int (-1)), some (.int (nI i)), some (.int (nI ((gT T i).length)))] [] _ _
      refine g_iload (pc := 25) dc_T_longestMatch_25 rfl ?_
      refine g_iload_n (pc := 27) dc_T_longestMatch_27 rfl ?_
      refine g_icmp_le (pc := 28) (tgt := 43) dc_T_longestMatch_28 rfl (fun hc => absurd hc (fun h9 => nI_nle1 (by omega) h9)) (fun hc28 => ?_)
      refine g_aload_n (pc := 31) dc_T_longestMatch_31 rfl ?_
      refine g_iload_n (pc := 32) dc_T_longestMatch_32 rfl ?_
      refine g_aload_n (pc := 33) dc_T_longestMatch_33 rfl ?_
      refine g_s3 (pc := 34) (M' := mt_T_matches) dc_T_longestMatch_34 mo_T_matches st_T_matches ln_T_98 (Nat.le_of_ble_eq_true rfl) (Nat.le_of_ble_eq_true rfl) (am_G.mono (c_T_matches (d := d) hR hi (hT1 _ (gT_mem hi)) ha hy ho) ?_)
      intro r h1 hq
      rw [hq.1, hq.2]
      clear hq h1 r
      refine ⟨am_nti _, ?_⟩
      refine q_ifb_eq (pc := 37) (tgt := 43) dc_T_longestMatch_37 rfl (fun hc37 => ?_) (fun hc37 => ?_)
      · refine g_iinc (pc := 43) (v := (nI (i + 1))) dc_T_longestMatch_43 rfl (nI_add i 1) (by decide) ?_
        show am_G X mt_T_longestMatch _ 46 [some (.ref ra), some (.ref aa), some (.int (-1)), some (.int (nI (i + 1))), some (.int (nI ((gT T i).length)))] [] _ _
        refine g_goto (pc := 46) (tgt := 4) dc_T_longestMatch_46 rfl ?_
        rw [show lgs D none (gT T i) = none from if_neg (by rw [hc37]; decide)]
        refine am_wk (am_le_s (am_le_s (am_le_s (am_le_s (am_le_n am_le_0))))) ?_
        exact l_T_longestMatch hR hT1 ha hy ho n (i + 1) none (by omega) (fun k h9 => by cases h9)
      · refine g_iload (pc := 40) dc_T_longestMatch_40 rfl ?_
        refine g_istore_n (pc := 42) dc_T_longestMatch_42 (by decide) ?_
        show am_G X mt_T_longestMatch _ 43 [some (.ref ra), some (.ref aa), some (.int (nI ((gT T i).length))), some (.int (nI i)), some (.int (nI ((gT T i).length)))] [] _ _
        refine g_iinc (pc := 43) (v := (nI (i + 1))) dc_T_longestMatch_43 rfl (nI_add i 1) (by decide) ?_
        show am_G X mt_T_longestMatch _ 46 [some (.ref ra), some (.ref aa), some (.int (nI ((gT T i).length))), some (.int (nI (i + 1))), some (.int (nI ((gT T i).length)))] [] _ _
        refine g_goto (pc := 46) (tgt := 4) dc_T_longestMatch_46 rfl ?_
        rw [show lgs D none (gT T i) = (some (gT T i).length) from if_pos hc37]
        refine am_wk (am_le_s (am_le_s (am_le_s (am_le_s (am_le_n am_le_0))))) ?_
        exact l_T_longestMatch hR hT1 ha hy ho n (i + 1) (some (gT T i).length) (by omega) (fun k h9 => by cases h9; omega)
    | some l =>
      have hlb := hlo l rfl
      refine g_iload_n (pc := 4) dc_T_longestMatch_4 rfl ?_
      refine g_aload_n (pc := 5) dc_T_longestMatch_5 rfl ?_
      refine g_getfield (pc := 6) dc_T_longestMatch_6 fl_T_40 hR.1 rfl ?_
      refine q_icmp_ge (pc := 9) (tgt := 49) i T.length dc_T_longestMatch_9 (by omega) (by omega) rfl (fun hc => absurd hc (by omega)) (fun hc9 => ?_)
      refine g_aload_n (pc := 12) dc_T_longestMatch_12 rfl ?_
      refine g_iload_n (pc := 13) dc_T_longestMatch_13 rfl ?_
      refine g_v1 (pc := 14) (M' := mt_R_to) dc_T_longestMatch_14 mo_R_to im_R_to se_R_to ln_T_91 hR.1 rfl rfl (Nat.le_of_ble_eq_true rfl) (Nat.le_of_ble_eq_true rfl) (am_G.mono (c_R_to (d := d + 3) hR hi) ?_)
      intro r h1 hq
      rw [hq.1, hq.2]
      clear hq h1 r
      refine ⟨am_nti _, ?_⟩
      refine g_aload_n (pc := 17) dc_T_longestMatch_17 rfl ?_
      refine g_iload_n (pc := 18) dc_T_longestMatch_18 rfl ?_
      refine g_v1 (pc := 19) (M' := mt_R_from) dc_T_longestMatch_19 mo_R_from im_R_from se_R_from ln_T_95 hR.1 rfl rfl (Nat.le_of_ble_eq_true rfl) (Nat.le_of_ble_eq_true rfl) (am_G.mono (c_R_from (d := d + 3) hR (Nat.le_of_lt hi)) ?_)
      intro r h1 hq
      rw [hq.1, hq.2]
      clear hq h1 r
      refine ⟨am_nti _, ?_⟩
      refine g_isub (pc := 22) (v := (nI ((gT T i).length))) dc_T_longestMatch_22 ((q_sub (a := ofs T (i + 1)) (b := ofs T i) (by omega)).trans (congrArg nI (by omega))) ?_
      refine g_istore (pc := 23) dc_T_longestMatch_23 (by decide) ?_
      show am_G X mt_T_longestMatch _ 25 [some (.ref ra), some (.ref aa), some (.int (nI l)), some (.int (nI i)), some (.int (nI ((gT T i).length)))] [] _ _
      refine g_iload (pc := 25) dc_T_longestMatch_25 rfl ?_
      refine g_iload_n (pc := 27) dc_T_longestMatch_27 rfl ?_
      refine q_icmp_le (pc := 28) (tgt := 43) ((gT T i).length) l dc_T_longestMatch_28 (by omega) (by omega) rfl (fun hc28 => ?_) (fun hc28 => ?_)
      · refine g_iinc (pc := 43) (v := (nI (i + 1))) dc_T_longestMatch_43 rfl (nI_add i 1) (by decide) ?_
        show am_G X mt_T_longestMatch _ 46 [some (.ref ra), some (.ref aa), some (.int (nI l)), some (.int (nI (i + 1))), some (.int (nI ((gT T i).length)))] [] _ _
        refine g_goto (pc := 46) (tgt := 4) dc_T_longestMatch_46 rfl ?_
        rw [show lgs D (some l) (gT T i) = some l from if_neg (fun h9 => absurd h9.1 (by omega))]
        refine am_wk (am_le_s (am_le_s (am_le_s (am_le_s (am_le_n am_le_0))))) ?_
        exact l_T_longestMatch hR hT1 ha hy ho n (i + 1) (some l) (by omega) hlo
      · refine g_aload_n (pc := 31) dc_T_longestMatch_31 rfl ?_
        refine g_iload_n (pc := 32) dc_T_longestMatch_32 rfl ?_
        refine g_aload_n (pc := 33) dc_T_longestMatch_33 rfl ?_
        refine g_s3 (pc := 34) (M' := mt_T_matches) dc_T_longestMatch_34 mo_T_matches st_T_matches ln_T_98 (Nat.le_of_ble_eq_true rfl) (Nat.le_of_ble_eq_true rfl) (am_G.mono (c_T_matches (d := d) hR hi (hT1 _ (gT_mem hi)) ha hy ho) ?_)
        intro r h1 hq
        rw [hq.1, hq.2]
        clear hq h1 r
        refine ⟨am_nti _, ?_⟩
        refine q_ifb_eq (pc := 37) (tgt := 43) dc_T_longestMatch_37 rfl (fun hc37 => ?_) (fun hc37 => ?_)
        · refine g_iinc (pc := 43) (v := (nI (i + 1))) dc_T_longestMatch_43 rfl (nI_add i 1) (by decide) ?_
          show am_G X mt_T_longestMatch _ 46 [some (.ref ra), some (.ref aa), some (.int (nI l)), some (.int (nI (i + 1))), some (.int (nI ((gT T i).length)))] [] _ _
          refine g_goto (pc := 46) (tgt := 4) dc_T_longestMatch_46 rfl ?_
          rw [show lgs D (some l) (gT T i) = (some l) from if_neg (fun h9 => by rw [hc37] at h9; exact absurd h9.2 (by decide))]
          refine am_wk (am_le_s (am_le_s (am_le_s (am_le_s (am_le_n am_le_0))))) ?_
          exact l_T_longestMatch hR hT1 ha hy ho n (i + 1) (some l) (by omega) hlo
        · refine g_iload (pc := 40) dc_T_longestMatch_40 rfl ?_
          refine g_istore_n (pc := 42) dc_T_longestMatch_42 (by decide) ?_
          show am_G X mt_T_longestMatch _ 43 [some (.ref ra), some (.ref aa), some (.int (nI ((gT T i).length))), some (.int (nI i)), some (.int (nI ((gT T i).length)))] [] _ _
          refine g_iinc (pc := 43) (v := (nI (i + 1))) dc_T_longestMatch_43 rfl (nI_add i 1) (by decide) ?_
          show am_G X mt_T_longestMatch _ 46 [some (.ref ra), some (.ref aa), some (.int (nI ((gT T i).length))), some (.int (nI (i + 1))), some (.int (nI ((gT T i).length)))] [] _ _
          refine g_goto (pc := 46) (tgt := 4) dc_T_longestMatch_46 rfl ?_
          rw [show lgs D (some l) (gT T i) = (some (gT T i).length) from if_pos ⟨by omega, hc37⟩]
          refine am_wk (am_le_s (am_le_s (am_le_s (am_le_s (am_le_n am_le_0))))) ?_
          exact l_T_longestMatch hR hT1 ha hy ho n (i + 1) (some (gT T i).length) (by omega) (fun k h9 => by cases h9; omega)
theorem c_T_longestMatch (hR : isR h ra ab rb cap e ecap T []) (hT1 : ∀ x, x ∈ T → 1 ≤ x.length) (ha : h[aa]? = some (.inr (1, [.ref b, .int (nI D.length)]))) (hy : tt h b 0 D) (ho : okD D) : am_C X mt_T_longestMatch (d + 4) [.ref ra, .ref aa] h (fun r h1 => r = some (.int (er (lgm D T))) ∧ h1 = h) := by
  show am_G X mt_T_longestMatch (d + 4) 0 [some (.ref ra), some (.ref aa), none, none, none] [] h _
  refine g_iconst (pc := 0) (v := (-1)) dc_T_longestMatch_0 rfl ?_
  refine g_istore_n (pc := 1) dc_T_longestMatch_1 (by decide) ?_
  show am_G X mt_T_longestMatch _ 2 [some (.ref ra), some (.ref aa), some (.int (-1)), none, none] [] _ _
  refine g_iconst (pc := 2) (v := 0) dc_T_longestMatch_2 rfl ?_
  refine g_istore_n (pc := 3) dc_T_longestMatch_3 (by decide) ?_
  show am_G X mt_T_longestMatch _ 4 [some (.ref ra), some (.ref aa), some (.int (-1)), some (.int 0), none] [] _ _
  exact l_T_longestMatch hR hT1 ha hy ho T.length 0 none (by omega) (fun k h9 => by cases h9)
theorem c_T_allows {st al di a2 b2 c2 e2 f2 tc : Nat} {A Dd : List (List Int32)} (hO : h[tc]? = some (.inr (11, [.ref st, .ref al, .ref di]))) (hR : isR h al ab rb cap e ecap A []) (hR2 : isR h di a2 b2 c2 e2 f2 Dd []) (h1 : ∀ x, x ∈ A → 1 ≤ x.length) (h2 : ∀ x, x ∈ Dd → 1 ≤ x.length) (ha : h[aa]? = some (.inr (1, [.ref b, .int (nI D.length)]))) (hy : tt h b 0 D) (ho : okD D) : am_C X mt_T_allows (d + 5) [.ref tc, .ref aa] h (fun r h1 => r = some (.int (b1 (alw D A Dd))) ∧ h1 = h) := by
  show am_G X mt_T_allows (d + 5) 0 [some (.ref tc), some (.ref aa)] [] h _
  have el : ∀ {T : List (List Int32)} {a b c e f g : Nat}, isR h a b c e f g T [] → ∀ x, x ∈ T → x.length < 2 ^ 30 := by
    intro T a b c e f g hR x hx
    obtain ⟨k, hk, he⟩ := gT_in hx
    have h3 := hR.of (k := k + 1) (by omega)
    rw [ofs_s hk, he] at h3
    omega
  have hlt := er_lt (x := lgm D A) (y := lgm D Dd) (lgm_b A none (fun k h9 => by cases h9) (el hR)) (lgm_b Dd none (fun k h9 => by cases h9) (el hR2))
  refine g_aload_n (pc := 0) dc_T_allows_0 rfl ?_
  refine g_getfield (pc := 1) dc_T_allows_1 fl_T_25 hO rfl ?_
  refine g_aload_n (pc := 4) dc_T_allows_4 rfl ?_
  refine g_s2 (pc := 5) (M' := mt_T_longestMatch) dc_T_allows_5 mo_T_longestMatch st_T_longestMatch ln_T_87 (Nat.le_of_ble_eq_true rfl) (Nat.le_of_ble_eq_true rfl) (am_G.mono (c_T_longestMatch (d := d) hR h1 ha hy ho) ?_)
  intro r h1 hq
  rw [hq.1, hq.2]
  clear hq h1 r
  refine ⟨am_nti _, ?_⟩
  refine g_aload_n (pc := 8) dc_T_allows_8 rfl ?_
  refine g_getfield (pc := 9) dc_T_allows_9 fl_T_29 hO rfl ?_
  refine g_aload_n (pc := 12) dc_T_allows_12 rfl ?_
  refine g_s2 (pc := 13) (M' := mt_T_longestMatch) dc_T_allows_13 mo_T_longestMatch st_T_longestMatch ln_T_87 (Nat.le_of_ble_eq_true rfl) (Nat.le_of_ble_eq_true rfl) (am_G.mono (c_T_longestMatch (d := d) hR2 h2 ha hy ho) ?_)
  intro r h1 hq
  rw [hq.1, hq.2]
  clear hq h1 r
  refine ⟨am_nti _, ?_⟩
  refine g_icmp_lt (pc := 16) (tgt := 23) dc_T_allows_16 rfl (fun hc16 => ?_) (fun hc16 => ?_)
  · have hi16 : ((er (lgm D A))).toInt < ((er (lgm D Dd))).toInt := Int32.lt_iff_toInt_lt.mp hc16
    refine g_iconst (pc := 23) (v := 0) dc_T_allows_23 rfl ?_
    exact g_zreturn dc_T_allows_24 rfl rfl ⟨by rw [show alw D A Dd = false from decide_eq_false (Nat.not_le_of_lt (hlt.mp hc16))]; rfl, rfl⟩
  · have hi16 : ¬ (((er (lgm D A))).toInt < ((er (lgm D Dd))).toInt) := fun h9 => hc16 (Int32.lt_iff_toInt_lt.mpr h9)
    refine g_iconst (pc := 19) (v := 1) dc_T_allows_19 rfl ?_
    refine g_goto (pc := 20) (tgt := 24) dc_T_allows_20 rfl ?_
    exact g_zreturn dc_T_allows_24 rfl rfl ⟨by rw [show alw D A Dd = true from decide_eq_true (Nat.le_of_not_lt (fun h9 => hc16 (hlt.mpr h9)))]; rfl, rfl⟩
end CAL
