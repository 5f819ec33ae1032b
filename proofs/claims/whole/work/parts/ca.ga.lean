/-! ===== the class counts places of words ===== -/
section GAS
variable {X : am_X} {d n k j i a s dd : Nat} {w w0 w1 : Gw} {h h0 h1 : List va_E} {K : Kn} {l : List Nat} {Qs : List (List Int32)} {Q : Option Value → List va_E → Prop} {gf : Nat → Int32} {nh : Nat} {each : Bool}
theorem mk_256 {p : Nat → Bool} (h : n ≤ 8) : mkN p n < 256 := Nat.lt_of_lt_of_le (mkN_lt n) (Nat.pow_le_pow_right (by decide) h)
/-- which words of the question were seen at the places before v -/
def snQ (Wd Qs : List (List Int32)) (v q : Nat) : Bool := anb (fun u => isQ Wd Qs u q) v
theorem l33_N_placesOfWords (hN : aO w h nh) (hD : dO w h n) (hT : rE w h 67 68 67 68 (wdD K l) []) (hQ : rE w h 80 81 80 81 Qs []) (hj : j < l.length) (h8 : Qs.length ≤ 8) (hfp : iA w h 66 251 gf) (hl : l.length ≤ 250) (hg0 : gf j = nI a) (hg1 : gf (j + 1) = nI (a + (pgW (K.tx (gN l j))).length)) (ha : a = (wdD K (l.take j)).length) (hab : a + (pgW (K.tx (gN l j))).length ≤ 19000) {v cc sn : Nat} (hv : v < (pgW (K.tx (gN l j))).length) : ∀ (n9 s : Nat), s + n9 = Qs.length → am_G X mt_N_placesOfWords (d + 3) 72 [some (.ref 77), some (.ref 59), some (.int (nI j)), some (.int (b1 each)), some (.int (nI cc)), some (.int (nI sn)), some (.int (nI (a + v))), some (.int (nI (mkN (fun q => isQ (pgW (K.tx (gN l j))) Qs v q) Qs.length))), none] [] h Q → am_G X mt_N_placesOfWords (d + 3) 33 [some (.ref 77), some (.ref 59), some (.int (nI j)), some (.int (b1 each)), some (.int (nI cc)), some (.int (nI sn)), some (.int (nI (a + v))), some (.int (nI (mkN (fun q => isQ (pgW (K.tx (gN l j))) Qs v q) s))), some (.int (nI s))] [] h Q
  | 0, s, e9, KK => by
    have hQ0 := hQ
    obtain ⟨b8, e8, hQr⟩ := hQ0
    refine g_iload (pc := 33) dc_N_placesOfWords_33 rfl ?_
    refine g_aload_n (pc := 35) dc_N_placesOfWords_35 rfl ?_
    refine g_getfield (pc := 36) dc_N_placesOfWords_36 fl_N_24 hN.1 rfl ?_
    refine g_getfield (pc := 39) dc_N_placesOfWords_39 fl_N_41 hQr.1.1 rfl ?_
    refine q_icmp_ge (pc := 42) (tgt := 72) s Qs.length dc_N_placesOfWords_42 (by omega) (by omega) rfl (fun hc42 => ?_) (fun hc => absurd hc (by omega))
    refine am_wk (am_le_s (am_le_s (am_le_s (am_le_s (am_le_s (am_le_s (am_le_s (am_le_s (am_le_n am_le_0))))))))) ?_
    rw [show s = Qs.length by omega]
    exact KK
  | n9 + 1, s, e9, KK => by
    have hQ0 := hQ
    obtain ⟨b8, e8, hQr⟩ := hQ0
    have hsq : s < Qs.length := by omega
    have hat := wdD_at (K := K) (a := v) hj hv
    rw [← ha] at hat
    have hm8 := mk_256 (p := (fun q => isQ (pgW (K.tx (gN l j))) Qs v q)) (n := s) (by omega)
    have hp8 : 2 ^ s < 256 := Nat.lt_of_lt_of_le (Nat.pow_lt_pow_right (by decide) (show s < 8 by omega)) (by decide)
    refine g_iload (pc := 33) dc_N_placesOfWords_33 rfl ?_
    refine g_aload_n (pc := 35) dc_N_placesOfWords_35 rfl ?_
    refine g_getfield (pc := 36) dc_N_placesOfWords_36 fl_N_24 hN.1 rfl ?_
    refine g_getfield (pc := 39) dc_N_placesOfWords_39 fl_N_41 hQr.1.1 rfl ?_
    refine q_icmp_ge (pc := 42) (tgt := 72) s Qs.length dc_N_placesOfWords_42 (by omega) (by omega) rfl (fun hc => absurd hc (by omega)) (fun hc42 => ?_)
    refine g_aload_n (pc := 45) dc_N_placesOfWords_45 rfl ?_
    refine g_aload_n (pc := 46) dc_N_placesOfWords_46 rfl ?_
    refine g_iload (pc := 47) dc_N_placesOfWords_47 rfl ?_
    refine g_iload (pc := 49) dc_N_placesOfWords_49 rfl ?_
    refine g_v3 (pc := 51) (M' := mt_N_isWordAt) dc_N_placesOfWords_51 mo_N_isWordAt im_N_isWordAt se_N_isWordAt ln_N_73 hN.1 rfl rfl (Nat.le_of_ble_eq_true rfl) (Nat.le_of_ble_eq_true rfl) (am_G.mono (c_N_isWordAt (d := d) (i := a + v) (k := s) hN hD hT hQ hat.1 hsq) ?_)
    intro r h1 hq
    rw [hq.1, hq.2, show isQ (wdD K l) Qs (a + v) s = isQ (pgW (K.tx (gN l j))) Qs v s by unfold isQ; rw [hat.2]]
    clear hq h1 r
    refine ⟨am_nti _, ?_⟩
    refine q_ifb_eq (pc := 54) (tgt := 66) dc_N_placesOfWords_54 rfl (fun hc54 => ?_) (fun hc54 => ?_)
    · refine g_iinc (pc := 66) (v := (nI (s + 1))) dc_N_placesOfWords_66 rfl (nI_add s 1) (by decide) ?_
      show am_G X mt_N_placesOfWords _ 69 [some (.ref 77), some (.ref 59), some (.int (nI j)), some (.int (b1 each)), some (.int (nI cc)), some (.int (nI sn)), some (.int (nI (a + v))), some (.int (nI (mkN (fun q => isQ (pgW (K.tx (gN l j))) Qs v q) s))), some (.int (nI (s + 1)))] [] _ _
      refine g_goto (pc := 69) (tgt := 33) dc_N_placesOfWords_69 rfl ?_
      have em : mkN (fun q => isQ (pgW (K.tx (gN l j))) Qs v q) (s + 1) = mkN (fun q => isQ (pgW (K.tx (gN l j))) Qs v q) s := by show mkN (fun q => isQ (pgW (K.tx (gN l j))) Qs v q) s ||| (if isQ (pgW (K.tx (gN l j))) Qs v s = true then 2 ^ s else 0) = _; rw [if_neg (by rw [hc54]; decide), Nat.or_zero]
      have h9 := l33_N_placesOfWords hN hD hT hQ hj h8 hfp hl hg0 hg1 ha hab hv n9 (s + 1) (by omega) KK
      rw [em] at h9
      exact h9
    · refine g_iload (pc := 57) dc_N_placesOfWords_57 rfl ?_
      refine g_iconst (pc := 59) (v := 1) dc_N_placesOfWords_59 rfl ?_
      refine g_iload (pc := 60) dc_N_placesOfWords_60 rfl ?_
      refine g_ishl (pc := 62) dc_N_placesOfWords_62 (sh_1 s (by omega)) ?_
      refine g_ior (pc := 63) dc_N_placesOfWords_63 (nI_or (by omega) (by omega)) ?_
      refine g_istore (pc := 64) dc_N_placesOfWords_64 (by decide) ?_
      show am_G X mt_N_placesOfWords _ 66 [some (.ref 77), some (.ref 59), some (.int (nI j)), some (.int (b1 each)), some (.int (nI cc)), some (.int (nI sn)), some (.int (nI (a + v))), some (.int (nI (mkN (fun q => isQ (pgW (K.tx (gN l j))) Qs v q) s ||| 2 ^ s))), some (.int (nI s))] [] _ _
      refine g_iinc (pc := 66) (v := (nI (s + 1))) dc_N_placesOfWords_66 rfl (nI_add s 1) (by decide) ?_
      show am_G X mt_N_placesOfWords _ 69 [some (.ref 77), some (.ref 59), some (.int (nI j)), some (.int (b1 each)), some (.int (nI cc)), some (.int (nI sn)), some (.int (nI (a + v))), some (.int (nI (mkN (fun q => isQ (pgW (K.tx (gN l j))) Qs v q) s ||| 2 ^ s))), some (.int (nI (s + 1)))] [] _ _
      refine g_goto (pc := 69) (tgt := 33) dc_N_placesOfWords_69 rfl ?_
      have em : mkN (fun q => isQ (pgW (K.tx (gN l j))) Qs v q) (s + 1) = mkN (fun q => isQ (pgW (K.tx (gN l j))) Qs v q) s ||| 2 ^ s := by show mkN (fun q => isQ (pgW (K.tx (gN l j))) Qs v q) s ||| (if isQ (pgW (K.tx (gN l j))) Qs v s = true then 2 ^ s else 0) = _; rw [if_pos hc54]
      have h9 := l33_N_placesOfWords hN hD hT hQ hj h8 hfp hl hg0 hg1 ha hab hv n9 (s + 1) (by omega) KK
      rw [em] at h9
      exact h9
theorem l14_N_placesOfWords (hN : aO w h nh) (hD : dO w h n) (hT : rE w h 67 68 67 68 (wdD K l) []) (hQ : rE w h 80 81 80 81 Qs []) (hj : j < l.length) (h8 : Qs.length ≤ 8) (hfp : iA w h 66 251 gf) (hl : l.length ≤ 250) (hg0 : gf j = nI a) (hg1 : gf (j + 1) = nI (a + (pgW (K.tx (gN l j))).length)) (ha : a = (wdD K (l.take j)).length) (hab : a + (pgW (K.tx (gN l j))).length ≤ 19000) : ∀ (n9 v : Nat), v + n9 = (pgW (K.tx (gN l j))).length → am_G X mt_N_placesOfWords (d + 3) 14 [some (.ref 77), some (.ref 59), some (.int (nI j)), some (.int (b1 each)), some (.int (nI (cnb (anyQ (pgW (K.tx (gN l j))) Qs) v))), some (.int (nI (mkN (snQ (pgW (K.tx (gN l j))) Qs v) Qs.length))), some (.int (nI (a + v))), none, none] [] h (fun r h1 => r = some (.int (nI (if each = true ∧ alb (hasQ (pgW (K.tx (gN l j))) Qs) Qs.length = false then 0 else cnb (anyQ (pgW (K.tx (gN l j))) Qs) (pgW (K.tx (gN l j))).length))) ∧ h1 = h)
  | 0, v, e9 => by
    have hQ0 := hQ
    obtain ⟨b8, e8, hQr⟩ := hQ0
    have hcl := cnb_le (p := anyQ (pgW (K.tx (gN l j))) Qs) v
    have hs8 := mk_256 (p := snQ (pgW (K.tx (gN l j))) Qs v) h8
    have ev : v = (pgW (K.tx (gN l j))).length := by omega
    have hsa : (mkN (snQ (pgW (K.tx (gN l j))) Qs v) Qs.length) = 2 ^ Qs.length - 1 ↔ alb (hasQ (pgW (K.tx (gN l j))) Qs) Qs.length = true := by rw [ev]; exact mkN_all
    have hp8 : 2 ^ Qs.length < 512 := Nat.lt_of_le_of_lt (Nat.pow_le_pow_right (by decide) h8) (by decide)
    have hp1 : 0 < 2 ^ Qs.length := Nat.pow_pos (by decide)
    refine g_iload (pc := 14) dc_N_placesOfWords_14 rfl ?_
    refine g_aload_n (pc := 16) dc_N_placesOfWords_16 rfl ?_
    refine g_getfield (pc := 17) dc_N_placesOfWords_17 fl_N_70 hD.1 rfl ?_
    refine g_iload_n (pc := 20) dc_N_placesOfWords_20 rfl ?_
    refine g_iconst (pc := 21) (v := 1) dc_N_placesOfWords_21 rfl ?_
    refine g_iadd (pc := 22) (v := (nI (j + 1))) dc_N_placesOfWords_22 (nI_add j 1) ?_
    refine q_ialoadV (pc := 23) (j + 1) dc_N_placesOfWords_23 hfp.1 (by omega) (by decide) (v := nI (a + (pgW (K.tx (gN l j))).length)) hg1 ?_
    refine q_icmp_ge (pc := 24) (tgt := 100) (a + v) (a + (pgW (K.tx (gN l j))).length) dc_N_placesOfWords_24 (by omega) (by omega) rfl (fun hc24 => ?_) (fun hc => absurd hc (by omega))
    refine g_iload_n (pc := 100) dc_N_placesOfWords_100 rfl ?_
    refine q_ifb_eq (pc := 101) (tgt := 124) dc_N_placesOfWords_101 rfl (fun hc101 => ?_) (fun hc101 => ?_)
    · refine g_iload (pc := 124) dc_N_placesOfWords_124 rfl ?_
      exact g_ireturn dc_N_placesOfWords_126 rfl ⟨by rw [if_neg (fun h9 => by rw [hc101] at h9; exact absurd h9.1 (by decide)), ev], rfl⟩
    · refine g_iload (pc := 104) dc_N_placesOfWords_104 rfl ?_
      refine g_iconst (pc := 106) (v := 1) dc_N_placesOfWords_106 rfl ?_
      refine g_aload_n (pc := 107) dc_N_placesOfWords_107 rfl ?_
      refine g_getfield (pc := 108) dc_N_placesOfWords_108 fl_N_24 hN.1 rfl ?_
      refine g_getfield (pc := 111) dc_N_placesOfWords_111 fl_N_41 hQr.1.1 rfl ?_
      refine g_ishl (pc := 114) dc_N_placesOfWords_114 (sh_1 _ (by omega)) ?_
      refine g_iconst (pc := 115) (v := 1) dc_N_placesOfWords_115 rfl ?_
      refine g_isub (pc := 116) (v := (nI (2 ^ Qs.length - 1))) dc_N_placesOfWords_116 (q_sub (a := 2 ^ Qs.length) (b := 1) (by omega)) ?_
      refine q_icmp_eq (pc := 117) (tgt := 124) (mkN (snQ (pgW (K.tx (gN l j))) Qs v) Qs.length) (2 ^ Qs.length - 1) dc_N_placesOfWords_117 (by omega) (by omega) rfl (fun hc117 => ?_) (fun hc117 => ?_)
      · refine g_iload (pc := 124) dc_N_placesOfWords_124 rfl ?_
        exact g_ireturn dc_N_placesOfWords_126 rfl ⟨by rw [if_neg (fun h9 => by rw [hsa.mp hc117] at h9; exact absurd h9.2 (by decide)), ev], rfl⟩
      · refine g_iconst (pc := 120) (v := 0) dc_N_placesOfWords_120 rfl ?_
        refine g_goto (pc := 121) (tgt := 126) dc_N_placesOfWords_121 rfl ?_
        exact g_ireturn dc_N_placesOfWords_126 rfl ⟨by rw [if_pos ⟨hc101, by cases e8 : alb (hasQ (pgW (K.tx (gN l j))) Qs) Qs.length with | false => rfl | true => exact absurd (hsa.mpr e8) hc117⟩]; rfl, rfl⟩
  | n9 + 1, v, e9 => by
    have hQ0 := hQ
    obtain ⟨b8, e8, hQr⟩ := hQ0
    have hcl := cnb_le (p := anyQ (pgW (K.tx (gN l j))) Qs) v
    have hs8 := mk_256 (p := snQ (pgW (K.tx (gN l j))) Qs v) h8
    have hv : v < (pgW (K.tx (gN l j))).length := by omega
    have hm8 := mk_256 (p := (fun q => isQ (pgW (K.tx (gN l j))) Qs v q)) h8
    have eS : mkN (snQ (pgW (K.tx (gN l j))) Qs (v + 1)) Qs.length = (mkN (snQ (pgW (K.tx (gN l j))) Qs v) Qs.length) ||| mkN (fun q => isQ (pgW (K.tx (gN l j))) Qs v q) Qs.length := by rw [mkN_or]; rfl
    refine g_iload (pc := 14) dc_N_placesOfWords_14 rfl ?_
    refine g_aload_n (pc := 16) dc_N_placesOfWords_16 rfl ?_
    refine g_getfield (pc := 17) dc_N_placesOfWords_17 fl_N_70 hD.1 rfl ?_
    refine g_iload_n (pc := 20) dc_N_placesOfWords_20 rfl ?_
    refine g_iconst (pc := 21) (v := 1) dc_N_placesOfWords_21 rfl ?_
    refine g_iadd (pc := 22) (v := (nI (j + 1))) dc_N_placesOfWords_22 (nI_add j 1) ?_
    refine q_ialoadV (pc := 23) (j + 1) dc_N_placesOfWords_23 hfp.1 (by omega) (by decide) (v := nI (a + (pgW (K.tx (gN l j))).length)) hg1 ?_
    refine q_icmp_ge (pc := 24) (tgt := 100) (a + v) (a + (pgW (K.tx (gN l j))).length) dc_N_placesOfWords_24 (by omega) (by omega) rfl (fun hc => absurd hc (by omega)) (fun hc24 => ?_)
    refine g_iconst (pc := 27) (v := 0) dc_N_placesOfWords_27 rfl ?_
    refine g_istore (pc := 28) dc_N_placesOfWords_28 (by decide) ?_
    show am_G X mt_N_placesOfWords _ 30 [some (.ref 77), some (.ref 59), some (.int (nI j)), some (.int (b1 each)), some (.int (nI (cnb (anyQ (pgW (K.tx (gN l j))) Qs) v))), some (.int (nI (mkN (snQ (pgW (K.tx (gN l j))) Qs v) Qs.length))), some (.int (nI (a + v))), some (.int 0), none] [] _ _
    refine g_iconst (pc := 30) (v := 0) dc_N_placesOfWords_30 rfl ?_
    refine g_istore (pc := 31) dc_N_placesOfWords_31 (by decide) ?_
    show am_G X mt_N_placesOfWords _ 33 [some (.ref 77), some (.ref 59), some (.int (nI j)), some (.int (b1 each)), some (.int (nI (cnb (anyQ (pgW (K.tx (gN l j))) Qs) v))), some (.int (nI (mkN (snQ (pgW (K.tx (gN l j))) Qs v) Qs.length))), some (.int (nI (a + v))), some (.int 0), some (.int 0)] [] _ _
    refine l33_N_placesOfWords hN hD hT hQ hj h8 hfp hl hg0 hg1 ha hab hv Qs.length 0 (Nat.zero_add _) ?_
    refine g_iload (pc := 72) dc_N_placesOfWords_72 rfl ?_
    refine g_iload (pc := 74) dc_N_placesOfWords_74 rfl ?_
    refine g_ior (pc := 76) dc_N_placesOfWords_76 (nI_or (by omega) (by omega)) ?_
    refine g_istore (pc := 77) dc_N_placesOfWords_77 (by decide) ?_
    show am_G X mt_N_placesOfWords _ 79 [some (.ref 77), some (.ref 59), some (.int (nI j)), some (.int (b1 each)), some (.int (nI (cnb (anyQ (pgW (K.tx (gN l j))) Qs) v))), some (.int (nI (mkN (snQ (pgW (K.tx (gN l j))) Qs v) Qs.length ||| mkN (fun q => isQ (pgW (K.tx (gN l j))) Qs v q) Qs.length))), some (.int (nI (a + v))), some (.int (nI (mkN (fun q => isQ (pgW (K.tx (gN l j))) Qs v q) Qs.length))), none] [] _ _
    refine g_iload (pc := 79) dc_N_placesOfWords_79 rfl ?_
    refine g_iload (pc := 81) dc_N_placesOfWords_81 rfl ?_
    refine q_if_ne (pc := 83) (tgt := 90) (mkN (fun q => isQ (pgW (K.tx (gN l j))) Qs v q) Qs.length) dc_N_placesOfWords_83 (by omega) rfl (fun hc83 => ?_) (fun hc83 => ?_)
    · refine g_iconst (pc := 90) (v := 1) dc_N_placesOfWords_90 rfl ?_
      refine g_iadd (pc := 91) (v := (nI (cnb (anyQ (pgW (K.tx (gN l j))) Qs) v + 1))) dc_N_placesOfWords_91 (nI_add (cnb (anyQ (pgW (K.tx (gN l j))) Qs) v) 1) ?_
      refine g_istore (pc := 92) dc_N_placesOfWords_92 (by decide) ?_
      show am_G X mt_N_placesOfWords _ 94 [some (.ref 77), some (.ref 59), some (.int (nI j)), some (.int (b1 each)), some (.int (nI (cnb (anyQ (pgW (K.tx (gN l j))) Qs) v + 1))), some (.int (nI (mkN (snQ (pgW (K.tx (gN l j))) Qs v) Qs.length ||| mkN (fun q => isQ (pgW (K.tx (gN l j))) Qs v q) Qs.length))), some (.int (nI (a + v))), some (.int (nI (mkN (fun q => isQ (pgW (K.tx (gN l j))) Qs v q) Qs.length))), none] [] _ _
      refine g_iinc (pc := 94) (v := (nI (a + v + 1))) dc_N_placesOfWords_94 rfl (nI_add (a + v) 1) (by decide) ?_
      show am_G X mt_N_placesOfWords _ 97 [some (.ref 77), some (.ref 59), some (.int (nI j)), some (.int (b1 each)), some (.int (nI (cnb (anyQ (pgW (K.tx (gN l j))) Qs) v + 1))), some (.int (nI (mkN (snQ (pgW (K.tx (gN l j))) Qs v) Qs.length ||| mkN (fun q => isQ (pgW (K.tx (gN l j))) Qs v q) Qs.length))), some (.int (nI (a + v + 1))), some (.int (nI (mkN (fun q => isQ (pgW (K.tx (gN l j))) Qs v q) Qs.length))), none] [] _ _
      refine g_goto (pc := 97) (tgt := 14) dc_N_placesOfWords_97 rfl ?_
      refine am_wk (am_le_s (am_le_s (am_le_s (am_le_s (am_le_s (am_le_s (am_le_s (am_le_n (am_le_n am_le_0))))))))) ?_
      have ec : cnb (anyQ (pgW (K.tx (gN l j))) Qs) (v + 1) = cnb (anyQ (pgW (K.tx (gN l j))) Qs) v + 1 := by show _ + (if anyQ (pgW (K.tx (gN l j))) Qs v = true then 1 else 0) = _; rw [if_pos (by cases e8 : anyQ (pgW (K.tx (gN l j))) Qs v with | true => rfl | false => exact absurd (mkN_0.mpr e8) (Nat.ne_of_gt hc83))]
      have h9 := l14_N_placesOfWords hN hD hT hQ hj h8 hfp hl hg0 hg1 ha hab n9 (v + 1) (by omega)
      rw [ec, eS] at h9
      exact h9
    · refine g_iconst (pc := 86) (v := 0) dc_N_placesOfWords_86 rfl ?_
      refine g_goto (pc := 87) (tgt := 91) dc_N_placesOfWords_87 rfl ?_
      refine g_iadd (pc := 91) (v := (nI (cnb (anyQ (pgW (K.tx (gN l j))) Qs) v + 0))) dc_N_placesOfWords_91 (nI_add (cnb (anyQ (pgW (K.tx (gN l j))) Qs) v) 0) ?_
      refine g_istore (pc := 92) dc_N_placesOfWords_92 (by decide) ?_
      show am_G X mt_N_placesOfWords _ 94 [some (.ref 77), some (.ref 59), some (.int (nI j)), some (.int (b1 each)), some (.int (nI (cnb (anyQ (pgW (K.tx (gN l j))) Qs) v + 0))), some (.int (nI (mkN (snQ (pgW (K.tx (gN l j))) Qs v) Qs.length ||| mkN (fun q => isQ (pgW (K.tx (gN l j))) Qs v q) Qs.length))), some (.int (nI (a + v))), some (.int (nI (mkN (fun q => isQ (pgW (K.tx (gN l j))) Qs v q) Qs.length))), none] [] _ _
      refine g_iinc (pc := 94) (v := (nI (a + v + 1))) dc_N_placesOfWords_94 rfl (nI_add (a + v) 1) (by decide) ?_
      show am_G X mt_N_placesOfWords _ 97 [some (.ref 77), some (.ref 59), some (.int (nI j)), some (.int (b1 each)), some (.int (nI (cnb (anyQ (pgW (K.tx (gN l j))) Qs) v + 0))), some (.int (nI (mkN (snQ (pgW (K.tx (gN l j))) Qs v) Qs.length ||| mkN (fun q => isQ (pgW (K.tx (gN l j))) Qs v q) Qs.length))), some (.int (nI (a + v + 1))), some (.int (nI (mkN (fun q => isQ (pgW (K.tx (gN l j))) Qs v q) Qs.length))), none] [] _ _
      refine g_goto (pc := 97) (tgt := 14) dc_N_placesOfWords_97 rfl ?_
      refine am_wk (am_le_s (am_le_s (am_le_s (am_le_s (am_le_s (am_le_s (am_le_s (am_le_n (am_le_n am_le_0))))))))) ?_
      have ec : cnb (anyQ (pgW (K.tx (gN l j))) Qs) (v + 1) = cnb (anyQ (pgW (K.tx (gN l j))) Qs) v + 0 := by show _ + (if anyQ (pgW (K.tx (gN l j))) Qs v = true then 1 else 0) = _; rw [if_neg (by rw [show anyQ (pgW (K.tx (gN l j))) Qs v = false from mkN_0.mp hc83]; decide)]
      have h9 := l14_N_placesOfWords hN hD hT hQ hj h8 hfp hl hg0 hg1 ha hab n9 (v + 1) (by omega)
      rw [ec, eS] at h9
      exact h9
theorem c_N_placesOfWords (hN : aO w h nh) (hD : dO w h n) (hT : rE w h 67 68 67 68 (wdD K l) []) (hQ : rE w h 80 81 80 81 Qs []) (hj : j < l.length) (h8 : Qs.length ≤ 8) (hfp : iA w h 66 251 gf) (hl : l.length ≤ 250) (hg0 : gf j = nI a) (hg1 : gf (j + 1) = nI (a + (pgW (K.tx (gN l j))).length)) (ha : a = (wdD K (l.take j)).length) (hab : a + (pgW (K.tx (gN l j))).length ≤ 19000) : am_C X mt_N_placesOfWords (d + 3) [.ref 77, .ref 59, .int (nI j), .int (b1 each)] h (fun r h1 => r = some (.int (nI (if each = true ∧ alb (hasQ (pgW (K.tx (gN l j))) Qs) Qs.length = false then 0 else cnb (anyQ (pgW (K.tx (gN l j))) Qs) (pgW (K.tx (gN l j))).length))) ∧ h1 = h) := by
  show am_G X mt_N_placesOfWords (d + 3) 0 [some (.ref 77), some (.ref 59), some (.int (nI j)), some (.int (b1 each)), none, none, none, none, none] [] h _
  have hQ0 := hQ
  obtain ⟨b8, e8, hQr⟩ := hQ0
  have e0 : mkN (snQ (pgW (K.tx (gN l j))) Qs 0) Qs.length = 0 := mkN_0.mpr (by
    cases e : anb (snQ (pgW (K.tx (gN l j))) Qs 0) Qs.length with
    | false => rfl
    | true => obtain ⟨a9, -, h9⟩ := (anb_iff _).mp e; cases h9)
  refine g_iconst (pc := 0) (v := 0) dc_N_placesOfWords_0 rfl ?_
  refine g_istore (pc := 1) dc_N_placesOfWords_1 (by decide) ?_
  show am_G X mt_N_placesOfWords _ 3 [some (.ref 77), some (.ref 59), some (.int (nI j)), some (.int (b1 each)), some (.int 0), none, none, none, none] [] _ _
  refine g_iconst (pc := 3) (v := 0) dc_N_placesOfWords_3 rfl ?_
  refine g_istore (pc := 4) dc_N_placesOfWords_4 (by decide) ?_
  show am_G X mt_N_placesOfWords _ 6 [some (.ref 77), some (.ref 59), some (.int (nI j)), some (.int (b1 each)), some (.int 0), some (.int 0), none, none, none] [] _ _
  refine g_aload_n (pc := 6) dc_N_placesOfWords_6 rfl ?_
  refine g_getfield (pc := 7) dc_N_placesOfWords_7 fl_N_70 hD.1 rfl ?_
  refine g_iload_n (pc := 10) dc_N_placesOfWords_10 rfl ?_
  refine q_ialoadV (pc := 11) j dc_N_placesOfWords_11 hfp.1 (by omega) (by decide) (v := nI a) hg0 ?_
  refine g_istore (pc := 12) dc_N_placesOfWords_12 (by decide) ?_
  show am_G X mt_N_placesOfWords _ 14 [some (.ref 77), some (.ref 59), some (.int (nI j)), some (.int (b1 each)), some (.int 0), some (.int 0), some (.int (nI a)), none, none] [] _ _
  have h9 := l14_N_placesOfWords (X := X) (d := d) (each := each) hN hD hT hQ hj h8 hfp hl hg0 hg1 ha hab (pgW (K.tx (gN l j))).length 0 (Nat.zero_add _)
  rw [e0] at h9
  exact h9
end GAS
