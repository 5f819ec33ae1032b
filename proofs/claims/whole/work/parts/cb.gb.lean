/-! ===== the class answers a question ===== -/
/-- the words of the question -/
def qsQ (L : List Int32) : List (List Int32) := (spl L 0).take (Nat.min (spl L 0).length 8)
section GBS
variable {X : am_X} {d n k j a pn md : Nat} {w w1 : Gw} {h h1 : List va_E} {I : List Nat} {K : Kn} {Qs : List (List Int32)} {H : List (Nat × Nat)} {L : List Int32} {p : Int32} {gr : Nat → Int32}
theorem qsQ_8 : (qsQ L).length ≤ 8 := by
  unfold qsQ
  rw [List.length_take]
  have h1 : Nat.min (spl L 0).length 8 ≤ 8 := Nat.min_le_right _ _
  omega
theorem qsQ_sub {x : List Int32} (h : x ∈ qsQ L) : x ∈ spl L 0 := List.mem_of_mem_take h
theorem cntQ_2 {Wd : List (List Int32)} : cntQ 2 Wd Qs = cnb (rowQ Wd Qs) Wd.length := if_pos rfl
theorem cntQ_e {Wd : List (List Int32)} (h : ¬ md = 2) {e : Bool} (he : e = true ↔ md = 1) : cntQ md Wd Qs = if e = true ∧ alb (hasQ Wd Qs) Qs.length = false then 0 else cnb (anyQ Wd Qs) Wd.length := by
  unfold cntQ
  rw [if_neg h]
  by_cases q : md = 1
  · by_cases q2 : alb (hasQ Wd Qs) Qs.length = false
    · rw [if_pos ⟨q, q2⟩, if_pos ⟨he.mpr q, q2⟩]
    · rw [if_neg (fun h9 => q2 h9.2), if_neg (fun h9 => q2 h9.2)]
  · rw [if_neg (fun h9 => q h9.1), if_neg (fun h9 => q (he.mp h9.1))]
theorem txs_pre {l : List Nat} : (txs K (l.take j)).flatten.length ≤ (txs K l).flatten.length := by
  have e : txs K l = txs K (l.take j) ++ txs K (l.drop j) := by
    unfold txs
    rw [← List.map_append, List.take_append_drop]
  rw [e, List.flatten_append, List.length_append]
  omega
theorem l42_N_answer (hw : wfK K) (h8t : ∀ i, i ∈ dcs K → (K.tx i).length ≤ 7999) (hY : (txs K (dcs K)).flatten.length ≤ 19000) (hmd : md ≤ 2) (hq8 : Qs.length ≤ 8) (hrx : ∀ e, e < (dcs K).length → gr e = nI (rkS (ldd K) (dcs K).length pn e)) : ∀ (n9 j : Nat) (w0 : Gw) (h0 : List va_E), j + n9 = (dcs K).length → aO w0 h0 (ansQ K pn md Qs j).length → dO w0 h0 (dcs K).length → ixW w0 h0 K (dcs K) → iA w0 h0 62 250 gr → rE w0 h0 80 81 80 81 Qs [] → (∃ gh gs, iA w0 h0 78 250 gh ∧ lA w0 h0 79 250 gs ∧ arH gh gs (ansQ K pn md Qs j)) → am_G X mt_N_answer (d + 4) 42 [some (.ref 77), none, some (.int (nI md)), some (.ref 59), some (.int (nI j)), none] [] h0 (fun r h1 => r = none ∧ ∃ w1, fr w0 w1 h0 h1 [77, 78, 79] ∧ aO w1 h1 (ansQ K pn md Qs (dcs K).length).length ∧ ∃ gh gs, iA w1 h1 78 250 gh ∧ lA w1 h1 79 250 gs ∧ arH gh gs (ansQ K pn md Qs (dcs K).length))
  | 0, j, w0, h0, e9, hN, hD, hX, hr, hQ, hg => by
    have h250 := dcs_250 hw
    have ej : j = (dcs K).length := by omega
    rw [ej] at hN hg
    refine g_iload (pc := 42) dc_N_answer_42 rfl ?_
    refine g_aload_n (pc := 44) dc_N_answer_44 rfl ?_
    refine g_getfield (pc := 45) dc_N_answer_45 fl_N_52 hD.1 rfl ?_
    refine q_icmp_ge (pc := 48) (tgt := 114) j ((dcs K).length) dc_N_answer_48 (by omega) (by omega) rfl (fun hc48 => ?_) (fun hc => absurd hc (by omega))
    exact g_return dc_N_answer_114 rfl ⟨rfl, w0, fr.rf, hN, hg⟩
  | n9 + 1, j, w0, h0, e9, hN, hD, hX, hr, hQ, hg => by
    have h250 := dcs_250 hw
    have hj : j < (dcs K).length := by omega
    have hX0 := hX
    obtain ⟨hT, gf, hfp, hfx⟩ := hX0
    obtain ⟨gh, gs, hgh, hgs, har⟩ := hg
    have hfw := fp_w (K := K) hfx hj
    have hwl := (wdD_le (K := K) (dcs K)).2
    have hat := wdD_lt (K := K) hj
    have hsl : (wdD K ((dcs K).take j)).length + (pgW (K.tx (gN (dcs K) j))).length ≤ 19000 := by have h1 := (wdD_le (K := K) ((dcs K).take (j + 1))).2; have h2 := txs_pre (K := K) (l := dcs K) (j := j + 1); omega
    have hlen := ansQ_len (K := K) (pn := pn) (mode := md) (Qs := Qs) j
    have hsc := ansQ_s (pn := pn) (mode := md) (Qs := Qs) hw h8t j (by omega)
    have hcle := cntQ_le (mode := md) (Wd := (pgW (K.tx (gN (dcs K) j)))) (Qs := Qs)
    have hrk : rkS (ldd K) (dcs K).length pn j ≤ 1000000 := rkS_le (fun a _ => ⟨(ldd_inv hw).1, fun x hx => ((ldd_inv hw).2.1 x hx).1⟩) hj
    have hxs : cntQ md (pgW (K.tx (gN (dcs K) j))) Qs * rkS (ldd K) (dcs K).length pn j ≤ 8000000000 := Nat.le_trans (Nat.mul_le_mul (show cntQ md (pgW (K.tx (gN (dcs K) j))) Qs ≤ 8000 by have h1 := (pgW_le (L := K.tx (gN (dcs K) j))).2; have h2 := h8t _ (gN_mem hj); omega) hrk) (by decide)
    refine g_iload (pc := 42) dc_N_answer_42 rfl ?_
    refine g_aload_n (pc := 44) dc_N_answer_44 rfl ?_
    refine g_getfield (pc := 45) dc_N_answer_45 fl_N_52 hD.1 rfl ?_
    refine q_icmp_ge (pc := 48) (tgt := 114) j ((dcs K).length) dc_N_answer_48 (by omega) (by omega) rfl (fun hc => absurd hc (by omega)) (fun hc48 => ?_)
    refine g_iload_n (pc := 51) dc_N_answer_51 rfl ?_
    refine g_iconst (pc := 52) (v := 2) dc_N_answer_52 rfl ?_
    refine q_icmp_ne (pc := 53) (tgt := 66) md 2 dc_N_answer_53 (by omega) (by omega) rfl (fun hc53 => ?_) (fun hc53 => ?_)
    · refine g_aload_n (pc := 66) dc_N_answer_66 rfl ?_
      refine g_aload_n (pc := 67) dc_N_answer_67 rfl ?_
      refine g_iload (pc := 68) dc_N_answer_68 rfl ?_
      refine g_iload_n (pc := 70) dc_N_answer_70 rfl ?_
      refine g_iconst (pc := 71) (v := 1) dc_N_answer_71 rfl ?_
      refine q_icmp_ne (pc := 72) (tgt := 79) md 1 dc_N_answer_72 (by omega) (by omega) rfl (fun hc72 => ?_) (fun hc72 => ?_)
      · refine g_iconst (pc := 79) (v := 0) dc_N_answer_79 rfl ?_
        refine g_v3 (pc := 80) (M' := mt_N_placesOfWords) dc_N_answer_80 mo_N_placesOfWords im_N_placesOfWords se_N_placesOfWords ln_N_59 hN.1 rfl rfl (Nat.le_of_ble_eq_true rfl) (Nat.le_of_ble_eq_true rfl) (am_G.mono (c_N_placesOfWords (d := d) (each := false) hN hD hT hQ hj hq8 hfp h250 hfw.1 hfw.2 rfl hsl) ?_)
        intro r h1 hq
        rw [hq.1, hq.2, ← cntQ_e hc53 (e := false) ⟨fun h9 => (by cases h9), fun h9 => absurd h9 hc72⟩]
        clear hq h1 r
        refine ⟨am_nti _, ?_⟩
        refine g_istore (pc := 83) dc_N_answer_83 (by decide) ?_
        show am_G X mt_N_answer _ 85 [some (.ref 77), none, some (.int (nI md)), some (.ref 59), some (.int (nI j)), some (.int (nI (cntQ md (pgW (K.tx (gN (dcs K) j))) Qs)))] [] _ _
        refine g_iload (pc := 85) dc_N_answer_85 rfl ?_
        refine q_if_le (pc := 87) (tgt := 108) (cntQ md (pgW (K.tx (gN (dcs K) j))) Qs) dc_N_answer_87 (by omega) rfl (fun hc87 => ?_) (fun hc87 => ?_)
        · refine g_iinc (pc := 108) (v := (nI (j + 1))) dc_N_answer_108 rfl (nI_add j 1) (by decide) ?_
          show am_G X mt_N_answer _ 111 [some (.ref 77), none, some (.int (nI md)), some (.ref 59), some (.int (nI (j + 1))), some (.int (nI (cntQ md (pgW (K.tx (gN (dcs K) j))) Qs)))] [] _ _
          refine g_goto (pc := 111) (tgt := 42) dc_N_answer_111 rfl ?_
          refine am_wk (am_le_s (am_le_n (am_le_s (am_le_s (am_le_s (am_le_n am_le_0)))))) ?_
          have ea : ansQ K pn md Qs (j + 1) = ansQ K pn md Qs j := if_neg (by omega)
          exact l42_N_answer hw h8t hY hmd hq8 hrx n9 (j + 1) w0 h0 (by omega) (by rw [ea]; exact hN) hD hX hr hQ (by rw [ea]; exact ⟨gh, gs, hgh, hgs, har⟩)
        · refine g_aload_n (pc := 90) dc_N_answer_90 rfl ?_
          refine g_iload (pc := 91) dc_N_answer_91 rfl ?_
          refine g_iload (pc := 93) dc_N_answer_93 rfl ?_
          refine g_i2l (pc := 95) dc_N_answer_95 (nI_l (n := cntQ md (pgW (K.tx (gN (dcs K) j))) Qs) (by omega)) ?_
          refine g_aload_n (pc := 96) dc_N_answer_96 rfl ?_
          refine g_getfield (pc := 97) dc_N_answer_97 fl_N_63 hD.1 rfl ?_
          refine g_iload (pc := 100) dc_N_answer_100 rfl ?_
          refine q_ialoadV (pc := 102) j dc_N_answer_102 hr.1 (by omega) (by decide) (v := nI (rkS (ldd K) (dcs K).length pn j)) (hrx j hj) ?_
          refine g_i2l (pc := 103) dc_N_answer_103 (nI_l (n := rkS (ldd K) (dcs K).length pn j) (by omega)) ?_
          refine g_lmul (pc := 104) dc_N_answer_104 (lN_mul _ _) ?_
          refine g_v2 (pc := 105) (M' := mt_N_insert) dc_N_answer_105 mo_N_insert im_N_insert se_N_insert ln_N_66 hN.1 rfl rfl (Nat.le_of_ble_eq_true rfl) (Nat.le_of_ble_eq_true rfl) (am_G.mono (w_N_insert (d := d + 3) (x := (j, cntQ md (pgW (K.tx (gN (dcs K) j))) Qs * rkS (ldd K) (dcs K).length pn j)) (by omega) hxs (fun y hy => (hsc y hy).2) hN hgh hgs har) ?_)
          intro r h1 hz
          obtain ⟨y1, w1, g1, hN1, hg1⟩ := hz
          rw [y1]
          clear y1 r
          have ea : ansQ K pn md Qs (j + 1) = insH (ansQ K pn md Qs j) (j, cntQ md (pgW (K.tx (gN (dcs K) j))) Qs * rkS (ldd K) (dcs K).length pn j) := if_pos (by omega)
          rw [← ea] at hN1 hg1
          refine ⟨am_nt0, ?_⟩
          refine g_iinc (pc := 108) (v := (nI (j + 1))) dc_N_answer_108 rfl (nI_add j 1) (by decide) ?_
          show am_G X mt_N_answer _ 111 [some (.ref 77), none, some (.int (nI md)), some (.ref 59), some (.int (nI (j + 1))), some (.int (nI (cntQ md (pgW (K.tx (gN (dcs K) j))) Qs)))] [] _ _
          refine g_goto (pc := 111) (tgt := 42) dc_N_answer_111 rfl ?_
          refine am_wk (am_le_s (am_le_n (am_le_s (am_le_s (am_le_s (am_le_n am_le_0)))))) ?_
          refine am_G.mono (l42_N_answer hw h8t hY hmd hq8 hrx n9 (j + 1) w1 h1 (by omega) hN1 (hD.fr g1 (by decide)) (hX.fr g1 (by decide) (by decide) (by decide)) (hr.fr g1 (by decide)) (hQ.fr g1 (by decide) (by decide)) hg1) (fun r h9 hz => ?_)
          obtain ⟨y1, w9, y2, y3⟩ := hz
          exact ⟨y1, w9, g1.tr y2, y3⟩
      · refine g_iconst (pc := 75) (v := 1) dc_N_answer_75 rfl ?_
        refine g_goto (pc := 76) (tgt := 80) dc_N_answer_76 rfl ?_
        refine g_v3 (pc := 80) (M' := mt_N_placesOfWords) dc_N_answer_80 mo_N_placesOfWords im_N_placesOfWords se_N_placesOfWords ln_N_59 hN.1 rfl rfl (Nat.le_of_ble_eq_true rfl) (Nat.le_of_ble_eq_true rfl) (am_G.mono (c_N_placesOfWords (d := d) (each := true) hN hD hT hQ hj hq8 hfp h250 hfw.1 hfw.2 rfl hsl) ?_)
        intro r h1 hq
        rw [hq.1, hq.2, ← cntQ_e hc53 (e := true) ⟨fun _ => hc72, fun _ => rfl⟩]
        clear hq h1 r
        refine ⟨am_nti _, ?_⟩
        refine g_istore (pc := 83) dc_N_answer_83 (by decide) ?_
        show am_G X mt_N_answer _ 85 [some (.ref 77), none, some (.int (nI md)), some (.ref 59), some (.int (nI j)), some (.int (nI (cntQ md (pgW (K.tx (gN (dcs K) j))) Qs)))] [] _ _
        refine g_iload (pc := 85) dc_N_answer_85 rfl ?_
        refine q_if_le (pc := 87) (tgt := 108) (cntQ md (pgW (K.tx (gN (dcs K) j))) Qs) dc_N_answer_87 (by omega) rfl (fun hc87 => ?_) (fun hc87 => ?_)
        · refine g_iinc (pc := 108) (v := (nI (j + 1))) dc_N_answer_108 rfl (nI_add j 1) (by decide) ?_
          show am_G X mt_N_answer _ 111 [some (.ref 77), none, some (.int (nI md)), some (.ref 59), some (.int (nI (j + 1))), some (.int (nI (cntQ md (pgW (K.tx (gN (dcs K) j))) Qs)))] [] _ _
          refine g_goto (pc := 111) (tgt := 42) dc_N_answer_111 rfl ?_
          refine am_wk (am_le_s (am_le_n (am_le_s (am_le_s (am_le_s (am_le_n am_le_0)))))) ?_
          have ea : ansQ K pn md Qs (j + 1) = ansQ K pn md Qs j := if_neg (by omega)
          exact l42_N_answer hw h8t hY hmd hq8 hrx n9 (j + 1) w0 h0 (by omega) (by rw [ea]; exact hN) hD hX hr hQ (by rw [ea]; exact ⟨gh, gs, hgh, hgs, har⟩)
        · refine g_aload_n (pc := 90) dc_N_answer_90 rfl ?_
          refine g_iload (pc := 91) dc_N_answer_91 rfl ?_
          refine g_iload (pc := 93) dc_N_answer_93 rfl ?_
          refine g_i2l (pc := 95) dc_N_answer_95 (nI_l (n := cntQ md (pgW (K.tx (gN (dcs K) j))) Qs) (by omega)) ?_
          refine g_aload_n (pc := 96) dc_N_answer_96 rfl ?_
          refine g_getfield (pc := 97) dc_N_answer_97 fl_N_63 hD.1 rfl ?_
          refine g_iload (pc := 100) dc_N_answer_100 rfl ?_
          refine q_ialoadV (pc := 102) j dc_N_answer_102 hr.1 (by omega) (by decide) (v := nI (rkS (ldd K) (dcs K).length pn j)) (hrx j hj) ?_
          refine g_i2l (pc := 103) dc_N_answer_103 (nI_l (n := rkS (ldd K) (dcs K).length pn j) (by omega)) ?_
          refine g_lmul (pc := 104) dc_N_answer_104 (lN_mul _ _) ?_
          refine g_v2 (pc := 105) (M' := mt_N_insert) dc_N_answer_105 mo_N_insert im_N_insert se_N_insert ln_N_66 hN.1 rfl rfl (Nat.le_of_ble_eq_true rfl) (Nat.le_of_ble_eq_true rfl) (am_G.mono (w_N_insert (d := d + 3) (x := (j, cntQ md (pgW (K.tx (gN (dcs K) j))) Qs * rkS (ldd K) (dcs K).length pn j)) (by omega) hxs (fun y hy => (hsc y hy).2) hN hgh hgs har) ?_)
          intro r h1 hz
          obtain ⟨y1, w1, g1, hN1, hg1⟩ := hz
          rw [y1]
          clear y1 r
          have ea : ansQ K pn md Qs (j + 1) = insH (ansQ K pn md Qs j) (j, cntQ md (pgW (K.tx (gN (dcs K) j))) Qs * rkS (ldd K) (dcs K).length pn j) := if_pos (by omega)
          rw [← ea] at hN1 hg1
          refine ⟨am_nt0, ?_⟩
          refine g_iinc (pc := 108) (v := (nI (j + 1))) dc_N_answer_108 rfl (nI_add j 1) (by decide) ?_
          show am_G X mt_N_answer _ 111 [some (.ref 77), none, some (.int (nI md)), some (.ref 59), some (.int (nI (j + 1))), some (.int (nI (cntQ md (pgW (K.tx (gN (dcs K) j))) Qs)))] [] _ _
          refine g_goto (pc := 111) (tgt := 42) dc_N_answer_111 rfl ?_
          refine am_wk (am_le_s (am_le_n (am_le_s (am_le_s (am_le_s (am_le_n am_le_0)))))) ?_
          refine am_G.mono (l42_N_answer hw h8t hY hmd hq8 hrx n9 (j + 1) w1 h1 (by omega) hN1 (hD.fr g1 (by decide)) (hX.fr g1 (by decide) (by decide) (by decide)) (hr.fr g1 (by decide)) (hQ.fr g1 (by decide) (by decide)) hg1) (fun r h9 hz => ?_)
          obtain ⟨y1, w9, y2, y3⟩ := hz
          exact ⟨y1, w9, g1.tr y2, y3⟩
    · refine g_aload_n (pc := 56) dc_N_answer_56 rfl ?_
      refine g_aload_n (pc := 57) dc_N_answer_57 rfl ?_
      refine g_iload (pc := 58) dc_N_answer_58 rfl ?_
      refine g_v2 (pc := 60) (M' := mt_N_placesOfRow) dc_N_answer_60 mo_N_placesOfRow im_N_placesOfRow se_N_placesOfRow ln_N_55 hN.1 rfl rfl (Nat.le_of_ble_eq_true rfl) (Nat.le_of_ble_eq_true rfl) (am_G.mono (c_N_placesOfRow (d := d) hN hD hT hQ hj hq8 hfp h250 hfw.1 hfw.2 rfl hsl) ?_)
      intro r h1 hq
      rw [hq.1, hq.2, show cnb (rowQ (pgW (K.tx (gN (dcs K) j))) Qs) (pgW (K.tx (gN (dcs K) j))).length = cntQ md (pgW (K.tx (gN (dcs K) j))) Qs by rw [hc53, cntQ_2]]
      clear hq h1 r
      refine ⟨am_nti _, ?_⟩
      refine g_goto (pc := 63) (tgt := 83) dc_N_answer_63 rfl ?_
      refine g_istore (pc := 83) dc_N_answer_83 (by decide) ?_
      show am_G X mt_N_answer _ 85 [some (.ref 77), none, some (.int (nI md)), some (.ref 59), some (.int (nI j)), some (.int (nI (cntQ md (pgW (K.tx (gN (dcs K) j))) Qs)))] [] _ _
      refine g_iload (pc := 85) dc_N_answer_85 rfl ?_
      refine q_if_le (pc := 87) (tgt := 108) (cntQ md (pgW (K.tx (gN (dcs K) j))) Qs) dc_N_answer_87 (by omega) rfl (fun hc87 => ?_) (fun hc87 => ?_)
      · refine g_iinc (pc := 108) (v := (nI (j + 1))) dc_N_answer_108 rfl (nI_add j 1) (by decide) ?_
        show am_G X mt_N_answer _ 111 [some (.ref 77), none, some (.int (nI md)), some (.ref 59), some (.int (nI (j + 1))), some (.int (nI (cntQ md (pgW (K.tx (gN (dcs K) j))) Qs)))] [] _ _
        refine g_goto (pc := 111) (tgt := 42) dc_N_answer_111 rfl ?_
        refine am_wk (am_le_s (am_le_n (am_le_s (am_le_s (am_le_s (am_le_n am_le_0)))))) ?_
        have ea : ansQ K pn md Qs (j + 1) = ansQ K pn md Qs j := if_neg (by omega)
        exact l42_N_answer hw h8t hY hmd hq8 hrx n9 (j + 1) w0 h0 (by omega) (by rw [ea]; exact hN) hD hX hr hQ (by rw [ea]; exact ⟨gh, gs, hgh, hgs, har⟩)
      · refine g_aload_n (pc := 90) dc_N_answer_90 rfl ?_
        refine g_iload (pc := 91) dc_N_answer_91 rfl ?_
        refine g_iload (pc := 93) dc_N_answer_93 rfl ?_
        refine g_i2l (pc := 95) dc_N_answer_95 (nI_l (n := cntQ md (pgW (K.tx (gN (dcs K) j))) Qs) (by omega)) ?_
        refine g_aload_n (pc := 96) dc_N_answer_96 rfl ?_
        refine g_getfield (pc := 97) dc_N_answer_97 fl_N_63 hD.1 rfl ?_
        refine g_iload (pc := 100) dc_N_answer_100 rfl ?_
        refine q_ialoadV (pc := 102) j dc_N_answer_102 hr.1 (by omega) (by decide) (v := nI (rkS (ldd K) (dcs K).length pn j)) (hrx j hj) ?_
        refine g_i2l (pc := 103) dc_N_answer_103 (nI_l (n := rkS (ldd K) (dcs K).length pn j) (by omega)) ?_
        refine g_lmul (pc := 104) dc_N_answer_104 (lN_mul _ _) ?_
        refine g_v2 (pc := 105) (M' := mt_N_insert) dc_N_answer_105 mo_N_insert im_N_insert se_N_insert ln_N_66 hN.1 rfl rfl (Nat.le_of_ble_eq_true rfl) (Nat.le_of_ble_eq_true rfl) (am_G.mono (w_N_insert (d := d + 3) (x := (j, cntQ md (pgW (K.tx (gN (dcs K) j))) Qs * rkS (ldd K) (dcs K).length pn j)) (by omega) hxs (fun y hy => (hsc y hy).2) hN hgh hgs har) ?_)
        intro r h1 hz
        obtain ⟨y1, w1, g1, hN1, hg1⟩ := hz
        rw [y1]
        clear y1 r
        have ea : ansQ K pn md Qs (j + 1) = insH (ansQ K pn md Qs j) (j, cntQ md (pgW (K.tx (gN (dcs K) j))) Qs * rkS (ldd K) (dcs K).length pn j) := if_pos (by omega)
        rw [← ea] at hN1 hg1
        refine ⟨am_nt0, ?_⟩
        refine g_iinc (pc := 108) (v := (nI (j + 1))) dc_N_answer_108 rfl (nI_add j 1) (by decide) ?_
        show am_G X mt_N_answer _ 111 [some (.ref 77), none, some (.int (nI md)), some (.ref 59), some (.int (nI (j + 1))), some (.int (nI (cntQ md (pgW (K.tx (gN (dcs K) j))) Qs)))] [] _ _
        refine g_goto (pc := 111) (tgt := 42) dc_N_answer_111 rfl ?_
        refine am_wk (am_le_s (am_le_n (am_le_s (am_le_s (am_le_s (am_le_n am_le_0)))))) ?_
        refine am_G.mono (l42_N_answer hw h8t hY hmd hq8 hrx n9 (j + 1) w1 h1 (by omega) hN1 (hD.fr g1 (by decide)) (hX.fr g1 (by decide) (by decide) (by decide)) (hr.fr g1 (by decide)) (hQ.fr g1 (by decide) (by decide)) hg1) (fun r h9 hz => ?_)
        obtain ⟨y1, w9, y2, y3⟩ := hz
        exact ⟨y1, w9, g1.tr y2, y3⟩
theorem w_N_answer {w0 : Gw} {h0 : List va_E} (hw : wfK K) (h8t : ∀ i, i ∈ dcs K → (K.tx i).length ≤ 7999) (hY : (txs K (dcs K)).flatten.length ≤ 19000) (hmd : md ≤ 2) (hX : dcX w0 h0 K pn) (hN : anC w0 h0 H) (hT : bE w0 h0 1 1 L) (hL8 : L.length ≤ 8000) : am_C X mt_N_answer (d + 4) [.ref 77, .ref 1, .int (nI md), .ref 59] h0 (fun r h1 => r = none ∧ ∃ w1, fr w0 w1 h0 h1 [77, 78, 79, 80, 81] ∧ anC w1 h1 (ansQ K pn md (qsQ L) (dcs K).length)) := by
  show am_G X mt_N_answer (d + 4) 0 [some (.ref 77), some (.ref 1), some (.int (nI md)), some (.ref 59), none, none] [] h0 _
  obtain ⟨hN_0, ⟨gh, h8_0, h8x⟩, ⟨gs, h9_0, h9x⟩, T, hQ_0⟩ := hN
  obtain ⟨hD_0, -, -, ⟨gr, hr_0, hrx⟩, -, -, hX_0⟩ := hX
  have hT_0 := hT
  have G0 : fr w0 w0 h0 h0 [77, 78, 79, 80, 81] := fr.rf
  have hsl := spl_len (M := L) L.length 0 (Nat.le_refl _) (Nat.zero_le _)
  refine g_aload_n (pc := 0) dc_N_answer_0 rfl ?_
  refine g_iconst (pc := 1) (v := 0) dc_N_answer_1 rfl ?_
  refine g_putfield (pc := 2) dc_N_answer_2 fp_N_answer_28 hN_0.1 (Nat.le_of_ble_eq_true rfl) rfl rfl ?_
  show am_G X mt_N_answer _ 5 _ _ (h0.set 77 (.inr (9, [.int (nI 0), .ref 78, .ref 79, .ref 80]))) _
  have g1 : fr w0 w0 h0 (h0.set 77 (.inr (9, [.int (nI 0), .ref 78, .ref 79, .ref 80]))) [77] := fr.st hN_0.1 rfl hN_0.2
  have hN_1 : cO w0 (h0.set 77 (.inr (9, [.int (nI 0), .ref 78, .ref 79, .ref 80]))) 77 77 (.inr (9, [.int (nI 0), .ref 78, .ref 79, .ref 80])) := ⟨am_se (am_lt hN_0.1), hN_0.2⟩
  obtain ⟨w1, hw1⟩ : ∃ w9, w9 = w0 := ⟨_, rfl⟩
  generalize (h0.set 77 (.inr (9, [.int (nI 0), .ref 78, .ref 79, .ref 80]))) = h1 at g1 hN_1 ⊢
  have g1 : fr w0 w1 h0 h1 [77] := by rw [hw1]; exact g1
  have hN_1 : cO w1 h1 77 77 (.inr (9, [.int (nI 0), .ref 78, .ref 79, .ref 80])) := by rw [hw1]; exact hN_1
  have hD_1 := hD_0.fr g1 (by decide)
  have h8_1 := h8_0.fr g1 (by decide)
  have h9_1 := h9_0.fr g1 (by decide)
  have hQ_1 := hQ_0.fr g1 (by decide) (by decide)
  have hr_1 := hr_0.fr g1 (by decide)
  have hX_1 := hX_0.fr g1 (by decide) (by decide) (by decide)
  have hT_1 := hT_0.fr g1 (by decide)
  have G1 := G0.tr (g1.mo (by decide : ∀ x, x ∈ [77] → x ∈ [77, 78, 79, 80, 81]))
  have hQc := hQ_1
  obtain ⟨bq, eq, hQr⟩ := hQc
  have hq_1 := hQr.1.1
  refine g_aload_n (pc := 5) dc_N_answer_5 rfl ?_
  refine g_getfield (pc := 6) dc_N_answer_6 fl_N_24 hN_1.1 rfl ?_
  refine g_v0 (pc := 9) (M' := mt_R_clear) dc_N_answer_9 mo_R_clear im_R_clear se_R_clear ln_N_32 hq_1 rfl rfl (Nat.le_of_ble_eq_true rfl) (Nat.le_of_ble_eq_true rfl) (am_G.mono (w_R_clear (d := d + 1) (i := 80) (j := 81) (by decide) (by decide) (by decide) hQ_1) ?_)
  intro r h2 hz
  obtain ⟨hz1, w2, g2, hQ_2⟩ := hz
  rw [hz1]
  have hN_2 := hN_1.fr g2 (by decide)
  have hD_2 := hD_1.fr g2 (by decide)
  have h8_2 := h8_1.fr g2 (by decide)
  have h9_2 := h9_1.fr g2 (by decide)
  have hr_2 := hr_1.fr g2 (by decide)
  have hX_2 := hX_1.fr g2 (by decide) (by decide) (by decide)
  have hT_2 := hT_1.fr g2 (by decide)
  have G2 := G1.tr (g2.mo (by decide : ∀ x, x ∈ [80, 81] → x ∈ [77, 78, 79, 80, 81]))
  clear hz1 r
  have hQc := hQ_2
  obtain ⟨bq, eq, hQr⟩ := hQc
  have hq_2 := hQr.1.1
  refine ⟨am_nt0, ?_⟩
  refine g_aload_n (pc := 12) dc_N_answer_12 rfl ?_
  refine g_aload_n (pc := 13) dc_N_answer_13 rfl ?_
  refine g_getfield (pc := 14) dc_N_answer_14 fl_N_24 hN_2.1 rfl ?_
  refine g_s2 (pc := 17) (M' := mt_P_splitWords) dc_N_answer_17 mo_P_splitWords st_P_splitWords ln_N_35 (Nat.le_of_ble_eq_true rfl) (Nat.le_of_ble_eq_true rfl) (am_G.mono (w_P_splitWords (d := d) (NB := 8000) (NC := 8000) (i := 80) (j := 81) (q := 1) (by decide) (by decide) (by decide) ⟨by decide, by decide⟩ hT_2 hQ_2 (by decide) (by decide) (by show 0 + _ ≤ _; omega) (by show 0 + _ ≤ _; omega)) ?_)
  intro r h3 hz
  obtain ⟨hz1, w3, g3, hQ_3⟩ := hz
  rw [hz1]
  have hN_3 := hN_2.fr g3 (by decide)
  have hD_3 := hD_2.fr g3 (by decide)
  have h8_3 := h8_2.fr g3 (by decide)
  have h9_3 := h9_2.fr g3 (by decide)
  have hr_3 := hr_2.fr g3 (by decide)
  have hX_3 := hX_2.fr g3 (by decide) (by decide) (by decide)
  have hT_3 := hT_2.fr g3 (by decide)
  have G3 := G2.tr (g3.mo (by decide : ∀ x, x ∈ [80, 81] → x ∈ [77, 78, 79, 80, 81]))
  clear hz1 r
  rw [List.nil_append] at hQ_3
  have hQc := hQ_3
  obtain ⟨bq, eq, hQr⟩ := hQc
  have hq_3 := hQr.1.1
  refine ⟨am_nt0, ?_⟩
  refine g_aload_n (pc := 20) dc_N_answer_20 rfl ?_
  refine g_getfield (pc := 21) dc_N_answer_21 fl_N_24 hN_3.1 rfl ?_
  refine g_aload_n (pc := 24) dc_N_answer_24 rfl ?_
  refine g_getfield (pc := 25) dc_N_answer_25 fl_N_24 hN_3.1 rfl ?_
  refine g_getfield (pc := 28) dc_N_answer_28 fl_N_41 hq_3 rfl ?_
  refine g_bipush (pc := 31) (v := 8) dc_N_answer_31 rfl ?_
  refine g_s2 (pc := 33) (M' := mt_JMath_min) dc_N_answer_33 mo_JMath_min st_JMath_min ln_N_42 (Nat.le_of_ble_eq_true rfl) (Nat.le_of_ble_eq_true rfl) (am_G.mono (c_JMath_min (d := d + 3) (x := (spl L 0).length) (y := 8) (by omega) (by decide)) ?_)
  intro r h1 hq
  rw [hq.1, hq.2]
  clear hq h1 r
  refine ⟨am_nti _, ?_⟩
  refine g_v1 (pc := 36) (M' := mt_R_cut) dc_N_answer_36 mo_R_cut im_R_cut se_R_cut ln_N_48 hq_3 rfl rfl (Nat.le_of_ble_eq_true rfl) (Nat.le_of_ble_eq_true rfl) (am_G.mono (w_R_cut (d := d + 2) (i := 80) (j := 81) (k := Nat.min (spl L 0).length 8) (by decide) (by decide) (by decide) hQ_3 (Nat.min_le_left _ _) (by show _ ≤ 40016; omega) (by show _ ≤ 40016; omega)) ?_)
  intro r h4 hz
  obtain ⟨hz1, w4, g4, hQ_4⟩ := hz
  rw [hz1]
  have hN_4 := hN_3.fr g4 (by decide)
  have hD_4 := hD_3.fr g4 (by decide)
  have h8_4 := h8_3.fr g4 (by decide)
  have h9_4 := h9_3.fr g4 (by decide)
  have hr_4 := hr_3.fr g4 (by decide)
  have hX_4 := hX_3.fr g4 (by decide) (by decide) (by decide)
  have hT_4 := hT_3.fr g4 (by decide)
  have G4 := G3.tr (g4.mo (by decide : ∀ x, x ∈ [80, 81] → x ∈ [77, 78, 79, 80, 81]))
  clear hz1 r
  refine ⟨am_nt0, ?_⟩
  refine g_iconst (pc := 39) (v := 0) dc_N_answer_39 rfl ?_
  refine g_istore (pc := 40) dc_N_answer_40 (by decide) ?_
  show am_G X mt_N_answer _ 42 [some (.ref 77), some (.ref 1), some (.int (nI md)), some (.ref 59), some (.int 0), none] [] _ _
  refine am_wk (am_le_s (am_le_n (am_le_s (am_le_s (am_le_s (am_le_n am_le_0)))))) ?_
  have hQ9 : rE w4 h4 80 81 80 81 (qsQ L) [] := hQ_4
  refine am_G.mono (l42_N_answer (d := d) hw h8t hY hmd qsQ_8 hrx (dcs K).length 0 w4 h4 (Nat.zero_add _) hN_4 hD_4 hX_4 hr_4 hQ9 ⟨gh, gs, h8_4, h9_4, fun j hj => absurd hj (Nat.not_lt_zero j)⟩) (fun r h9 hz => ?_)
  obtain ⟨y1, w9, y2, y3, gh9, gs9, y4, y5, y6⟩ := hz
  exact ⟨y1, w9, G4.tr (y2.mo (by decide)), y3, ⟨gh9, y4, fun j hj => (y6 j hj).1⟩, ⟨gs9, y5, fun j hj => (y6 j hj).2⟩, _, hQ9.fr y2 (by decide) (by decide)⟩
theorem n_W_ask (hW : wO w h) (hT : bE w h 1 1 L) (e : ixo p 3 = none) : am_C X mt_W_ask (d + 5) [.ref 0, .int p] h (fun r h1 => r = some (.int (-1)) ∧ ∃ w1, fr w w1 h h1 [1] ∧ bE w1 h1 1 1 []) := by
  show am_G X mt_W_ask (d + 5) 0 [some (.ref 0), some (.int p), none] [] h _
  have hout := ixo_t e
  have hT0 := hT
  obtain ⟨b1t, q1t⟩ := hT0
  refine g_iconst (pc := 0) (v := (-1)) dc_W_ask_0 rfl ?_
  refine g_istore_n (pc := 1) dc_W_ask_1 (by decide) ?_
  show am_G X mt_W_ask _ 2 [some (.ref 0), some (.int p), some (.int (-1))] [] _ _
  refine g_iload_n (pc := 2) dc_W_ask_2 rfl ?_
  refine g_if_lt (pc := 3) (tgt := 35) dc_W_ask_3 rfl (fun hc3 => ?_) (fun hc3 => ?_)
  · have hi3 : (p).toInt < (0 : Int) := Int32.lt_iff_toInt_lt.mp hc3
    refine g_aload_n (pc := 35) dc_W_ask_35 rfl ?_
    refine g_getfield (pc := 36) dc_W_ask_36 fl_W_12 hW.1 rfl ?_
    refine g_v0 (pc := 39) (M' := mt_B_clear) dc_W_ask_39 mo_B_clear im_B_clear se_B_clear ln_W_121 q1t.1.ha rfl rfl (Nat.le_of_ble_eq_true rfl) (Nat.le_of_ble_eq_true rfl) (am_G.mono (w_B_clear (d := d + 4) (i := 1) (by decide) hT) ?_)
    intro r h1 hz
    obtain ⟨y1, w1, g1, hB1⟩ := hz
    rw [y1]
    clear y1 r
    refine ⟨am_nt0, ?_⟩
    refine g_iload_n (pc := 42) dc_W_ask_42 rfl ?_
    exact g_ireturn dc_W_ask_43 rfl ⟨rfl, w1, g1, hB1⟩
  · have hi3 : ¬ ((p).toInt < (0 : Int)) := fun h9 => hc3 (Int32.lt_iff_toInt_lt.mpr h9)
    refine g_iload_n (pc := 6) dc_W_ask_6 rfl ?_
    refine g_iconst (pc := 7) (v := 2) dc_W_ask_7 rfl ?_
    refine g_icmp_gt (pc := 8) (tgt := 35) dc_W_ask_8 rfl (fun hc8 => ?_) (fun hc => absurd hc (fun h9 => h9 (Int32.lt_iff_toInt_lt.mpr (by show (2 : Int) < _; omega))))
    refine g_aload_n (pc := 35) dc_W_ask_35 rfl ?_
    refine g_getfield (pc := 36) dc_W_ask_36 fl_W_12 hW.1 rfl ?_
    refine g_v0 (pc := 39) (M' := mt_B_clear) dc_W_ask_39 mo_B_clear im_B_clear se_B_clear ln_W_121 q1t.1.ha rfl rfl (Nat.le_of_ble_eq_true rfl) (Nat.le_of_ble_eq_true rfl) (am_G.mono (w_B_clear (d := d + 4) (i := 1) (by decide) hT) ?_)
    intro r h1 hz
    obtain ⟨y1, w1, g1, hB1⟩ := hz
    rw [y1]
    clear y1 r
    refine ⟨am_nt0, ?_⟩
    refine g_iload_n (pc := 42) dc_W_ask_42 rfl ?_
    exact g_ireturn dc_W_ask_43 rfl ⟨rfl, w1, g1, hB1⟩
theorem w_W_ask (hW : wO w h) (hw : wfK K) (h8t : ∀ i, i ∈ dcs K → (K.tx i).length ≤ 7999) (hY : (txs K (dcs K)).flatten.length ≤ 19000) (hX : dcX w h K pn) (hN : anC w h H) (hT : bE w h 1 1 L) (hL8 : L.length ≤ 8000) (hmd : md < 3) : am_C X mt_W_ask (d + 5) [.ref 0, .int (nI md)] h (fun r h1 => r = some (.int (nI (ansQ K pn md (qsQ L) (dcs K).length).length)) ∧ ∃ w1, fr w w1 h h1 [1, 77, 78, 79, 80, 81] ∧ bE w1 h1 1 1 [] ∧ anC w1 h1 (ansQ K pn md (qsQ L) (dcs K).length)) := by
  show am_G X mt_W_ask (d + 5) 0 [some (.ref 0), some (.int (nI md)), none] [] h _
  have hNo := hN.1
  refine g_iconst (pc := 0) (v := (-1)) dc_W_ask_0 rfl ?_
  refine g_istore_n (pc := 1) dc_W_ask_1 (by decide) ?_
  show am_G X mt_W_ask _ 2 [some (.ref 0), some (.int (nI md)), some (.int (-1))] [] _ _
  refine g_iload_n (pc := 2) dc_W_ask_2 rfl ?_
  refine q_if_lt (pc := 3) (tgt := 35) md dc_W_ask_3 (by omega) rfl ?_
  refine g_iload_n (pc := 6) dc_W_ask_6 rfl ?_
  refine g_iconst (pc := 7) (v := 2) dc_W_ask_7 rfl ?_
  refine q_icmp_gt (pc := 8) (tgt := 35) md 2 dc_W_ask_8 (by omega) (by omega) rfl (fun hc => absurd hc (by omega)) (fun hc8 => ?_)
  refine g_aload_n (pc := 11) dc_W_ask_11 rfl ?_
  refine g_getfield (pc := 12) dc_W_ask_12 fl_W_81 hW.1 rfl ?_
  refine g_aload_n (pc := 15) dc_W_ask_15 rfl ?_
  refine g_getfield (pc := 16) dc_W_ask_16 fl_W_12 hW.1 rfl ?_
  refine g_iload_n (pc := 19) dc_W_ask_19 rfl ?_
  refine g_aload_n (pc := 20) dc_W_ask_20 rfl ?_
  refine g_getfield (pc := 21) dc_W_ask_21 fl_W_74 hW.1 rfl ?_
  refine g_v3 (pc := 24) (M' := mt_N_answer) dc_W_ask_24 mo_N_answer im_N_answer se_N_answer ln_W_268 hNo.1 rfl rfl (Nat.le_of_ble_eq_true rfl) (Nat.le_of_ble_eq_true rfl) (am_G.mono (w_N_answer (d := d) hw h8t hY (by omega) hX hN hT hL8) ?_)
  intro r h1 hz
  obtain ⟨y1, w1, g1, hN1⟩ := hz
  rw [y1]
  clear y1 r
  have hW1 := hW.fr g1 (by decide)
  have hT1 := hT.fr g1 (by decide)
  have hTc := hT1
  obtain ⟨b1t, q1t⟩ := hTc
  have hN1o := hN1.1
  refine ⟨am_nt0, ?_⟩
  refine g_aload_n (pc := 27) dc_W_ask_27 rfl ?_
  refine g_getfield (pc := 28) dc_W_ask_28 fl_W_81 hW1.1 rfl ?_
  refine g_getfield (pc := 31) dc_W_ask_31 fl_W_272 hN1o.1 rfl ?_
  refine g_istore_n (pc := 34) dc_W_ask_34 (by decide) ?_
  show am_G X mt_W_ask _ 35 [some (.ref 0), some (.int (nI md)), some (.int (nI ((ansQ K pn md (qsQ L) (dcs K).length).length)))] [] _ _
  refine g_aload_n (pc := 35) dc_W_ask_35 rfl ?_
  refine g_getfield (pc := 36) dc_W_ask_36 fl_W_12 hW1.1 rfl ?_
  refine g_v0 (pc := 39) (M' := mt_B_clear) dc_W_ask_39 mo_B_clear im_B_clear se_B_clear ln_W_121 q1t.1.ha rfl rfl (Nat.le_of_ble_eq_true rfl) (Nat.le_of_ble_eq_true rfl) (am_G.mono (w_B_clear (d := d + 4) (i := 1) (by decide) hT1) ?_)
  intro r h2 hz
  obtain ⟨y1, w2, g2, hB2⟩ := hz
  rw [y1]
  clear y1 r
  refine ⟨am_nt0, ?_⟩
  refine g_iload_n (pc := 42) dc_W_ask_42 rfl ?_
  exact g_ireturn dc_W_ask_43 rfl ⟨rfl, w2, (g1.mo (by decide)).tr (g2.mo (by decide)), hB2, hN1.fr g2 (by decide)⟩
end GBS
