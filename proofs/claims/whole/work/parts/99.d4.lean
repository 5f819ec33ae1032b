/-! ===== the class lets a site rest, and notes an asking ===== -/
/-- the askings told -/
def aqC (w : Gw) (h : List va_E) (c : Cw) : Prop := rE w h 45 46 45 46 c.aq [] ∧ ∃ gc, iA w h 49 1000 gc ∧ ∀ i, i < c.aq.length → gc i = nI (c.ac i)
section D4S
variable {X : am_X} {d i k n : Nat} {D : List Int32} {K V : Kn} {lim : Nat → Nat} {w0 w w1 : Gw} {h0 h h1 : List va_E} {st9 : Bool} {ck an sv sn : Nat} {cr : Option Nat} {I : List Nat} {c : Cw}
theorem aqC.fr (z : aqC w h c) (f : fr w w1 h h1 I) (i1 : ¬ 45 ∈ I) (i2 : ¬ 46 ∈ I) (i3 : ¬ 49 ∈ I) : aqC w1 h1 c := by
  obtain ⟨a1, gc, a2, a3⟩ := z
  exact ⟨a1.fr f i1 i2, gc, a2.fr f i3, a3⟩
theorem lsf_b {z : Nat} (hw : wfC K c) (h : lsf K c.cr D n = some z) (hn : n ≤ K.ad.length) : z ≤ c.ck := by
  rcases (lsf_ge (K := K) (cr := c.cr) (D := D) n).2.2 with q | ⟨i, a, b, q⟩
  · rw [h] at q; exact hw.2.1 z q.symm
  · rw [h] at q; have := hw.1 i z (by omega) q.symm; omega
theorem l_C_letRest (hO_0 : cO w0 h0 34 34 (cr7 st9 c.ck an sv sn c.cr)) (hR : rE w0 h0 35 36 35 36 K.ad []) (hw : wfK K) (hwc : wfC K c) (hB : bE w0 h0 51 51 D) (ho : okD D) (hat : aTC w0 h0 K) {Q : Option Value → List va_E → Prop} (KK : am_G X mt_C_letRest (d + 3) 70 [some (.ref 34), some (.int (er (lsf K c.cr D K.ad.length))), none, none] [] h0 Q) : ∀ n k : Nat, k + n = K.ad.length → am_G X mt_C_letRest (d + 3) 27 [some (.ref 34), some (.int (er (lsf K c.cr D k))), some (.int (nI (hen D + 1))), some (.int (nI k))] [] h0 Q
  | 0, k, e => by
    have h250 := hw.1
    have hRo : ∃ e9, h0[35]? = some (.inr (4, [.ref 36, .ref e9, .int (nI K.ad.length)])) := by obtain ⟨b9, e9, q1, -⟩ := hR; exact ⟨e9, q1.1⟩
    obtain ⟨e9, hRo⟩ := hRo
    obtain ⟨ga, ha, haP⟩ := hat
    obtain rfl : k = K.ad.length := by omega
    refine g_iload_n (pc := 27) dc_C_letRest_27 rfl ?_
    refine g_aload_n (pc := 28) dc_C_letRest_28 rfl ?_
    refine g_getfield (pc := 29) dc_C_letRest_29 fl_C_14 hO_0.1 rfl ?_
    refine g_getfield (pc := 32) dc_C_letRest_32 fl_C_91 hRo rfl ?_
    refine q_icmp_ge (pc := 35) (tgt := 70) K.ad.length K.ad.length dc_C_letRest_35 (by omega) (by omega) rfl (fun hc35 => ?_) (fun hc => absurd hc (by omega))
    refine am_wk (am_le_s (am_le_s (am_le_n (am_le_n am_le_0)))) ?_
    exact KK
  | n + 1, k, e => by
    have hat0 := hat
    have h250 := hw.1
    have hRo : ∃ e9, h0[35]? = some (.inr (4, [.ref 36, .ref e9, .int (nI K.ad.length)])) := by obtain ⟨b9, e9, q1, -⟩ := hR; exact ⟨e9, q1.1⟩
    obtain ⟨e9, hRo⟩ := hRo
    obtain ⟨ga, ha, haP⟩ := hat
    have es : lsf K c.cr D (k + 1) = if lgv (lsf K c.cr D k) < lgv (K.at k) ∧ sit (gT K.ad k) = sit D then K.at k else lsf K c.cr D k := rfl
    have hck : c.ck ≤ 1001 * 128000 := by have h1 := hwc.2.2.1; have h2 := hwc.2.2.2.1; omega
    have hlt := er_lt (x := lsf K c.cr D k) (y := K.at k) (fun z hz => by have := lsf_b hwc hz (by omega); omega) (fun z hz => by have := hwc.1 k z (by omega) hz; omega)
    refine g_iload_n (pc := 27) dc_C_letRest_27 rfl ?_
    refine g_aload_n (pc := 28) dc_C_letRest_28 rfl ?_
    refine g_getfield (pc := 29) dc_C_letRest_29 fl_C_14 hO_0.1 rfl ?_
    refine g_getfield (pc := 32) dc_C_letRest_32 fl_C_91 hRo rfl ?_
    refine q_icmp_ge (pc := 35) (tgt := 70) k K.ad.length dc_C_letRest_35 (by omega) (by omega) rfl (fun hc => absurd hc (by omega)) (fun hc35 => ?_)
    refine g_aload_n (pc := 38) dc_C_letRest_38 rfl ?_
    refine g_getfield (pc := 39) dc_C_letRest_39 fl_C_50 hO_0.1 rfl ?_
    refine g_iload_n (pc := 42) dc_C_letRest_42 rfl ?_
    refine q_ialoadV (pc := 43) k dc_C_letRest_43 ha.1 (by omega) (by decide) (v := er (K.at k)) (haP k (by omega)) ?_
    refine g_iload_n (pc := 44) dc_C_letRest_44 rfl ?_
    refine g_icmp_le (pc := 45) (tgt := 64) dc_C_letRest_45 rfl (fun hc45 => ?_) (fun hc45 => ?_)
    · have hi45 : ((er (K.at k))).toInt ≤ ((er (lsf K c.cr D k))).toInt := Int32.le_iff_toInt_le.mp hc45
      refine g_iinc (pc := 64) (v := (nI (k + 1))) dc_C_letRest_64 rfl (nI_add k 1) (by decide) ?_
      show am_G X mt_C_letRest _ 67 [some (.ref 34), some (.int (er (lsf K c.cr D k))), some (.int (nI (hen D + 1))), some (.int (nI (k + 1)))] [] _ _
      refine g_goto (pc := 67) (tgt := 27) dc_C_letRest_67 rfl ?_
      have e9 : lsf K c.cr D (k + 1) = lsf K c.cr D k := es.trans (if_neg (fun h9 => absurd (hlt.mpr h9.1) (Int32.not_lt.mpr hc45)))
      have h9 := l_C_letRest hO_0 hR hw hwc hB ho hat0 KK n (k + 1) (by omega)
      rw [e9] at h9
      exact h9
    · have hi45 : ¬ (((er (K.at k))).toInt ≤ ((er (lsf K c.cr D k))).toInt) := fun h9 => hc45 (Int32.le_iff_toInt_le.mpr h9)
      refine g_aload_n (pc := 48) dc_C_letRest_48 rfl ?_
      refine g_iload_n (pc := 49) dc_C_letRest_49 rfl ?_
      refine g_iload_n (pc := 50) dc_C_letRest_50 rfl ?_
      refine g_v2 (pc := 51) (M' := mt_C_beginsAsHere) dc_C_letRest_51 mo_C_beginsAsHere im_C_beginsAsHere se_C_beginsAsHere ln_C_194 hO_0.1 rfl rfl (Nat.le_of_ble_eq_true rfl) (Nat.le_of_ble_eq_true rfl) (am_G.mono (c_C_beginsAsHere (d := d + 1) hO_0 hR hw hB ho (by omega)) ?_)
      intro r h1 hq
      rw [hq.1, hq.2]
      clear hq h1 r
      refine ⟨am_nti _, ?_⟩
      refine q_ifb_eq (pc := 54) (tgt := 64) dc_C_letRest_54 rfl (fun hc54 => ?_) (fun hc54 => ?_)
      · refine g_iinc (pc := 64) (v := (nI (k + 1))) dc_C_letRest_64 rfl (nI_add k 1) (by decide) ?_
        show am_G X mt_C_letRest _ 67 [some (.ref 34), some (.int (er (lsf K c.cr D k))), some (.int (nI (hen D + 1))), some (.int (nI (k + 1)))] [] _ _
        refine g_goto (pc := 67) (tgt := 27) dc_C_letRest_67 rfl ?_
        have e9 : lsf K c.cr D (k + 1) = lsf K c.cr D k := es.trans (if_neg (fun h9 => of_decide_eq_false hc54 h9.2))
        have h9 := l_C_letRest hO_0 hR hw hwc hB ho hat0 KK n (k + 1) (by omega)
        rw [e9] at h9
        exact h9
      · refine g_aload_n (pc := 57) dc_C_letRest_57 rfl ?_
        refine g_getfield (pc := 58) dc_C_letRest_58 fl_C_50 hO_0.1 rfl ?_
        refine g_iload_n (pc := 61) dc_C_letRest_61 rfl ?_
        refine q_ialoadV (pc := 62) k dc_C_letRest_62 ha.1 (by omega) (by decide) (v := er (K.at k)) (haP k (by omega)) ?_
        refine g_istore_n (pc := 63) dc_C_letRest_63 (by decide) ?_
        show am_G X mt_C_letRest _ 64 [some (.ref 34), some (.int (er (K.at k))), some (.int (nI (hen D + 1))), some (.int (nI k))] [] _ _
        refine g_iinc (pc := 64) (v := (nI (k + 1))) dc_C_letRest_64 rfl (nI_add k 1) (by decide) ?_
        show am_G X mt_C_letRest _ 67 [some (.ref 34), some (.int (er (K.at k))), some (.int (nI (hen D + 1))), some (.int (nI (k + 1)))] [] _ _
        refine g_goto (pc := 67) (tgt := 27) dc_C_letRest_67 rfl ?_
        have e9 : lsf K c.cr D (k + 1) = K.at k := es.trans (if_pos ⟨hlt.mp (Int32.not_le.mp hc45), of_decide_eq_true hc54⟩)
        have h9 := l_C_letRest hO_0 hR hw hwc hB ho hat0 KK n (k + 1) (by omega)
        rw [e9] at h9
        exact h9
theorem w_C_letRest (hO_0 : cO w0 h0 34 34 (cr7 st9 c.ck an sv sn c.cr)) (hR : rE w0 h0 35 36 35 36 K.ad []) (hw : wfK K) (hwc : wfC K c) (hB : bE w0 h0 51 51 D) (ho : okD D) (hat : aTC w0 h0 K) (hlm : lmC w0 h0 lim) (hl2 : lim 2 ≤ 1000) : am_C X mt_C_letRest (d + 3) [.ref 34] h0 (fun r h1 => r = none ∧ ∃ w1, fr w0 w1 h0 h1 [34] ∧ cO w1 h1 34 34 (cr7 st9 (ckr lim K c D) an sv sn c.cr)) := by
  show am_G X mt_C_letRest (d + 3) 0 [some (.ref 34), none, none, none] [] h0 _
  have hat0 := hat
  obtain ⟨bh, bb1⟩ := hB
  have hhh := bb1.1.ha
  have d1 := ho.2.1
  have d2 := ho.2.2.1
  have d3 := ho.2.2.2.2.1
  obtain ⟨gl, hl, hlP⟩ := hlm
  have hl22 := hlP 2 (by decide)
  have hck : c.ck ≤ 1001 * 128000 := by have h1 := hwc.2.2.1; have h2 := hwc.2.2.2.1; omega
  have hb9 : ∀ z, lsf K c.cr D K.ad.length = some z → z < 2 ^ 31 := fun z hz => by have := lsf_b hwc hz (Nat.le_refl _); omega
  have hcrb : ∀ z, c.cr = some z → z < 2 ^ 31 := fun z hz => by have := hwc.2.1 z hz; omega
  obtain ⟨oo, hoo⟩ : ∃ oo, oo = lsf K c.cr D K.ad.length := ⟨_, rfl⟩
  have hb8 : ∀ z, oo = some z → z < 2 ^ 31 := fun z hz => hb9 z (hoo.symm.trans hz)
  have G0 : fr w0 w0 h0 h0 [34] := fr.rf
  refine g_aload_n (pc := 0) dc_C_letRest_0 rfl ?_
  refine g_getfield (pc := 1) dc_C_letRest_1 fl_C_82 hO_0.1 rfl ?_
  refine g_istore_n (pc := 4) dc_C_letRest_4 (by decide) ?_
  show am_G X mt_C_letRest _ 5 [some (.ref 34), some (.int (er c.cr)), none, none] [] _ _
  refine g_aload_n (pc := 5) dc_C_letRest_5 rfl ?_
  refine g_getfield (pc := 6) dc_C_letRest_6 fl_C_46 hO_0.1 rfl ?_
  refine g_getfield (pc := 9) dc_C_letRest_9 fl_C_97 hhh rfl ?_
  refine g_aload_n (pc := 12) dc_C_letRest_12 rfl ?_
  refine g_getfield (pc := 13) dc_C_letRest_13 fl_C_46 hO_0.1 rfl ?_
  refine g_getfield (pc := 16) dc_C_letRest_16 fl_C_183 hhh rfl ?_
  refine g_s2 (pc := 19) (M' := mt_W_siteTo) dc_C_letRest_19 mo_W_siteTo st_W_siteTo ln_C_190 (Nat.le_of_ble_eq_true rfl) (Nat.le_of_ble_eq_true rfl) (am_G.mono (t_siteTo (d := d) (t := D.length) bb1.1.ttb.tt (by omega) (by omega)) ?_)
  intro r h1 hq
  rw [hq.1, hq.2]
  clear hq h1 r
  refine ⟨am_nti _, ?_⟩
  refine g_iconst (pc := 22) (v := 1) dc_C_letRest_22 rfl ?_
  refine g_iadd (pc := 23) (v := (nI (hen D + 1))) dc_C_letRest_23 (nI_add (hen D) 1) ?_
  refine g_istore_n (pc := 24) dc_C_letRest_24 (by decide) ?_
  show am_G X mt_C_letRest _ 25 [some (.ref 34), some (.int (er c.cr)), some (.int (nI (hen D + 1))), none] [] _ _
  refine g_iconst (pc := 25) (v := 0) dc_C_letRest_25 rfl ?_
  refine g_istore_n (pc := 26) dc_C_letRest_26 (by decide) ?_
  show am_G X mt_C_letRest _ 27 [some (.ref 34), some (.int (er c.cr)), some (.int (nI (hen D + 1))), some (.int 0)] [] _ _
  refine l_C_letRest hO_0 hR hw hwc ⟨bh, bb1⟩ ho hat0 ?_ K.ad.length 0 (by omega)
  rw [← hoo]
  refine g_iload_n (pc := 70) dc_C_letRest_70 rfl ?_
  refine g_iconst (pc := 71) (v := (-1)) dc_C_letRest_71 rfl ?_
  refine q_o_eq (pc := 72) (tgt := 94) dc_C_letRest_72 hb8 rfl (fun hc72 => ?_) (fun k72 hc72 => ?_)
  · rw [hc72]
    have ec : ckr lim K c D = c.ck := by unfold ckr; rw [← hoo, hc72]
    rw [ec]
    exact g_return dc_C_letRest_94 rfl ⟨rfl, w0, G0, hO_0⟩
  · rw [hc72]
    rw [show er (some k72) = nI k72 from rfl]
    have hk72 := hb8 k72 hc72
    have hz72 := lsf_b hwc (hoo.symm.trans hc72) (Nat.le_refl _)
    refine g_aload_n (pc := 75) dc_C_letRest_75 rfl ?_
    refine g_aload_n (pc := 76) dc_C_letRest_76 rfl ?_
    refine g_getfield (pc := 77) dc_C_letRest_77 fl_C_78 hO_0.1 rfl ?_
    refine g_iload_n (pc := 80) dc_C_letRest_80 rfl ?_
    refine g_aload_n (pc := 81) dc_C_letRest_81 rfl ?_
    refine g_getfield (pc := 82) dc_C_letRest_82 fl_C_38 hO_0.1 rfl ?_
    refine g_iconst (pc := 85) (v := 2) dc_C_letRest_85 rfl ?_
    refine q_ialoadV (pc := 86) 2 dc_C_letRest_86 hl.1 (by decide) (by decide) (v := nI (lim 2)) hl22 ?_
    refine g_iadd (pc := 87) (v := (nI (k72 + (lim 2)))) dc_C_letRest_87 (nI_add k72 (lim 2)) ?_
    refine g_s2 (pc := 88) (M' := mt_JMath_max) dc_C_letRest_88 mo_JMath_max st_JMath_max ln_C_198 (Nat.le_of_ble_eq_true rfl) (Nat.le_of_ble_eq_true rfl) (am_G.mono (c_JMath_max (x := c.ck) (y := k72 + lim 2) (by omega) (by omega)) ?_)
    intro r h1 hq
    rw [hq.1, hq.2]
    clear hq h1 r
    refine ⟨am_nti _, ?_⟩
    refine g_putfield (pc := 91) dc_C_letRest_91 fp_C_letRest_78 hO_0.1 (Nat.le_of_ble_eq_true rfl) rfl rfl ?_
    show am_G X mt_C_letRest _ 94 _ _ (h0.set 34 (cr7 st9 (Nat.max c.ck (k72 + lim 2)) an sv sn c.cr)) _
    have g1 : fr w0 w0 h0 (h0.set 34 (cr7 st9 (Nat.max c.ck (k72 + lim 2)) an sv sn c.cr)) [34] := fr.st hO_0.1 rfl hO_0.2
    have hO_1 : cO w0 (h0.set 34 (cr7 st9 (Nat.max c.ck (k72 + lim 2)) an sv sn c.cr)) 34 34 (cr7 st9 (Nat.max c.ck (k72 + lim 2)) an sv sn c.cr) := ⟨am_se (am_lt hO_0.1), hO_0.2⟩
    obtain ⟨w1, hw1⟩ : ∃ w9, w9 = w0 := ⟨_, rfl⟩
    generalize (h0.set 34 (cr7 st9 (Nat.max c.ck (k72 + lim 2)) an sv sn c.cr)) = h1 at g1 hO_1 ⊢
    have g1 : fr w0 w1 h0 h1 [34] := by rw [hw1]; exact g1
    have hO_1 : cO w1 h1 34 34 (cr7 st9 (Nat.max c.ck (k72 + lim 2)) an sv sn c.cr) := by rw [hw1]; exact hO_1
    have G1 := G0.tr (g1.mo (by decide : ∀ x, x ∈ [34] → x ∈ [34]))
    have ec : ckr lim K c D = Nat.max c.ck (k72 + lim 2) := by unfold ckr; rw [← hoo, hc72]
    rw [ec]
    exact g_return dc_C_letRest_94 rfl ⟨rfl, w1, G1, hO_1⟩
theorem w_R_add0 {a ab c0 j q f t : Nat} {T : List (List Int32)} {M : List Int32} (hi : i < 400) (hj : j < 400) (hij : ¬ i = j) (hR : rE w h i j a ab T []) (hx : tO w h q c0 0 M) (hq : ¬ q = i ∧ ¬ q = j) (hft : f ≤ t) (ht : t ≤ M.length) (hl : 2 * (T.flatten.length + (t - f)) + 16 ≤ kb j) (hl2 : 2 * T.length + 18 ≤ kb i) : am_C X mt_R_add (d + 3) [.ref a, .ref c0, .int (nI f), .int (nI t)] h (fun r h1 => r = none ∧ ∃ w1, fr w w1 h h1 [i, j] ∧ rE w1 h1 i j a ab (T ++ [sub M f t]) []) := by
  have h9 := w_R_add (X := X) (d := d) (s := 0) hi hj hij hR hx hq hft ht hl hl2
  rw [Nat.zero_add, Nat.zero_add] at h9
  exact h9
theorem w_C_noteAsking {ck1 : Nat} (hO_0 : cO w0 h0 34 34 (cr7 st9 ck1 c.an sv c.sn c.cr)) (hq : aqC w0 h0 c) (hat : aTC w0 h0 K) (hw : wfK K) (hwc : wfC K c) (hB_0 : bE w0 h0 51 51 D) (ho : okD D) (hi : i < K.ad.length) (hck : ck1 ≤ 2 ^ 30) : am_C X mt_C_noteAsking (d + 4) [.ref 34, .int (nI i)] h0 (fun r h1 => r = none ∧ ∃ w1, fr w0 w1 h0 h1 [34, 45, 46, 49, 53] ∧ cO w1 h1 34 34 (cr7 st9 (ck1 + 1) (c.an + 1) sv (c.sn + 1) c.cr) ∧ aqC w1 h1 (ck1 + 1, c.an + 1, c.sn + 1, c.cr, (if c.an < 1000 then c.aq ++ [D] else c.aq), upf c.ac c.an ck1) ∧ aTC w1 h1 (K.ad, K.st, K.dp, K.ch, K.ld, K.tx, upf K.at i (some ck1))) := by
  show am_G X mt_C_noteAsking (d + 4) 0 [some (.ref 34), some (.int (nI i))] [] h0 _
  obtain ⟨hA_0, gc, hc_0, hcP⟩ := hq
  obtain ⟨ga, ha_0, haP⟩ := hat
  have h250 := hw.1
  have G0 : fr w0 w0 h0 h0 [34, 45, 46, 49, 53] := fr.rf
  have hAo : ∃ e9, h0[45]? = some (.inr (4, [.ref 46, .ref e9, .int (nI c.aq.length)])) := by obtain ⟨b9, e9, q1, -⟩ := hA_0; exact ⟨e9, q1.1⟩
  obtain ⟨e9, hAo⟩ := hAo
  have hcl := hwc.2.2.2.2.1
  have hca := hwc.2.2.2.1
  have hsn := hwc.2.2.2.2.2.2
  have hfl := ok_fl c.aq hwc.2.2.2.2.2.1
  have d3 := ho.2.2.2.2.1
  have hat9 : ∀ i1, i1 < K.ad.length → upd ga i (nI ck1) i1 = er (upf K.at i (some ck1) i1) := fun i1 hi1 => by
    by_cases e : i1 = i
    · rw [e, upd_s, upf_s]; rfl
    · rw [upd_n e, upf_n e]; exact haP i1 hi1
  refine g_aload_n (pc := 0) dc_C_noteAsking_0 rfl ?_
  refine g_getfield (pc := 1) dc_C_noteAsking_1 fl_C_31 hO_0.1 rfl ?_
  refine g_getfield (pc := 4) dc_C_noteAsking_4 fl_C_91 hAo rfl ?_
  refine g_sipush (pc := 7) (v := 1000) dc_C_noteAsking_7 rfl ?_
  refine q_icmp_ge (pc := 10) (tgt := 51) c.aq.length 1000 dc_C_noteAsking_10 (by omega) (by omega) rfl (fun hc10 => ?_) (fun hc10 => ?_)
  · refine g_aload_n (pc := 51) dc_C_noteAsking_51 rfl ?_
    refine g_getfield (pc := 52) dc_C_noteAsking_52 fl_C_50 hO_0.1 rfl ?_
    refine g_iload_n (pc := 55) dc_C_noteAsking_55 rfl ?_
    refine g_aload_n (pc := 56) dc_C_noteAsking_56 rfl ?_
    refine g_getfield (pc := 57) dc_C_noteAsking_57 fl_C_78 hO_0.1 rfl ?_
    refine q_iastore (pc := 60) i dc_C_noteAsking_60 ha_0.1 (by omega) (by decide) ?_
    have g1 : fr w0 w0 h0 (h0.set 53 (.inl (1, 250, .inl (upd ga i (nI ck1))))) [53] := fr.st ha_0.1 rfl ha_0.2
    have ha_1 : iA w0 (h0.set 53 (.inl (1, 250, .inl (upd ga i (nI ck1))))) 53 250 (upd ga i (nI ck1)) := ⟨am_se (am_lt ha_0.1), ha_0.2⟩
    obtain ⟨w1, hw1⟩ : ∃ w9, w9 = w0 := ⟨_, rfl⟩
    generalize (h0.set 53 (.inl (1, 250, .inl (upd ga i (nI ck1))))) = h1 at g1 ha_1 ⊢
    have g1 : fr w0 w1 h0 h1 [53] := by rw [hw1]; exact g1
    have ha_1 : iA w1 h1 53 250 (upd ga i (nI ck1)) := by rw [hw1]; exact ha_1
    have hO_1 := hO_0.fr g1 (by decide)
    have hA_1 := hA_0.fr g1 (by decide) (by decide)
    have hc_1 := hc_0.fr g1 (by decide)
    have hB_1 := hB_0.fr g1 (by decide)
    have G1 := G0.tr (g1.mo (by decide : ∀ x, x ∈ [53] → x ∈ [34, 45, 46, 49, 53]))
    refine g_aload_n (pc := 61) dc_C_noteAsking_61 rfl ?_
    refine g_dup (pc := 62) dc_C_noteAsking_62 rfl ?_
    refine g_getfield (pc := 63) dc_C_noteAsking_63 fl_C_85 hO_1.1 rfl ?_
    refine g_iconst (pc := 66) (v := 1) dc_C_noteAsking_66 rfl ?_
    refine g_iadd (pc := 67) (v := (nI (c.an + 1))) dc_C_noteAsking_67 (nI_add c.an 1) ?_
    refine g_putfield (pc := 68) dc_C_noteAsking_68 fp_C_noteAsking_85 hO_1.1 (Nat.le_of_ble_eq_true rfl) rfl rfl ?_
    show am_G X mt_C_noteAsking _ 71 _ _ (h1.set 34 (cr7 st9 ck1 (c.an + 1) sv c.sn c.cr)) _
    have g2 : fr w1 w1 h1 (h1.set 34 (cr7 st9 ck1 (c.an + 1) sv c.sn c.cr)) [34] := fr.st hO_1.1 rfl hO_1.2
    have hO_2 : cO w1 (h1.set 34 (cr7 st9 ck1 (c.an + 1) sv c.sn c.cr)) 34 34 (cr7 st9 ck1 (c.an + 1) sv c.sn c.cr) := ⟨am_se (am_lt hO_1.1), hO_1.2⟩
    obtain ⟨w2, hw2⟩ : ∃ w9, w9 = w1 := ⟨_, rfl⟩
    generalize (h1.set 34 (cr7 st9 ck1 (c.an + 1) sv c.sn c.cr)) = h2 at g2 hO_2 ⊢
    have g2 : fr w1 w2 h1 h2 [34] := by rw [hw2]; exact g2
    have hO_2 : cO w2 h2 34 34 (cr7 st9 ck1 (c.an + 1) sv c.sn c.cr) := by rw [hw2]; exact hO_2
    have hA_2 := hA_1.fr g2 (by decide) (by decide)
    have hc_2 := hc_1.fr g2 (by decide)
    have ha_2 := ha_1.fr g2 (by decide)
    have hB_2 := hB_1.fr g2 (by decide)
    have G2 := G1.tr (g2.mo (by decide : ∀ x, x ∈ [34] → x ∈ [34, 45, 46, 49, 53]))
    refine g_aload_n (pc := 71) dc_C_noteAsking_71 rfl ?_
    refine g_dup (pc := 72) dc_C_noteAsking_72 rfl ?_
    refine g_getfield (pc := 73) dc_C_noteAsking_73 fl_C_177 hO_2.1 rfl ?_
    refine g_iconst (pc := 76) (v := 1) dc_C_noteAsking_76 rfl ?_
    refine g_iadd (pc := 77) (v := (nI (c.sn + 1))) dc_C_noteAsking_77 (nI_add c.sn 1) ?_
    refine g_putfield (pc := 78) dc_C_noteAsking_78 fp_C_noteAsking_177 hO_2.1 (Nat.le_of_ble_eq_true rfl) rfl rfl ?_
    show am_G X mt_C_noteAsking _ 81 _ _ (h2.set 34 (cr7 st9 ck1 (c.an + 1) sv (c.sn + 1) c.cr)) _
    have g3 : fr w2 w2 h2 (h2.set 34 (cr7 st9 ck1 (c.an + 1) sv (c.sn + 1) c.cr)) [34] := fr.st hO_2.1 rfl hO_2.2
    have hO_3 : cO w2 (h2.set 34 (cr7 st9 ck1 (c.an + 1) sv (c.sn + 1) c.cr)) 34 34 (cr7 st9 ck1 (c.an + 1) sv (c.sn + 1) c.cr) := ⟨am_se (am_lt hO_2.1), hO_2.2⟩
    obtain ⟨w3, hw3⟩ : ∃ w9, w9 = w2 := ⟨_, rfl⟩
    generalize (h2.set 34 (cr7 st9 ck1 (c.an + 1) sv (c.sn + 1) c.cr)) = h3 at g3 hO_3 ⊢
    have g3 : fr w2 w3 h2 h3 [34] := by rw [hw3]; exact g3
    have hO_3 : cO w3 h3 34 34 (cr7 st9 ck1 (c.an + 1) sv (c.sn + 1) c.cr) := by rw [hw3]; exact hO_3
    have hA_3 := hA_2.fr g3 (by decide) (by decide)
    have hc_3 := hc_2.fr g3 (by decide)
    have ha_3 := ha_2.fr g3 (by decide)
    have hB_3 := hB_2.fr g3 (by decide)
    have G3 := G2.tr (g3.mo (by decide : ∀ x, x ∈ [34] → x ∈ [34, 45, 46, 49, 53]))
    refine g_aload_n (pc := 81) dc_C_noteAsking_81 rfl ?_
    refine g_dup (pc := 82) dc_C_noteAsking_82 rfl ?_
    refine g_getfield (pc := 83) dc_C_noteAsking_83 fl_C_78 hO_3.1 rfl ?_
    refine g_iconst (pc := 86) (v := 1) dc_C_noteAsking_86 rfl ?_
    refine g_iadd (pc := 87) (v := (nI (ck1 + 1))) dc_C_noteAsking_87 (nI_add ck1 1) ?_
    refine g_putfield (pc := 88) dc_C_noteAsking_88 fp_C_noteAsking_78 hO_3.1 (Nat.le_of_ble_eq_true rfl) rfl rfl ?_
    show am_G X mt_C_noteAsking _ 91 _ _ (h3.set 34 (cr7 st9 (ck1 + 1) (c.an + 1) sv (c.sn + 1) c.cr)) _
    have g4 : fr w3 w3 h3 (h3.set 34 (cr7 st9 (ck1 + 1) (c.an + 1) sv (c.sn + 1) c.cr)) [34] := fr.st hO_3.1 rfl hO_3.2
    have hO_4 : cO w3 (h3.set 34 (cr7 st9 (ck1 + 1) (c.an + 1) sv (c.sn + 1) c.cr)) 34 34 (cr7 st9 (ck1 + 1) (c.an + 1) sv (c.sn + 1) c.cr) := ⟨am_se (am_lt hO_3.1), hO_3.2⟩
    obtain ⟨w4, hw4⟩ : ∃ w9, w9 = w3 := ⟨_, rfl⟩
    generalize (h3.set 34 (cr7 st9 (ck1 + 1) (c.an + 1) sv (c.sn + 1) c.cr)) = h4 at g4 hO_4 ⊢
    have g4 : fr w3 w4 h3 h4 [34] := by rw [hw4]; exact g4
    have hO_4 : cO w4 h4 34 34 (cr7 st9 (ck1 + 1) (c.an + 1) sv (c.sn + 1) c.cr) := by rw [hw4]; exact hO_4
    have hA_4 := hA_3.fr g4 (by decide) (by decide)
    have hc_4 := hc_3.fr g4 (by decide)
    have ha_4 := ha_3.fr g4 (by decide)
    have hB_4 := hB_3.fr g4 (by decide)
    have G4 := G3.tr (g4.mo (by decide : ∀ x, x ∈ [34] → x ∈ [34, 45, 46, 49, 53]))
    have hq9 : ∀ j, j < c.aq.length → gc j = nI (upf c.ac c.an ck1 j) := fun j hj => by rw [upf_n (by omega)]; exact hcP j hj
    rw [if_neg (show ¬ c.an < 1000 by omega)]
    exact g_return dc_C_noteAsking_91 rfl ⟨rfl, w4, G4, hO_4, ⟨hA_4, _, hc_4, hq9⟩, ⟨_, ha_4, hat9⟩⟩
  · refine g_aload_n (pc := 13) dc_C_noteAsking_13 rfl ?_
    refine g_getfield (pc := 14) dc_C_noteAsking_14 fl_C_34 hO_0.1 rfl ?_
    refine g_aload_n (pc := 17) dc_C_noteAsking_17 rfl ?_
    refine g_getfield (pc := 18) dc_C_noteAsking_18 fl_C_31 hO_0.1 rfl ?_
    refine g_getfield (pc := 21) dc_C_noteAsking_21 fl_C_91 hAo rfl ?_
    refine g_aload_n (pc := 24) dc_C_noteAsking_24 rfl ?_
    refine g_getfield (pc := 25) dc_C_noteAsking_25 fl_C_78 hO_0.1 rfl ?_
    refine q_iastore (pc := 28) c.aq.length dc_C_noteAsking_28 hc_0.1 (by omega) (by decide) ?_
    have g1 : fr w0 w0 h0 (h0.set 49 (.inl (1, 1000, .inl (upd gc c.aq.length (nI ck1))))) [49] := fr.st hc_0.1 rfl hc_0.2
    have hc_1 : iA w0 (h0.set 49 (.inl (1, 1000, .inl (upd gc c.aq.length (nI ck1))))) 49 1000 (upd gc c.aq.length (nI ck1)) := ⟨am_se (am_lt hc_0.1), hc_0.2⟩
    obtain ⟨w1, hw1⟩ : ∃ w9, w9 = w0 := ⟨_, rfl⟩
    generalize (h0.set 49 (.inl (1, 1000, .inl (upd gc c.aq.length (nI ck1))))) = h1 at g1 hc_1 ⊢
    have g1 : fr w0 w1 h0 h1 [49] := by rw [hw1]; exact g1
    have hc_1 : iA w1 h1 49 1000 (upd gc c.aq.length (nI ck1)) := by rw [hw1]; exact hc_1
    have hO_1 := hO_0.fr g1 (by decide)
    have hA_1 := hA_0.fr g1 (by decide) (by decide)
    have ha_1 := ha_0.fr g1 (by decide)
    have hB_1 := hB_0.fr g1 (by decide)
    have G1 := G0.tr (g1.mo (by decide : ∀ x, x ∈ [49] → x ∈ [34, 45, 46, 49, 53]))
    obtain ⟨b51, q51⟩ := hB_1
    have hh51 := q51.1.ha
    have hAo1 : ∃ e9, h1[45]? = some (.inr (4, [.ref 46, .ref e9, .int (nI c.aq.length)])) := by obtain ⟨b9, e9, q1, -⟩ := hA_1; exact ⟨e9, q1.1⟩
    obtain ⟨e91, hA_1_o⟩ := hAo1
    have hB_1 := q51.e
    refine g_aload_n (pc := 29) dc_C_noteAsking_29 rfl ?_
    refine g_getfield (pc := 30) dc_C_noteAsking_30 fl_C_31 hO_1.1 rfl ?_
    refine g_aload_n (pc := 33) dc_C_noteAsking_33 rfl ?_
    refine g_getfield (pc := 34) dc_C_noteAsking_34 fl_C_46 hO_1.1 rfl ?_
    refine g_getfield (pc := 37) dc_C_noteAsking_37 fl_C_97 hh51 rfl ?_
    refine g_iconst (pc := 40) (v := 0) dc_C_noteAsking_40 rfl ?_
    refine g_aload_n (pc := 41) dc_C_noteAsking_41 rfl ?_
    refine g_getfield (pc := 42) dc_C_noteAsking_42 fl_C_46 hO_1.1 rfl ?_
    refine g_getfield (pc := 45) dc_C_noteAsking_45 fl_C_183 hh51 rfl ?_
    refine g_v3 (pc := 48) (M' := mt_R_add) dc_C_noteAsking_48 mo_R_add im_R_add se_R_add ln_C_208 (hA_1_o) rfl rfl (Nat.le_of_ble_eq_true rfl) (Nat.le_of_ble_eq_true rfl) (am_G.mono (w_R_add0 (d := d) (i := 45) (j := 46) (q := 51) (by decide) (by decide) (by decide) hA_1 q51.tO (by decide) (Nat.zero_le _) (Nat.le_refl _) (by show _ ≤ 400016; omega) (by show _ ≤ 40016; omega)) ?_)
    intro r h2 hz
    obtain ⟨hz1, w2, g2, hA_2⟩ := hz
    rw [hz1]
    have hO_2 := hO_1.fr g2 (by decide)
    have hc_2 := hc_1.fr g2 (by decide)
    have ha_2 := ha_1.fr g2 (by decide)
    have hB_2 := hB_1.fr g2 (by decide)
    have G2 := G1.tr (g2.mo (by decide : ∀ x, x ∈ [45, 46] → x ∈ [34, 45, 46, 49, 53]))
    clear hz1 r
    rw [show sub D 0 D.length = D from sub_all rfl] at hA_2
    refine ⟨am_nt0, ?_⟩
    refine g_aload_n (pc := 51) dc_C_noteAsking_51 rfl ?_
    refine g_getfield (pc := 52) dc_C_noteAsking_52 fl_C_50 hO_2.1 rfl ?_
    refine g_iload_n (pc := 55) dc_C_noteAsking_55 rfl ?_
    refine g_aload_n (pc := 56) dc_C_noteAsking_56 rfl ?_
    refine g_getfield (pc := 57) dc_C_noteAsking_57 fl_C_78 hO_2.1 rfl ?_
    refine q_iastore (pc := 60) i dc_C_noteAsking_60 ha_2.1 (by omega) (by decide) ?_
    have g3 : fr w2 w2 h2 (h2.set 53 (.inl (1, 250, .inl (upd ga i (nI ck1))))) [53] := fr.st ha_2.1 rfl ha_2.2
    have ha_3 : iA w2 (h2.set 53 (.inl (1, 250, .inl (upd ga i (nI ck1))))) 53 250 (upd ga i (nI ck1)) := ⟨am_se (am_lt ha_2.1), ha_2.2⟩
    obtain ⟨w3, hw3⟩ : ∃ w9, w9 = w2 := ⟨_, rfl⟩
    generalize (h2.set 53 (.inl (1, 250, .inl (upd ga i (nI ck1))))) = h3 at g3 ha_3 ⊢
    have g3 : fr w2 w3 h2 h3 [53] := by rw [hw3]; exact g3
    have ha_3 : iA w3 h3 53 250 (upd ga i (nI ck1)) := by rw [hw3]; exact ha_3
    have hO_3 := hO_2.fr g3 (by decide)
    have hA_3 := hA_2.fr g3 (by decide) (by decide)
    have hc_3 := hc_2.fr g3 (by decide)
    have hB_3 := hB_2.fr g3 (by decide)
    have G3 := G2.tr (g3.mo (by decide : ∀ x, x ∈ [53] → x ∈ [34, 45, 46, 49, 53]))
    refine g_aload_n (pc := 61) dc_C_noteAsking_61 rfl ?_
    refine g_dup (pc := 62) dc_C_noteAsking_62 rfl ?_
    refine g_getfield (pc := 63) dc_C_noteAsking_63 fl_C_85 hO_3.1 rfl ?_
    refine g_iconst (pc := 66) (v := 1) dc_C_noteAsking_66 rfl ?_
    refine g_iadd (pc := 67) (v := (nI (c.an + 1))) dc_C_noteAsking_67 (nI_add c.an 1) ?_
    refine g_putfield (pc := 68) dc_C_noteAsking_68 fp_C_noteAsking_85 hO_3.1 (Nat.le_of_ble_eq_true rfl) rfl rfl ?_
    show am_G X mt_C_noteAsking _ 71 _ _ (h3.set 34 (cr7 st9 ck1 (c.an + 1) sv c.sn c.cr)) _
    have g4 : fr w3 w3 h3 (h3.set 34 (cr7 st9 ck1 (c.an + 1) sv c.sn c.cr)) [34] := fr.st hO_3.1 rfl hO_3.2
    have hO_4 : cO w3 (h3.set 34 (cr7 st9 ck1 (c.an + 1) sv c.sn c.cr)) 34 34 (cr7 st9 ck1 (c.an + 1) sv c.sn c.cr) := ⟨am_se (am_lt hO_3.1), hO_3.2⟩
    obtain ⟨w4, hw4⟩ : ∃ w9, w9 = w3 := ⟨_, rfl⟩
    generalize (h3.set 34 (cr7 st9 ck1 (c.an + 1) sv c.sn c.cr)) = h4 at g4 hO_4 ⊢
    have g4 : fr w3 w4 h3 h4 [34] := by rw [hw4]; exact g4
    have hO_4 : cO w4 h4 34 34 (cr7 st9 ck1 (c.an + 1) sv c.sn c.cr) := by rw [hw4]; exact hO_4
    have hA_4 := hA_3.fr g4 (by decide) (by decide)
    have hc_4 := hc_3.fr g4 (by decide)
    have ha_4 := ha_3.fr g4 (by decide)
    have hB_4 := hB_3.fr g4 (by decide)
    have G4 := G3.tr (g4.mo (by decide : ∀ x, x ∈ [34] → x ∈ [34, 45, 46, 49, 53]))
    refine g_aload_n (pc := 71) dc_C_noteAsking_71 rfl ?_
    refine g_dup (pc := 72) dc_C_noteAsking_72 rfl ?_
    refine g_getfield (pc := 73) dc_C_noteAsking_73 fl_C_177 hO_4.1 rfl ?_
    refine g_iconst (pc := 76) (v := 1) dc_C_noteAsking_76 rfl ?_
    refine g_iadd (pc := 77) (v := (nI (c.sn + 1))) dc_C_noteAsking_77 (nI_add c.sn 1) ?_
    refine g_putfield (pc := 78) dc_C_noteAsking_78 fp_C_noteAsking_177 hO_4.1 (Nat.le_of_ble_eq_true rfl) rfl rfl ?_
    show am_G X mt_C_noteAsking _ 81 _ _ (h4.set 34 (cr7 st9 ck1 (c.an + 1) sv (c.sn + 1) c.cr)) _
    have g5 : fr w4 w4 h4 (h4.set 34 (cr7 st9 ck1 (c.an + 1) sv (c.sn + 1) c.cr)) [34] := fr.st hO_4.1 rfl hO_4.2
    have hO_5 : cO w4 (h4.set 34 (cr7 st9 ck1 (c.an + 1) sv (c.sn + 1) c.cr)) 34 34 (cr7 st9 ck1 (c.an + 1) sv (c.sn + 1) c.cr) := ⟨am_se (am_lt hO_4.1), hO_4.2⟩
    obtain ⟨w5, hw5⟩ : ∃ w9, w9 = w4 := ⟨_, rfl⟩
    generalize (h4.set 34 (cr7 st9 ck1 (c.an + 1) sv (c.sn + 1) c.cr)) = h5 at g5 hO_5 ⊢
    have g5 : fr w4 w5 h4 h5 [34] := by rw [hw5]; exact g5
    have hO_5 : cO w5 h5 34 34 (cr7 st9 ck1 (c.an + 1) sv (c.sn + 1) c.cr) := by rw [hw5]; exact hO_5
    have hA_5 := hA_4.fr g5 (by decide) (by decide)
    have hc_5 := hc_4.fr g5 (by decide)
    have ha_5 := ha_4.fr g5 (by decide)
    have hB_5 := hB_4.fr g5 (by decide)
    have G5 := G4.tr (g5.mo (by decide : ∀ x, x ∈ [34] → x ∈ [34, 45, 46, 49, 53]))
    refine g_aload_n (pc := 81) dc_C_noteAsking_81 rfl ?_
    refine g_dup (pc := 82) dc_C_noteAsking_82 rfl ?_
    refine g_getfield (pc := 83) dc_C_noteAsking_83 fl_C_78 hO_5.1 rfl ?_
    refine g_iconst (pc := 86) (v := 1) dc_C_noteAsking_86 rfl ?_
    refine g_iadd (pc := 87) (v := (nI (ck1 + 1))) dc_C_noteAsking_87 (nI_add ck1 1) ?_
    refine g_putfield (pc := 88) dc_C_noteAsking_88 fp_C_noteAsking_78 hO_5.1 (Nat.le_of_ble_eq_true rfl) rfl rfl ?_
    show am_G X mt_C_noteAsking _ 91 _ _ (h5.set 34 (cr7 st9 (ck1 + 1) (c.an + 1) sv (c.sn + 1) c.cr)) _
    have g6 : fr w5 w5 h5 (h5.set 34 (cr7 st9 (ck1 + 1) (c.an + 1) sv (c.sn + 1) c.cr)) [34] := fr.st hO_5.1 rfl hO_5.2
    have hO_6 : cO w5 (h5.set 34 (cr7 st9 (ck1 + 1) (c.an + 1) sv (c.sn + 1) c.cr)) 34 34 (cr7 st9 (ck1 + 1) (c.an + 1) sv (c.sn + 1) c.cr) := ⟨am_se (am_lt hO_5.1), hO_5.2⟩
    obtain ⟨w6, hw6⟩ : ∃ w9, w9 = w5 := ⟨_, rfl⟩
    generalize (h5.set 34 (cr7 st9 (ck1 + 1) (c.an + 1) sv (c.sn + 1) c.cr)) = h6 at g6 hO_6 ⊢
    have g6 : fr w5 w6 h5 h6 [34] := by rw [hw6]; exact g6
    have hO_6 : cO w6 h6 34 34 (cr7 st9 (ck1 + 1) (c.an + 1) sv (c.sn + 1) c.cr) := by rw [hw6]; exact hO_6
    have hA_6 := hA_5.fr g6 (by decide) (by decide)
    have hc_6 := hc_5.fr g6 (by decide)
    have ha_6 := ha_5.fr g6 (by decide)
    have hB_6 := hB_5.fr g6 (by decide)
    have G6 := G5.tr (g6.mo (by decide : ∀ x, x ∈ [34] → x ∈ [34, 45, 46, 49, 53]))
    have el : c.aq.length = c.an := by omega
    have hq9 : ∀ j, j < (c.aq ++ [D]).length → upd gc c.aq.length (nI ck1) j = nI (upf c.ac c.an ck1 j) := fun j hj => by
      rw [List.length_append] at hj
      have hj3 : j < c.aq.length + 1 := hj
      rw [el]
      by_cases e : j = c.an
      · rw [e, upd_s, upf_s]
      · rw [upd_n e, upf_n e]; exact hcP j (by omega)
    rw [if_pos (show c.an < 1000 by omega)]
    exact g_return dc_C_noteAsking_91 rfl ⟨rfl, w6, G6, hO_6, ⟨hA_6, _, hc_6, hq9⟩, ⟨_, ha_6, hat9⟩⟩
end D4S
