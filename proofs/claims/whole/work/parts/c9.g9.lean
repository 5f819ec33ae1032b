/-! ===== the class counts places, and puts a hit into its place ===== -/
section G9S
variable {X : am_X} {d n k j i a s dd : Nat} {w w0 w1 : Gw} {h h0 h1 : List va_E} {I : List Nat} {K : Kn} {l : List Nat} {Qs T : List (List Int32)} {H : List (Nat × Nat)} {x : Nat × Nat} {Q : Option Value → List va_E → Prop} {gf : Nat → Int32} {nh : Nat}
theorem c_N_isWordAt (hN : aO w h n) (hD : dO w h nh) (hT : rE w h 67 68 67 68 T []) (hQ : rE w h 80 81 80 81 Qs []) (hi : i < T.length) (hk : k < Qs.length) : am_C X mt_N_isWordAt (d + 2) [.ref 77, .ref 59, .int (nI i), .int (nI k)] h (fun r h1 => r = some (.int (b1 (isQ T Qs i k))) ∧ h1 = h) := by
  show am_G X mt_N_isWordAt (d + 2) 0 [some (.ref 77), some (.ref 59), some (.int (nI i)), some (.int (nI k))] [] h _
  obtain ⟨b6, e6, hTr⟩ := hT
  obtain ⟨b8, e8, hQr⟩ := hQ
  have hos := ofs_s (T := Qs) hk
  have hsa : sub (gT Qs k) 0 (gT Qs k).length = gT Qs k := sub_all rfl
  refine g_aload_n (pc := 0) dc_N_isWordAt_0 rfl ?_
  refine g_getfield (pc := 1) dc_N_isWordAt_1 fl_N_77 hD.1 rfl ?_
  refine g_iload_n (pc := 4) dc_N_isWordAt_4 rfl ?_
  refine g_aload_n (pc := 5) dc_N_isWordAt_5 rfl ?_
  refine g_getfield (pc := 6) dc_N_isWordAt_6 fl_N_24 hN.1 rfl ?_
  refine g_getfield (pc := 9) dc_N_isWordAt_9 fl_N_80 hQr.1.1 rfl ?_
  refine g_getfield (pc := 12) dc_N_isWordAt_12 fl_N_84 hQr.1.2.1.ha rfl ?_
  refine g_aload_n (pc := 15) dc_N_isWordAt_15 rfl ?_
  refine g_getfield (pc := 16) dc_N_isWordAt_16 fl_N_24 hN.1 rfl ?_
  refine g_iload_n (pc := 19) dc_N_isWordAt_19 rfl ?_
  refine g_v1 (pc := 20) (M' := mt_R_from) dc_N_isWordAt_20 mo_R_from im_R_from se_R_from ln_N_90 hQr.1.1 rfl rfl (Nat.le_of_ble_eq_true rfl) (Nat.le_of_ble_eq_true rfl) (am_G.mono (c_R_from (d := d + 1) (i := k) hQr.1 (by omega)) ?_)
  intro r h1 hq
  rw [hq.1, hq.2]
  clear hq h1 r
  refine ⟨am_nti _, ?_⟩
  refine g_aload_n (pc := 23) dc_N_isWordAt_23 rfl ?_
  refine g_getfield (pc := 24) dc_N_isWordAt_24 fl_N_24 hN.1 rfl ?_
  refine g_iload_n (pc := 27) dc_N_isWordAt_27 rfl ?_
  refine g_v1 (pc := 28) (M' := mt_R_to) dc_N_isWordAt_28 mo_R_to im_R_to se_R_to ln_N_94 hQr.1.1 rfl rfl (Nat.le_of_ble_eq_true rfl) (Nat.le_of_ble_eq_true rfl) (am_G.mono (c_R_to (d := d + 1) (i := k) hQr.1 hk) ?_)
  intro r h1 hq
  rw [hq.1, hq.2, hos]
  clear hq h1 r
  refine ⟨am_nti _, ?_⟩
  refine g_v4 (pc := 31) (M' := mt_R_same) dc_N_isWordAt_31 mo_R_same im_R_same se_R_same ln_N_97 hTr.1.1 rfl rfl (Nat.le_of_ble_eq_true rfl) (Nat.le_of_ble_eq_true rfl) (am_G.mono (c_R_same (d := d) (s := ofs Qs k) (f := 0) (t := (gT Qs k).length) (L := gT Qs k) hTr.1 hi (rR.tO hQr hk).1.tt (Nat.zero_le _) (Nat.le_refl _)) ?_)
  intro r h1 hq
  rw [hq.1, hq.2, hsa]
  clear hq h1 r
  refine ⟨am_nti _, ?_⟩
  exact g_zreturn dc_N_isWordAt_34 rfl b1_z ⟨rfl, rfl⟩
theorem lA_st {g : Nat → Int64} {v : Int64} (z : lA w h 79 250 g) : fr w w h (h.set 79 (.inl (2, 250, .inr (.inl (vp_updL g i v))))) [79] ∧ lA w (h.set 79 (.inl (2, 250, .inr (.inl (vp_updL g i v))))) 79 250 (vp_updL g i v) := ⟨fr.st z.1 rfl z.2, am_se (am_lt z.1), z.2⟩
theorem iA_st {g : Nat → Int32} {v : Int32} (z : iA w h 78 250 g) : fr w w h (h.set 78 (.inl (1, 250, .inl (upd g i v)))) [78] ∧ iA w (h.set 78 (.inl (1, 250, .inl (upd g i v)))) 78 250 (upd g i v) := ⟨fr.st z.1 rfl z.2, am_se (am_lt z.1), z.2⟩
theorem lcm_ge {a b : Nat} (ha : a < 2 ^ 63) (hb : b < 2 ^ 63) : (0 : Int32) ≤ lg_cmp (lN a) (lN b) ↔ b ≤ a := (lg_cmp_ge _ _).trans (pk_lLE hb ha)
theorem l6_N_insert (h250 : H.length < 250) (hx : x.2 ≤ 8000000000) (hH : ∀ y, y ∈ H → y.2 ≤ 8000000000) : ∀ (p : Nat) (w : Gw) (h : List va_E) (gh : Nat → Int32) (gs : Nat → Int64), p ≤ H.length → aO w h H.length → iA w h 78 250 gh → lA w h 79 250 gs → shH gh gs H p → (∀ h1 g1 f1, fr w w h h1 [78, 79] → iA w h1 78 250 g1 → lA w h1 79 250 f1 → shH g1 f1 H (posH H x.2 p) → am_G X mt_N_insert d 63 [some (.ref 77), some (.int (nI x.1)), some (.long (lN x.2)), none, some (.int (nI (posH H x.2 p)))] [] h1 Q) → am_G X mt_N_insert d 6 [some (.ref 77), some (.int (nI x.1)), some (.long (lN x.2)), none, some (.int (nI p))] [] h Q
  | 0, w, h, gh, gs, hp, hN, hg, hf, hz, KK => by
    refine g_iload (pc := 6) dc_N_insert_6 rfl ?_
    refine q_if_le (pc := 8) (tgt := 63) 0 dc_N_insert_8 (by omega) rfl (fun hc8 => ?_) (fun hc => absurd hc (by omega))
    exact KK h gh gs fr.rf hg hf hz
  | p + 1, w, h, gh, gs, hp, hN, hg, hf, hz, KK => by
    have hpl : p < H.length := by omega
    have hzp := hz.1 p (by omega)
    have hy := hH _ (gH_mem hpl)
    refine g_iload (pc := 6) dc_N_insert_6 rfl ?_
    refine q_if_le (pc := 8) (tgt := 63) (p + 1) dc_N_insert_8 (by omega) rfl (fun hc => absurd hc (by omega)) (fun hc8 => ?_)
    refine g_aload_n (pc := 11) dc_N_insert_11 rfl ?_
    refine g_getfield (pc := 12) dc_N_insert_12 fl_N_15 hN.1 rfl ?_
    refine g_iload (pc := 15) dc_N_insert_15 rfl ?_
    refine g_iconst (pc := 17) (v := 1) dc_N_insert_17 rfl ?_
    refine g_isub (pc := 18) (v := (nI p)) dc_N_insert_18 (q_sub (a := p + 1) (b := 1) (by omega)) ?_
    refine q_laloadV (pc := 19) p dc_N_insert_19 hf.1 (by omega) (by decide) (v := lN (gH H p).2) hzp.2 ?_
    refine g_lload_n (pc := 20) dc_N_insert_20 rfl ?_
    refine g_lcmp (pc := 21) dc_N_insert_21 rfl ?_
    refine g_if_ge (pc := 22) (tgt := 63) dc_N_insert_22 rfl (fun hc22 => ?_) (fun hc22 => ?_)
    · have hi22 : (0 : Int) ≤ ((lg_cmp (lN (gH H p).2) (lN x.2))).toInt := Int32.le_iff_toInt_le.mp hc22
      have hge : ¬ (gH H p).2 < x.2 := Nat.not_lt.mpr ((lcm_ge (by omega) (by omega)).mp hc22)
      have hps : posH H x.2 (p + 1) = p + 1 := if_neg hge
      rw [hps] at KK
      exact KK h gh gs fr.rf hg hf hz
    · have hi22 : ¬ ((0 : Int) ≤ ((lg_cmp (lN (gH H p).2) (lN x.2))).toInt) := fun h9 => hc22 (Int32.le_iff_toInt_le.mpr h9)
      have hlt : (gH H p).2 < x.2 := Nat.lt_of_not_le (fun h9 => hc22 ((lcm_ge (by omega) (by omega)).mpr h9))
      refine g_aload_n (pc := 25) dc_N_insert_25 rfl ?_
      refine g_getfield (pc := 26) dc_N_insert_26 fl_N_9 hN.1 rfl ?_
      refine g_iload (pc := 29) dc_N_insert_29 rfl ?_
      refine g_aload_n (pc := 31) dc_N_insert_31 rfl ?_
      refine g_getfield (pc := 32) dc_N_insert_32 fl_N_9 hN.1 rfl ?_
      refine g_iload (pc := 35) dc_N_insert_35 rfl ?_
      refine g_iconst (pc := 37) (v := 1) dc_N_insert_37 rfl ?_
      refine g_isub (pc := 38) (v := (nI p)) dc_N_insert_38 (q_sub (a := p + 1) (b := 1) (by omega)) ?_
      refine q_ialoadV (pc := 39) p dc_N_insert_39 hg.1 (by omega) (by decide) (v := nI (gH H p).1) hzp.1 ?_
      refine q_iastore (pc := 40) (p + 1) dc_N_insert_40 hg.1 (by omega) (by decide) ?_
      have hs1 := iA_st (i := p + 1) (v := nI (gH H p).1) hg
      show am_G X mt_N_insert _ 41 _ _ (h.set 78 (.inl (1, 250, .inl (upd gh (p + 1) (nI (gH H p).1))))) _
      generalize (h.set 78 (.inl (1, 250, .inl (upd gh (p + 1) (nI (gH H p).1))))) = h1 at hs1 ⊢
      have hN1 := hN.fr hs1.1 (by decide)
      have hf1 := hf.fr hs1.1 (by decide)
      refine g_aload_n (pc := 41) dc_N_insert_41 rfl ?_
      refine g_getfield (pc := 42) dc_N_insert_42 fl_N_15 hN1.1 rfl ?_
      refine g_iload (pc := 45) dc_N_insert_45 rfl ?_
      refine g_aload_n (pc := 47) dc_N_insert_47 rfl ?_
      refine g_getfield (pc := 48) dc_N_insert_48 fl_N_15 hN1.1 rfl ?_
      refine g_iload (pc := 51) dc_N_insert_51 rfl ?_
      refine g_iconst (pc := 53) (v := 1) dc_N_insert_53 rfl ?_
      refine g_isub (pc := 54) (v := (nI p)) dc_N_insert_54 (q_sub (a := p + 1) (b := 1) (by omega)) ?_
      refine q_laloadV (pc := 55) p dc_N_insert_55 hf1.1 (by omega) (by decide) (v := lN (gH H p).2) hzp.2 ?_
      refine q_lastore (pc := 56) (p + 1) dc_N_insert_56 hf1.1 (by omega) (by decide) ?_
      have hs2 := lA_st (i := p + 1) (v := lN (gH H p).2) hf1
      show am_G X mt_N_insert _ 57 _ _ (h1.set 79 (.inl (2, 250, .inr (.inl (vp_updL gs (p + 1) (lN (gH H p).2)))))) _
      generalize (h1.set 79 (.inl (2, 250, .inr (.inl (vp_updL gs (p + 1) (lN (gH H p).2)))))) = h2 at hs2 ⊢
      refine g_iinc (pc := 57) (v := (nI p)) dc_N_insert_57 rfl (q_m1 (x := p + 1) (by omega)) (by decide) ?_
      show am_G X mt_N_insert _ 60 [some (.ref 77), some (.int (nI x.1)), some (.long (lN x.2)), none, some (.int (nI p))] [] _ _
      refine g_goto (pc := 60) (tgt := 6) dc_N_insert_60 rfl ?_
      have hG2 : fr w w h h2 [78, 79] := (hs1.1.mo (by decide)).tr (hs2.1.mo (by decide))
      have hps : posH H x.2 (p + 1) = posH H x.2 p := if_pos hlt
      rw [hps] at KK
      exact l6_N_insert h250 hx hH p w h2 _ _ (by omega) (hN1.fr hs2.1 (by decide)) (hs1.2.fr hs2.1 (by decide)) hs2.2 (shH_s hz hpl) (fun h3 g3 f3 u1 => KK h3 g3 f3 (hG2.tr u1))
theorem w_N_insert (h250 : H.length < 250) (hx : x.2 ≤ 8000000000) (hH : ∀ y, y ∈ H → y.2 ≤ 8000000000) (hN : aO w h H.length) {gh : Nat → Int32} {gs : Nat → Int64} (hg : iA w h 78 250 gh) (hf : lA w h 79 250 gs) (hz : arH gh gs H) : am_C X mt_N_insert d [.ref 77, .int (nI x.1), .long (lN x.2)] h (fun r h1 => r = none ∧ ∃ w1, fr w w1 h h1 [77, 78, 79] ∧ aO w1 h1 (insH H x).length ∧ ∃ g1 f1, iA w1 h1 78 250 g1 ∧ lA w1 h1 79 250 f1 ∧ arH g1 f1 (insH H x)) := by
  show am_G X mt_N_insert d 0 [some (.ref 77), some (.int (nI x.1)), some (.long (lN x.2)), none, none] [] h _
  refine g_aload_n (pc := 0) dc_N_insert_0 rfl ?_
  refine g_getfield (pc := 1) dc_N_insert_1 fl_N_28 hN.1 rfl ?_
  refine g_istore (pc := 4) dc_N_insert_4 (by decide) ?_
  show am_G X mt_N_insert _ 6 [some (.ref 77), some (.int (nI x.1)), some (.long (lN x.2)), none, some (.int (nI H.length))] [] _ _
  refine l6_N_insert h250 hx hH H.length w h gh gs (Nat.le_refl _) hN hg hf (shH_0 hz) (fun h1 g1 f1 u1 u2 u3 u4 => ?_)
  have hN1 := hN.fr u1 (by decide)
  have hpl := posH_le (H := H) (s := x.2) H.length
  obtain ⟨p1, hp1⟩ : ∃ p1, p1 = posH H x.2 H.length := ⟨_, rfl⟩
  rw [← hp1] at u4 hpl ⊢
  refine g_aload_n (pc := 63) dc_N_insert_63 rfl ?_
  refine g_getfield (pc := 64) dc_N_insert_64 fl_N_9 hN1.1 rfl ?_
  refine g_iload (pc := 67) dc_N_insert_67 rfl ?_
  refine g_iload_n (pc := 69) dc_N_insert_69 rfl ?_
  refine q_iastore (pc := 70) p1 dc_N_insert_70 u2.1 (by omega) (by decide) ?_
  have hs1 := iA_st (i := p1) (v := nI x.1) u2
  show am_G X mt_N_insert _ 71 _ _ (h1.set 78 (.inl (1, 250, .inl (upd g1 p1 (nI x.1))))) _
  generalize (h1.set 78 (.inl (1, 250, .inl (upd g1 p1 (nI x.1))))) = h2 at hs1 ⊢
  have hN2 := hN1.fr hs1.1 (by decide)
  have hf2 := u3.fr hs1.1 (by decide)
  refine g_aload_n (pc := 71) dc_N_insert_71 rfl ?_
  refine g_getfield (pc := 72) dc_N_insert_72 fl_N_15 hN2.1 rfl ?_
  refine g_iload (pc := 75) dc_N_insert_75 rfl ?_
  refine g_lload_n (pc := 77) dc_N_insert_77 rfl ?_
  refine q_lastore (pc := 78) p1 dc_N_insert_78 hf2.1 (by omega) (by decide) ?_
  have hs2 := lA_st (i := p1) (v := lN x.2) hf2
  show am_G X mt_N_insert _ 79 _ _ (h2.set 79 (.inl (2, 250, .inr (.inl (vp_updL f1 p1 (lN x.2)))))) _
  generalize (h2.set 79 (.inl (2, 250, .inr (.inl (vp_updL f1 p1 (lN x.2)))))) = h3 at hs2 ⊢
  have hN3 := hN2.fr hs2.1 (by decide)
  have hg3 := hs1.2.fr hs2.1 (by decide)
  refine g_aload_n (pc := 79) dc_N_insert_79 rfl ?_
  refine g_dup (pc := 80) dc_N_insert_80 rfl ?_
  refine g_getfield (pc := 81) dc_N_insert_81 fl_N_28 hN3.1 rfl ?_
  refine g_iconst (pc := 84) (v := 1) dc_N_insert_84 rfl ?_
  refine g_iadd (pc := 85) (v := (nI (H.length + 1))) dc_N_insert_85 (nI_add H.length 1) ?_
  refine g_putfield (pc := 86) dc_N_insert_86 fp_N_insert_28 hN3.1 (Nat.le_of_ble_eq_true rfl) rfl rfl ?_
  show am_G X mt_N_insert _ 89 _ _ (h3.set 77 (.inr (9, [.int (nI (H.length + 1)), .ref 78, .ref 79, .ref 80]))) _
  have f4 : fr w w h3 (h3.set 77 (.inr (9, [.int (nI (H.length + 1)), .ref 78, .ref 79, .ref 80]))) [77] := fr.st hN3.1 rfl hN3.2
  have hN4 : aO w (h3.set 77 (.inr (9, [.int (nI (H.length + 1)), .ref 78, .ref 79, .ref 80]))) (H.length + 1) := ⟨am_se (am_lt hN3.1), hN3.2⟩
  generalize (h3.set 77 (.inr (9, [.int (nI (H.length + 1)), .ref 78, .ref 79, .ref 80]))) = h4 at f4 hN4 ⊢
  exact g_return dc_N_insert_89 rfl ⟨rfl, w, (((u1.mo (by decide)).tr (hs1.1.mo (by decide))).tr (hs2.1.mo (by decide))).tr (f4.mo (by decide)), by rw [insH_len]; exact hN4, _, _, hg3.fr f4 (by decide), hs2.2.fr f4 (by decide), by unfold insH; rw [← hp1]; exact shH_e u4 hpl⟩
theorem fp_w (z : ∀ j, j ≤ l.length → gf j = nI (wdD K (l.take j)).length) (hj : j < l.length) : gf j = nI (wdD K (l.take j)).length ∧ gf (j + 1) = nI ((wdD K (l.take j)).length + (pgW (K.tx (gN l j))).length) := ⟨z j (by omega), by rw [z (j + 1) (by omega), wdD_lt hj]⟩
theorem l48_N_placesOfRow (hN : aO w h nh) (hD : dO w h n) (hT : rE w h 67 68 67 68 (wdD K l) []) (hQ : rE w h 80 81 80 81 Qs []) (hj : j < l.length) (h8 : Qs.length ≤ 8) (hfp : iA w h 66 251 gf) (hl : l.length ≤ 250) (hg0 : gf j = nI a) (hg1 : gf (j + 1) = nI (a + (pgW (K.tx (gN l j))).length)) (ha : a = (wdD K (l.take j)).length) (hab : a + (pgW (K.tx (gN l j))).length ≤ 19000) {v cc : Nat} (hv : v + Qs.length ≤ (pgW (K.tx (gN l j))).length) : ∀ (n9 s : Nat), s + n9 = Qs.length → alb (fun q => isQ (pgW (K.tx (gN l j))) Qs (v + q) q) s = true → (∀ s2, s2 ≤ Qs.length → (s2 = Qs.length ↔ alb (fun q => isQ (pgW (K.tx (gN l j))) Qs (v + q) q) Qs.length = true) → am_G X mt_N_placesOfRow (d + 3) 81 [some (.ref 77), some (.ref 59), some (.int (nI j)), some (.int (nI cc)), some (.int (nI (a + (pgW (K.tx (gN l j))).length) - nI Qs.length)), some (.int (nI (a + v))), some (.int (nI s2))] [] h Q) → am_G X mt_N_placesOfRow (d + 3) 48 [some (.ref 77), some (.ref 59), some (.int (nI j)), some (.int (nI cc)), some (.int (nI (a + (pgW (K.tx (gN l j))).length) - nI Qs.length)), some (.int (nI (a + v))), some (.int (nI s))] [] h Q
  | 0, s, e9, ht, KK => by
    have hQ0 := hQ
    obtain ⟨b8, e8, hQr⟩ := hQ0
    refine g_iload (pc := 48) dc_N_placesOfRow_48 rfl ?_
    refine g_aload_n (pc := 50) dc_N_placesOfRow_50 rfl ?_
    refine g_getfield (pc := 51) dc_N_placesOfRow_51 fl_N_24 hN.1 rfl ?_
    refine g_getfield (pc := 54) dc_N_placesOfRow_54 fl_N_41 hQr.1.1 rfl ?_
    refine q_icmp_ge (pc := 57) (tgt := 81) s Qs.length dc_N_placesOfRow_57 (by omega) (by omega) rfl (fun hc57 => ?_) (fun hc => absurd hc (by omega))
    rw [show s = Qs.length by omega] at ht ⊢
    exact KK Qs.length (Nat.le_refl _) ⟨fun _ => ht, fun _ => rfl⟩
  | n9 + 1, s, e9, ht, KK => by
    have hQ0 := hQ
    obtain ⟨b8, e8, hQr⟩ := hQ0
    have hsq : s < Qs.length := by omega
    have hat := wdD_at (K := K) (a := v + s) hj (by omega)
    rw [← ha] at hat
    refine g_iload (pc := 48) dc_N_placesOfRow_48 rfl ?_
    refine g_aload_n (pc := 50) dc_N_placesOfRow_50 rfl ?_
    refine g_getfield (pc := 51) dc_N_placesOfRow_51 fl_N_24 hN.1 rfl ?_
    refine g_getfield (pc := 54) dc_N_placesOfRow_54 fl_N_41 hQr.1.1 rfl ?_
    refine q_icmp_ge (pc := 57) (tgt := 81) s Qs.length dc_N_placesOfRow_57 (by omega) (by omega) rfl (fun hc => absurd hc (by omega)) (fun hc57 => ?_)
    refine g_aload_n (pc := 60) dc_N_placesOfRow_60 rfl ?_
    refine g_aload_n (pc := 61) dc_N_placesOfRow_61 rfl ?_
    refine g_iload (pc := 62) dc_N_placesOfRow_62 rfl ?_
    refine g_iload (pc := 64) dc_N_placesOfRow_64 rfl ?_
    refine g_iadd (pc := 66) (v := (nI (a + (v + s)))) dc_N_placesOfRow_66 ((nI_add (a + v) s).trans (congrArg nI (by omega))) ?_
    refine g_iload (pc := 67) dc_N_placesOfRow_67 rfl ?_
    refine g_v3 (pc := 69) (M' := mt_N_isWordAt) dc_N_placesOfRow_69 mo_N_isWordAt im_N_isWordAt se_N_isWordAt ln_N_73 hN.1 rfl rfl (Nat.le_of_ble_eq_true rfl) (Nat.le_of_ble_eq_true rfl) (am_G.mono (c_N_isWordAt (d := d) (i := a + (v + s)) (k := s) hN hD hT hQ hat.1 hsq) ?_)
    intro r h1 hq
    rw [hq.1, hq.2, show isQ (wdD K l) Qs (a + (v + s)) s = isQ (pgW (K.tx (gN l j))) Qs (v + s) s by unfold isQ; rw [hat.2]]
    clear hq h1 r
    refine ⟨am_nti _, ?_⟩
    refine q_ifb_eq (pc := 72) (tgt := 81) dc_N_placesOfRow_72 rfl (fun hc72 => ?_) (fun hc72 => ?_)
    · exact KK s (by omega) ⟨fun h9 => absurd h9 (by omega), fun h9 => by have := (alb_iff _).mp h9 s hsq; rw [hc72] at this; cases this⟩
    · refine g_iinc (pc := 75) (v := (nI (s + 1))) dc_N_placesOfRow_75 rfl (nI_add s 1) (by decide) ?_
      show am_G X mt_N_placesOfRow _ 78 [some (.ref 77), some (.ref 59), some (.int (nI j)), some (.int (nI cc)), some (.int (nI (a + (pgW (K.tx (gN l j))).length) - nI Qs.length)), some (.int (nI (a + v))), some (.int (nI (s + 1)))] [] _ _
      refine g_goto (pc := 78) (tgt := 48) dc_N_placesOfRow_78 rfl ?_
      exact l48_N_placesOfRow hN hD hT hQ hj h8 hfp hl hg0 hg1 ha hab hv n9 (s + 1) (by omega) (by show (alb _ s && _) = true; rw [ht]; exact hc72) KK
theorem row_f {Wd : List (List Int32)} {v : Nat} (h : Wd.length < v + Qs.length ∨ Qs.length = 0) (hv : v ≤ a) : rowQ Wd Qs a = false := by
  unfold rowQ
  rw [decide_eq_false (by omega), Bool.false_and]
theorem l28_N_placesOfRow (hN : aO w h nh) (hD : dO w h n) (hT : rE w h 67 68 67 68 (wdD K l) []) (hQ : rE w h 80 81 80 81 Qs []) (hj : j < l.length) (h8 : Qs.length ≤ 8) (hfp : iA w h 66 251 gf) (hl : l.length ≤ 250) (hg0 : gf j = nI a) (hg1 : gf (j + 1) = nI (a + (pgW (K.tx (gN l j))).length)) (ha : a = (wdD K (l.take j)).length) (hab : a + (pgW (K.tx (gN l j))).length ≤ 19000) : ∀ (n9 v : Nat), v + n9 = (pgW (K.tx (gN l j))).length → ∀ o6 : Option Value, am_G X mt_N_placesOfRow (d + 3) 28 [some (.ref 77), some (.ref 59), some (.int (nI j)), some (.int (nI (cnb (rowQ (pgW (K.tx (gN l j))) Qs) v))), some (.int (nI (a + (pgW (K.tx (gN l j))).length) - nI Qs.length)), some (.int (nI (a + v))), none] [] h (fun r h1 => r = some (.int (nI (cnb (rowQ (pgW (K.tx (gN l j))) Qs) (pgW (K.tx (gN l j))).length))) ∧ h1 = h)
  | 0, v, e9, o6 => by
    have hQ0 := hQ
    obtain ⟨b8, e8, hQr⟩ := hQ0
    have hls : (nI (a + (pgW (K.tx (gN l j))).length) - nI Qs.length).toInt = ((a + (pgW (K.tx (gN l j))).length : Nat) : Int) - (Qs.length : Nat) := pk_sub_toInt (by omega) (by omega)
    have hav : (nI (a + v)).toInt = ((a + v : Nat) : Int) := nI_toInt (by omega)
    have hcl := cnb_le (p := rowQ (pgW (K.tx (gN l j))) Qs) v
    refine g_aload_n (pc := 28) dc_N_placesOfRow_28 rfl ?_
    refine g_getfield (pc := 29) dc_N_placesOfRow_29 fl_N_24 hN.1 rfl ?_
    refine g_getfield (pc := 32) dc_N_placesOfRow_32 fl_N_41 hQr.1.1 rfl ?_
    refine q_if_le (pc := 35) (tgt := 102) Qs.length dc_N_placesOfRow_35 (by omega) rfl (fun hc35 => ?_) (fun hc35 => ?_)
    · refine g_iload_n (pc := 102) dc_N_placesOfRow_102 rfl ?_
      exact g_ireturn dc_N_placesOfRow_103 rfl ⟨by rw [cnb_tl (p := rowQ (pgW (K.tx (gN l j))) Qs) (n := (pgW (K.tx (gN l j))).length) (k := v) (fun a9 h1 h2 => row_f (v := v) (by omega) h1) (by omega)], rfl⟩
    · refine g_iload (pc := 38) dc_N_placesOfRow_38 rfl ?_
      refine g_iload (pc := 40) dc_N_placesOfRow_40 rfl ?_
      refine g_icmp_gt (pc := 42) (tgt := 102) dc_N_placesOfRow_42 rfl (fun hc42 => ?_) (fun hc => absurd hc (fun h9 => h9 (Int32.lt_iff_toInt_lt.mpr (by rw [hls, hav]; omega))))
      refine g_iload_n (pc := 102) dc_N_placesOfRow_102 rfl ?_
      exact g_ireturn dc_N_placesOfRow_103 rfl ⟨by rw [cnb_tl (p := rowQ (pgW (K.tx (gN l j))) Qs) (n := (pgW (K.tx (gN l j))).length) (k := v) (fun a9 h1 h2 => row_f (v := v) (by omega) h1) (by omega)], rfl⟩
  | n9 + 1, v, e9, o6 => by
    have hQ0 := hQ
    obtain ⟨b8, e8, hQr⟩ := hQ0
    have hls : (nI (a + (pgW (K.tx (gN l j))).length) - nI Qs.length).toInt = ((a + (pgW (K.tx (gN l j))).length : Nat) : Int) - (Qs.length : Nat) := pk_sub_toInt (by omega) (by omega)
    have hav : (nI (a + v)).toInt = ((a + v : Nat) : Int) := nI_toInt (by omega)
    have hcl := cnb_le (p := rowQ (pgW (K.tx (gN l j))) Qs) v
    refine g_aload_n (pc := 28) dc_N_placesOfRow_28 rfl ?_
    refine g_getfield (pc := 29) dc_N_placesOfRow_29 fl_N_24 hN.1 rfl ?_
    refine g_getfield (pc := 32) dc_N_placesOfRow_32 fl_N_41 hQr.1.1 rfl ?_
    refine q_if_le (pc := 35) (tgt := 102) Qs.length dc_N_placesOfRow_35 (by omega) rfl (fun hc35 => ?_) (fun hc35 => ?_)
    · refine g_iload_n (pc := 102) dc_N_placesOfRow_102 rfl ?_
      exact g_ireturn dc_N_placesOfRow_103 rfl ⟨by rw [cnb_tl (p := rowQ (pgW (K.tx (gN l j))) Qs) (n := (pgW (K.tx (gN l j))).length) (k := v) (fun a9 h1 h2 => row_f (v := v) (by omega) h1) (by omega)], rfl⟩
    · refine g_iload (pc := 38) dc_N_placesOfRow_38 rfl ?_
      refine g_iload (pc := 40) dc_N_placesOfRow_40 rfl ?_
      refine g_icmp_gt (pc := 42) (tgt := 102) dc_N_placesOfRow_42 rfl (fun hc42 => ?_) (fun hc42 => ?_)
      · have hi42 : ((nI (a + (pgW (K.tx (gN l j))).length) - nI Qs.length)).toInt < ((nI (a + v))).toInt := Int32.lt_iff_toInt_lt.mp hc42
        have hv9 : (pgW (K.tx (gN l j))).length < v + Qs.length := by rw [hls, hav] at hi42; omega
        refine g_iload_n (pc := 102) dc_N_placesOfRow_102 rfl ?_
        exact g_ireturn dc_N_placesOfRow_103 rfl ⟨by rw [cnb_tl (p := rowQ (pgW (K.tx (gN l j))) Qs) (n := (pgW (K.tx (gN l j))).length) (k := v) (fun a9 h1 h2 => row_f (v := v) (by omega) h1) (by omega)], rfl⟩
      · have hi42 : ¬ (((nI (a + (pgW (K.tx (gN l j))).length) - nI Qs.length)).toInt < ((nI (a + v))).toInt) := fun h9 => hc42 (Int32.lt_iff_toInt_lt.mpr h9)
        have hv9 : v + Qs.length ≤ (pgW (K.tx (gN l j))).length := by rw [hls, hav] at hi42; omega
        refine g_iconst (pc := 45) (v := 0) dc_N_placesOfRow_45 rfl ?_
        refine g_istore (pc := 46) dc_N_placesOfRow_46 (by decide) ?_
        show am_G X mt_N_placesOfRow _ 48 [some (.ref 77), some (.ref 59), some (.int (nI j)), some (.int (nI (cnb (rowQ (pgW (K.tx (gN l j))) Qs) v))), some (.int (nI (a + (pgW (K.tx (gN l j))).length) - nI Qs.length)), some (.int (nI (a + v))), some (.int 0)] [] _ _
        refine l48_N_placesOfRow hN hD hT hQ hj h8 hfp hl hg0 hg1 ha hab hv9 Qs.length 0 (Nat.zero_add _) rfl (fun s2 hs2 hal => ?_)
        refine g_iload (pc := 81) dc_N_placesOfRow_81 rfl ?_
        refine g_aload_n (pc := 83) dc_N_placesOfRow_83 rfl ?_
        refine g_getfield (pc := 84) dc_N_placesOfRow_84 fl_N_24 hN.1 rfl ?_
        refine g_getfield (pc := 87) dc_N_placesOfRow_87 fl_N_41 hQr.1.1 rfl ?_
        refine q_icmp_ne (pc := 90) (tgt := 96) s2 Qs.length dc_N_placesOfRow_90 (by omega) (by omega) rfl (fun hc90 => ?_) (fun hc90 => ?_)
        · refine g_iinc (pc := 96) (v := (nI (a + v + 1))) dc_N_placesOfRow_96 rfl (nI_add (a + v) 1) (by decide) ?_
          show am_G X mt_N_placesOfRow _ 99 [some (.ref 77), some (.ref 59), some (.int (nI j)), some (.int (nI (cnb (rowQ (pgW (K.tx (gN l j))) Qs) v))), some (.int (nI (a + (pgW (K.tx (gN l j))).length) - nI Qs.length)), some (.int (nI (a + v + 1))), some (.int (nI s2))] [] _ _
          refine g_goto (pc := 99) (tgt := 28) dc_N_placesOfRow_99 rfl ?_
          refine am_wk (am_le_s (am_le_s (am_le_s (am_le_s (am_le_s (am_le_s (am_le_n am_le_0))))))) ?_
          have hrow : ¬ rowQ (pgW (K.tx (gN l j))) Qs v = true := fun h9 => by unfold rowQ at h9; rw [Bool.and_eq_true] at h9; exact hc90 (hal.mpr h9.2)
          have er : cnb (rowQ (pgW (K.tx (gN l j))) Qs) (v + 1) = cnb (rowQ (pgW (K.tx (gN l j))) Qs) v + 0 := by show _ + (if rowQ (pgW (K.tx (gN l j))) Qs v = true then 1 else 0) = _; rw [if_neg hrow]
          have h9 := l28_N_placesOfRow hN hD hT hQ hj h8 hfp hl hg0 hg1 ha hab n9 (v + 1) (by omega) none
          rw [er] at h9
          exact h9
        · refine g_iinc (pc := 93) (v := (nI (cnb (rowQ (pgW (K.tx (gN l j))) Qs) v + 1))) dc_N_placesOfRow_93 rfl (nI_add (cnb (rowQ (pgW (K.tx (gN l j))) Qs) v) 1) (by decide) ?_
          show am_G X mt_N_placesOfRow _ 96 [some (.ref 77), some (.ref 59), some (.int (nI j)), some (.int (nI (cnb (rowQ (pgW (K.tx (gN l j))) Qs) v + 1))), some (.int (nI (a + (pgW (K.tx (gN l j))).length) - nI Qs.length)), some (.int (nI (a + v))), some (.int (nI s2))] [] _ _
          refine g_iinc (pc := 96) (v := (nI (a + v + 1))) dc_N_placesOfRow_96 rfl (nI_add (a + v) 1) (by decide) ?_
          show am_G X mt_N_placesOfRow _ 99 [some (.ref 77), some (.ref 59), some (.int (nI j)), some (.int (nI (cnb (rowQ (pgW (K.tx (gN l j))) Qs) v + 1))), some (.int (nI (a + (pgW (K.tx (gN l j))).length) - nI Qs.length)), some (.int (nI (a + v + 1))), some (.int (nI s2))] [] _ _
          refine g_goto (pc := 99) (tgt := 28) dc_N_placesOfRow_99 rfl ?_
          refine am_wk (am_le_s (am_le_s (am_le_s (am_le_s (am_le_s (am_le_s (am_le_n am_le_0))))))) ?_
          have hrow : rowQ (pgW (K.tx (gN l j))) Qs v = true := by unfold rowQ; rw [decide_eq_true ⟨by omega, hv9⟩, hal.mp hc90]; rfl
          have er : cnb (rowQ (pgW (K.tx (gN l j))) Qs) (v + 1) = cnb (rowQ (pgW (K.tx (gN l j))) Qs) v + 1 := by show _ + (if rowQ (pgW (K.tx (gN l j))) Qs v = true then 1 else 0) = _; rw [if_pos hrow]
          have h9 := l28_N_placesOfRow hN hD hT hQ hj h8 hfp hl hg0 hg1 ha hab n9 (v + 1) (by omega) none
          rw [er] at h9
          exact h9
theorem c_N_placesOfRow (hN : aO w h nh) (hD : dO w h n) (hT : rE w h 67 68 67 68 (wdD K l) []) (hQ : rE w h 80 81 80 81 Qs []) (hj : j < l.length) (h8 : Qs.length ≤ 8) (hfp : iA w h 66 251 gf) (hl : l.length ≤ 250) (hg0 : gf j = nI a) (hg1 : gf (j + 1) = nI (a + (pgW (K.tx (gN l j))).length)) (ha : a = (wdD K (l.take j)).length) (hab : a + (pgW (K.tx (gN l j))).length ≤ 19000) : am_C X mt_N_placesOfRow (d + 3) [.ref 77, .ref 59, .int (nI j)] h (fun r h1 => r = some (.int (nI (cnb (rowQ (pgW (K.tx (gN l j))) Qs) (pgW (K.tx (gN l j))).length))) ∧ h1 = h) := by
  show am_G X mt_N_placesOfRow (d + 3) 0 [some (.ref 77), some (.ref 59), some (.int (nI j)), none, none, none, none] [] h _
  have hQ0 := hQ
  obtain ⟨b8, e8, hQr⟩ := hQ0
  refine g_iconst (pc := 0) (v := 0) dc_N_placesOfRow_0 rfl ?_
  refine g_istore_n (pc := 1) dc_N_placesOfRow_1 (by decide) ?_
  show am_G X mt_N_placesOfRow _ 2 [some (.ref 77), some (.ref 59), some (.int (nI j)), some (.int 0), none, none, none] [] _ _
  refine g_aload_n (pc := 2) dc_N_placesOfRow_2 rfl ?_
  refine g_getfield (pc := 3) dc_N_placesOfRow_3 fl_N_70 hD.1 rfl ?_
  refine g_iload_n (pc := 6) dc_N_placesOfRow_6 rfl ?_
  refine g_iconst (pc := 7) (v := 1) dc_N_placesOfRow_7 rfl ?_
  refine g_iadd (pc := 8) (v := (nI (j + 1))) dc_N_placesOfRow_8 (nI_add j 1) ?_
  refine q_ialoadV (pc := 9) (j + 1) dc_N_placesOfRow_9 hfp.1 (by omega) (by decide) (v := nI (a + (pgW (K.tx (gN l j))).length)) hg1 ?_
  refine g_aload_n (pc := 10) dc_N_placesOfRow_10 rfl ?_
  refine g_getfield (pc := 11) dc_N_placesOfRow_11 fl_N_24 hN.1 rfl ?_
  refine g_getfield (pc := 14) dc_N_placesOfRow_14 fl_N_41 hQr.1.1 rfl ?_
  refine g_isub (pc := 17) (v := (nI (a + (pgW (K.tx (gN l j))).length) - nI Qs.length)) dc_N_placesOfRow_17 rfl ?_
  refine g_istore (pc := 18) dc_N_placesOfRow_18 (by decide) ?_
  show am_G X mt_N_placesOfRow _ 20 [some (.ref 77), some (.ref 59), some (.int (nI j)), some (.int 0), some (.int (nI (a + (pgW (K.tx (gN l j))).length) - nI Qs.length)), none, none] [] _ _
  refine g_aload_n (pc := 20) dc_N_placesOfRow_20 rfl ?_
  refine g_getfield (pc := 21) dc_N_placesOfRow_21 fl_N_70 hD.1 rfl ?_
  refine g_iload_n (pc := 24) dc_N_placesOfRow_24 rfl ?_
  refine q_ialoadV (pc := 25) j dc_N_placesOfRow_25 hfp.1 (by omega) (by decide) (v := nI a) hg0 ?_
  refine g_istore (pc := 26) dc_N_placesOfRow_26 (by decide) ?_
  show am_G X mt_N_placesOfRow _ 28 [some (.ref 77), some (.ref 59), some (.int (nI j)), some (.int 0), some (.int (nI (a + (pgW (K.tx (gN l j))).length) - nI Qs.length)), some (.int (nI a)), none] [] _ _
  exact l28_N_placesOfRow hN hD hT hQ hj h8 hfp hl hg0 hg1 ha hab (pgW (K.tx (gN l j))).length 0 (Nat.zero_add _) none
end G9S
