/-! ===== the class begins a crawl ===== -/
/-- the settings, as the finder holds them -/
def seC (w : Gw) (h : List va_E) (sett : Nat → Nat) : Prop := ∃ gs, iA w h 29 4 gs ∧ ∀ i, i < 4 → gs i = nI (sett i)
section D8S
variable {X : am_X} {d i k n : Nat} {D L E : List Int32} {K V : Kn} {lim sett lim0 : Nat → Nat} {st9 : Bool} {ck an sv sn : Nat} {cr : Option Nat} {Sd : List (List Int32)} {w w0 w1 : Gw} {h h0 h1 : List va_E} {I : List Nat} {c : Cw}
theorem seC.fr (z : seC w h sett) (f : fr w w1 h h1 I) (hi : ¬ 29 ∈ I) : seC w1 h1 sett := by
  obtain ⟨gs, a1, a2⟩ := z
  exact ⟨gs, a1.fr f hi, a2⟩
theorem mee_one {dp ch : Nat} (h : ∀ i, i < K.ad.length → K.st i = 1) : ∀ i, i < (mee lim D dp ch K).ad.length → (mee lim D dp ch K).st i = 1 := by
  unfold mee
  cases e : nbr K.ad D with
  | none =>
    dsimp only
    split
    · intro i hi
      have hi2 : i < (K.ad ++ [D]).length := hi
      rw [List.length_append] at hi2
      have hi3 : i < K.ad.length + 1 := hi2
      show upf K.st K.ad.length 1 i = 1
      by_cases q : i = K.ad.length
      · rw [q, upf_s]
      · rw [upf_n q]; exact h i (by omega)
    · exact h
  | some k =>
    dsimp only
    split
    · exact h
    · exact h
theorem lkf_one {dp : Nat} : ∀ (Ls : List (List Int32)) (K : Kn), (∀ i, i < K.ad.length → K.st i = 1) → ∀ i, i < (lkf lim dp Ls K).ad.length → (lkf lim dp Ls K).st i = 1
  | [], K, h => h
  | E :: Ls, K, h => lkf_one (dp := dp) Ls (mee lim E dp 0 K) (mee_one h)
theorem l_C_begin (hok : ∀ x, x ∈ Sd → okD x) (hS20 : Sd.length ≤ 20) (hl0 : lim 0 ≤ 20) (hl1 : lim 1 ≤ 8) : ∀ (n j : Nat) (w : Gw) (h : List va_E) (K : Kn), j + n = Sd.length → cO w h 34 34 (cr7 st9 ck an sv sn cr) → gr4 w h 39 → gr4 w h 54 → rE w h 35 36 35 36 K.ad [] → mk4 w h 39 K → mk4 w h 54 V → aTC w h K → lmC w h lim → rE w h 30 31 30 31 Sd [] → wfK K → ldI K → wl lim K → am_G X mt_C_begin (d + 5) 51 [some (.ref 34), some (.ref 30), some (.ref 29), some (.int (nI j))] [] h (fun r h1 => r = none ∧ ∃ w1, fr w w1 h h1 [34, 35, 36, 40, 41, 42, 43, 53, 55, 56, 57, 58] ∧ cO w1 h1 34 34 (cr7 st9 ck an (lkf lim 0 (Sd.drop j) K).ad.length 0 cr) ∧ rE w1 h1 35 36 35 36 (lkf lim 0 (Sd.drop j) K).ad [] ∧ mk4 w1 h1 39 (lkf lim 0 (Sd.drop j) K) ∧ mk4 w1 h1 54 (lkf lim 0 (Sd.drop j) K) ∧ aTC w1 h1 (lkf lim 0 (Sd.drop j) K))
  | 0, j, w, h, K, e, hO, hG, hH, hR, hK, hV, hA, hl, hL, hw, hli, hwl => by
    have hL0 := hL
    obtain ⟨b9, e9, hLr⟩ := hL
    have hLo := hLr.1.1
    have hLb := hLr.1.2.1.ha
    have h250 := hw.1
    rw [List.drop_eq_nil_of_le (by omega)]
    refine g_iload_n (pc := 51) dc_C_begin_51 rfl ?_
    refine g_aload_n (pc := 52) dc_C_begin_52 rfl ?_
    refine g_getfield (pc := 53) dc_C_begin_53 fl_C_91 hLo rfl ?_
    refine q_icmp_ge (pc := 56) (tgt := 89) j Sd.length dc_C_begin_56 (by omega) (by omega) rfl (fun hc56 => ?_) (fun hc => absurd hc (by omega))
    refine g_aload_n (pc := 89) dc_C_begin_89 rfl ?_
    refine g_v0 (pc := 90) (M' := mt_C_save) dc_C_begin_90 mo_C_save im_C_save se_C_save ln_C_112 hO.1 rfl rfl (Nat.le_of_ble_eq_true rfl) (Nat.le_of_ble_eq_true rfl) (am_G.mono (w_C_save (d := d + 2) hO hG hH hR hK hV h250) ?_)
    intro r h1 hz
    obtain ⟨hz1, w1, g1, a1, a2⟩ := hz
    rw [hz1]
    clear hz1 r
    refine ⟨am_nt0, ?_⟩
    exact g_return dc_C_begin_93 rfl ⟨rfl, w1, g1.mo (by decide), a1, hR.fr g1 (by decide) (by decide), hK.fr g1 (by decide) (by decide) (by decide) (by decide), a2, hA.fr g1 (by decide)⟩
  | n + 1, j, w, h, K, e, hO, hG, hH, hR, hK, hV, hA, hl, hL, hw, hli, hwl => by
    have hL0 := hL
    obtain ⟨b9, e9, hLr⟩ := hL
    have hLo := hLr.1.1
    have hLb := hLr.1.2.1.ha
    have h250 := hw.1
    rw [drop_s (show j < Sd.length by omega)]
    have hj : j < Sd.length := by omega
    have hos := ofs_s (T := Sd) hj
    have hoj := hok _ (gT_mem hj)
    have hsa : sub (gT Sd j) 0 (gT Sd j).length = gT Sd j := sub_all rfl
    have hof := hLr.1.of (k := j + 1) (by omega)
    refine g_iload_n (pc := 51) dc_C_begin_51 rfl ?_
    refine g_aload_n (pc := 52) dc_C_begin_52 rfl ?_
    refine g_getfield (pc := 53) dc_C_begin_53 fl_C_91 hLo rfl ?_
    refine q_icmp_ge (pc := 56) (tgt := 89) j Sd.length dc_C_begin_56 (by omega) (by omega) rfl (fun hc => absurd hc (by omega)) (fun hc56 => ?_)
    refine g_aload_n (pc := 59) dc_C_begin_59 rfl ?_
    refine g_aload_n (pc := 60) dc_C_begin_60 rfl ?_
    refine g_getfield (pc := 61) dc_C_begin_61 fl_C_94 hLo rfl ?_
    refine g_getfield (pc := 64) dc_C_begin_64 fl_C_97 hLb rfl ?_
    refine g_aload_n (pc := 67) dc_C_begin_67 rfl ?_
    refine g_iload_n (pc := 68) dc_C_begin_68 rfl ?_
    refine g_v1 (pc := 69) (M' := mt_R_from) dc_C_begin_69 mo_R_from im_R_from se_R_from ln_C_101 hLo rfl rfl (Nat.le_of_ble_eq_true rfl) (Nat.le_of_ble_eq_true rfl) (am_G.mono (c_R_from (d := d + 4) (i := j) hLr.1 (by omega)) ?_)
    intro r h1 hq
    rw [hq.1, hq.2]
    clear hq h1 r
    refine ⟨am_nti _, ?_⟩
    refine g_aload_n (pc := 72) dc_C_begin_72 rfl ?_
    refine g_iload_n (pc := 73) dc_C_begin_73 rfl ?_
    refine g_v1 (pc := 74) (M' := mt_R_to) dc_C_begin_74 mo_R_to im_R_to se_R_to ln_C_105 hLo rfl rfl (Nat.le_of_ble_eq_true rfl) (Nat.le_of_ble_eq_true rfl) (am_G.mono (c_R_to (d := d + 4) (i := j) hLr.1 hj) ?_)
    intro r h1 hq
    rw [hq.1, hq.2, hos]
    clear hq h1 r
    refine ⟨am_nti _, ?_⟩
    refine g_iconst (pc := 77) (v := 0) dc_C_begin_77 rfl ?_
    refine g_iconst (pc := 78) (v := 0) dc_C_begin_78 rfl ?_
    refine g_v5 (pc := 79) (M' := mt_C_meet) dc_C_begin_79 mo_C_meet im_C_meet se_C_meet ln_C_108 hO.1 rfl rfl (Nat.le_of_ble_eq_true rfl) (Nat.le_of_ble_eq_true rfl) (am_G.mono (w_C_meet (d := d) (q := 31) (c := b9) (s := ofs Sd j) (f := 0) (t := (gT Sd j).length) (M := gT Sd j) (dp := 0) (ch := 0) hO hG hR hK hA hl (rR.tO hLr hj) (by decide) (Nat.zero_le _) (Nat.le_refl _) hw hli (by rw [hsa]; exact hoj) hl0 hl1 (by omega) (by omega)) ?_)
    intro r h1 hz
    rw [hsa] at hz
    obtain ⟨hz1, w1, g1, a1, a2, a3⟩ := hz
    rw [hz1]
    clear hz1 r
    refine ⟨am_nti _, ?_⟩
    refine g_pop (pc := 82) dc_C_begin_82 rfl ?_
    refine g_iinc (pc := 83) (v := (nI (j + 1))) dc_C_begin_83 rfl (nI_add j 1) (by decide) ?_
    show am_G X mt_C_begin _ 86 [some (.ref 34), some (.ref 30), some (.ref 29), some (.int (nI (j + 1)))] [] _ _
    refine g_goto (pc := 86) (tgt := 51) dc_C_begin_86 rfl ?_
    refine am_G.mono (l_C_begin hok hS20 hl0 hl1 n (j + 1) w1 h1 _ (by omega) (hO.fr g1 (by decide)) (hG.fr g1 (by decide)) (hH.fr g1 (by decide)) a1 a2 (hV.fr g1 (by decide) (by decide) (by decide) (by decide)) a3 (hl.fr g1 (by decide)) (hL0.fr g1 (by decide) (by decide)) (mee_wf hl0 hl1 hoj (by omega) (by omega) hw) hli.met (hwl.met (Nat.zero_le _))) (fun r h2 hz => ?_)
    obtain ⟨y1, w2, y2, y3⟩ := hz
    exact ⟨y1, w2, (g1.mo (by decide)).tr y2, y3⟩
theorem w_C_begin (hok : ∀ x, x ∈ Sd → okD x) (hS20 : Sd.length ≤ 20) (hl0 : sett 0 ≤ 20) (hl1 : sett 1 ≤ 8) (hC : cqC w0 h0 st9 lim0 K c V) (hse : seC w0 h0 sett) (hL_0 : rE w0 h0 30 31 30 31 Sd []) : am_C X mt_C_begin (d + 5) [.ref 34, .ref 30, .ref 29] h0 (fun r h1 => r = none ∧ ∃ w1, fr w0 w1 h0 h1 [34, 35, 36, 40, 41, 42, 43, 45, 46, 50, 53, 55, 56, 57, 58] ∧ cqC w1 h1 true sett (sta sett Sd).1 (sta sett Sd).2.1 (sta sett Sd).2.2) := by
  show am_G X mt_C_begin (d + 5) 0 [some (.ref 34), some (.ref 30), some (.ref 29), none] [] h0 _
  obtain ⟨hO_0, ⟨ga_0, gb_0⟩, hR_0, hK_0, hV_0, hA_0, ⟨gl, hl_0, hlP⟩, ⟨hq_0, gc, hc_0, hcP⟩, ⟨gp, hp_0, hpP, hpV⟩⟩ := hC
  obtain ⟨gs, hs_0, hsP⟩ := hse
  have G0 : fr w0 w0 h0 h0 [34, 35, 36, 40, 41, 42, 43, 45, 46, 50, 53, 55, 56, 57, 58] := fr.rf
  refine g_aload_n (pc := 0) dc_C_begin_0 rfl ?_
  refine g_iconst (pc := 1) (v := 0) dc_C_begin_1 rfl ?_
  refine g_aload_n (pc := 2) dc_C_begin_2 rfl ?_
  refine g_getfield (pc := 3) dc_C_begin_3 fl_C_38 hO_0.1 rfl ?_
  refine g_iconst (pc := 6) (v := 0) dc_C_begin_6 rfl ?_
  refine g_aload_n (pc := 7) dc_C_begin_7 rfl ?_
  refine g_getfield (pc := 8) dc_C_begin_8 fl_C_38 hO_0.1 rfl ?_
  refine g_alen (pc := 11) dc_C_begin_11 hl_0.1 (by decide) ?_
  refine g_arraycopy (pc := 12) (a := 29) (b := 50) (t := 1) (sp := 0) (dp := 0) (n := 4) (n0 := 4) (n1 := 4) dc_C_begin_12 (am_t6 61 rfl rfl) rfl rfl hs_0.1 hl_0.1 (by omega) (by omega) (by decide) (fun i _ => fits_i _) (Nat.le_of_ble_eq_true rfl) ?_
  have g1 : fr w0 w0 h0 (h0.set 50 (.inl (1, 4, .inl (va_cpy gs gl 0 0 4)))) [50] := fr.st hl_0.1 rfl hl_0.2
  have hl_1 : iA w0 (h0.set 50 (.inl (1, 4, .inl (va_cpy gs gl 0 0 4)))) 50 4 (va_cpy gs gl 0 0 4) := ⟨am_se (am_lt hl_0.1), hl_0.2⟩
  obtain ⟨w1, hw1⟩ : ∃ w9, w9 = w0 := ⟨_, rfl⟩
  generalize (h0.set 50 (.inl (1, 4, .inl (va_cpy gs gl 0 0 4)))) = h1 at g1 hl_1 ⊢
  have g1 : fr w0 w1 h0 h1 [50] := by rw [hw1]; exact g1
  have hl_1 : iA w1 h1 50 4 (va_cpy gs gl 0 0 4) := by rw [hw1]; exact hl_1
  have hO_1 := hO_0.fr g1 (by decide)
  have ga_1 := ga_0.fr g1 (by decide)
  have gb_1 := gb_0.fr g1 (by decide)
  have hR_1 := hR_0.fr g1 (by decide) (by decide)
  have hK_1 := hK_0.fr g1 (by decide) (by decide) (by decide) (by decide)
  have hV_1 := hV_0.fr g1 (by decide) (by decide) (by decide) (by decide)
  have hA_1 := hA_0.fr g1 (by decide)
  have hq_1 := hq_0.fr g1 (by decide) (by decide)
  have hc_1 := hc_0.fr g1 (by decide)
  have hp_1 := hp_0.fr g1 (by decide)
  have hs_1 := hs_0.fr g1 (by decide)
  have hL_1 := hL_0.fr g1 (by decide) (by decide)
  have G1 := G0.tr (g1.mo (by decide : ∀ x, x ∈ [50] → x ∈ [34, 35, 36, 40, 41, 42, 43, 45, 46, 50, 53, 55, 56, 57, 58]))
  refine g_aload_n (pc := 15) dc_C_begin_15 rfl ?_
  refine g_iconst (pc := 16) (v := 1) dc_C_begin_16 rfl ?_
  refine g_putfield (pc := 17) dc_C_begin_17 fp_C_begin_74 hO_1.1 (Nat.le_of_ble_eq_true rfl) rfl rfl ?_
  show am_G X mt_C_begin _ 20 _ _ (h1.set 34 (cr7 true c.ck c.an V.ad.length c.sn c.cr)) _
  have g2 : fr w1 w1 h1 (h1.set 34 (cr7 true c.ck c.an V.ad.length c.sn c.cr)) [34] := fr.st hO_1.1 rfl hO_1.2
  have hO_2 : cO w1 (h1.set 34 (cr7 true c.ck c.an V.ad.length c.sn c.cr)) 34 34 (cr7 true c.ck c.an V.ad.length c.sn c.cr) := ⟨am_se (am_lt hO_1.1), hO_1.2⟩
  obtain ⟨w2, hw2⟩ : ∃ w9, w9 = w1 := ⟨_, rfl⟩
  generalize (h1.set 34 (cr7 true c.ck c.an V.ad.length c.sn c.cr)) = h2 at g2 hO_2 ⊢
  have g2 : fr w1 w2 h1 h2 [34] := by rw [hw2]; exact g2
  have hO_2 : cO w2 h2 34 34 (cr7 true c.ck c.an V.ad.length c.sn c.cr) := by rw [hw2]; exact hO_2
  have ga_2 := ga_1.fr g2 (by decide)
  have gb_2 := gb_1.fr g2 (by decide)
  have hR_2 := hR_1.fr g2 (by decide) (by decide)
  have hK_2 := hK_1.fr g2 (by decide) (by decide) (by decide) (by decide)
  have hV_2 := hV_1.fr g2 (by decide) (by decide) (by decide) (by decide)
  have hA_2 := hA_1.fr g2 (by decide)
  have hl_2 := hl_1.fr g2 (by decide)
  have hq_2 := hq_1.fr g2 (by decide) (by decide)
  have hc_2 := hc_1.fr g2 (by decide)
  have hp_2 := hp_1.fr g2 (by decide)
  have hs_2 := hs_1.fr g2 (by decide)
  have hL_2 := hL_1.fr g2 (by decide) (by decide)
  have G2 := G1.tr (g2.mo (by decide : ∀ x, x ∈ [34] → x ∈ [34, 35, 36, 40, 41, 42, 43, 45, 46, 50, 53, 55, 56, 57, 58]))
  refine g_aload_n (pc := 20) dc_C_begin_20 rfl ?_
  refine g_iconst (pc := 21) (v := 0) dc_C_begin_21 rfl ?_
  refine g_putfield (pc := 22) dc_C_begin_22 fp_C_begin_78 hO_2.1 (Nat.le_of_ble_eq_true rfl) rfl rfl ?_
  show am_G X mt_C_begin _ 25 _ _ (h2.set 34 (cr7 true 0 c.an V.ad.length c.sn c.cr)) _
  have g3 : fr w2 w2 h2 (h2.set 34 (cr7 true 0 c.an V.ad.length c.sn c.cr)) [34] := fr.st hO_2.1 rfl hO_2.2
  have hO_3 : cO w2 (h2.set 34 (cr7 true 0 c.an V.ad.length c.sn c.cr)) 34 34 (cr7 true 0 c.an V.ad.length c.sn c.cr) := ⟨am_se (am_lt hO_2.1), hO_2.2⟩
  obtain ⟨w3, hw3⟩ : ∃ w9, w9 = w2 := ⟨_, rfl⟩
  generalize (h2.set 34 (cr7 true 0 c.an V.ad.length c.sn c.cr)) = h3 at g3 hO_3 ⊢
  have g3 : fr w2 w3 h2 h3 [34] := by rw [hw3]; exact g3
  have hO_3 : cO w3 h3 34 34 (cr7 true 0 c.an V.ad.length c.sn c.cr) := by rw [hw3]; exact hO_3
  have ga_3 := ga_2.fr g3 (by decide)
  have gb_3 := gb_2.fr g3 (by decide)
  have hR_3 := hR_2.fr g3 (by decide) (by decide)
  have hK_3 := hK_2.fr g3 (by decide) (by decide) (by decide) (by decide)
  have hV_3 := hV_2.fr g3 (by decide) (by decide) (by decide) (by decide)
  have hA_3 := hA_2.fr g3 (by decide)
  have hl_3 := hl_2.fr g3 (by decide)
  have hq_3 := hq_2.fr g3 (by decide) (by decide)
  have hc_3 := hc_2.fr g3 (by decide)
  have hp_3 := hp_2.fr g3 (by decide)
  have hs_3 := hs_2.fr g3 (by decide)
  have hL_3 := hL_2.fr g3 (by decide) (by decide)
  have G3 := G2.tr (g3.mo (by decide : ∀ x, x ∈ [34] → x ∈ [34, 35, 36, 40, 41, 42, 43, 45, 46, 50, 53, 55, 56, 57, 58]))
  refine g_aload_n (pc := 25) dc_C_begin_25 rfl ?_
  refine g_iconst (pc := 26) (v := (-1)) dc_C_begin_26 rfl ?_
  refine g_putfield (pc := 27) dc_C_begin_27 fp_C_begin_82 hO_3.1 (Nat.le_of_ble_eq_true rfl) rfl rfl ?_
  show am_G X mt_C_begin _ 30 _ _ (h3.set 34 (cr7 true 0 c.an V.ad.length c.sn none)) _
  have g4 : fr w3 w3 h3 (h3.set 34 (cr7 true 0 c.an V.ad.length c.sn none)) [34] := fr.st hO_3.1 rfl hO_3.2
  have hO_4 : cO w3 (h3.set 34 (cr7 true 0 c.an V.ad.length c.sn none)) 34 34 (cr7 true 0 c.an V.ad.length c.sn none) := ⟨am_se (am_lt hO_3.1), hO_3.2⟩
  obtain ⟨w4, hw4⟩ : ∃ w9, w9 = w3 := ⟨_, rfl⟩
  generalize (h3.set 34 (cr7 true 0 c.an V.ad.length c.sn none)) = h4 at g4 hO_4 ⊢
  have g4 : fr w3 w4 h3 h4 [34] := by rw [hw4]; exact g4
  have hO_4 : cO w4 h4 34 34 (cr7 true 0 c.an V.ad.length c.sn none) := by rw [hw4]; exact hO_4
  have ga_4 := ga_3.fr g4 (by decide)
  have gb_4 := gb_3.fr g4 (by decide)
  have hR_4 := hR_3.fr g4 (by decide) (by decide)
  have hK_4 := hK_3.fr g4 (by decide) (by decide) (by decide) (by decide)
  have hV_4 := hV_3.fr g4 (by decide) (by decide) (by decide) (by decide)
  have hA_4 := hA_3.fr g4 (by decide)
  have hl_4 := hl_3.fr g4 (by decide)
  have hq_4 := hq_3.fr g4 (by decide) (by decide)
  have hc_4 := hc_3.fr g4 (by decide)
  have hp_4 := hp_3.fr g4 (by decide)
  have hs_4 := hs_3.fr g4 (by decide)
  have hL_4 := hL_3.fr g4 (by decide) (by decide)
  have G4 := G3.tr (g4.mo (by decide : ∀ x, x ∈ [34] → x ∈ [34, 35, 36, 40, 41, 42, 43, 45, 46, 50, 53, 55, 56, 57, 58]))
  refine g_aload_n (pc := 30) dc_C_begin_30 rfl ?_
  refine g_iconst (pc := 31) (v := 0) dc_C_begin_31 rfl ?_
  refine g_putfield (pc := 32) dc_C_begin_32 fp_C_begin_85 hO_4.1 (Nat.le_of_ble_eq_true rfl) rfl rfl ?_
  show am_G X mt_C_begin _ 35 _ _ (h4.set 34 (cr7 true 0 0 V.ad.length c.sn none)) _
  have g5 : fr w4 w4 h4 (h4.set 34 (cr7 true 0 0 V.ad.length c.sn none)) [34] := fr.st hO_4.1 rfl hO_4.2
  have hO_5 : cO w4 (h4.set 34 (cr7 true 0 0 V.ad.length c.sn none)) 34 34 (cr7 true 0 0 V.ad.length c.sn none) := ⟨am_se (am_lt hO_4.1), hO_4.2⟩
  obtain ⟨w5, hw5⟩ : ∃ w9, w9 = w4 := ⟨_, rfl⟩
  generalize (h4.set 34 (cr7 true 0 0 V.ad.length c.sn none)) = h5 at g5 hO_5 ⊢
  have g5 : fr w4 w5 h4 h5 [34] := by rw [hw5]; exact g5
  have hO_5 : cO w5 h5 34 34 (cr7 true 0 0 V.ad.length c.sn none) := by rw [hw5]; exact hO_5
  have ga_5 := ga_4.fr g5 (by decide)
  have gb_5 := gb_4.fr g5 (by decide)
  have hR_5 := hR_4.fr g5 (by decide) (by decide)
  have hK_5 := hK_4.fr g5 (by decide) (by decide) (by decide) (by decide)
  have hV_5 := hV_4.fr g5 (by decide) (by decide) (by decide) (by decide)
  have hA_5 := hA_4.fr g5 (by decide)
  have hl_5 := hl_4.fr g5 (by decide)
  have hq_5 := hq_4.fr g5 (by decide) (by decide)
  have hc_5 := hc_4.fr g5 (by decide)
  have hp_5 := hp_4.fr g5 (by decide)
  have hs_5 := hs_4.fr g5 (by decide)
  have hL_5 := hL_4.fr g5 (by decide) (by decide)
  have G5 := G4.tr (g5.mo (by decide : ∀ x, x ∈ [34] → x ∈ [34, 35, 36, 40, 41, 42, 43, 45, 46, 50, 53, 55, 56, 57, 58]))
  refine g_aload_n (pc := 35) dc_C_begin_35 rfl ?_
  refine g_getfield (pc := 36) dc_C_begin_36 fl_C_31 hO_5.1 rfl ?_
  have hqx := hq_5
  obtain ⟨bq, eq, hqr⟩ := hqx
  refine g_v0 (pc := 39) (M' := mt_R_clear) dc_C_begin_39 mo_R_clear im_R_clear se_R_clear ln_C_88 hqr.1.1 rfl rfl (Nat.le_of_ble_eq_true rfl) (Nat.le_of_ble_eq_true rfl) (am_G.mono (w_R_clear (d := d + 2) (i := 45) (j := 46) (by decide) (by decide) (by decide) hq_5) ?_)
  intro r h6 hz
  obtain ⟨hz1, w6, g6, hq_6⟩ := hz
  rw [hz1]
  have hO_6 := hO_5.fr g6 (by decide)
  have ga_6 := ga_5.fr g6 (by decide)
  have gb_6 := gb_5.fr g6 (by decide)
  have hR_6 := hR_5.fr g6 (by decide) (by decide)
  have hK_6 := hK_5.fr g6 (by decide) (by decide) (by decide) (by decide)
  have hV_6 := hV_5.fr g6 (by decide) (by decide) (by decide) (by decide)
  have hA_6 := hA_5.fr g6 (by decide)
  have hl_6 := hl_5.fr g6 (by decide)
  have hc_6 := hc_5.fr g6 (by decide)
  have hp_6 := hp_5.fr g6 (by decide)
  have hs_6 := hs_5.fr g6 (by decide)
  have hL_6 := hL_5.fr g6 (by decide) (by decide)
  have G6 := G5.tr (g6.mo (by decide : ∀ x, x ∈ [45, 46] → x ∈ [34, 35, 36, 40, 41, 42, 43, 45, 46, 50, 53, 55, 56, 57, 58]))
  clear hz1 r
  refine ⟨am_nt0, ?_⟩
  refine g_aload_n (pc := 42) dc_C_begin_42 rfl ?_
  refine g_getfield (pc := 43) dc_C_begin_43 fl_C_14 hO_6.1 rfl ?_
  have hRx := hR_6
  obtain ⟨bR, eR, hRr⟩ := hRx
  refine g_v0 (pc := 46) (M' := mt_R_clear) dc_C_begin_46 mo_R_clear im_R_clear se_R_clear ln_C_88 hRr.1.1 rfl rfl (Nat.le_of_ble_eq_true rfl) (Nat.le_of_ble_eq_true rfl) (am_G.mono (w_R_clear (d := d + 2) (i := 35) (j := 36) (by decide) (by decide) (by decide) hR_6) ?_)
  intro r h7 hz
  obtain ⟨hz1, w7, g7, hR_7⟩ := hz
  rw [hz1]
  have hO_7 := hO_6.fr g7 (by decide)
  have ga_7 := ga_6.fr g7 (by decide)
  have gb_7 := gb_6.fr g7 (by decide)
  have hK_7 := hK_6.fr g7 (by decide) (by decide) (by decide) (by decide)
  have hV_7 := hV_6.fr g7 (by decide) (by decide) (by decide) (by decide)
  have hA_7 := hA_6.fr g7 (by decide)
  have hl_7 := hl_6.fr g7 (by decide)
  have hq_7 := hq_6.fr g7 (by decide) (by decide)
  have hc_7 := hc_6.fr g7 (by decide)
  have hp_7 := hp_6.fr g7 (by decide)
  have hs_7 := hs_6.fr g7 (by decide)
  have hL_7 := hL_6.fr g7 (by decide) (by decide)
  have G7 := G6.tr (g7.mo (by decide : ∀ x, x ∈ [35, 36] → x ∈ [34, 35, 36, 40, 41, 42, 43, 45, 46, 50, 53, 55, 56, 57, 58]))
  clear hz1 r
  refine ⟨am_nt0, ?_⟩
  refine g_iconst (pc := 49) (v := 0) dc_C_begin_49 rfl ?_
  refine g_istore_n (pc := 50) dc_C_begin_50 (by decide) ?_
  show am_G X mt_C_begin _ 51 [some (.ref 34), some (.ref 30), some (.ref 29), some (.int 0)] [] _ _
  obtain ⟨z0, z1, z2, z3, m0, m1, m2, m3, -⟩ := hK_7
  have hK9 : mk4 w7 h7 39 K00 := ⟨z0, z1, z2, z3, m0, m1, m2, m3, fun i hi => absurd hi (Nat.not_lt_zero i)⟩
  obtain ⟨ga9, ha9, -⟩ := hA_7
  have hA9 : aTC w7 h7 K00 := ⟨ga9, ha9, fun i hi => absurd hi (Nat.not_lt_zero i)⟩
  have hl9 : lmC w7 h7 sett := ⟨_, hl_7, fun i hi => (cpy_0 hi).trans (hsP i hi)⟩
  refine am_G.mono (l_C_begin (lim := sett) (d := d) hok hS20 hl0 hl1 Sd.length 0 w7 h7 K00 (Nat.zero_add _) hO_7 ga_7 gb_7 hR_7 hK9 hV_7 hA9 hl9 hL_7 wf00.1 (fun i E hi => absurd hi (Nat.not_lt_zero i)) (fun i hi => absurd hi (Nat.not_lt_zero i))) (fun r h9 hz => ?_)
  obtain ⟨y1, w9, y2, y3, y4, y5, y6, y7⟩ := hz
  have hno : ∀ i, i < (lkf sett 0 Sd K00).ad.length → ¬ (lkf sett 0 Sd K00).st i = 2 := fun i hi h2 => by have := lkf_one (lim := sett) (dp := 0) Sd K00 (fun i hi => absurd hi (Nat.not_lt_zero i)) i hi; rw [this] at h2; cases h2
  exact ⟨y1, w9, G7.tr (y2.mo (by decide)), y3, ⟨ga_7.fr y2 (by decide), gb_7.fr y2 (by decide)⟩, y4, y5, y6, y7, hl9.fr y2 (by decide), ⟨hq_7.fr y2 (by decide) (by decide), gc, hc_7.fr y2 (by decide), fun i hi => absurd hi (Nat.not_lt_zero i)⟩, gp, hp_7.fr y2 (by decide), fun i hi h2 => absurd h2 (hno i hi), fun i hi h2 => absurd h2 (hno i hi)⟩
end D8S
