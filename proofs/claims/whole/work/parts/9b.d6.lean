/-! ===== the class is led on; the end of a step ===== -/
section D6S
variable {X : am_X} {d i k n : Nat} {D L E : List Int32} {K V : Kn} {lim : Nat → Nat} {st9 : Bool} {ck an sv sn pg : Nat} {cr : Option Nat} {c : Cw}
theorem sld_ldI {K2 : Kn} (h : ldI K2) (h2 : E ∈ K2.ad ∨ K2.ad.length = 250) : ldI (sld K2 i E) := fun j F hj hF => by
  have hF2 : upf K2.ld i (some E) j = some F := hF
  by_cases e : j = i
  · rw [e, upf_s] at hF2
    injection hF2 with hF3
    rw [← hF3]; exact h2
  · rw [upf_n e] at hF2
    exact h j F hj hF2
theorem w_C_leadOn {w0 : Gw} {h0 : List va_E} (hl0 : lim 0 ≤ 20) (hl1 : lim 1 ≤ 8) (hO_0 : cO w0 h0 34 34 (cr7 st9 ck an sv sn cr)) (hG_0 : gr4 w0 h0 39) (hR_0 : rE w0 h0 35 36 35 36 K.ad []) (hK : mk4 w0 h0 39 K) (hA : aTC w0 h0 K) (hl_0 : lmC w0 h0 lim) (hB_0 : bE w0 h0 8 8 E) (ho : okD E) (hw : wfK K) (hli : ldI K) (hwl : wl lim K) (hi : i < K.ad.length) (hc : K.ch i < lim 1) : am_C X mt_C_leadOn (d + 5) [.ref 34, .int (nI i), .ref 8] h0 (fun r h1 => r = none ∧ ∃ w1, fr w0 w1 h0 h1 [35, 36, 40, 41, 42, 43, 53] ∧ rE w1 h1 35 36 35 36 (mee lim E (K.dp i) (K.ch i + 1) (ldK K i E)).ad [] ∧ mk4 w1 h1 39 (mee lim E (K.dp i) (K.ch i + 1) (ldK K i E)) ∧ aTC w1 h1 (mee lim E (K.dp i) (K.ch i + 1) (ldK K i E)) ∧ wfK (mee lim E (K.dp i) (K.ch i + 1) (ldK K i E)) ∧ ldI (mee lim E (K.dp i) (K.ch i + 1) (ldK K i E)) ∧ wl lim (mee lim E (K.dp i) (K.ch i + 1) (ldK K i E))) := by
  show am_G X mt_C_leadOn (d + 5) 0 [some (.ref 34), some (.int (nI i)), some (.ref 8)] [] h0 _
  obtain ⟨z0, z1, z2, z3, m0_0, m1_0, m2_0, m3_0, hmP⟩ := hK
  obtain ⟨ga, ha_0, haP⟩ := hA
  have h250 := hw.1
  have hwi := hw.2.2.2 i hi
  have G0 : fr w0 w0 h0 h0 [35, 36, 40, 41, 42, 43, 53] := fr.rf
  have hw3 : wfK (stK K i 3) := stK_wf (K := K) (k := i) (v := 3) (by decide) hw
  have hsa : sub E 0 E.length = E := sub_all rfl
  have hmk := mee_k (lim := lim) (D := E) (dp := K.dp i) (ch := K.ch i + 1) (k := i) (K := stK K i 3) hi (by show ¬ upf K.st i 3 i = 1; rw [upf_s]; decide)
  have hin := mee_in (lim := lim) (D := E) (K := stK K i 3) (hwl i hi).1 (show K.ch i + 1 ≤ lim 1 by omega) h250
  have hwf := mee_wf (lim := lim) hl0 hl1 ho (show K.ch i + 1 ≤ 8 by omega) (show K.dp i ≤ 21 by omega) hw3
  have hld : ldI (mee lim E (K.dp i) (K.ch i + 1) (stK K i 3)) := ldI.met (K := stK K i 3) hli
  have hwl2 : wl lim (mee lim E (K.dp i) (K.ch i + 1) (stK K i 3)) := wl.met (K := stK K i 3) hwl (by omega)
  refine g_aload_n (pc := 0) dc_C_leadOn_0 rfl ?_
  refine g_getfield (pc := 1) dc_C_leadOn_1 fl_C_22 hO_0.1 rfl ?_
  refine g_iconst (pc := 4) (v := 0) dc_C_leadOn_4 rfl ?_
  refine q_aaloadI (pc := 5) (k := 40) 0 dc_C_leadOn_5 hG_0.1 (by decide) (by decide) rfl ?_
  refine g_iload_n (pc := 6) dc_C_leadOn_6 rfl ?_
  refine g_iconst (pc := 7) (v := 3) dc_C_leadOn_7 rfl ?_
  refine q_iastore (pc := 8) i dc_C_leadOn_8 m0_0.1 (by omega) (by decide) ?_
  have g1 : fr w0 w0 h0 (h0.set 40 (.inl (1, 250, .inl (upd z0 i 3)))) [40] := fr.st m0_0.1 rfl m0_0.2
  have m0_1 : iA w0 (h0.set 40 (.inl (1, 250, .inl (upd z0 i 3)))) 40 250 (upd z0 i 3) := ⟨am_se (am_lt m0_0.1), m0_0.2⟩
  obtain ⟨w1, hw1⟩ : ∃ w9, w9 = w0 := ⟨_, rfl⟩
  generalize (h0.set 40 (.inl (1, 250, .inl (upd z0 i 3)))) = h1 at g1 m0_1 ⊢
  have g1 : fr w0 w1 h0 h1 [40] := by rw [hw1]; exact g1
  have m0_1 : iA w1 h1 40 250 (upd z0 i 3) := by rw [hw1]; exact m0_1
  have hO_1 := hO_0.fr g1 (by decide)
  have hG_1 := hG_0.fr g1 (by decide)
  have hR_1 := hR_0.fr g1 (by decide) (by decide)
  have m1_1 := m1_0.fr g1 (by decide)
  have m2_1 := m2_0.fr g1 (by decide)
  have m3_1 := m3_0.fr g1 (by decide)
  have ha_1 := ha_0.fr g1 (by decide)
  have hl_1 := hl_0.fr g1 (by decide)
  have hB_1 := hB_0.fr g1 (by decide)
  have G1 := G0.tr (g1.mo (by decide : ∀ x, x ∈ [40] → x ∈ [35, 36, 40, 41, 42, 43, 53]))
  obtain ⟨b8, q8⟩ := hB_1
  have q8h := q8.1.ha
  have hB_1 := q8.e
  have hK1 : mk4 w1 h1 39 (stK K i 3) := ⟨_, _, _, _, m0_1, m1_1, m2_1, m3_1, stK_mkP (i := i) (v := 3) hmP⟩
  have hA1 : aTC w1 h1 (stK K i 3) := ⟨ga, ha_1, haP⟩
  refine g_aload_n (pc := 9) dc_C_leadOn_9 rfl ?_
  refine g_getfield (pc := 10) dc_C_leadOn_10 fl_C_22 hO_1.1 rfl ?_
  refine g_iconst (pc := 13) (v := 3) dc_C_leadOn_13 rfl ?_
  refine q_aaloadI (pc := 14) (k := 43) 3 dc_C_leadOn_14 hG_1.1 (by decide) (by decide) rfl ?_
  refine g_iload_n (pc := 15) dc_C_leadOn_15 rfl ?_
  refine g_aload_n (pc := 16) dc_C_leadOn_16 rfl ?_
  refine g_aload_n (pc := 17) dc_C_leadOn_17 rfl ?_
  refine g_getfield (pc := 18) dc_C_leadOn_18 fl_C_97 q8h rfl ?_
  refine g_iconst (pc := 21) (v := 0) dc_C_leadOn_21 rfl ?_
  refine g_aload_n (pc := 22) dc_C_leadOn_22 rfl ?_
  refine g_getfield (pc := 23) dc_C_leadOn_23 fl_C_183 q8h rfl ?_
  refine g_aload_n (pc := 26) dc_C_leadOn_26 rfl ?_
  refine g_getfield (pc := 27) dc_C_leadOn_27 fl_C_22 hO_1.1 rfl ?_
  refine g_iconst (pc := 30) (v := 1) dc_C_leadOn_30 rfl ?_
  refine q_aaloadI (pc := 31) (k := 41) 1 dc_C_leadOn_31 hG_1.1 (by decide) (by decide) rfl ?_
  refine g_iload_n (pc := 32) dc_C_leadOn_32 rfl ?_
  refine q_ialoadV (pc := 33) i dc_C_leadOn_33 m1_1.1 (by omega) (by decide) (v := (nI (K.dp i))) (hmP i hi).2.1 ?_
  refine g_aload_n (pc := 34) dc_C_leadOn_34 rfl ?_
  refine g_getfield (pc := 35) dc_C_leadOn_35 fl_C_22 hO_1.1 rfl ?_
  refine g_iconst (pc := 38) (v := 2) dc_C_leadOn_38 rfl ?_
  refine q_aaloadI (pc := 39) (k := 42) 2 dc_C_leadOn_39 hG_1.1 (by decide) (by decide) rfl ?_
  refine g_iload_n (pc := 40) dc_C_leadOn_40 rfl ?_
  refine q_ialoadV (pc := 41) i dc_C_leadOn_41 m2_1.1 (by omega) (by decide) (v := (nI (K.ch i))) (hmP i hi).2.2.1 ?_
  refine g_iconst (pc := 42) (v := 1) dc_C_leadOn_42 rfl ?_
  refine g_iadd (pc := 43) (v := (nI (K.ch i + 1))) dc_C_leadOn_43 (nI_add (K.ch i) 1) ?_
  have emul : nI (0 + E.length) = nI E.length := by rw [Nat.zero_add]
  refine g_v5 (pc := 44) (M' := mt_C_meet) dc_C_leadOn_44 mo_C_meet im_C_meet se_C_meet ln_C_108 hO_1.1 rfl rfl (Nat.le_of_ble_eq_true rfl) (Nat.le_of_ble_eq_true rfl) (am_G.mono (by rw [← emul]; exact w_C_meet (d := d) (q := 8) (c := b8) (s := 0) (f := 0) (t := E.length) (M := E) (K := stK K i 3) (dp := K.dp i) (ch := K.ch i + 1) hO_1 hG_1 hR_1 hK1 hA1 hl_1 q8.tO (by decide) (Nat.zero_le _) (Nat.le_refl _) hw3 hli (by rw [hsa]; exact ho) hl0 hl1 (by omega) (by omega)) ?_)
  intro r h2 hz
  rw [hsa] at hz
  obtain ⟨hz1, w2, g2, hR_2, ⟨y0, y1, y2, y3, m0_2, m1_2, m2_2, m3_2, hmP2⟩, ⟨gb, ha_2, haP2⟩⟩ := hz
  rw [hz1]
  have hO_2 := hO_1.fr g2 (by decide)
  have hG_2 := hG_1.fr g2 (by decide)
  have hl_2 := hl_1.fr g2 (by decide)
  have hB_2 := hB_1.fr g2 (by decide)
  have G2 := G1.tr (g2.mo (by decide : ∀ x, x ∈ [35, 36, 40, 41, 42, 43, 53] → x ∈ [35, 36, 40, 41, 42, 43, 53]))
  clear hz1 r
  refine ⟨am_nti _, ?_⟩
  refine q_iastore (pc := 47) i dc_C_leadOn_47 m3_2.1 (by omega) (by decide) ?_
  have g3 : fr w2 w2 h2 (h2.set 43 (.inl (1, 250, .inl (upd y3 i (er (nbr (mee lim E (K.dp i) (K.ch i + 1) (stK K i 3)).ad E)))))) [43] := fr.st m3_2.1 rfl m3_2.2
  have m3_3 : iA w2 (h2.set 43 (.inl (1, 250, .inl (upd y3 i (er (nbr (mee lim E (K.dp i) (K.ch i + 1) (stK K i 3)).ad E)))))) 43 250 (upd y3 i (er (nbr (mee lim E (K.dp i) (K.ch i + 1) (stK K i 3)).ad E))) := ⟨am_se (am_lt m3_2.1), m3_2.2⟩
  obtain ⟨w3, hw3⟩ : ∃ w9, w9 = w2 := ⟨_, rfl⟩
  generalize (h2.set 43 (.inl (1, 250, .inl (upd y3 i (er (nbr (mee lim E (K.dp i) (K.ch i + 1) (stK K i 3)).ad E)))))) = h3 at g3 m3_3 ⊢
  have g3 : fr w2 w3 h2 h3 [43] := by rw [hw3]; exact g3
  have m3_3 : iA w3 h3 43 250 (upd y3 i (er (nbr (mee lim E (K.dp i) (K.ch i + 1) (stK K i 3)).ad E))) := by rw [hw3]; exact m3_3
  have hO_3 := hO_2.fr g3 (by decide)
  have hG_3 := hG_2.fr g3 (by decide)
  have hR_3 := hR_2.fr g3 (by decide) (by decide)
  have m0_3 := m0_2.fr g3 (by decide)
  have m1_3 := m1_2.fr g3 (by decide)
  have m2_3 := m2_2.fr g3 (by decide)
  have ha_3 := ha_2.fr g3 (by decide)
  have hl_3 := hl_2.fr g3 (by decide)
  have hB_3 := hB_2.fr g3 (by decide)
  have G3 := G2.tr (g3.mo (by decide : ∀ x, x ∈ [43] → x ∈ [35, 36, 40, 41, 42, 43, 53]))
  exact g_return dc_C_leadOn_48 rfl ⟨rfl, w3, G3, by rw [mee_ld hi]; exact hR_3, by rw [mee_ld hi]; exact ⟨_, _, _, _, m0_3, m1_3, m2_3, m3_3, sld_mkP hmP2⟩, by rw [mee_ld hi]; exact ⟨gb, ha_3, haP2⟩, by rw [mee_ld hi]; exact hwf, by rw [mee_ld hi]; exact sld_ldI hld hin, by rw [mee_ld hi]; exact hwl2⟩
theorem c_C_mayLeadOn {w : Gw} {h : List va_E} {x : Pg} (hO : cO w h 34 34 (cr7 st9 ck an sv sn cr)) (hG : gr4 w h 39) (hK : mk4 w h 39 K) (hl : lmC w h lim) (hg : gG w h pg x) (hs : x.2.1 ≤ 599) (hw : wfK K) (hi : i < K.ad.length) (hl1 : lim 1 ≤ 8) : am_C X mt_C_mayLeadOn d [.ref 34, .int (nI i), .ref pg] h (fun r h1 => r = some (.int (b1 (decide (300 ≤ x.2.1 ∧ x.2.1 < 400 ∧ K.ch i < lim 1)))) ∧ h1 = h) := by
  show am_G X mt_C_mayLeadOn d 0 [some (.ref 34), some (.int (nI i)), some (.ref pg)] [] h _
  obtain ⟨z0, z1, z2, z3, m0, m1, m2, m3, hmP⟩ := hK
  obtain ⟨a1, a2, g1, -⟩ := hg
  obtain ⟨gl, hl9, hlP⟩ := hl
  have h250 := hw.1
  have hwi := hw.2.2.2 i hi
  refine g_aload_n (pc := 0) dc_C_mayLeadOn_0 rfl ?_
  refine g_getfield (pc := 1) dc_C_mayLeadOn_1 fl_C_140 g1.1 rfl ?_
  refine g_sipush (pc := 4) (v := 300) dc_C_mayLeadOn_4 rfl ?_
  refine q_icmp_lt (pc := 7) (tgt := 41) x.2.1 300 dc_C_mayLeadOn_7 (by omega) (by omega) rfl (fun hc7 => ?_) (fun hc7 => ?_)
  · refine g_iconst (pc := 41) (v := 0) dc_C_mayLeadOn_41 rfl ?_
    exact g_zreturn dc_C_mayLeadOn_42 rfl rfl ⟨congrArg (fun z => some (Value.int z)) (b1_f (by omega)), rfl⟩
  · refine g_aload_n (pc := 10) dc_C_mayLeadOn_10 rfl ?_
    refine g_getfield (pc := 11) dc_C_mayLeadOn_11 fl_C_140 g1.1 rfl ?_
    refine g_sipush (pc := 14) (v := 399) dc_C_mayLeadOn_14 rfl ?_
    refine q_icmp_gt (pc := 17) (tgt := 41) x.2.1 399 dc_C_mayLeadOn_17 (by omega) (by omega) rfl (fun hc17 => ?_) (fun hc17 => ?_)
    · refine g_iconst (pc := 41) (v := 0) dc_C_mayLeadOn_41 rfl ?_
      exact g_zreturn dc_C_mayLeadOn_42 rfl rfl ⟨congrArg (fun z => some (Value.int z)) (b1_f (by omega)), rfl⟩
    · refine g_aload_n (pc := 20) dc_C_mayLeadOn_20 rfl ?_
      refine g_getfield (pc := 21) dc_C_mayLeadOn_21 fl_C_22 hO.1 rfl ?_
      refine g_iconst (pc := 24) (v := 2) dc_C_mayLeadOn_24 rfl ?_
      refine q_aaloadI (pc := 25) (k := 42) 2 dc_C_mayLeadOn_25 hG.1 (by decide) (by decide) rfl ?_
      refine g_iload_n (pc := 26) dc_C_mayLeadOn_26 rfl ?_
      refine q_ialoadV (pc := 27) i dc_C_mayLeadOn_27 m2.1 (by omega) (by decide) (v := nI (K.ch i)) (hmP i hi).2.2.1 ?_
      refine g_aload_n (pc := 28) dc_C_mayLeadOn_28 rfl ?_
      refine g_getfield (pc := 29) dc_C_mayLeadOn_29 fl_C_38 hO.1 rfl ?_
      refine g_iconst (pc := 32) (v := 1) dc_C_mayLeadOn_32 rfl ?_
      refine q_ialoadV (pc := 33) 1 dc_C_mayLeadOn_33 hl9.1 (by decide) (by decide) (v := nI (lim 1)) (hlP 1 (by decide)) ?_
      refine q_icmp_ge (pc := 34) (tgt := 41) (K.ch i) (lim 1) dc_C_mayLeadOn_34 (by omega) (by omega) rfl (fun hc34 => ?_) (fun hc34 => ?_)
      · refine g_iconst (pc := 41) (v := 0) dc_C_mayLeadOn_41 rfl ?_
        exact g_zreturn dc_C_mayLeadOn_42 rfl rfl ⟨congrArg (fun z => some (Value.int z)) (b1_f (by omega)), rfl⟩
      · refine g_iconst (pc := 37) (v := 1) dc_C_mayLeadOn_37 rfl ?_
        refine g_goto (pc := 38) (tgt := 42) dc_C_mayLeadOn_38 rfl ?_
        exact g_zreturn dc_C_mayLeadOn_42 rfl rfl ⟨congrArg (fun z => some (Value.int z)) (b1_t (by omega)), rfl⟩
/-- the crawl of the class behind its object -/
def cqC (w : Gw) (h : List va_E) (st9 : Bool) (lim : Nat → Nat) (K : Kn) (c : Cw) (V : Kn) : Prop := cO w h 34 34 (cr7 st9 c.ck c.an V.ad.length c.sn c.cr) ∧ (gr4 w h 39 ∧ gr4 w h 54) ∧ rE w h 35 36 35 36 K.ad [] ∧ mk4 w h 39 K ∧ mk4 w h 54 V ∧ aTC w h K ∧ lmC w h lim ∧ aqC w h c ∧ pgK w h K V
theorem pgK_sv {w : Gw} {h : List va_E} (z : pgK w h K V) : pgK w h K K := by
  obtain ⟨gp, a1, a2, a3⟩ := z
  exact ⟨gp, a1, a2, a2⟩
theorem t210_C_takeStep {w : Gw} {h : List va_E} {V1 : Kn} (hC : cqC w h st9 lim K c V) (hw : wfK K) (hk : k < K.ad.length) (hl3 : lim 3 ≤ 50) (hsn : c.sn ≤ 128000) (hV1 : V1 = if lim 3 ≤ c.sn then K else V) : am_G X mt_C_takeStep (d + 3) 210 [some (.ref 34), some (.int (nI k)), none] [] h (fun r h1 => r = some (.int (nI (K.st k))) ∧ ∃ w1, fr w w1 h h1 [34, 55, 56, 57, 58] ∧ cqC w1 h1 st9 lim K (if lim 3 ≤ c.sn then snz c else c) V1) := by
  have hC0 := hC
  obtain ⟨hO, ⟨ga, gb⟩, hR, hK, hV, hA, hl, hq, hp⟩ := hC
  have h250 := hw.1
  have hwk := hw.2.2.2 k hk
  have hl0 := hl
  obtain ⟨gl, hl9, hlP⟩ := hl
  have hl33 := hlP 3 (by decide)
  refine g_aload_n (pc := 210) dc_C_takeStep_210 rfl ?_
  refine g_getfield (pc := 211) dc_C_takeStep_211 fl_C_177 hO.1 rfl ?_
  refine g_aload_n (pc := 214) dc_C_takeStep_214 rfl ?_
  refine g_getfield (pc := 215) dc_C_takeStep_215 fl_C_38 hO.1 rfl ?_
  refine g_iconst (pc := 218) (v := 3) dc_C_takeStep_218 rfl ?_
  refine q_ialoadV (pc := 219) 3 dc_C_takeStep_219 hl9.1 (by decide) (by decide) (v := nI (lim 3)) hl33 ?_
  refine q_icmp_lt (pc := 220) (tgt := 227) c.sn (lim 3) dc_C_takeStep_220 (by omega) (by omega) rfl (fun hc220 => ?_) (fun hc220 => ?_)
  · have hK9 := hK
    obtain ⟨y0, y1, y2, y3, m0_9, m1_9, m2_9, m3_9, hmP⟩ := hK
    refine g_aload_n (pc := 227) dc_C_takeStep_227 rfl ?_
    refine g_getfield (pc := 228) dc_C_takeStep_228 fl_C_22 hO.1 rfl ?_
    refine g_iconst (pc := 231) (v := 0) dc_C_takeStep_231 rfl ?_
    refine q_aaloadI (pc := 232) (k := 40) 0 dc_C_takeStep_232 ga.1 (by decide) (by decide) rfl ?_
    refine g_iload_n (pc := 233) dc_C_takeStep_233 rfl ?_
    refine q_ialoadV (pc := 234) k dc_C_takeStep_234 m0_9.1 (by omega) (by decide) (v := nI (K.st k)) (hmP k hk).1 ?_
    have hif : ¬ lim 3 ≤ c.sn := by omega
    rw [hV1, if_neg hif, if_neg hif]
    exact g_ireturn dc_C_takeStep_235 rfl ⟨rfl, w, fr.rf, hC0⟩
  · refine g_aload_n (pc := 223) dc_C_takeStep_223 rfl ?_
    refine g_v0 (pc := 224) (M' := mt_C_save) dc_C_takeStep_224 mo_C_save im_C_save se_C_save ln_C_112 hO.1 rfl rfl (Nat.le_of_ble_eq_true rfl) (Nat.le_of_ble_eq_true rfl) (am_G.mono (w_C_save (d := d) hO ga gb hR hK hV h250) ?_)
    intro r h1 hz
    obtain ⟨z1, w1, g1, hO2, hV2⟩ := hz
    rw [z1]
    clear z1 r
    have ga2 := ga.fr g1 (by decide)
    have hK2 := hK.fr g1 (by decide) (by decide) (by decide) (by decide)
    refine ⟨am_nt0, ?_⟩
    have hK9 := hK2
    obtain ⟨y0, y1, y2, y3, m0_9, m1_9, m2_9, m3_9, hmP⟩ := hK2
    refine g_aload_n (pc := 227) dc_C_takeStep_227 rfl ?_
    refine g_getfield (pc := 228) dc_C_takeStep_228 fl_C_22 hO2.1 rfl ?_
    refine g_iconst (pc := 231) (v := 0) dc_C_takeStep_231 rfl ?_
    refine q_aaloadI (pc := 232) (k := 40) 0 dc_C_takeStep_232 ga2.1 (by decide) (by decide) rfl ?_
    refine g_iload_n (pc := 233) dc_C_takeStep_233 rfl ?_
    refine q_ialoadV (pc := 234) k dc_C_takeStep_234 m0_9.1 (by omega) (by decide) (v := nI (K.st k)) (hmP k hk).1 ?_
    have hif : lim 3 ≤ c.sn := by omega
    rw [hV1, if_pos hif, if_pos hif]
    exact g_ireturn dc_C_takeStep_235 rfl ⟨rfl, w1, g1, hO2, ⟨ga2, gb.fr g1 (by decide)⟩, hR.fr g1 (by decide) (by decide), hK9, hV2, hA.fr g1 (by decide), hl0.fr g1 (by decide), hq.fr g1 (by decide) (by decide) (by decide), pgK_sv (hp.fr g1 (by decide) (by decide))⟩
end D6S
