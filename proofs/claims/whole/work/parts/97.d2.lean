/-! ===== the class meets an address ===== -/
section D2S
variable {X : am_X} {d i c k q s f t dp ch n : Nat} {M D : List Int32} {K : Kn} {lim : Nat → Nat} {g0 g1 g2 g3 ga : Nat → Int32}
theorem mkP.imp (h : mkP g0 g1 g2 g3 K) : mkP g0 (upd g1 k (nI dp)) (upd g2 k (nI ch)) g3 (K.ad, K.st, upf K.dp k dp, upf K.ch k ch, K.ld, K.tx, K.at) := fun i hi => by
  have h9 := h i hi
  show g0 i = nI (K.st i) ∧ upd g1 k (nI dp) i = nI (upf K.dp k dp i) ∧ upd g2 k (nI ch) i = nI (upf K.ch k ch i) ∧ g3 i = er (ldx K i)
  by_cases e : i = k
  · rw [e, upd_s, upd_s, upf_s, upf_s]
    rw [e] at h9
    exact ⟨h9.1, rfl, rfl, h9.2.2.2⟩
  · rw [upd_n e, upd_n e, upf_n e, upf_n e]
    exact h9
theorem mkP.new (h : mkP g0 g1 g2 g3 K) (hl : ldI K) (hn : K.ad.length < 250) : mkP (upd g0 K.ad.length 1) (upd g1 K.ad.length (nI dp)) (upd g2 K.ad.length (nI ch)) (upd g3 K.ad.length (-1)) (K.ad ++ [D], upf K.st K.ad.length 1, upf K.dp K.ad.length dp, upf K.ch K.ad.length ch, upf K.ld K.ad.length none, K.tx, upf K.at K.ad.length none) := fun i hi => by
  have hi2 : i < (K.ad ++ [D]).length := hi
  rw [List.length_append] at hi2
  have hi3 : i < K.ad.length + 1 := hi2
  show upd g0 K.ad.length 1 i = nI (upf K.st K.ad.length 1 i) ∧ upd g1 K.ad.length (nI dp) i = nI (upf K.dp K.ad.length dp i) ∧ upd g2 K.ad.length (nI ch) i = nI (upf K.ch K.ad.length ch i) ∧ upd g3 K.ad.length (-1) i = er (match upf K.ld K.ad.length none i with | none => none | some E => nbr (K.ad ++ [D]) E)
  by_cases e : i = K.ad.length
  · rw [e, upd_s, upd_s, upd_s, upd_s, upf_s, upf_s, upf_s, upf_s]
    exact ⟨rfl, rfl, rfl, rfl⟩
  · rw [upd_n e, upd_n e, upd_n e, upd_n e, upf_n e, upf_n e, upf_n e, upf_n e]
    have h9 := h i (by omega)
    refine ⟨h9.1, h9.2.1, h9.2.2.1, h9.2.2.2.trans ?_⟩
    unfold ldx
    cases e2 : K.ld i with
    | none => rfl
    | some E =>
      rcases hl i E (by omega) e2 with h8 | h8
      · show er (nbr K.ad E) = er (nbr (K.ad ++ [D]) E)
        rw [nbr_app h8]
      · omega
theorem ldI.met (h : ldI K) : ldI (mee lim D dp ch K) := by
  unfold mee
  cases e : nbr K.ad D with
  | none =>
    dsimp only
    split
    · rename_i h9
      intro i E hi hE
      have hi2 : i < (K.ad ++ [D]).length := hi
      rw [List.length_append] at hi2
      have hi3 : i < K.ad.length + 1 := hi2
      have hE2 : upf K.ld K.ad.length none i = some E := hE
      by_cases q : i = K.ad.length
      · rw [q, upf_s] at hE2; cases hE2
      · rw [upf_n q] at hE2
        rcases h i E (by omega) hE2 with h8 | h8
        · exact Or.inl (List.mem_append_left _ h8)
        · omega
    · exact h
  | some k =>
    dsimp only
    split
    · exact h
    · exact h
theorem w_C_meet {st9 : Bool} {ck an sv sn : Nat} {cr : Option Nat} {w0 : Gw} {h0 : List va_E} (hO_0 : cO w0 h0 34 34 (cr7 st9 ck an sv sn cr)) (hG_0 : gr4 w0 h0 39) (hR_0 : rE w0 h0 35 36 35 36 K.ad []) (hmk : mk4 w0 h0 39 K) (hat : aTC w0 h0 K) (hlm : lmC w0 h0 lim) (hx_0 : tO w0 h0 q c s M) (hq : ¬ q ∈ [35, 36, 40, 41, 42, 43, 53]) (hft : f ≤ t) (ht : t ≤ M.length) (hw : wfK K) (hli : ldI K) (ho : okD (sub M f t)) (hl0 : lim 0 ≤ 20) (hl1 : lim 1 ≤ 8) (hdp : dp ≤ 21) (hch : ch ≤ 9) : am_C X mt_C_meet (d + 4) [.ref 34, .ref c, .int (nI (s + f)), .int (nI (s + t)), .int (nI dp), .int (nI ch)] h0 (fun r h1 => r = some (.int (er (nbr (mee lim (sub M f t) dp ch K).ad (sub M f t)))) ∧ ∃ w1, fr w0 w1 h0 h1 [35, 36, 40, 41, 42, 43, 53] ∧ rE w1 h1 35 36 35 36 (mee lim (sub M f t) dp ch K).ad [] ∧ mk4 w1 h1 39 (mee lim (sub M f t) dp ch K) ∧ aTC w1 h1 (mee lim (sub M f t) dp ch K)) := by
  show am_G X mt_C_meet (d + 4) 0 [some (.ref 34), some (.ref c), some (.int (nI (s + f))), some (.int (nI (s + t))), some (.int (nI dp)), some (.int (nI ch)), none] [] h0 _
  obtain ⟨z0, z1, z2, z3, m0_0, m1_0, m2_0, m3_0, hmP⟩ := hmk
  obtain ⟨ga, ha_0, haP⟩ := hat
  obtain ⟨gl, hl_0, hlP⟩ := hlm
  have h250 := hw.1
  have G0 : fr w0 w0 h0 h0 [35, 36, 40, 41, 42, 43, 53] := fr.rf
  have hRo : ∃ e9, h0[35]? = some (.inr (4, [.ref 36, .ref e9, .int (nI K.ad.length)])) := by obtain ⟨b9, e9, q1, -⟩ := hR_0; exact ⟨e9, q1.1⟩
  obtain ⟨e9, hRo⟩ := hRo
  have hl20 := hlP 0 (by decide)
  have hl21 := hlP 1 (by decide)
  have hfl := ok_fl K.ad hw.2.2.1
  have hsl : (sub M f t).length = t - f := sub_len ht
  have hs2 := ho.2.2.2.2.1
  obtain ⟨oo, hoo⟩ : ∃ oo, oo = nbr K.ad (sub M f t) := ⟨_, rfl⟩
  have hnb : ∀ j, oo = some j → j < 2 ^ 31 := fun j hj => by have := (nbr_s (hoo.symm.trans hj)).1; omega
  refine g_aload_n (pc := 0) dc_C_meet_0 rfl ?_
  refine g_getfield (pc := 1) dc_C_meet_1 fl_C_14 hO_0.1 rfl ?_
  refine g_aload_n (pc := 4) dc_C_meet_4 rfl ?_
  refine g_iload_n (pc := 5) dc_C_meet_5 rfl ?_
  refine g_iload_n (pc := 6) dc_C_meet_6 rfl ?_
  refine g_v3 (pc := 7) (M' := mt_R_numberOf) dc_C_meet_7 mo_R_numberOf im_R_numberOf se_R_numberOf ln_C_211 hRo rfl rfl (Nat.le_of_ble_eq_true rfl) (Nat.le_of_ble_eq_true rfl) (am_G.mono (w_R_numberOf (d := d + 1) hR_0 hx_0 hft ht) ?_)
  intro r h1 hq9
  rw [hq9.1, hq9.2, ← hoo]
  clear hq9 h1 r
  refine ⟨am_nti _, ?_⟩
  refine g_istore (pc := 10) dc_C_meet_10 (by decide) ?_
  show am_G X mt_C_meet _ 12 [some (.ref 34), some (.ref c), some (.int (nI (s + f))), some (.int (nI (s + t))), some (.int (nI dp)), some (.int (nI ch)), some (.int (er oo))] [] _ _
  refine g_iload (pc := 12) dc_C_meet_12 rfl ?_
  refine g_iconst (pc := 14) (v := (-1)) dc_C_meet_14 rfl ?_
  refine q_o_eq (pc := 15) (tgt := 69) dc_C_meet_15 hnb rfl (fun hc15 => ?_) (fun k15 hc15 => ?_)
  · rw [hc15]
    refine g_aload_n (pc := 69) dc_C_meet_69 rfl ?_
    refine g_getfield (pc := 70) dc_C_meet_70 fl_C_14 hO_0.1 rfl ?_
    refine g_getfield (pc := 73) dc_C_meet_73 fl_C_91 hRo rfl ?_
    refine g_istore (pc := 76) dc_C_meet_76 (by decide) ?_
    show am_G X mt_C_meet _ 78 [some (.ref 34), some (.ref c), some (.int (nI (s + f))), some (.int (nI (s + t))), some (.int (nI dp)), some (.int (nI ch)), some (.int (nI K.ad.length))] [] _ _
    refine g_iload (pc := 78) dc_C_meet_78 rfl ?_
    refine g_aload_n (pc := 80) dc_C_meet_80 rfl ?_
    refine g_getfield (pc := 81) dc_C_meet_81 fl_C_38 hO_0.1 rfl ?_
    refine g_iconst (pc := 84) (v := 0) dc_C_meet_84 rfl ?_
    refine q_ialoadV (pc := 85) 0 dc_C_meet_85 hl_0.1 (by omega) (by decide) (v := (nI (lim 0))) hl20 ?_
    refine q_icmp_gt (pc := 86) (tgt := 108) dp (lim 0) dc_C_meet_86 (by omega) (by omega) rfl (fun hc86 => ?_) (fun hc86 => ?_)
    · refine g_iconst (pc := 108) (v := (-1)) dc_C_meet_108 rfl ?_
      have em : (mee lim (sub M f t) dp ch K) = K := mee_n0 (hoo.symm.trans hc15) (by omega)
      rw [em, ← hoo, hc15]
      exact g_ireturn dc_C_meet_109 rfl ⟨rfl, w0, G0, hR_0, ⟨z0, z1, z2, z3, m0_0, m1_0, m2_0, m3_0, hmP⟩, ⟨ga, ha_0, haP⟩⟩
    · refine g_iload (pc := 89) dc_C_meet_89 rfl ?_
      refine g_aload_n (pc := 91) dc_C_meet_91 rfl ?_
      refine g_getfield (pc := 92) dc_C_meet_92 fl_C_38 hO_0.1 rfl ?_
      refine g_iconst (pc := 95) (v := 1) dc_C_meet_95 rfl ?_
      refine q_ialoadV (pc := 96) 1 dc_C_meet_96 hl_0.1 (by omega) (by decide) (v := (nI (lim 1))) hl21 ?_
      refine q_icmp_gt (pc := 97) (tgt := 108) ch (lim 1) dc_C_meet_97 (by omega) (by omega) rfl (fun hc97 => ?_) (fun hc97 => ?_)
      · refine g_iconst (pc := 108) (v := (-1)) dc_C_meet_108 rfl ?_
        have em : (mee lim (sub M f t) dp ch K) = K := mee_n0 (hoo.symm.trans hc15) (by omega)
        rw [em, ← hoo, hc15]
        exact g_ireturn dc_C_meet_109 rfl ⟨rfl, w0, G0, hR_0, ⟨z0, z1, z2, z3, m0_0, m1_0, m2_0, m3_0, hmP⟩, ⟨ga, ha_0, haP⟩⟩
      · refine g_iload (pc := 100) dc_C_meet_100 rfl ?_
        refine g_sipush (pc := 102) (v := 250) dc_C_meet_102 rfl ?_
        refine q_icmp_lt (pc := 105) (tgt := 110) K.ad.length 250 dc_C_meet_105 (by omega) (by omega) rfl (fun hc105 => ?_) (fun hc105 => ?_)
        · refine g_aload_n (pc := 110) dc_C_meet_110 rfl ?_
          refine g_getfield (pc := 111) dc_C_meet_111 fl_C_14 hO_0.1 rfl ?_
          refine g_aload_n (pc := 114) dc_C_meet_114 rfl ?_
          refine g_iload_n (pc := 115) dc_C_meet_115 rfl ?_
          refine g_iload_n (pc := 116) dc_C_meet_116 rfl ?_
          refine g_v3 (pc := 117) (M' := mt_R_add) dc_C_meet_117 mo_R_add im_R_add se_R_add ln_C_208 hRo rfl rfl (Nat.le_of_ble_eq_true rfl) (Nat.le_of_ble_eq_true rfl) (am_G.mono (w_R_add (d := d) (i := 35) (j := 36) (by decide) (by decide) (by decide) hR_0 hx_0 ⟨fun e => hq (by rw [e]; decide), fun e => hq (by rw [e]; decide)⟩ hft ht (by show _ ≤ 100016; omega) (by show _ ≤ 40016; omega)) ?_)
          intro r h1 hz
          obtain ⟨hz1, w1, g1, hR_1⟩ := hz
          rw [hz1]
          have hO_1 := hO_0.fr g1 (by decide)
          have hG_1 := hG_0.fr g1 (by decide)
          have m0_1 := m0_0.fr g1 (by decide)
          have m1_1 := m1_0.fr g1 (by decide)
          have m2_1 := m2_0.fr g1 (by decide)
          have m3_1 := m3_0.fr g1 (by decide)
          have ha_1 := ha_0.fr g1 (by decide)
          have hl_1 := hl_0.fr g1 (by decide)
          have hx_1 := hx_0.fr g1 (fun h9 => hq ((by decide : ∀ x, x ∈ [35, 36] → x ∈ [35, 36, 40, 41, 42, 43, 53]) _ h9))
          have G1 := G0.tr (g1.mo (by decide : ∀ x, x ∈ [35, 36] → x ∈ [35, 36, 40, 41, 42, 43, 53]))
          clear hz1 r
          refine ⟨am_nt0, ?_⟩
          refine g_aload_n (pc := 120) dc_C_meet_120 rfl ?_
          refine g_getfield (pc := 121) dc_C_meet_121 fl_C_22 hO_1.1 rfl ?_
          refine g_iconst (pc := 124) (v := 0) dc_C_meet_124 rfl ?_
          refine q_aaloadI (pc := 125) (k := 40) 0 dc_C_meet_125 hG_1.1 (by decide) (by decide) rfl ?_
          refine g_iload (pc := 126) dc_C_meet_126 rfl ?_
          refine g_iconst (pc := 128) (v := 1) dc_C_meet_128 rfl ?_
          refine q_iastore (pc := 129) K.ad.length dc_C_meet_129 m0_1.1 (by omega) (by decide) ?_
          have g2 : fr w1 w1 h1 (h1.set 40 (.inl (1, 250, .inl (upd z0 K.ad.length 1)))) [40] := fr.st m0_1.1 rfl m0_1.2
          have m0_2 : iA w1 (h1.set 40 (.inl (1, 250, .inl (upd z0 K.ad.length 1)))) 40 250 (upd z0 K.ad.length 1) := ⟨am_se (am_lt m0_1.1), m0_1.2⟩
          obtain ⟨w2, hw2⟩ : ∃ w9, w9 = w1 := ⟨_, rfl⟩
          generalize (h1.set 40 (.inl (1, 250, .inl (upd z0 K.ad.length 1)))) = h2 at g2 m0_2 ⊢
          have g2 : fr w1 w2 h1 h2 [40] := by rw [hw2]; exact g2
          have m0_2 : iA w2 h2 40 250 (upd z0 K.ad.length 1) := by rw [hw2]; exact m0_2
          have hO_2 := hO_1.fr g2 (by decide)
          have hG_2 := hG_1.fr g2 (by decide)
          have hR_2 := hR_1.fr g2 (by decide) (by decide)
          have m1_2 := m1_1.fr g2 (by decide)
          have m2_2 := m2_1.fr g2 (by decide)
          have m3_2 := m3_1.fr g2 (by decide)
          have ha_2 := ha_1.fr g2 (by decide)
          have hl_2 := hl_1.fr g2 (by decide)
          have hx_2 := hx_1.fr g2 (fun h9 => hq ((by decide : ∀ x, x ∈ [40] → x ∈ [35, 36, 40, 41, 42, 43, 53]) _ h9))
          have G2 := G1.tr (g2.mo (by decide : ∀ x, x ∈ [40] → x ∈ [35, 36, 40, 41, 42, 43, 53]))
          refine g_aload_n (pc := 130) dc_C_meet_130 rfl ?_
          refine g_getfield (pc := 131) dc_C_meet_131 fl_C_22 hO_2.1 rfl ?_
          refine g_iconst (pc := 134) (v := 1) dc_C_meet_134 rfl ?_
          refine q_aaloadI (pc := 135) (k := 41) 1 dc_C_meet_135 hG_2.1 (by decide) (by decide) rfl ?_
          refine g_iload (pc := 136) dc_C_meet_136 rfl ?_
          refine g_iload (pc := 138) dc_C_meet_138 rfl ?_
          refine q_iastore (pc := 140) K.ad.length dc_C_meet_140 m1_2.1 (by omega) (by decide) ?_
          have g3 : fr w2 w2 h2 (h2.set 41 (.inl (1, 250, .inl (upd z1 K.ad.length (nI dp))))) [41] := fr.st m1_2.1 rfl m1_2.2
          have m1_3 : iA w2 (h2.set 41 (.inl (1, 250, .inl (upd z1 K.ad.length (nI dp))))) 41 250 (upd z1 K.ad.length (nI dp)) := ⟨am_se (am_lt m1_2.1), m1_2.2⟩
          obtain ⟨w3, hw3⟩ : ∃ w9, w9 = w2 := ⟨_, rfl⟩
          generalize (h2.set 41 (.inl (1, 250, .inl (upd z1 K.ad.length (nI dp))))) = h3 at g3 m1_3 ⊢
          have g3 : fr w2 w3 h2 h3 [41] := by rw [hw3]; exact g3
          have m1_3 : iA w3 h3 41 250 (upd z1 K.ad.length (nI dp)) := by rw [hw3]; exact m1_3
          have hO_3 := hO_2.fr g3 (by decide)
          have hG_3 := hG_2.fr g3 (by decide)
          have hR_3 := hR_2.fr g3 (by decide) (by decide)
          have m0_3 := m0_2.fr g3 (by decide)
          have m2_3 := m2_2.fr g3 (by decide)
          have m3_3 := m3_2.fr g3 (by decide)
          have ha_3 := ha_2.fr g3 (by decide)
          have hl_3 := hl_2.fr g3 (by decide)
          have hx_3 := hx_2.fr g3 (fun h9 => hq ((by decide : ∀ x, x ∈ [41] → x ∈ [35, 36, 40, 41, 42, 43, 53]) _ h9))
          have G3 := G2.tr (g3.mo (by decide : ∀ x, x ∈ [41] → x ∈ [35, 36, 40, 41, 42, 43, 53]))
          refine g_aload_n (pc := 141) dc_C_meet_141 rfl ?_
          refine g_getfield (pc := 142) dc_C_meet_142 fl_C_22 hO_3.1 rfl ?_
          refine g_iconst (pc := 145) (v := 2) dc_C_meet_145 rfl ?_
          refine q_aaloadI (pc := 146) (k := 42) 2 dc_C_meet_146 hG_3.1 (by decide) (by decide) rfl ?_
          refine g_iload (pc := 147) dc_C_meet_147 rfl ?_
          refine g_iload (pc := 149) dc_C_meet_149 rfl ?_
          refine q_iastore (pc := 151) K.ad.length dc_C_meet_151 m2_3.1 (by omega) (by decide) ?_
          have g4 : fr w3 w3 h3 (h3.set 42 (.inl (1, 250, .inl (upd z2 K.ad.length (nI ch))))) [42] := fr.st m2_3.1 rfl m2_3.2
          have m2_4 : iA w3 (h3.set 42 (.inl (1, 250, .inl (upd z2 K.ad.length (nI ch))))) 42 250 (upd z2 K.ad.length (nI ch)) := ⟨am_se (am_lt m2_3.1), m2_3.2⟩
          obtain ⟨w4, hw4⟩ : ∃ w9, w9 = w3 := ⟨_, rfl⟩
          generalize (h3.set 42 (.inl (1, 250, .inl (upd z2 K.ad.length (nI ch))))) = h4 at g4 m2_4 ⊢
          have g4 : fr w3 w4 h3 h4 [42] := by rw [hw4]; exact g4
          have m2_4 : iA w4 h4 42 250 (upd z2 K.ad.length (nI ch)) := by rw [hw4]; exact m2_4
          have hO_4 := hO_3.fr g4 (by decide)
          have hG_4 := hG_3.fr g4 (by decide)
          have hR_4 := hR_3.fr g4 (by decide) (by decide)
          have m0_4 := m0_3.fr g4 (by decide)
          have m1_4 := m1_3.fr g4 (by decide)
          have m3_4 := m3_3.fr g4 (by decide)
          have ha_4 := ha_3.fr g4 (by decide)
          have hl_4 := hl_3.fr g4 (by decide)
          have hx_4 := hx_3.fr g4 (fun h9 => hq ((by decide : ∀ x, x ∈ [42] → x ∈ [35, 36, 40, 41, 42, 43, 53]) _ h9))
          have G4 := G3.tr (g4.mo (by decide : ∀ x, x ∈ [42] → x ∈ [35, 36, 40, 41, 42, 43, 53]))
          refine g_aload_n (pc := 152) dc_C_meet_152 rfl ?_
          refine g_getfield (pc := 153) dc_C_meet_153 fl_C_22 hO_4.1 rfl ?_
          refine g_iconst (pc := 156) (v := 3) dc_C_meet_156 rfl ?_
          refine q_aaloadI (pc := 157) (k := 43) 3 dc_C_meet_157 hG_4.1 (by decide) (by decide) rfl ?_
          refine g_iload (pc := 158) dc_C_meet_158 rfl ?_
          refine g_iconst (pc := 160) (v := (-1)) dc_C_meet_160 rfl ?_
          refine q_iastore (pc := 161) K.ad.length dc_C_meet_161 m3_4.1 (by omega) (by decide) ?_
          have g5 : fr w4 w4 h4 (h4.set 43 (.inl (1, 250, .inl (upd z3 K.ad.length (-1))))) [43] := fr.st m3_4.1 rfl m3_4.2
          have m3_5 : iA w4 (h4.set 43 (.inl (1, 250, .inl (upd z3 K.ad.length (-1))))) 43 250 (upd z3 K.ad.length (-1)) := ⟨am_se (am_lt m3_4.1), m3_4.2⟩
          obtain ⟨w5, hw5⟩ : ∃ w9, w9 = w4 := ⟨_, rfl⟩
          generalize (h4.set 43 (.inl (1, 250, .inl (upd z3 K.ad.length (-1))))) = h5 at g5 m3_5 ⊢
          have g5 : fr w4 w5 h4 h5 [43] := by rw [hw5]; exact g5
          have m3_5 : iA w5 h5 43 250 (upd z3 K.ad.length (-1)) := by rw [hw5]; exact m3_5
          have hO_5 := hO_4.fr g5 (by decide)
          have hG_5 := hG_4.fr g5 (by decide)
          have hR_5 := hR_4.fr g5 (by decide) (by decide)
          have m0_5 := m0_4.fr g5 (by decide)
          have m1_5 := m1_4.fr g5 (by decide)
          have m2_5 := m2_4.fr g5 (by decide)
          have ha_5 := ha_4.fr g5 (by decide)
          have hl_5 := hl_4.fr g5 (by decide)
          have hx_5 := hx_4.fr g5 (fun h9 => hq ((by decide : ∀ x, x ∈ [43] → x ∈ [35, 36, 40, 41, 42, 43, 53]) _ h9))
          have G5 := G4.tr (g5.mo (by decide : ∀ x, x ∈ [43] → x ∈ [35, 36, 40, 41, 42, 43, 53]))
          refine g_aload_n (pc := 162) dc_C_meet_162 rfl ?_
          refine g_getfield (pc := 163) dc_C_meet_163 fl_C_50 hO_5.1 rfl ?_
          refine g_iload (pc := 166) dc_C_meet_166 rfl ?_
          refine g_iconst (pc := 168) (v := (-1)) dc_C_meet_168 rfl ?_
          refine q_iastore (pc := 169) K.ad.length dc_C_meet_169 ha_5.1 (by omega) (by decide) ?_
          have g6 : fr w5 w5 h5 (h5.set 53 (.inl (1, 250, .inl (upd ga K.ad.length (-1))))) [53] := fr.st ha_5.1 rfl ha_5.2
          have ha_6 : iA w5 (h5.set 53 (.inl (1, 250, .inl (upd ga K.ad.length (-1))))) 53 250 (upd ga K.ad.length (-1)) := ⟨am_se (am_lt ha_5.1), ha_5.2⟩
          obtain ⟨w6, hw6⟩ : ∃ w9, w9 = w5 := ⟨_, rfl⟩
          generalize (h5.set 53 (.inl (1, 250, .inl (upd ga K.ad.length (-1))))) = h6 at g6 ha_6 ⊢
          have g6 : fr w5 w6 h5 h6 [53] := by rw [hw6]; exact g6
          have ha_6 : iA w6 h6 53 250 (upd ga K.ad.length (-1)) := by rw [hw6]; exact ha_6
          have hO_6 := hO_5.fr g6 (by decide)
          have hG_6 := hG_5.fr g6 (by decide)
          have hR_6 := hR_5.fr g6 (by decide) (by decide)
          have m0_6 := m0_5.fr g6 (by decide)
          have m1_6 := m1_5.fr g6 (by decide)
          have m2_6 := m2_5.fr g6 (by decide)
          have m3_6 := m3_5.fr g6 (by decide)
          have hl_6 := hl_5.fr g6 (by decide)
          have hx_6 := hx_5.fr g6 (fun h9 => hq ((by decide : ∀ x, x ∈ [53] → x ∈ [35, 36, 40, 41, 42, 43, 53]) _ h9))
          have G6 := G5.tr (g6.mo (by decide : ∀ x, x ∈ [53] → x ∈ [35, 36, 40, 41, 42, 43, 53]))
          refine g_iload (pc := 170) dc_C_meet_170 rfl ?_
          have em : (mee lim (sub M f t) dp ch K) = (K.ad ++ [sub M f t], upf K.st K.ad.length 1, upf K.dp K.ad.length dp, upf K.ch K.ad.length ch, upf K.ld K.ad.length none, K.tx, upf K.at K.ad.length none) := mee_n (hoo.symm.trans hc15) ⟨by omega, by omega, by omega⟩
          rw [em]
          have nb9 : nbr (K.ad ++ [sub M f t]) (sub M f t) = some K.ad.length := nbr_fst (by rw [List.length_append]; exact Nat.lt_succ_self _) gT_new (fun j hj h9 => nbr_n (hoo.symm.trans hc15) (by rw [gT_app hj] at h9; rw [← h9]; exact gT_mem hj))
          have ha9 : ∀ i, i < (K.ad ++ [sub M f t]).length → upd ga K.ad.length (-1) i = er (upf K.at K.ad.length none i) := fun i hi => by
            rw [List.length_append] at hi
            have hi3 : i < K.ad.length + 1 := hi
            by_cases e : i = K.ad.length
            · rw [e, upd_s, upf_s]; rfl
            · rw [upd_n e, upf_n e]; exact haP i (by omega)
          exact g_ireturn dc_C_meet_172 rfl ⟨by show _ = some (Value.int (er (nbr (K.ad ++ [sub M f t]) (sub M f t)))); rw [nb9]; rfl, w6, G6, hR_6, ⟨_, _, _, _, m0_6, m1_6, m2_6, m3_6, hmP.new hli (by omega)⟩, ⟨_, ha_6, ha9⟩⟩
        · refine g_iconst (pc := 108) (v := (-1)) dc_C_meet_108 rfl ?_
          have em : (mee lim (sub M f t) dp ch K) = K := mee_n0 (hoo.symm.trans hc15) (by omega)
          rw [em, ← hoo, hc15]
          exact g_ireturn dc_C_meet_109 rfl ⟨rfl, w0, G0, hR_0, ⟨z0, z1, z2, z3, m0_0, m1_0, m2_0, m3_0, hmP⟩, ⟨ga, ha_0, haP⟩⟩
  · rw [hc15]
    rw [show er (some k15) = nI k15 from rfl]
    have hk15 := hnb k15 hc15
    have hk15b := nbr_s (hoo.symm.trans hc15)
    have hw15 := hw.2.2.2 k15 hk15b.1
    refine g_aload_n (pc := 18) dc_C_meet_18 rfl ?_
    refine g_getfield (pc := 19) dc_C_meet_19 fl_C_22 hO_0.1 rfl ?_
    refine g_iconst (pc := 22) (v := 0) dc_C_meet_22 rfl ?_
    refine q_aaloadI (pc := 23) (k := 40) 0 dc_C_meet_23 hG_0.1 (by decide) (by decide) rfl ?_
    refine g_iload (pc := 24) dc_C_meet_24 rfl ?_
    refine q_ialoadV (pc := 26) k15 dc_C_meet_26 m0_0.1 (by omega) (by decide) (v := (nI (K.st k15))) (hmP k15 (by omega)).1 ?_
    refine g_iconst (pc := 27) (v := 1) dc_C_meet_27 rfl ?_
    refine q_icmp_ne (pc := 28) (tgt := 66) (K.st k15) 1 dc_C_meet_28 (by omega) (by omega) rfl (fun hc28 => ?_) (fun hc28 => ?_)
    · refine g_iload (pc := 66) dc_C_meet_66 rfl ?_
      have em : (mee lim (sub M f t) dp ch K) = K := mee_s0 (hoo.symm.trans hc15) (by omega)
      rw [em, ← hoo, hc15]
      exact g_ireturn dc_C_meet_68 rfl ⟨rfl, w0, G0, hR_0, ⟨z0, z1, z2, z3, m0_0, m1_0, m2_0, m3_0, hmP⟩, ⟨ga, ha_0, haP⟩⟩
    · refine g_aload_n (pc := 31) dc_C_meet_31 rfl ?_
      refine g_iload (pc := 32) dc_C_meet_32 rfl ?_
      refine g_iload (pc := 34) dc_C_meet_34 rfl ?_
      refine g_iload (pc := 36) dc_C_meet_36 rfl ?_
      refine g_v3 (pc := 38) (M' := mt_C_isLess) dc_C_meet_38 mo_C_isLess im_C_isLess se_C_isLess ln_C_186 hO_0.1 rfl rfl (Nat.le_of_ble_eq_true rfl) (Nat.le_of_ble_eq_true rfl) (am_G.mono (c_C_isLess (d := d + 3) hO_0 hG_0 m1_0 m2_0 hmP hw (by omega) hdp hch) ?_)
      intro r h1 hq
      rw [hq.1, hq.2]
      clear hq h1 r
      refine ⟨am_nti _, ?_⟩
      refine q_ifb_eq (pc := 41) (tgt := 66) dc_C_meet_41 rfl (fun hc41 => ?_) (fun hc41 => ?_)
      · refine g_iload (pc := 66) dc_C_meet_66 rfl ?_
        have em : (mee lim (sub M f t) dp ch K) = K := mee_s0 (hoo.symm.trans hc15) (fun h9 => absurd h9.2 (of_decide_eq_false hc41))
        rw [em, ← hoo, hc15]
        exact g_ireturn dc_C_meet_68 rfl ⟨rfl, w0, G0, hR_0, ⟨z0, z1, z2, z3, m0_0, m1_0, m2_0, m3_0, hmP⟩, ⟨ga, ha_0, haP⟩⟩
      · refine g_aload_n (pc := 44) dc_C_meet_44 rfl ?_
        refine g_getfield (pc := 45) dc_C_meet_45 fl_C_22 hO_0.1 rfl ?_
        refine g_iconst (pc := 48) (v := 1) dc_C_meet_48 rfl ?_
        refine q_aaloadI (pc := 49) (k := 41) 1 dc_C_meet_49 hG_0.1 (by decide) (by decide) rfl ?_
        refine g_iload (pc := 50) dc_C_meet_50 rfl ?_
        refine g_iload (pc := 52) dc_C_meet_52 rfl ?_
        refine q_iastore (pc := 54) k15 dc_C_meet_54 m1_0.1 (by omega) (by decide) ?_
        have g1 : fr w0 w0 h0 (h0.set 41 (.inl (1, 250, .inl (upd z1 k15 (nI dp))))) [41] := fr.st m1_0.1 rfl m1_0.2
        have m1_1 : iA w0 (h0.set 41 (.inl (1, 250, .inl (upd z1 k15 (nI dp))))) 41 250 (upd z1 k15 (nI dp)) := ⟨am_se (am_lt m1_0.1), m1_0.2⟩
        obtain ⟨w1, hw1⟩ : ∃ w9, w9 = w0 := ⟨_, rfl⟩
        generalize (h0.set 41 (.inl (1, 250, .inl (upd z1 k15 (nI dp))))) = h1 at g1 m1_1 ⊢
        have g1 : fr w0 w1 h0 h1 [41] := by rw [hw1]; exact g1
        have m1_1 : iA w1 h1 41 250 (upd z1 k15 (nI dp)) := by rw [hw1]; exact m1_1
        have hO_1 := hO_0.fr g1 (by decide)
        have hG_1 := hG_0.fr g1 (by decide)
        have hR_1 := hR_0.fr g1 (by decide) (by decide)
        have m0_1 := m0_0.fr g1 (by decide)
        have m2_1 := m2_0.fr g1 (by decide)
        have m3_1 := m3_0.fr g1 (by decide)
        have ha_1 := ha_0.fr g1 (by decide)
        have hl_1 := hl_0.fr g1 (by decide)
        have hx_1 := hx_0.fr g1 (fun h9 => hq ((by decide : ∀ x, x ∈ [41] → x ∈ [35, 36, 40, 41, 42, 43, 53]) _ h9))
        have G1 := G0.tr (g1.mo (by decide : ∀ x, x ∈ [41] → x ∈ [35, 36, 40, 41, 42, 43, 53]))
        refine g_aload_n (pc := 55) dc_C_meet_55 rfl ?_
        refine g_getfield (pc := 56) dc_C_meet_56 fl_C_22 hO_1.1 rfl ?_
        refine g_iconst (pc := 59) (v := 2) dc_C_meet_59 rfl ?_
        refine q_aaloadI (pc := 60) (k := 42) 2 dc_C_meet_60 hG_1.1 (by decide) (by decide) rfl ?_
        refine g_iload (pc := 61) dc_C_meet_61 rfl ?_
        refine g_iload (pc := 63) dc_C_meet_63 rfl ?_
        refine q_iastore (pc := 65) k15 dc_C_meet_65 m2_1.1 (by omega) (by decide) ?_
        have g2 : fr w1 w1 h1 (h1.set 42 (.inl (1, 250, .inl (upd z2 k15 (nI ch))))) [42] := fr.st m2_1.1 rfl m2_1.2
        have m2_2 : iA w1 (h1.set 42 (.inl (1, 250, .inl (upd z2 k15 (nI ch))))) 42 250 (upd z2 k15 (nI ch)) := ⟨am_se (am_lt m2_1.1), m2_1.2⟩
        obtain ⟨w2, hw2⟩ : ∃ w9, w9 = w1 := ⟨_, rfl⟩
        generalize (h1.set 42 (.inl (1, 250, .inl (upd z2 k15 (nI ch))))) = h2 at g2 m2_2 ⊢
        have g2 : fr w1 w2 h1 h2 [42] := by rw [hw2]; exact g2
        have m2_2 : iA w2 h2 42 250 (upd z2 k15 (nI ch)) := by rw [hw2]; exact m2_2
        have hO_2 := hO_1.fr g2 (by decide)
        have hG_2 := hG_1.fr g2 (by decide)
        have hR_2 := hR_1.fr g2 (by decide) (by decide)
        have m0_2 := m0_1.fr g2 (by decide)
        have m1_2 := m1_1.fr g2 (by decide)
        have m3_2 := m3_1.fr g2 (by decide)
        have ha_2 := ha_1.fr g2 (by decide)
        have hl_2 := hl_1.fr g2 (by decide)
        have hx_2 := hx_1.fr g2 (fun h9 => hq ((by decide : ∀ x, x ∈ [42] → x ∈ [35, 36, 40, 41, 42, 43, 53]) _ h9))
        have G2 := G1.tr (g2.mo (by decide : ∀ x, x ∈ [42] → x ∈ [35, 36, 40, 41, 42, 43, 53]))
        refine g_iload (pc := 66) dc_C_meet_66 rfl ?_
        have em : (mee lim (sub M f t) dp ch K) = (K.ad, K.st, upf K.dp k15 dp, upf K.ch k15 ch, K.ld, K.tx, K.at) := mee_s (hoo.symm.trans hc15) ⟨hc28, of_decide_eq_true hc41⟩
        rw [em, show nbr (Kn.ad (K.ad, K.st, upf K.dp k15 dp, upf K.ch k15 ch, K.ld, K.tx, K.at)) (sub M f t) = some k15 from hoo.symm.trans hc15]
        exact g_ireturn dc_C_meet_68 rfl ⟨rfl, w2, G2, hR_2, ⟨z0, _, _, z3, m0_2, m1_2, m2_2, m3_2, hmP.imp⟩, ⟨ga, ha_2, haP⟩⟩
end D2S
