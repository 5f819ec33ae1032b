/-! ===== the class tells of documents and hits ===== -/
def docV (K : Kn) (pn j : Nat) : Nat → Nat
  | 0 => gN (dcs K) j
  | 1 => rkS (ldd K) (dcs K).length pn j
  | 2 => (ldd K j).length
  | 3 => cnb (fun a => decide (j ∈ ldd K a)) (dcs K).length
  | 4 => cnL K (srtK K K.ad.length) (K.tx (gN (dcs K) j)) - 1
  | _ => (pgW (K.tx (gN (dcs K) j))).length
def docA (K : Kn) (pn : Nat) (p x : Int32) : Int32 := match ixo p (dcs K).length with
  | none => -1
  | some j => match ixo x 6 with
    | none => -1
    | some t => nI (docV K pn j t)
def hitA (H : List (Nat × Nat)) (p : Int32) : Int32 := match ixo p H.length with
  | none => -1
  | some j => nI (H.getD j (0, 0)).1
def scoA (H : List (Nat × Nat)) (p : Int32) : Int64 := match ixo p H.length with
  | none => -1
  | some j => lN (H.getD j (0, 0)).2
section G6S
variable {X : am_X} {d n k j pn : Nat} {w w1 : Gw} {h h1 : List va_E} {I : List Nat} {K : Kn} {p x : Int32} {H : List (Nat × Nat)}
theorem wdD_tk (hj : j < (dcs K).length) : (wdD K ((dcs K).take (j + 1))).length = (wdD K ((dcs K).take j)).length + (pgW (K.tx (gN (dcs K) j))).length := by
  rw [tkN hj, wdD_app, List.length_append]
theorem c_W_document (hW : wO w h) (hw : wfK K) (hX : dcX w h K pn) : am_C X mt_W_document d [.ref 0, .int p, .int x] h (fun r h1 => r = some (.int (docA K pn p x)) ∧ h1 = h) := by
  show am_G X mt_W_document d 0 [some (.ref 0), some (.int p), some (.int x)] [] h _
  have h250 := dcs_250 hw
  obtain ⟨hD, hP, ⟨gn, h61, h61x⟩, ⟨gr, h62, h62x⟩, ⟨gt, gl, gb, h63, h73, h64, hls⟩, ⟨gc, h65, h65x⟩, hR, gf, h66, h66x⟩ := hX
  cases e : ixo p (dcs K).length with
  | none =>
    have hout := ixo_n (by omega) e
    rw [show docA K pn p x = -1 by unfold docA; rw [e]]
    refine g_iload_n (pc := 0) dc_W_document_0 rfl ?_
    refine g_if_lt (pc := 1) (tgt := 15) dc_W_document_1 rfl (fun hc1 => ?_) (fun hc1 => ?_)
    · have hi1 : (p).toInt < (0 : Int) := Int32.lt_iff_toInt_lt.mp hc1
      refine g_iconst (pc := 15) (v := (-1)) dc_W_document_15 rfl ?_
      exact g_ireturn dc_W_document_16 rfl ⟨rfl, rfl⟩
    · have hi1 : ¬ ((p).toInt < (0 : Int)) := fun h9 => hc1 (Int32.lt_iff_toInt_lt.mpr h9)
      refine g_iload_n (pc := 4) dc_W_document_4 rfl ?_
      refine g_aload_n (pc := 5) dc_W_document_5 rfl ?_
      refine g_getfield (pc := 6) dc_W_document_6 fl_W_74 hW.1 rfl ?_
      refine g_getfield (pc := 9) dc_W_document_9 fl_W_226 hD.1 rfl ?_
      refine g_icmp_lt (pc := 12) (tgt := 17) dc_W_document_12 rfl (fun hc => absurd hc (Int32.not_lt.mpr (hout.resolve_left hc1))) (fun hc12 => ?_)
      refine g_iconst (pc := 15) (v := (-1)) dc_W_document_15 rfl ?_
      exact g_ireturn dc_W_document_16 rfl ⟨rfl, rfl⟩
  | some j =>
    obtain ⟨hj, rfl⟩ := ixo_s e
    have htk := wdD_tk hj
    cases e2 : ixo x 6 with
    | none =>
      rw [show docA K pn (nI j) x = -1 by unfold docA; rw [e]; dsimp only; rw [e2]]
      refine g_iload_n (pc := 0) dc_W_document_0 rfl ?_
      refine q_if_lt (pc := 1) (tgt := 15) j dc_W_document_1 (by omega) rfl ?_
      refine g_iload_n (pc := 4) dc_W_document_4 rfl ?_
      refine g_aload_n (pc := 5) dc_W_document_5 rfl ?_
      refine g_getfield (pc := 6) dc_W_document_6 fl_W_74 hW.1 rfl ?_
      refine g_getfield (pc := 9) dc_W_document_9 fl_W_226 hD.1 rfl ?_
      refine q_icmp_lt (pc := 12) (tgt := 17) j ((dcs K).length) dc_W_document_12 (by omega) (by omega) rfl (fun hc12 => ?_) (fun hc => absurd hc (by omega))
      refine g_iload_n (pc := 17) dc_W_document_17 rfl ?_
      refine g_tableOut (pc := 18) (tgt := 128) dc_W_document_18 (by rcases ixo_t e2 with h9 | h9; exact Or.inl h9; exact Or.inr (by omega)) rfl ?_
      refine g_iconst (pc := 128) (v := (-1)) dc_W_document_128 rfl ?_
      exact g_ireturn dc_W_document_129 rfl ⟨rfl, rfl⟩
    | some t =>
      obtain ⟨ht, rfl⟩ := ixo_s e2
      rw [show docA K pn (nI j) (nI t) = nI (docV K pn j t) by unfold docA; rw [e]; dsimp only; rw [e2]]
      refine g_iload_n (pc := 0) dc_W_document_0 rfl ?_
      refine q_if_lt (pc := 1) (tgt := 15) j dc_W_document_1 (by omega) rfl ?_
      refine g_iload_n (pc := 4) dc_W_document_4 rfl ?_
      refine g_aload_n (pc := 5) dc_W_document_5 rfl ?_
      refine g_getfield (pc := 6) dc_W_document_6 fl_W_74 hW.1 rfl ?_
      refine g_getfield (pc := 9) dc_W_document_9 fl_W_226 hD.1 rfl ?_
      refine q_icmp_lt (pc := 12) (tgt := 17) j ((dcs K).length) dc_W_document_12 (by omega) (by omega) rfl (fun hc12 => ?_) (fun hc => absurd hc (by omega))
      refine g_iload_n (pc := 17) dc_W_document_17 rfl ?_
      rcases (by omega : t = 0 ∨ t = 1 ∨ t = 2 ∨ t = 3 ∨ t = 4 ∨ t = 5) with rfl | rfl | rfl | rfl | rfl | rfl
      · refine g_tableIn (pc := 18) (off := 38) (tgt := 56) dc_W_document_18 (by decide) (by decide) rfl rfl ?_
        refine g_aload_n (pc := 56) dc_W_document_56 rfl ?_
        refine g_getfield (pc := 57) dc_W_document_57 fl_W_74 hW.1 rfl ?_
        refine g_getfield (pc := 60) dc_W_document_60 fl_W_238 hD.1 rfl ?_
        refine g_iload_n (pc := 63) dc_W_document_63 rfl ?_
        refine q_ialoadV (pc := 64) j dc_W_document_64 h61.1 (by omega) (by decide) (v := (nI (gN (dcs K) j))) (h61x j hj) ?_
        exact g_ireturn dc_W_document_65 rfl ⟨rfl, rfl⟩
      · refine g_tableIn (pc := 18) (off := 48) (tgt := 66) dc_W_document_18 (by decide) (by decide) rfl rfl ?_
        refine g_aload_n (pc := 66) dc_W_document_66 rfl ?_
        refine g_getfield (pc := 67) dc_W_document_67 fl_W_74 hW.1 rfl ?_
        refine g_getfield (pc := 70) dc_W_document_70 fl_W_241 hD.1 rfl ?_
        refine g_iload_n (pc := 73) dc_W_document_73 rfl ?_
        refine q_ialoadV (pc := 74) j dc_W_document_74 h62.1 (by omega) (by decide) (v := (nI (rkS (ldd K) (dcs K).length pn j))) (h62x j hj) ?_
        exact g_ireturn dc_W_document_75 rfl ⟨rfl, rfl⟩
      · refine g_tableIn (pc := 18) (off := 58) (tgt := 76) dc_W_document_18 (by decide) (by decide) rfl rfl ?_
        refine g_aload_n (pc := 76) dc_W_document_76 rfl ?_
        refine g_getfield (pc := 77) dc_W_document_77 fl_W_74 hW.1 rfl ?_
        refine g_getfield (pc := 80) dc_W_document_80 fl_W_244 hD.1 rfl ?_
        refine g_iload_n (pc := 83) dc_W_document_83 rfl ?_
        refine q_ialoadV (pc := 84) j dc_W_document_84 h63.1 (by omega) (by decide) (v := (nI ((ldd K j).length))) (hls.1 j hj).1 ?_
        exact g_ireturn dc_W_document_85 rfl ⟨rfl, rfl⟩
      · refine g_tableIn (pc := 18) (off := 68) (tgt := 86) dc_W_document_18 (by decide) (by decide) rfl rfl ?_
        refine g_aload_n (pc := 86) dc_W_document_86 rfl ?_
        refine g_getfield (pc := 87) dc_W_document_87 fl_W_74 hW.1 rfl ?_
        refine g_getfield (pc := 90) dc_W_document_90 fl_W_247 hD.1 rfl ?_
        refine g_iload_n (pc := 93) dc_W_document_93 rfl ?_
        refine q_ialoadV (pc := 94) j dc_W_document_94 h64.1 (by omega) (by decide) (v := (nI (cnb (fun a => decide (j ∈ ldd K a)) (dcs K).length))) (hls.2 j hj) ?_
        exact g_ireturn dc_W_document_95 rfl ⟨rfl, rfl⟩
      · refine g_tableIn (pc := 18) (off := 78) (tgt := 96) dc_W_document_18 (by decide) (by decide) rfl rfl ?_
        refine g_aload_n (pc := 96) dc_W_document_96 rfl ?_
        refine g_getfield (pc := 97) dc_W_document_97 fl_W_74 hW.1 rfl ?_
        refine g_getfield (pc := 100) dc_W_document_100 fl_W_250 hD.1 rfl ?_
        refine g_iload_n (pc := 103) dc_W_document_103 rfl ?_
        refine q_ialoadV (pc := 104) j dc_W_document_104 h65.1 (by omega) (by decide) (v := (nI (cnL K (srtK K K.ad.length) (K.tx (gN (dcs K) j)) - 1))) (h65x j hj) ?_
        exact g_ireturn dc_W_document_105 rfl ⟨rfl, rfl⟩
      · refine g_tableIn (pc := 18) (off := 88) (tgt := 106) dc_W_document_18 (by decide) (by decide) rfl rfl ?_
        refine g_aload_n (pc := 106) dc_W_document_106 rfl ?_
        refine g_getfield (pc := 107) dc_W_document_107 fl_W_74 hW.1 rfl ?_
        refine g_getfield (pc := 110) dc_W_document_110 fl_W_253 hD.1 rfl ?_
        refine g_iload_n (pc := 113) dc_W_document_113 rfl ?_
        refine g_iconst (pc := 114) (v := 1) dc_W_document_114 rfl ?_
        refine g_iadd (pc := 115) (v := (nI (j + 1))) dc_W_document_115 (nI_add j 1) ?_
        refine q_ialoadV (pc := 116) (j + 1) dc_W_document_116 h66.1 (by omega) (by decide) (v := (nI ((wdD K ((dcs K).take (j + 1))).length))) (h66x (j + 1) (by omega)) ?_
        refine g_aload_n (pc := 117) dc_W_document_117 rfl ?_
        refine g_getfield (pc := 118) dc_W_document_118 fl_W_74 hW.1 rfl ?_
        refine g_getfield (pc := 121) dc_W_document_121 fl_W_253 hD.1 rfl ?_
        refine g_iload_n (pc := 124) dc_W_document_124 rfl ?_
        refine q_ialoadV (pc := 125) j dc_W_document_125 h66.1 (by omega) (by decide) (v := (nI ((wdD K ((dcs K).take j)).length))) (h66x j (by omega)) ?_
        refine g_isub (pc := 126) (v := (nI ((pgW (K.tx (gN (dcs K) j))).length))) dc_W_document_126 ((q_sub (a := (wdD K ((dcs K).take (j + 1))).length) (b := (wdD K ((dcs K).take j)).length) (by omega)).trans (congrArg nI (by omega))) ?_
        exact g_ireturn dc_W_document_127 rfl ⟨rfl, rfl⟩
theorem n_W_where (hW : wO w h) (hw : wfK K) (hX : dcX w h K pn) (hn : ixo p (dcs K).length = none) : am_C X mt_W_where (d + 3) [.ref 0, .int p] h (fun r h1 => r = some (.int (-1)) ∧ h1 = h) := by
  show am_G X mt_W_where (d + 3) 0 [some (.ref 0), some (.int p), none] [] h _
  have h250 := dcs_250 hw
  obtain ⟨hD, hP, ⟨gn, h61, h61x⟩, ⟨gr, h62, h62x⟩, ⟨gt, gl, gb, h63, h73, h64, hls⟩, ⟨gc, h65, h65x⟩, hR, gf, h66, h66x⟩ := hX
  have hout := ixo_n (by omega) hn
  refine g_iload_n (pc := 0) dc_W_where_0 rfl ?_
  refine g_if_lt (pc := 1) (tgt := 15) dc_W_where_1 rfl (fun hc1 => ?_) (fun hc1 => ?_)
  · have hi1 : (p).toInt < (0 : Int) := Int32.lt_iff_toInt_lt.mp hc1
    refine g_iconst (pc := 15) (v := (-1)) dc_W_where_15 rfl ?_
    exact g_ireturn dc_W_where_16 rfl ⟨rfl, rfl⟩
  · have hi1 : ¬ ((p).toInt < (0 : Int)) := fun h9 => hc1 (Int32.lt_iff_toInt_lt.mpr h9)
    refine g_iload_n (pc := 4) dc_W_where_4 rfl ?_
    refine g_aload_n (pc := 5) dc_W_where_5 rfl ?_
    refine g_getfield (pc := 6) dc_W_where_6 fl_W_74 hW.1 rfl ?_
    refine g_getfield (pc := 9) dc_W_where_9 fl_W_226 hD.1 rfl ?_
    refine g_icmp_lt (pc := 12) (tgt := 17) dc_W_where_12 rfl (fun hc => absurd hc (Int32.not_lt.mpr (hout.resolve_left hc1))) (fun hc12 => ?_)
    refine g_iconst (pc := 15) (v := (-1)) dc_W_where_15 rfl ?_
    exact g_ireturn dc_W_where_16 rfl ⟨rfl, rfl⟩
theorem w_W_where (hW : wO w h) (hw : wfK K) (hX : dcX w h K pn) (hP3 : eB w h 3 3) (hj : j < (dcs K).length) : am_C X mt_W_where (d + 3) [.ref 0, .int (nI j)] h (fun r h1 => r = some (.int (nI (gT K.ad (gN (dcs K) j)).length)) ∧ ∃ w1, fr w w1 h h1 [3] ∧ bE w1 h1 3 3 (gT K.ad (gN (dcs K) j))) := by
  show am_G X mt_W_where (d + 3) 0 [some (.ref 0), some (.int (nI j)), none] [] h _
  have h250 := dcs_250 hw
  obtain ⟨hD, hP, ⟨gn, h61, h61x⟩, ⟨gr, h62, h62x⟩, ⟨gt, gl, gb, h63, h73, h64, hls⟩, ⟨gc, h65, h65x⟩, hR, gf, h66, h66x⟩ := hX
  have hin := prO_mem (List.prefix_refl _) (dfk_sub (gN_mem hj))
  have hod : okD (gT K.ad (gN (dcs K) j)) := hw.2.2.1 _ (gT_mem hin.1)
  have d3 := hod.2.2.2.2.1
  obtain ⟨gp, hg, hg2⟩ := hP
  obtain ⟨pg, hp1, hp2⟩ := hg2 j hj
  obtain ⟨pa1, pa2, pq, x1, x2⟩ := hp2
  have xx1 := x1
  obtain ⟨xg1, xe1, -⟩ := xx1
  obtain ⟨L3, b3, hB3⟩ := hP3
  have hb3 := hB3.1.ha
  have hBx : bE w h 3 3 L3 := ⟨b3, hB3⟩
  refine g_iload_n (pc := 0) dc_W_where_0 rfl ?_
  refine q_if_lt (pc := 1) (tgt := 15) j dc_W_where_1 (by omega) rfl ?_
  refine g_iload_n (pc := 4) dc_W_where_4 rfl ?_
  refine g_aload_n (pc := 5) dc_W_where_5 rfl ?_
  refine g_getfield (pc := 6) dc_W_where_6 fl_W_74 hW.1 rfl ?_
  refine g_getfield (pc := 9) dc_W_where_9 fl_W_226 hD.1 rfl ?_
  refine q_icmp_lt (pc := 12) (tgt := 17) j ((dcs K).length) dc_W_where_12 (by omega) (by omega) rfl (fun hc12 => ?_) (fun hc => absurd hc (by omega))
  refine g_aload_n (pc := 17) dc_W_where_17 rfl ?_
  refine g_getfield (pc := 18) dc_W_where_18 fl_W_74 hW.1 rfl ?_
  refine g_getfield (pc := 21) dc_W_where_21 fl_W_256 hD.1 rfl ?_
  refine g_iload_n (pc := 24) dc_W_where_24 rfl ?_
  refine q_aaload4 (pc := 25) j dc_W_where_25 hg.1 (by omega) (by omega) hp1 ?_
  refine g_getfield (pc := 26) dc_W_where_26 fl_W_260 pq.1 rfl ?_
  refine g_astore_n (pc := 29) dc_W_where_29 (by decide) ?_
  show am_G X mt_W_where _ 30 [some (.ref 0), some (.int (nI j)), some (.ref pa1)] [] _ _
  refine g_aload_n (pc := 30) dc_W_where_30 rfl ?_
  refine g_getfield (pc := 31) dc_W_where_31 fl_W_18 hW.1 rfl ?_
  refine g_v0 (pc := 34) (M' := mt_B_clear) dc_W_where_34 mo_B_clear im_B_clear se_B_clear ln_W_121 hb3 rfl rfl (Nat.le_of_ble_eq_true rfl) (Nat.le_of_ble_eq_true rfl) (am_G.mono (w_B_clear (d := d + 2) (i := 3) (by decide) hBx) ?_)
  intro r h1 hz
  obtain ⟨y1, w1, g1, hB1⟩ := hz
  rw [y1]
  clear y1 r
  have hW1 := hW.fr g1 (by decide)
  have x11 := x1.fr g1 (by decide)
  have xx := x11
  obtain ⟨xg2, xe11, -⟩ := xx
  have hBy := hB1
  obtain ⟨b4, q4⟩ := hBy
  have hb4 := q4.1.ha
  refine ⟨am_nt0, ?_⟩
  refine g_aload_n (pc := 37) dc_W_where_37 rfl ?_
  refine g_getfield (pc := 38) dc_W_where_38 fl_W_18 hW1.1 rfl ?_
  refine g_aload_n (pc := 41) dc_W_where_41 rfl ?_
  refine g_iconst (pc := 42) (v := 0) dc_W_where_42 rfl ?_
  refine g_aload_n (pc := 43) dc_W_where_43 rfl ?_
  refine g_alen (pc := 44) dc_W_where_44 xe11.1 (by decide) ?_
  refine g_v3 (pc := 45) (M' := mt_B_putAll) dc_W_where_45 mo_B_putAll im_B_putAll se_B_putAll ln_W_265 hb4 rfl rfl (Nat.le_of_ble_eq_true rfl) (Nat.le_of_ble_eq_true rfl) (am_G.mono (w_B_putAll0 (d := d) (i := 3) (f := 0) (t := (gT K.ad (gN (dcs K) j)).length) (by decide) hB1 x11.tO (by decide) (Nat.zero_le _) (Nat.le_refl _) (by show 2 * (0 + _) + 16 ≤ 40016; omega)) ?_)
  intro r h2 hz
  obtain ⟨y1, w2, g2, hB2⟩ := hz
  rw [y1]
  clear y1 r
  have hW2 := hW1.fr g2 (by decide)
  rw [List.nil_append, show sub (gT K.ad (gN (dcs K) j)) 0 (gT K.ad (gN (dcs K) j)).length = (gT K.ad (gN (dcs K) j)) from sub_all rfl] at hB2
  have hBy := hB2
  obtain ⟨b5, q5⟩ := hBy
  have hb5 := q5.1.ha
  refine ⟨am_nt0, ?_⟩
  refine g_aload_n (pc := 48) dc_W_where_48 rfl ?_
  refine g_getfield (pc := 49) dc_W_where_49 fl_W_18 hW2.1 rfl ?_
  refine g_getfield (pc := 52) dc_W_where_52 fl_W_85 hb5 rfl ?_
  exact g_ireturn dc_W_where_55 rfl ⟨rfl, w2, g1.tr g2, hB2⟩
theorem c_W_hit (hW : wO w h) (hN : anC w h H) (h250 : H.length ≤ 250) : am_C X mt_W_hit d [.ref 0, .int p] h (fun r h1 => r = some (.int (hitA H p)) ∧ h1 = h) := by
  show am_G X mt_W_hit d 0 [some (.ref 0), some (.int p)] [] h _
  obtain ⟨hO, ⟨gh, h78, h78x⟩, ⟨gs, h79, h79x⟩, T, hR⟩ := hN
  cases e : ixo p H.length with
  | none =>
    have hout := ixo_n (by omega) e
    rw [show hitA H p = -1 by unfold hitA; rw [e]]
    refine g_iload_n (pc := 0) dc_W_hit_0 rfl ?_
    refine g_if_lt (pc := 1) (tgt := 15) dc_W_hit_1 rfl (fun hc1 => ?_) (fun hc1 => ?_)
    · have hi1 : (p).toInt < (0 : Int) := Int32.lt_iff_toInt_lt.mp hc1
      refine g_iconst (pc := 15) (v := (-1)) dc_W_hit_15 rfl ?_
      refine g_goto (pc := 16) (tgt := 28) dc_W_hit_16 rfl ?_
      exact g_ireturn dc_W_hit_28 rfl ⟨rfl, rfl⟩
    · have hi1 : ¬ ((p).toInt < (0 : Int)) := fun h9 => hc1 (Int32.lt_iff_toInt_lt.mpr h9)
      refine g_iload_n (pc := 4) dc_W_hit_4 rfl ?_
      refine g_aload_n (pc := 5) dc_W_hit_5 rfl ?_
      refine g_getfield (pc := 6) dc_W_hit_6 fl_W_81 hW.1 rfl ?_
      refine g_getfield (pc := 9) dc_W_hit_9 fl_W_272 hO.1 rfl ?_
      refine g_icmp_lt (pc := 12) (tgt := 19) dc_W_hit_12 rfl (fun hc => absurd hc (Int32.not_lt.mpr (hout.resolve_left hc1))) (fun hc12 => ?_)
      refine g_iconst (pc := 15) (v := (-1)) dc_W_hit_15 rfl ?_
      refine g_goto (pc := 16) (tgt := 28) dc_W_hit_16 rfl ?_
      exact g_ireturn dc_W_hit_28 rfl ⟨rfl, rfl⟩
  | some j =>
    obtain ⟨hj, rfl⟩ := ixo_s e
    rw [show hitA H (nI j) = nI (H.getD j (0, 0)).1 by unfold hitA; rw [e]]
    refine g_iload_n (pc := 0) dc_W_hit_0 rfl ?_
    refine q_if_lt (pc := 1) (tgt := 15) j dc_W_hit_1 (by omega) rfl ?_
    refine g_iload_n (pc := 4) dc_W_hit_4 rfl ?_
    refine g_aload_n (pc := 5) dc_W_hit_5 rfl ?_
    refine g_getfield (pc := 6) dc_W_hit_6 fl_W_81 hW.1 rfl ?_
    refine g_getfield (pc := 9) dc_W_hit_9 fl_W_272 hO.1 rfl ?_
    refine q_icmp_lt (pc := 12) (tgt := 19) j H.length dc_W_hit_12 (by omega) (by omega) rfl (fun hc12 => ?_) (fun hc => absurd hc (by omega))
    refine g_aload_n (pc := 19) dc_W_hit_19 rfl ?_
    refine g_getfield (pc := 20) dc_W_hit_20 fl_W_81 hW.1 rfl ?_
    refine g_getfield (pc := 23) dc_W_hit_23 fl_W_273 hO.1 rfl ?_
    refine g_iload_n (pc := 26) dc_W_hit_26 rfl ?_
    refine q_ialoadV (pc := 27) j dc_W_hit_27 h78.1 (by omega) (by decide) (v := nI (H.getD j (0, 0)).1) (h78x j hj) ?_
    exact g_ireturn dc_W_hit_28 rfl ⟨rfl, rfl⟩
theorem c_W_score (hW : wO w h) (hN : anC w h H) (h250 : H.length ≤ 250) : am_C X mt_W_score d [.ref 0, .int p] h (fun r h1 => r = some (.long (scoA H p)) ∧ h1 = h) := by
  show am_G X mt_W_score d 0 [some (.ref 0), some (.int p)] [] h _
  obtain ⟨hO, ⟨gh, h78, h78x⟩, ⟨gs, h79, h79x⟩, T, hR⟩ := hN
  cases e : ixo p H.length with
  | none =>
    have hout := ixo_n (by omega) e
    rw [show scoA H p = -1 by unfold scoA; rw [e]]
    refine g_iload_n (pc := 0) dc_W_score_0 rfl ?_
    refine g_if_lt (pc := 1) (tgt := 15) dc_W_score_1 rfl (fun hc1 => ?_) (fun hc1 => ?_)
    · have hi1 : (p).toInt < (0 : Int) := Int32.lt_iff_toInt_lt.mp hc1
      refine g_ldc2 (pc := 15) dc_W_score_15 cl_W_276 ?_
      refine g_goto (pc := 18) (tgt := 30) dc_W_score_18 rfl ?_
      exact g_lreturn dc_W_score_30 rfl ⟨rfl, rfl⟩
    · have hi1 : ¬ ((p).toInt < (0 : Int)) := fun h9 => hc1 (Int32.lt_iff_toInt_lt.mpr h9)
      refine g_iload_n (pc := 4) dc_W_score_4 rfl ?_
      refine g_aload_n (pc := 5) dc_W_score_5 rfl ?_
      refine g_getfield (pc := 6) dc_W_score_6 fl_W_81 hW.1 rfl ?_
      refine g_getfield (pc := 9) dc_W_score_9 fl_W_272 hO.1 rfl ?_
      refine g_icmp_lt (pc := 12) (tgt := 21) dc_W_score_12 rfl (fun hc => absurd hc (Int32.not_lt.mpr (hout.resolve_left hc1))) (fun hc12 => ?_)
      refine g_ldc2 (pc := 15) dc_W_score_15 cl_W_276 ?_
      refine g_goto (pc := 18) (tgt := 30) dc_W_score_18 rfl ?_
      exact g_lreturn dc_W_score_30 rfl ⟨rfl, rfl⟩
  | some j =>
    obtain ⟨hj, rfl⟩ := ixo_s e
    rw [show scoA H (nI j) = lN (H.getD j (0, 0)).2 by unfold scoA; rw [e]]
    refine g_iload_n (pc := 0) dc_W_score_0 rfl ?_
    refine q_if_lt (pc := 1) (tgt := 15) j dc_W_score_1 (by omega) rfl ?_
    refine g_iload_n (pc := 4) dc_W_score_4 rfl ?_
    refine g_aload_n (pc := 5) dc_W_score_5 rfl ?_
    refine g_getfield (pc := 6) dc_W_score_6 fl_W_81 hW.1 rfl ?_
    refine g_getfield (pc := 9) dc_W_score_9 fl_W_272 hO.1 rfl ?_
    refine q_icmp_lt (pc := 12) (tgt := 21) j H.length dc_W_score_12 (by omega) (by omega) rfl (fun hc12 => ?_) (fun hc => absurd hc (by omega))
    refine g_aload_n (pc := 21) dc_W_score_21 rfl ?_
    refine g_getfield (pc := 22) dc_W_score_22 fl_W_81 hW.1 rfl ?_
    refine g_getfield (pc := 25) dc_W_score_25 fl_W_278 hO.1 rfl ?_
    refine g_iload_n (pc := 28) dc_W_score_28 rfl ?_
    refine q_laloadV (pc := 29) j dc_W_score_29 h79.1 (by omega) (by decide) (v := lN (H.getD j (0, 0)).2) (h79x j hj) ?_
    exact g_lreturn dc_W_score_30 rfl ⟨rfl, rfl⟩
end G6S
