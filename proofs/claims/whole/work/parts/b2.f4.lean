/-! ===== the class folds copies: the walk ===== -/
section F4S
variable {X : am_X} {d i k n x p pg : Nat} {w w0 w1 : Gw} {h h0 h1 : List va_E} {I : List Nat} {K V : Kn} {l lo : List Nat} {c : Cw} {st9 : Bool} {lim : Nat → Nat} {ck an sv sn : Nat} {cr : Option Nat} {g gn gc gl go : Nat → Int32} {gp : Nat → Option Nat}
theorem dpC_new (z : pA w h 60 250 gp) (e : ∀ j, j < l.length → ∃ pg, gp j = some pg ∧ gG w h pg (gT K.ad (gN l j), 200, K.tx (gN l j))) (hg : gG w h pg (gT K.ad i, 200, K.tx i)) (f : fr w w1 h h1 [60]) (z1 : pA w1 h1 60 250 (va_up gp l.length (some pg))) : dpC w1 h1 K (l ++ [i]) := by
  refine ⟨_, z1, fun j hj => ?_⟩
  have hj2 : j < l.length + 1 := by rw [List.length_append] at hj; exact hj
  by_cases q : j = l.length
  · refine ⟨pg, by rw [q]; exact if_pos rfl, ?_⟩
    rw [q, gN_new]
    exact hg.fr f (by decide)
  · obtain ⟨pg9, b1, b2⟩ := e j (by omega)
    refine ⟨pg9, (if_neg q).trans b1, ?_⟩
    rw [gN_app (by omega)]
    exact b2.fr f (by decide)
theorem l13_D_foldCopies (hw : wfK K) (hlo : lo = srtK K K.ad.length) : ∀ (n k : Nat) (w : Gw) (h : List va_E), k + n = lo.length → cO w h 34 34 (cr7 st9 ck an sv sn cr) → foC w h K (lo.take k) → (∃ g, iA w h 76 250 g ∧ arN g lo) → pgK w h K V → am_G X mt_D_foldCopies (d + 3) 13 [some (.ref 59), some (.ref 34), some (.int (nI lo.length)), some (.int (nI k)), none, none] [] h (fun r h1 => r = none ∧ ∃ w1, fr w w1 h h1 [59, 60, 61, 64, 65, 75] ∧ foC w1 h1 K lo)
  | 0, k, w0, h0, e, hO_0, hfo, hs9, hk_0 => by
    have hl250 : lo.length ≤ 250 := by rw [hlo]; exact Nat.le_trans (srtK_len _) hw.1
    rw [show lo.take k = lo from List.take_of_length_le (by omega)] at hfo
    refine g_iload_n (pc := 13) dc_D_foldCopies_13 rfl ?_
    refine g_iload_n (pc := 14) dc_D_foldCopies_14 rfl ?_
    refine q_icmp_ge (pc := 15) (tgt := 129) k lo.length dc_D_foldCopies_15 (by omega) (by omega) rfl (fun hc15 => ?_) (fun hc => absurd hc (by omega))
    exact g_return dc_D_foldCopies_129 rfl ⟨rfl, w0, fr.rf, hfo⟩
  | n + 1, k, w0, h0, e, hO_0, hfo, hs9, hk_0 => by
    have hl250 : lo.length ≤ 250 := by rw [hlo]; exact Nat.le_trans (srtK_len _) hw.1
    have hkl : k < lo.length := by omega
    have htk := tkN hkl
    have hpr : prO K (lo.take k ++ [gN lo k]) := by rw [← htk, hlo]; exact List.take_prefix _ _
    have hik := prO_mem hpr (List.mem_append_right _ (List.mem_singleton_self _))
    have h250 := hw.1
    obtain ⟨gs, hs_0, hsN⟩ := hs9
    obtain ⟨hd_0, hP_0, ⟨gn, hn_0, hnN⟩, ⟨gc, hc_0, hcN⟩, ⟨gl, hl_0, hlN⟩, ⟨go, ho_0, hoN⟩⟩ := hfo
    have G0 : fr w0 w0 h0 h0 [59, 60, 61, 64, 65, 75] := fr.rf
    have hdl : (dfk K (lo.take k)).length ≤ k := Nat.le_trans dfk_len (by rw [List.length_take]; omega)
    have hk9 := hk_0
    obtain ⟨g4, hg4, hg4P, -⟩ := hk9
    obtain ⟨pg, hpe, hg_0⟩ := hg4P _ hik.1 hik.2
    have hpo : ∃ fs, h0[pg]? = some (.inr (10, fs)) := by obtain ⟨a1, a2, q1, -⟩ := hg_0; exact ⟨_, q1.1⟩
    obtain ⟨fs, hpgo⟩ := hpo
    cases hf : isF K (gN lo k) with
    | false =>
      obtain ⟨dd, d1, d2, d3⟩ := nbr_old hw hpr hf
      have hcl := cnL_le (K := K) (l := lo.take k) (t := K.tx (gN lo k))
      rw [List.length_take] at hcl
      have hcd : gc dd = nI (cnL K (lo.take k) (K.tx (gN lo k)) - 1) := by rw [hcN dd d1, d3]
      have hfo2 := fo_old (i := (gN lo k)) hw hpr hf d1 d2 d3 hcN hoN
      have hed : dfk K (lo.take k ++ [gN lo k]) = (dfk K (lo.take k)) := by rw [dfk_app, if_neg (by rw [hf]; decide)]
      refine g_iload_n (pc := 13) dc_D_foldCopies_13 rfl ?_
      refine g_iload_n (pc := 14) dc_D_foldCopies_14 rfl ?_
      refine q_icmp_ge (pc := 15) (tgt := 129) k lo.length dc_D_foldCopies_15 (by omega) (by omega) rfl (fun hc => absurd hc (by omega)) (fun hc15 => ?_)
      refine g_aload_n (pc := 18) dc_D_foldCopies_18 rfl ?_
      refine g_getfield (pc := 19) dc_D_foldCopies_19 fl_D_63 hd_0.1 rfl ?_
      refine g_iload_n (pc := 22) dc_D_foldCopies_22 rfl ?_
      refine q_ialoadV (pc := 23) k dc_D_foldCopies_23 hs_0.1 (by omega) (by decide) (v := nI (gN lo k)) (hsN k (by omega)) ?_
      refine g_istore (pc := 24) dc_D_foldCopies_24 (by decide) ?_
      show am_G X mt_D_foldCopies _ 26 [some (.ref 59), some (.ref 34), some (.int (nI lo.length)), some (.int (nI k)), some (.int (nI (gN lo k))), none] [] _ _
      refine g_aload_n (pc := 26) dc_D_foldCopies_26 rfl ?_
      refine g_aload_n (pc := 27) dc_D_foldCopies_27 rfl ?_
      refine g_getfield (pc := 28) dc_D_foldCopies_28 fl_D_92 hO_0.1 rfl ?_
      refine g_iload (pc := 31) dc_D_foldCopies_31 rfl ?_
      refine q_aaload4 (pc := 33) (gN lo k) dc_D_foldCopies_33 hg4.1 (by omega) (by decide) hpe ?_
      refine g_v1 (pc := 34) (M' := mt_D_documentWithText) dc_D_foldCopies_34 mo_D_documentWithText im_D_documentWithText se_D_documentWithText ln_D_93 hd_0.1 rfl rfl (Nat.le_of_ble_eq_true rfl) (Nat.le_of_ble_eq_true rfl) (am_G.mono (c_D_documentWithText (d := d) (l := (dfk K (lo.take k))) hd_0 hP_0 (by omega) hg_0) ?_)
      intro r h9 hq
      rw [hq.1, hq.2, show (gT K.ad (gN lo k), 200, K.tx (gN lo k)).2.2 = K.tx (gN lo k) from rfl, d2]
      clear hq h9 r
      refine ⟨am_nti _, ?_⟩
      refine g_istore (pc := 37) dc_D_foldCopies_37 (by decide) ?_
      show am_G X mt_D_foldCopies _ 39 [some (.ref 59), some (.ref 34), some (.int (nI lo.length)), some (.int (nI k)), some (.int (nI (gN lo k))), some (.int (nI dd))] [] _ _
      refine g_iload (pc := 39) dc_D_foldCopies_39 rfl ?_
      refine g_iconst (pc := 41) (v := (-1)) dc_D_foldCopies_41 rfl ?_
      refine g_icmp_ne (pc := 42) (tgt := 103) dc_D_foldCopies_42 rfl (fun _ => ?_) (fun hc => absurd hc (q_nem1 (by omega)))
      refine g_aload_n (pc := 103) dc_D_foldCopies_103 rfl ?_
      refine g_getfield (pc := 104) dc_D_foldCopies_104 fl_D_30 hd_0.1 rfl ?_
      refine g_iload (pc := 107) dc_D_foldCopies_107 rfl ?_
      refine g_dup2 (pc := 109) dc_D_foldCopies_109 rfl rfl ?_
      refine q_ialoadV (pc := 110) dd dc_D_foldCopies_110 hc_0.1 (by omega) (by decide) (v := nI (cnL K (lo.take k) (K.tx (gN lo k)) - 1)) hcd ?_
      refine g_iconst (pc := 111) (v := 1) dc_D_foldCopies_111 rfl ?_
      refine g_iadd (pc := 112) (v := (nI (cnL K (lo.take k) (K.tx (gN lo k)) - 1 + 1))) dc_D_foldCopies_112 (nI_add (cnL K (lo.take k) (K.tx (gN lo k)) - 1) 1) ?_
      refine q_iastore (pc := 113) dd dc_D_foldCopies_113 hc_0.1 (by omega) (by decide) ?_
      have g1 : fr w0 w0 h0 (h0.set 65 (.inl (1, 250, .inl (upd gc dd (nI (cnL K (lo.take k) (K.tx (gN lo k)) - 1 + 1)))))) [65] := fr.st hc_0.1 rfl hc_0.2
      have hc_1 : iA w0 (h0.set 65 (.inl (1, 250, .inl (upd gc dd (nI (cnL K (lo.take k) (K.tx (gN lo k)) - 1 + 1)))))) 65 250 (upd gc dd (nI (cnL K (lo.take k) (K.tx (gN lo k)) - 1 + 1))) := ⟨am_se (am_lt hc_0.1), hc_0.2⟩
      obtain ⟨w1, hw1⟩ : ∃ w9, w9 = w0 := ⟨_, rfl⟩
      generalize (h0.set 65 (.inl (1, 250, .inl (upd gc dd (nI (cnL K (lo.take k) (K.tx (gN lo k)) - 1 + 1)))))) = h1 at g1 hc_1 ⊢
      have g1 : fr w0 w1 h0 h1 [65] := by rw [hw1]; exact g1
      have hc_1 : iA w1 h1 65 250 (upd gc dd (nI (cnL K (lo.take k) (K.tx (gN lo k)) - 1 + 1))) := by rw [hw1]; exact hc_1
      have hO_1 := hO_0.fr g1 (by decide)
      have hd_1 := hd_0.fr g1 (by decide)
      have hP_1 := hP_0.fr g1 (by decide) (by decide)
      have hn_1 := hn_0.fr g1 (by decide)
      have hl_1 := hl_0.fr g1 (by decide)
      have ho_1 := ho_0.fr g1 (by decide)
      have hs_1 := hs_0.fr g1 (by decide)
      have hk_1 := hk_0.fr g1 (by decide) (by decide)
      have hg_1 := hg_0.fr g1 (by decide)
      have G1 := G0.tr (g1.mo (by decide : ∀ x, x ∈ [65] → x ∈ [59, 60, 61, 64, 65, 75]))
      refine g_aload_n (pc := 114) dc_D_foldCopies_114 rfl ?_
      refine g_getfield (pc := 115) dc_D_foldCopies_115 fl_D_60 hd_1.1 rfl ?_
      refine g_iload (pc := 118) dc_D_foldCopies_118 rfl ?_
      refine g_iload (pc := 120) dc_D_foldCopies_120 rfl ?_
      refine q_iastore (pc := 122) (gN lo k) dc_D_foldCopies_122 ho_1.1 (by omega) (by decide) ?_
      have g2 : fr w1 w1 h1 (h1.set 75 (.inl (1, 250, .inl (upd go (gN lo k) (nI dd))))) [75] := fr.st ho_1.1 rfl ho_1.2
      have ho_2 : iA w1 (h1.set 75 (.inl (1, 250, .inl (upd go (gN lo k) (nI dd))))) 75 250 (upd go (gN lo k) (nI dd)) := ⟨am_se (am_lt ho_1.1), ho_1.2⟩
      obtain ⟨w2, hw2⟩ : ∃ w9, w9 = w1 := ⟨_, rfl⟩
      generalize (h1.set 75 (.inl (1, 250, .inl (upd go (gN lo k) (nI dd))))) = h2 at g2 ho_2 ⊢
      have g2 : fr w1 w2 h1 h2 [75] := by rw [hw2]; exact g2
      have ho_2 : iA w2 h2 75 250 (upd go (gN lo k) (nI dd)) := by rw [hw2]; exact ho_2
      have hO_2 := hO_1.fr g2 (by decide)
      have hd_2 := hd_1.fr g2 (by decide)
      have hP_2 := hP_1.fr g2 (by decide) (by decide)
      have hn_2 := hn_1.fr g2 (by decide)
      have hc_2 := hc_1.fr g2 (by decide)
      have hl_2 := hl_1.fr g2 (by decide)
      have hs_2 := hs_1.fr g2 (by decide)
      have hk_2 := hk_1.fr g2 (by decide) (by decide)
      have hg_2 := hg_1.fr g2 (by decide)
      have G2 := G1.tr (g2.mo (by decide : ∀ x, x ∈ [75] → x ∈ [59, 60, 61, 64, 65, 75]))
      refine g_iinc (pc := 123) (v := (nI (k + 1))) dc_D_foldCopies_123 rfl (nI_add k 1) (by decide) ?_
      show am_G X mt_D_foldCopies _ 126 [some (.ref 59), some (.ref 34), some (.int (nI lo.length)), some (.int (nI (k + 1))), some (.int (nI (gN lo k))), some (.int (nI dd))] [] _ _
      refine g_goto (pc := 126) (tgt := 13) dc_D_foldCopies_126 rfl ?_
      refine am_wk (am_le_s (am_le_s (am_le_s (am_le_s (am_le_n (am_le_n am_le_0)))))) ?_
      refine am_G.mono (l13_D_foldCopies hw hlo n (k + 1) w2 h2 (by omega) hO_2 (by rw [htk]; exact ⟨by rw [hed]; exact hd_2, by rw [hed]; exact hP_2, ⟨gn, hn_2, by rw [hed]; exact hnN⟩, ⟨_, hc_2, by rw [hed]; exact hfo2.1⟩, ⟨gl, hl_2, by rw [hed]; exact hlN⟩, _, ho_2, by rw [hed]; exact hfo2.2⟩) ⟨gs, hs_2, hsN⟩ hk_2) (fun r h9 hz => ?_)
      obtain ⟨y1, w9, y2, y3⟩ := hz
      exact ⟨y1, w9, G2.tr y2, y3⟩
    | true =>
      have hfo2 := fo_new (i := (gN lo k)) hw hpr hf hcN hlN hoN
      have hed : dfk K (lo.take k ++ [gN lo k]) = (dfk K (lo.take k)) ++ [gN lo k] := by rw [dfk_app, if_pos hf]
      have hnb := nbr_new hw hpr hf
      have hnn := arN_new (i := (gN lo k)) hnN
      obtain ⟨gp, hPa, hPe⟩ := hP_0
      have hP_0 : dpC w0 h0 K (dfk K (lo.take k)) := ⟨gp, hPa, hPe⟩
      refine g_iload_n (pc := 13) dc_D_foldCopies_13 rfl ?_
      refine g_iload_n (pc := 14) dc_D_foldCopies_14 rfl ?_
      refine q_icmp_ge (pc := 15) (tgt := 129) k lo.length dc_D_foldCopies_15 (by omega) (by omega) rfl (fun hc => absurd hc (by omega)) (fun hc15 => ?_)
      refine g_aload_n (pc := 18) dc_D_foldCopies_18 rfl ?_
      refine g_getfield (pc := 19) dc_D_foldCopies_19 fl_D_63 hd_0.1 rfl ?_
      refine g_iload_n (pc := 22) dc_D_foldCopies_22 rfl ?_
      refine q_ialoadV (pc := 23) k dc_D_foldCopies_23 hs_0.1 (by omega) (by decide) (v := nI (gN lo k)) (hsN k (by omega)) ?_
      refine g_istore (pc := 24) dc_D_foldCopies_24 (by decide) ?_
      show am_G X mt_D_foldCopies _ 26 [some (.ref 59), some (.ref 34), some (.int (nI lo.length)), some (.int (nI k)), some (.int (nI (gN lo k))), none] [] _ _
      refine g_aload_n (pc := 26) dc_D_foldCopies_26 rfl ?_
      refine g_aload_n (pc := 27) dc_D_foldCopies_27 rfl ?_
      refine g_getfield (pc := 28) dc_D_foldCopies_28 fl_D_92 hO_0.1 rfl ?_
      refine g_iload (pc := 31) dc_D_foldCopies_31 rfl ?_
      refine q_aaload4 (pc := 33) (gN lo k) dc_D_foldCopies_33 hg4.1 (by omega) (by decide) hpe ?_
      refine g_v1 (pc := 34) (M' := mt_D_documentWithText) dc_D_foldCopies_34 mo_D_documentWithText im_D_documentWithText se_D_documentWithText ln_D_93 hd_0.1 rfl rfl (Nat.le_of_ble_eq_true rfl) (Nat.le_of_ble_eq_true rfl) (am_G.mono (c_D_documentWithText (d := d) (l := (dfk K (lo.take k))) hd_0 hP_0 (by omega) hg_0) ?_)
      intro r h9 hq
      rw [hq.1, hq.2, show (gT K.ad (gN lo k), 200, K.tx (gN lo k)).2.2 = K.tx (gN lo k) from rfl, hnb, show er none = (-1 : Int32) from rfl]
      clear hq h9 r
      refine ⟨am_nti _, ?_⟩
      refine g_istore (pc := 37) dc_D_foldCopies_37 (by decide) ?_
      show am_G X mt_D_foldCopies _ 39 [some (.ref 59), some (.ref 34), some (.int (nI lo.length)), some (.int (nI k)), some (.int (nI (gN lo k))), some (.int (-1))] [] _ _
      refine g_iload (pc := 39) dc_D_foldCopies_39 rfl ?_
      refine g_iconst (pc := 41) (v := (-1)) dc_D_foldCopies_41 rfl ?_
      refine g_icmp_ne (pc := 42) (tgt := 103) dc_D_foldCopies_42 rfl (fun hc => absurd hc (by decide)) (fun _ => ?_)
      refine g_aload_n (pc := 45) dc_D_foldCopies_45 rfl ?_
      refine g_getfield (pc := 46) dc_D_foldCopies_46 fl_D_91 hd_0.1 rfl ?_
      refine g_istore (pc := 49) dc_D_foldCopies_49 (by decide) ?_
      show am_G X mt_D_foldCopies _ 51 [some (.ref 59), some (.ref 34), some (.int (nI lo.length)), some (.int (nI k)), some (.int (nI (gN lo k))), some (.int (nI ((dfk K (lo.take k)).length)))] [] _ _
      refine g_aload_n (pc := 51) dc_D_foldCopies_51 rfl ?_
      refine g_getfield (pc := 52) dc_D_foldCopies_52 fl_D_11 hd_0.1 rfl ?_
      refine g_iload (pc := 55) dc_D_foldCopies_55 rfl ?_
      refine g_aload_n (pc := 57) dc_D_foldCopies_57 rfl ?_
      refine g_getfield (pc := 58) dc_D_foldCopies_58 fl_D_92 hO_0.1 rfl ?_
      refine g_iload (pc := 61) dc_D_foldCopies_61 rfl ?_
      refine q_aaload4 (pc := 63) (gN lo k) dc_D_foldCopies_63 hg4.1 (by omega) (by decide) hpe ?_
      refine q_aastore4 (pc := 64) (dfk K (lo.take k)).length dc_D_foldCopies_64 hPa.1 (by omega) (by decide) hpgo ?_
      have g1 : fr w0 w0 h0 (h0.set 60 (.inl (4, 250, .inr (.inr (.inr (.inr (va_up gp (dfk K (lo.take k)).length (some pg)))))))) [60] := fr.st hPa.1 rfl hPa.2
      have hP_1a : pA w0 (h0.set 60 (.inl (4, 250, .inr (.inr (.inr (.inr (va_up gp (dfk K (lo.take k)).length (some pg)))))))) 60 250 (va_up gp (dfk K (lo.take k)).length (some pg)) := ⟨am_se (am_lt hPa.1), hPa.2⟩
      have hP_1 := dpC_new hPa hPe hg_0 g1 hP_1a
      obtain ⟨w1, hw1⟩ : ∃ w9, w9 = w0 := ⟨_, rfl⟩
      generalize (h0.set 60 (.inl (4, 250, .inr (.inr (.inr (.inr (va_up gp (dfk K (lo.take k)).length (some pg)))))))) = h1 at g1 hP_1 ⊢
      have g1 : fr w0 w1 h0 h1 [60] := by rw [hw1]; exact g1
      have hP_1 : dpC w1 h1 K ((dfk K (lo.take k)) ++ [gN lo k]) := by rw [hw1]; exact hP_1
      have hO_1 := hO_0.fr g1 (by decide)
      have hd_1 := hd_0.fr g1 (by decide)
      have hn_1 := hn_0.fr g1 (by decide)
      have hc_1 := hc_0.fr g1 (by decide)
      have hl_1 := hl_0.fr g1 (by decide)
      have ho_1 := ho_0.fr g1 (by decide)
      have hs_1 := hs_0.fr g1 (by decide)
      have hk_1 := hk_0.fr g1 (by decide) (by decide)
      have hg_1 := hg_0.fr g1 (by decide)
      have G1 := G0.tr (g1.mo (by decide : ∀ x, x ∈ [60] → x ∈ [59, 60, 61, 64, 65, 75]))
      refine g_aload_n (pc := 65) dc_D_foldCopies_65 rfl ?_
      refine g_getfield (pc := 66) dc_D_foldCopies_66 fl_D_17 hd_1.1 rfl ?_
      refine g_iload (pc := 69) dc_D_foldCopies_69 rfl ?_
      refine g_iload (pc := 71) dc_D_foldCopies_71 rfl ?_
      refine q_iastore (pc := 73) ((dfk K (lo.take k)).length) dc_D_foldCopies_73 hn_1.1 (by omega) (by decide) ?_
      have g2 : fr w1 w1 h1 (h1.set 61 (.inl (1, 250, .inl (upd gn ((dfk K (lo.take k)).length) (nI (gN lo k)))))) [61] := fr.st hn_1.1 rfl hn_1.2
      have hn_2 : iA w1 (h1.set 61 (.inl (1, 250, .inl (upd gn ((dfk K (lo.take k)).length) (nI (gN lo k)))))) 61 250 (upd gn ((dfk K (lo.take k)).length) (nI (gN lo k))) := ⟨am_se (am_lt hn_1.1), hn_1.2⟩
      obtain ⟨w2, hw2⟩ : ∃ w9, w9 = w1 := ⟨_, rfl⟩
      generalize (h1.set 61 (.inl (1, 250, .inl (upd gn ((dfk K (lo.take k)).length) (nI (gN lo k)))))) = h2 at g2 hn_2 ⊢
      have g2 : fr w1 w2 h1 h2 [61] := by rw [hw2]; exact g2
      have hn_2 : iA w2 h2 61 250 (upd gn ((dfk K (lo.take k)).length) (nI (gN lo k))) := by rw [hw2]; exact hn_2
      have hO_2 := hO_1.fr g2 (by decide)
      have hd_2 := hd_1.fr g2 (by decide)
      have hP_2 := hP_1.fr g2 (by decide) (by decide)
      have hc_2 := hc_1.fr g2 (by decide)
      have hl_2 := hl_1.fr g2 (by decide)
      have ho_2 := ho_1.fr g2 (by decide)
      have hs_2 := hs_1.fr g2 (by decide)
      have hk_2 := hk_1.fr g2 (by decide) (by decide)
      have hg_2 := hg_1.fr g2 (by decide)
      have G2 := G1.tr (g2.mo (by decide : ∀ x, x ∈ [61] → x ∈ [59, 60, 61, 64, 65, 75]))
      refine g_aload_n (pc := 74) dc_D_foldCopies_74 rfl ?_
      refine g_getfield (pc := 75) dc_D_foldCopies_75 fl_D_30 hd_2.1 rfl ?_
      refine g_iload (pc := 78) dc_D_foldCopies_78 rfl ?_
      refine g_iconst (pc := 80) (v := 0) dc_D_foldCopies_80 rfl ?_
      refine q_iastore (pc := 81) ((dfk K (lo.take k)).length) dc_D_foldCopies_81 hc_2.1 (by omega) (by decide) ?_
      have g3 : fr w2 w2 h2 (h2.set 65 (.inl (1, 250, .inl (upd gc ((dfk K (lo.take k)).length) 0)))) [65] := fr.st hc_2.1 rfl hc_2.2
      have hc_3 : iA w2 (h2.set 65 (.inl (1, 250, .inl (upd gc ((dfk K (lo.take k)).length) 0)))) 65 250 (upd gc ((dfk K (lo.take k)).length) 0) := ⟨am_se (am_lt hc_2.1), hc_2.2⟩
      obtain ⟨w3, hw3⟩ : ∃ w9, w9 = w2 := ⟨_, rfl⟩
      generalize (h2.set 65 (.inl (1, 250, .inl (upd gc ((dfk K (lo.take k)).length) 0)))) = h3 at g3 hc_3 ⊢
      have g3 : fr w2 w3 h2 h3 [65] := by rw [hw3]; exact g3
      have hc_3 : iA w3 h3 65 250 (upd gc ((dfk K (lo.take k)).length) 0) := by rw [hw3]; exact hc_3
      have hO_3 := hO_2.fr g3 (by decide)
      have hd_3 := hd_2.fr g3 (by decide)
      have hP_3 := hP_2.fr g3 (by decide) (by decide)
      have hn_3 := hn_2.fr g3 (by decide)
      have hl_3 := hl_2.fr g3 (by decide)
      have ho_3 := ho_2.fr g3 (by decide)
      have hs_3 := hs_2.fr g3 (by decide)
      have hk_3 := hk_2.fr g3 (by decide) (by decide)
      have hg_3 := hg_2.fr g3 (by decide)
      have G3 := G2.tr (g3.mo (by decide : ∀ x, x ∈ [65] → x ∈ [59, 60, 61, 64, 65, 75]))
      refine g_aload_n (pc := 82) dc_D_foldCopies_82 rfl ?_
      refine g_getfield (pc := 83) dc_D_foldCopies_83 fl_D_27 hd_3.1 rfl ?_
      refine g_iload (pc := 86) dc_D_foldCopies_86 rfl ?_
      refine g_iconst (pc := 88) (v := 0) dc_D_foldCopies_88 rfl ?_
      refine q_iastore (pc := 89) ((dfk K (lo.take k)).length) dc_D_foldCopies_89 hl_3.1 (by omega) (by decide) ?_
      have g4 : fr w3 w3 h3 (h3.set 64 (.inl (1, 250, .inl (upd gl ((dfk K (lo.take k)).length) 0)))) [64] := fr.st hl_3.1 rfl hl_3.2
      have hl_4 : iA w3 (h3.set 64 (.inl (1, 250, .inl (upd gl ((dfk K (lo.take k)).length) 0)))) 64 250 (upd gl ((dfk K (lo.take k)).length) 0) := ⟨am_se (am_lt hl_3.1), hl_3.2⟩
      obtain ⟨w4, hw4⟩ : ∃ w9, w9 = w3 := ⟨_, rfl⟩
      generalize (h3.set 64 (.inl (1, 250, .inl (upd gl ((dfk K (lo.take k)).length) 0)))) = h4 at g4 hl_4 ⊢
      have g4 : fr w3 w4 h3 h4 [64] := by rw [hw4]; exact g4
      have hl_4 : iA w4 h4 64 250 (upd gl ((dfk K (lo.take k)).length) 0) := by rw [hw4]; exact hl_4
      have hO_4 := hO_3.fr g4 (by decide)
      have hd_4 := hd_3.fr g4 (by decide)
      have hP_4 := hP_3.fr g4 (by decide) (by decide)
      have hn_4 := hn_3.fr g4 (by decide)
      have hc_4 := hc_3.fr g4 (by decide)
      have ho_4 := ho_3.fr g4 (by decide)
      have hs_4 := hs_3.fr g4 (by decide)
      have hk_4 := hk_3.fr g4 (by decide) (by decide)
      have hg_4 := hg_3.fr g4 (by decide)
      have G4 := G3.tr (g4.mo (by decide : ∀ x, x ∈ [64] → x ∈ [59, 60, 61, 64, 65, 75]))
      refine g_aload_n (pc := 90) dc_D_foldCopies_90 rfl ?_
      refine g_dup (pc := 91) dc_D_foldCopies_91 rfl ?_
      refine g_getfield (pc := 92) dc_D_foldCopies_92 fl_D_91 hd_4.1 rfl ?_
      refine g_iconst (pc := 95) (v := 1) dc_D_foldCopies_95 rfl ?_
      refine g_iadd (pc := 96) (v := (nI ((dfk K (lo.take k)).length + 1))) dc_D_foldCopies_96 (nI_add ((dfk K (lo.take k)).length) 1) ?_
      refine g_putfield (pc := 97) dc_D_foldCopies_97 fp_D_foldCopies_91 hd_4.1 (Nat.le_of_ble_eq_true rfl) rfl rfl ?_
      show am_G X mt_D_foldCopies _ 100 _ _ (h4.set 59 (.inr (8, [.int (nI ((dfk K (lo.take k)).length + 1)), .ref 60, .ref 61, .ref 62, .ref 63, .ref 64, .ref 65, .ref 66, .ref 67, .ref 12, .ref 71, .ref 73, .ref 74, .ref 75, .ref 76]))) _
      have g5 : fr w4 w4 h4 (h4.set 59 (.inr (8, [.int (nI ((dfk K (lo.take k)).length + 1)), .ref 60, .ref 61, .ref 62, .ref 63, .ref 64, .ref 65, .ref 66, .ref 67, .ref 12, .ref 71, .ref 73, .ref 74, .ref 75, .ref 76]))) [59] := fr.st hd_4.1 rfl hd_4.2
      have hd_5 : cO w4 (h4.set 59 (.inr (8, [.int (nI ((dfk K (lo.take k)).length + 1)), .ref 60, .ref 61, .ref 62, .ref 63, .ref 64, .ref 65, .ref 66, .ref 67, .ref 12, .ref 71, .ref 73, .ref 74, .ref 75, .ref 76]))) 59 59 (.inr (8, [.int (nI ((dfk K (lo.take k)).length + 1)), .ref 60, .ref 61, .ref 62, .ref 63, .ref 64, .ref 65, .ref 66, .ref 67, .ref 12, .ref 71, .ref 73, .ref 74, .ref 75, .ref 76])) := ⟨am_se (am_lt hd_4.1), hd_4.2⟩
      obtain ⟨w5, hw5⟩ : ∃ w9, w9 = w4 := ⟨_, rfl⟩
      generalize (h4.set 59 (.inr (8, [.int (nI ((dfk K (lo.take k)).length + 1)), .ref 60, .ref 61, .ref 62, .ref 63, .ref 64, .ref 65, .ref 66, .ref 67, .ref 12, .ref 71, .ref 73, .ref 74, .ref 75, .ref 76]))) = h5 at g5 hd_5 ⊢
      have g5 : fr w4 w5 h4 h5 [59] := by rw [hw5]; exact g5
      have hd_5 : cO w5 h5 59 59 (.inr (8, [.int (nI ((dfk K (lo.take k)).length + 1)), .ref 60, .ref 61, .ref 62, .ref 63, .ref 64, .ref 65, .ref 66, .ref 67, .ref 12, .ref 71, .ref 73, .ref 74, .ref 75, .ref 76])) := by rw [hw5]; exact hd_5
      have hO_5 := hO_4.fr g5 (by decide)
      have hP_5 := hP_4.fr g5 (by decide) (by decide)
      have hn_5 := hn_4.fr g5 (by decide)
      have hc_5 := hc_4.fr g5 (by decide)
      have hl_5 := hl_4.fr g5 (by decide)
      have ho_5 := ho_4.fr g5 (by decide)
      have hs_5 := hs_4.fr g5 (by decide)
      have hk_5 := hk_4.fr g5 (by decide) (by decide)
      have hg_5 := hg_4.fr g5 (by decide)
      have G5 := G4.tr (g5.mo (by decide : ∀ x, x ∈ [59] → x ∈ [59, 60, 61, 64, 65, 75]))
      refine g_goto (pc := 100) (tgt := 114) dc_D_foldCopies_100 rfl ?_
      refine g_aload_n (pc := 114) dc_D_foldCopies_114 rfl ?_
      refine g_getfield (pc := 115) dc_D_foldCopies_115 fl_D_60 hd_5.1 rfl ?_
      refine g_iload (pc := 118) dc_D_foldCopies_118 rfl ?_
      refine g_iload (pc := 120) dc_D_foldCopies_120 rfl ?_
      refine q_iastore (pc := 122) (gN lo k) dc_D_foldCopies_122 ho_5.1 (by omega) (by decide) ?_
      have g6 : fr w5 w5 h5 (h5.set 75 (.inl (1, 250, .inl (upd go (gN lo k) (nI ((dfk K (lo.take k)).length)))))) [75] := fr.st ho_5.1 rfl ho_5.2
      have ho_6 : iA w5 (h5.set 75 (.inl (1, 250, .inl (upd go (gN lo k) (nI ((dfk K (lo.take k)).length)))))) 75 250 (upd go (gN lo k) (nI ((dfk K (lo.take k)).length))) := ⟨am_se (am_lt ho_5.1), ho_5.2⟩
      obtain ⟨w6, hw6⟩ : ∃ w9, w9 = w5 := ⟨_, rfl⟩
      generalize (h5.set 75 (.inl (1, 250, .inl (upd go (gN lo k) (nI ((dfk K (lo.take k)).length)))))) = h6 at g6 ho_6 ⊢
      have g6 : fr w5 w6 h5 h6 [75] := by rw [hw6]; exact g6
      have ho_6 : iA w6 h6 75 250 (upd go (gN lo k) (nI ((dfk K (lo.take k)).length))) := by rw [hw6]; exact ho_6
      have hO_6 := hO_5.fr g6 (by decide)
      have hd_6 := hd_5.fr g6 (by decide)
      have hP_6 := hP_5.fr g6 (by decide) (by decide)
      have hn_6 := hn_5.fr g6 (by decide)
      have hc_6 := hc_5.fr g6 (by decide)
      have hl_6 := hl_5.fr g6 (by decide)
      have hs_6 := hs_5.fr g6 (by decide)
      have hk_6 := hk_5.fr g6 (by decide) (by decide)
      have hg_6 := hg_5.fr g6 (by decide)
      have G6 := G5.tr (g6.mo (by decide : ∀ x, x ∈ [75] → x ∈ [59, 60, 61, 64, 65, 75]))
      refine g_iinc (pc := 123) (v := (nI (k + 1))) dc_D_foldCopies_123 rfl (nI_add k 1) (by decide) ?_
      show am_G X mt_D_foldCopies _ 126 [some (.ref 59), some (.ref 34), some (.int (nI lo.length)), some (.int (nI (k + 1))), some (.int (nI (gN lo k))), some (.int (nI ((dfk K (lo.take k)).length)))] [] _ _
      refine g_goto (pc := 126) (tgt := 13) dc_D_foldCopies_126 rfl ?_
      refine am_wk (am_le_s (am_le_s (am_le_s (am_le_s (am_le_n (am_le_n am_le_0)))))) ?_
      refine am_G.mono (l13_D_foldCopies hw hlo n (k + 1) w6 h6 (by omega) hO_6 (by rw [htk]; exact ⟨by rw [hed, List.length_append]; exact hd_6, by rw [hed]; exact hP_6, ⟨_, hn_6, by rw [hed]; exact hnn⟩, ⟨_, hc_6, hfo2.1⟩, ⟨_, hl_6, hfo2.2.1⟩, _, ho_6, hfo2.2.2⟩) ⟨gs, hs_6, hsN⟩ hk_6) (fun r h9 hz => ?_)
      obtain ⟨y1, w9, y2, y3⟩ := hz
      exact ⟨y1, w9, G6.tr y2, y3⟩
theorem w_D_foldCopies (hw : wfK K) (hD : dO w h n) (hC : cqC w h st9 lim K c V) (hg : ∃ g, iA w h 76 250 g) (h60 : ∃ g, pA w h 60 250 g) (h61 : ∃ g, iA w h 61 250 g) (h64 : ∃ g, iA w h 64 250 g) (h65 : ∃ g, iA w h 65 250 g) (h75 : ∃ g, iA w h 75 250 g) : am_C X mt_D_foldCopies (d + 3) [.ref 59, .ref 34] h (fun r h1 => r = none ∧ ∃ w1, fr w w1 h h1 [59, 60, 61, 64, 65, 75, 76] ∧ foC w1 h1 K (srtK K K.ad.length) ∧ ∃ g, iA w1 h1 76 250 g) := by
  show am_G X mt_D_foldCopies (d + 3) 0 [some (.ref 59), some (.ref 34), none, none, none, none] [] h _
  obtain ⟨g60, h60⟩ := h60
  obtain ⟨g61, h61⟩ := h61
  obtain ⟨g64, h64⟩ := h64
  obtain ⟨g65, h65⟩ := h65
  obtain ⟨g75, h75⟩ := h75
  refine g_aload_n (pc := 0) dc_D_foldCopies_0 rfl ?_
  refine g_aload_n (pc := 1) dc_D_foldCopies_1 rfl ?_
  refine g_v1 (pc := 2) (M' := mt_D_orderGot) dc_D_foldCopies_2 mo_D_orderGot im_D_orderGot se_D_orderGot ln_D_87 hD.1 rfl rfl (Nat.le_of_ble_eq_true rfl) (Nat.le_of_ble_eq_true rfl) (am_G.mono (w_D_orderGot (d := d) hw hD hC hg) ?_)
  intro r h1 hz
  obtain ⟨y1, w1, f1, g9, y2, y3⟩ := hz
  rw [y1]
  clear y1 r
  have hD1 := hD.fr f1 (by decide)
  refine ⟨am_nti _, ?_⟩
  refine g_istore_n (pc := 5) dc_D_foldCopies_5 (by decide) ?_
  show am_G X mt_D_foldCopies _ 6 [some (.ref 59), some (.ref 34), some (.int (nI ((srtK K K.ad.length).length))), none, none, none] [] _ _
  refine g_aload_n (pc := 6) dc_D_foldCopies_6 rfl ?_
  refine g_iconst (pc := 7) (v := 0) dc_D_foldCopies_7 rfl ?_
  refine g_putfield (pc := 8) dc_D_foldCopies_8 fp_D_foldCopies_91 hD1.1 (Nat.le_of_ble_eq_true rfl) rfl rfl ?_
  show am_G X mt_D_foldCopies _ 11 _ _ (h1.set 59 (.inr (8, [.int (nI 0), .ref 60, .ref 61, .ref 62, .ref 63, .ref 64, .ref 65, .ref 66, .ref 67, .ref 12, .ref 71, .ref 73, .ref 74, .ref 75, .ref 76]))) _
  have f2 : fr w1 w1 h1 (h1.set 59 (.inr (8, [.int (nI 0), .ref 60, .ref 61, .ref 62, .ref 63, .ref 64, .ref 65, .ref 66, .ref 67, .ref 12, .ref 71, .ref 73, .ref 74, .ref 75, .ref 76]))) [59] := fr.st hD1.1 rfl hD1.2
  have hD2 : dO w1 (h1.set 59 (.inr (8, [.int (nI 0), .ref 60, .ref 61, .ref 62, .ref 63, .ref 64, .ref 65, .ref 66, .ref 67, .ref 12, .ref 71, .ref 73, .ref 74, .ref 75, .ref 76]))) 0 := ⟨am_se (am_lt hD1.1), hD1.2⟩
  generalize (h1.set 59 (.inr (8, [.int (nI 0), .ref 60, .ref 61, .ref 62, .ref 63, .ref 64, .ref 65, .ref 66, .ref 67, .ref 12, .ref 71, .ref 73, .ref 74, .ref 75, .ref 76]))) = h2 at f2 hD2 ⊢
  refine g_iconst (pc := 11) (v := 0) dc_D_foldCopies_11 rfl ?_
  refine g_istore_n (pc := 12) dc_D_foldCopies_12 (by decide) ?_
  show am_G X mt_D_foldCopies _ 13 [some (.ref 59), some (.ref 34), some (.int (nI ((srtK K K.ad.length).length))), some (.int 0), none, none] [] _ _
  have F2 := (f1.mo (by decide : ∀ x, x ∈ [76] → x ∈ [59, 76])).tr (f2.mo (by decide : ∀ x, x ∈ [59] → x ∈ [59, 76]))
  refine am_G.mono (l13_D_foldCopies hw rfl (srtK K K.ad.length).length 0 w1 h2 (Nat.zero_add _) (hC.1.fr F2 (by decide)) ⟨hD2, ⟨g60, h60.fr F2 (by decide), fun j hj => absurd hj (Nat.not_lt_zero j)⟩, ⟨g61, h61.fr F2 (by decide), fun j hj => absurd hj (Nat.not_lt_zero j)⟩, ⟨g65, h65.fr F2 (by decide), fun j hj => absurd hj (Nat.not_lt_zero j)⟩, ⟨g64, h64.fr F2 (by decide), fun j hj => absurd hj (Nat.not_lt_zero j)⟩, g75, h75.fr F2 (by decide), fun i hi => absurd hi List.not_mem_nil⟩ ⟨g9, y2.fr f2 (by decide), y3⟩ (hC.2.2.2.2.2.2.2.2.fr F2 (by decide) (by decide))) (fun r h9 hz => ?_)
  obtain ⟨x1, w9, x2, x3⟩ := hz
  exact ⟨x1, w9, (F2.mo (by decide)).tr (x2.mo (by decide)), x3, g9, (y2.fr f2 (by decide)).fr x2 (by decide)⟩
end F4S
