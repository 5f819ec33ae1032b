/-! ===== the class indexes the words of the documents ===== -/
def wdD (K : Kn) (l : List Nat) : List (List Int32) := l.flatMap (fun i => pgW (K.tx i))
/-- the words of documents, and where each one's begin -/
def ixW (w : Gw) (h : List va_E) (K : Kn) (l : List Nat) : Prop := rE w h 67 68 67 68 (wdD K l) [] ∧ ∃ gf, iA w h 66 251 gf ∧ ∀ j, j ≤ l.length → gf j = nI (wdD K (l.take j)).length
section G2S
variable {X : am_X} {d n k j : Nat} {w w1 : Gw} {h h1 : List va_E} {I : List Nat} {K : Kn} {l : List Nat} {L : List Int32} {T : List (List Int32)}
theorem ixW.fr (z : ixW w h K l) (f : fr w w1 h h1 I) (i1 : ¬ 67 ∈ I) (i2 : ¬ 68 ∈ I) (i3 : ¬ 66 ∈ I) : ixW w1 h1 K l := by
  obtain ⟨a1, gf, a2, a3⟩ := z
  exact ⟨a1.fr f i1 i2, gf, a2.fr f i3, a3⟩
theorem pgW_le : (pgW L).flatten.length ≤ L.length ∧ (pgW L).length ≤ L.length := by
  have h := pgW_cnt (L := L)
  cases e : pgW L with
  | nil => exact ⟨Nat.zero_le _, Nat.zero_le _⟩
  | cons a b =>
    rw [e] at h
    have h2 : (a :: b).length = b.length + 1 := rfl
    omega
theorem wdD_app {i : Nat} : wdD K (l ++ [i]) = wdD K l ++ pgW (K.tx i) := by
  unfold wdD
  rw [List.flatMap_append]
  show _ ++ (pgW (K.tx i) ++ []) = _
  rw [List.append_nil]
theorem wdD_le : ∀ l : List Nat, (wdD K l).flatten.length ≤ (txs K l).flatten.length ∧ (wdD K l).length ≤ (txs K l).flatten.length
  | [] => ⟨Nat.le_refl _, Nat.le_refl _⟩
  | a :: l => by
    have h := wdD_le l
    have h2 := pgW_le (L := K.tx a)
    have e1 : (wdD K (a :: l)) = pgW (K.tx a) ++ wdD K l := rfl
    have e2 : (txs K (a :: l)).flatten = K.tx a ++ (txs K l).flatten := rfl
    rw [e1, e2, List.flatten_append, List.length_append, List.length_append, List.length_append]
    omega
theorem txs_tk (h : j < l.length) : (txs K (l.take j)).flatten.length + (K.tx (gN l j)).length ≤ (txs K l).flatten.length := by
  have e : txs K l = txs K (l.take (j + 1)) ++ txs K (l.drop (j + 1)) := by
    unfold txs
    rw [← List.map_append, List.take_append_drop]
  rw [e, tkN h, txs_app, List.flatten_append, List.flatten_append, List.length_append, List.length_append]
  show _ + _ ≤ _ + (K.tx (gN l j) ++ []).length + _
  rw [List.append_nil]
  omega
theorem rdC_w6 (z : rdC w h) (f : fr w w1 h h1 [21, 24, 67, 68]) (a : pR w1 h1) (b : eS w1 h1) (c : eB w1 h1 24 24) : rdC w1 h1 := by
  obtain ⟨Ls, a1, a2, a3, a4, a5, a6, a7⟩ := z
  exact ⟨Ls, a, a2.fr f (by decide) (by decide) (by decide), b, a4.fr f (by decide), a5.fr f (by decide), c, a7.fr f (by decide) (by decide)⟩
theorem w_P_readWords6 {c : Nat} (hL8 : L.length ≤ 7999) (hP0 : pR w h) (hS : eS w h) (hPl0 : eB w h 24 24) (hRw0 : rE w h 67 68 67 68 T []) (hx0 : tO w h 99 c 0 L) (hf1 : T.flatten.length + L.length ≤ 19000) (hf2 : T.length + L.length ≤ 19000) : am_C X mt_P_readWords (d + 9) [.ref 12, .ref c, .int 0, .int (nI L.length), .ref 67] h (fun r h1 => r = none ∧ ∃ w1, fr w w1 h h1 [21, 24, 67, 68] ∧ pR w1 h1 ∧ eS w1 h1 ∧ eB w1 h1 24 24 ∧ rE w1 h1 67 68 67 68 (T ++ pgW L) []) := by
  have h9 := w_P_readWords_67 (X := X) (d := d) (s := 0) (q := 99) (by decide) hL8 hP0 hS hPl0 hRw0 hx0 hf1 hf2
  rw [Nat.zero_add] at h9
  exact h9
theorem l16_D_indexWords (h250 : l.length ≤ 250) (h8 : ∀ i, i ∈ l → (K.tx i).length ≤ 7999) (hY : (txs K l).flatten.length ≤ 19000) : ∀ (n9 j : Nat) (w0 : Gw) (h0 : List va_E) (gf : Nat → Int32), j + n9 = l.length → dO w0 h0 l.length → dpC w0 h0 K l → rdC w0 h0 → rE w0 h0 67 68 67 68 (wdD K (l.take j)) [] → iA w0 h0 66 251 gf → (∀ i, i ≤ j → gf i = nI (wdD K (l.take i)).length) → am_G X mt_D_indexWords (d + 10) 16 [some (.ref 59), some (.int (nI j))] [] h0 (fun r h1 => r = none ∧ ∃ w1, fr w0 w1 h0 h1 [21, 24, 66, 67, 68] ∧ ixW w1 h1 K l ∧ rdC w1 h1)
  | 0, j, w0, h0, gf, e9, hD_0, hP_0, hS_0, hR_0, a6_0, hf => by
    rw [show l.take j = l from List.take_of_length_le (by omega)] at hR_0
    refine g_iload_n (pc := 16) dc_D_indexWords_16 rfl ?_
    refine g_aload_n (pc := 17) dc_D_indexWords_17 rfl ?_
    refine g_getfield (pc := 18) dc_D_indexWords_18 fl_D_91 hD_0.1 rfl ?_
    refine q_icmp_ge (pc := 21) (tgt := 76) j l.length dc_D_indexWords_21 (by omega) (by omega) rfl (fun hc21 => ?_) (fun hc => absurd hc (by omega))
    exact g_return dc_D_indexWords_76 rfl ⟨rfl, w0, fr.rf, ⟨hR_0, gf, a6_0, fun i hi => hf i (by omega)⟩, hS_0⟩
  | n9 + 1, j, w0, h0, gf, e9, hD_0, hP_0, hS_0, hR_0, a6_0, hf => by
    have hj : j < l.length := by omega
    have G0 : fr w0 w0 h0 h0 [21, 24, 66, 67, 68] := fr.rf
    have hP9 := hP_0
    obtain ⟨gp, hg, hg2⟩ := hP9
    obtain ⟨pg, hp1, hp2⟩ := hg2 j hj
    obtain ⟨pa1, pa2, pq, x1, x2⟩ := hp2
    have xx2 := x2
    obtain ⟨xg2, xe2, -⟩ := xx2
    have hSc := hS_0
    obtain ⟨Lsx, hSx⟩ := hSc
    have ht8 := h8 _ (gN_mem hj)
    have htk := txs_tk (K := K) hj
    have hwl := wdD_le (K := K) (l.take j)
    have ew : wdD K (l.take (j + 1)) = wdD K (l.take j) ++ pgW (K.tx (gN l j)) := by rw [tkN hj, wdD_app]
    refine g_iload_n (pc := 16) dc_D_indexWords_16 rfl ?_
    refine g_aload_n (pc := 17) dc_D_indexWords_17 rfl ?_
    refine g_getfield (pc := 18) dc_D_indexWords_18 fl_D_91 hD_0.1 rfl ?_
    refine q_icmp_ge (pc := 21) (tgt := 76) j l.length dc_D_indexWords_21 (by omega) (by omega) rfl (fun hc => absurd hc (by omega)) (fun hc21 => ?_)
    refine g_aload_n (pc := 24) dc_D_indexWords_24 rfl ?_
    refine g_getfield (pc := 25) dc_D_indexWords_25 fl_D_66 hD_0.1 rfl ?_
    refine g_aload_n (pc := 28) dc_D_indexWords_28 rfl ?_
    refine g_getfield (pc := 29) dc_D_indexWords_29 fl_D_11 hD_0.1 rfl ?_
    refine g_iload_n (pc := 32) dc_D_indexWords_32 rfl ?_
    refine q_aaload4 (pc := 33) j dc_D_indexWords_33 hg.1 (by omega) (by omega) hp1 ?_
    refine g_getfield (pc := 34) dc_D_indexWords_34 fl_D_112 pq.1 rfl ?_
    refine g_iconst (pc := 37) (v := 0) dc_D_indexWords_37 rfl ?_
    refine g_aload_n (pc := 38) dc_D_indexWords_38 rfl ?_
    refine g_getfield (pc := 39) dc_D_indexWords_39 fl_D_11 hD_0.1 rfl ?_
    refine g_iload_n (pc := 42) dc_D_indexWords_42 rfl ?_
    refine q_aaload4 (pc := 43) j dc_D_indexWords_43 hg.1 (by omega) (by omega) hp1 ?_
    refine g_getfield (pc := 44) dc_D_indexWords_44 fl_D_112 pq.1 rfl ?_
    refine g_alen (pc := 47) dc_D_indexWords_47 xe2.1 (by decide) ?_
    refine g_aload_n (pc := 48) dc_D_indexWords_48 rfl ?_
    refine g_getfield (pc := 49) dc_D_indexWords_49 fl_D_41 hD_0.1 rfl ?_
    refine g_v4 (pc := 52) (M' := mt_P_readWords) dc_D_indexWords_52 mo_P_readWords im_P_readWords se_P_readWords ln_D_160 hSx.1.1 rfl rfl (Nat.le_of_ble_eq_true rfl) (Nat.le_of_ble_eq_true rfl) (am_G.mono (w_P_readWords6 (d := d) (L := K.tx (gN l j)) ht8 hSx.1 hSx.2.2.1 hSx.2.2.2.2.2.1 hR_0 x2.tO (by omega) (by omega)) ?_)
    intro r h1 hz
    obtain ⟨hz1, w1, g1, hPr1, he1, hb1, hR_1⟩ := hz
    rw [hz1]
    have hD_1 := hD_0.fr g1 (by decide)
    have hP_1 := hP_0.fr g1 (by decide) (by decide)
    have a6_1 := a6_0.fr g1 (by decide)
    have G1 := G0.tr (g1.mo (by decide : ∀ x, x ∈ [21, 24, 67, 68] → x ∈ [21, 24, 66, 67, 68]))
    clear hz1 r
    have hS_1 := rdC_w6 hS_0 g1 hPr1 he1 hb1
    rw [← ew] at hR_1
    have hRx := hR_1
    obtain ⟨rb, re, hR9_1⟩ := hRx
    refine ⟨am_nt0, ?_⟩
    refine g_aload_n (pc := 55) dc_D_indexWords_55 rfl ?_
    refine g_getfield (pc := 56) dc_D_indexWords_56 fl_D_33 hD_1.1 rfl ?_
    refine g_iload_n (pc := 59) dc_D_indexWords_59 rfl ?_
    refine g_iconst (pc := 60) (v := 1) dc_D_indexWords_60 rfl ?_
    refine g_iadd (pc := 61) (v := (nI (j + 1))) dc_D_indexWords_61 (nI_add j 1) ?_
    refine g_aload_n (pc := 62) dc_D_indexWords_62 rfl ?_
    refine g_getfield (pc := 63) dc_D_indexWords_63 fl_D_41 hD_1.1 rfl ?_
    refine g_getfield (pc := 66) dc_D_indexWords_66 fl_D_75 hR9_1.1.1 rfl ?_
    refine q_iastore (pc := 69) (j + 1) dc_D_indexWords_69 a6_1.1 (by omega) (by decide) ?_
    have g2 : fr w1 w1 h1 (h1.set 66 (.inl (1, 251, .inl (upd gf (j + 1) (nI ((wdD K (l.take (j + 1))).length)))))) [66] := fr.st a6_1.1 rfl a6_1.2
    have a6_2 : iA w1 (h1.set 66 (.inl (1, 251, .inl (upd gf (j + 1) (nI ((wdD K (l.take (j + 1))).length)))))) 66 251 (upd gf (j + 1) (nI ((wdD K (l.take (j + 1))).length))) := ⟨am_se (am_lt a6_1.1), a6_1.2⟩
    obtain ⟨w2, hw2⟩ : ∃ w9, w9 = w1 := ⟨_, rfl⟩
    generalize (h1.set 66 (.inl (1, 251, .inl (upd gf (j + 1) (nI ((wdD K (l.take (j + 1))).length)))))) = h2 at g2 a6_2 ⊢
    have g2 : fr w1 w2 h1 h2 [66] := by rw [hw2]; exact g2
    have a6_2 : iA w2 h2 66 251 (upd gf (j + 1) (nI ((wdD K (l.take (j + 1))).length))) := by rw [hw2]; exact a6_2
    have hD_2 := hD_1.fr g2 (by decide)
    have hP_2 := hP_1.fr g2 (by decide) (by decide)
    have hS_2 := hS_1.fr g2 (by decide)
    have hR_2 := hR_1.fr g2 (by decide) (by decide)
    have G2 := G1.tr (g2.mo (by decide : ∀ x, x ∈ [66] → x ∈ [21, 24, 66, 67, 68]))
    refine g_iinc (pc := 70) (v := (nI (j + 1))) dc_D_indexWords_70 rfl (nI_add j 1) (by decide) ?_
    show am_G X mt_D_indexWords _ 73 [some (.ref 59), some (.int (nI (j + 1)))] [] _ _
    refine g_goto (pc := 73) (tgt := 16) dc_D_indexWords_73 rfl ?_
    refine am_G.mono (l16_D_indexWords h250 h8 hY n9 (j + 1) w2 h2 _ (by omega) hD_2 hP_2 hS_2 hR_2 a6_2 (fun i hi => ?_)) (fun r h9 hz => ?_)
    · by_cases q : i = j + 1
      · rw [q, upd_s]
      · rw [upd_n q]; exact hf i (by omega)
    · obtain ⟨y1, w9, y2, y3⟩ := hz
      exact ⟨y1, w9, G2.tr y2, y3⟩
theorem w_D_indexWords {w0 : Gw} {h0 : List va_E} (h250 : l.length ≤ 250) (h8 : ∀ i, i ∈ l → (K.tx i).length ≤ 7999) (hY : (txs K l).flatten.length ≤ 19000) (hD_0 : dO w0 h0 l.length) (hP_0 : dpC w0 h0 K l) (hS_0 : rdC w0 h0) (hR : rE w0 h0 67 68 67 68 T []) (hg : ∃ g, iA w0 h0 66 251 g) : am_C X mt_D_indexWords (d + 10) [.ref 59] h0 (fun r h1 => r = none ∧ ∃ w1, fr w0 w1 h0 h1 [21, 24, 66, 67, 68] ∧ ixW w1 h1 K l ∧ rdC w1 h1) := by
  show am_G X mt_D_indexWords (d + 10) 0 [some (.ref 59), none] [] h0 _
  obtain ⟨gf, a6_0⟩ := hg
  have hR_0 := hR
  obtain ⟨rb, re, hRr⟩ := hR
  have hRo := hRr.1.1
  have G0 : fr w0 w0 h0 h0 [21, 24, 66, 67, 68] := fr.rf
  refine g_aload_n (pc := 0) dc_D_indexWords_0 rfl ?_
  refine g_getfield (pc := 1) dc_D_indexWords_1 fl_D_41 hD_0.1 rfl ?_
  refine g_v0 (pc := 4) (M' := mt_R_clear) dc_D_indexWords_4 mo_R_clear im_R_clear se_R_clear ln_D_159 hRo rfl rfl (Nat.le_of_ble_eq_true rfl) (Nat.le_of_ble_eq_true rfl) (am_G.mono (w_R_clear (d := d + 7) (i := 67) (j := 68) (by decide) (by decide) (by decide) hR_0) ?_)
  intro r h1 hz
  obtain ⟨hz1, w1, g1, hR_1⟩ := hz
  rw [hz1]
  have hD_1 := hD_0.fr g1 (by decide)
  have hP_1 := hP_0.fr g1 (by decide) (by decide)
  have hS_1 := hS_0.fr g1 (by decide)
  have a6_1 := a6_0.fr g1 (by decide)
  have G1 := G0.tr (g1.mo (by decide : ∀ x, x ∈ [67, 68] → x ∈ [21, 24, 66, 67, 68]))
  clear hz1 r
  refine ⟨am_nt0, ?_⟩
  refine g_aload_n (pc := 7) dc_D_indexWords_7 rfl ?_
  refine g_getfield (pc := 8) dc_D_indexWords_8 fl_D_33 hD_1.1 rfl ?_
  refine g_iconst (pc := 11) (v := 0) dc_D_indexWords_11 rfl ?_
  refine g_iconst (pc := 12) (v := 0) dc_D_indexWords_12 rfl ?_
  refine q_iastore (pc := 13) 0 dc_D_indexWords_13 a6_1.1 (by decide) (by decide) ?_
  have g2 : fr w1 w1 h1 (h1.set 66 (.inl (1, 251, .inl (upd gf 0 0)))) [66] := fr.st a6_1.1 rfl a6_1.2
  have a6_2 : iA w1 (h1.set 66 (.inl (1, 251, .inl (upd gf 0 0)))) 66 251 (upd gf 0 0) := ⟨am_se (am_lt a6_1.1), a6_1.2⟩
  obtain ⟨w2, hw2⟩ : ∃ w9, w9 = w1 := ⟨_, rfl⟩
  generalize (h1.set 66 (.inl (1, 251, .inl (upd gf 0 0)))) = h2 at g2 a6_2 ⊢
  have g2 : fr w1 w2 h1 h2 [66] := by rw [hw2]; exact g2
  have a6_2 : iA w2 h2 66 251 (upd gf 0 0) := by rw [hw2]; exact a6_2
  have hD_2 := hD_1.fr g2 (by decide)
  have hP_2 := hP_1.fr g2 (by decide) (by decide)
  have hS_2 := hS_1.fr g2 (by decide)
  have hR_2 := hR_1.fr g2 (by decide) (by decide)
  have G2 := G1.tr (g2.mo (by decide : ∀ x, x ∈ [66] → x ∈ [21, 24, 66, 67, 68]))
  refine g_iconst (pc := 14) (v := 0) dc_D_indexWords_14 rfl ?_
  refine g_istore_n (pc := 15) dc_D_indexWords_15 (by decide) ?_
  show am_G X mt_D_indexWords _ 16 [some (.ref 59), some (.int 0)] [] _ _
  refine am_G.mono (l16_D_indexWords h250 h8 hY l.length 0 w2 h2 _ (Nat.zero_add _) hD_2 hP_2 hS_2 hR_2 a6_2 (fun i hi => ?_)) (fun r h9 hz => ?_)
  · rw [show i = 0 by omega, upd_s]; rfl
  · obtain ⟨y1, w9, y2, y3⟩ := hz
    exact ⟨y1, w9, G2.tr y2, y3⟩
end G2S
