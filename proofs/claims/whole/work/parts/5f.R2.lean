/-! ===== rows of texts: what changes them ===== -/
theorem isB.eq {h h1 : List va_E} {a b cap : Nat} {L : List Int32} (x : isB h a b cap L) (h2 : h1[a]? = h[a]?) (h3 : h1[b]? = h[b]?) : isB h1 a b cap L := by
  obtain ⟨g, x1, x2, r⟩ := x
  exact ⟨g, h2.trans x1, h3.trans x2, r⟩
def chR (h h1 : List va_E) (a ab b cap e ecap b1 cap1 e1 ecap1 : Nat) : Prop := (h.length ≤ h1.length ∧ ∀ k, k < h.length → k ≠ a → k ≠ ab → k ≠ b → k ≠ e → h1[k]? = h[k]?) ∧ (b1 = b ∨ h.length ≤ b1) ∧ (e1 = e ∨ h.length ≤ e1) ∧ am_sl h1 + 2 * cap + 2 * ecap ≤ am_sl h + 2 * cap1 + 2 * ecap1 ∧ 16 * h1.length + cap + ecap ≤ 16 * h.length + cap1 + ecap1
def toR (h h1 : List va_E) (a ab b cap e ecap : Nat) (T : List (List Int32)) (P : List Int32) : Prop := ∃ b1 cap1 e1 ecap1, isR h1 a ab b1 cap1 e1 ecap1 T P ∧ chR h h1 a ab b cap e ecap b1 cap1 e1 ecap1 ∧ cap1 ≤ max cap (2 * (T.flatten ++ P).length + 16) ∧ ecap1 ≤ max ecap (2 * T.length + 16)
theorem isR.ne {h : List va_E} {a ab b cap e ecap : Nat} {T : List (List Int32)} {P : List Int32} (x : isR h a ab b cap e ecap T P) : a ≠ ab ∧ a ≠ b ∧ a ≠ e ∧ ab ≠ b ∧ ab ≠ e ∧ b ≠ e := by
  obtain ⟨x1, x2, gE, x3, -⟩ := x
  obtain ⟨g, y1, y2, -⟩ := x2
  refine ⟨fun q => ?_, fun q => ?_, fun q => ?_, fun q => ?_, fun q => ?_, fun q => ?_⟩
  · rw [q, y1] at x1; cases x1
  · rw [q, y2] at x1; cases x1
  · rw [q, x3] at x1; cases x1
  · rw [q, y2] at y1; cases y1
  · rw [q, x3] at y1; cases y1
  · rw [q, x3] at y2; cases y2
section RWC
variable {X : am_X} {d a ab b cap e ecap i k c s f t : Nat} {h : List va_E} {T : List (List Int32)} {P L : List Int32} {gE : Nat → Int32}
theorem close_sl {h0 : List va_E} {g' : Nat → Int32} {v1 v2 v3 : Value} {fs : List Value} (ha : h0[a]? = some (.inr (4, fs))) (hf : fs.length = 3) (he : h0[e]? = some (.inl (1, ecap, .inl gE))) (hea : e ≠ a) : am_sl ((h0.set e (.inl (1, ecap, .inl g'))).set a (.inr (4, [v1, v2, v3]))) = am_sl h0 := am_set2 ha he hea hf.symm rfl
theorem cut_sl {h0 : List va_E} {v1 v2 v3 v4 v5 : Value} {fs gs : List Value} (ha : h0[a]? = some (.inr (4, fs))) (hf : fs.length = 3) (hb : h0[ab]? = some (.inr (1, gs))) (hg : gs.length = 2) (hea : a ≠ ab) : am_sl ((h0.set a (.inr (4, [v1, v2, v3]))).set ab (.inr (1, [v4, v5]))) = am_sl h0 := am_set2 hb ha hea hg.symm hf.symm
theorem t_R_close (ha : h[a]? = some (.inr (4, [.ref ab, .ref e, .int (nI T.length)]))) (hB : isB h ab b cap (T.flatten ++ P)) (he : h[e]? = some (.inl (1, ecap, .inl gE))) (hea : e ≠ a) (heb : e ≠ ab) (hl : T.length < ecap) (hec : ecap < 2 ^ 31) :
    am_G X mt_R_close d 32 [some (.ref a)] [] h (fun r h1 => r = none ∧ h1 = (h.set e (.inl (1, ecap, .inl (upd gE T.length (nI (T.flatten ++ P).length))))).set a (.inr (4, [.ref ab, .ref e, .int (nI (T.length + 1))]))) := by
  refine g_aload_n (pc := 32) dc_R_close_32 rfl ?_
  refine g_getfield (pc := 33) dc_R_close_33 fl_R_20 ha rfl ?_
  refine g_aload_n (pc := 36) dc_R_close_36 rfl ?_
  refine g_getfield (pc := 37) dc_R_close_37 fl_R_27 ha rfl ?_
  refine g_aload_n (pc := 40) dc_R_close_40 rfl ?_
  refine g_getfield (pc := 41) dc_R_close_41 fl_R_14 ha rfl ?_
  refine g_getfield (pc := 44) dc_R_close_44 fl_R_35 hB.ha rfl ?_
  refine q_iastore (pc := 47) T.length dc_R_close_47 he (by omega) hec ?_
  refine g_aload_n (pc := 48) dc_R_close_48 rfl ?_
  refine g_dup (pc := 49) dc_R_close_49 rfl ?_
  refine g_getfield (pc := 50) dc_R_close_50 fl_R_27 (am_sn hea ha) rfl ?_
  refine g_iconst (pc := 53) (v := 1) dc_R_close_53 rfl ?_
  refine g_iadd (pc := 54) (v := (nI (T.length + 1))) dc_R_close_54 (nI_add T.length 1) ?_
  refine g_putfield (pc := 55) dc_R_close_55 fp_R_close_27 (am_sn hea ha) (Nat.le_of_ble_eq_true rfl) rfl rfl ?_
  exact g_return dc_R_close_58 rfl ⟨rfl, rfl⟩
theorem close_is {h0 : List va_E} (ha : h0[a]? = some (.inr (4, [.ref ab, .ref e, .int (nI T.length)]))) (hB : isB h0 ab b cap (T.flatten ++ P)) (he : h0[e]? = some (.inl (1, ecap, .inl gE))) (hea : e ≠ a) (heb : e ≠ ab) (hl : T.length < ecap) (hec : ecap ≤ 33554432) (hE : ∀ k, k < T.length → gE k = nI (ofs T (k + 1))) :
    isR ((h0.set e (.inl (1, ecap, .inl (upd gE T.length (nI (T.flatten ++ P).length))))).set a (.inr (4, [.ref ab, .ref e, .int (nI (T.length + 1))]))) a ab b cap e ecap (T ++ [P]) [] := by
  have hl2 : (T ++ [P]).length = T.length + 1 := by rw [List.length_append]; rfl
  have hf : (T ++ [P]).flatten ++ [] = T.flatten ++ P := by simp
  obtain ⟨g, y1, y2, r⟩ := hB
  have hab : a ≠ ab := fun q => by rw [q, y1] at ha; cases ha
  have hba : a ≠ b := fun q => by rw [q, y2] at ha; cases ha
  have hbe : e ≠ b := fun q => by rw [q, y2] at he; cases he
  refine ⟨by rw [hl2]; exact am_se (by rw [List.length_set]; exact am_lt ha), ?_, upd gE T.length (nI (T.flatten ++ P).length), am_sn (Ne.symm hea) (am_se (am_lt he)), fun k hk => ?_, by omega, hec⟩
  · rw [hf]
    exact ⟨g, am_sn hab (am_sn heb y1), am_sn hba (am_sn hbe y2), r⟩
  · unfold upd
    by_cases q : k = T.length
    · subst q
      rw [if_pos rfl, ofs_s (by omega), ofs_app (Nat.le_refl _), gT_new, List.length_append, flat_len]
    · rw [if_neg q, ofs_app (by omega)]
      exact hE k (by omega)
theorem c_R_close (hR : isR h a ab b cap e ecap T P) (hbig : T.length < 8388608) : am_C X mt_R_close (d + 2) [.ref a] h (fun r h1 => r = none ∧ toR h h1 a ab b cap e ecap (T ++ [P]) []) := by
  have hn := hR.ne
  obtain ⟨ha, hB, gE, he, hE, hl, hec⟩ := hR
  have hl2 : (T ++ [P]).length = T.length + 1 := by rw [List.length_append]; rfl
  show am_G X mt_R_close (d + 2) 0 [some (.ref a)] [] h _
  refine g_aload_n (pc := 0) dc_R_close_0 rfl ?_
  refine g_getfield (pc := 1) dc_R_close_1 fl_R_27 ha rfl ?_
  refine g_aload_n (pc := 4) dc_R_close_4 rfl ?_
  refine g_getfield (pc := 5) dc_R_close_5 fl_R_20 ha rfl ?_
  refine g_alen (pc := 8) dc_R_close_8 he (by decide) ?_
  refine q_icmp_ne (pc := 9) (tgt := 32) T.length ecap dc_R_close_9 (by omega) (by omega) rfl (fun hc9 => ?_) (fun hc9 => ?_)
  · refine am_G.mono (t_R_close ha hB he (Ne.symm hn.2.2.1) (Ne.symm hn.2.2.2.2.1) (by omega) (by omega)) (fun r h1 hq => ⟨hq.1, ?_⟩)
    rw [hq.2]
    refine ⟨b, cap, e, ecap, close_is ha hB he (Ne.symm hn.2.2.1) (Ne.symm hn.2.2.2.2.1) (by omega) hec hE, ⟨⟨by rw [List.length_set, List.length_set]; exact Nat.le_refl _, fun k k0 k1 k2 k3 k4 => ?_⟩, Or.inl rfl, Or.inl rfl, ?_, ?_⟩, by omega, by omega⟩
    · rw [List.getElem?_set_ne (Ne.symm k1), List.getElem?_set_ne (Ne.symm k4)]
    · rw [close_sl ha rfl he (Ne.symm hn.2.2.1)]; exact Nat.le_refl _
    · rw [List.length_set, List.length_set]; exact Nat.le_refl _
  · refine g_aload_n (pc := 12) dc_R_close_12 rfl ?_
    refine g_aload_n (pc := 13) dc_R_close_13 rfl ?_
    refine g_getfield (pc := 14) dc_R_close_14 fl_R_20 ha rfl ?_
    refine g_iconst (pc := 17) (v := 2) dc_R_close_17 rfl ?_
    refine g_aload_n (pc := 18) dc_R_close_18 rfl ?_
    refine g_getfield (pc := 19) dc_R_close_19 fl_R_27 ha rfl ?_
    refine g_imul (pc := 22) (v := (nI (2 * T.length))) dc_R_close_22 (pk_mul 2 T.length) ?_
    refine g_bipush (pc := 23) (v := 16) dc_R_close_23 rfl ?_
    refine g_iadd (pc := 25) (v := (nI (2 * T.length + 16))) dc_R_close_25 (nI_add (2 * T.length) 16) ?_
    refine g_s2 (pc := 26) (M' := mt_JArrays_copyOf_1) dc_R_close_26 mo_JArrays_copyOf_1 st_JArrays_copyOf_1 ln_R_45 (Nat.le_of_ble_eq_true rfl) (Nat.le_of_ble_eq_true rfl) (am_G.mono (c_JArrays_copyOf_1 (m := 2 * T.length + 16) he (by omega) (by omega)) ?_)
    intro r h1 hq
    rw [hq.1, hq.2]
    clear hq h1 r
    refine ⟨am_ntr _, ?_⟩
    refine g_putfield (pc := 29) dc_R_close_29 fp_R_close_20 (am_ap ha) (Nat.le_of_ble_eq_true rfl) rfl rfl ?_
    have hna : a ≠ h.length := Nat.ne_of_lt (am_lt ha)
    have hnb : ab ≠ h.length := Nat.ne_of_lt (am_lt hB.ha)
    have hB0 := hB
    obtain ⟨g, y1, y2, yr⟩ := hB0
    have ha2 : ((h ++ [(.inl (1, 2 * T.length + 16, .inl (va_cpy gE (fun _ => 0) 0 0 ecap)) : va_E)]).set a (.inr (4, ([.ref ab, .ref e, .int (nI T.length)] : List Value).set 1 (.ref h.length))))[a]? = some (.inr (4, [.ref ab, .ref h.length, .int (nI T.length)])) := am_se (am_lt (am_ap ha))
    have he2 : ((h ++ [(.inl (1, 2 * T.length + 16, .inl (va_cpy gE (fun _ => 0) 0 0 ecap)) : va_E)]).set a (.inr (4, ([.ref ab, .ref e, .int (nI T.length)] : List Value).set 1 (.ref h.length))))[h.length]? = some (.inl (1, 2 * T.length + 16, .inl (va_cpy gE (fun _ => 0) 0 0 ecap)) : va_E) := am_sn hna am_an
    have hB2 : isB ((h ++ [(.inl (1, 2 * T.length + 16, .inl (va_cpy gE (fun _ => 0) 0 0 ecap)) : va_E)]).set a (.inr (4, ([.ref ab, .ref e, .int (nI T.length)] : List Value).set 1 (.ref h.length)))) ab b cap (T.flatten ++ P) := ⟨g, am_sn hn.1 (am_ap y1), am_sn hn.2.1 (am_ap y2), yr⟩
    refine am_G.mono (t_R_close ha2 hB2 he2 (Ne.symm hna) (Ne.symm hnb) (by omega) (by omega)) (fun r h1 hq => ⟨hq.1, ?_⟩)
    rw [hq.2]
    refine ⟨b, cap, h.length, 2 * T.length + 16, close_is ha2 hB2 he2 (Ne.symm hna) (Ne.symm hnb) (by omega) (by omega) (fun k hk => ?_), ⟨⟨?_, fun k k0 k1 k2 k3 k4 => ?_⟩, Or.inl rfl, Or.inr (Nat.le_refl _), ?_, ?_⟩, by omega, by omega⟩
    · show va_cpy gE (fun _ => 0) 0 0 ecap k = _
      unfold va_cpy
      rw [if_pos (by omega), Nat.zero_add, Nat.sub_zero]
      exact hE k hk
    · rw [List.length_set, List.length_set, List.length_set, List.length_append]; exact Nat.le_add_right _ _
    · rw [List.getElem?_set_ne (Ne.symm k1), List.getElem?_set_ne (Nat.ne_of_gt k0), List.getElem?_set_ne (Ne.symm k1), List.getElem?_append_left k0]
    · rw [close_sl ha2 rfl he2 (Ne.symm hna), am_sl_set _ a (.inr (4, ([.ref ab, .ref e, .int (nI T.length)] : List Value).set 1 (.ref h.length))) _ (am_ap ha) rfl, am_sl_app]; show am_sl h + (2 * T.length + 16 + 0) + 2 * cap + 2 * ecap ≤ _; omega
    · rw [List.length_set, List.length_set, List.length_set, List.length_append]; show 16 * (h.length + 1) + cap + ecap ≤ _; omega
theorem tk_len {k : Nat} (hk : k ≤ T.length) : (T.take k).length = k := by rw [List.length_take]; omega
theorem tk_ofs {j k : Nat} (hj : j ≤ k) : ofs (T.take k) j = ofs T j := by unfold ofs; rw [List.take_take, Nat.min_eq_left hj]
theorem tk_flat {k : Nat} : (T.take k).flatten ++ ((T.drop k).flatten ++ P) = T.flatten ++ P := by rw [← List.append_assoc, ← List.flatten_append, List.take_append_drop]
theorem isB.cut {h : List va_E} {a b cap : Nat} {L M : List Int32} (x : isB h a b cap (L ++ M)) : isB (h.set a (.inr (1, [.ref b, .int (nI L.length)]))) a b cap L := by
  have hab := x.ab
  obtain ⟨g, x1, x2, x3, x4, x5, x6⟩ := x
  rw [List.length_append] at x4
  refine ⟨g, am_se (am_lt x1), am_sn hab x2, ?_, by omega, x5, x6⟩
  rw [List.length_append, sl_add] at x3
  exact (List.append_inj x3 (by rw [sl_len])).1
theorem c_R_cut (hR : isR h a ab b cap e ecap T P) (hk : k ≤ T.length) : am_C X mt_R_cut (d + 1) [.ref a, .int (nI k)] h (fun r h1 => r = none ∧ toR h h1 a ab b cap e ecap (T.take k) []) := by
  have hn := hR.ne
  have hof := hR.of hk
  have hR0 := hR
  obtain ⟨ha, hB, gE, he, hE, hl, hec⟩ := hR
  have hkl := tk_len (T := T) hk
  have hR1 : isR (h.set a (.inr (4, [.ref ab, .ref e, .int (nI k)]))) a ab b cap e ecap (T.take k) ((T.drop k).flatten ++ P) := by
    refine ⟨by rw [hkl]; exact am_se (am_lt ha), ?_, gE, am_sn hn.2.2.1 he, fun j hj => ?_, by omega, hec⟩
    · rw [tk_flat]
      exact hB.eq (List.getElem?_set_ne hn.1) (List.getElem?_set_ne hn.2.1)
    · rw [tk_ofs (by omega)]
      exact hE j (by omega)
  show am_G X mt_R_cut (d + 1) 0 [some (.ref a), some (.int (nI k))] [] h _
  refine g_iload_n (pc := 0) dc_R_cut_0 rfl ?_
  refine g_aload_n (pc := 1) dc_R_cut_1 rfl ?_
  refine g_getfield (pc := 2) dc_R_cut_2 fl_R_27 ha rfl ?_
  refine q_icmp_gt (pc := 5) (tgt := 25) k T.length dc_R_cut_5 (by omega) (by omega) rfl (fun hc => absurd hc (by omega)) (fun hc5 => ?_)
  refine g_aload_n (pc := 8) dc_R_cut_8 rfl ?_
  refine g_iload_n (pc := 9) dc_R_cut_9 rfl ?_
  refine g_putfield (pc := 10) dc_R_cut_10 fp_R_cut_27 ha (Nat.le_of_ble_eq_true rfl) rfl rfl ?_
  refine g_aload_n (pc := 13) dc_R_cut_13 rfl ?_
  refine g_getfield (pc := 14) dc_R_cut_14 fl_R_14 hR1.1 rfl ?_
  refine g_aload_n (pc := 17) dc_R_cut_17 rfl ?_
  refine g_iload_n (pc := 18) dc_R_cut_18 rfl ?_
  refine g_v1 (pc := 19) (M' := mt_R_from) dc_R_cut_19 mo_R_from im_R_from se_R_from ln_R_31 (am_se (am_lt ha)) rfl rfl (Nat.le_of_ble_eq_true rfl) (Nat.le_of_ble_eq_true rfl) (am_G.mono (c_R_from (d := d) (i := k) hR1 (by omega)) ?_)
  intro r h1 hq
  rw [hq.1, hq.2]
  clear hq h1 r
  refine ⟨am_nti _, ?_⟩
  rw [tk_ofs (Nat.le_refl k)]
  refine g_putfield (pc := 22) dc_R_cut_22 fp_R_cut_35 (am_sn hn.1 hB.ha) (Nat.le_of_ble_eq_true rfl) rfl rfl ?_
  refine g_return dc_R_cut_25 rfl ⟨rfl, ?_⟩
  have hfl : (T.take k).flatten.length = ofs T k := by rw [flat_len, hkl, tk_ofs (Nat.le_refl k)]
  have hB1 := hR1.2.1.cut
  rw [hfl] at hB1
  refine ⟨b, cap, e, ecap, ⟨?_, ?_, gE, am_sn hn.2.2.2.2.1 (am_sn hn.2.2.1 he), fun j hj => ?_, by omega, hec⟩, ⟨⟨by rw [List.length_set, List.length_set]; exact Nat.le_refl _, fun j j0 j1 j2 j3 j4 => ?_⟩, Or.inl rfl, Or.inl rfl, ?_, ?_⟩, by omega, by omega⟩
  · rw [hkl]
    exact am_sn (Ne.symm hn.1) (am_se (am_lt ha))
  · rw [List.append_nil]
    exact hB1
  · rw [tk_ofs (by omega)]
    exact hE j (by omega)
  · rw [List.getElem?_set_ne (Ne.symm j2), List.getElem?_set_ne (Ne.symm j1)]
  · have h9 := cut_sl (v1 := .ref ab) (v2 := .ref e) (v3 := .int (nI k)) (v4 := .ref b) (v5 := .int (nI (ofs T k))) ha rfl hB.ha rfl hn.1
    exact Nat.le_of_eq (congrArg (fun z => z + 2 * cap + 2 * ecap) h9)
  · rw [List.length_set, List.length_set]; exact Nat.le_refl _
theorem c_R_clear (hR : isR h a ab b cap e ecap T P) : am_C X mt_R_clear (d + 2) [.ref a] h (fun r h1 => r = none ∧ toR h h1 a ab b cap e ecap [] []) := by
  show am_G X mt_R_clear (d + 2) 0 [some (.ref a)] [] h _
  refine g_aload_n (pc := 0) dc_R_clear_0 rfl ?_
  refine g_iconst (pc := 1) (v := 0) dc_R_clear_1 rfl ?_
  refine g_v1 (pc := 2) (M' := mt_R_cut) dc_R_clear_2 mo_R_cut im_R_cut se_R_cut ln_R_24 hR.1 rfl rfl (Nat.le_of_ble_eq_true rfl) (Nat.le_of_ble_eq_true rfl) (am_G.mono (c_R_cut (d := d) (k := 0) hR (Nat.zero_le _)) ?_)
  intro r h1 hq
  obtain ⟨rfl, hq⟩ := hq
  refine ⟨am_nt0, ?_⟩
  exact g_return dc_R_clear_5 rfl ⟨rfl, hq⟩
end RWC
