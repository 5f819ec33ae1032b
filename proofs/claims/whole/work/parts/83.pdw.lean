/-! ===== the class's decode, splitWords, add ===== -/
def pR (w : Gw) (h : List va_E) : Prop := cO w h 12 12 (.inr (3, [.ref 13, .ref 17, .ref 7, .ref 21, .ref 22, .ref 24]))
section PDW
variable {X : am_X} {d i j a ab c s f t q pb : Nat} {w w1 : Gw} {h h1 : List va_E} {L M R P P' : List Int32} {T : List (List Int32)}
theorem rE.by (x : rE w h i j a ab T P) : bE w h j ab (T.flatten ++ P) := by
  obtain ⟨b, e, x1, x2, x3, x4, x9⟩ := x
  exact ⟨b, x1.2.1, x2.2.2.1, x2.2.2.2, x4⟩
theorem rE_up (x : rE w h i j a ab T P) (g : fr w w1 h h1 [j]) (hij : ¬ i = j) (y : bE w1 h1 j ab (T.flatten ++ P')) : rE w1 h1 i j a ab T P' := by
  obtain ⟨b, e, ⟨x1, x2, gE, x3, x4⟩, ⟨o1, o2, o3, o4⟩, x5, x6, x9⟩ := x
  obtain ⟨b', y1, y2, y3, y4⟩ := y
  have hi : ¬ i ∈ [j] := fun h9 => hij (List.mem_singleton.mp h9)
  have ei := g.2.1 i hi
  refine ⟨b', e, ⟨g.at x1 (by rw [o1]; exact hi), y1, gE, ?_, ?_⟩, ⟨(g.ow (am_lt x1)).trans o1, (g.ow (am_lt x3)).trans o2, y2, y3⟩, by rw [ei]; exact x5, y4, by rw [ei]; exact x9⟩
  · rw [ei]; exact g.at x3 (by rw [o2]; exact hi)
  · rw [ei]; exact x4
theorem w_P_decode (hP : pR w h) (hB : bE w h 24 24 R) (hx : tO w h q c s L) (hq : ¬ q = 24) (hft : f ≤ t) (ht : t ≤ L.length) (hL : L.length ≤ 8000) : am_C X mt_P_decode (d + 6) [.ref 12, .ref c, .int (nI (s + f)), .int (nI (s + t))] h (fun r h1 => r = none ∧ ∃ w1, fr w w1 h h1 [24] ∧ bE w1 h1 24 24 (dcd L f t)) := by
  show am_G X mt_P_decode (d + 6) 0 [some (.ref 12), some (.ref c), some (.int (nI (s + f))), some (.int (nI (s + t))), none, none, none, none, none] [] h _
  have hB0 := hB
  obtain ⟨b, hb⟩ := hB
  have hdl := dcd_len (L := L) (t := t) (t - f) f (Nat.le_refl _)
  refine g_aload_n (pc := 0) dc_P_decode_0 rfl ?_
  refine g_getfield (pc := 1) dc_P_decode_1 fl_P_39 hP.1 rfl ?_
  refine g_v0 (pc := 4) (M' := mt_B_clear) dc_P_decode_4 mo_B_clear im_B_clear se_B_clear ln_P_137 hb.1.ha rfl rfl (Nat.le_of_ble_eq_true rfl) (Nat.le_of_ble_eq_true rfl) (am_G.mono (w_B_clear (by decide) hB0) ?_)
  intro r h1 hz
  obtain ⟨hz1, w1, g1, g2⟩ := hz
  rw [hz1]
  have hP1 : pR w1 h1 := hP.fr g1 (by decide)
  have hx1 := hx.fr g1 (fun h9 => hq (List.mem_singleton.mp h9))
  refine ⟨am_nt0, ?_⟩
  refine g_iload_n (pc := 7) dc_P_decode_7 rfl ?_
  refine g_istore (pc := 8) dc_P_decode_8 (by decide) ?_
  show am_G X mt_P_decode _ 10 [some (.ref 12), some (.ref c), some (.int (nI (s + f))), some (.int (nI (s + t))), some (.int (nI (s + f))), none, none, none, none] [] _ _
  obtain ⟨b1, y1, y2, y3, y4⟩ := g2
  refine am_G.mono (l_P_decode (f := f) hx1.1.btg ht (t - f) f b1 (w1.2 24) h1 [] (Nat.le_refl _) hft hP1.1 y1 hx1.1.tt (fun e => hq (by rw [← hx1.2, ← e]; exact y3)) (by show 0 + _ < _; omega)) (fun r h2 hz => ?_)
  obtain ⟨w2, g3, g4⟩ := toB.wo (by decide) y1.pos y2 y3 y4 hz.2 (by rw [List.nil_append]; show _ ≤ 40016; omega)
  exact ⟨hz.1, w2, g1.tr g3, g4⟩
theorem w_R_add (hi : i < 400) (hj : j < 400) (hij : ¬ i = j) (hR : rE w h i j a ab T []) (hx : tO w h q c s M) (hq : ¬ q = i ∧ ¬ q = j) (hft : f ≤ t) (ht : t ≤ M.length) (hl : 2 * (T.flatten.length + (t - f)) + 16 ≤ kb j) (hl2 : 2 * T.length + 18 ≤ kb i) : am_C X mt_R_add (d + 3) [.ref a, .ref c, .int (nI (s + f)), .int (nI (s + t))] h (fun r h1 => r = none ∧ ∃ w1, fr w w1 h h1 [i, j] ∧ rE w1 h1 i j a ab (T ++ [sub M f t]) []) := by
  show am_G X mt_R_add (d + 3) 0 [some (.ref a), some (.ref c), some (.int (nI (s + f))), some (.int (nI (s + t)))] [] h _
  have hby := hR.by
  rw [List.append_nil] at hby
  have hR0 := hR
  obtain ⟨b, e, x1, x2, x3, x4, x9⟩ := hR
  obtain ⟨b9, hb9⟩ := hby
  refine g_aload_n (pc := 0) dc_R_add_0 rfl ?_
  refine g_getfield (pc := 1) dc_R_add_1 fl_R_14 x1.1 rfl ?_
  refine g_aload_n (pc := 4) dc_R_add_4 rfl ?_
  refine g_iload_n (pc := 5) dc_R_add_5 rfl ?_
  refine g_iload_n (pc := 6) dc_R_add_6 rfl ?_
  refine g_v3 (pc := 7) (M' := mt_B_putAll) dc_R_add_7 mo_B_putAll im_B_putAll se_B_putAll ln_R_38 hb9.1.ha rfl rfl (Nat.le_of_ble_eq_true rfl) (Nat.le_of_ble_eq_true rfl) (am_G.mono (w_B_putAll (d := d) hj ⟨b9, hb9⟩ hx hq.2 hft ht (by omega)) ?_)
  intro r h1 hz
  obtain ⟨hz1, w1, g1, g2⟩ := hz
  rw [hz1]
  have hR1 := rE_up hR0 g1 hij g2
  have hR2 := hR1
  obtain ⟨b1, e1, y1, y2, y3, y4⟩ := hR1
  refine ⟨am_nt0, ?_⟩
  refine g_aload_n (pc := 10) dc_R_add_10 rfl ?_
  refine g_v0 (pc := 11) (M' := mt_R_close) dc_R_add_11 mo_R_close im_R_close se_R_close ln_R_42 y1.1 rfl rfl (Nat.le_of_ble_eq_true rfl) (Nat.le_of_ble_eq_true rfl) (am_G.mono (w_R_close (d := d) hi hj hij hR2 (by rw [sub_len ht]; omega) hl2) ?_)
  intro r h2 hz
  obtain ⟨hz2, w2, g3, g4⟩ := hz
  rw [hz2]
  refine ⟨am_nt0, ?_⟩
  exact g_return dc_R_add_14 rfl ⟨rfl, w2, (g1.mo (fun x h9 => List.mem_cons_of_mem _ h9)).tr g3, g4⟩
theorem l_P_splitWords {NB NC : Nat} (hi : i < 400) (hj : j < 400) (hij : ¬ i = j) (hq : ¬ q = i ∧ ¬ q = j) (hbM : btg M) (hB : 2 * NB + 18 ≤ kb j) (hC : 2 * NC + 18 ≤ kb i) : ∀ (m k n : Nat) (w : Gw) (h : List va_E) (T : List (List Int32)), k + n + m = M.length → (∀ z, k ≤ z → z < k + n → wdB (gx M z) = true) → bE w h q pb M → rE w h i j a ab T ((sub M k (Nat.min (k + n) (k + 20))).map toLo) → T.flatten.length + (M.length - k) ≤ NB → T.length + (M.length - k) ≤ NC → am_G X mt_P_splitWords (d + 3) 4 [some (.ref pb), some (.ref a), some (.int (nI n)), some (.int (nI (k + n))), none] [] h (fun r h1 => r = none ∧ ∃ w1, fr w w1 h h1 [i, j] ∧ rE w1 h1 i j a ab (T ++ spl M k) [])
  | 0, k, n, w, h, T, hm, hz, hM, hR, hNB, hNC => by
    have hM0 := hM
    have hR0 := hR
    obtain ⟨b, hb⟩ := hM
    obtain ⟨br, e, x1, x2, x3, x4, x9⟩ := hR
    have hkl := kb_le j
    have hkl2 := kb_le i
    have hx0 := hb.1.tt
    obtain ⟨cap, g, ha, hT, hs, hc⟩ := hx0
    have hml : M.length ≤ 400016 := by obtain ⟨g9, z1, z2, z3, z4, z5, z6⟩ := hb.1; have := hb.2.2.2; have := kb_le q; omega
    have hpl : ((sub M k (Nat.min (k + n) (k + 20))).map toLo).length ≤ n := by rw [List.length_map, sub_len (by have := nmin_bd (k + n) (k + 20); omega)]; have := nmin_bd (k + n) (k + 20); omega
    refine g_iload_n (pc := 4) dc_P_splitWords_4 rfl ?_
    refine g_aload_n (pc := 5) dc_P_splitWords_5 rfl ?_
    refine g_getfield (pc := 6) dc_P_splitWords_6 fl_P_77 hb.1.ha rfl ?_
    refine q_icmp_ge (pc := 9) (tgt := 76) (k + n) M.length dc_P_splitWords_9 (by omega) (by omega) rfl (fun hc9 => ?_) (fun hc => absurd hc (by omega))
    refine g_iload_n (pc := 76) dc_P_splitWords_76 rfl ?_
    refine q_if_le (pc := 77) (tgt := 84) n dc_P_splitWords_77 (by omega) rfl (fun hc77 => ?_) (fun hc77 => ?_)
    · exact g_return dc_P_splitWords_84 rfl (by obtain rfl : n = 0 := (by omega); rw [spl_e (by omega), List.append_nil]; have e9 : ((sub M k (Nat.min (k + 0) (k + 20))).map toLo) = [] := (by rw [sub_nil (by have := nmin_bd (k + 0) (k + 20); omega)]; rfl); rw [e9] at hR0; exact ⟨rfl, w, fr.rf, hR0⟩)
    · refine g_aload_n (pc := 80) dc_P_splitWords_80 rfl ?_
      refine g_v0 (pc := 81) (M' := mt_R_close) dc_P_splitWords_81 mo_R_close im_R_close se_R_close ln_P_134 x1.1 rfl rfl (Nat.le_of_ble_eq_true rfl) (Nat.le_of_ble_eq_true rfl) (am_G.mono (w_R_close (d := d) hi hj hij hR0 (by omega) (by omega)) ?_)
      intro r h1 hy
      obtain ⟨hy1, w1, g3, g4⟩ := hy
      rw [hy1]
      refine ⟨am_nt0, ?_⟩
      exact g_return dc_P_splitWords_84 rfl (by have hkM : k < M.length := (by omega); have hfw : fw wdB M k M.length = k + n := fw_eq (by omega) (by omega) hz (fun h9 => absurd h9 (by omega)); rw [spl_w hkM (hz k (Nat.le_refl _) (by omega)), hfw, spl_e (by omega)]; exact ⟨rfl, w1, g3, g4⟩)
  | m + 1, k, n, w, h, T, hm, hz, hM, hR, hNB, hNC => by
    have hM0 := hM
    have hR0 := hR
    obtain ⟨b, hb⟩ := hM
    obtain ⟨br, e, x1, x2, x3, x4, x9⟩ := hR
    have hkl := kb_le j
    have hkl2 := kb_le i
    have hx0 := hb.1.tt
    obtain ⟨cap, g, ha, hT, hs, hc⟩ := hx0
    have hml : M.length ≤ 400016 := by obtain ⟨g9, z1, z2, z3, z4, z5, z6⟩ := hb.1; have := hb.2.2.2; have := kb_le q; omega
    have hpl : ((sub M k (Nat.min (k + n) (k + 20))).map toLo).length ≤ n := by rw [List.length_map, sub_len (by have := nmin_bd (k + n) (k + 20); omega)]; have := nmin_bd (k + n) (k + 20); omega
    refine g_iload_n (pc := 4) dc_P_splitWords_4 rfl ?_
    refine g_aload_n (pc := 5) dc_P_splitWords_5 rfl ?_
    refine g_getfield (pc := 6) dc_P_splitWords_6 fl_P_77 hb.1.ha rfl ?_
    refine q_icmp_ge (pc := 9) (tgt := 76) (k + n) M.length dc_P_splitWords_9 (by omega) (by omega) rfl (fun hc => absurd hc (by omega)) (fun hc9 => ?_)
    refine g_aload_n (pc := 12) dc_P_splitWords_12 rfl ?_
    refine g_getfield (pc := 13) dc_P_splitWords_13 fl_P_73 hb.1.ha rfl ?_
    refine g_iload_n (pc := 16) dc_P_splitWords_16 rfl ?_
    refine q_tx0 (pc := 17) (k + n) dc_P_splitWords_17 ha hT (by omega) (by omega) (by omega) ?_
    refine g_istore (pc := 18) dc_P_splitWords_18 (by decide) ?_
    show am_G X mt_P_splitWords _ 20 [some (.ref pb), some (.ref a), some (.int (nI n)), some (.int (nI (k + n))), some (.int (gx M (k + n)))] [] _ _
    refine g_iload (pc := 20) dc_P_splitWords_20 rfl ?_
    refine g_s1 (pc := 22) (M' := mt_W_isLetter) dc_P_splitWords_22 mo_W_isLetter st_W_isLetter ln_P_117 (Nat.le_of_ble_eq_true rfl) (Nat.le_of_ble_eq_true rfl) (am_G.mono (c_W_isLetter (v := (gx M (k + n)))) ?_)
    intro r h1 hq
    rw [hq.1, hq.2]
    clear hq h1 r
    refine ⟨am_nti _, ?_⟩
    refine q_ifb_ne (pc := 25) (tgt := 36) dc_P_splitWords_25 rfl (fun hc25 => ?_) (fun hc25 => ?_)
    · refine g_iload_n (pc := 36) dc_P_splitWords_36 rfl ?_
      refine g_bipush (pc := 37) (v := 20) dc_P_splitWords_37 rfl ?_
      refine q_icmp_ge (pc := 39) (tgt := 54) n 20 dc_P_splitWords_39 (by omega) (by omega) rfl (fun hc39 => ?_) (fun hc39 => ?_)
      · refine g_iinc (pc := 54) (v := (nI (n + 1))) dc_P_splitWords_54 rfl (nI_add n 1) (by decide) ?_
        show am_G X mt_P_splitWords _ 57 [some (.ref pb), some (.ref a), some (.int (nI (n + 1))), some (.int (nI (k + n))), some (.int (gx M (k + n)))] [] _ _
        refine g_goto (pc := 57) (tgt := 70) dc_P_splitWords_57 rfl ?_
        refine g_iinc (pc := 70) (v := (nI (k + n + 1))) dc_P_splitWords_70 rfl (nI_add (k + n) 1) (by decide) ?_
        show am_G X mt_P_splitWords _ 73 [some (.ref pb), some (.ref a), some (.int (nI (n + 1))), some (.int (nI (k + n + 1))), some (.int (gx M (k + n)))] [] _ _
        refine g_goto (pc := 73) (tgt := 4) dc_P_splitWords_73 rfl ?_
        have e9 : ((sub M k (Nat.min (k + (n + 1)) (k + 20))).map toLo) = ((sub M k (Nat.min (k + n) (k + 20))).map toLo) := by rw [show Nat.min (k + (n + 1)) (k + 20) = k + 20 from by show min _ _ = _; omega, show Nat.min (k + n) (k + 20) = k + 20 from by show min _ _ = _; omega]
        rw [← e9] at hR0
        refine am_wk (am_le_s (am_le_s (am_le_s (am_le_s (am_le_n am_le_0))))) ?_
        exact l_P_splitWords (NB := NB) (NC := NC) hi hj hij hq hbM hB hC m k (n + 1) w h T (by omega) (fun z h1 h2 => ((by omega : z < k + n ∨ z = k + n)).elim (fun q9 => hz z h1 q9) (fun q9 => by rw [q9]; exact wdB_l hc25)) hM0 hR0 hNB hNC
      · refine g_aload_n (pc := 42) dc_P_splitWords_42 rfl ?_
        refine g_getfield (pc := 43) dc_P_splitWords_43 fl_P_124 x1.1 rfl ?_
        refine g_iload (pc := 46) dc_P_splitWords_46 rfl ?_
        refine g_s1 (pc := 48) (M' := mt_W_lower) dc_P_splitWords_48 mo_W_lower st_W_lower ln_P_127 (Nat.le_of_ble_eq_true rfl) (Nat.le_of_ble_eq_true rfl) (am_G.mono (c_W_lower (v := (gx M (k + n)))) ?_)
        intro r h1 hq
        rw [hq.1, hq.2]
        clear hq h1 r
        refine ⟨am_nti _, ?_⟩
        refine g_v1 (pc := 51) (M' := mt_B_put) dc_P_splitWords_51 mo_B_put im_B_put se_B_put ln_P_131 x1.2.1.ha rfl rfl (Nat.le_of_ble_eq_true rfl) (Nat.le_of_ble_eq_true rfl) (am_G.mono (w_B_put (d := d) hj hR0.by (by rw [List.length_append]; omega)) ?_)
        intro r h1 hy
        obtain ⟨hy1, w1, g3, g4⟩ := hy
        rw [hy1]
        have hR1 := rE_up hR0 (P' := ((sub M k (Nat.min (k + n) (k + 20))).map toLo) ++ [by8 (toLo (gx M (k + n)))]) g3 hij (by rw [← List.append_assoc]; exact g4)
        have hM1 := hM0.fr g3 (fun h9 => hq.2 (List.mem_singleton.mp h9))
        refine ⟨am_nt0, ?_⟩
        refine g_iinc (pc := 54) (v := (nI (n + 1))) dc_P_splitWords_54 rfl (nI_add n 1) (by decide) ?_
        show am_G X mt_P_splitWords _ 57 [some (.ref pb), some (.ref a), some (.int (nI (n + 1))), some (.int (nI (k + n))), some (.int (gx M (k + n)))] [] _ _
        refine g_goto (pc := 57) (tgt := 70) dc_P_splitWords_57 rfl ?_
        refine g_iinc (pc := 70) (v := (nI (k + n + 1))) dc_P_splitWords_70 rfl (nI_add (k + n) 1) (by decide) ?_
        show am_G X mt_P_splitWords _ 73 [some (.ref pb), some (.ref a), some (.int (nI (n + 1))), some (.int (nI (k + n + 1))), some (.int (gx M (k + n)))] [] _ _
        refine g_goto (pc := 73) (tgt := 4) dc_P_splitWords_73 rfl ?_
        have e9 : ((sub M k (Nat.min (k + (n + 1)) (k + 20))).map toLo) = ((sub M k (Nat.min (k + n) (k + 20))).map toLo) ++ [by8 (toLo (gx M (k + n)))] := by rw [show Nat.min (k + (n + 1)) (k + 20) = k + n + 1 from by show min _ _ = _; omega, show Nat.min (k + n) (k + 20) = k + n from by show min _ _ = _; omega, sub_snoc (by omega) (by omega), List.map_append, by8_bt (bt_toLo (hbM _))]; rfl
        rw [← e9] at hR1
        refine am_wk (am_le_s (am_le_s (am_le_s (am_le_s (am_le_n am_le_0))))) ?_
        refine am_G.mono (l_P_splitWords (NB := NB) (NC := NC) hi hj hij hq hbM hB hC m k (n + 1) w1 h1 T (by omega) (fun z h1 h2 => ((by omega : z < k + n ∨ z = k + n)).elim (fun q9 => hz z h1 q9) (fun q9 => by rw [q9]; exact wdB_l hc25)) hM1 hR1 hNB hNC) ?_
        rintro r h2 ⟨y1, w2, y2, y3⟩
        exact ⟨y1, w2, (g3.mo (fun x h9 => List.mem_cons_of_mem _ h9)).tr y2, y3⟩
    · refine g_iload (pc := 28) dc_P_splitWords_28 rfl ?_
      refine g_s1 (pc := 30) (M' := mt_W_isDigit) dc_P_splitWords_30 mo_W_isDigit st_W_isDigit ln_P_121 (Nat.le_of_ble_eq_true rfl) (Nat.le_of_ble_eq_true rfl) (am_G.mono (c_W_isDigit (v := (gx M (k + n)))) ?_)
      intro r h1 hq
      rw [hq.1, hq.2]
      clear hq h1 r
      refine ⟨am_nti _, ?_⟩
      refine q_ifb_eq (pc := 33) (tgt := 60) dc_P_splitWords_33 rfl (fun hc33 => ?_) (fun hc33 => ?_)
      · refine g_iload_n (pc := 60) dc_P_splitWords_60 rfl ?_
        refine q_if_le (pc := 61) (tgt := 70) n dc_P_splitWords_61 (by omega) rfl (fun hc61 => ?_) (fun hc61 => ?_)
        · refine g_iinc (pc := 70) (v := (nI (k + n + 1))) dc_P_splitWords_70 rfl (nI_add (k + n) 1) (by decide) ?_
          show am_G X mt_P_splitWords _ 73 [some (.ref pb), some (.ref a), some (.int (nI n)), some (.int (nI (k + n + 1))), some (.int (gx M (k + n)))] [] _ _
          refine g_goto (pc := 73) (tgt := 4) dc_P_splitWords_73 rfl ?_
          obtain rfl : n = 0 := by omega
          rw [spl_n (show k < M.length by omega) (wdB_n hc25 hc33)]
          have e9 : ((sub M (k + 1) (Nat.min (k + 1 + 0) ((k + 1) + 20))).map toLo) = ((sub M k (Nat.min (k + 0) (k + 20))).map toLo) := by rw [sub_nil (by have := nmin_bd (k + 1 + 0) (k + 1 + 20); omega), sub_nil (by have := nmin_bd (k + 0) (k + 20); omega)]
          rw [← e9] at hR0
          refine am_wk (am_le_s (am_le_s (am_le_s (am_le_s (am_le_n am_le_0))))) ?_
          exact l_P_splitWords (NB := NB) (NC := NC) hi hj hij hq hbM hB hC m (k + 1) 0 w h T (by omega) (fun z h1 h2 => absurd h2 (by omega)) hM0 hR0 (by omega) (by omega)
        · refine g_aload_n (pc := 64) dc_P_splitWords_64 rfl ?_
          refine g_v0 (pc := 65) (M' := mt_R_close) dc_P_splitWords_65 mo_R_close im_R_close se_R_close ln_P_134 x1.1 rfl rfl (Nat.le_of_ble_eq_true rfl) (Nat.le_of_ble_eq_true rfl) (am_G.mono (w_R_close (d := d) hi hj hij hR0 (by omega) (by omega)) ?_)
          intro r h1 hy
          obtain ⟨hy1, w1, g3, g4⟩ := hy
          rw [hy1]
          refine ⟨am_nt0, ?_⟩
          refine g_iconst (pc := 68) (v := 0) dc_P_splitWords_68 rfl ?_
          refine g_istore_n (pc := 69) dc_P_splitWords_69 (by decide) ?_
          show am_G X mt_P_splitWords _ 70 [some (.ref pb), some (.ref a), some (.int 0), some (.int (nI (k + n))), some (.int (gx M (k + n)))] [] _ _
          refine g_iinc (pc := 70) (v := (nI (k + n + 1))) dc_P_splitWords_70 rfl (nI_add (k + n) 1) (by decide) ?_
          show am_G X mt_P_splitWords _ 73 [some (.ref pb), some (.ref a), some (.int 0), some (.int (nI (k + n + 1))), some (.int (gx M (k + n)))] [] _ _
          refine g_goto (pc := 73) (tgt := 4) dc_P_splitWords_73 rfl ?_
          have hkM : k < M.length := by omega
          have hfw : fw wdB M k M.length = k + n := fw_eq (by omega) (by omega) hz (fun h9 => (by cases h8 : wdB (gx M (k + n)) with | true => exact absurd h8 (wdB_n hc25 hc33) | false => rfl))
          rw [spl_w hkM (hz k (Nat.le_refl _) (by omega)), hfw, spl_n (by omega) (wdB_n hc25 hc33)]
          have hM1 := hM0.fr g3 (fun h9 => (List.mem_cons.mp h9).elim (fun z9 => hq.1 z9) (fun z9 => hq.2 (List.mem_singleton.mp z9)))
          have e9 : ((sub M (k + n + 1) (Nat.min (k + n + 1 + 0) ((k + n + 1) + 20))).map toLo) = [] := by rw [sub_nil (by have := nmin_bd (k + n + 1 + 0) (k + n + 1 + 20); omega)]; rfl
          rw [← e9] at g4
          have hlT : (T ++ [((sub M k (Nat.min (k + n) (k + 20))).map toLo)]).flatten.length = T.flatten.length + ((sub M k (Nat.min (k + n) (k + 20))).map toLo).length := by rw [List.flatten_append, List.length_append, List.flatten_cons, List.flatten_nil, List.append_nil]
          refine am_wk (am_le_s (am_le_s (am_le_s (am_le_s (am_le_n am_le_0))))) ?_
          refine am_G.mono (l_P_splitWords (NB := NB) (NC := NC) hi hj hij hq hbM hB hC m (k + n + 1) 0 w1 h1 (T ++ [((sub M k (Nat.min (k + n) (k + 20))).map toLo)]) (by omega) (fun z h1 h2 => absurd h2 (by omega)) hM1 g4 (by rw [hlT]; omega) (by rw [List.length_append]; show _ + 1 + _ ≤ _; omega)) ?_
          rintro r h2 ⟨y1, w2, y2, y3⟩
          rw [List.append_assoc] at y3
          exact ⟨y1, w2, g3.tr y2, y3⟩
      · refine g_iload_n (pc := 36) dc_P_splitWords_36 rfl ?_
        refine g_bipush (pc := 37) (v := 20) dc_P_splitWords_37 rfl ?_
        refine q_icmp_ge (pc := 39) (tgt := 54) n 20 dc_P_splitWords_39 (by omega) (by omega) rfl (fun hc39 => ?_) (fun hc39 => ?_)
        · refine g_iinc (pc := 54) (v := (nI (n + 1))) dc_P_splitWords_54 rfl (nI_add n 1) (by decide) ?_
          show am_G X mt_P_splitWords _ 57 [some (.ref pb), some (.ref a), some (.int (nI (n + 1))), some (.int (nI (k + n))), some (.int (gx M (k + n)))] [] _ _
          refine g_goto (pc := 57) (tgt := 70) dc_P_splitWords_57 rfl ?_
          refine g_iinc (pc := 70) (v := (nI (k + n + 1))) dc_P_splitWords_70 rfl (nI_add (k + n) 1) (by decide) ?_
          show am_G X mt_P_splitWords _ 73 [some (.ref pb), some (.ref a), some (.int (nI (n + 1))), some (.int (nI (k + n + 1))), some (.int (gx M (k + n)))] [] _ _
          refine g_goto (pc := 73) (tgt := 4) dc_P_splitWords_73 rfl ?_
          have e9 : ((sub M k (Nat.min (k + (n + 1)) (k + 20))).map toLo) = ((sub M k (Nat.min (k + n) (k + 20))).map toLo) := by rw [show Nat.min (k + (n + 1)) (k + 20) = k + 20 from by show min _ _ = _; omega, show Nat.min (k + n) (k + 20) = k + 20 from by show min _ _ = _; omega]
          rw [← e9] at hR0
          refine am_wk (am_le_s (am_le_s (am_le_s (am_le_s (am_le_n am_le_0))))) ?_
          exact l_P_splitWords (NB := NB) (NC := NC) hi hj hij hq hbM hB hC m k (n + 1) w h T (by omega) (fun z h1 h2 => ((by omega : z < k + n ∨ z = k + n)).elim (fun q9 => hz z h1 q9) (fun q9 => by rw [q9]; exact wdB_d hc33)) hM0 hR0 hNB hNC
        · refine g_aload_n (pc := 42) dc_P_splitWords_42 rfl ?_
          refine g_getfield (pc := 43) dc_P_splitWords_43 fl_P_124 x1.1 rfl ?_
          refine g_iload (pc := 46) dc_P_splitWords_46 rfl ?_
          refine g_s1 (pc := 48) (M' := mt_W_lower) dc_P_splitWords_48 mo_W_lower st_W_lower ln_P_127 (Nat.le_of_ble_eq_true rfl) (Nat.le_of_ble_eq_true rfl) (am_G.mono (c_W_lower (v := (gx M (k + n)))) ?_)
          intro r h1 hq
          rw [hq.1, hq.2]
          clear hq h1 r
          refine ⟨am_nti _, ?_⟩
          refine g_v1 (pc := 51) (M' := mt_B_put) dc_P_splitWords_51 mo_B_put im_B_put se_B_put ln_P_131 x1.2.1.ha rfl rfl (Nat.le_of_ble_eq_true rfl) (Nat.le_of_ble_eq_true rfl) (am_G.mono (w_B_put (d := d) hj hR0.by (by rw [List.length_append]; omega)) ?_)
          intro r h1 hy
          obtain ⟨hy1, w1, g3, g4⟩ := hy
          rw [hy1]
          have hR1 := rE_up hR0 (P' := ((sub M k (Nat.min (k + n) (k + 20))).map toLo) ++ [by8 (toLo (gx M (k + n)))]) g3 hij (by rw [← List.append_assoc]; exact g4)
          have hM1 := hM0.fr g3 (fun h9 => hq.2 (List.mem_singleton.mp h9))
          refine ⟨am_nt0, ?_⟩
          refine g_iinc (pc := 54) (v := (nI (n + 1))) dc_P_splitWords_54 rfl (nI_add n 1) (by decide) ?_
          show am_G X mt_P_splitWords _ 57 [some (.ref pb), some (.ref a), some (.int (nI (n + 1))), some (.int (nI (k + n))), some (.int (gx M (k + n)))] [] _ _
          refine g_goto (pc := 57) (tgt := 70) dc_P_splitWords_57 rfl ?_
          refine g_iinc (pc := 70) (v := (nI (k + n + 1))) dc_P_splitWords_70 rfl (nI_add (k + n) 1) (by decide) ?_
          show am_G X mt_P_splitWords _ 73 [some (.ref pb), some (.ref a), some (.int (nI (n + 1))), some (.int (nI (k + n + 1))), some (.int (gx M (k + n)))] [] _ _
          refine g_goto (pc := 73) (tgt := 4) dc_P_splitWords_73 rfl ?_
          have e9 : ((sub M k (Nat.min (k + (n + 1)) (k + 20))).map toLo) = ((sub M k (Nat.min (k + n) (k + 20))).map toLo) ++ [by8 (toLo (gx M (k + n)))] := by rw [show Nat.min (k + (n + 1)) (k + 20) = k + n + 1 from by show min _ _ = _; omega, show Nat.min (k + n) (k + 20) = k + n from by show min _ _ = _; omega, sub_snoc (by omega) (by omega), List.map_append, by8_bt (bt_toLo (hbM _))]; rfl
          rw [← e9] at hR1
          refine am_wk (am_le_s (am_le_s (am_le_s (am_le_s (am_le_n am_le_0))))) ?_
          refine am_G.mono (l_P_splitWords (NB := NB) (NC := NC) hi hj hij hq hbM hB hC m k (n + 1) w1 h1 T (by omega) (fun z h1 h2 => ((by omega : z < k + n ∨ z = k + n)).elim (fun q9 => hz z h1 q9) (fun q9 => by rw [q9]; exact wdB_d hc33)) hM1 hR1 hNB hNC) ?_
          rintro r h2 ⟨y1, w2, y2, y3⟩
          exact ⟨y1, w2, (g3.mo (fun x h9 => List.mem_cons_of_mem _ h9)).tr y2, y3⟩
theorem w_P_splitWords {NB NC : Nat} (hi : i < 400) (hj : j < 400) (hij : ¬ i = j) (hq : ¬ q = i ∧ ¬ q = j) (hM : bE w h q pb M) (hR : rE w h i j a ab T []) (hB : 2 * NB + 18 ≤ kb j) (hC : 2 * NC + 18 ≤ kb i) (hNB : T.flatten.length + M.length ≤ NB) (hNC : T.length + M.length ≤ NC) : am_C X mt_P_splitWords (d + 3) [.ref pb, .ref a] h (fun r h1 => r = none ∧ ∃ w1, fr w w1 h h1 [i, j] ∧ rE w1 h1 i j a ab (T ++ spl M 0) []) := by
  show am_G X mt_P_splitWords (d + 3) 0 [some (.ref pb), some (.ref a), none, none, none] [] h _
  have hbM : btg M := by obtain ⟨b, hb⟩ := hM; exact hb.1.ttb.btg
  refine g_iconst (pc := 0) (v := 0) dc_P_splitWords_0 rfl ?_
  refine g_istore_n (pc := 1) dc_P_splitWords_1 (by decide) ?_
  show am_G X mt_P_splitWords _ 2 [some (.ref pb), some (.ref a), some (.int 0), none, none] [] _ _
  refine g_iconst (pc := 2) (v := 0) dc_P_splitWords_2 rfl ?_
  refine g_istore_n (pc := 3) dc_P_splitWords_3 (by decide) ?_
  show am_G X mt_P_splitWords _ 4 [some (.ref pb), some (.ref a), some (.int 0), some (.int 0), none] [] _ _
  have h4 := l_P_splitWords (X := X) (d := d) (NB := NB) (NC := NC) hi hj hij hq hbM hB hC M.length 0 0 w h T (by omega) (fun z h1 h2 => absurd h2 (by omega)) hM hR (by omega) (by omega)
  exact h4
end PDW
