/-! ===== the finder's own methods: lines of the tape, what is produced ===== -/
def wO (w : Gw) (h : List va_E) : Prop := cO w h 0 0 (.inr (0, [.ref 1, .ref 3, .ref 5, .ref 7, .ref 12, .ref 26, .ref 29, .ref 30, .ref 34, .ref 59, .ref 77]))
/-- rows as lines -/
def lnR (T : List (List Int32)) : List Int32 := (T.map (fun x => x ++ [10])).flatten
section E1S
variable {X : am_X} {d i k n : Nat} {D L E : List Int32} {w w0 w1 : Gw} {h h0 h1 : List va_E} {I : List Nat} {T : List (List Int32)} {p : Int32}
theorem wO.fr (z : wO w h) (f : fr w w1 h h1 I) (hi : ¬ 0 ∈ I) : wO w1 h1 := cO.fr z f hi
theorem wN_A_resolve0 {R0 : List Int32} {q c f t : Nat} (hA : aR w h) (hr : bE w h 8 8 R0) (hx : tO w h q c 0 L) (hq : ¬ q = 8 ∧ ¬ q = 10) (hft : f ≤ t) (ht : t ≤ L.length) (hL8 : L.length ≤ 8000) : am_C X mt_A_resolve (d + 7) [.ref 7, .ref c, .int (nI f), .int (nI t), .null] h (fun r h1 => ∃ w1, fr w w1 h h1 [8, 10] ∧ aR w1 h1 ∧ match mrr L f t none with | some E => r = some (.int 1) ∧ bE w1 h1 8 8 E | none => r = some (.int 0) ∧ bE w1 h1 8 8 []) := by
  have h9 := wN_A_resolve (X := X) (d := d) (s := 0) hA hr hx hq hft ht hL8
  rw [Nat.zero_add, Nat.zero_add] at h9
  exact h9
theorem tk_s (hk : k < T.length) : T.take (k + 1) = T.take k ++ [gT T k] := by
  rw [List.take_add_one, List.getElem?_eq_getElem hk]
  unfold gT
  rw [List.getD_eq_getElem?_getD, List.getElem?_eq_getElem hk]
  rfl
theorem lnR_app : lnR (T ++ [D]) = lnR T ++ D ++ [10] := by
  unfold lnR
  rw [List.map_append, List.flatten_append]
  show _ ++ (D ++ [10] ++ []) = _
  rw [List.append_nil, List.append_assoc]
theorem lnR_len : (lnR T).length = T.flatten.length + T.length := by
  unfold lnR
  induction T with
  | nil => rfl
  | cons x T ih =>
    show ((x ++ [10]) ++ (T.map (fun x => x ++ [10])).flatten).length = (x ++ T.flatten).length + (T.length + 1)
    rw [List.length_append, List.length_append, List.length_append, ih]
    show x.length + 1 + _ = _
    omega
theorem c_W_lineTo (hW : wO w h) (hT : bE w h 1 1 L) : am_C X mt_W_lineTo (d + 1) [.ref 0] h (fun r h1 => r = some (.int (nI (fw (nev 10) L 0 L.length))) ∧ h1 = h) := by
  show am_G X mt_W_lineTo (d + 1) 0 [some (.ref 0)] [] h _
  obtain ⟨bt1, q1⟩ := hT
  have hfb := fw_bd (p := nev 10) (L := L) (f := 0) (t := L.length) (by omega)
  refine g_aload_n (pc := 0) dc_W_lineTo_0 rfl ?_
  refine g_getfield (pc := 1) dc_W_lineTo_1 fl_W_12 hW.1 rfl ?_
  refine g_getfield (pc := 4) dc_W_lineTo_4 fl_W_109 q1.1.ha rfl ?_
  refine g_bipush (pc := 7) (v := 10) dc_W_lineTo_7 rfl ?_
  refine g_iconst (pc := 9) (v := 0) dc_W_lineTo_9 rfl ?_
  refine g_aload_n (pc := 10) dc_W_lineTo_10 rfl ?_
  refine g_getfield (pc := 11) dc_W_lineTo_11 fl_W_12 hW.1 rfl ?_
  refine g_getfield (pc := 14) dc_W_lineTo_14 fl_W_85 q1.1.ha rfl ?_
  refine g_s4 (pc := 17) (M' := mt_W_indexOf) dc_W_lineTo_17 mo_W_indexOf st_W_indexOf ln_W_282 (Nat.le_of_ble_eq_true rfl) (Nat.le_of_ble_eq_true rfl) (am_G.mono (t0_W_indexOf (v := 10) (f := 0) (t := L.length) q1.tO.1.tt (Nat.zero_le _) (Nat.le_refl _)) ?_)
  intro r h1 hq
  rw [hq.1, hq.2]
  clear hq h1 r
  refine ⟨am_nti _, ?_⟩
  exact g_ireturn dc_W_lineTo_20 rfl ⟨rfl, rfl⟩
theorem c_W_restFrom (hW : wO w h) (hT : bE w h 1 1 L) (h8 : L.length ≤ 8000) : am_C X mt_W_restFrom (d + 2) [.ref 0] h (fun r h1 => r = some (.int (nI (bhf L))) ∧ h1 = h) := by
  show am_G X mt_W_restFrom (d + 2) 0 [some (.ref 0)] [] h _
  have hT0 := hT
  obtain ⟨bt1, q1⟩ := hT
  have hfb := fw_bd (p := nev 10) (L := L) (f := 0) (t := L.length) (by omega)
  refine g_aload_n (pc := 0) dc_W_restFrom_0 rfl ?_
  refine g_v0 (pc := 1) (M' := mt_W_lineTo) dc_W_restFrom_1 mo_W_lineTo im_W_lineTo se_W_lineTo ln_W_286 hW.1 rfl rfl (Nat.le_of_ble_eq_true rfl) (Nat.le_of_ble_eq_true rfl) (am_G.mono (c_W_lineTo (d := d) hW hT0) ?_)
  intro r h1 hq
  rw [hq.1, hq.2]
  clear hq h1 r
  refine ⟨am_nti _, ?_⟩
  refine g_iconst (pc := 4) (v := 1) dc_W_restFrom_4 rfl ?_
  refine g_iadd (pc := 5) (v := (nI (fw (nev 10) L 0 L.length + 1))) dc_W_restFrom_5 (nI_add (fw (nev 10) L 0 L.length) 1) ?_
  refine g_aload_n (pc := 6) dc_W_restFrom_6 rfl ?_
  refine g_getfield (pc := 7) dc_W_restFrom_7 fl_W_12 hW.1 rfl ?_
  refine g_getfield (pc := 10) dc_W_restFrom_10 fl_W_85 q1.1.ha rfl ?_
  refine g_s2 (pc := 13) (M' := mt_JMath_min) dc_W_restFrom_13 mo_JMath_min st_JMath_min ln_W_187 (Nat.le_of_ble_eq_true rfl) (Nat.le_of_ble_eq_true rfl) (am_G.mono (c_JMath_min (x := fw (nev 10) L 0 L.length + 1) (y := L.length) (by omega) (by omega)) ?_)
  intro r h1 hq
  rw [hq.1, hq.2]
  clear hq h1 r
  refine ⟨am_nti _, ?_⟩
  exact g_ireturn dc_W_restFrom_16 rfl ⟨rfl, rfl⟩
theorem w_W_resolveLine (hW : wO w h) (hT : bE w h 1 1 L) (hA : aR w h) (h8B : eB w h 8 8) (h8 : L.length ≤ 8000) : am_C X mt_W_resolveLine (d + 8) [.ref 0] h (fun r h1 => ∃ w1, fr w w1 h h1 [8, 10] ∧ aR w1 h1 ∧ match fsa L with | some E => r = some (.int 1) ∧ bE w1 h1 8 8 E | none => r = some (.int 0) ∧ bE w1 h1 8 8 []) := by
  show am_G X mt_W_resolveLine (d + 8) 0 [some (.ref 0)] [] h _
  have hT0 := hT
  obtain ⟨bt1, q1⟩ := hT
  have hfb := fw_bd (p := nev 10) (L := L) (f := 0) (t := L.length) (by omega)
  obtain ⟨R0, hR0⟩ := h8B
  refine g_aload_n (pc := 0) dc_W_resolveLine_0 rfl ?_
  refine g_getfield (pc := 1) dc_W_resolveLine_1 fl_W_27 hW.1 rfl ?_
  refine g_aload_n (pc := 4) dc_W_resolveLine_4 rfl ?_
  refine g_getfield (pc := 5) dc_W_resolveLine_5 fl_W_12 hW.1 rfl ?_
  refine g_getfield (pc := 8) dc_W_resolveLine_8 fl_W_109 q1.1.ha rfl ?_
  refine g_iconst (pc := 11) (v := 0) dc_W_resolveLine_11 rfl ?_
  refine g_aload_n (pc := 12) dc_W_resolveLine_12 rfl ?_
  refine g_v0 (pc := 13) (M' := mt_W_lineTo) dc_W_resolveLine_13 mo_W_lineTo im_W_lineTo se_W_lineTo ln_W_286 hW.1 rfl rfl (Nat.le_of_ble_eq_true rfl) (Nat.le_of_ble_eq_true rfl) (am_G.mono (c_W_lineTo (d := d + 6) hW hT0) ?_)
  intro r h1 hq
  rw [hq.1, hq.2]
  clear hq h1 r
  refine ⟨am_nti _, ?_⟩
  refine g_null (pc := 16) dc_W_resolveLine_16 ?_
  refine g_v4 (pc := 17) (M' := mt_A_resolve) dc_W_resolveLine_17 mo_A_resolve im_A_resolve se_A_resolve ln_W_117 hA.1.1 rfl rfl (Nat.le_of_ble_eq_true rfl) (Nat.le_of_ble_eq_true rfl) (am_G.mono (wN_A_resolve0 (d := d) (L := L) (f := 0) (t := fw (nev 10) L 0 L.length) (q := 1) (c := bt1) hA hR0 q1.tO (by decide) (by omega) (by omega) h8) ?_)
  intro r h9 hz
  obtain ⟨w9, z1, z2, z3⟩ := hz
  rw [show mrr L 0 (fw (nev 10) L 0 L.length) none = fsa L from rfl] at z3
  cases hm : fsa L with
  | none =>
    rw [hm] at z3
    rw [z3.1]
    refine ⟨am_nti _, ?_⟩
    exact g_zreturn dc_W_resolveLine_20 rfl rfl ⟨w9, z1, z2, rfl, z3.2⟩
  | some E =>
    rw [hm] at z3
    rw [z3.1]
    refine ⟨am_nti _, ?_⟩
    exact g_zreturn dc_W_resolveLine_20 rfl rfl ⟨w9, z1, z2, rfl, z3.2⟩
theorem w_W_resolveTape (hW : wO w h) (hT : bE w h 1 1 L) (hA : aR w h) (h8B : eB w h 8 8) (h8 : L.length ≤ 8000) : am_C X mt_W_resolveTape (d + 8) [.ref 0] h (fun r h1 => ∃ w1, fr w w1 h h1 [1, 8, 10] ∧ aR w1 h1 ∧ bE w1 h1 1 1 [] ∧ match rfa L with | some E => r = some (.int 1) ∧ bE w1 h1 8 8 E | none => r = some (.int 0) ∧ bE w1 h1 8 8 []) := by
  show am_G X mt_W_resolveTape (d + 8) 0 [some (.ref 0), none] [] h _
  have hT0 := hT
  obtain ⟨bt1, q1⟩ := hT
  have hfb := fw_bd (p := nev 10) (L := L) (f := 0) (t := L.length) (by omega)
  obtain ⟨R0, hR0⟩ := h8B
  refine g_aload_n (pc := 0) dc_W_resolveTape_0 rfl ?_
  refine g_getfield (pc := 1) dc_W_resolveTape_1 fl_W_27 hW.1 rfl ?_
  refine g_aload_n (pc := 4) dc_W_resolveTape_4 rfl ?_
  refine g_getfield (pc := 5) dc_W_resolveTape_5 fl_W_12 hW.1 rfl ?_
  refine g_getfield (pc := 8) dc_W_resolveTape_8 fl_W_109 q1.1.ha rfl ?_
  refine g_iconst (pc := 11) (v := 0) dc_W_resolveTape_11 rfl ?_
  refine g_aload_n (pc := 12) dc_W_resolveTape_12 rfl ?_
  refine g_getfield (pc := 13) dc_W_resolveTape_13 fl_W_12 hW.1 rfl ?_
  refine g_getfield (pc := 16) dc_W_resolveTape_16 fl_W_85 q1.1.ha rfl ?_
  refine g_null (pc := 19) dc_W_resolveTape_19 ?_
  refine g_v4 (pc := 20) (M' := mt_A_resolve) dc_W_resolveTape_20 mo_A_resolve im_A_resolve se_A_resolve ln_W_117 hA.1.1 rfl rfl (Nat.le_of_ble_eq_true rfl) (Nat.le_of_ble_eq_true rfl) (am_G.mono (wN_A_resolve0 (d := d) (L := L) (f := 0) (t := L.length) (q := 1) (c := bt1) hA hR0 q1.tO (by decide) (Nat.zero_le _) (Nat.le_refl _) h8) ?_)
  intro r h9 hz
  obtain ⟨w9, z1, z2, z3⟩ := hz
  rw [show mrr L 0 L.length none = rfa L from rfl] at z3
  cases hm : rfa L with
  | none =>
    rw [hm] at z3
    rw [z3.1]
    refine ⟨am_nti _, ?_⟩
    have hW9 := hW.fr z1 (by decide)
    have hT9 := hT0.fr z1 (by decide)
    obtain ⟨bt9, q9⟩ := hT9
    refine g_istore_n (pc := 23) dc_W_resolveTape_23 (by decide) ?_
    show am_G X mt_W_resolveTape _ 24 [some (.ref 0), some (.int 0)] [] _ _
    refine g_aload_n (pc := 24) dc_W_resolveTape_24 rfl ?_
    refine g_getfield (pc := 25) dc_W_resolveTape_25 fl_W_12 hW9.1 rfl ?_
    refine g_v0 (pc := 28) (M' := mt_B_clear) dc_W_resolveTape_28 mo_B_clear im_B_clear se_B_clear ln_W_121 q9.1.ha rfl rfl (Nat.le_of_ble_eq_true rfl) (Nat.le_of_ble_eq_true rfl) (am_G.mono (w_B_clear (i := 1) (by decide) (bB.e q9)) ?_)
    intro r h10 hz
    obtain ⟨y1, w10, y2, y3⟩ := hz
    rw [y1]
    clear y1 r
    refine ⟨am_nt0, ?_⟩
    refine g_iload_n (pc := 31) dc_W_resolveTape_31 rfl ?_
    exact g_zreturn dc_W_resolveTape_32 rfl rfl ⟨w10, (z1.mo (by decide)).tr (y2.mo (by decide)), z2.fr y2 (by decide) (by decide) (by decide), y3, rfl, z3.2.fr y2 (by decide)⟩
  | some E =>
    rw [hm] at z3
    rw [z3.1]
    refine ⟨am_nti _, ?_⟩
    have hW9 := hW.fr z1 (by decide)
    have hT9 := hT0.fr z1 (by decide)
    obtain ⟨bt9, q9⟩ := hT9
    refine g_istore_n (pc := 23) dc_W_resolveTape_23 (by decide) ?_
    show am_G X mt_W_resolveTape _ 24 [some (.ref 0), some (.int 1)] [] _ _
    refine g_aload_n (pc := 24) dc_W_resolveTape_24 rfl ?_
    refine g_getfield (pc := 25) dc_W_resolveTape_25 fl_W_12 hW9.1 rfl ?_
    refine g_v0 (pc := 28) (M' := mt_B_clear) dc_W_resolveTape_28 mo_B_clear im_B_clear se_B_clear ln_W_121 q9.1.ha rfl rfl (Nat.le_of_ble_eq_true rfl) (Nat.le_of_ble_eq_true rfl) (am_G.mono (w_B_clear (i := 1) (by decide) (bB.e q9)) ?_)
    intro r h10 hz
    obtain ⟨y1, w10, y2, y3⟩ := hz
    rw [y1]
    clear y1 r
    refine ⟨am_nt0, ?_⟩
    refine g_iload_n (pc := 31) dc_W_resolveTape_31 rfl ?_
    exact g_zreturn dc_W_resolveTape_32 rfl rfl ⟨w10, (z1.mo (by decide)).tr (y2.mo (by decide)), z2.fr y2 (by decide) (by decide) (by decide), y3, rfl, z3.2.fr y2 (by decide)⟩
theorem n_W_produceRow {i j a ab : Nat} (hR : rE w h i j a ab T []) (hn : ixo p T.length = none) (hT9 : T.length ≤ 100000) : am_C X mt_W_produceRow (d + 3) [.ref 0, .ref a, .int p] h (fun r h1 => r = some (.int (-1)) ∧ h1 = h) := by
  show am_G X mt_W_produceRow (d + 3) 0 [some (.ref 0), some (.ref a), some (.int p)] [] h _
  obtain ⟨bR, eR, hRr⟩ := hR
  have hout := ixo_n (by omega) hn
  refine g_iload_n (pc := 0) dc_W_produceRow_0 rfl ?_
  refine g_if_lt (pc := 1) (tgt := 12) dc_W_produceRow_1 rfl (fun hc1 => ?_) (fun hc1 => ?_)
  · have hi1 : (p).toInt < (0 : Int) := Int32.lt_iff_toInt_lt.mp hc1
    refine g_iconst (pc := 12) (v := (-1)) dc_W_produceRow_12 rfl ?_
    exact g_ireturn dc_W_produceRow_13 rfl ⟨rfl, rfl⟩
  · have hi1 : ¬ ((p).toInt < (0 : Int)) := fun h9 => hc1 (Int32.lt_iff_toInt_lt.mpr h9)
    refine g_iload_n (pc := 4) dc_W_produceRow_4 rfl ?_
    refine g_aload_n (pc := 5) dc_W_produceRow_5 rfl ?_
    refine g_getfield (pc := 6) dc_W_produceRow_6 fl_W_167 hRr.1.1 rfl ?_
    refine g_icmp_lt (pc := 9) (tgt := 14) dc_W_produceRow_9 rfl (fun hc => absurd hc (fun h8 => absurd (hout.resolve_left hc1) (Int32.not_le.mpr h8))) (fun hc9 => ?_)
    refine g_iconst (pc := 12) (v := (-1)) dc_W_produceRow_12 rfl ?_
    exact g_ireturn dc_W_produceRow_13 rfl ⟨rfl, rfl⟩
theorem c_W_produceRow {i j a ab : Nat} (hW : wO w h) (hP : eB w h 3 3) (hR : rE w h i j a ab T []) (hk : k < T.length) (hT9 : T.length ≤ 100000) (hx : ∀ x, x ∈ T → x.length ≤ 200) (hij : ¬ i = 3 ∧ ¬ j = 3) : am_C X mt_W_produceRow (d + 3) [.ref 0, .ref a, .int (nI k)] h (fun r h1 => r = some (.int (nI (gT T k).length)) ∧ ∃ w1, fr w w1 h h1 [3] ∧ bE w1 h1 3 3 (gT T k)) := by
  show am_G X mt_W_produceRow (d + 3) 0 [some (.ref 0), some (.ref a), some (.int (nI k))] [] h _
  have hR0 := hR
  obtain ⟨bR, eR, hRr⟩ := hR
  have h200 := hx _ (gT_mem hk)
  have hos := ofs_s (T := T) hk
  have hof := hRr.1.of (k := k + 1) (by omega)
  obtain ⟨L0, hP0⟩ := hP
  obtain ⟨bp0, qp0⟩ := hP0
  refine g_iload_n (pc := 0) dc_W_produceRow_0 rfl ?_
  refine q_if_lt (pc := 1) (tgt := 12) k dc_W_produceRow_1 (by omega) rfl ?_
  refine g_iload_n (pc := 4) dc_W_produceRow_4 rfl ?_
  refine g_aload_n (pc := 5) dc_W_produceRow_5 rfl ?_
  refine g_getfield (pc := 6) dc_W_produceRow_6 fl_W_167 hRr.1.1 rfl ?_
  refine q_icmp_lt (pc := 9) (tgt := 14) k T.length dc_W_produceRow_9 (by omega) (by omega) rfl (fun hc9 => ?_) (fun hc => absurd hc (by omega))
  refine g_aload_n (pc := 14) dc_W_produceRow_14 rfl ?_
  refine g_getfield (pc := 15) dc_W_produceRow_15 fl_W_18 hW.1 rfl ?_
  refine g_v0 (pc := 18) (M' := mt_B_clear) dc_W_produceRow_18 mo_B_clear im_B_clear se_B_clear ln_W_121 qp0.1.ha rfl rfl (Nat.le_of_ble_eq_true rfl) (Nat.le_of_ble_eq_true rfl) (am_G.mono (w_B_clear (i := 3) (by decide) (bB.e qp0)) ?_)
  intro r h2 hz
  obtain ⟨y1, w2, y2, y3⟩ := hz
  rw [y1]
  clear y1 r
  have hW2 := hW.fr y2 (by decide)
  have hRq := hRr.fr y2 (fun e => hij.1 (List.mem_singleton.mp e)) (fun e => hij.2 (List.mem_singleton.mp e))
  have y3a := y3
  obtain ⟨bp2, qp2⟩ := y3a
  refine ⟨am_nt0, ?_⟩
  refine g_aload_n (pc := 21) dc_W_produceRow_21 rfl ?_
  refine g_getfield (pc := 22) dc_W_produceRow_22 fl_W_18 hW2.1 rfl ?_
  refine g_aload_n (pc := 25) dc_W_produceRow_25 rfl ?_
  refine g_getfield (pc := 26) dc_W_produceRow_26 fl_W_289 hRq.1.1 rfl ?_
  refine g_getfield (pc := 29) dc_W_produceRow_29 fl_W_109 hRq.1.2.1.ha rfl ?_
  refine g_aload_n (pc := 32) dc_W_produceRow_32 rfl ?_
  refine g_iload_n (pc := 33) dc_W_produceRow_33 rfl ?_
  refine g_v1 (pc := 34) (M' := mt_R_from) dc_W_produceRow_34 mo_R_from im_R_from se_R_from ln_W_292 hRq.1.1 rfl rfl (Nat.le_of_ble_eq_true rfl) (Nat.le_of_ble_eq_true rfl) (am_G.mono (c_R_from (d := d + 2) (i := k) hRq.1 (by omega)) ?_)
  intro r h1 hq
  rw [hq.1, hq.2]
  clear hq h1 r
  refine ⟨am_nti _, ?_⟩
  refine g_aload_n (pc := 37) dc_W_produceRow_37 rfl ?_
  refine g_iload_n (pc := 38) dc_W_produceRow_38 rfl ?_
  refine g_v1 (pc := 39) (M' := mt_R_to) dc_W_produceRow_39 mo_R_to im_R_to se_R_to ln_W_296 hRq.1.1 rfl rfl (Nat.le_of_ble_eq_true rfl) (Nat.le_of_ble_eq_true rfl) (am_G.mono (c_R_to (d := d + 2) (i := k) hRq.1 hk) ?_)
  intro r h9 hq9
  rw [hq9.1, hq9.2, hos]
  clear hq9 h9 r
  refine ⟨am_nti _, ?_⟩
  refine g_v3 (pc := 42) (M' := mt_B_putAll) dc_W_produceRow_42 mo_B_putAll im_B_putAll se_B_putAll ln_W_265 qp2.1.ha rfl rfl (Nat.le_of_ble_eq_true rfl) (Nat.le_of_ble_eq_true rfl) (am_G.mono (w_B_putAll (d := d) (i := 3) (s := ofs T k) (f := 0) (t := (gT T k).length) (by decide) y3 (rR.tO hRq hk) hij.2 (Nat.zero_le _) (Nat.le_refl _) (by show 2 * (0 + _) + 16 ≤ 40016; omega)) ?_)
  intro r h3 hz
  obtain ⟨x1, w3, x2, x3⟩ := hz
  rw [x1]
  clear x1 r
  rw [List.nil_append, show sub (gT T k) 0 (gT T k).length = gT T k from sub_all rfl] at x3
  have hW3 := hW2.fr x2 (by decide)
  have x3a := x3
  obtain ⟨bp3, qp3⟩ := x3a
  refine ⟨am_nt0, ?_⟩
  refine g_aload_n (pc := 45) dc_W_produceRow_45 rfl ?_
  refine g_getfield (pc := 46) dc_W_produceRow_46 fl_W_18 hW3.1 rfl ?_
  refine g_getfield (pc := 49) dc_W_produceRow_49 fl_W_85 qp3.1.ha rfl ?_
  exact g_ireturn dc_W_produceRow_52 rfl ⟨rfl, w3, y2.tr x2, x3⟩
theorem l_W_produceLines {i j a ab : Nat} (h9 : T.flatten.length + T.length ≤ 19000) (hij : ¬ i = 3 ∧ ¬ j = 3) : ∀ (n k : Nat) (w : Gw) (h : List va_E), k + n = T.length → wO w h → bE w h 3 3 (lnR (T.take k)) → rE w h i j a ab T [] → am_G X mt_W_produceLines (d + 3) 9 [some (.ref 0), some (.ref a), some (.int (nI k))] [] h (fun r h1 => r = some (.int (nI T.length)) ∧ ∃ w1, fr w w1 h h1 [3] ∧ bE w1 h1 3 3 (lnR T))
  | 0, k, w, h, e, hW, hP, hR => by
    have hR0 := hR
    obtain ⟨bR, eR, hRr⟩ := hR
    have hP0 := hP
    obtain ⟨bp0, qp0⟩ := hP0
    rw [show T.take k = T from List.take_of_length_le (by omega)] at hP
    refine g_iload_n (pc := 9) dc_W_produceLines_9 rfl ?_
    refine g_aload_n (pc := 10) dc_W_produceLines_10 rfl ?_
    refine g_getfield (pc := 11) dc_W_produceLines_11 fl_W_167 hRr.1.1 rfl ?_
    refine q_icmp_ge (pc := 14) (tgt := 56) k T.length dc_W_produceLines_14 (by omega) (by omega) rfl (fun hc14 => ?_) (fun hc => absurd hc (by omega))
    refine g_aload_n (pc := 56) dc_W_produceLines_56 rfl ?_
    refine g_getfield (pc := 57) dc_W_produceLines_57 fl_W_167 hRr.1.1 rfl ?_
    exact g_ireturn dc_W_produceLines_60 rfl ⟨rfl, w, fr.rf, hP⟩
  | n + 1, k, w, h, e, hW, hP, hR => by
    have hR0 := hR
    obtain ⟨bR, eR, hRr⟩ := hR
    have hP0 := hP
    obtain ⟨bp0, qp0⟩ := hP0
    have hk : k < T.length := by omega
    have hos := ofs_s (T := T) hk
    have hof := hRr.1.of (k := k + 1) (by omega)
    have hlk : (lnR (T.take k)).length + (gT T k).length + 1 ≤ 19000 := by
      have e1 : (lnR (T.take (k + 1))).length ≤ (lnR T).length := by
        rw [lnR_len, lnR_len, List.length_take]
        have e3 := congrArg (fun z : List (List Int32) => z.flatten.length) (List.take_append_drop (k + 1) T)
        rw [List.flatten_append, List.length_append] at e3
        omega
      rw [tk_s hk, lnR_app, List.length_append, List.length_append, lnR_len (T := T)] at e1
      have e2 : ([10] : List Int32).length = 1 := rfl
      omega
    refine g_iload_n (pc := 9) dc_W_produceLines_9 rfl ?_
    refine g_aload_n (pc := 10) dc_W_produceLines_10 rfl ?_
    refine g_getfield (pc := 11) dc_W_produceLines_11 fl_W_167 hRr.1.1 rfl ?_
    refine q_icmp_ge (pc := 14) (tgt := 56) k T.length dc_W_produceLines_14 (by omega) (by omega) rfl (fun hc => absurd hc (by omega)) (fun hc14 => ?_)
    refine g_aload_n (pc := 17) dc_W_produceLines_17 rfl ?_
    refine g_getfield (pc := 18) dc_W_produceLines_18 fl_W_18 hW.1 rfl ?_
    refine g_aload_n (pc := 21) dc_W_produceLines_21 rfl ?_
    refine g_getfield (pc := 22) dc_W_produceLines_22 fl_W_289 hRr.1.1 rfl ?_
    refine g_getfield (pc := 25) dc_W_produceLines_25 fl_W_109 hRr.1.2.1.ha rfl ?_
    refine g_aload_n (pc := 28) dc_W_produceLines_28 rfl ?_
    refine g_iload_n (pc := 29) dc_W_produceLines_29 rfl ?_
    refine g_v1 (pc := 30) (M' := mt_R_from) dc_W_produceLines_30 mo_R_from im_R_from se_R_from ln_W_292 hRr.1.1 rfl rfl (Nat.le_of_ble_eq_true rfl) (Nat.le_of_ble_eq_true rfl) (am_G.mono (c_R_from (d := d + 2) (i := k) hRr.1 (by omega)) ?_)
    intro r h1 hq
    rw [hq.1, hq.2]
    clear hq h1 r
    refine ⟨am_nti _, ?_⟩
    refine g_aload_n (pc := 33) dc_W_produceLines_33 rfl ?_
    refine g_iload_n (pc := 34) dc_W_produceLines_34 rfl ?_
    refine g_v1 (pc := 35) (M' := mt_R_to) dc_W_produceLines_35 mo_R_to im_R_to se_R_to ln_W_296 hRr.1.1 rfl rfl (Nat.le_of_ble_eq_true rfl) (Nat.le_of_ble_eq_true rfl) (am_G.mono (c_R_to (d := d + 2) (i := k) hRr.1 hk) ?_)
    intro r h9 hq9
    rw [hq9.1, hq9.2, hos]
    clear hq9 h9 r
    refine ⟨am_nti _, ?_⟩
    refine g_v3 (pc := 38) (M' := mt_B_putAll) dc_W_produceLines_38 mo_B_putAll im_B_putAll se_B_putAll ln_W_265 qp0.1.ha rfl rfl (Nat.le_of_ble_eq_true rfl) (Nat.le_of_ble_eq_true rfl) (am_G.mono (w_B_putAll (d := d) (i := 3) (s := ofs T k) (f := 0) (t := (gT T k).length) (by decide) hP (rR.tO hRr hk) hij.2 (Nat.zero_le _) (Nat.le_refl _) (by show 2 * (_ + _) + 16 ≤ 40016; omega)) ?_)
    intro r h2 hz
    obtain ⟨x1, w2, x2, x3⟩ := hz
    rw [x1]
    clear x1 r
    rw [show sub (gT T k) 0 (gT T k).length = gT T k from sub_all rfl] at x3
    have hW2 := hW.fr x2 (by decide)
    have x3a := x3
    obtain ⟨bp2, qp2⟩ := x3a
    refine ⟨am_nt0, ?_⟩
    refine g_aload_n (pc := 41) dc_W_produceLines_41 rfl ?_
    refine g_getfield (pc := 42) dc_W_produceLines_42 fl_W_18 hW2.1 rfl ?_
    refine g_bipush (pc := 45) (v := 10) dc_W_produceLines_45 rfl ?_
    refine g_v1 (pc := 47) (M' := mt_B_put) dc_W_produceLines_47 mo_B_put im_B_put se_B_put ln_W_299 qp2.1.ha rfl rfl (Nat.le_of_ble_eq_true rfl) (Nat.le_of_ble_eq_true rfl) (am_G.mono (w_B_put (d := d) (i := 3) (v := 10) (by decide) x3 (by rw [List.length_append]; show 2 * (_ + _) + 18 ≤ 40016; omega)) ?_)
    intro r h3 hz
    obtain ⟨u1, w3, u2, u3⟩ := hz
    rw [u1]
    clear u1 r
    rw [show by8 10 = (10 : Int32) from rfl, ← lnR_app, ← tk_s hk] at u3
    have g3 : fr w w3 h h3 [3] := x2.tr u2
    refine ⟨am_nt0, ?_⟩
    refine g_iinc (pc := 50) (v := (nI (k + 1))) dc_W_produceLines_50 rfl (nI_add k 1) (by decide) ?_
    show am_G X mt_W_produceLines _ 53 [some (.ref 0), some (.ref a), some (.int (nI (k + 1)))] [] _ _
    refine g_goto (pc := 53) (tgt := 9) dc_W_produceLines_53 rfl ?_
    refine am_G.mono (l_W_produceLines h9 hij n (k + 1) w3 h3 (by omega) (hW2.fr u2 (by decide)) u3 (hR0.fr g3 (fun e => hij.1 (List.mem_singleton.mp e)) (fun e => hij.2 (List.mem_singleton.mp e)))) (fun r h4 hz => ?_)
    obtain ⟨y1, w4, y2, y3⟩ := hz
    exact ⟨y1, w4, g3.tr y2, y3⟩
theorem w_W_produceLines {i j a ab : Nat} (h9 : T.flatten.length + T.length ≤ 19000) (hij : ¬ i = 3 ∧ ¬ j = 3) (hW : wO w h) (hP : eB w h 3 3) (hR : rE w h i j a ab T []) : am_C X mt_W_produceLines (d + 3) [.ref 0, .ref a] h (fun r h1 => r = some (.int (nI T.length)) ∧ ∃ w1, fr w w1 h h1 [3] ∧ bE w1 h1 3 3 (lnR T)) := by
  show am_G X mt_W_produceLines (d + 3) 0 [some (.ref 0), some (.ref a), none] [] h _
  obtain ⟨L0, hP0⟩ := hP
  obtain ⟨bp0, qp0⟩ := hP0
  refine g_aload_n (pc := 0) dc_W_produceLines_0 rfl ?_
  refine g_getfield (pc := 1) dc_W_produceLines_1 fl_W_18 hW.1 rfl ?_
  refine g_v0 (pc := 4) (M' := mt_B_clear) dc_W_produceLines_4 mo_B_clear im_B_clear se_B_clear ln_W_121 qp0.1.ha rfl rfl (Nat.le_of_ble_eq_true rfl) (Nat.le_of_ble_eq_true rfl) (am_G.mono (w_B_clear (i := 3) (by decide) (bB.e qp0)) ?_)
  intro r h2 hz
  obtain ⟨y1, w2, y2, y3⟩ := hz
  rw [y1]
  clear y1 r
  have hW2 := hW.fr y2 (by decide)
  refine ⟨am_nt0, ?_⟩
  refine g_iconst (pc := 7) (v := 0) dc_W_produceLines_7 rfl ?_
  refine g_istore_n (pc := 8) dc_W_produceLines_8 (by decide) ?_
  show am_G X mt_W_produceLines _ 9 [some (.ref 0), some (.ref a), some (.int 0)] [] _ _
  refine am_G.mono (l_W_produceLines h9 hij T.length 0 w2 h2 (Nat.zero_add _) hW2 y3 (hR.fr y2 (fun e => hij.1 (List.mem_singleton.mp e)) (fun e => hij.2 (List.mem_singleton.mp e)))) (fun r h4 hz => ?_)
  obtain ⟨x1, w4, x2, x3⟩ := hz
  exact ⟨x1, w4, y2.tr x2, x3⟩
end E1S
