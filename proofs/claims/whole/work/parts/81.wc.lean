/-! ===== contracts of bytes, rows, address reader with owners ===== -/
theorem kb_ge (i : Nat) : 20016 ≤ kb i := by
  unfold kb
  repeat' split
  all_goals omega
section RW9
variable {X : am_X} {d a ab b cap e ecap i k c s f t : Nat} {h : List va_E} {T : List (List Int32)} {P L : List Int32} {gE : Nat → Int32}
theorem c_R_cut9 (hR : isR h a ab b cap e ecap T P) (hk : k ≤ T.length) : am_C X mt_R_cut (d + 1) [.ref a, .int (nI k)] h (fun r h1 => r = none ∧ toR9 h h1 a ab b cap e ecap (T.take k) []) := by
  have hn := hR.ne
  have hof := hR.of hk
  have hR0 := hR
  obtain ⟨ha, hB, gE, he, hE, hl, hec⟩ := hR
  have hkl := tk_len (T := T) hk
  have hR1 : isR (h.set a (.inr (4, [.ref ab, .ref e, .int (nI k)]))) a ab b cap e ecap (T.take k) ((T.drop k).flatten ++ P) := by
    refine ⟨by rw [hkl]; exact am_se (am_lt ha), ?_, gE, am_sn hn.2.2.1 he, fun j hj => ?_, by omega, hec⟩
    · rw [tk_flat]
      exact hB.eq (List.getElem?_set_ne hn.1) (List.getElem?_set_ne hn.2.1)
    · rw [tk_ofs (by omega)]
      exact hE j (by omega)
  show am_G X mt_R_cut (d + 1) 0 [some (.ref a), some (.int (nI k))] [] h _
  refine g_iload_n (pc := 0) dc_R_cut_0 rfl ?_
  refine g_aload_n (pc := 1) dc_R_cut_1 rfl ?_
  refine g_getfield (pc := 2) dc_R_cut_2 fl_R_27 ha rfl ?_
  refine q_icmp_gt (pc := 5) (tgt := 25) k T.length dc_R_cut_5 (by omega) (by omega) rfl (fun hc => absurd hc (by omega)) (fun hc5 => ?_)
  refine g_aload_n (pc := 8) dc_R_cut_8 rfl ?_
  refine g_iload_n (pc := 9) dc_R_cut_9 rfl ?_
  refine g_putfield (pc := 10) dc_R_cut_10 fp_R_cut_27 ha (Nat.le_of_ble_eq_true rfl) rfl rfl ?_
  refine g_aload_n (pc := 13) dc_R_cut_13 rfl ?_
  refine g_getfield (pc := 14) dc_R_cut_14 fl_R_14 hR1.1 rfl ?_
  refine g_aload_n (pc := 17) dc_R_cut_17 rfl ?_
  refine g_iload_n (pc := 18) dc_R_cut_18 rfl ?_
  refine g_v1 (pc := 19) (M' := mt_R_from) dc_R_cut_19 mo_R_from im_R_from se_R_from ln_R_31 (am_se (am_lt ha)) rfl rfl (Nat.le_of_ble_eq_true rfl) (Nat.le_of_ble_eq_true rfl) (am_G.mono (c_R_from (d := d) (i := k) hR1 (by omega)) ?_)
  intro r h1 hq
  rw [hq.1, hq.2]
  clear hq h1 r
  refine ⟨am_nti _, ?_⟩
  rw [tk_ofs (Nat.le_refl k)]
  refine g_putfield (pc := 22) dc_R_cut_22 fp_R_cut_35 (am_sn hn.1 hB.ha) (Nat.le_of_ble_eq_true rfl) rfl rfl ?_
  refine g_return dc_R_cut_25 rfl ⟨rfl, ?_⟩
  have hfl : (T.take k).flatten.length = ofs T k := by rw [flat_len, hkl, tk_ofs (Nat.le_refl k)]
  have hB1 := hR1.2.1.cut
  rw [hfl] at hB1
  refine ⟨b, cap, e, ecap, ⟨?_, ?_, gE, am_sn hn.2.2.2.2.1 (am_sn hn.2.2.1 he), fun j hj => ?_, by omega, hec⟩, ⟨⟨by rw [List.length_set, List.length_set]; exact Nat.le_refl _, fun j j0 j1 j2 j3 j4 => ?_⟩, Or.inl rfl, Or.inl rfl, ?_, ?_⟩, by omega, by omega, id⟩
  · rw [hkl]
    exact am_sn (Ne.symm hn.1) (am_se (am_lt ha))
  · rw [List.append_nil]
    exact hB1
  · rw [tk_ofs (by omega)]
    exact hE j (by omega)
  · rw [List.getElem?_set_ne (Ne.symm j2), List.getElem?_set_ne (Ne.symm j1)]
  · have h9 := cut_sl (v1 := .ref ab) (v2 := .ref e) (v3 := .int (nI k)) (v4 := .ref b) (v5 := .int (nI (ofs T k))) ha rfl hB.ha rfl hn.1
    exact Nat.le_of_eq (congrArg (fun z => z + 2 * cap + 2 * ecap) h9)
  · rw [List.length_set, List.length_set]; exact Nat.le_refl _
theorem c_R_clear9 (hR : isR h a ab b cap e ecap T P) : am_C X mt_R_clear (d + 2) [.ref a] h (fun r h1 => r = none ∧ toR9 h h1 a ab b cap e ecap [] []) := by
  show am_G X mt_R_clear (d + 2) 0 [some (.ref a)] [] h _
  refine g_aload_n (pc := 0) dc_R_clear_0 rfl ?_
  refine g_iconst (pc := 1) (v := 0) dc_R_clear_1 rfl ?_
  refine g_v1 (pc := 2) (M' := mt_R_cut) dc_R_clear_2 mo_R_cut im_R_cut se_R_cut ln_R_24 hR.1 rfl rfl (Nat.le_of_ble_eq_true rfl) (Nat.le_of_ble_eq_true rfl) (am_G.mono (c_R_cut9 (d := d) (k := 0) hR (Nat.zero_le _)) ?_)
  intro r h1 hq
  obtain ⟨rfl, hq⟩ := hq
  refine ⟨am_nt0, ?_⟩
  exact g_return dc_R_clear_5 rfl ⟨rfl, hq⟩
theorem toR9_c {h1 : List va_E} (x : toR h h1 a ab b cap e ecap (T ++ [P]) []) : toR9 h h1 a ab b cap e ecap (T ++ [P]) [] := by
  obtain ⟨b1, cap1, e1, ecap1, y1, y2, y3, y4⟩ := x
  refine ⟨b1, cap1, e1, ecap1, y1, y2, y3, y4, fun _ => ?_⟩
  obtain ⟨-, -, gE, -, -, hl, -⟩ := y1
  rw [List.length_append] at hl
  have h2 : ([P] : List (List Int32)).length = 1 := rfl
  omega
end RW9
section WCO
variable {X : am_X} {d i j a a2 ab c s f t k q bb : Nat} {w : Gw} {h : List va_E} {L M R0 P0 D P : List Int32} {T : List (List Int32)} {v : Int32}
theorem w_B_clear (hi : i < 400) (hB : bE w h i a L) : am_C X mt_B_clear d [.ref a] h (fun r h1 => r = none ∧ ∃ w1, fr w w1 h h1 [i] ∧ bE w1 h1 i a []) := by
  obtain ⟨b, x1, x2, x3, x4⟩ := hB
  have := kb_ge i
  exact am_G.mono (c_B_clear x1) (fun r h1 hq => ⟨hq.1, toB.wo hi x1.pos x2 x3 x4 hq.2 (by show 2 * 0 + 16 ≤ _; omega)⟩)
theorem w_B_put (hi : i < 400) (hB : bE w h i a L) (hl : 2 * L.length + 18 ≤ kb i) : am_C X mt_B_put (d + 2) [.ref a, .int v] h (fun r h1 => r = none ∧ ∃ w1, fr w w1 h h1 [i] ∧ bE w1 h1 i a (L ++ [by8 v])) := by
  obtain ⟨b, x1, x2, x3, x4⟩ := hB
  have := kb_le i
  exact am_G.mono (c_B_put x1 (by omega)) (fun r h1 hq => ⟨hq.1, toB.wo hi x1.pos x2 x3 x4 hq.2 (by rw [List.length_append]; show 2 * (_ + 1) + 16 ≤ _; omega)⟩)
theorem w_B_putInt (hi : i < 400) (hB : bE w h i a L) (hl : 2 * L.length + 24 ≤ kb i) : am_C X mt_B_putInt (d + 3) [.ref a, .int v] h (fun r h1 => r = none ∧ ∃ w1, fr w w1 h h1 [i] ∧ bE w1 h1 i a (L ++ by4 v)) := by
  obtain ⟨b, x1, x2, x3, x4⟩ := hB
  have := kb_le i
  exact am_G.mono (c_B_putInt x1 (by omega)) (fun r h1 hq => ⟨hq.1, toB.wo hi x1.pos x2 x3 x4 hq.2 (by rw [List.length_append]; show 2 * (_ + 4) + 16 ≤ _; omega)⟩)
theorem w_B_putAll (hi : i < 400) (hB : bE w h i a L) (hx : tO w h j c s M) (hij : ¬ j = i) (hft : f ≤ t) (ht : t ≤ M.length) (hl : 2 * (L.length + (t - f)) + 16 ≤ kb i) : am_C X mt_B_putAll (d + 2) [.ref a, .ref c, .int (nI (s + f)), .int (nI (s + t))] h (fun r h1 => r = none ∧ ∃ w1, fr w w1 h h1 [i] ∧ bE w1 h1 i a (L ++ sub M f t)) := by
  obtain ⟨b, x1, x2, x3, x4⟩ := hB
  have := kb_le i
  exact am_G.mono (x_B_putAll x1 hx.1 (fun e => hij (by rw [← hx.2, ← e]; exact x3)) hft ht (by omega)) (fun r h1 hq => ⟨hq.1, toB.wo hi x1.pos x2 x3 x4 hq.2 (by rw [List.length_append, sub_len ht]; exact hl)⟩)
theorem w_B_become (hi : i < 400) (hB : bE w h i a L) (hM : bE w h j a2 M) (hij : ¬ j = i) (hl : 2 * M.length + 16 ≤ kb i) : am_C X mt_B_become (d + 3) [.ref a, .ref a2] h (fun r h1 => r = none ∧ ∃ w1, fr w w1 h h1 [i] ∧ bE w1 h1 i a M) := by
  obtain ⟨b, x1, x2, x3, x4⟩ := hB
  obtain ⟨b2, y1, y2, y3, y4⟩ := hM
  have := kb_le i
  exact am_G.mono (c_B_become x1 y1 (fun e => hij (by rw [← y2, ← e]; exact x2)) (fun e => hij (by rw [← y3, ← e]; exact x3)) (by omega)) (fun r h1 hq => ⟨hq.1, toB.wo hi x1.pos x2 x3 x4 hq.2 hl⟩)
theorem w_R_close (hi : i < 400) (hj : j < 400) (hij : ¬ i = j) (hR : rE w h i j a ab T P) (hl : 2 * (T.flatten.length + P.length) + 16 ≤ kb j) (hl2 : 2 * T.length + 18 ≤ kb i) : am_C X mt_R_close (d + 2) [.ref a] h (fun r h1 => r = none ∧ ∃ w1, fr w w1 h h1 [i, j] ∧ rE w1 h1 i j a ab (T ++ [P]) []) := by
  obtain ⟨b, e, x1, x2, x3, x4, x9⟩ := hR
  have := kb_le i
  exact am_G.mono (c_R_close x1 (by omega)) (fun r h1 hq => ⟨hq.1, toR.wo x9 x1.2.1.pos (am_lt x1.1) hi hj hij x2 x3 x4 (toR9_c hq.2) (by rw [List.append_nil, List.flatten_append, List.length_append, List.flatten_cons, List.flatten_nil, List.append_nil]; exact hl) (by rw [List.length_append]; show 2 * (_ + 1) + 16 ≤ _; omega)⟩)
theorem ofs_fl {T : List (List Int32)} {k : Nat} : (T.take k).flatten.length ≤ T.flatten.length := by
  have := congrArg List.length (congrArg List.flatten (List.take_append_drop k T))
  rw [List.flatten_append, List.length_append] at this
  omega
theorem w_R_cut (hi : i < 400) (hj : j < 400) (hij : ¬ i = j) (hR : rE w h i j a ab T P) (hk : k ≤ T.length) (hl : 2 * T.flatten.length + 16 ≤ kb j) (hl2 : 2 * T.length + 16 ≤ kb i) : am_C X mt_R_cut (d + 1) [.ref a, .int (nI k)] h (fun r h1 => r = none ∧ ∃ w1, fr w w1 h h1 [i, j] ∧ rE w1 h1 i j a ab (T.take k) []) := by
  obtain ⟨b, e, x1, x2, x3, x4, x9⟩ := hR
  have hfl := ofs_fl (T := T) (k := k)
  exact am_G.mono (c_R_cut9 x1 hk) (fun r h1 hq => ⟨hq.1, toR.wo x9 x1.2.1.pos (am_lt x1.1) hi hj hij x2 x3 x4 hq.2 (by rw [List.append_nil]; omega) (by rw [List.length_take]; omega)⟩)
theorem w_R_clear (hi : i < 400) (hj : j < 400) (hij : ¬ i = j) (hR : rE w h i j a ab T P) : am_C X mt_R_clear (d + 2) [.ref a] h (fun r h1 => r = none ∧ ∃ w1, fr w w1 h h1 [i, j] ∧ rE w1 h1 i j a ab [] []) := by
  obtain ⟨b, e, x1, x2, x3, x4, x9⟩ := hR
  have k1 := kb_ge i
  have k2 := kb_ge j
  exact am_G.mono (c_R_clear9 x1) (fun r h1 hq => ⟨hq.1, toR.wo x9 x1.2.1.pos (am_lt x1.1) hi hj hij x2 x3 x4 hq.2 (by show 2 * 0 + 16 ≤ _; omega) (by show 2 * 0 + 16 ≤ _; omega)⟩)
theorem w_R_numberOf (hR : rE w h i j a ab T P) (hx : tO w h q c s M) (hft : f ≤ t) (ht : t ≤ M.length) : am_C X mt_R_numberOf (d + 2) [.ref a, .ref c, .int (nI (s + f)), .int (nI (s + t))] h (fun r h1 => r = some (.int (er (nbr T (sub M f t)))) ∧ h1 = h) := by
  obtain ⟨b, e, x1, x2, x3, x4, x9⟩ := hR
  exact c_R_numberOf x1 hx.1.tt hft ht
/-- the address reader's two rows -/
def aR (w : Gw) (h : List va_E) : Prop := cO w h 7 7 (.inr (2, [.ref 8, .ref 10])) ∧ (∃ P, bE w h 10 10 P) ∧ 512 ≤ w.2 8
theorem wD_A_resolve (hA : aR w h) (hr : bE w h 8 8 R0) (hb : bE w h j bb D) (hj : ¬ j = 8 ∧ ¬ j = 10) (ho : okD D) (hx : tO w h q c s L) (hq : ¬ q = 8 ∧ ¬ q = 10) (hft : f ≤ t) (ht : t ≤ L.length) (hL8 : L.length ≤ 8000) : am_C X mt_A_resolve (d + 7) [.ref 7, .ref c, .int (nI (s + f)), .int (nI (s + t)), .ref bb] h (fun r h1 => ∃ w1, fr w w1 h h1 [8, 10] ∧ aR w1 h1 ∧ match mrr L f t (some D) with | some E => r = some (.int 1) ∧ bE w1 h1 8 8 E | none => r = some (.int 0) ∧ bE w1 h1 8 8 []) := by
  obtain ⟨a1, ⟨P0, bp, p1, p2, p3, p4⟩, a9⟩ := hA
  obtain ⟨br, r1, r2, r3, r4⟩ := hr
  obtain ⟨bbb, b1, b2, b3, b4⟩ := hb
  have ne : ∀ {x y : Nat}, ¬ w.1 x = w.1 y → x ≠ y := fun h9 e => h9 (by rw [e])
  have hc := am_G.mono (cD_A_resolve (X := X) (d := d) (a := 7) (r := 8) (p := 10) (f0 := f) (t0 := t) a1.1 r1 p1 (by decide) b1 (ne (by rw [b2, r2]; exact hj.1)) (ne (by rw [b2, p2]; exact hj.2)) (ne (by rw [b3, r3]; exact hj.1)) (ne (by rw [b3, p3]; exact hj.2)) (by have := ho.2.1; have := ho.2.2.1; omega) ho.2.2.2.2.1 ⟨by have := ho.2.1; omega, by have := ho.2.2.2.1; omega⟩ (ne (by rw [r3, p3]; decide)) hx.1 (ne (by rw [hx.2, r3]; exact hq.1)) (ne (by rw [hx.2, p3]; exact hq.2)) hft ht hL8) (fun r h1 hz => hz)
  refine am_G.mono hc (fun r h1 hz => ?_)
  obtain ⟨P9, hP, hz⟩ := hz
  rw [crr_eq (fun D1 h9 => by cases h9; exact ho) hft ht] at hz
  have key : ∀ R, A2 h h1 8 br (w.2 8) 10 bp (w.2 10) R P9 → ∃ w1, fr w w1 h h1 [8, 10] ∧ aR w1 h1 ∧ bE w1 h1 8 8 R := fun R hy => by
    obtain ⟨w1, f1, ⟨f2, f4⟩, f3⟩ := A2.wo (w := w) (i := 8) (j := 10) r1.pos p1.pos (by decide) (by decide) (by decide) (by decide) (by decide) (am_lt r1.ha) (am_lt p1.ha) ⟨r2, r3, p2, p3⟩ r4 p4 hy
    exact ⟨w1, f1, ⟨a1.fr f1 (by decide), ⟨P9, f3⟩, Nat.le_trans a9 f4⟩, f2⟩
  cases hm : mrr L f t (some D) with
  | none =>
    rw [hm] at hz
    obtain ⟨w1, f1, f2, f3⟩ := key [] hz.2
    exact ⟨w1, f1, f2, hz.1, f3⟩
  | some E =>
    rw [hm] at hz
    obtain ⟨w1, f1, f2, f3⟩ := key E hz.2
    exact ⟨w1, f1, f2, hz.1, f3⟩
theorem wE_A_resolve (hA : aR w h) (hr : bE w h 8 8 R0) (hb : bE w h j bb []) (hj : ¬ j = 8 ∧ ¬ j = 10) (hx : tO w h q c s L) (hq : ¬ q = 8 ∧ ¬ q = 10) (hft : f ≤ t) (ht : t ≤ L.length) (hL8 : L.length ≤ 8000) : am_C X mt_A_resolve (d + 7) [.ref 7, .ref c, .int (nI (s + f)), .int (nI (s + t)), .ref bb] h (fun r h1 => ∃ w1, fr w w1 h h1 [8, 10] ∧ aR w1 h1 ∧ match mrr L f t none with | some E => r = some (.int 1) ∧ bE w1 h1 8 8 E | none => r = some (.int 0) ∧ bE w1 h1 8 8 []) := by
  obtain ⟨a1, ⟨P0, bp, p1, p2, p3, p4⟩, a9⟩ := hA
  obtain ⟨br, r1, r2, r3, r4⟩ := hr
  obtain ⟨bbb, b1, b2, b3, b4⟩ := hb
  have ne : ∀ {x y : Nat}, ¬ w.1 x = w.1 y → x ≠ y := fun h9 e => h9 (by rw [e])
  refine am_G.mono (cE_A_resolve (X := X) (d := d) (a := 7) (r := 8) (p := 10) (f0 := f) (t0 := t) a1.1 r1 p1 (by decide) b1 (ne (by rw [b2, r2]; exact hj.1)) (ne (by rw [b2, p2]; exact hj.2)) (ne (by rw [r3, p3]; decide)) hx.1 (ne (by rw [hx.2, r3]; exact hq.1)) (ne (by rw [hx.2, p3]; exact hq.2)) hft ht hL8) (fun r h1 hz => ?_)
  obtain ⟨P9, hP, hz⟩ := hz
  rw [crr_eq (fun D1 h9 => by cases h9) hft ht] at hz
  have key : ∀ R, A2 h h1 8 br (w.2 8) 10 bp (w.2 10) R P9 → ∃ w1, fr w w1 h h1 [8, 10] ∧ aR w1 h1 ∧ bE w1 h1 8 8 R := fun R hy => by
    obtain ⟨w1, f1, ⟨f2, f4⟩, f3⟩ := A2.wo (w := w) (i := 8) (j := 10) r1.pos p1.pos (by decide) (by decide) (by decide) (by decide) (by decide) (am_lt r1.ha) (am_lt p1.ha) ⟨r2, r3, p2, p3⟩ r4 p4 hy
    exact ⟨w1, f1, ⟨a1.fr f1 (by decide), ⟨P9, f3⟩, Nat.le_trans a9 f4⟩, f2⟩
  cases hm : mrr L f t none with
  | none =>
    rw [hm] at hz
    obtain ⟨w1, f1, f2, f3⟩ := key [] hz.2
    exact ⟨w1, f1, f2, hz.1, f3⟩
  | some E =>
    rw [hm] at hz
    obtain ⟨w1, f1, f2, f3⟩ := key E hz.2
    exact ⟨w1, f1, f2, hz.1, f3⟩
theorem wN_A_resolve (hA : aR w h) (hr : bE w h 8 8 R0) (hx : tO w h q c s L) (hq : ¬ q = 8 ∧ ¬ q = 10) (hft : f ≤ t) (ht : t ≤ L.length) (hL8 : L.length ≤ 8000) : am_C X mt_A_resolve (d + 7) [.ref 7, .ref c, .int (nI (s + f)), .int (nI (s + t)), .null] h (fun r h1 => ∃ w1, fr w w1 h h1 [8, 10] ∧ aR w1 h1 ∧ match mrr L f t none with | some E => r = some (.int 1) ∧ bE w1 h1 8 8 E | none => r = some (.int 0) ∧ bE w1 h1 8 8 []) := by
  obtain ⟨a1, ⟨P0, bp, p1, p2, p3, p4⟩, a9⟩ := hA
  obtain ⟨br, r1, r2, r3, r4⟩ := hr
  have ne : ∀ {x y : Nat}, ¬ w.1 x = w.1 y → x ≠ y := fun h9 e => h9 (by rw [e])
  refine am_G.mono (cN_A_resolve (X := X) (d := d) (a := 7) (r := 8) (p := 10) (f0 := f) (t0 := t) a1.1 r1 p1 (by decide) (ne (by rw [r3, p3]; decide)) hx.1 (ne (by rw [hx.2, r3]; exact hq.1)) (ne (by rw [hx.2, p3]; exact hq.2)) hft ht hL8) (fun r h1 hz => ?_)
  obtain ⟨P9, hP, hz⟩ := hz
  rw [crr_eq (fun D1 h9 => by cases h9) hft ht] at hz
  have key : ∀ R, A2 h h1 8 br (w.2 8) 10 bp (w.2 10) R P9 → ∃ w1, fr w w1 h h1 [8, 10] ∧ aR w1 h1 ∧ bE w1 h1 8 8 R := fun R hy => by
    obtain ⟨w1, f1, ⟨f2, f4⟩, f3⟩ := A2.wo (w := w) (i := 8) (j := 10) r1.pos p1.pos (by decide) (by decide) (by decide) (by decide) (by decide) (am_lt r1.ha) (am_lt p1.ha) ⟨r2, r3, p2, p3⟩ r4 p4 hy
    exact ⟨w1, f1, ⟨a1.fr f1 (by decide), ⟨P9, f3⟩, Nat.le_trans a9 f4⟩, f2⟩
  cases hm : mrr L f t none with
  | none =>
    rw [hm] at hz
    obtain ⟨w1, f1, f2, f3⟩ := key [] hz.2
    exact ⟨w1, f1, f2, hz.1, f3⟩
  | some E =>
    rw [hm] at hz
    obtain ⟨w1, f1, f2, f3⟩ := key E hz.2
    exact ⟨w1, f1, f2, hz.1, f3⟩
end WCO
