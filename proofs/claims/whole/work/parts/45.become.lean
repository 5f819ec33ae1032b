/-! ===== become, putInt ===== -/
theorem isB.ha {h : List va_E} {a b cap : Nat} {L : List Int32} (x : isB h a b cap L) : h[a]? = some (.inr (1, [.ref b, .int (nI L.length)])) := by
  obtain ⟨g, h1, -⟩ := x
  exact h1
theorem toB.step {h h1 h2 : List va_E} {a b cap b1 cap1 : Nat} {L1 L2 : List Int32} (p : chB h h1 a b cap b1 cap1) (m : cap1 ≤ max cap (2 * L1.length + 16)) (hl : L1.length ≤ L2.length) (y : toB h1 h2 a b1 cap1 L2) : toB h h2 a b cap L2 := by
  obtain ⟨b2, cap2, p2, c2, m2⟩ := y
  exact ⟨b2, cap2, p2, p.trans c2, by omega⟩
/-- what stands elsewhere stays -/
theorem toB.keep {h h1 : List va_E} {a b cap q : Nat} {L : List Int32} {e : va_E} (x : toB h h1 a b cap L) (hq : h[q]? = some e) (ha : q ≠ a) (hb : q ≠ b) : h1[q]? = some e := by
  obtain ⟨b1, cap1, -, c, -⟩ := x
  rw [c.1.2 q (am_lt hq) ha hb]
  exact hq
def by4 (v : Int32) : List Int32 := [by8 (v >>> 24), by8 (v >>> 16), by8 (v >>> 8), by8 v]
section AMS2
variable {X : am_X} {d : Nat} {h : List va_E} {a b c cap cc n t fr k a2 b2 cap2 : Nat} {f g : Nat → Int32} {v : Int32} {L L2 : List Int32}
theorem c_B_putAllT (hB : isB h a b cap L) (hcc : h[c]? = some (.inl (0, cc, .inl f))) (hbf : ∀ j, bt (f j)) (hbc : b ≠ c) (h4 : fr + k ≤ cc) (h6 : cc ≤ 33554432) (hbig : L.length + k < 8388608) (ht : t = fr + k) :
    am_C X mt_B_putAll (d + 2) [.ref a, .ref c, .int (nI fr), .int (nI t)] h (fun r h1 => r = none ∧ toB h h1 a b cap (L ++ sl f fr k)) := by
  subst ht
  exact c_B_putAll hB hcc hbf hbc h4 h6 hbig
theorem c_B_become (hB : isB h a b cap L) (hB2 : isB h a2 b2 cap2 L2) (haa : a ≠ a2) (hbb : b ≠ b2) (hbig : L2.length < 8388608) :
    am_C X mt_B_become (d + 3) [.ref a, .ref a2] h (fun r h1 => r = none ∧ toB h h1 a b cap L2) := by
  obtain ⟨g, ha, hb, hL, hn, hc, hg⟩ := hB
  obtain ⟨f, ha2, hb2, hL2, hn2, hc2, hf⟩ := hB2
  have hab2 : a ≠ b2 := fun e => by rw [e, hb2] at ha; cases ha
  have x0 : toB h (h.set a (.inr (1, [.ref b, .int (nI 0)]))) a b cap [] := by
    have e9 := mk_to (n' := 0) (L' := []) ha hb hc hg rfl rfl (Nat.zero_le _)
    rw [am_same hb] at e9
    exact e9
  have p0 : isB (h.set a (.inr (1, [.ref b, .int (nI 0)]))) a b cap [] := ⟨g, am_se (am_lt ha), am_sn (fun e => by rw [e, hb] at ha; cases ha) hb, rfl, Nat.zero_le _, hc, hg⟩
  show am_G X mt_B_become (d + 3) 0 [some (.ref a), some (.ref a2)] [] h _
  refine g_aload_n (pc := 0) dc_B_become_0 rfl ?_
  refine g_iconst (pc := 1) (v := 0) dc_B_become_1 rfl ?_
  refine g_putfield (pc := 2) dc_B_become_2 fp_B_become_15 ha (Nat.le_of_ble_eq_true rfl) rfl rfl ?_
  show am_G X mt_B_become (d + 3) 5 _ _ (h.set a (.inr (1, [.ref b, .int (nI 0)]))) _
  refine g_aload_n (pc := 5) dc_B_become_5 rfl ?_
  refine g_aload_n (pc := 6) dc_B_become_6 rfl ?_
  refine g_getfield (pc := 7) dc_B_become_7 fl_B_9 (am_sn haa ha2) rfl ?_
  refine g_iconst (pc := 10) (v := 0) dc_B_become_10 rfl ?_
  refine g_aload_n (pc := 11) dc_B_become_11 rfl ?_
  refine g_getfield (pc := 12) dc_B_become_12 fl_B_15 (am_sn haa ha2) rfl ?_
  refine g_v3 (pc := 15) (M' := mt_B_putAll) dc_B_become_15 mo_B_putAll im_B_putAll se_B_putAll ln_B_19 p0.ha rfl rfl (Nat.le_of_ble_eq_true rfl) (Nat.le_of_ble_eq_true rfl) (am_G.mono (c_B_putAllT (d := d) (fr := 0) (k := L2.length) (f := f) p0 (am_sn hab2 hb2) hf hbb (by omega) hc2.2 (by show 0 + L2.length < _; omega) (by omega)) ?_)
  intro r h1 hq
  obtain ⟨rfl, x1⟩ := hq
  refine ⟨am_nt0, ?_⟩
  refine g_return dc_B_become_18 rfl ⟨rfl, ?_⟩
  rw [hL2] at x1
  obtain ⟨b1, cap1, p1, c1, m1⟩ := x1
  obtain ⟨b3, cap3, p3, c3, m3⟩ := x0
  refine ⟨b1, cap1, p1, ⟨⟨by have := c1.1.1; rw [List.length_set] at this; exact this, fun q q0 q1 q2 => ?_⟩, ?_, ?_, ?_⟩, ?_⟩
  · rw [c1.1.2 q (by rw [List.length_set]; exact q0) q1 q2, List.getElem?_set_ne (Ne.symm q1)]
  · have := c1.2.1; rw [List.length_set] at this; exact this
  · have := c1.2.2.1; rw [am_sl_set h a (.inr (1, [.ref b, .int (nI 0)])) _ ha rfl] at this; exact this
  · have := c1.2.2.2; rw [List.length_set] at this; exact this
  · have := m1; simp at this ⊢; omega
theorem c_B_putInt (hB : isB h a b cap L) (hbig : L.length + 4 < 8388608) : am_C X mt_B_putInt (d + 3) [.ref a, .int v] h (fun r h1 => r = none ∧ toB h h1 a b cap (L ++ by4 v)) := by
  have ha := hB.ha
  show am_G X mt_B_putInt (d + 3) 0 [some (.ref a), some (.int v)] [] h _
  refine g_aload_n (pc := 0) dc_B_putInt_0 rfl ?_
  refine g_iload_n (pc := 1) dc_B_putInt_1 rfl ?_
  refine g_bipush (pc := 2) (v := 24) dc_B_putInt_2 rfl ?_
  refine g_ishr (pc := 4) dc_B_putInt_4 rfl ?_
  refine g_v1 (pc := 5) (M' := mt_B_put) dc_B_putInt_5 mo_B_put im_B_put se_B_put ln_B_29 hB.ha rfl rfl (Nat.le_of_ble_eq_true rfl) (Nat.le_of_ble_eq_true rfl) (am_G.mono (c_B_put (d := d) (v := (v >>> 24)) hB (by first | omega | (simp only [List.length_append, List.length_cons, List.length_nil]; omega))) ?_)
  intro r h1 hq
  obtain ⟨rfl, b1, cap1, p1, c1, m1⟩ := hq
  refine ⟨am_nt0, ?_⟩
  refine g_aload_n (pc := 8) dc_B_putInt_8 rfl ?_
  refine g_iload_n (pc := 9) dc_B_putInt_9 rfl ?_
  refine g_bipush (pc := 10) (v := 16) dc_B_putInt_10 rfl ?_
  refine g_ishr (pc := 12) dc_B_putInt_12 rfl ?_
  refine g_v1 (pc := 13) (M' := mt_B_put) dc_B_putInt_13 mo_B_put im_B_put se_B_put ln_B_29 p1.ha rfl rfl (Nat.le_of_ble_eq_true rfl) (Nat.le_of_ble_eq_true rfl) (am_G.mono (c_B_put (d := d) (v := (v >>> 16)) p1 (by first | omega | (simp only [List.length_append, List.length_cons, List.length_nil]; omega))) ?_)
  intro r h2 hq
  obtain ⟨rfl, b2, cap2, p2, c2, m2⟩ := hq
  refine ⟨am_nt0, ?_⟩
  refine g_aload_n (pc := 16) dc_B_putInt_16 rfl ?_
  refine g_iload_n (pc := 17) dc_B_putInt_17 rfl ?_
  refine g_bipush (pc := 18) (v := 8) dc_B_putInt_18 rfl ?_
  refine g_ishr (pc := 20) dc_B_putInt_20 rfl ?_
  refine g_v1 (pc := 21) (M' := mt_B_put) dc_B_putInt_21 mo_B_put im_B_put se_B_put ln_B_29 p2.ha rfl rfl (Nat.le_of_ble_eq_true rfl) (Nat.le_of_ble_eq_true rfl) (am_G.mono (c_B_put (d := d) (v := (v >>> 8)) p2 (by first | omega | (simp only [List.length_append, List.length_cons, List.length_nil]; omega))) ?_)
  intro r h3 hq
  obtain ⟨rfl, b3, cap3, p3, c3, m3⟩ := hq
  refine ⟨am_nt0, ?_⟩
  refine g_aload_n (pc := 24) dc_B_putInt_24 rfl ?_
  refine g_iload_n (pc := 25) dc_B_putInt_25 rfl ?_
  refine g_v1 (pc := 26) (M' := mt_B_put) dc_B_putInt_26 mo_B_put im_B_put se_B_put ln_B_29 p3.ha rfl rfl (Nat.le_of_ble_eq_true rfl) (Nat.le_of_ble_eq_true rfl) (am_G.mono (c_B_put (d := d) (v := v) p3 (by first | omega | (simp only [List.length_append, List.length_cons, List.length_nil]; omega))) ?_)
  intro r h4 hq
  obtain ⟨rfl, b4, cap4, p4, c4, m4⟩ := hq
  refine ⟨am_nt0, ?_⟩
  refine g_return dc_B_putInt_29 rfl ⟨rfl, ?_⟩
  have e9 : L ++ by4 v = (((L ++ [by8 (v >>> 24)]) ++ [by8 (v >>> 16)]) ++ [by8 (v >>> 8)]) ++ [by8 v] := by simp [by4]
  rw [e9]
  exact toB.step c1 m1 (by simp) (toB.step c2 m2 (by simp) (toB.step c3 m3 (by simp) ⟨b4, cap4, p4, c4, m4⟩))
end AMS2
