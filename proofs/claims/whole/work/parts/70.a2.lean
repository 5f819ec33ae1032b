/-! ===== the class's address reader: two rows of bytes, result and path ===== -/
def ttb (h : List va_E) (c s : Nat) (L : List Int32) : Prop := ∃ cap g, h[c]? = some (.inl (0, cap, .inl g)) ∧ tx g s L ∧ s + L.length ≤ cap ∧ cap ≤ 33554432 ∧ ∀ j, bt (g j)
theorem ttb.tt {h : List va_E} {c s : Nat} {L : List Int32} (x : ttb h c s L) : tt h c s L := by
  obtain ⟨cap, g, h1, h2, h3, h4, -⟩ := x
  exact ⟨cap, g, h1, h2, h3, by omega⟩
theorem ttb.btg {h : List va_E} {c s : Nat} {L : List Int32} (x : ttb h c s L) : btg L := by
  obtain ⟨cap, g, h1, h2, h3, h4, h5⟩ := x
  intro j
  by_cases hj : j < L.length
  · rw [← h2 j hj]; exact h5 _
  · rw [gx_out (by omega)]; exact bt_0
theorem isB.ttb {h : List va_E} {a b cap : Nat} {L : List Int32} (x : isB h a b cap L) : ttb h b 0 L := by
  obtain ⟨g, -, h2, h3, h4, h5, h6⟩ := x
  exact ⟨cap, g, h2, tx_of_sl L 0 h3, by omega, h5.2, h6⟩
theorem ttb.eq {h h1 : List va_E} {c s : Nat} {L : List Int32} (x : ttb h c s L) (e : h1[c]? = h[c]?) : ttb h1 c s L := by
  obtain ⟨cap, g, h1, r⟩ := x
  exact ⟨cap, g, e.trans h1, r⟩
theorem ttb.lt {h : List va_E} {c s : Nat} {L : List Int32} (x : ttb h c s L) : c < h.length := tt_lt x.tt
section TBP
variable {X : am_X} {d a b cap c s f t : Nat} {h : List va_E} {L R : List Int32}
theorem x_B_putAll (hB : isB h a b cap R) (hx : ttb h c s L) (hbc : b ≠ c) (hft : f ≤ t) (ht : t ≤ L.length) (hbig : R.length + (t - f) < 8388608) : am_C X mt_B_putAll (d + 2) [.ref a, .ref c, .int (nI (s + f)), .int (nI (s + t))] h (fun r h1 => r = none ∧ toB h h1 a b cap (R ++ sub L f t)) := by
  obtain ⟨cp, g, h1, h2, h3, h4, h5⟩ := hx
  refine am_G.mono (c_B_putAllT (fr := s + f) (k := t - f) (t := s + t) hB h1 h5 hbc (by omega) h4 hbig (by omega)) (fun r h9 hq => ⟨hq.1, ?_⟩)
  have e := sl_sub h2 (t - f) f (by omega)
  rw [show f + (t - f) = t by omega] at e
  rw [← e]
  exact hq.2
theorem x_B_putLower (hB : isB h a b cap R) (hx : ttb h c s L) (hbc : b ≠ c) (hft : f ≤ t) (ht : t ≤ L.length) (hbig : R.length + (t - f) < 8388608) : am_C X mt_B_putLower (d + 3) [.ref a, .ref c, .int (nI (s + f)), .int (nI (s + t))] h (fun r h1 => r = none ∧ toB h h1 a b cap (R ++ (sub L f t).map toLo)) := by
  have hbL := hx.btg
  obtain ⟨cp, g, h1, h2, h3, h4, h5⟩ := hx
  have h9 := c_B_putLower (X := X) (d := d) (fr := s + f) (k := t - f) (by omega) hB h1 hbc (by omega) hbig
  rw [show s + f + (t - f) = s + t by omega] at h9
  refine am_G.mono h9 (fun r h9 hq => ⟨hq.1, ?_⟩)
  have e := sl_sub h2 (t - f) f (by omega)
  rw [show f + (t - f) = t by omega] at e
  have e2 : (sub L f t).map toLo = (sl g (s + f) (t - f)).map lw8 := by
    rw [e]
    apply List.map_congr_left
    intro x hx
    obtain ⟨j, hj, rfl⟩ := List.getElem_of_mem hx
    have hj2 : bt ((sub L f t)[j]) := by rw [← gx_eq hj]; exact btg_sub hbL ht j
    exact (by8_bt (bt_toLo hj2)).symm
  rw [e2]
  exact hq.2
end TBP
def A2w (h0 h : List va_E) (r br cr p bp cp br1 cr1 bp1 cp1 : Nat) : Prop := (h0.length ≤ h.length ∧ ∀ k, k < h0.length → k ≠ r → k ≠ br → k ≠ p → k ≠ bp → h[k]? = h0[k]?) ∧ (br1 = br ∨ h0.length ≤ br1) ∧ (bp1 = bp ∨ h0.length ≤ bp1) ∧ am_sl h + 2 * cr + 2 * cp ≤ am_sl h0 + 2 * cr1 + 2 * cp1 ∧ 16 * h.length + cr + cp ≤ 16 * h0.length + cr1 + cp1 ∧ cr1 ≤ max cr 20000 ∧ cp1 ≤ max cp 20000 ∧ cr ≤ cr1 ∧ cp ≤ cp1
/-- from h0 to h: the rows r and p hold R and P, nothing else has changed -/
def A2 (h0 h : List va_E) (r br cr p bp cp : Nat) (R P : List Int32) : Prop := ∃ br1 cr1 bp1 cp1, isB h r br1 cr1 R ∧ isB h p bp1 cp1 P ∧ br1 ≠ bp1 ∧ A2w h0 h r br cr p bp cp br1 cr1 bp1 cp1
theorem A2.rf {h : List va_E} {r br cr p bp cp : Nat} {R P : List Int32} (h1 : isB h r br cr R) (h2 : isB h p bp cp P) (h3 : br ≠ bp) : A2 h h r br cr p bp cp R P := ⟨br, cr, bp, cp, h1, h2, h3, ⟨Nat.le_refl _, fun _ _ _ _ _ _ => rfl⟩, Or.inl rfl, Or.inl rfl, Nat.le_refl _, Nat.le_refl _, by omega, by omega, Nat.le_refl _, Nat.le_refl _⟩
theorem A2w.nr {h0 h : List va_E} {r br cr p bp cp br1 cr1 bp1 cp1 c : Nat} (w : A2w h0 h r br cr p bp cp br1 cr1 bp1 cp1) (hc : c < h0.length) (h1 : c ≠ br) : br1 ≠ c := by
  have := w.2.1
  omega
theorem A2w.np {h0 h : List va_E} {r br cr p bp cp br1 cr1 bp1 cp1 c : Nat} (w : A2w h0 h r br cr p bp cp br1 cr1 bp1 cp1) (hc : c < h0.length) (h1 : c ≠ bp) : bp1 ≠ c := by
  have := w.2.2.1
  omega
theorem isB.nn {h : List va_E} {r br cr p bp cp : Nat} {R P : List Int32} (h1 : isB h r br cr R) (h2 : isB h p bp cp P) : r ≠ bp ∧ p ≠ br := by
  obtain ⟨g, a1, a2, -⟩ := h1
  obtain ⟨g2, b1, b2, -⟩ := h2
  refine ⟨fun e => ?_, fun e => ?_⟩
  · rw [e, b2] at a1; cases a1
  · rw [e, a2] at b1; cases b1
section AST
variable {h0 h h1 : List va_E} {r br cr p bp cp : Nat} {R R' P P' : List Int32}
/-- a step of the result -/
theorem A2.sr (hrp : r ≠ p) (hl : R'.length ≤ 9000) {br1 cr1 bp1 cp1 : Nat} (i1 : isB h r br1 cr1 R) (i2 : isB h p bp1 cp1 P) (hne : br1 ≠ bp1) (w : A2w h0 h r br cr p bp cp br1 cr1 bp1 cp1) (ht : toB h h1 r br1 cr1 R') : A2 h0 h1 r br cr p bp cp R' P := by
  obtain ⟨hf, f1, f2, s1, s2, s3, s4, s5, s6⟩ := w
  have hnn := i1.nn i2
  have hp1 := am_lt i2.ha
  have hb1 : bp1 < h.length := tt_lt i2.tt
  obtain ⟨b2, c2, j1, ⟨⟨g1, g2⟩, g3, g4, g5⟩, g6⟩ := ht
  have j2 : isB h1 p bp1 cp1 P := i2.eq (g2 p hp1 (Ne.symm hrp) hnn.2) (g2 bp1 hb1 (Ne.symm hnn.1) (Ne.symm hne))
  refine ⟨b2, c2, bp1, cp1, j1, j2, ?_, ⟨by omega, fun k k0 k1 k2 k3 k4 => ?_⟩, by omega, f2, by omega, by omega, by omega, s4, by omega, s6⟩
  · rcases g3 with e | e
    · rw [e]; exact hne
    · omega
  · rw [g2 k (by omega) k1 (by omega)]
    exact hf.2 k k0 k1 k2 k3 k4
theorem A2.sp (hrp : r ≠ p) (hl : P'.length ≤ 9000) {br1 cr1 bp1 cp1 : Nat} (i1 : isB h r br1 cr1 R) (i2 : isB h p bp1 cp1 P) (hne : br1 ≠ bp1) (w : A2w h0 h r br cr p bp cp br1 cr1 bp1 cp1) (ht : toB h h1 p bp1 cp1 P') : A2 h0 h1 r br cr p bp cp R P' := by
  obtain ⟨hf, f1, f2, s1, s2, s3, s4, s5, s6⟩ := w
  have hnn := i1.nn i2
  have hp1 := am_lt i1.ha
  have hb1 : br1 < h.length := tt_lt i1.tt
  obtain ⟨b2, c2, j1, ⟨⟨g1, g2⟩, g3, g4, g5⟩, g6⟩ := ht
  have j2 : isB h1 r br1 cr1 R := i1.eq (g2 r hp1 hrp hnn.1) (g2 br1 hb1 (Ne.symm hnn.2) hne)
  refine ⟨br1, cr1, b2, c2, j2, j1, ?_, ⟨by omega, fun k k0 k1 k2 k3 k4 => ?_⟩, f1, by omega, by omega, by omega, s3, by omega, s5, by omega⟩
  · rcases g3 with e | e
    · rw [e]; exact hne
    · omega
  · rw [g2 k (by omega) k3 (by omega)]
    exact hf.2 k k0 k1 k2 k3 k4
/-- what stood at the beginning stands still -/
theorem A2.kp (x : A2 h0 h r br cr p bp cp R P) {k : Nat} {e : va_E} (hk : h0[k]? = some e) (k1 : k ≠ r) (k2 : k ≠ br) (k3 : k ≠ p) (k4 : k ≠ bp) : h[k]? = some e := by
  obtain ⟨br1, cr1, bp1, cp1, i1, i2, hne, ⟨f1, f2⟩, -⟩ := x
  rw [f2 k (am_lt hk) k1 k2 k3 k4]; exact hk
theorem A2.tx (x : A2 h0 h r br cr p bp cp R P) {c s : Nat} {L : List Int32} (hx : ttb h0 c s L) (k2 : c ≠ br) (k4 : c ≠ bp) (b1 : isB h0 r br cr R') (b2 : isB h0 p bp cp P') : ttb h c s L := by
  have k1 : c ≠ r := fun e => by
    obtain ⟨cap, g, h1, -⟩ := hx
    rw [e, b1.ha] at h1; cases h1
  have k3 : c ≠ p := fun e => by
    obtain ⟨cap, g, h1, -⟩ := hx
    rw [e, b2.ha] at h1; cases h1
  obtain ⟨cap, g, h1, rest⟩ := hx
  exact ⟨cap, g, x.kp h1 k1 k2 k3 k4, rest⟩
end AST

