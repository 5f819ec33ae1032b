/-! ===== the scanner, whatever it passed before; decode ===== -/
def sR (w0 w1 w2 : Int32) (s p c n : Nat) (w6 w7 : Int32) (cl : Bool) : va_E := .inr (5, [.int w0, .int w1, .int w2, .int (nI (s + p)), .ref c, .int (nI (s + n)), .int w6, .int w7, .int (b1 cl)])
/-- the scanner stands at p of the text L -/
def scR (L : List Int32) (s p c : Nat) (x : va_E) : Prop := ∃ w0 w1 w2 w6 w7 cl, x = sR w0 w1 w2 s p c L.length w6 w7 cl
/-- a scanner, wherever it stands -/
def scX (x : va_E) : Prop := ∃ w0 w1 w2 w3 v4 w4 w6 w7 cl, x = .inr (5, [.int w0, .int w1, .int w2, .int w3, v4, .int w4, .int w6, .int w7, .int (b1 cl)])
section SCG
variable {X : am_X} {d a c s p : Nat} {h : List va_E} {L : List Int32} {w0 w1 w2 w6 w7 : Int32}
theorem t1_S_next (hal : a < h.length) (hx : tt h c s L) (hac : a ≠ c) {cl : Bool} (hp : p < L.length) : am_C X mt_S_next (d + 8) [.ref a] (h.set a (sR w0 w1 w2 s p c L.length w6 w7 cl)) (fun r h1 => r = some (.int (nI (nxK L p))) ∧ ∃ x, h1 = h.set a x ∧ scN L s p c x) := by
  have hx0 := hx
  obtain ⟨cap, g, ha, hT, hs, hc⟩ := hx
  show am_G X mt_S_next (d + 8) 0 [some (.ref a), none] [] (h.set a (.inr (5, [.int w0, .int w1, .int (w2), .int (nI (s + p)), .ref c, .int (nI (s + L.length)), .int w6, .int w7, .int (b1 cl)]))) _
  refine g_aload_n (pc := 0) dc_S_next_0 rfl ?_
  refine g_aload_n (pc := 1) dc_S_next_1 rfl ?_
  refine g_getfield (pc := 2) dc_S_next_2 fl_S_15 (am_se hal) rfl ?_
  refine g_putfield (pc := 5) dc_S_next_5 fp_S_next_22 (am_se hal) (Nat.le_of_ble_eq_true rfl) rfl rfl ?_
  rw [List.set_set]
  show am_G X _ _ _ _ _ (h.set a (.inr (5, [.int (nI (s + p)), .int w1, .int (w2), .int (nI (s + p)), .ref c, .int (nI (s + L.length)), .int w6, .int w7, .int (b1 cl)]))) _
  refine g_aload_n (pc := 8) dc_S_next_8 rfl ?_
  refine g_iconst (pc := 9) (v := (-1)) dc_S_next_9 rfl ?_
  refine g_putfield (pc := 10) dc_S_next_10 fp_S_next_25 (am_se hal) (Nat.le_of_ble_eq_true rfl) rfl rfl ?_
  rw [List.set_set]
  show am_G X _ _ _ _ _ (h.set a (.inr (5, [.int (nI (s + p)), .int (-1), .int (w2), .int (nI (s + p)), .ref c, .int (nI (s + L.length)), .int w6, .int w7, .int (b1 cl)]))) _
  refine g_aload_n (pc := 13) dc_S_next_13 rfl ?_
  refine g_getfield (pc := 14) dc_S_next_14 fl_S_15 (am_se hal) rfl ?_
  refine g_aload_n (pc := 17) dc_S_next_17 rfl ?_
  refine g_getfield (pc := 18) dc_S_next_18 fl_S_19 (am_se hal) rfl ?_
  refine q_icmp_lt (pc := 21) (tgt := 26) (s + p) (s + L.length) dc_S_next_21 (by omega) (by omega) rfl (fun hc21 => ?_) (fun hc => absurd hc (by omega))
  refine g_aload_n (pc := 26) dc_S_next_26 rfl ?_
  refine g_aload_n (pc := 27) dc_S_next_27 rfl ?_
  refine g_getfield (pc := 28) dc_S_next_28 fl_S_15 (am_se hal) rfl ?_
  refine g_v1 (pc := 31) (M' := mt_S_kindAt) dc_S_next_31 mo_S_kindAt im_S_kindAt se_S_kindAt ln_S_28 (am_se hal) rfl rfl (Nat.le_of_ble_eq_true rfl) (Nat.le_of_ble_eq_true rfl) (am_G.mono (t_S_kindAt (p := p) (i := p) (am_se hal) (tt_set hx0 hac) (by omega)) ?_)
  intro r h1 hq
  rw [hq.1, hq.2]
  clear hq h1 r
  refine ⟨am_nti _, ?_⟩
  have hkd31 := kdA_le L p
  refine g_istore_n (pc := 34) dc_S_next_34 (by decide) ?_
  show am_G X mt_S_next _ 35 [some (.ref a), some (.int (nI (kdA L p)))] [] _ _
  refine g_iload_n (pc := 35) dc_S_next_35 rfl ?_
  refine g_iconst (pc := 36) (v := 2) dc_S_next_36 rfl ?_
  refine q_icmp_ne (pc := 37) (tgt := 45) (kdA L p) 2 dc_S_next_37 (by omega) (by omega) rfl (fun hc37 => ?_) (fun hc37 => ?_)
  · refine g_iload_n (pc := 45) dc_S_next_45 rfl ?_
    refine g_iconst (pc := 46) (v := 3) dc_S_next_46 rfl ?_
    refine q_icmp_ne (pc := 47) (tgt := 60) (kdA L p) 3 dc_S_next_47 (by omega) (by omega) rfl (fun hc47 => ?_) (fun hc47 => ?_)
    · refine g_aload_n (pc := 60) dc_S_next_60 rfl ?_
      refine g_dup (pc := 61) dc_S_next_61 rfl ?_
      refine g_getfield (pc := 62) dc_S_next_62 fl_S_15 (am_se hal) rfl ?_
      refine g_iconst (pc := 65) (v := 1) dc_S_next_65 rfl ?_
      refine g_iadd (pc := 66) (v := (nI (s + (p + 1)))) dc_S_next_66 (q_as s p 1) ?_
      refine g_putfield (pc := 67) dc_S_next_67 fp_S_next_15 (am_se hal) (Nat.le_of_ble_eq_true rfl) rfl rfl ?_
      rw [List.set_set]
      show am_G X _ _ _ _ _ (h.set a (.inr (5, [.int (nI (s + p)), .int (-1), .int (w2), .int (nI (s + (p + 1))), .ref c, .int (nI (s + L.length)), .int w6, .int w7, .int (b1 cl)]))) _
      refine am_wk (am_le_s (am_le_n am_le_0)) ?_
      have hk1 := kdA_1 hc37 hc47
      refine am_G.mono (l_S_next (p0 := p) (w2 := w2) (w6 := w6) (w7 := w7) (cl := cl) hal hx0 hac (L.length - (p + 1)) (p + 1) (by omega)) (fun r h1 hq9 => ?_)
      rw [hq9.1, hq9.2]
      have e1 : nxH L p = none := if_neg (fun h9 => by omega)
      refine ⟨by rw [show nxK L p = 1 from by unfold nxK; rw [if_neg (by omega)]; exact hk1]; rfl, _, rfl, w2, w6, w7, cl, ?_, fun q h9 => by rw [e1] at h9; cases h9⟩
      rw [e1, show nxT L p = fx (fun j => decide (kdA L j = 1)) (p + 1) L.length from by unfold nxT; rw [if_neg (by omega), if_neg (by omega)]]
    · refine g_aload_n (pc := 50) dc_S_next_50 rfl ?_
      refine g_aload_n (pc := 51) dc_S_next_51 rfl ?_
      refine g_v0 (pc := 52) (M' := mt_S_remarkTo) dc_S_next_52 mo_S_remarkTo im_S_remarkTo se_S_remarkTo ln_S_36 (am_se hal) rfl rfl (Nat.le_of_ble_eq_true rfl) (Nat.le_of_ble_eq_true rfl) (am_G.mono (t_S_remarkTo (p := p) (am_se hal) (tt_set hx0 hac) (by omega)) ?_)
      intro r h1 hq
      rw [hq.1, hq.2]
      clear hq h1 r
      refine ⟨am_nti _, ?_⟩
      refine g_putfield (pc := 55) dc_S_next_55 fp_S_next_15 (am_se hal) (Nat.le_of_ble_eq_true rfl) rfl rfl ?_
      rw [List.set_set]
      show am_G X _ _ _ _ _ (h.set a (.inr (5, [.int (nI (s + p)), .int (-1), .int (w2), .int (nI (s + (rmT L p))), .ref c, .int (nI (s + L.length)), .int w6, .int w7, .int (b1 cl)]))) _
      refine g_iconst (pc := 58) (v := 3) dc_S_next_58 rfl ?_
      exact g_ireturn dc_S_next_59 rfl ⟨by rw [show nxK L p = 3 from by unfold nxK; rw [if_neg (by omega)]; exact hc47]; rfl, _, rfl, w2, w6, w7, cl, by rw [show nxH L p = none from if_neg (fun h9 => by omega), show nxT L p = rmT L p from by unfold nxT; rw [if_neg (by omega), if_pos hc47]]; rfl, fun q h9 => by rw [show nxH L p = none from if_neg (fun h9 => by omega)] at h9; cases h9⟩
  · refine g_aload_n (pc := 40) dc_S_next_40 rfl ?_
    refine g_v0 (pc := 41) (M' := mt_S_passTag) dc_S_next_41 mo_S_passTag im_S_passTag se_S_passTag ln_S_32 (am_se hal) rfl rfl (Nat.le_of_ble_eq_true rfl) (Nat.le_of_ble_eq_true rfl) (am_G.mono (t_S_passTag (p := p) (w2 := w2) hal hx0 hac hc37) ?_)
    rintro r h1 ⟨hr, w3, hh⟩
    rw [hr, hh]
    refine ⟨am_nti _, ?_⟩
    exact g_ireturn dc_S_next_44 rfl ⟨rfl, _, rfl, w3, _, _, _, rfl, fun q _ => ⟨rfl, rfl, rfl⟩⟩
theorem e1_S_next (hal : a < h.length) (hx : tt h c s L) (hac : a ≠ c) {cl : Bool} (hp : L.length ≤ p) (hp2 : s + p < 2 ^ 31) : am_C X mt_S_next d [.ref a] (h.set a (sR w0 w1 w2 s p c L.length w6 w7 cl)) (fun r h1 => r = some (.int 0) ∧ h1 = h.set a (sR (nI (s + p)) (-1) w2 s p c L.length w6 w7 cl)) := by
  have hx0 := hx
  obtain ⟨cap, g, ha, hT, hs, hc⟩ := hx
  show am_G X mt_S_next d 0 [some (.ref a), none] [] (h.set a (.inr (5, [.int w0, .int w1, .int (w2), .int (nI (s + p)), .ref c, .int (nI (s + L.length)), .int w6, .int w7, .int (b1 cl)]))) _
  refine g_aload_n (pc := 0) dc_S_next_0 rfl ?_
  refine g_aload_n (pc := 1) dc_S_next_1 rfl ?_
  refine g_getfield (pc := 2) dc_S_next_2 fl_S_15 (am_se hal) rfl ?_
  refine g_putfield (pc := 5) dc_S_next_5 fp_S_next_22 (am_se hal) (Nat.le_of_ble_eq_true rfl) rfl rfl ?_
  rw [List.set_set]
  show am_G X _ _ _ _ _ (h.set a (.inr (5, [.int (nI (s + p)), .int w1, .int (w2), .int (nI (s + p)), .ref c, .int (nI (s + L.length)), .int w6, .int w7, .int (b1 cl)]))) _
  refine g_aload_n (pc := 8) dc_S_next_8 rfl ?_
  refine g_iconst (pc := 9) (v := (-1)) dc_S_next_9 rfl ?_
  refine g_putfield (pc := 10) dc_S_next_10 fp_S_next_25 (am_se hal) (Nat.le_of_ble_eq_true rfl) rfl rfl ?_
  rw [List.set_set]
  show am_G X _ _ _ _ _ (h.set a (.inr (5, [.int (nI (s + p)), .int (-1), .int (w2), .int (nI (s + p)), .ref c, .int (nI (s + L.length)), .int w6, .int w7, .int (b1 cl)]))) _
  refine g_aload_n (pc := 13) dc_S_next_13 rfl ?_
  refine g_getfield (pc := 14) dc_S_next_14 fl_S_15 (am_se hal) rfl ?_
  refine g_aload_n (pc := 17) dc_S_next_17 rfl ?_
  refine g_getfield (pc := 18) dc_S_next_18 fl_S_19 (am_se hal) rfl ?_
  refine q_icmp_lt (pc := 21) (tgt := 26) (s + p) (s + L.length) dc_S_next_21 (by omega) (by omega) rfl (fun hc => absurd hc (by omega)) (fun hc21 => ?_)
  refine g_iconst (pc := 24) (v := 0) dc_S_next_24 rfl ?_
  exact g_ireturn dc_S_next_25 rfl ⟨rfl, rfl⟩
theorem set_id {h : List va_E} {a : Nat} {x : va_E} (hx : h[a]? = some x) : h.set a x = h := by
  apply List.ext_getElem?
  intro k
  by_cases e : a = k
  · subst e; rw [List.getElem?_set_self (am_lt hx), hx]
  · rw [List.getElem?_set_ne e]
theorem scN.sR {x : va_E} (hN : scN L s p c x) : scR L s (nxT L p) c x := by
  obtain ⟨w2, w6, w7, cl, e, -⟩ := hN
  exact ⟨_, _, _, _, _, cl, e⟩
theorem scR.any {x : va_E} (hN : scR L s p c x) : scX x := by
  obtain ⟨w0, w1, w2, w6, w7, cl, e⟩ := hN
  exact ⟨_, _, _, _, _, _, _, _, cl, e⟩
theorem sc_ne {x : va_E} (hS : h[a]? = some x) (hx : tt h c s L) (hN : scX x) : a ≠ c := fun e => by
  obtain ⟨w0, w1, w2, w3, v4, w4, w6, w7, cl, e2⟩ := hN
  obtain ⟨cap, g, ha, -⟩ := hx
  rw [← e, hS, e2] at ha
  cases ha
theorem c_S_next {x : va_E} (hS : h[a]? = some x) (hN : scR L s p c x) (hx : tt h c s L) (hp : p < L.length) : am_C X mt_S_next (d + 8) [.ref a] h (fun r h1 => r = some (.int (nI (nxK L p))) ∧ ∃ x1, h1 = h.set a x1 ∧ scN L s p c x1) := by
  have hne := sc_ne hS hx hN.any
  obtain ⟨w0, w1, w2, w6, w7, cl, e⟩ := hN
  have h9 := t1_S_next (X := X) (d := d) (w0 := w0) (w1 := w1) (w2 := w2) (w6 := w6) (w7 := w7) (cl := cl) (am_lt hS) hx hne hp
  rw [← e, set_id hS] at h9
  exact h9
theorem c_S_end {x : va_E} (hS : h[a]? = some x) (hN : scR L s p c x) (hx : tt h c s L) (hp : L.length ≤ p) (hp2 : s + p < 2 ^ 31) : am_C X mt_S_next d [.ref a] h (fun r h1 => r = some (.int 0) ∧ ∃ x1, h1 = h.set a x1 ∧ scX x1) := by
  have hne := sc_ne hS hx hN.any
  obtain ⟨w0, w1, w2, w6, w7, cl, e⟩ := hN
  have h9 := e1_S_next (X := X) (d := d) (w0 := w0) (w1 := w1) (w2 := w2) (w6 := w6) (w7 := w7) (cl := cl) (am_lt hS) hx hne hp hp2
  rw [← e, set_id hS] at h9
  exact am_G.mono h9 (fun r h1 hq => ⟨hq.1, _, hq.2, _, _, _, _, _, _, _, _, cl, rfl⟩)
theorem c_S_open {x : va_E} (hS : h[a]? = some x) (hN : scX x) : am_C X mt_S_open d [.ref a, .ref c, .int (nI s), .int (nI (s + L.length))] h (fun r h1 => r = none ∧ ∃ x1, h1 = h.set a x1 ∧ scR L s 0 c x1) := by
  obtain ⟨w0, w1, w2, w3, v4, w4, w6, w7, cl, e⟩ := hN
  have h9 := t_S_open (X := X) (d := d) (c := c) (s := s) (L := L) (w0 := w0) (w1 := w1) (w2 := w2) (w3 := w3) (v4 := v4) (w4 := w4) (w6 := w6) (w7 := w7) (w8 := b1 cl) (am_lt hS)
  rw [← e, set_id hS] at h9
  exact am_G.mono h9 (fun r h1 hq => ⟨hq.1, _, hq.2, w0, w1, w2, w6, w7, cl, rfl⟩)
end SCG
