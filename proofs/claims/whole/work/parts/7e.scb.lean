/-! ===== the class's scanner: passTag, next, open ===== -/
section SCB
variable {X : am_X} {d a c s p : Nat} {h : List va_E} {L : List Int32} {w0 w1 w2 w3 w4 w6 w7 w8 : Int32} {v4 : Value} {hq : Option (Nat × Nat)}
theorem t_S_passTag (hal : a < h.length) (hx : tt h c s L) (hac : a ≠ c) (hk : kdA L p = 2) : am_C X mt_S_passTag (d + 6) [.ref a] (h.set a (sC w0 none w2 s p c L.length w6 w7 w8)) (fun r h1 => r = some (.int (nI (nxK L p))) ∧ ∃ w3, h1 = h.set a (sC w0 (nxH L p) w3 s (nxT L p) c L.length (nI (s + tgF L p)) (nI (s + tgN L p)) (b1 (tgC L p)))) := by
  have hk2 := kdA_2 hk
  have hb := tg_bd hk
  have hx0 := hx
  obtain ⟨cap, g, ha, hT, hs, hc⟩ := hx
  show am_G X mt_S_passTag (d + 6) 0 [some (.ref a), none, none] [] (h.set a (.inr (5, [.int w0, .int (-1), .int w2, .int (nI (s + p)), .ref c, .int (nI (s + L.length)), .int w6, .int w7, .int w8]))) _
  refine g_aload_n (pc := 0) dc_S_passTag_0 rfl ?_
  refine g_aload_n (pc := 1) dc_S_passTag_1 rfl ?_
  refine g_getfield (pc := 2) dc_S_passTag_2 fl_S_9 (am_se hal) rfl ?_
  refine g_aload_n (pc := 5) dc_S_passTag_5 rfl ?_
  refine g_getfield (pc := 6) dc_S_passTag_6 fl_S_15 (am_se hal) rfl ?_
  refine g_iconst (pc := 9) (v := 1) dc_S_passTag_9 rfl ?_
  refine g_iadd (pc := 10) (v := (nI (s + (p + 1)))) dc_S_passTag_10 (q_as s p 1) ?_
  refine q_tx (pc := 11) (p + 1) dc_S_passTag_11 (am_sn hac ha) hT hs (by omega) hc ?_
  refine g_bipush (pc := 12) (v := 47) dc_S_passTag_12 rfl ?_
  refine g_icmp_ne (pc := 14) (tgt := 21) dc_S_passTag_14 rfl (fun hc14 => ?_) (fun hc14 => ?_)
  · refine g_iconst (pc := 21) (v := 0) dc_S_passTag_21 rfl ?_
    refine g_putfield (pc := 22) dc_S_passTag_22 fp_S_passTag_39 (am_se hal) (Nat.le_of_ble_eq_true rfl) rfl rfl ?_
    rw [List.set_set]
    show am_G X _ _ _ _ _ (h.set a (.inr (5, [.int w0, .int (-1), .int w2, .int (nI (s + p)), .ref c, .int (nI (s + L.length)), .int w6, .int w7, .int 0]))) _
    refine g_aload_n (pc := 25) dc_S_passTag_25 rfl ?_
    refine g_aload_n (pc := 26) dc_S_passTag_26 rfl ?_
    refine g_getfield (pc := 27) dc_S_passTag_27 fl_S_39 (am_se hal) rfl ?_
    refine g_if_eq (pc := 30) (tgt := 42) dc_S_passTag_30 rfl (fun _ => ?_) (fun hc => absurd hc (by decide))
    refine g_aload_n (pc := 42) dc_S_passTag_42 rfl ?_
    refine g_getfield (pc := 43) dc_S_passTag_43 fl_S_15 (am_se hal) rfl ?_
    refine g_iconst (pc := 46) (v := 1) dc_S_passTag_46 rfl ?_
    refine g_iadd (pc := 47) (v := (nI (s + (p + 1)))) dc_S_passTag_47 (q_as s p 1) ?_
    refine g_putfield (pc := 48) dc_S_passTag_48 fp_S_passTag_43 (am_se hal) (Nat.le_of_ble_eq_true rfl) rfl rfl ?_
    rw [List.set_set]
    show am_G X _ _ _ _ _ (h.set a (.inr (5, [.int w0, .int (-1), .int w2, .int (nI (s + p)), .ref c, .int (nI (s + L.length)), .int (nI (s + (p + 1))), .int w7, .int 0]))) _
    refine g_aload_n (pc := 51) dc_S_passTag_51 rfl ?_
    refine g_aload_n (pc := 52) dc_S_passTag_52 rfl ?_
    refine g_aload_n (pc := 53) dc_S_passTag_53 rfl ?_
    refine g_getfield (pc := 54) dc_S_passTag_54 fl_S_43 (am_se hal) rfl ?_
    refine g_v1 (pc := 57) (M' := mt_S_tagNameEnd) dc_S_passTag_57 mo_S_tagNameEnd im_S_tagNameEnd se_S_tagNameEnd ln_S_72 (am_se hal) rfl rfl (Nat.le_of_ble_eq_true rfl) (Nat.le_of_ble_eq_true rfl) (am_G.mono (t_S_tagNameEnd (p := p) (f := p + 1) (am_se hal) (tt_set hx0 hac) (by omega)) ?_)
    intro r h1 hq
    rw [hq.1, hq.2]
    clear hq h1 r
    refine ⟨am_nti _, ?_⟩
    have hb57 := fw_bd (p := tnB) (L := L) (f := p + 1) (t := L.length) (by omega)
    refine g_putfield (pc := 60) dc_S_passTag_60 fp_S_passTag_46 (am_se hal) (Nat.le_of_ble_eq_true rfl) rfl rfl ?_
    rw [List.set_set]
    show am_G X _ _ _ _ _ (h.set a (.inr (5, [.int w0, .int (-1), .int w2, .int (nI (s + p)), .ref c, .int (nI (s + L.length)), .int (nI (s + (p + 1))), .int (nI (s + (fw tnB L (p + 1) L.length))), .int 0]))) _
    refine g_aload_n (pc := 63) dc_S_passTag_63 rfl ?_
    refine g_aload_n (pc := 64) dc_S_passTag_64 rfl ?_
    refine g_getfield (pc := 65) dc_S_passTag_65 fl_S_46 (am_se hal) rfl ?_
    refine g_putfield (pc := 68) dc_S_passTag_68 fp_S_passTag_15 (am_se hal) (Nat.le_of_ble_eq_true rfl) rfl rfl ?_
    rw [List.set_set]
    show am_G X _ _ _ _ _ (h.set a (.inr (5, [.int w0, .int (-1), .int w2, .int (nI (s + (fw tnB L (p + 1) L.length))), .ref c, .int (nI (s + L.length)), .int (nI (s + (p + 1))), .int (nI (s + (fw tnB L (p + 1) L.length))), .int 0]))) _
    refine g_aload_n (pc := 71) dc_S_passTag_71 rfl ?_
    refine g_getfield (pc := 72) dc_S_passTag_72 fl_S_19 (am_se hal) rfl ?_
    refine g_aload_n (pc := 75) dc_S_passTag_75 rfl ?_
    refine g_getfield (pc := 76) dc_S_passTag_76 fl_S_15 (am_se hal) rfl ?_
    refine g_isub (pc := 79) (v := (nI (L.length - (fw tnB L (p + 1) L.length)))) dc_S_passTag_79 (q_ss (s := s) (a := L.length) (b := fw tnB L (p + 1) L.length) (by omega)) ?_
    refine g_istore_n (pc := 80) dc_S_passTag_80 (by decide) ?_
    show am_G X mt_S_passTag _ 81 [some (.ref a), some (.int (nI (L.length - (fw tnB L (p + 1) L.length)))), none] [] _ _
    have eF : tgF L p = p + 1 := if_neg hc14
    have eN : tgN L p = fw tnB L (p + 1) L.length := by unfold tgN; rw [eF]
    have eC : tgC L p = false := decide_eq_false hc14
    have hl9 := l_S_passTag (X := X) (d := d) (w0 := w0) (w2 := w2) (nf := p + 1) (nt := (fw tnB L (p + 1) L.length)) (m9 := L.length - (fw tnB L (p + 1) L.length)) (cl := false) hal hx0 hac (by omega) (by omega) (L.length - (fw tnB L (p + 1) L.length)) (fw tnB L (p + 1) L.length) none (Nat.le_refl _) (Nat.le_refl _) (by omega) (by omega) (fun q h9 => by cases h9)
    refine am_G.mono hl9 (fun r h1 hq9 => ?_)
    rw [← eN] at hq9
    rw [← eF, ← eC] at hq9
    rw [show (tgl L (L.length - tgN L p) (tgN L p) none).1 = tgE L p from rfl, show (tgl L (L.length - tgN L p) (tgN L p) none).2 = tgH L p from rfl] at hq9
    by_cases he : tgE L p < L.length
    · rw [if_pos he] at hq9
      refine ⟨?_, w2, ?_⟩
      · rw [hq9.1, show nxK L p = 2 from by unfold nxK; rw [if_pos hk, if_pos he]]; rfl
      · rw [hq9.2, show nxH L p = tgH L p from if_pos ⟨hk, he⟩, show nxT L p = rwT L (tgF L p) (tgN L p) (tgC L p) (tgE L p + 1) from by unfold nxT; rw [if_pos hk, if_pos he]]
    · rw [if_neg he] at hq9
      obtain ⟨hr9, w3, hh9⟩ := hq9
      refine ⟨?_, w3, ?_⟩
      · rw [hr9, show nxK L p = 3 from by unfold nxK; rw [if_pos hk, if_neg he]]; rfl
      · rw [hh9, show nxH L p = none from if_neg (fun h9 => he h9.2), show nxT L p = L.length from by unfold nxT; rw [if_pos hk, if_neg he]]
  · have hk3 := hk2.2 hc14
    refine g_iconst (pc := 17) (v := 1) dc_S_passTag_17 rfl ?_
    refine g_goto (pc := 18) (tgt := 22) dc_S_passTag_18 rfl ?_
    refine g_putfield (pc := 22) dc_S_passTag_22 fp_S_passTag_39 (am_se hal) (Nat.le_of_ble_eq_true rfl) rfl rfl ?_
    rw [List.set_set]
    show am_G X _ _ _ _ _ (h.set a (.inr (5, [.int w0, .int (-1), .int w2, .int (nI (s + p)), .ref c, .int (nI (s + L.length)), .int w6, .int w7, .int 1]))) _
    refine g_aload_n (pc := 25) dc_S_passTag_25 rfl ?_
    refine g_aload_n (pc := 26) dc_S_passTag_26 rfl ?_
    refine g_getfield (pc := 27) dc_S_passTag_27 fl_S_39 (am_se hal) rfl ?_
    refine g_if_eq (pc := 30) (tgt := 42) dc_S_passTag_30 rfl (fun hc => absurd hc (by decide)) (fun _ => ?_)
    refine g_aload_n (pc := 33) dc_S_passTag_33 rfl ?_
    refine g_getfield (pc := 34) dc_S_passTag_34 fl_S_15 (am_se hal) rfl ?_
    refine g_iconst (pc := 37) (v := 2) dc_S_passTag_37 rfl ?_
    refine g_iadd (pc := 38) (v := (nI (s + (p + 2)))) dc_S_passTag_38 (q_as s p 2) ?_
    refine g_goto (pc := 39) (tgt := 48) dc_S_passTag_39 rfl ?_
    refine g_putfield (pc := 48) dc_S_passTag_48 fp_S_passTag_43 (am_se hal) (Nat.le_of_ble_eq_true rfl) rfl rfl ?_
    rw [List.set_set]
    show am_G X _ _ _ _ _ (h.set a (.inr (5, [.int w0, .int (-1), .int w2, .int (nI (s + p)), .ref c, .int (nI (s + L.length)), .int (nI (s + (p + 2))), .int w7, .int 1]))) _
    refine g_aload_n (pc := 51) dc_S_passTag_51 rfl ?_
    refine g_aload_n (pc := 52) dc_S_passTag_52 rfl ?_
    refine g_aload_n (pc := 53) dc_S_passTag_53 rfl ?_
    refine g_getfield (pc := 54) dc_S_passTag_54 fl_S_43 (am_se hal) rfl ?_
    refine g_v1 (pc := 57) (M' := mt_S_tagNameEnd) dc_S_passTag_57 mo_S_tagNameEnd im_S_tagNameEnd se_S_tagNameEnd ln_S_72 (am_se hal) rfl rfl (Nat.le_of_ble_eq_true rfl) (Nat.le_of_ble_eq_true rfl) (am_G.mono (t_S_tagNameEnd (p := p) (f := p + 2) (am_se hal) (tt_set hx0 hac) (by omega)) ?_)
    intro r h1 hq
    rw [hq.1, hq.2]
    clear hq h1 r
    refine ⟨am_nti _, ?_⟩
    have hb57 := fw_bd (p := tnB) (L := L) (f := p + 2) (t := L.length) (by omega)
    refine g_putfield (pc := 60) dc_S_passTag_60 fp_S_passTag_46 (am_se hal) (Nat.le_of_ble_eq_true rfl) rfl rfl ?_
    rw [List.set_set]
    show am_G X _ _ _ _ _ (h.set a (.inr (5, [.int w0, .int (-1), .int w2, .int (nI (s + p)), .ref c, .int (nI (s + L.length)), .int (nI (s + (p + 2))), .int (nI (s + (fw tnB L (p + 2) L.length))), .int 1]))) _
    refine g_aload_n (pc := 63) dc_S_passTag_63 rfl ?_
    refine g_aload_n (pc := 64) dc_S_passTag_64 rfl ?_
    refine g_getfield (pc := 65) dc_S_passTag_65 fl_S_46 (am_se hal) rfl ?_
    refine g_putfield (pc := 68) dc_S_passTag_68 fp_S_passTag_15 (am_se hal) (Nat.le_of_ble_eq_true rfl) rfl rfl ?_
    rw [List.set_set]
    show am_G X _ _ _ _ _ (h.set a (.inr (5, [.int w0, .int (-1), .int w2, .int (nI (s + (fw tnB L (p + 2) L.length))), .ref c, .int (nI (s + L.length)), .int (nI (s + (p + 2))), .int (nI (s + (fw tnB L (p + 2) L.length))), .int 1]))) _
    refine g_aload_n (pc := 71) dc_S_passTag_71 rfl ?_
    refine g_getfield (pc := 72) dc_S_passTag_72 fl_S_19 (am_se hal) rfl ?_
    refine g_aload_n (pc := 75) dc_S_passTag_75 rfl ?_
    refine g_getfield (pc := 76) dc_S_passTag_76 fl_S_15 (am_se hal) rfl ?_
    refine g_isub (pc := 79) (v := (nI (L.length - (fw tnB L (p + 2) L.length)))) dc_S_passTag_79 (q_ss (s := s) (a := L.length) (b := fw tnB L (p + 2) L.length) (by omega)) ?_
    refine g_istore_n (pc := 80) dc_S_passTag_80 (by decide) ?_
    show am_G X mt_S_passTag _ 81 [some (.ref a), some (.int (nI (L.length - (fw tnB L (p + 2) L.length)))), none] [] _ _
    have eF : tgF L p = p + 2 := if_pos hc14
    have eN : tgN L p = fw tnB L (p + 2) L.length := by unfold tgN; rw [eF]
    have eC : tgC L p = true := decide_eq_true hc14
    have hl9 := l_S_passTag (X := X) (d := d) (w0 := w0) (w2 := w2) (nf := p + 2) (nt := (fw tnB L (p + 2) L.length)) (m9 := L.length - (fw tnB L (p + 2) L.length)) (cl := true) hal hx0 hac (by omega) (by omega) (L.length - (fw tnB L (p + 2) L.length)) (fw tnB L (p + 2) L.length) none (Nat.le_refl _) (Nat.le_refl _) (by omega) (by omega) (fun q h9 => by cases h9)
    refine am_G.mono hl9 (fun r h1 hq9 => ?_)
    rw [← eN] at hq9
    rw [← eF, ← eC] at hq9
    rw [show (tgl L (L.length - tgN L p) (tgN L p) none).1 = tgE L p from rfl, show (tgl L (L.length - tgN L p) (tgN L p) none).2 = tgH L p from rfl] at hq9
    by_cases he : tgE L p < L.length
    · rw [if_pos he] at hq9
      refine ⟨?_, w2, ?_⟩
      · rw [hq9.1, show nxK L p = 2 from by unfold nxK; rw [if_pos hk, if_pos he]]; rfl
      · rw [hq9.2, show nxH L p = tgH L p from if_pos ⟨hk, he⟩, show nxT L p = rwT L (tgF L p) (tgN L p) (tgC L p) (tgE L p + 1) from by unfold nxT; rw [if_pos hk, if_pos he]]
    · rw [if_neg he] at hq9
      obtain ⟨hr9, w3, hh9⟩ := hq9
      refine ⟨?_, w3, ?_⟩
      · rw [hr9, show nxK L p = 3 from by unfold nxK; rw [if_pos hk, if_neg he]]; rfl
      · rw [hh9, show nxH L p = none from if_neg (fun h9 => he h9.2), show nxT L p = L.length from by unfold nxT; rw [if_pos hk, if_neg he]]
theorem kdA_le (L : List Int32) (p : Nat) : kdA L p ≤ 3 := by
  unfold kdA
  by_cases h1 : gx L p = 60 ∧ p + 1 < L.length
  · rw [if_pos h1]
    by_cases h2 : isLe (gx L (p + 1)) = true ∨ (gx L (p + 1) = 47 ∧ p + 2 < L.length ∧ isLe (gx L (p + 2)) = true)
    · rw [if_pos h2]; decide
    · rw [if_neg h2]
      by_cases h3 : gx L (p + 1) = 33 ∨ gx L (p + 1) = 63 ∨ gx L (p + 1) = 47
      · rw [if_pos h3]; decide
      · rw [if_neg h3]; decide
  · rw [if_neg h1]; decide
theorem kdA_1 {L : List Int32} {p : Nat} (h2 : ¬ kdA L p = 2) (h3 : ¬ kdA L p = 3) : kdA L p = 1 := by
  unfold kdA at h2 h3 ⊢
  by_cases k1 : gx L p = 60 ∧ p + 1 < L.length
  · rw [if_pos k1] at h2 h3 ⊢
    by_cases k2 : isLe (gx L (p + 1)) = true ∨ (gx L (p + 1) = 47 ∧ p + 2 < L.length ∧ isLe (gx L (p + 2)) = true)
    · rw [if_pos k2] at h2; exact absurd rfl h2
    · rw [if_neg k2] at h2 h3 ⊢
      by_cases k3 : gx L (p + 1) = 33 ∨ gx L (p + 1) = 63 ∨ gx L (p + 1) = 47
      · rw [if_pos k3] at h3; exact absurd rfl h3
      · rw [if_neg k3]
  · rw [if_neg k1]
theorem l_S_next (hal : a < h.length) (hx : tt h c s L) (hac : a ≠ c) {p0 : Nat} {cl : Bool} : ∀ m p : Nat, p + m = L.length → am_G X mt_S_next (d + 7) 70 [some (.ref a), none] [] (h.set a (sC (nI (s + p0)) none w2 s p c L.length w6 w7 (b1 cl))) (fun r h1 => r = some (.int 1) ∧ h1 = h.set a (sC (nI (s + p0)) none w2 s (fx (fun j => decide (kdA L j = 1)) p L.length) c L.length w6 w7 (b1 cl)))
  | 0, p, e => by
    have hx0 := hx
    obtain ⟨cap, g, ha, hT, hs, hc⟩ := hx
    rw [fx_0 (by omega)]
    show am_G X mt_S_next (d + 7) 70 [some (.ref a), none] [] (h.set a (.inr (5, [.int (nI (s + p0)), .int (-1), .int w2, .int (nI (s + p)), .ref c, .int (nI (s + L.length)), .int w6, .int w7, .int (b1 cl)]))) _
    refine g_aload_n (pc := 70) dc_S_next_70 rfl ?_
    refine g_getfield (pc := 71) dc_S_next_71 fl_S_15 (am_se hal) rfl ?_
    refine g_aload_n (pc := 74) dc_S_next_74 rfl ?_
    refine g_getfield (pc := 75) dc_S_next_75 fl_S_19 (am_se hal) rfl ?_
    refine q_icmp_ge (pc := 78) (tgt := 106) (s + p) (s + L.length) dc_S_next_78 (by omega) (by omega) rfl (fun hc78 => ?_) (fun hc => absurd hc (by omega))
    refine g_iconst (pc := 106) (v := 1) dc_S_next_106 rfl ?_
    exact g_ireturn dc_S_next_107 rfl ⟨rfl, rfl⟩
  | m + 1, p, e => by
    have hx0 := hx
    obtain ⟨cap, g, ha, hT, hs, hc⟩ := hx
    show am_G X mt_S_next (d + 7) 70 [some (.ref a), none] [] (h.set a (.inr (5, [.int (nI (s + p0)), .int (-1), .int w2, .int (nI (s + p)), .ref c, .int (nI (s + L.length)), .int w6, .int w7, .int (b1 cl)]))) _
    refine g_aload_n (pc := 70) dc_S_next_70 rfl ?_
    refine g_getfield (pc := 71) dc_S_next_71 fl_S_15 (am_se hal) rfl ?_
    refine g_aload_n (pc := 74) dc_S_next_74 rfl ?_
    refine g_getfield (pc := 75) dc_S_next_75 fl_S_19 (am_se hal) rfl ?_
    refine q_icmp_ge (pc := 78) (tgt := 106) (s + p) (s + L.length) dc_S_next_78 (by omega) (by omega) rfl (fun hc => absurd hc (by omega)) (fun hc78 => ?_)
    refine g_aload_n (pc := 81) dc_S_next_81 rfl ?_
    refine g_aload_n (pc := 82) dc_S_next_82 rfl ?_
    refine g_getfield (pc := 83) dc_S_next_83 fl_S_15 (am_se hal) rfl ?_
    refine g_v1 (pc := 86) (M' := mt_S_kindAt) dc_S_next_86 mo_S_kindAt im_S_kindAt se_S_kindAt ln_S_28 (am_se hal) rfl rfl (Nat.le_of_ble_eq_true rfl) (Nat.le_of_ble_eq_true rfl) (am_G.mono (t_S_kindAt (p := p) (i := p) (am_se hal) (tt_set hx0 hac) (by omega)) ?_)
    intro r h1 hq
    rw [hq.1, hq.2]
    clear hq h1 r
    refine ⟨am_nti _, ?_⟩
    have hkd86 := kdA_le L p
    refine g_iconst (pc := 89) (v := 1) dc_S_next_89 rfl ?_
    refine q_icmp_ne (pc := 90) (tgt := 106) (kdA L p) 1 dc_S_next_90 (by omega) (by omega) rfl (fun hc90 => ?_) (fun hc90 => ?_)
    · rw [fx_f (show ¬ decide (kdA L p = 1) = true from fun h9 => hc90 (of_decide_eq_true h9))]
      refine g_iconst (pc := 106) (v := 1) dc_S_next_106 rfl ?_
      exact g_ireturn dc_S_next_107 rfl ⟨rfl, rfl⟩
    · rw [fx_t (by omega) (show decide (kdA L p = 1) = true from decide_eq_true hc90)]
      refine g_aload_n (pc := 93) dc_S_next_93 rfl ?_
      refine g_dup (pc := 94) dc_S_next_94 rfl ?_
      refine g_getfield (pc := 95) dc_S_next_95 fl_S_15 (am_se hal) rfl ?_
      refine g_iconst (pc := 98) (v := 1) dc_S_next_98 rfl ?_
      refine g_iadd (pc := 99) (v := (nI (s + (p + 1)))) dc_S_next_99 (q_as s p 1) ?_
      refine g_putfield (pc := 100) dc_S_next_100 fp_S_next_15 (am_se hal) (Nat.le_of_ble_eq_true rfl) rfl rfl ?_
      rw [List.set_set]
      show am_G X _ _ _ _ _ (h.set a (.inr (5, [.int (nI (s + p0)), .int (-1), .int w2, .int (nI (s + (p + 1))), .ref c, .int (nI (s + L.length)), .int w6, .int w7, .int (b1 cl)]))) _
      refine g_goto (pc := 103) (tgt := 70) dc_S_next_103 rfl ?_
      exact l_S_next hal hx0 hac m (p + 1) (by omega)
/-- the scanner behind next: what hasHref looks at -/
def scN (L : List Int32) (s p c : Nat) (x : va_E) : Prop := ∃ w2 w6 w7 cl, x = sC (nI (s + p)) (nxH L p) w2 s (nxT L p) c L.length w6 w7 (b1 cl) ∧ ∀ q, nxH L p = some q → w6 = nI (s + tgF L p) ∧ w7 = nI (s + tgN L p) ∧ cl = tgC L p
theorem t_S_next (hal : a < h.length) (hx : tt h c s L) (hac : a ≠ c) {cl : Bool} (hp : p < L.length) : am_C X mt_S_next (d + 8) [.ref a] (h.set a (sC w0 hq w2 s p c L.length w6 w7 (b1 cl))) (fun r h1 => r = some (.int (nI (nxK L p))) ∧ ∃ x, h1 = h.set a x ∧ scN L s p c x) := by
  have hx0 := hx
  obtain ⟨cap, g, ha, hT, hs, hc⟩ := hx
  show am_G X mt_S_next (d + 8) 0 [some (.ref a), none] [] (h.set a (.inr (5, [.int w0, .int (er (hq.map (fun q => s + q.1))), .int (hto s hq w2), .int (nI (s + p)), .ref c, .int (nI (s + L.length)), .int w6, .int w7, .int (b1 cl)]))) _
  refine g_aload_n (pc := 0) dc_S_next_0 rfl ?_
  refine g_aload_n (pc := 1) dc_S_next_1 rfl ?_
  refine g_getfield (pc := 2) dc_S_next_2 fl_S_15 (am_se hal) rfl ?_
  refine g_putfield (pc := 5) dc_S_next_5 fp_S_next_22 (am_se hal) (Nat.le_of_ble_eq_true rfl) rfl rfl ?_
  rw [List.set_set]
  show am_G X _ _ _ _ _ (h.set a (.inr (5, [.int (nI (s + p)), .int (er (hq.map (fun q => s + q.1))), .int (hto s hq w2), .int (nI (s + p)), .ref c, .int (nI (s + L.length)), .int w6, .int w7, .int (b1 cl)]))) _
  refine g_aload_n (pc := 8) dc_S_next_8 rfl ?_
  refine g_iconst (pc := 9) (v := (-1)) dc_S_next_9 rfl ?_
  refine g_putfield (pc := 10) dc_S_next_10 fp_S_next_25 (am_se hal) (Nat.le_of_ble_eq_true rfl) rfl rfl ?_
  rw [List.set_set]
  show am_G X _ _ _ _ _ (h.set a (.inr (5, [.int (nI (s + p)), .int (-1), .int (hto s hq w2), .int (nI (s + p)), .ref c, .int (nI (s + L.length)), .int w6, .int w7, .int (b1 cl)]))) _
  refine g_aload_n (pc := 13) dc_S_next_13 rfl ?_
  refine g_getfield (pc := 14) dc_S_next_14 fl_S_15 (am_se hal) rfl ?_
  refine g_aload_n (pc := 17) dc_S_next_17 rfl ?_
  refine g_getfield (pc := 18) dc_S_next_18 fl_S_19 (am_se hal) rfl ?_
  refine q_icmp_lt (pc := 21) (tgt := 26) (s + p) (s + L.length) dc_S_next_21 (by omega) (by omega) rfl (fun hc21 => ?_) (fun hc => absurd hc (by omega))
  refine g_aload_n (pc := 26) dc_S_next_26 rfl ?_
  refine g_aload_n (pc := 27) dc_S_next_27 rfl ?_
  refine g_getfield (pc := 28) dc_S_next_28 fl_S_15 (am_se hal) rfl ?_
  refine g_v1 (pc := 31) (M' := mt_S_kindAt) dc_S_next_31 mo_S_kindAt im_S_kindAt se_S_kindAt ln_S_28 (am_se hal) rfl rfl (Nat.le_of_ble_eq_true rfl) (Nat.le_of_ble_eq_true rfl) (am_G.mono (t_S_kindAt (p := p) (i := p) (am_se hal) (tt_set hx0 hac) (by omega)) ?_)
  intro r h1 hq
  rw [hq.1, hq.2]
  clear hq h1 r
  refine ⟨am_nti _, ?_⟩
  have hkd31 := kdA_le L p
  refine g_istore_n (pc := 34) dc_S_next_34 (by decide) ?_
  show am_G X mt_S_next _ 35 [some (.ref a), some (.int (nI (kdA L p)))] [] _ _
  refine g_iload_n (pc := 35) dc_S_next_35 rfl ?_
  refine g_iconst (pc := 36) (v := 2) dc_S_next_36 rfl ?_
  refine q_icmp_ne (pc := 37) (tgt := 45) (kdA L p) 2 dc_S_next_37 (by omega) (by omega) rfl (fun hc37 => ?_) (fun hc37 => ?_)
  · refine g_iload_n (pc := 45) dc_S_next_45 rfl ?_
    refine g_iconst (pc := 46) (v := 3) dc_S_next_46 rfl ?_
    refine q_icmp_ne (pc := 47) (tgt := 60) (kdA L p) 3 dc_S_next_47 (by omega) (by omega) rfl (fun hc47 => ?_) (fun hc47 => ?_)
    · refine g_aload_n (pc := 60) dc_S_next_60 rfl ?_
      refine g_dup (pc := 61) dc_S_next_61 rfl ?_
      refine g_getfield (pc := 62) dc_S_next_62 fl_S_15 (am_se hal) rfl ?_
      refine g_iconst (pc := 65) (v := 1) dc_S_next_65 rfl ?_
      refine g_iadd (pc := 66) (v := (nI (s + (p + 1)))) dc_S_next_66 (q_as s p 1) ?_
      refine g_putfield (pc := 67) dc_S_next_67 fp_S_next_15 (am_se hal) (Nat.le_of_ble_eq_true rfl) rfl rfl ?_
      rw [List.set_set]
      show am_G X _ _ _ _ _ (h.set a (.inr (5, [.int (nI (s + p)), .int (-1), .int (hto s hq w2), .int (nI (s + (p + 1))), .ref c, .int (nI (s + L.length)), .int w6, .int w7, .int (b1 cl)]))) _
      refine am_wk (am_le_s (am_le_n am_le_0)) ?_
      have hk1 := kdA_1 hc37 hc47
      refine am_G.mono (l_S_next (p0 := p) (w2 := hto s hq w2) (w6 := w6) (w7 := w7) (cl := cl) hal hx0 hac (L.length - (p + 1)) (p + 1) (by omega)) (fun r h1 hq9 => ?_)
      rw [hq9.1, hq9.2]
      have e1 : nxH L p = none := if_neg (fun h9 => by omega)
      refine ⟨by rw [show nxK L p = 1 from by unfold nxK; rw [if_neg (by omega)]; exact hk1]; rfl, _, rfl, hto s hq w2, w6, w7, cl, ?_, fun q h9 => by rw [e1] at h9; cases h9⟩
      rw [e1, show nxT L p = fx (fun j => decide (kdA L j = 1)) (p + 1) L.length from by unfold nxT; rw [if_neg (by omega), if_neg (by omega)]]
    · refine g_aload_n (pc := 50) dc_S_next_50 rfl ?_
      refine g_aload_n (pc := 51) dc_S_next_51 rfl ?_
      refine g_v0 (pc := 52) (M' := mt_S_remarkTo) dc_S_next_52 mo_S_remarkTo im_S_remarkTo se_S_remarkTo ln_S_36 (am_se hal) rfl rfl (Nat.le_of_ble_eq_true rfl) (Nat.le_of_ble_eq_true rfl) (am_G.mono (t_S_remarkTo (p := p) (am_se hal) (tt_set hx0 hac) (by omega)) ?_)
      intro r h1 hq
      rw [hq.1, hq.2]
      clear hq h1 r
      refine ⟨am_nti _, ?_⟩
      refine g_putfield (pc := 55) dc_S_next_55 fp_S_next_15 (am_se hal) (Nat.le_of_ble_eq_true rfl) rfl rfl ?_
      rw [List.set_set]
      show am_G X _ _ _ _ _ (h.set a (.inr (5, [.int (nI (s + p)), .int (-1), .int (hto s hq w2), .int (nI (s + (rmT L p))), .ref c, .int (nI (s + L.length)), .int w6, .int w7, .int (b1 cl)]))) _
      refine g_iconst (pc := 58) (v := 3) dc_S_next_58 rfl ?_
      exact g_ireturn dc_S_next_59 rfl ⟨by rw [show nxK L p = 3 from by unfold nxK; rw [if_neg (by omega)]; exact hc47]; rfl, _, rfl, hto s hq w2, w6, w7, cl, by rw [show nxH L p = none from if_neg (fun h9 => by omega), show nxT L p = rmT L p from by unfold nxT; rw [if_neg (by omega), if_pos hc47]]; rfl, fun q h9 => by rw [show nxH L p = none from if_neg (fun h9 => by omega)] at h9; cases h9⟩
  · refine g_aload_n (pc := 40) dc_S_next_40 rfl ?_
    refine g_v0 (pc := 41) (M' := mt_S_passTag) dc_S_next_41 mo_S_passTag im_S_passTag se_S_passTag ln_S_32 (am_se hal) rfl rfl (Nat.le_of_ble_eq_true rfl) (Nat.le_of_ble_eq_true rfl) (am_G.mono (t_S_passTag (p := p) (w2 := hto s hq w2) hal hx0 hac hc37) ?_)
    rintro r h1 ⟨hr, w3, hh⟩
    rw [hr, hh]
    refine ⟨am_nti _, ?_⟩
    exact g_ireturn dc_S_next_44 rfl ⟨rfl, _, rfl, w3, _, _, _, rfl, fun q _ => ⟨rfl, rfl, rfl⟩⟩
theorem e_S_next (hal : a < h.length) (hx : tt h c s L) (hac : a ≠ c) {cl : Bool} (hp : L.length ≤ p) (hp2 : s + p < 2 ^ 31) : am_C X mt_S_next d [.ref a] (h.set a (sC w0 hq w2 s p c L.length w6 w7 (b1 cl))) (fun r h1 => r = some (.int 0) ∧ h1 = h.set a (sC (nI (s + p)) none (hto s hq w2) s p c L.length w6 w7 (b1 cl))) := by
  have hx0 := hx
  obtain ⟨cap, g, ha, hT, hs, hc⟩ := hx
  show am_G X mt_S_next d 0 [some (.ref a), none] [] (h.set a (.inr (5, [.int w0, .int (er (hq.map (fun q => s + q.1))), .int (hto s hq w2), .int (nI (s + p)), .ref c, .int (nI (s + L.length)), .int w6, .int w7, .int (b1 cl)]))) _
  refine g_aload_n (pc := 0) dc_S_next_0 rfl ?_
  refine g_aload_n (pc := 1) dc_S_next_1 rfl ?_
  refine g_getfield (pc := 2) dc_S_next_2 fl_S_15 (am_se hal) rfl ?_
  refine g_putfield (pc := 5) dc_S_next_5 fp_S_next_22 (am_se hal) (Nat.le_of_ble_eq_true rfl) rfl rfl ?_
  rw [List.set_set]
  show am_G X _ _ _ _ _ (h.set a (.inr (5, [.int (nI (s + p)), .int (er (hq.map (fun q => s + q.1))), .int (hto s hq w2), .int (nI (s + p)), .ref c, .int (nI (s + L.length)), .int w6, .int w7, .int (b1 cl)]))) _
  refine g_aload_n (pc := 8) dc_S_next_8 rfl ?_
  refine g_iconst (pc := 9) (v := (-1)) dc_S_next_9 rfl ?_
  refine g_putfield (pc := 10) dc_S_next_10 fp_S_next_25 (am_se hal) (Nat.le_of_ble_eq_true rfl) rfl rfl ?_
  rw [List.set_set]
  show am_G X _ _ _ _ _ (h.set a (.inr (5, [.int (nI (s + p)), .int (-1), .int (hto s hq w2), .int (nI (s + p)), .ref c, .int (nI (s + L.length)), .int w6, .int w7, .int (b1 cl)]))) _
  refine g_aload_n (pc := 13) dc_S_next_13 rfl ?_
  refine g_getfield (pc := 14) dc_S_next_14 fl_S_15 (am_se hal) rfl ?_
  refine g_aload_n (pc := 17) dc_S_next_17 rfl ?_
  refine g_getfield (pc := 18) dc_S_next_18 fl_S_19 (am_se hal) rfl ?_
  refine q_icmp_lt (pc := 21) (tgt := 26) (s + p) (s + L.length) dc_S_next_21 (by omega) (by omega) rfl (fun hc => absurd hc (by omega)) (fun hc21 => ?_)
  refine g_iconst (pc := 24) (v := 0) dc_S_next_24 rfl ?_
  exact g_ireturn dc_S_next_25 rfl ⟨rfl, rfl⟩
theorem t_S_open (hal : a < h.length) : am_C X mt_S_open d [.ref a, .ref c, .int (nI s), .int (nI (s + L.length))] (h.set a (.inr (5, [.int w0, .int w1, .int w2, .int w3, v4, .int w4, .int w6, .int w7, .int w8]))) (fun r h1 => r = none ∧ h1 = h.set a (.inr (5, [.int w0, .int w1, .int w2, .int (nI s), .ref c, .int (nI (s + L.length)), .int w6, .int w7, .int w8]))) := by
  show am_G X mt_S_open d 0 [some (.ref a), some (.ref c), some (.int (nI s)), some (.int (nI (s + L.length)))] [] (h.set a (.inr (5, [.int w0, .int w1, .int w2, .int w3, v4, .int w4, .int w6, .int w7, .int w8]))) _
  refine g_aload_n (pc := 0) dc_S_open_0 rfl ?_
  refine g_aload_n (pc := 1) dc_S_open_1 rfl ?_
  refine g_putfield (pc := 2) dc_S_open_2 fp_S_open_9 (am_se hal) (Nat.le_of_ble_eq_true rfl) rfl rfl ?_
  rw [List.set_set]
  refine g_aload_n (pc := 5) dc_S_open_5 rfl ?_
  refine g_iload_n (pc := 6) dc_S_open_6 rfl ?_
  refine g_putfield (pc := 7) dc_S_open_7 fp_S_open_15 (am_se hal) (Nat.le_of_ble_eq_true rfl) rfl rfl ?_
  rw [List.set_set]
  refine g_aload_n (pc := 10) dc_S_open_10 rfl ?_
  refine g_iload_n (pc := 11) dc_S_open_11 rfl ?_
  refine g_putfield (pc := 12) dc_S_open_12 fp_S_open_19 (am_se hal) (Nat.le_of_ble_eq_true rfl) rfl rfl ?_
  rw [List.set_set]
  exact g_return dc_S_open_15 rfl ⟨rfl, rfl⟩
theorem n_S_hasHref {nm : Nat} {cl : Bool} (hS : h[a]? = some (sC w0 none w2 s p c L.length w6 w7 (b1 cl))) : am_C X mt_S_hasHref d [.ref a, .retAddr nm] h (fun r h1 => r = some (.int 0) ∧ h1 = h) := by
  show am_G X mt_S_hasHref d 0 [some (.ref a), some (.retAddr nm)] [] h _
  have hS1 : h[a]? = some (.inr (5, [.int w0, .int (-1), .int w2, .int (nI (s + p)), .ref c, .int (nI (s + L.length)), .int w6, .int w7, .int (b1 cl)])) := hS
  refine g_aload_n (pc := 0) dc_S_hasHref_0 rfl ?_
  refine g_getfield (pc := 1) dc_S_hasHref_1 fl_S_39 hS1 rfl ?_
  refine q_ifb_ne (pc := 4) (tgt := 38) dc_S_hasHref_4 rfl (fun hc4 => ?_) (fun hc4 => ?_)
  · refine g_iconst (pc := 38) (v := 0) dc_S_hasHref_38 rfl ?_
    exact g_zreturn dc_S_hasHref_39 rfl rfl ⟨rfl, rfl⟩
  · refine g_aload_n (pc := 7) dc_S_hasHref_7 rfl ?_
    refine g_getfield (pc := 8) dc_S_hasHref_8 fl_S_25 hS1 rfl ?_
    refine g_iconst (pc := 11) (v := (-1)) dc_S_hasHref_11 rfl ?_
    refine g_icmp_eq (pc := 12) (tgt := 38) dc_S_hasHref_12 rfl (fun _ => ?_) (fun hc => absurd hc (by decide))
    refine g_iconst (pc := 38) (v := 0) dc_S_hasHref_38 rfl ?_
    exact g_zreturn dc_S_hasHref_39 rfl rfl ⟨rfl, rfl⟩
/-- the href of what was passed, if it is an opening tag of that name -/
def nxW (nm : Nat) (L : List Int32) (p : Nat) : Option (Nat × Nat) := if !(tgC L p) && isw nm L (tgF L p) (tgN L p) then nxH L p else none
theorem nxH_2 {L : List Int32} {p : Nat} {q : Nat × Nat} (h : nxH L p = some q) : kdA L p = 2 ∧ tgH L p = some q := by
  unfold nxH at h
  by_cases h1 : kdA L p = 2 ∧ tgE L p < L.length
  · rw [if_pos h1] at h; exact ⟨h1.1, h⟩
  · rw [if_neg h1] at h; cases h
theorem q_S_hasHref {x : va_E} {nm : Nat} (hi : nm < 42) (hS : h[a]? = some x) (hN : scN L s p c x) (hx : tt h c s L) : am_C X mt_S_hasHref (d + 5) [.ref a, .retAddr nm] h (fun r h1 => r = some (.int (b1 (nxW nm L p).isSome)) ∧ h1 = h) := by
  obtain ⟨w2, w6, w7, cl, rfl, hw⟩ := hN
  cases hH : nxH L p with
  | none =>
    rw [hH] at hS
    have e : nxW nm L p = none := by unfold nxW; rw [hH]; exact ite_self _
    rw [e]
    exact n_S_hasHref hS
  | some q =>
    have k2 := nxH_2 hH
    have hb := tg_bd k2.1
    have hq2 := hb.2.2.2.2.2 q k2.2
    obtain ⟨rfl, rfl, rfl⟩ := hw q hH
    rw [hH] at hS
    have hsz : s + L.length < 2 ^ 31 := by
      obtain ⟨cap, g, ha, hT, hs, hc⟩ := hx
      omega
    have h9 := t_S_hasHref (X := X) (d := d) (ho := some (s + q.1)) (nm := nm) hi (fun k hk => by cases hk; omega) hS hx hb.2.1 (by omega)
    refine am_G.mono h9 (fun r h1 hq9 => ⟨?_, hq9.2⟩)
    rw [hq9.1]
    unfold nxW
    rw [hH]
    cases tgC L p <;> cases isw nm L (tgF L p) (tgN L p) <;> rfl
end SCB
