/-! ===== rows of texts: the class's Rows, what is read of them ===== -/
def isR (h : List va_E) (a ab b cap e ecap : Nat) (T : List (List Int32)) (P : List Int32) : Prop := h[a]? = some (.inr (4, [.ref ab, .ref e, .int (nI T.length)])) ∧ isB h ab b cap (T.flatten ++ P) ∧ ∃ gE : Nat → Int32, h[e]? = some (.inl (1, ecap, .inl gE)) ∧ (∀ k, k < T.length → gE k = nI (ofs T (k + 1))) ∧ T.length ≤ ecap ∧ ecap ≤ 33554432
theorem isB.tt {h : List va_E} {a b cap : Nat} {L : List Int32} (x : isB h a b cap L) : tt h b 0 L := by
  obtain ⟨g, -, h2, h3, h4, h5, -⟩ := x
  exact ⟨cap, g, h2, tx_of_sl L 0 h3, by omega, by omega⟩
theorem isR.tt {h : List va_E} {a ab b cap e ecap k : Nat} {T : List (List Int32)} {P : List Int32} (x : isR h a ab b cap e ecap T P) (hk : k < T.length) : tt h b (ofs T k) (gT T k) := by
  obtain ⟨-, x2, -⟩ := x
  obtain ⟨cp, g, h1, h2, h3, h4⟩ := x2.tt
  have h5 := ofs_s hk
  have h6 := ofs_mono (T := T) (j := k + 1) (k := T.length) (by omega) (Nat.le_refl _)
  rw [List.length_append, flat_len] at h3
  exact ⟨cp, g, h1, flat_tx h2 hk, by omega, h4⟩
theorem isR.of {h : List va_E} {a ab b cap e ecap k : Nat} {T : List (List Int32)} {P : List Int32} (x : isR h a ab b cap e ecap T P) (hk : k ≤ T.length) : ofs T k ≤ 33554432 := by
  obtain ⟨-, ⟨g, -, h2, h3, h4, h5, -⟩, -⟩ := x
  have h6 := ofs_mono (T := T) (j := k) (k := T.length) hk (Nat.le_refl _)
  rw [List.length_append, flat_len] at h4
  omega
theorem t_sameBytes {X : am_X} {d : Nat} {h : List va_E} {a c s s2 f e n : Nat} {L M : List Int32} (hx : tt h a s L) (hy : tt h c s2 M) (h1 : f + n ≤ L.length) (h2 : e + n ≤ M.length) : am_C X mt_W_sameBytes d [.ref a, .int (nI (s + f)), .ref c, .int (nI (s2 + e)), .int (nI n)] h (fun r h1 => r = some (.int (b1 (decide (sub L f (f + n) = sub M e (e + n))))) ∧ h1 = h) := by
  obtain ⟨cap, g, ha, hT, hs, hc⟩ := hx
  obtain ⟨cap2, g2, ha2, hT2, hs2, hc2⟩ := hy
  refine am_G.mono (c_W_sameBytes ha ha2 hc hc2 (by omega) (by omega)) (fun r h1 hq => ⟨?_, hq.2⟩)
  rw [hq.1, sl_sub hT n f (by assumption), sl_sub hT2 n e (by assumption)]
section RWS
variable {X : am_X} {d a ab b cap e ecap i k c s f t : Nat} {h : List va_E} {T : List (List Int32)} {P L : List Int32}
theorem c_R_from (hR : isR h a ab b cap e ecap T P) (hi : i ≤ T.length) : am_C X mt_R_from d [.ref a, .int (nI i)] h (fun r h1 => r = some (.int (nI (ofs T i))) ∧ h1 = h) := by
  show am_G X mt_R_from d 0 [some (.ref a), some (.int (nI i))] [] h _
  obtain ⟨ha, hB, gE, he, hE, hl, hec⟩ := hR
  refine g_iload_n (pc := 0) dc_R_from_0 rfl ?_
  refine q_if_ne (pc := 1) (tgt := 8) i dc_R_from_1 (by omega) rfl (fun hc1 => ?_) (fun hc1 => ?_)
  · refine g_aload_n (pc := 8) dc_R_from_8 rfl ?_
    refine g_getfield (pc := 9) dc_R_from_9 fl_R_20 ha rfl ?_
    refine g_iload_n (pc := 12) dc_R_from_12 rfl ?_
    refine g_iconst (pc := 13) (v := 1) dc_R_from_13 rfl ?_
    refine g_isub (pc := 14) (v := (nI (i - 1))) dc_R_from_14 (q_sub (a := i) (b := 1) (by omega)) ?_
    refine q_iaload (pc := 15) (i - 1) dc_R_from_15 he (by omega) (by omega) ?_
    rw [hE (i - 1) (by omega), Nat.sub_add_cancel (by omega)]
    exact g_ireturn dc_R_from_16 rfl ⟨rfl, rfl⟩
  · refine g_iconst (pc := 4) (v := 0) dc_R_from_4 rfl ?_
    refine g_goto (pc := 5) (tgt := 16) dc_R_from_5 rfl ?_
    exact g_ireturn dc_R_from_16 rfl ⟨by rw [hc1]; rfl, rfl⟩
theorem c_R_to (hR : isR h a ab b cap e ecap T P) (hi : i < T.length) : am_C X mt_R_to d [.ref a, .int (nI i)] h (fun r h1 => r = some (.int (nI (ofs T (i + 1)))) ∧ h1 = h) := by
  show am_G X mt_R_to d 0 [some (.ref a), some (.int (nI i))] [] h _
  obtain ⟨ha, hB, gE, he, hE, hl, hec⟩ := hR
  refine g_aload_n (pc := 0) dc_R_to_0 rfl ?_
  refine g_getfield (pc := 1) dc_R_to_1 fl_R_20 ha rfl ?_
  refine g_iload_n (pc := 4) dc_R_to_4 rfl ?_
  refine q_iaload (pc := 5) i dc_R_to_5 he (by omega) (by omega) ?_
  rw [hE i (by omega)]
  exact g_ireturn dc_R_to_6 rfl ⟨rfl, rfl⟩
theorem c_R_same (hR : isR h a ab b cap e ecap T P) (hi : i < T.length) (hx : tt h c s L) (hft : f ≤ t) (ht : t ≤ L.length) : am_C X mt_R_same (d + 1) [.ref a, .int (nI i), .ref c, .int (nI (s + f)), .int (nI (s + t))] h (fun r h1 => r = some (.int (b1 (decide (gT T i = sub L f t)))) ∧ h1 = h) := by
  show am_G X mt_R_same (d + 1) 0 [some (.ref a), some (.int (nI i)), some (.ref c), some (.int (nI (s + f))), some (.int (nI (s + t))), none] [] h _
  have hR0 := hR
  have hof := hR.of (k := i + 1) (by omega)
  have hsl := sub_len (L := L) (f := f) ht
  have hsu := ofs_s hi
  have hbd : s + L.length < 2 ^ 30 := by obtain ⟨cp, g, -, -, q1, q2⟩ := hx; omega
  obtain ⟨ha, hB, gE, he, hE, hl, hec⟩ := hR
  refine g_aload_n (pc := 0) dc_R_same_0 rfl ?_
  refine g_iload_n (pc := 1) dc_R_same_1 rfl ?_
  refine g_v1 (pc := 2) (M' := mt_R_from) dc_R_same_2 mo_R_from im_R_from se_R_from ln_R_31 ha rfl rfl (Nat.le_of_ble_eq_true rfl) (Nat.le_of_ble_eq_true rfl) (am_G.mono (c_R_from (d := d) hR0 (i := i) (by omega)) ?_)
  intro r h1 hq
  rw [hq.1, hq.2]
  clear hq h1 r
  refine ⟨am_nti _, ?_⟩
  refine g_istore (pc := 5) dc_R_same_5 (by decide) ?_
  refine g_aload_n (pc := 7) dc_R_same_7 rfl ?_
  refine g_getfield (pc := 8) dc_R_same_8 fl_R_20 ha rfl ?_
  refine g_iload_n (pc := 11) dc_R_same_11 rfl ?_
  refine q_iaload (pc := 12) i dc_R_same_12 he (by omega) (by omega) ?_
  rw [hE i (by omega)]
  refine g_iload (pc := 13) dc_R_same_13 rfl ?_
  refine g_isub (pc := 15) (v := (nI ((gT T i).length))) dc_R_same_15 (by rw [q_sub (by omega), hsu, Nat.add_sub_cancel_left]) ?_
  refine g_iload (pc := 16) dc_R_same_16 rfl ?_
  refine g_iload_n (pc := 18) dc_R_same_18 rfl ?_
  refine g_isub (pc := 19) (v := (nI (t - f))) dc_R_same_19 (q_ss (s := s) (a := t) (b := f) (by omega)) ?_
  refine q_icmp_ne (pc := 20) (tgt := 48) ((gT T i).length) (t - f) dc_R_same_20 (by omega) (by omega) rfl (fun hc20 => ?_) (fun hc20 => ?_)
  · refine g_iconst (pc := 48) (v := 0) dc_R_same_48 rfl ?_
    exact g_zreturn dc_R_same_49 rfl rfl ⟨congrArg (fun z => some (Value.int z)) (b1_f (fun h9 => hc20 (by rw [h9, hsl]))), rfl⟩
  · refine g_aload_n (pc := 23) dc_R_same_23 rfl ?_
    refine g_getfield (pc := 24) dc_R_same_24 fl_R_14 ha rfl ?_
    refine g_getfield (pc := 27) dc_R_same_27 fl_R_51 hB.ha rfl ?_
    refine g_iload (pc := 30) dc_R_same_30 rfl ?_
    refine g_aload_n (pc := 32) dc_R_same_32 rfl ?_
    refine g_iload_n (pc := 33) dc_R_same_33 rfl ?_
    refine g_iload (pc := 34) dc_R_same_34 rfl ?_
    refine g_iload_n (pc := 36) dc_R_same_36 rfl ?_
    refine g_isub (pc := 37) (v := (nI (t - f))) dc_R_same_37 (q_ss (s := s) (a := t) (b := f) (by omega)) ?_
    refine g_s5 (pc := 38) (M' := mt_W_sameBytes) dc_R_same_38 mo_W_sameBytes st_W_sameBytes ln_R_55 (Nat.le_of_ble_eq_true rfl) (Nat.le_of_ble_eq_true rfl) (am_G.mono (by have h9 := t_sameBytes (X := X) (d := d) (s := ofs T i) (f := 0) (n := t - f) (hR0.tt hi) hx (by omega) (e := f) (by omega); rw [Nat.add_zero] at h9; exact h9) ?_)
    intro r h1 hq
    rw [hq.1, hq.2]
    clear hq h1 r
    refine ⟨am_nti _, ?_⟩
    refine q_ifb_eq (pc := 41) (tgt := 48) dc_R_same_41 rfl (fun hc41 => ?_) (fun hc41 => ?_)
    · refine g_iconst (pc := 48) (v := 0) dc_R_same_48 rfl ?_
      exact g_zreturn dc_R_same_49 rfl rfl ⟨congrArg (fun z => some (Value.int z)) (b1_f (by have h9 := of_decide_eq_false hc41; rw [Nat.zero_add, sub_all hc20.symm, show f + (t - f) = t by omega] at h9; exact h9)), rfl⟩
    · refine g_iconst (pc := 44) (v := 1) dc_R_same_44 rfl ?_
      refine g_goto (pc := 45) (tgt := 49) dc_R_same_45 rfl ?_
      exact g_zreturn dc_R_same_49 rfl rfl ⟨congrArg (fun z => some (Value.int z)) (b1_t (by have h9 := of_decide_eq_true hc41; rw [Nat.zero_add, sub_all hc20.symm, show f + (t - f) = t by omega] at h9; exact h9)), rfl⟩
theorem v_R_numberOf {Q : Option Value → List va_E → Prop}  (hR : isR h a ab b cap e ecap T P) (hx : tt h c s L) (hft : f ≤ t) (ht : t ≤ L.length) : ∀ n i : Nat, i + n = T.length → am_G X mt_R_numberOf (d + 2) 3 [some (.ref a), some (.ref c), some (.int (nI (s + f))), some (.int (nI (s + t))), some (.int (nI (fx (fun j => decide (¬ gT T j = sub L f t)) i T.length)))] [] h Q → am_G X mt_R_numberOf (d + 2) 3 [some (.ref a), some (.ref c), some (.int (nI (s + f))), some (.int (nI (s + t))), some (.int (nI i))] [] h Q
  | 0, i, e, K => by
    have e1 : fx (fun j => decide (¬ gT T j = sub L f t)) i T.length = i := fx_0 (by omega)
    rw [e1] at K
    exact K
  | n + 1, i, e, K => by
    by_cases hp : (fun j => decide (¬ gT T j = sub L f t)) i = true
    · rw [fx_t (P := fun j => decide (¬ gT T j = sub L f t)) (f := i) (t := T.length) (by omega) hp] at K
      have hec := hR.2.2
      obtain ⟨gE, -, -, hl, hec⟩ := hec
      refine g_iload (pc := 3) dc_R_numberOf_3 rfl ?_
      refine g_aload_n (pc := 5) dc_R_numberOf_5 rfl ?_
      refine g_getfield (pc := 6) dc_R_numberOf_6 fl_R_27 hR.1 rfl ?_
      refine q_icmp_ge (pc := 9) (tgt := 33) i T.length dc_R_numberOf_9 (by omega) (by omega) rfl (fun hc => absurd hc (by omega)) (fun hc9 => ?_)
      refine g_aload_n (pc := 12) dc_R_numberOf_12 rfl ?_
      refine g_iload (pc := 13) dc_R_numberOf_13 rfl ?_
      refine g_aload_n (pc := 15) dc_R_numberOf_15 rfl ?_
      refine g_iload_n (pc := 16) dc_R_numberOf_16 rfl ?_
      refine g_iload_n (pc := 17) dc_R_numberOf_17 rfl ?_
      refine g_v4 (pc := 18) (M' := mt_R_same) dc_R_numberOf_18 mo_R_same im_R_same se_R_same ln_R_59 hR.1 rfl rfl (Nat.le_of_ble_eq_true rfl) (Nat.le_of_ble_eq_true rfl) (am_G.mono (c_R_same (d := d) (i := i) hR (by omega) hx hft ht) ?_)
      intro r h1 hq
      rw [hq.1, hq.2]
      clear hq h1 r
      refine ⟨am_nti _, ?_⟩
      refine q_ifb_eq (pc := 21) (tgt := 27) dc_R_numberOf_21 rfl (fun hc21 => ?_) (fun hc21 => ?_)
      · refine g_iinc (pc := 27) (v := (nI (i + 1))) dc_R_numberOf_27 rfl (nI_add i 1) (by decide) ?_
        refine g_goto (pc := 30) (tgt := 3) dc_R_numberOf_30 rfl ?_
        exact v_R_numberOf hR hx hft ht n (i + 1) (by omega) K
      · exact absurd (of_decide_eq_true hc21) (of_decide_eq_true hp)
    · rw [fx_f (P := fun j => decide (¬ gT T j = sub L f t)) (f := i) (t := T.length) hp] at K
      exact K
theorem c_R_numberOf (hR : isR h a ab b cap e ecap T P) (hx : tt h c s L) (hft : f ≤ t) (ht : t ≤ L.length) : am_C X mt_R_numberOf (d + 2) [.ref a, .ref c, .int (nI (s + f)), .int (nI (s + t))] h (fun r h1 => r = some (.int (er (nbr T (sub L f t)))) ∧ h1 = h) := by
  show am_G X mt_R_numberOf (d + 2) 0 [some (.ref a), some (.ref c), some (.int (nI (s + f))), some (.int (nI (s + t))), none] [] h _
  have hec := hR.2.2
  obtain ⟨gE, -, -, hl, hec⟩ := hec
  unfold nbr
  have hb := fx_bd (P := fun j => decide (¬ gT T j = sub L f t)) (f := 0) (t := T.length) (Nat.zero_le _)
  have ho := fx_out (P := fun j => decide (¬ gT T j = sub L f t)) (f := 0) (t := T.length)
  refine g_iconst (pc := 0) (v := 0) dc_R_numberOf_0 rfl ?_
  refine g_istore (pc := 1) dc_R_numberOf_1 (by decide) ?_
  refine v_R_numberOf hR hx hft ht T.length 0 (by omega) ?_
  generalize fx (fun j => decide (¬ gT T j = sub L f t)) 0 T.length = k at *
  refine g_iload (pc := 3) dc_R_numberOf_3 rfl ?_
  refine g_aload_n (pc := 5) dc_R_numberOf_5 rfl ?_
  refine g_getfield (pc := 6) dc_R_numberOf_6 fl_R_27 hR.1 rfl ?_
  refine q_icmp_ge (pc := 9) (tgt := 33) k T.length dc_R_numberOf_9 (by omega) (by omega) rfl (fun hc9 => ?_) (fun hc9 => ?_)
  · refine g_iconst (pc := 33) (v := (-1)) dc_R_numberOf_33 rfl ?_
    exact g_ireturn dc_R_numberOf_34 rfl ⟨by rw [if_neg (by omega)]; rfl, rfl⟩
  · refine g_aload_n (pc := 12) dc_R_numberOf_12 rfl ?_
    refine g_iload (pc := 13) dc_R_numberOf_13 rfl ?_
    refine g_aload_n (pc := 15) dc_R_numberOf_15 rfl ?_
    refine g_iload_n (pc := 16) dc_R_numberOf_16 rfl ?_
    refine g_iload_n (pc := 17) dc_R_numberOf_17 rfl ?_
    refine g_v4 (pc := 18) (M' := mt_R_same) dc_R_numberOf_18 mo_R_same im_R_same se_R_same ln_R_59 hR.1 rfl rfl (Nat.le_of_ble_eq_true rfl) (Nat.le_of_ble_eq_true rfl) (am_G.mono (c_R_same (d := d) (i := k) hR (by omega) hx hft ht) ?_)
    intro r h1 hq
    rw [hq.1, hq.2]
    clear hq h1 r
    refine ⟨am_nti _, ?_⟩
    refine q_ifb_eq (pc := 21) (tgt := 27) dc_R_numberOf_21 rfl (fun hc21 => ?_) (fun hc21 => ?_)
    · exact absurd (ho (by omega)) (by show ¬ decide (¬ gT T k = sub L f t) = false; rw [decide_eq_true (of_decide_eq_false hc21)]; decide)
    · refine g_iload (pc := 24) dc_R_numberOf_24 rfl ?_
      exact g_ireturn dc_R_numberOf_26 rfl ⟨by rw [if_pos (by omega)]; rfl, rfl⟩
end RWS
