/-! ===== the class reads a page's links and words ===== -/
def eB (w : Gw) (h : List va_E) (i a : Nat) : Prop := ∃ L, bE w h i a L
def eR (w : Gw) (h : List va_E) (i j a ab : Nat) : Prop := ∃ T P, rE w h i j a ab T P
def eS (w : Gw) (h : List va_E) : Prop := ∃ x, cO w h 21 21 x ∧ scX x
section RDL
variable {X : am_X} {d c s p q ja aa i j a ab : Nat} {w w1 : Gw} {h h1 : List va_E} {L D E Bs : List Int32} {Ls T : List (List Int32)} {I : List Nat} {x : va_E}
theorem eB.fr (y : eB w h i a) (f : fr w w1 h h1 I) (hi : ¬ i ∈ I) : eB w1 h1 i a := by
  obtain ⟨L, y⟩ := y
  exact ⟨L, y.fr f hi⟩
theorem eR.fr (y : eR w h i j a ab) (f : fr w w1 h h1 I) (hi : ¬ i ∈ I) (hj : ¬ j ∈ I) : eR w1 h1 i j a ab := by
  obtain ⟨T, P, y⟩ := y
  exact ⟨T, P, y.fr f hi hj⟩
theorem eS.fr (y : eS w h) (f : fr w w1 h h1 I) (hi : ¬ 21 ∈ I) : eS w1 h1 := by
  obtain ⟨x, y, z⟩ := y
  exact ⟨x, y.fr f hi, z⟩
theorem aR.fr (y : aR w h) (f : fr w w1 h h1 I) (h7 : ¬ 7 ∈ I) (h10 : ¬ 10 ∈ I) (h8 : ¬ 8 ∈ I) : aR w1 h1 := by
  obtain ⟨y1, ⟨P, y2⟩, y3⟩ := y
  exact ⟨y1.fr f h7, ⟨P, y2.fr f h10⟩, by rw [f.2.1 8 h8]; exact y3⟩
theorem scX.n (y : scX x) : am_n x = 9 := by
  obtain ⟨w0, w1, w2, w3, v4, w4, w6, w7, cl, e⟩ := y
  rw [e]; rfl
def scF (x : va_E) : List Value := match x with
  | .inr (_, fs) => fs
  | .inl _ => []
theorem scC (hS : cO w h 21 21 x) (hN : scX x) : h[21]? = some (.inr (5, scF x)) := by
  obtain ⟨w0, w1, w2, w3, v4, w4, w6, w7, cl, e⟩ := hN
  rw [hS.1, e]
  rfl
theorem w_S_open (hS : cO w h 21 21 x) (hN : scX x) : am_C X mt_S_open d [.ref 21, .ref c, .int (nI s), .int (nI (s + L.length))] h (fun r h1 => r = none ∧ ∃ w1, fr w w1 h h1 [21] ∧ ∃ x1, cO w1 h1 21 21 x1 ∧ scR L s 0 c x1) :=
  am_G.mono (c_S_open hS.1 hN) (fun r h1 hz => by
    obtain ⟨z1, x1, z2, z3⟩ := hz
    rw [z2]
    exact ⟨z1, w, fr.st hS.1 (z3.any.n.trans hN.n.symm) hS.2, x1, ⟨am_se (am_lt hS.1), hS.2⟩, z3⟩)
theorem w_S_next (hS : cO w h 21 21 x) (hN : scR L s p c x) (hx : tO w h q c s L) (hp : p < L.length) : am_C X mt_S_next (d + 8) [.ref 21] h (fun r h1 => r = some (.int (nI (nxK L p))) ∧ ∃ w1, fr w w1 h h1 [21] ∧ ∃ x1, cO w1 h1 21 21 x1 ∧ scN L s p c x1) :=
  am_G.mono (c_S_next hS.1 hN hx.1.tt hp) (fun r h1 hz => by
    obtain ⟨z1, x1, z2, z3⟩ := hz
    rw [z2]
    exact ⟨z1, w, fr.st hS.1 (z3.sR.any.n.trans hN.any.n.symm) hS.2, x1, ⟨am_se (am_lt hS.1), hS.2⟩, z3⟩)
theorem w_S_end (hS : cO w h 21 21 x) (hN : scR L s p c x) (hx : tO w h q c s L) (hp : L.length ≤ p) (hp2 : s + p < 2 ^ 31) : am_C X mt_S_next d [.ref 21] h (fun r h1 => r = some (.int 0) ∧ ∃ w1, fr w w1 h h1 [21] ∧ ∃ x1, cO w1 h1 21 21 x1 ∧ scX x1) :=
  am_G.mono (c_S_end hS.1 hN hx.1.tt hp hp2) (fun r h1 hz => by
    obtain ⟨z1, x1, z2, z3⟩ := hz
    rw [z2]
    exact ⟨z1, w, fr.st hS.1 (z3.n.trans hN.any.n.symm) hS.2, x1, ⟨am_se (am_lt hS.1), hS.2⟩, z3⟩)
theorem nxW_H {nm : Nat} {z : Nat × Nat} (h : nxW nm L p = some z) : nxH L p = some z := by
  unfold nxW at h
  split at h
  · exact h
  · cases h
theorem scN.hr {z : Nat × Nat} (hN : scN L s p c x) (hH : nxH L p = some z) : ∃ w6 w7 w8, x = .inr (5, [.int (nI (s + p)), .int (nI (s + z.1)), .int (nI (s + z.2)), .int (nI (s + nxT L p)), .ref c, .int (nI (s + L.length)), .int w6, .int w7, .int w8]) := by
  obtain ⟨w2, w6, w7, cl, e, -⟩ := hN
  rw [hH] at e
  exact ⟨w6, w7, b1 cl, e⟩
theorem scN.fl (hN : scN L s p c x) : ∃ w1 w2 w6 w7 w8, x = .inr (5, [.int (nI (s + p)), .int w1, .int w2, .int (nI (s + nxT L p)), .ref c, .int (nI (s + L.length)), .int w6, .int w7, .int w8]) := by
  obtain ⟨w2, w6, w7, cl, e, -⟩ := hN
  exact ⟨_, _, w6, w7, b1 cl, e⟩
theorem nxK_b (L : List Int32) (p : Nat) : 1 ≤ nxK L p ∧ nxK L p ≤ 3 := by
  have h1 := kdA_le L p
  have h2 : 1 ≤ kdA L p := by unfold kdA; (repeat' split) <;> omega
  unfold nxK
  repeat' split
  all_goals omega
theorem nbr_n {T : List (List Int32)} {D : List Int32} (h : nbr T D = none) : ¬ D ∈ T := by
  intro hm
  obtain ⟨k, hk, e⟩ := gT_in hm
  unfold nbr at h
  by_cases h9 : fx (fun j => decide (¬ gT T j = D)) 0 T.length < T.length
  · rw [if_pos h9] at h; cases h
  · have := fx_in (P := fun j => decide (¬ gT T j = D)) (f := 0) (t := T.length) (j := k) (Nat.zero_le _) (by omega)
    exact of_decide_eq_true this e
theorem nbr_s {T : List (List Int32)} {D : List Int32} {k : Nat} (h : nbr T D = some k) : k < T.length ∧ gT T k = D := by
  unfold nbr at h
  by_cases h9 : fx (fun j => decide (¬ gT T j = D)) 0 T.length < T.length
  · rw [if_pos h9] at h
    cases h
    have := fx_out (P := fun j => decide (¬ gT T j = D)) h9
    exact ⟨h9, Decidable.not_not.mp (of_decide_eq_false this)⟩
  · rw [if_neg h9] at h; cases h
theorem w_P_addLink (hP : pR w h) (hR : rE w h 13 14 13 14 Ls []) (hB : bE w h 8 8 E) (hE : E.length ≤ 200) (hl : Ls.length < 60) (hl2 : Ls.flatten.length ≤ 12000) : am_C X mt_P_addLink (d + 4) [.ref 12, .ref 8] h (fun r h1 => r = none ∧ ∃ w1, fr w w1 h h1 [13, 14] ∧ rE w1 h1 13 14 13 14 (if E ∈ Ls then Ls else Ls ++ [E]) []) := by
  show am_G X mt_P_addLink (d + 4) 0 [some (.ref 12), some (.ref 8)] [] h _
  have hR0 := hR
  obtain ⟨b, e, x1, x2, x3, x4, x9⟩ := hR
  obtain ⟨b8, hb⟩ := hB
  have hx := hb.tO
  have e9 : sub E 0 E.length = E := sub_all rfl
  have hn := w_R_numberOf (X := X) (d := d + 1) (f := 0) (t := E.length) hR0 hx (Nat.zero_le _) (Nat.le_refl _)
  simp only [Nat.zero_add] at hn
  rw [e9] at hn
  have ha := w_R_add (X := X) (d := d) (f := 0) (t := E.length) (by decide) (by decide) (by decide) hR0 hx (by decide) (Nat.zero_le _) (Nat.le_refl _) (by show 2 * (Ls.flatten.length + (E.length - 0)) + 16 ≤ 40016; omega) (by show _ ≤ 40016; omega)
  simp only [Nat.zero_add] at ha
  rw [e9] at ha
  have hxb : ∀ k, nbr Ls E = some k → k < 2 ^ 31 := fun k h9 => by have := (nbr_s h9).1; omega
  refine g_aload_n (pc := 0) dc_P_addLink_0 rfl ?_
  refine g_getfield (pc := 1) dc_P_addLink_1 fl_P_14 hP.1 rfl ?_
  refine g_aload_n (pc := 4) dc_P_addLink_4 rfl ?_
  refine g_getfield (pc := 5) dc_P_addLink_5 fl_P_73 hb.1.ha rfl ?_
  refine g_iconst (pc := 8) (v := 0) dc_P_addLink_8 rfl ?_
  refine g_aload_n (pc := 9) dc_P_addLink_9 rfl ?_
  refine g_getfield (pc := 10) dc_P_addLink_10 fl_P_77 hb.1.ha rfl ?_
  refine g_v3 (pc := 13) (M' := mt_R_numberOf) dc_P_addLink_13 mo_R_numberOf im_R_numberOf se_R_numberOf ln_P_100 x1.1 rfl rfl (Nat.le_of_ble_eq_true rfl) (Nat.le_of_ble_eq_true rfl) (am_G.mono hn ?_)
  intro r h1 hq
  rw [hq.1, hq.2]
  clear hq h1 r
  refine ⟨am_nti _, ?_⟩
  refine g_iconst (pc := 16) (v := (-1)) dc_P_addLink_16 rfl ?_
  refine q_o_ne (pc := 17) (tgt := 36) dc_P_addLink_17 hxb rfl (fun k17 hc17 => ?_) (fun hc17 => ?_)
  · have hk17 := hxb k17 hc17
    exact g_return dc_P_addLink_36 rfl (by have h8 := nbr_s hc17; rw [if_pos (show E ∈ Ls from by rw [← h8.2]; exact gT_mem h8.1)]; exact ⟨rfl, w, fr.rf, hR0⟩)
  · refine g_aload_n (pc := 20) dc_P_addLink_20 rfl ?_
    refine g_getfield (pc := 21) dc_P_addLink_21 fl_P_14 hP.1 rfl ?_
    refine g_aload_n (pc := 24) dc_P_addLink_24 rfl ?_
    refine g_getfield (pc := 25) dc_P_addLink_25 fl_P_73 hb.1.ha rfl ?_
    refine g_iconst (pc := 28) (v := 0) dc_P_addLink_28 rfl ?_
    refine g_aload_n (pc := 29) dc_P_addLink_29 rfl ?_
    refine g_getfield (pc := 30) dc_P_addLink_30 fl_P_77 hb.1.ha rfl ?_
    refine g_v3 (pc := 33) (M' := mt_R_add) dc_P_addLink_33 mo_R_add im_R_add se_R_add ln_P_104 x1.1 rfl rfl (Nat.le_of_ble_eq_true rfl) (Nat.le_of_ble_eq_true rfl) (am_G.mono ha ?_)
    intro r h1 hz
    obtain ⟨hz1, w1, g1, g2⟩ := hz
    rw [hz1]
    refine ⟨am_nt0, ?_⟩
    exact g_return dc_P_addLink_36 rfl (by rw [if_neg (nbr_n hc17)]; exact ⟨rfl, w1, g1, g2⟩)
theorem l1_P_readLinks {Q : Option Value → List va_E → Prop} {wa : Gw} {ha : List va_E} (hq : ¬ q ∈ [8, 10, 13, 14, 21, 22, 24]) (hj : ¬ ja ∈ [8, 10, 13, 14, 21, 22, 24]) (ho : okD D) (hL8 : L.length ≤ 7999) : ∀ (n p : Nat) (w0 : Gw) (h0 : List va_E) (x0 : va_E), n ≤ L.length → p ≤ L.length → fr wa w0 ha h0 [8, 10, 13, 14, 21, 22, 24] → scR L s p c x0 → pR w0 h0 → aR w0 h0 → cO w0 h0 21 21 x0 → eB w0 h0 8 8 → bE w0 h0 22 22 D → eB w0 h0 24 24 → eR w0 h0 13 14 13 14 → tO w0 h0 q c s L → bE w0 h0 ja aa D → (∀ w9 h9, fr wa w9 ha h9 [8, 10, 13, 14, 21, 22, 24] → pR w9 h9 → aR w9 h9 → eS w9 h9 → eB w9 h9 8 8 → bE w9 h9 22 22 (((its L n p).foldl (bsO L D) none).getD D) → eB w9 h9 24 24 → eR w9 h9 13 14 13 14 → tO w9 h9 q c s L → bE w9 h9 ja aa D → am_G X mt_P_readLinks (d + 9) 120 [some (.ref 12), some (.ref c), some (.int (nI s)), some (.int (nI (s + L.length))), some (.ref aa), none] [] h9 Q) → am_G X mt_P_readLinks (d + 9) 24 [some (.ref 12), some (.ref c), some (.int (nI s)), some (.int (nI (s + L.length))), some (.ref aa), some (.int (nI n))] [] h0 Q
  | 0, p, w0, h0, x0, hn, hp, G0, hN0, hP0, hA0, hS0, hR0, hB0, hPl0, hLk0, hx0, hD0, K => by
    refine g_iload (pc := 24) dc_P_readLinks_24 rfl ?_
    refine q_if_le (pc := 26) (tgt := 120) 0 dc_P_readLinks_26 (by omega) rfl (fun hc26 => ?_) (fun hc => absurd hc (by omega))
    refine am_wk (am_le_s (am_le_s (am_le_s (am_le_s (am_le_s (am_le_n am_le_0)))))) ?_
    refine K w0 h0 G0 hP0 hA0 ⟨_, hS0, hN0.any⟩ hR0 ?_ hPl0 hLk0 hx0 hD0
    exact hB0
  | n + 1, p, w0, h0, x0, hn, hp, G0, hN0, hP0, hA0, hS0, hR0, hB0, hPl0, hLk0, hx0, hD0, K => by
    have hsl : s + L.length ≤ 33554432 := by obtain ⟨cap, g, z1, z2, z3, z4, -⟩ := hx0.1; omega
    by_cases hpl : p < L.length
    · have hnb := nxT_bd hpl
      have hnk := nxK_b L p
      rw [its_s hpl, List.foldl_cons] at K
      cases hw : nxW 22 L p with
      | none =>
        rw [bsO_n hw] at K
        refine g_iload (pc := 24) dc_P_readLinks_24 rfl ?_
        refine q_if_le (pc := 26) (tgt := 120) (n + 1) dc_P_readLinks_26 (by omega) rfl (fun hc => absurd hc (by omega)) (fun hc26 => ?_)
        refine g_aload_n (pc := 29) dc_P_readLinks_29 rfl ?_
        refine g_getfield (pc := 30) dc_P_readLinks_30 fl_P_26 hP0.1 rfl ?_
        refine g_v0 (pc := 33) (M' := mt_S_next) dc_P_readLinks_33 mo_S_next im_S_next se_S_next ln_P_54 (scC hS0 hN0.any) rfl rfl (Nat.le_of_ble_eq_true rfl) (Nat.le_of_ble_eq_true rfl) (am_G.mono (w_S_next (d := d) hS0 hN0 hx0 hpl) ?_)
        intro r h1 hz
        obtain ⟨hz1, w1, g1, x1, hS1, hN1⟩ := hz
        rw [hz1]
        have hP1 := hP0.fr g1 (by decide)
        have hA1 := hA0.fr g1 (by decide) (by decide) (by decide)
        have hR1 := hR0.fr g1 (by decide)
        have hB1 := hB0.fr g1 (by decide)
        have hPl1 := hPl0.fr g1 (by decide)
        have hLk1 := hLk0.fr g1 (by decide) (by decide)
        have hx1 := hx0.fr g1 (fun h9 => hq ((by decide : ∀ x, x ∈ [21] → x ∈ [8, 10, 13, 14, 21, 22, 24]) _ h9))
        have hD1 := hD0.fr g1 (fun h9 => hj ((by decide : ∀ x, x ∈ [21] → x ∈ [8, 10, 13, 14, 21, 22, 24]) _ h9))
        have G1 := G0.tr (g1.mo (by decide : ∀ x, x ∈ [21] → x ∈ [8, 10, 13, 14, 21, 22, 24]))
        clear hz1 r
        refine ⟨am_nti _, ?_⟩
        refine q_if_eq (pc := 36) (tgt := 120) (nxK L p) dc_P_readLinks_36 (by omega) rfl (fun hc => absurd hc (by omega)) (fun hc36 => ?_)
        refine g_aload_n (pc := 39) dc_P_readLinks_39 rfl ?_
        refine g_getfield (pc := 40) dc_P_readLinks_40 fl_P_26 hP1.1 rfl ?_
        refine g_ldcS (pc := 43) 22 dc_P_readLinks_43 (by decide) rfl rfl ?_
        refine g_v1 (pc := 45) (M' := mt_S_hasHref) dc_P_readLinks_45 mo_S_hasHref im_S_hasHref se_S_hasHref ln_P_59 (scC hS1 hN1.sR.any) rfl rfl (Nat.le_of_ble_eq_true rfl) (Nat.le_of_ble_eq_true rfl) (am_G.mono (q_S_hasHref (nm := 22) (by decide) hS1.1 hN1 hx1.1.tt) ?_)
        intro r h9 hz
        rw [hz.1, hz.2, hw]
        clear hz r h9
        refine ⟨am_nti _, ?_⟩
        refine g_if_eq (pc := 48) (tgt := 114) dc_P_readLinks_48 rfl (fun _ => ?_) (fun hc => absurd hc (by decide))
        refine g_iinc (pc := 114) (v := (nI n)) dc_P_readLinks_114 rfl ((q_m1 (x := n + 1) (by omega)).trans (congrArg nI (by omega))) (by decide) ?_
        show am_G X mt_P_readLinks _ 117 [some (.ref 12), some (.ref c), some (.int (nI s)), some (.int (nI (s + L.length))), some (.ref aa), some (.int (nI n))] [] _ _
        refine g_goto (pc := 117) (tgt := 24) dc_P_readLinks_117 rfl ?_
        show am_G X mt_P_readLinks (d + 9) 24 [some (.ref 12), some (.ref c), some (.int (nI s)), some (.int (nI (s + L.length))), some (.ref aa), some (.int (nI n))] [] h1 _
        exact l1_P_readLinks hq hj ho hL8 n (nxT L p) w1 h1 _ (by omega) (by omega) G1 hN1.sR hP1 hA1 hS1 hR1 hB1 hPl1 hLk1 hx1 hD1 K
      | some z =>
        have hH := nxW_H hw
        have hzb := nxW_len (by decide) hw
        have hdl := dcd_len (L := L) (t := z.2) (z.2 - z.1) z.1 (Nat.le_refl _)
        refine g_iload (pc := 24) dc_P_readLinks_24 rfl ?_
        refine q_if_le (pc := 26) (tgt := 120) (n + 1) dc_P_readLinks_26 (by omega) rfl (fun hc => absurd hc (by omega)) (fun hc26 => ?_)
        refine g_aload_n (pc := 29) dc_P_readLinks_29 rfl ?_
        refine g_getfield (pc := 30) dc_P_readLinks_30 fl_P_26 hP0.1 rfl ?_
        refine g_v0 (pc := 33) (M' := mt_S_next) dc_P_readLinks_33 mo_S_next im_S_next se_S_next ln_P_54 (scC hS0 hN0.any) rfl rfl (Nat.le_of_ble_eq_true rfl) (Nat.le_of_ble_eq_true rfl) (am_G.mono (w_S_next (d := d) hS0 hN0 hx0 hpl) ?_)
        intro r h1 hz
        obtain ⟨hz1, w1, g1, x1, hS1, hN1⟩ := hz
        rw [hz1]
        have hP1 := hP0.fr g1 (by decide)
        have hA1 := hA0.fr g1 (by decide) (by decide) (by decide)
        have hR1 := hR0.fr g1 (by decide)
        have hB1 := hB0.fr g1 (by decide)
        have hPl1 := hPl0.fr g1 (by decide)
        have hLk1 := hLk0.fr g1 (by decide) (by decide)
        have hx1 := hx0.fr g1 (fun h9 => hq ((by decide : ∀ x, x ∈ [21] → x ∈ [8, 10, 13, 14, 21, 22, 24]) _ h9))
        have hD1 := hD0.fr g1 (fun h9 => hj ((by decide : ∀ x, x ∈ [21] → x ∈ [8, 10, 13, 14, 21, 22, 24]) _ h9))
        have G1 := G0.tr (g1.mo (by decide : ∀ x, x ∈ [21] → x ∈ [8, 10, 13, 14, 21, 22, 24]))
        clear hz1 r
        refine ⟨am_nti _, ?_⟩
        refine q_if_eq (pc := 36) (tgt := 120) (nxK L p) dc_P_readLinks_36 (by omega) rfl (fun hc => absurd hc (by omega)) (fun hc36 => ?_)
        refine g_aload_n (pc := 39) dc_P_readLinks_39 rfl ?_
        refine g_getfield (pc := 40) dc_P_readLinks_40 fl_P_26 hP1.1 rfl ?_
        refine g_ldcS (pc := 43) 22 dc_P_readLinks_43 (by decide) rfl rfl ?_
        refine g_v1 (pc := 45) (M' := mt_S_hasHref) dc_P_readLinks_45 mo_S_hasHref im_S_hasHref se_S_hasHref ln_P_59 (scC hS1 hN1.sR.any) rfl rfl (Nat.le_of_ble_eq_true rfl) (Nat.le_of_ble_eq_true rfl) (am_G.mono (q_S_hasHref (nm := 22) (by decide) hS1.1 hN1 hx1.1.tt) ?_)
        intro r h9 hz
        rw [hz.1, hz.2, hw]
        rw [show b1 (some z).isSome = 1 from rfl]
        clear hz r h9
        refine ⟨am_nti _, ?_⟩
        refine g_if_eq (pc := 48) (tgt := 114) dc_P_readLinks_48 rfl (fun hc => absurd hc (by decide)) (fun _ => ?_)
        refine g_aload_n (pc := 51) dc_P_readLinks_51 rfl ?_
        refine g_aload_n (pc := 52) dc_P_readLinks_52 rfl ?_
        refine g_aload_n (pc := 53) dc_P_readLinks_53 rfl ?_
        refine g_getfield (pc := 54) dc_P_readLinks_54 fl_P_26 hP1.1 rfl ?_
        obtain ⟨w6, w7, w8, e21⟩ := hN1.hr hH
        have hS21 := hS1.1
        rw [e21] at hS21
        refine g_getfield (pc := 57) dc_P_readLinks_57 fl_P_63 hS21 rfl ?_
        refine g_aload_n (pc := 60) dc_P_readLinks_60 rfl ?_
        refine g_getfield (pc := 61) dc_P_readLinks_61 fl_P_26 hP1.1 rfl ?_
        refine g_getfield (pc := 64) dc_P_readLinks_64 fl_P_67 hS21 rfl ?_
        obtain ⟨P9, hp9⟩ := hPl1
        refine g_v3 (pc := 67) (M' := mt_P_decode) dc_P_readLinks_67 mo_P_decode im_P_decode se_P_decode ln_P_70 hP1.1 rfl rfl (Nat.le_of_ble_eq_true rfl) (Nat.le_of_ble_eq_true rfl) (am_G.mono (w_P_decode (d := d + 2) (f := z.1) (t := z.2) hP1 hp9 hx1 (fun e => hq (by rw [e]; decide)) (by omega) (by omega) (by omega)) ?_)
        intro r h2 hz
        obtain ⟨hz1, w2, g2, hPl2⟩ := hz
        rw [hz1]
        have hP2 := hP1.fr g2 (by decide)
        have hA2 := hA1.fr g2 (by decide) (by decide) (by decide)
        have hS2 := hS1.fr g2 (by decide)
        have hR2 := hR1.fr g2 (by decide)
        have hB2 := hB1.fr g2 (by decide)
        have hLk2 := hLk1.fr g2 (by decide) (by decide)
        have hx2 := hx1.fr g2 (fun h9 => hq ((by decide : ∀ x, x ∈ [24] → x ∈ [8, 10, 13, 14, 21, 22, 24]) _ h9))
        have hD2 := hD1.fr g2 (fun h9 => hj ((by decide : ∀ x, x ∈ [24] → x ∈ [8, 10, 13, 14, 21, 22, 24]) _ h9))
        have G2 := G1.tr (g2.mo (by decide : ∀ x, x ∈ [24] → x ∈ [8, 10, 13, 14, 21, 22, 24]))
        clear hz1 r
        refine ⟨am_nt0, ?_⟩
        refine g_aload_n (pc := 70) dc_P_readLinks_70 rfl ?_
        refine g_getfield (pc := 71) dc_P_readLinks_71 fl_P_42 hP2.1 rfl ?_
        refine g_aload_n (pc := 74) dc_P_readLinks_74 rfl ?_
        have hq24 := hPl2
        obtain ⟨b24, hz24⟩ := hq24
        refine g_getfield (pc := 75) dc_P_readLinks_75 fl_P_39 hP2.1 rfl ?_
        refine g_getfield (pc := 78) dc_P_readLinks_78 fl_P_73 hz24.1.ha rfl ?_
        refine g_iconst (pc := 81) (v := 0) dc_P_readLinks_81 rfl ?_
        refine g_aload_n (pc := 82) dc_P_readLinks_82 rfl ?_
        refine g_getfield (pc := 83) dc_P_readLinks_83 fl_P_39 hP2.1 rfl ?_
        refine g_getfield (pc := 86) dc_P_readLinks_86 fl_P_77 hz24.1.ha rfl ?_
        refine g_aload (pc := 89) dc_P_readLinks_89 rfl ?_
        obtain ⟨R9, hr9⟩ := hR2
        have hrs := wD_A_resolve (X := X) (d := d + 1) (f := 0) (t := (dcd L z.1 z.2).length) hA2 hr9 hD2 (show ¬ ja = 8 ∧ ¬ ja = 10 from ⟨fun e => hj (by rw [e]; decide), fun e => hj (by rw [e]; decide)⟩) ho hz24.tO (by decide) (Nat.zero_le _) (Nat.le_refl _) (by omega)
        simp only [Nat.zero_add] at hrs
        refine g_v4 (pc := 91) (M' := mt_A_resolve) dc_P_readLinks_91 mo_A_resolve im_A_resolve se_A_resolve ln_P_80 hA2.1.1 rfl rfl (Nat.le_of_ble_eq_true rfl) (Nat.le_of_ble_eq_true rfl) (am_G.mono hrs ?_)
        intro r h3 hz
        obtain ⟨w3, g3, hA3, hz⟩ := hz
        have hP3 := hP2.fr g3 (by decide)
        have hS3 := hS2.fr g3 (by decide)
        have hB3 := hB2.fr g3 (by decide)
        have hPl3 := hPl2.fr g3 (by decide)
        have hLk3 := hLk2.fr g3 (by decide) (by decide)
        have hx3 := hx2.fr g3 (fun h9 => hq ((by decide : ∀ x, x ∈ [8, 10] → x ∈ [8, 10, 13, 14, 21, 22, 24]) _ h9))
        have hD3 := hD2.fr g3 (fun h9 => hj ((by decide : ∀ x, x ∈ [8, 10] → x ∈ [8, 10, 13, 14, 21, 22, 24]) _ h9))
        have G3 := G2.tr (g3.mo (by decide : ∀ x, x ∈ [8, 10] → x ∈ [8, 10, 13, 14, 21, 22, 24]))
        have hN3 := hN1
        have hbo : bsO L D none p = mrr (dcd L z.1 z.2) 0 (dcd L z.1 z.2).length (some D) := by unfold bsO; rw [hw]
        cases hm : mrr (dcd L z.1 z.2) 0 (dcd L z.1 z.2).length (some D) with
        | none =>
          rw [hm] at hz hbo
          rw [hbo] at K
          obtain ⟨hz1, hR3⟩ := hz
          have hR3 : eB w3 h3 8 8 := ⟨_, hR3⟩
          rw [hz1]
          clear hz1 r
          refine ⟨am_nti _, ?_⟩
          refine g_if_eq (pc := 94) (tgt := 114) dc_P_readLinks_94 rfl (fun _ => ?_) (fun hc => absurd hc (by decide))
          refine g_iinc (pc := 114) (v := (nI n)) dc_P_readLinks_114 rfl ((q_m1 (x := n + 1) (by omega)).trans (congrArg nI (by omega))) (by decide) ?_
          show am_G X mt_P_readLinks _ 117 [some (.ref 12), some (.ref c), some (.int (nI s)), some (.int (nI (s + L.length))), some (.ref aa), some (.int (nI n))] [] _ _
          refine g_goto (pc := 117) (tgt := 24) dc_P_readLinks_117 rfl ?_
          show am_G X mt_P_readLinks (d + 9) 24 [some (.ref 12), some (.ref c), some (.int (nI s)), some (.int (nI (s + L.length))), some (.ref aa), some (.int (nI n))] [] h3 _
          exact l1_P_readLinks hq hj ho hL8 n (nxT L p) w3 h3 _ (by omega) (by omega) G3 hN3.sR hP3 hA3 hS3 hR3 hB3 (⟨_, hPl3⟩ : eB w3 h3 24 24) hLk3 hx3 hD3 K
        | some E =>
          rw [hm] at hz hbo
          rw [hbo, bsO_f] at K
          obtain ⟨hz1, hR3⟩ := hz
          rw [hz1]
          clear hz1 r
          have hE : okD E := mrr_ok (Nat.zero_le _) (Nat.le_refl _) (btg_dcd hx0.1.btg (z.2 - z.1) z.1 (Nat.le_refl _)) (fun D1 h9 => by cases h9; exact ho) hm
          refine ⟨am_nti _, ?_⟩
          obtain ⟨b22, hz22⟩ := hB3
          have hB3 : bE w3 h3 22 22 D := ⟨b22, hz22⟩
          refine g_if_eq (pc := 94) (tgt := 114) dc_P_readLinks_94 rfl (fun hc => absurd hc (by decide)) (fun _ => ?_)
          refine g_aload_n (pc := 97) dc_P_readLinks_97 rfl ?_
          refine g_getfield (pc := 98) dc_P_readLinks_98 fl_P_35 hP3.1 rfl ?_
          refine g_aload_n (pc := 101) dc_P_readLinks_101 rfl ?_
          refine g_getfield (pc := 102) dc_P_readLinks_102 fl_P_42 hP3.1 rfl ?_
          refine g_getfield (pc := 105) dc_P_readLinks_105 fl_P_86 hA3.1.1 rfl ?_
          refine g_v1 (pc := 108) (M' := mt_B_become) dc_P_readLinks_108 mo_B_become im_B_become se_B_become ln_P_46 hz22.1.ha rfl rfl (Nat.le_of_ble_eq_true rfl) (Nat.le_of_ble_eq_true rfl) (am_G.mono (w_B_become (d := d + 5) (by decide) hB3 hR3 (by decide) (by have h200 := hE.2.2.2.2.1; show _ ≤ 40016; omega)) ?_)
          intro r h4 hz
          obtain ⟨hz1, w4, g4, hB4⟩ := hz
          rw [hz1]
          have hP4 := hP3.fr g4 (by decide)
          have hA4 := hA3.fr g4 (by decide) (by decide) (by decide)
          have hS4 := hS3.fr g4 (by decide)
          have hR4 := hR3.fr g4 (by decide)
          have hPl4 := hPl3.fr g4 (by decide)
          have hLk4 := hLk3.fr g4 (by decide) (by decide)
          have hx4 := hx3.fr g4 (fun h9 => hq ((by decide : ∀ x, x ∈ [22] → x ∈ [8, 10, 13, 14, 21, 22, 24]) _ h9))
          have hD4 := hD3.fr g4 (fun h9 => hj ((by decide : ∀ x, x ∈ [22] → x ∈ [8, 10, 13, 14, 21, 22, 24]) _ h9))
          have G4 := G3.tr (g4.mo (by decide : ∀ x, x ∈ [22] → x ∈ [8, 10, 13, 14, 21, 22, 24]))
          clear hz1 r
          refine ⟨am_nt0, ?_⟩
          refine g_goto (pc := 111) (tgt := 120) dc_P_readLinks_111 rfl ?_
          refine am_wk (am_le_s (am_le_s (am_le_s (am_le_s (am_le_s (am_le_n am_le_0)))))) ?_
          refine K w4 h4 G4 hP4 hA4 ⟨_, hS4, hN3.sR.any⟩ ⟨_, hR4⟩ ?_ ⟨_, hPl4⟩ hLk4 hx4 hD4
          exact hB4
    · rw [its_out (by omega)] at K
      refine g_iload (pc := 24) dc_P_readLinks_24 rfl ?_
      refine q_if_le (pc := 26) (tgt := 120) (n + 1) dc_P_readLinks_26 (by omega) rfl (fun hc => absurd hc (by omega)) (fun hc26 => ?_)
      refine g_aload_n (pc := 29) dc_P_readLinks_29 rfl ?_
      refine g_getfield (pc := 30) dc_P_readLinks_30 fl_P_26 hP0.1 rfl ?_
      refine g_v0 (pc := 33) (M' := mt_S_next) dc_P_readLinks_33 mo_S_next im_S_next se_S_next ln_P_54 (scC hS0 hN0.any) rfl rfl (Nat.le_of_ble_eq_true rfl) (Nat.le_of_ble_eq_true rfl) (am_G.mono (w_S_end hS0 hN0 hx0 (by omega) (by omega)) ?_)
      intro r h1 hz
      obtain ⟨hz1, w1, g1, x1, hS1, hN1⟩ := hz
      rw [hz1]
      have hP1 := hP0.fr g1 (by decide)
      have hA1 := hA0.fr g1 (by decide) (by decide) (by decide)
      have hR1 := hR0.fr g1 (by decide)
      have hB1 := hB0.fr g1 (by decide)
      have hPl1 := hPl0.fr g1 (by decide)
      have hLk1 := hLk0.fr g1 (by decide) (by decide)
      have hx1 := hx0.fr g1 (fun h9 => hq ((by decide : ∀ x, x ∈ [21] → x ∈ [8, 10, 13, 14, 21, 22, 24]) _ h9))
      have hD1 := hD0.fr g1 (fun h9 => hj ((by decide : ∀ x, x ∈ [21] → x ∈ [8, 10, 13, 14, 21, 22, 24]) _ h9))
      have G1 := G0.tr (g1.mo (by decide : ∀ x, x ∈ [21] → x ∈ [8, 10, 13, 14, 21, 22, 24]))
      clear hz1 r
      refine ⟨am_nti _, ?_⟩
      refine g_if_eq (pc := 36) (tgt := 120) dc_P_readLinks_36 rfl (fun _ => ?_) (fun hc => absurd hc (by decide))
      refine am_wk (am_le_s (am_le_s (am_le_s (am_le_s (am_le_s (am_le_n am_le_0)))))) ?_
      refine K w1 h1 G1 hP1 hA1 ⟨_, hS1, hN1⟩ hR1 ?_ hPl1 hLk1 hx1 hD1
      exact hB1
end RDL
