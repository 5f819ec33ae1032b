/-! ===== the class: rules of sites ===== -/
/-- a site with its rules: the object at tc, owners from u on -/
def stX (w : Gw) (h : List va_E) (u tc : Nat) (x : List Int32) (A Dd : List (List Int32)) : Prop := ∃ st al alb di dib, cO w h u tc (.inr (11, [.ref st, .ref al, .ref di])) ∧ bE w h (u + 1) st x ∧ rE w h (u + 2) (u + 3) al alb A [] ∧ rE w h (u + 4) (u + 5) di dib Dd []
def stC (w : Gw) (h : List va_E) (u tc : Nat) (x L : List Int32) : Prop := stX w h u tc (sub x 7 x.length) (rlz L).2.2.2.1 (rlz L).2.2.2.2
def sA (w : Gw) (h : List va_E) (g : Nat → Option Nat) : Prop := cO w h 28 28 (.inl (5, 12, .inr (.inr (.inr (.inr g)))))
/-- the web's rules -/
def ruC (w : Gw) (h : List va_E) (Rs Rt : List (List Int32)) : Prop := ∃ g, sA w h g ∧ (∀ k, k < Rs.length → ∃ tc, g k = some tc ∧ stC w h (100 + 6 * k) tc (gT Rs k) (gT Rt k)) ∧ ∀ k j, Rs.length ≤ k → k < 12 → j < 6 → w.2 (100 + 6 * k + j) = 0
section C4S
variable {X : am_X} {d i c u tc a b f t n k q s : Nat} {w w1 : Gw} {h h1 : List va_E} {L D x : List Int32} {I : List Nat} {Rs Rt A Dd : List (List Int32)}
theorem stX.fr (z : stX w h u tc x A Dd) (f : fr w w1 h h1 I) (hi : ∀ j, j < 6 → ¬ (u + j) ∈ I) : stX w1 h1 u tc x A Dd := by
  obtain ⟨st, al, alb, di, dib, a1, a2, a3, a4⟩ := z
  exact ⟨st, al, alb, di, dib, a1.fr f (hi 0 (by decide)), a2.fr f (hi 1 (by decide)), a3.fr f (hi 2 (by decide)) (hi 3 (by decide)), a4.fr f (hi 4 (by decide)) (hi 5 (by decide))⟩
theorem ruC.fr (z : ruC w h Rs Rt) (f : fr w w1 h h1 I) (hi : ∀ x, x ∈ I → x < 100 ∧ ¬ x = 28) : ruC w1 h1 Rs Rt := by
  obtain ⟨g, a1, a2, a3⟩ := z
  have no : ∀ y, 100 ≤ y → ¬ y ∈ I := fun y hy h9 => by have := (hi y h9).1; omega
  refine ⟨g, cO.fr a1 f (fun h9 => (hi 28 h9).2 rfl), fun k hk => ?_, fun k j h1 h2 h3 => ?_⟩
  · obtain ⟨tc, b1, b2⟩ := a2 k hk
    exact ⟨tc, b1, stX.fr b2 f (fun j hj => no _ (by omega))⟩
  · rw [f.2.1 _ (no _ (by omega))]; exact a3 k j h1 h2 h3
theorem tO.sub (z : tO w h i c 0 L) (hf : f ≤ L.length) : tO w h i c f (sub L f L.length) := by
  obtain ⟨⟨cap, g, a1, a2, a3, a4, a5⟩, a6⟩ := z
  refine ⟨⟨cap, g, a1, fun j hj => ?_, ?_, a4, a5⟩, a6⟩
  · rw [sub_len (Nat.le_refl _)] at hj
    have := a2 (f + j) (by omega)
    rw [Nat.zero_add] at this
    rw [gx_sub hj (Nat.le_refl _)]
    exact this
  · rw [sub_len (Nat.le_refl _)]; omega
theorem inU4 {y : Nat} : y ∈ [u + 2, u + 3, u + 4, u + 5] ↔ y = u + 2 ∨ y = u + 3 ∨ y = u + 4 ∨ y = u + 5 := by simp
theorem w_T_tell (hu : 100 ≤ u ∧ u ≤ 200) (hq : q < 100) (hL8 : L.length ≤ 8000) (hS : stX w h u tc x A Dd) (hx : tO w h q c s L) : am_C X mt_T_tell (d + 8) [.ref tc, .ref c, .int (nI s), .int (nI (s + L.length))] h (fun r h1 => r = some (.int (nI ((rlz L).2.2.2.1.length + (rlz L).2.2.2.2.length))) ∧ ∃ w1, fr w w1 h h1 [u + 2, u + 3, u + 4, u + 5] ∧ stX w1 h1 u tc x (rlz L).2.2.2.1 (rlz L).2.2.2.2) := by
  show am_G X mt_T_tell (d + 8) 0 [some (.ref tc), some (.ref c), some (.int (nI s)), some (.int (nI (s + L.length)))] [] h _
  obtain ⟨st, al, alb, di, dib, a1, a2, a3, a4⟩ := hS
  have no : ∀ y, y < 100 → ¬ y ∈ [u + 2, u + 3, u + 4, u + 5] := fun y hy h9 => by have := inU4.mp h9; omega
  have no1 : ∀ j, j < 2 → ¬ (u + j) ∈ [u + 2, u + 3, u + 4, u + 5] := fun j hj h9 => by have := inU4.mp h9; omega
  refine g_aload_n (pc := 0) dc_T_tell_0 rfl ?_
  refine g_aload_n (pc := 1) dc_T_tell_1 rfl ?_
  refine g_iload_n (pc := 2) dc_T_tell_2 rfl ?_
  refine g_iload_n (pc := 3) dc_T_tell_3 rfl ?_
  refine g_ldcS (pc := 4) 11 dc_T_tell_4 (by decide) rfl rfl ?_
  refine g_v4 (pc := 6) (M' := mt_T_collect) dc_T_tell_6 mo_T_collect im_T_collect se_T_collect ln_T_34 a1.1 rfl rfl (Nat.le_of_ble_eq_true rfl) (Nat.le_of_ble_eq_true rfl) (am_G.mono (w_T_collect (d := d) (ag := 11) hu hq (by decide) hL8 a1 a3 a4 hx) ?_)
  intro r h1 hz
  obtain ⟨z1, w1, g1, b1_1, b3_1, b4_1⟩ := hz
  rw [z1]
  clear z1 r
  have a1_1 := b1_1
  have a3_1 := b3_1
  have a4_1 := b4_1
  refine ⟨am_nti _, ?_⟩
  refine q_ifb_ne (pc := 9) (tgt := 22) dc_T_tell_9 rfl (fun hc9 => ?_) (fun hc9 => ?_)
  · have al9 : ∃ ax e, h1[al]? = some (.inr (4, [.ref ax, .ref e, .int (nI (cll 11 L).2.2.2.1.length)])) := by obtain ⟨b9, e9, q1, -⟩ := a3_1; exact ⟨_, _, q1.1⟩
    have di9 : ∃ ax e, h1[di]? = some (.inr (4, [.ref ax, .ref e, .int (nI (cll 11 L).2.2.2.2.length)])) := by obtain ⟨b9, e9, q1, -⟩ := a4_1; exact ⟨_, _, q1.1⟩
    obtain ⟨ax1, ex1, al_1⟩ := al9
    obtain ⟨ax2, ex2, di_1⟩ := di9
    refine g_aload_n (pc := 22) dc_T_tell_22 rfl ?_
    refine g_getfield (pc := 23) dc_T_tell_23 fl_T_25 a1_1.1 rfl ?_
    refine g_getfield (pc := 26) dc_T_tell_26 fl_T_40 al_1 rfl ?_
    refine g_aload_n (pc := 29) dc_T_tell_29 rfl ?_
    refine g_getfield (pc := 30) dc_T_tell_30 fl_T_29 a1_1.1 rfl ?_
    refine g_getfield (pc := 33) dc_T_tell_33 fl_T_40 di_1 rfl ?_
    refine g_iadd (pc := 36) (v := (nI ((cll 11 L).2.2.2.1.length + ((cll 11 L).2.2.2.2.length)))) dc_T_tell_36 (nI_add ((cll 11 L).2.2.2.1.length) ((cll 11 L).2.2.2.2.length)) ?_
    have hzz : rlz L = cll 11 L := if_pos hc9
    rw [hzz]
    exact g_ireturn dc_T_tell_37 rfl ⟨rfl, w1, g1, st, al, alb, di, dib, a1_1, (a2.fr g1 (no1 1 (by decide))), a3_1, a4_1⟩
  · refine g_aload_n (pc := 12) dc_T_tell_12 rfl ?_
    refine g_aload_n (pc := 13) dc_T_tell_13 rfl ?_
    refine g_iload_n (pc := 14) dc_T_tell_14 rfl ?_
    refine g_iload_n (pc := 15) dc_T_tell_15 rfl ?_
    refine g_ldcS (pc := 16) 15 dc_T_tell_16 (by decide) rfl rfl ?_
    refine g_v4 (pc := 18) (M' := mt_T_collect) dc_T_tell_18 mo_T_collect im_T_collect se_T_collect ln_T_34 a1_1.1 rfl rfl (Nat.le_of_ble_eq_true rfl) (Nat.le_of_ble_eq_true rfl) (am_G.mono (w_T_collect (d := d) (ag := 15) hu hq (by decide) hL8 a1_1 a3_1 a4_1 (hx.fr g1 (no q hq))) ?_)
    intro r h2 hz
    obtain ⟨z1, w2, g2, b1_2, b3_2, b4_2⟩ := hz
    rw [z1]
    clear z1 r
    have a1_2 := b1_2
    have a3_2 := b3_2
    have a4_2 := b4_2
    refine ⟨am_nti _, ?_⟩
    refine g_pop (pc := 21) dc_T_tell_21 rfl ?_
    have al9 : ∃ ax e, h2[al]? = some (.inr (4, [.ref ax, .ref e, .int (nI (cll 15 L).2.2.2.1.length)])) := by obtain ⟨b9, e9, q1, -⟩ := a3_2; exact ⟨_, _, q1.1⟩
    have di9 : ∃ ax e, h2[di]? = some (.inr (4, [.ref ax, .ref e, .int (nI (cll 15 L).2.2.2.2.length)])) := by obtain ⟨b9, e9, q1, -⟩ := a4_2; exact ⟨_, _, q1.1⟩
    obtain ⟨ax1, ex1, al_2⟩ := al9
    obtain ⟨ax2, ex2, di_2⟩ := di9
    refine g_aload_n (pc := 22) dc_T_tell_22 rfl ?_
    refine g_getfield (pc := 23) dc_T_tell_23 fl_T_25 a1_2.1 rfl ?_
    refine g_getfield (pc := 26) dc_T_tell_26 fl_T_40 al_2 rfl ?_
    refine g_aload_n (pc := 29) dc_T_tell_29 rfl ?_
    refine g_getfield (pc := 30) dc_T_tell_30 fl_T_29 a1_2.1 rfl ?_
    refine g_getfield (pc := 33) dc_T_tell_33 fl_T_40 di_2 rfl ?_
    refine g_iadd (pc := 36) (v := (nI ((cll 15 L).2.2.2.1.length + ((cll 15 L).2.2.2.2.length)))) dc_T_tell_36 (nI_add ((cll 15 L).2.2.2.1.length) ((cll 15 L).2.2.2.2.length)) ?_
    have hzz : rlz L = cll 15 L := if_neg (by rw [hc9]; decide)
    rw [hzz]
    exact g_ireturn dc_T_tell_37 rfl ⟨rfl, w2, (g1.tr g2), st, al, alb, di, dib, a1_2, (a2.fr (g1.tr g2) (no1 1 (by decide))), a3_2, a4_2⟩
/-- sites as addresses have them -/
def rsO (Rs : List (List Int32)) : Prop := ∀ x, x ∈ Rs → ∃ D, okD D ∧ x = sit D
theorem sit7 {D E : List Int32} (hD : okD D) (hE : okD E) : (sub (sit E) 7 (sit E).length = sub D 7 (hen D)) ↔ sit E = sit D := by
  have d1 := hD.2.1
  have d2 := hD.2.2.1
  have e1 := hE.2.1
  have e2 := hE.2.2.1
  have lE := sit_len (D := E) (by omega)
  have lD := sit_len (D := D) (by omega)
  have p7 : ∀ j, j < 7 → gx D j = gx E j := fun j hj => by
    have h1 : gx (sub D 0 7) j = gx h7 j := congrArg (fun z => gx z j) hD.1
    have h2 : gx (sub E 0 7) j = gx h7 j := congrArg (fun z => gx z j) hE.1
    rw [gx_sub (by omega) (by omega), Nat.zero_add] at h1 h2
    rw [h1, h2]
  constructor
  · intro h
    have hl := congrArg List.length h
    rw [sub_len (Nat.le_refl _), sub_len (by omega), lE] at hl
    refine eq_gx.mpr ⟨by omega, fun j hj => ?_⟩
    rw [lD] at hj
    rw [sit_gx (by omega) (by omega), sit_gx (by omega) hj]
    by_cases q : j < 7
    · exact (p7 j q).symm
    · have h3 : gx (sub (sit E) 7 (sit E).length) (j - 7) = gx (sub D 7 (hen D)) (j - 7) := congrArg (fun z => gx z (j - 7)) h
      rw [gx_sub (by omega) (Nat.le_refl _), gx_sub (by omega) (by omega), sit_gx (by omega) (by omega)] at h3
      rw [show 7 + (j - 7) = j by omega] at h3
      exact h3
  · intro h
    have hh : hen E = hen D := by rw [← lE, ← lD, h]
    rw [h]
    refine eq_gx.mpr ⟨by rw [sub_len (Nat.le_refl _), sub_len (by omega), lD], fun j hj => ?_⟩
    rw [sub_len (by omega)] at hj
    rw [gx_sub (by omega) (Nat.le_refl _), gx_sub hj (by omega), sit_gx (by omega) (by omega)]
theorem l_V_siteNumber (hV : vO w h n Rs.length) (hR : ruC w h Rs Rt) (hO : rsO Rs) (h12 : Rs.length ≤ 12) (hB : bE w h i a D) (ho : okD D) : ∀ n9 k : Nat, k + n9 = Rs.length → (∀ j, j < k → ¬ gT Rs j = sit D) → am_G X mt_V_siteNumber (d + 3) 23 [some (.ref 26), some (.ref a), some (.int (nI 7)), some (.int (nI (hen D - 7))), some (.int (nI k)), none] [] h (fun r h1 => r = some (.int (er (nbr Rs (sit D)))) ∧ h1 = h)
  | 0, k, e, hn => by
    refine g_iload (pc := 23) dc_V_siteNumber_23 rfl ?_
    refine g_aload_n (pc := 25) dc_V_siteNumber_25 rfl ?_
    refine g_getfield (pc := 26) dc_V_siteNumber_26 fl_V_58 hV.1 rfl ?_
    refine q_icmp_ge (pc := 29) (tgt := 80) k Rs.length dc_V_siteNumber_29 (by omega) (by omega) rfl (fun hc29 => ?_) (fun hc => absurd hc (by omega))
    refine g_iconst (pc := 80) (v := (-1)) dc_V_siteNumber_80 rfl ?_
    exact g_ireturn dc_V_siteNumber_81 rfl ⟨by rw [nbr_no (fun j hj => hn j (by omega))]; rfl, rfl⟩
  | n9 + 1, k, e, hn => by
    have hB0 := hB
    have hR0 := hR
    obtain ⟨b, bb1⟩ := hB
    have hbh := bb1.1.ha
    have htb := bb1.1.ttb.tt
    have d1 := ho.2.1
    have d2 := ho.2.2.1
    have d3 := ho.2.2.2.2.1
    obtain ⟨g, hg, hg2, hg3⟩ := hR
    obtain ⟨tc, hp1, st, al, alb, di, dib, c1, ⟨sb, c2⟩, c3, c4⟩ := hg2 k (by omega)
    have hsh := c2.1.ha
    have hts := c2.1.ttb.tt
    obtain ⟨E, hE1, hE2⟩ := hO _ (gT_mem (show k < Rs.length by omega))
    have hsl : (sub (gT Rs k) 7 (gT Rs k).length).length = hen E - 7 := by rw [sub_len (Nat.le_refl _), hE2, sit_len (by have := hE1.2.1; have := hE1.2.2.1; omega)]
    have hE3 := hE1.2.2.2.1
    have hd4 := ho.2.2.2.1
    have hcmp : sub (gT Rs k) 7 (gT Rs k).length = sub D 7 (hen D) ↔ gT Rs k = sit D := by rw [hE2]; exact sit7 ho hE1
    refine g_iload (pc := 23) dc_V_siteNumber_23 rfl ?_
    refine g_aload_n (pc := 25) dc_V_siteNumber_25 rfl ?_
    refine g_getfield (pc := 26) dc_V_siteNumber_26 fl_V_58 hV.1 rfl ?_
    refine q_icmp_ge (pc := 29) (tgt := 80) k Rs.length dc_V_siteNumber_29 (by omega) (by omega) rfl (fun hc => absurd hc (by omega)) (fun hc29 => ?_)
    refine g_aload_n (pc := 32) dc_V_siteNumber_32 rfl ?_
    refine g_getfield (pc := 33) dc_V_siteNumber_33 fl_V_19 hV.1 rfl ?_
    refine g_iload (pc := 36) dc_V_siteNumber_36 rfl ?_
    refine q_aaload5 (pc := 38) k dc_V_siteNumber_38 hg.1 (by omega) (by omega) hp1 ?_
    refine g_getfield (pc := 39) dc_V_siteNumber_39 fl_V_61 c1.1 rfl ?_
    refine g_astore (pc := 42) dc_V_siteNumber_42 (by decide) ?_
    show am_G X mt_V_siteNumber _ 44 [some (.ref 26), some (.ref a), some (.int (nI 7)), some (.int (nI (hen D - 7))), some (.int (nI k)), some (.ref st)] [] _ _
    refine g_aload (pc := 44) dc_V_siteNumber_44 rfl ?_
    refine g_getfield (pc := 46) dc_V_siteNumber_46 fl_V_52 hsh rfl ?_
    refine g_iload_n (pc := 49) dc_V_siteNumber_49 rfl ?_
    refine q_icmp_ne (pc := 50) (tgt := 74) ((sub (gT Rs k) 7 (gT Rs k).length).length) (hen D - 7) dc_V_siteNumber_50 (by omega) (by omega) rfl (fun hc50 => ?_) (fun hc50 => ?_)
    · refine g_iinc (pc := 74) (v := (nI (k + 1))) dc_V_siteNumber_74 rfl (nI_add k 1) (by decide) ?_
      show am_G X mt_V_siteNumber _ 77 [some (.ref 26), some (.ref a), some (.int (nI 7)), some (.int (nI (hen D - 7))), some (.int (nI (k + 1))), some (.ref st)] [] _ _
      refine g_goto (pc := 77) (tgt := 23) dc_V_siteNumber_77 rfl ?_
      refine am_wk (am_le_s (am_le_s (am_le_s (am_le_s (am_le_s (am_le_n am_le_0)))))) ?_
      exact l_V_siteNumber hV hR0 hO h12 hB0 ho n9 (k + 1) (by omega) (fun j hj => by
        by_cases e9 : j = k
        · rw [e9]; exact fun h9 => hc50 (by have h8 := congrArg List.length (hcmp.mpr h9); rw [sub_len (show hen D ≤ D.length by omega)] at h8; omega)
        · exact hn j (by omega))
    · refine g_aload (pc := 53) dc_V_siteNumber_53 rfl ?_
      refine g_getfield (pc := 55) dc_V_siteNumber_55 fl_V_46 hsh rfl ?_
      refine g_iconst (pc := 58) (v := 0) dc_V_siteNumber_58 rfl ?_
      refine g_aload_n (pc := 59) dc_V_siteNumber_59 rfl ?_
      refine g_getfield (pc := 60) dc_V_siteNumber_60 fl_V_46 hbh rfl ?_
      refine g_iload_n (pc := 63) dc_V_siteNumber_63 rfl ?_
      refine g_iload_n (pc := 64) dc_V_siteNumber_64 rfl ?_
      refine g_s5 (pc := 65) (M' := mt_W_sameBytes) dc_V_siteNumber_65 mo_W_sameBytes st_W_sameBytes ln_V_65 (Nat.le_of_ble_eq_true rfl) (Nat.le_of_ble_eq_true rfl) (am_G.mono (t_sameBytes (s := 0) (s2 := 0) (f := 0) (e := 7) (n := hen D - 7) (L := sub (gT Rs k) 7 (gT Rs k).length) (M := D) hts htb (by omega) (by omega)) ?_)
      intro r h1 hq
      rw [hq.1, hq.2, Nat.zero_add, show 7 + (hen D - 7) = hen D by omega, show sub (sub (gT Rs k) 7 (gT Rs k).length) 0 (hen D - 7) = sub (gT Rs k) 7 (gT Rs k).length from sub_all (by omega)]
      clear hq h1 r
      refine ⟨am_nti _, ?_⟩
      refine q_ifb_eq (pc := 68) (tgt := 74) dc_V_siteNumber_68 rfl (fun hc68 => ?_) (fun hc68 => ?_)
      · refine g_iinc (pc := 74) (v := (nI (k + 1))) dc_V_siteNumber_74 rfl (nI_add k 1) (by decide) ?_
        show am_G X mt_V_siteNumber _ 77 [some (.ref 26), some (.ref a), some (.int (nI 7)), some (.int (nI (hen D - 7))), some (.int (nI (k + 1))), some (.ref st)] [] _ _
        refine g_goto (pc := 77) (tgt := 23) dc_V_siteNumber_77 rfl ?_
        have hc68f := of_decide_eq_false hc68
        refine am_wk (am_le_s (am_le_s (am_le_s (am_le_s (am_le_s (am_le_n am_le_0)))))) ?_
        exact l_V_siteNumber hV hR0 hO h12 hB0 ho n9 (k + 1) (by omega) (fun j hj => by
          by_cases e9 : j = k
          · rw [e9]; exact fun h9 => hc68f (hcmp.mpr h9)
          · exact hn j (by omega))
      · refine g_iload (pc := 71) dc_V_siteNumber_71 rfl ?_
        exact g_ireturn dc_V_siteNumber_73 rfl ⟨by rw [nbr_fst (by omega) (hcmp.mp (of_decide_eq_true hc68)) hn]; rfl, rfl⟩
theorem c_V_siteNumber (hV : vO w h n Rs.length) (hR : ruC w h Rs Rt) (hO : rsO Rs) (h12 : Rs.length ≤ 12) (hB : bE w h i a D) (ho : okD D) : am_C X mt_V_siteNumber (d + 3) [.ref 26, .ref a] h (fun r h1 => r = some (.int (er (nbr Rs (sit D)))) ∧ h1 = h) := by
  show am_G X mt_V_siteNumber (d + 3) 0 [some (.ref 26), some (.ref a), none, none, none, none] [] h _
  have hB0 := hB
  have hR0 := hR
  obtain ⟨b, bb1⟩ := hB
  have hbh := bb1.1.ha
  have htb := bb1.1.ttb.tt
  have d1 := ho.2.1
  have d2 := ho.2.2.1
  have d3 := ho.2.2.2.2.1
  refine g_ldcS (pc := 0) 10 dc_V_siteNumber_0 (by decide) rfl rfl ?_
  refine g_x0 (pc := 2) (M' := mt_JString_length) dc_V_siteNumber_2 mo_JString_length im_JString_length se_JString_length (am_t5 40 rfl rfl) (by decide) (Nat.le_of_ble_eq_true rfl) (Nat.le_of_ble_eq_true rfl) (am_G.mono (c_strLen (by decide)) ?_)
  intro r h1 hq
  rw [hq.1, hq.2]
  clear hq h1 r
  refine ⟨am_nti _, ?_⟩
  refine g_istore_n (pc := 5) dc_V_siteNumber_5 (by decide) ?_
  show am_G X mt_V_siteNumber _ 6 [some (.ref 26), some (.ref a), some (.int (nI 7)), none, none, none] [] _ _
  refine g_aload_n (pc := 6) dc_V_siteNumber_6 rfl ?_
  refine g_getfield (pc := 7) dc_V_siteNumber_7 fl_V_46 hbh rfl ?_
  refine g_aload_n (pc := 10) dc_V_siteNumber_10 rfl ?_
  refine g_getfield (pc := 11) dc_V_siteNumber_11 fl_V_52 hbh rfl ?_
  refine g_s2 (pc := 14) (M' := mt_W_siteTo) dc_V_siteNumber_14 mo_W_siteTo st_W_siteTo ln_V_54 (Nat.le_of_ble_eq_true rfl) (Nat.le_of_ble_eq_true rfl) (am_G.mono (t_siteTo (d := d) (t := D.length) htb (by omega) (by omega)) ?_)
  intro r h1 hq
  rw [hq.1, hq.2]
  clear hq h1 r
  refine ⟨am_nti _, ?_⟩
  refine g_iload_n (pc := 17) dc_V_siteNumber_17 rfl ?_
  refine g_isub (pc := 18) (v := (nI (hen D - 7))) dc_V_siteNumber_18 (q_sub (a := hen D) (b := 7) (by omega)) ?_
  refine g_istore_n (pc := 19) dc_V_siteNumber_19 (by decide) ?_
  show am_G X mt_V_siteNumber _ 20 [some (.ref 26), some (.ref a), some (.int (nI 7)), some (.int (nI (hen D - 7))), none, none] [] _ _
  refine g_iconst (pc := 20) (v := 0) dc_V_siteNumber_20 rfl ?_
  refine g_istore (pc := 21) dc_V_siteNumber_21 (by decide) ?_
  show am_G X mt_V_siteNumber _ 23 [some (.ref 26), some (.ref a), some (.int (nI 7)), some (.int (nI (hen D - 7))), some (.int 0), none] [] _ _
  exact l_V_siteNumber hV hR0 hO h12 hB0 ho Rs.length 0 (by omega) (fun j hj => absurd hj (by omega))
theorem c_V_allows (hV : vO w h n Rs.length) (hR : ruC w h Rs Rt) (hO : rsO Rs) (h12 : Rs.length ≤ 12) (hB : bE w h i a D) (ho : okD D) (hQ : ∀ k, k < Rs.length → okQ (rlz (gT Rt k))) : am_C X mt_V_allows (d + 6) [.ref 26, .ref a] h (fun r h1 => r = some (.int (b1 (jgL D Rs Rt))) ∧ h1 = h) := by
  show am_G X mt_V_allows (d + 6) 0 [some (.ref 26), some (.ref a), none] [] h _
  have hB0 := hB
  have hR0 := hR
  obtain ⟨b, bb1⟩ := hB
  have hbh := bb1.1.ha
  have htb := bb1.1.ttb.tt
  have d1 := ho.2.1
  have d2 := ho.2.2.1
  have d3 := ho.2.2.2.2.1
  obtain ⟨oo, hoo⟩ : ∃ oo, oo = nbr Rs (sit D) := ⟨_, rfl⟩
  have hnp2 : ∀ j, oo = some j → j < 2 ^ 31 := fun j hj => by have := (nbr_s (hoo.symm.trans hj)).1; omega
  obtain ⟨g, hg, hg2, hg3⟩ := hR
  refine g_aload_n (pc := 0) dc_V_allows_0 rfl ?_
  refine g_aload_n (pc := 1) dc_V_allows_1 rfl ?_
  refine g_v1 (pc := 2) (M' := mt_V_siteNumber) dc_V_allows_2 mo_V_siteNumber im_V_siteNumber se_V_siteNumber ln_V_69 hV.1 rfl rfl (Nat.le_of_ble_eq_true rfl) (Nat.le_of_ble_eq_true rfl) (am_G.mono (c_V_siteNumber (d := d + 2) hV hR0 hO h12 hB0 ho) ?_)
  intro r h1 hq
  rw [hq.1, hq.2, ← hoo]
  clear hq h1 r
  refine ⟨am_nti _, ?_⟩
  refine g_istore_n (pc := 5) dc_V_allows_5 (by decide) ?_
  show am_G X mt_V_allows _ 6 [some (.ref 26), some (.ref a), some (.int (er oo))] [] _ _
  refine g_iload_n (pc := 6) dc_V_allows_6 rfl ?_
  refine g_iconst (pc := 7) (v := (-1)) dc_V_allows_7 rfl ?_
  refine q_o_eq (pc := 8) (tgt := 24) dc_V_allows_8 hnp2 rfl (fun hc8 => ?_) (fun k8 hc8 => ?_)
  · rw [hc8]
    refine g_iconst (pc := 24) (v := 1) dc_V_allows_24 rfl ?_
    refine g_goto (pc := 25) (tgt := 29) dc_V_allows_25 rfl ?_
    exact g_zreturn dc_V_allows_29 rfl rfl ⟨by unfold jgL; rw [← hoo, hc8]; rfl, rfl⟩
  · rw [hc8]
    rw [show er (some k8) = nI k8 from rfl]
    have hk8 := hnp2 k8 hc8
    refine g_aload_n (pc := 11) dc_V_allows_11 rfl ?_
    refine g_getfield (pc := 12) dc_V_allows_12 fl_V_19 hV.1 rfl ?_
    refine g_iload_n (pc := 15) dc_V_allows_15 rfl ?_
    have hkl := (nbr_s (hoo.symm.trans hc8)).1
    obtain ⟨tc, hp1, st, al, alb, di, dib, c1, c2, ⟨b3, e3, c3⟩, ⟨b4, e4, c4⟩⟩ := hg2 k8 hkl
    have hq9 := hQ k8 hkl
    refine q_aaload5 (pc := 16) k8 dc_V_allows_16 hg.1 (by omega) (by omega) hp1 ?_
    refine g_aload_n (pc := 17) dc_V_allows_17 rfl ?_
    refine g_v1 (pc := 18) (M' := mt_T_allows) dc_V_allows_18 mo_T_allows im_T_allows se_T_allows ln_V_81 c1.1 rfl rfl (Nat.le_of_ble_eq_true rfl) (Nat.le_of_ble_eq_true rfl) (am_G.mono (c_T_allows (d := d) c1.1 c3.1 c4.1 hq9.1 hq9.2 hbh htb ho) ?_)
    intro r h1 hq
    rw [hq.1, hq.2]
    clear hq h1 r
    refine ⟨am_nti _, ?_⟩
    refine q_ifb_eq (pc := 21) (tgt := 28) dc_V_allows_21 rfl (fun hc21 => ?_) (fun hc21 => ?_)
    · refine g_iconst (pc := 28) (v := 0) dc_V_allows_28 rfl ?_
      exact g_zreturn dc_V_allows_29 rfl rfl ⟨by unfold jgL; rw [← hoo, hc8]; show _ = some (Value.int (b1 (alw D (rlz (gT Rt k8)).2.2.2.1 (rlz (gT Rt k8)).2.2.2.2))); rw [hc21]; rfl, rfl⟩
    · refine g_iconst (pc := 24) (v := 1) dc_V_allows_24 rfl ?_
      refine g_goto (pc := 25) (tgt := 29) dc_V_allows_25 rfl ?_
      exact g_zreturn dc_V_allows_29 rfl rfl ⟨by unfold jgL; rw [← hoo, hc8]; show _ = some (Value.int (b1 (alw D (rlz (gT Rt k8)).2.2.2.1 (rlz (gT Rt k8)).2.2.2.2))); rw [hc21]; rfl, rfl⟩
end C4S
