/-! ===== the finder is told: seeds, pages, rules; reads addresses ===== -/
section E4S
variable {X : am_X} {d i k n : Nat} {D L E : List Int32} {w w0 w1 : Gw} {h h0 h1 : List va_E} {I : List Nat} {T Rs Rt Sd : List (List Int32)} {p x : Int32} {P : List Pg}
theorem rdC_nw (z : rdC w h) (f : fr w w1 h h1 I) (a : aR w1 h1) (b : eB w1 h1 8 8) (hi : ∀ x, x ∈ [12, 13, 14, 21, 22, 24] → ¬ x ∈ I) : rdC w1 h1 := by
  obtain ⟨Ls, a1, a2, a3, a4, a5, a6, a7⟩ := z
  exact ⟨Ls, cO.fr a1 f (hi 12 (by decide)), a, a3.fr f (hi 21 (by decide)), b, a5.fr f (hi 22 (by decide)), a6.fr f (hi 24 (by decide)), a7.fr f (hi 13 (by decide)) (hi 14 (by decide))⟩
theorem rdC.ar (z : rdC w h) : aR w h ∧ eB w h 8 8 := by
  obtain ⟨Ls, a1, a2, a3, a4, a5, a6, a7⟩ := z
  exact ⟨a2, a4⟩
theorem bE.bt {a : Nat} (z : bE w h i a L) : btg L := by
  obtain ⟨b, q⟩ := z
  exact q.1.ttb.btg
theorem bE.len {a : Nat} (z : bE w h i a L) : L.length ≤ 33554432 := by
  obtain ⟨b, q⟩ := z
  exact q.1.len
theorem fsa_1 (e : fsa L = some D) : 1 ≤ L.length ∧ 1 ≤ bhf L ∧ bhf L ≤ L.length := by
  have h1 : 1 ≤ L.length := by
    cases L with
    | nil => rw [show fsa ([] : List Int32) = none from rfl] at e; cases e
    | cons a L => exact Nat.succ_le_succ (Nat.zero_le _)
  refine ⟨h1, ?_, ?_⟩
  · unfold bhf
    omega
  · exact Nat.min_le_right _ _
theorem bhf_le : bhf L ≤ L.length := Nat.min_le_right _ _
theorem pge_x {s : Nat} (e : fsa L = some D) (e2 : ixo p 600 = some s) (h9 : ¬ s < 100) : pge L p P = pgx P (D, s, rst L) := by
  unfold pge
  rw [e]
  dsimp only
  rw [e2]
  dsimp only
  rw [if_neg h9]
  rfl
theorem rle_x (e : fsa L = some D) : rle L Rs Rt = rlx Rs Rt D (rst L) := by
  unfold rle
  rw [e]
  rfl
theorem drp_x (e : rfa L = some D) : drp L P = drx P D := by
  unfold drp
  rw [e]
  rfl
theorem w_W_seed (hW : wO w h) (hT : bE w h 1 1 L) (hS : rdC w h) (h8 : L.length ≤ 8000) (hR : rE w h 30 31 30 31 Sd []) (hok : ∀ x, x ∈ Sd → okD x) (h20 : Sd.length ≤ 20) : am_C X mt_W_seed (d + 9) [.ref 0] h (fun r h1 => ∃ w1, fr w w1 h h1 [1, 8, 10, 30, 31] ∧ rdC w1 h1 ∧ bE w1 h1 1 1 [] ∧ match sde L Sd with | none => r = some (.int (-1)) ∧ rE w1 h1 30 31 30 31 Sd [] | some Z => r = some (.int (nI Z.length)) ∧ rE w1 h1 30 31 30 31 Z []) := by
  show am_G X mt_W_seed (d + 9) 0 [some (.ref 0)] [] h _
  refine g_aload_n (pc := 0) dc_W_seed_0 rfl ?_
  refine g_v0 (pc := 1) (M' := mt_W_resolveTape) dc_W_seed_1 mo_W_resolveTape im_W_resolveTape se_W_resolveTape ln_W_128 hW.1 rfl rfl (Nat.le_of_ble_eq_true rfl) (Nat.le_of_ble_eq_true rfl) (am_G.mono (w_W_resolveTape (d := d) hW hT hS.ar.1 hS.ar.2 h8) ?_)
  intro r h9 hz
  obtain ⟨w9, z1, hA9, hT9, z4⟩ := hz
  have hbL := hT.bt
  have hW9 := hW.fr z1 (by decide)
  cases hm : rfa L with
  | none =>
    rw [hm] at z4
    rw [z4.1]
    refine ⟨am_nti _, ?_⟩
    have hS9 := rdC_nw hS z1 hA9 ⟨_, z4.2⟩ (by decide)
    rw [show sde L Sd = none by unfold sde; rw [hm]]
    refine g_if_eq (pc := 4) (tgt := 19) dc_W_seed_4 rfl (fun _ => ?_) (fun hc => absurd hc (by decide))
    refine g_iconst (pc := 19) (v := (-1)) dc_W_seed_19 rfl ?_
    exact g_ireturn dc_W_seed_20 rfl ⟨w9, z1.mo (by decide), hS9, hT9, rfl, hR.fr z1 (by decide) (by decide)⟩
  | some D =>
    rw [hm] at z4
    rw [z4.1]
    refine ⟨am_nti _, ?_⟩
    have hS9 := rdC_nw hS z1 hA9 ⟨_, z4.2⟩ (by decide)
    have hoD := rfa_ok hbL hm
    have h200 := hoD.2.2.2.2.1
    have z8 := z4.2
    obtain ⟨b8, q8⟩ := z8
    have hR9 := hR.fr z1 (by decide) (by decide)
    have hR9a := hR9
    obtain ⟨bS, eS, hSr⟩ := hR9a
    have hfl := ok_fl Sd hok
    have hsd : sde L Sd = if Sd.length = 20 then none else some (Sd ++ [D]) := by unfold sde; rw [hm]
    refine g_if_eq (pc := 4) (tgt := 19) dc_W_seed_4 rfl (fun hc => absurd hc (by decide)) (fun _ => ?_)
    refine g_aload_n (pc := 7) dc_W_seed_7 rfl ?_
    refine g_getfield (pc := 8) dc_W_seed_8 fl_W_56 hW9.1 rfl ?_
    refine g_getfield (pc := 11) dc_W_seed_11 fl_W_167 hSr.1.1 rfl ?_
    refine g_bipush (pc := 14) (v := 20) dc_W_seed_14 rfl ?_
    refine q_icmp_lt (pc := 16) (tgt := 21) Sd.length 20 dc_W_seed_16 (by omega) (by omega) rfl (fun hc16 => ?_) (fun hc16 => ?_)
    · refine g_aload_n (pc := 21) dc_W_seed_21 rfl ?_
      refine g_getfield (pc := 22) dc_W_seed_22 fl_W_56 hW9.1 rfl ?_
      refine g_aload_n (pc := 25) dc_W_seed_25 rfl ?_
      refine g_getfield (pc := 26) dc_W_seed_26 fl_W_27 hW9.1 rfl ?_
      refine g_getfield (pc := 29) dc_W_seed_29 fl_W_102 hA9.1.1 rfl ?_
      refine g_getfield (pc := 32) dc_W_seed_32 fl_W_109 q8.1.ha rfl ?_
      refine g_iconst (pc := 35) (v := 0) dc_W_seed_35 rfl ?_
      refine g_aload_n (pc := 36) dc_W_seed_36 rfl ?_
      refine g_getfield (pc := 37) dc_W_seed_37 fl_W_27 hW9.1 rfl ?_
      refine g_getfield (pc := 40) dc_W_seed_40 fl_W_102 hA9.1.1 rfl ?_
      refine g_getfield (pc := 43) dc_W_seed_43 fl_W_85 q8.1.ha rfl ?_
      rw [hsd, if_neg (show ¬ Sd.length = 20 by omega)]
      refine g_v3 (pc := 46) (M' := mt_R_add) dc_W_seed_46 mo_R_add im_R_add se_R_add ln_W_170 hSr.1.1 rfl rfl (Nat.le_of_ble_eq_true rfl) (Nat.le_of_ble_eq_true rfl) (am_G.mono (w_R_add0 (d := d + 5) (i := 30) (j := 31) (q := 8) (f := 0) (t := D.length) (M := D) (by decide) (by decide) (by decide) hR9 q8.tO (by decide) (Nat.zero_le _) (Nat.le_refl _) (by show 2 * (_ + _) + 16 ≤ 40016; omega) (by show 2 * _ + 18 ≤ 40016; omega)) ?_)
      intro r h2 hz
      obtain ⟨y1, w2, y2, y3⟩ := hz
      rw [y1]
      clear y1 r
      rw [show sub D 0 D.length = D from sub_all rfl] at y3
      have hW2 := hW9.fr y2 (by decide)
      have y3a := y3
      obtain ⟨bS2, eS2, hSr2⟩ := y3a
      refine ⟨am_nt0, ?_⟩
      refine g_aload_n (pc := 49) dc_W_seed_49 rfl ?_
      refine g_getfield (pc := 50) dc_W_seed_50 fl_W_56 hW2.1 rfl ?_
      refine g_getfield (pc := 53) dc_W_seed_53 fl_W_167 hSr2.1.1 rfl ?_
      exact g_ireturn dc_W_seed_56 rfl ⟨w2, (z1.mo (by decide)).tr (y2.mo (by decide)), hS9.fr y2 (by decide), hT9.fr y2 (by decide), rfl, y3⟩
    · refine g_iconst (pc := 19) (v := (-1)) dc_W_seed_19 rfl ?_
      rw [hsd, if_pos (show Sd.length = 20 by omega)]
      exact g_ireturn dc_W_seed_20 rfl ⟨w9, z1.mo (by decide), hS9, hT9, rfl, hR9⟩
theorem w_W_drop (hW : wO w h) (hT : bE w h 1 1 L) (hS : rdC w h) (h8 : L.length ≤ 8000) (hv : vO w h P.length n) (hp : pgC w h P) (hP60 : P.length ≤ 60) : am_C X mt_W_drop (d + 9) [.ref 0] h (fun r h1 => ∃ w1, fr w w1 h h1 [1, 8, 10, 26, 27] ∧ rdC w1 h1 ∧ bE w1 h1 1 1 [] ∧ w1.2 27 = w.2 27 ∧ match drp L P with | none => r = some (.int 0) ∧ vO w1 h1 P.length n ∧ pgC w1 h1 P | some P1 => r = some (.int 1) ∧ vO w1 h1 P1.length n ∧ pgC w1 h1 P1) := by
  show am_G X mt_W_drop (d + 9) 0 [some (.ref 0)] [] h _
  refine g_aload_n (pc := 0) dc_W_drop_0 rfl ?_
  refine g_v0 (pc := 1) (M' := mt_W_resolveTape) dc_W_drop_1 mo_W_resolveTape im_W_resolveTape se_W_resolveTape ln_W_128 hW.1 rfl rfl (Nat.le_of_ble_eq_true rfl) (Nat.le_of_ble_eq_true rfl) (am_G.mono (w_W_resolveTape (d := d) hW hT hS.ar.1 hS.ar.2 h8) ?_)
  intro r h9 hz
  obtain ⟨w9, z1, hA9, hT9, z4⟩ := hz
  have hbL := hT.bt
  have hW9 := hW.fr z1 (by decide)
  cases hm : rfa L with
  | none =>
    rw [hm] at z4
    rw [z4.1]
    refine ⟨am_nti _, ?_⟩
    have hS9 := rdC_nw hS z1 hA9 ⟨_, z4.2⟩ (by decide)
    rw [show drp L P = none by unfold drp; rw [hm]]
    refine g_if_eq (pc := 4) (tgt := 28) dc_W_drop_4 rfl (fun _ => ?_) (fun hc => absurd hc (by decide))
    refine g_iconst (pc := 28) (v := 0) dc_W_drop_28 rfl ?_
    exact g_zreturn dc_W_drop_29 rfl rfl ⟨w9, z1.mo (by decide), hS9, hT9, z1.2.1 27 (by decide), rfl, hv.fr z1 (by decide), hp.fr z1 (by decide) (by decide)⟩
  | some D =>
    rw [hm] at z4
    rw [z4.1]
    refine ⟨am_nti _, ?_⟩
    have hS9 := rdC_nw hS z1 hA9 ⟨_, z4.2⟩ (by decide)
    have hoD := rfa_ok hbL hm
    have h200 := hoD.2.2.2.2.1
    have z8 := z4.2
    obtain ⟨b8, q8⟩ := z8
    have hv9 := hv.fr z1 (by decide)
    have hp9 := hp.fr z1 (by decide) (by decide)
    rw [drp_x hm]
    refine g_if_eq (pc := 4) (tgt := 28) dc_W_drop_4 rfl (fun hc => absurd hc (by decide)) (fun _ => ?_)
    refine g_aload_n (pc := 7) dc_W_drop_7 rfl ?_
    refine g_getfield (pc := 8) dc_W_drop_8 fl_W_43 hW9.1 rfl ?_
    refine g_aload_n (pc := 11) dc_W_drop_11 rfl ?_
    refine g_getfield (pc := 12) dc_W_drop_12 fl_W_27 hW9.1 rfl ?_
    refine g_getfield (pc := 15) dc_W_drop_15 fl_W_102 hA9.1.1 rfl ?_
    refine g_v1 (pc := 18) (M' := mt_V_dropPage) dc_W_drop_18 mo_V_dropPage im_V_dropPage se_V_dropPage ln_W_131 hv9.1 rfl rfl (Nat.le_of_ble_eq_true rfl) (Nat.le_of_ble_eq_true rfl) (am_G.mono (w_V_dropPage (d := d + 4) hv9 hp9 hP60 (bB.e q8)) ?_)
    intro r h2 hz
    cases hd : drx P D with
    | none =>
      rw [hd] at hz
      rw [hz.1, hz.2]
      refine ⟨am_nti _, ?_⟩
      refine g_if_eq (pc := 21) (tgt := 28) dc_W_drop_21 rfl (fun _ => ?_) (fun hc => absurd hc (by decide))
      refine g_iconst (pc := 28) (v := 0) dc_W_drop_28 rfl ?_
      exact g_zreturn dc_W_drop_29 rfl rfl ⟨w9, z1.mo (by decide), hS9, hT9, z1.2.1 27 (by decide), rfl, hv9, hp9⟩
    | some P1 =>
      rw [hd] at hz
      obtain ⟨y1, w2, y2, y3, y4, y5⟩ := hz
      rw [y1]
      refine ⟨am_nti _, ?_⟩
      refine g_if_eq (pc := 21) (tgt := 28) dc_W_drop_21 rfl (fun hc => absurd hc (by decide)) (fun _ => ?_)
      refine g_iconst (pc := 24) (v := 1) dc_W_drop_24 rfl ?_
      refine g_goto (pc := 25) (tgt := 29) dc_W_drop_25 rfl ?_
      exact g_zreturn dc_W_drop_29 rfl rfl ⟨w2, (z1.mo (by decide)).tr (y2.mo (by decide)), hS9.fr y2 (by decide), hT9.fr y2 (by decide), by rw [y5]; exact z1.2.1 27 (by decide), rfl, y3, y4⟩
theorem w_W_allowed (hW : wO w h) (hT : bE w h 1 1 L) (hS : rdC w h) (h8 : L.length ≤ 8000) (hv : vO w h n Rs.length) (hr : ruC w h Rs Rt) (hrs : rsO Rs) (h12 : Rs.length ≤ 12) (hQ : ∀ k, k < Rs.length → okQ (rlz (gT Rt k))) : am_C X mt_W_allowed (d + 9) [.ref 0] h (fun r h1 => r = some (.int (match rfa L with | none => -1 | some D => b1 (jgL D Rs Rt))) ∧ ∃ w1, fr w w1 h h1 [1, 8, 10] ∧ rdC w1 h1 ∧ bE w1 h1 1 1 []) := by
  show am_G X mt_W_allowed (d + 9) 0 [some (.ref 0)] [] h _
  refine g_aload_n (pc := 0) dc_W_allowed_0 rfl ?_
  refine g_v0 (pc := 1) (M' := mt_W_resolveTape) dc_W_allowed_1 mo_W_resolveTape im_W_resolveTape se_W_resolveTape ln_W_128 hW.1 rfl rfl (Nat.le_of_ble_eq_true rfl) (Nat.le_of_ble_eq_true rfl) (am_G.mono (w_W_resolveTape (d := d) hW hT hS.ar.1 hS.ar.2 h8) ?_)
  intro r h9 hz
  obtain ⟨w9, z1, hA9, hT9, z4⟩ := hz
  have hbL := hT.bt
  have hW9 := hW.fr z1 (by decide)
  cases hm : rfa L with
  | none =>
    rw [hm] at z4
    rw [z4.1]
    refine ⟨am_nti _, ?_⟩
    have hS9 := rdC_nw hS z1 hA9 ⟨_, z4.2⟩ (by decide)
    refine g_if_ne (pc := 4) (tgt := 9) dc_W_allowed_4 rfl (fun hc => absurd hc (by decide)) (fun _ => ?_)
    refine g_iconst (pc := 7) (v := (-1)) dc_W_allowed_7 rfl ?_
    exact g_ireturn dc_W_allowed_8 rfl ⟨rfl, w9, z1, hS9, hT9⟩
  | some D =>
    rw [hm] at z4
    rw [z4.1]
    refine ⟨am_nti _, ?_⟩
    have hS9 := rdC_nw hS z1 hA9 ⟨_, z4.2⟩ (by decide)
    have hoD := rfa_ok hbL hm
    have h200 := hoD.2.2.2.2.1
    have z8 := z4.2
    obtain ⟨b8, q8⟩ := z8
    have hv9 := hv.fr z1 (by decide)
    have hr9 := hr.fr z1 (by decide)
    refine g_if_ne (pc := 4) (tgt := 9) dc_W_allowed_4 rfl (fun _ => ?_) (fun hc => absurd hc (by decide))
    refine g_aload_n (pc := 9) dc_W_allowed_9 rfl ?_
    refine g_getfield (pc := 10) dc_W_allowed_10 fl_W_43 hW9.1 rfl ?_
    refine g_aload_n (pc := 13) dc_W_allowed_13 rfl ?_
    refine g_getfield (pc := 14) dc_W_allowed_14 fl_W_27 hW9.1 rfl ?_
    refine g_getfield (pc := 17) dc_W_allowed_17 fl_W_102 hA9.1.1 rfl ?_
    refine g_v1 (pc := 20) (M' := mt_V_allows) dc_W_allowed_20 mo_V_allows im_V_allows se_V_allows ln_W_139 hv9.1 rfl rfl (Nat.le_of_ble_eq_true rfl) (Nat.le_of_ble_eq_true rfl) (am_G.mono (c_V_allows (d := d + 2) hv9 hr9 hrs h12 (bB.e q8) hoD hQ) ?_)
    intro r h1 hq
    rw [hq.1, hq.2]
    clear hq h1 r
    refine ⟨am_nti _, ?_⟩
    refine q_ifb_eq (pc := 23) (tgt := 30) dc_W_allowed_23 rfl (fun hc23 => ?_) (fun hc23 => ?_)
    · refine g_iconst (pc := 30) (v := 0) dc_W_allowed_30 rfl ?_
      exact g_ireturn dc_W_allowed_31 rfl ⟨by dsimp only; rw [hc23]; rfl, w9, z1, hS9, hT9⟩
    · refine g_iconst (pc := 26) (v := 1) dc_W_allowed_26 rfl ?_
      refine g_goto (pc := 27) (tgt := 31) dc_W_allowed_27 rfl ?_
      exact g_ireturn dc_W_allowed_31 rfl ⟨by dsimp only; rw [hc23]; rfl, w9, z1, hS9, hT9⟩
theorem w_W_page (hW : wO w h) (hT : bE w h 1 1 L) (hS : rdC w h) (h8 : L.length ≤ 8000) (hv : vO w h P.length n) (hp : pgC w h P) (hP60 : P.length ≤ 60) : am_C X mt_W_page (d + 9) [.ref 0, .int p] h (fun r h1 => ∃ w1, fr w w1 h h1 [1, 8, 10, 26, 27] ∧ rdC w1 h1 ∧ bE w1 h1 1 1 [] ∧ w1.2 27 ≤ w.2 27 + (248 + L.length) ∧ match pge L p P with | none => r = some (.int (-1)) ∧ vO w1 h1 P.length n ∧ pgC w1 h1 P | some P1 => r = some (.int (nI P1.length)) ∧ vO w1 h1 P1.length n ∧ pgC w1 h1 P1) := by
  show am_G X mt_W_page (d + 9) 0 [some (.ref 0), some (.int p), none, none] [] h _
  refine g_aload_n (pc := 0) dc_W_page_0 rfl ?_
  refine g_v0 (pc := 1) (M' := mt_W_resolveLine) dc_W_page_1 mo_W_resolveLine im_W_resolveLine se_W_resolveLine ln_W_98 hW.1 rfl rfl (Nat.le_of_ble_eq_true rfl) (Nat.le_of_ble_eq_true rfl) (am_G.mono (w_W_resolveLine (d := d) hW hT hS.ar.1 hS.ar.2 h8) ?_)
  intro r h9 hz
  obtain ⟨w9, z1, hA9, z4⟩ := hz
  have hT9 := hT.fr z1 (by decide)
  have hbL := hT.bt
  have hW9 := hW.fr z1 (by decide)
  cases hm : fsa L with
  | none =>
    rw [hm] at z4
    rw [z4.1]
    refine ⟨am_nti _, ?_⟩
    have hS9 := rdC_nw hS z1 hA9 ⟨_, z4.2⟩ (by decide)
    rw [show pge L p P = none by unfold pge; rw [hm]]
    refine g_istore_n (pc := 4) dc_W_page_4 (by decide) ?_
    show am_G X mt_W_page _ 5 [some (.ref 0), some (.int p), some (.int 0), none] [] _ _
    refine g_iconst (pc := 5) (v := (-1)) dc_W_page_5 rfl ?_
    refine g_istore_n (pc := 6) dc_W_page_6 (by decide) ?_
    show am_G X mt_W_page _ 7 [some (.ref 0), some (.int p), some (.int 0), some (.int (-1))] [] _ _
    refine g_iload_n (pc := 7) dc_W_page_7 rfl ?_
    refine g_if_eq (pc := 8) (tgt := 48) dc_W_page_8 rfl (fun _ => ?_) (fun hc => absurd hc (by decide))
    refine g_aload_n (pc := 48) dc_W_page_48 rfl ?_
    refine g_getfield (pc := 49) dc_W_page_49 fl_W_12 hW9.1 rfl ?_
    have hT1c := hT9
    obtain ⟨b1c, q1c⟩ := hT1c
    refine g_v0 (pc := 52) (M' := mt_B_clear) dc_W_page_52 mo_B_clear im_B_clear se_B_clear ln_W_121 q1c.1.ha rfl rfl (Nat.le_of_ble_eq_true rfl) (Nat.le_of_ble_eq_true rfl) (am_G.mono (w_B_clear (i := 1) (by decide) hT9) ?_)
    intro r h5 hz
    obtain ⟨u1, w5, u2, u3⟩ := hz
    rw [u1]
    clear u1 r
    refine ⟨am_nt0, ?_⟩
    refine g_iload_n (pc := 55) dc_W_page_55 rfl ?_
    exact g_ireturn dc_W_page_56 rfl ⟨w5, (z1.mo (by decide)).tr (u2.mo (by decide)), hS9.fr u2 (by decide), u3, by rw [(u2.2.1 27 (by decide)).trans (z1.2.1 27 (by decide))]; omega, rfl, (hv.fr z1 (by decide)).fr u2 (by decide), (hp.fr z1 (by decide) (by decide)).fr u2 (by decide) (by decide)⟩
  | some D =>
    rw [hm] at z4
    rw [z4.1]
    refine ⟨am_nti _, ?_⟩
    have hS9 := rdC_nw hS z1 hA9 ⟨_, z4.2⟩ (by decide)
    have hoD := fsa_ok hbL hm
    have h200 := hoD.2.2.2.2.1
    have z8 := z4.2
    obtain ⟨b8, q8⟩ := z8
    have hv9 := hv.fr z1 (by decide)
    have hp9 := hp.fr z1 (by decide) (by decide)
    have hf1 := fsa_1 hm
    cases e6 : ixo p 600 with
    | none =>
      have hout := ixo_n (by decide) e6
      rw [show pge L p P = none by unfold pge; rw [hm]; dsimp only; rw [e6]]
      refine g_istore_n (pc := 4) dc_W_page_4 (by decide) ?_
      show am_G X mt_W_page _ 5 [some (.ref 0), some (.int p), some (.int 1), none] [] _ _
      refine g_iconst (pc := 5) (v := (-1)) dc_W_page_5 rfl ?_
      refine g_istore_n (pc := 6) dc_W_page_6 (by decide) ?_
      show am_G X mt_W_page _ 7 [some (.ref 0), some (.int p), some (.int 1), some (.int (-1))] [] _ _
      refine g_iload_n (pc := 7) dc_W_page_7 rfl ?_
      refine g_if_eq (pc := 8) (tgt := 48) dc_W_page_8 rfl (fun hc => absurd hc (by decide)) (fun _ => ?_)
      refine g_iload_n (pc := 11) dc_W_page_11 rfl ?_
      refine g_bipush (pc := 12) (v := 100) dc_W_page_12 rfl ?_
      refine g_icmp_lt (pc := 14) (tgt := 48) dc_W_page_14 rfl (fun hc14 => ?_) (fun hc14 => ?_)
      · have hi14 : (p).toInt < (100 : Int) := Int32.lt_iff_toInt_lt.mp hc14
        refine g_aload_n (pc := 48) dc_W_page_48 rfl ?_
        refine g_getfield (pc := 49) dc_W_page_49 fl_W_12 hW9.1 rfl ?_
        have hT1c := hT9
        obtain ⟨b1c, q1c⟩ := hT1c
        refine g_v0 (pc := 52) (M' := mt_B_clear) dc_W_page_52 mo_B_clear im_B_clear se_B_clear ln_W_121 q1c.1.ha rfl rfl (Nat.le_of_ble_eq_true rfl) (Nat.le_of_ble_eq_true rfl) (am_G.mono (w_B_clear (i := 1) (by decide) hT9) ?_)
        intro r h5 hz
        obtain ⟨u1, w5, u2, u3⟩ := hz
        rw [u1]
        clear u1 r
        refine ⟨am_nt0, ?_⟩
        refine g_iload_n (pc := 55) dc_W_page_55 rfl ?_
        exact g_ireturn dc_W_page_56 rfl ⟨w5, (z1.mo (by decide)).tr (u2.mo (by decide)), hS9.fr u2 (by decide), u3, by rw [(u2.2.1 27 (by decide)).trans (z1.2.1 27 (by decide))]; omega, rfl, (hv.fr z1 (by decide)).fr u2 (by decide), (hp.fr z1 (by decide) (by decide)).fr u2 (by decide) (by decide)⟩
      · have hi14 : ¬ ((p).toInt < (100 : Int)) := fun h9 => hc14 (Int32.lt_iff_toInt_lt.mpr h9)
        refine g_iload_n (pc := 17) dc_W_page_17 rfl ?_
        refine g_sipush (pc := 18) (v := 599) dc_W_page_18 rfl ?_
        refine g_icmp_gt (pc := 21) (tgt := 48) dc_W_page_21 rfl (fun hc21 => ?_) (fun hc => absurd hc (fun h8 => hout.elim (fun h7 => absurd h7 (Int32.not_lt.mpr (Int32.le_trans (by decide) (Int32.not_lt.mp hc14)))) (fun h7 => absurd (Int32.le_trans h7 (Int32.not_lt.mp h8)) (by decide))))
        refine g_aload_n (pc := 48) dc_W_page_48 rfl ?_
        refine g_getfield (pc := 49) dc_W_page_49 fl_W_12 hW9.1 rfl ?_
        have hT1c := hT9
        obtain ⟨b1c, q1c⟩ := hT1c
        refine g_v0 (pc := 52) (M' := mt_B_clear) dc_W_page_52 mo_B_clear im_B_clear se_B_clear ln_W_121 q1c.1.ha rfl rfl (Nat.le_of_ble_eq_true rfl) (Nat.le_of_ble_eq_true rfl) (am_G.mono (w_B_clear (i := 1) (by decide) hT9) ?_)
        intro r h5 hz
        obtain ⟨u1, w5, u2, u3⟩ := hz
        rw [u1]
        clear u1 r
        refine ⟨am_nt0, ?_⟩
        refine g_iload_n (pc := 55) dc_W_page_55 rfl ?_
        exact g_ireturn dc_W_page_56 rfl ⟨w5, (z1.mo (by decide)).tr (u2.mo (by decide)), hS9.fr u2 (by decide), u3, by rw [(u2.2.1 27 (by decide)).trans (z1.2.1 27 (by decide))]; omega, rfl, (hv.fr z1 (by decide)).fr u2 (by decide), (hp.fr z1 (by decide) (by decide)).fr u2 (by decide) (by decide)⟩
    | some s =>
      obtain ⟨hs6, rfl⟩ := ixo_s e6
      refine g_istore_n (pc := 4) dc_W_page_4 (by decide) ?_
      show am_G X mt_W_page _ 5 [some (.ref 0), some (.int (nI s)), some (.int 1), none] [] _ _
      refine g_iconst (pc := 5) (v := (-1)) dc_W_page_5 rfl ?_
      refine g_istore_n (pc := 6) dc_W_page_6 (by decide) ?_
      show am_G X mt_W_page _ 7 [some (.ref 0), some (.int (nI s)), some (.int 1), some (.int (-1))] [] _ _
      refine g_iload_n (pc := 7) dc_W_page_7 rfl ?_
      refine g_if_eq (pc := 8) (tgt := 48) dc_W_page_8 rfl (fun hc => absurd hc (by decide)) (fun _ => ?_)
      refine g_iload_n (pc := 11) dc_W_page_11 rfl ?_
      refine g_bipush (pc := 12) (v := 100) dc_W_page_12 rfl ?_
      refine q_icmp_lt (pc := 14) (tgt := 48) s 100 dc_W_page_14 (by omega) (by omega) rfl (fun hc14 => ?_) (fun hc14 => ?_)
      · refine g_aload_n (pc := 48) dc_W_page_48 rfl ?_
        refine g_getfield (pc := 49) dc_W_page_49 fl_W_12 hW9.1 rfl ?_
        have hT1c := hT9
        obtain ⟨b1c, q1c⟩ := hT1c
        refine g_v0 (pc := 52) (M' := mt_B_clear) dc_W_page_52 mo_B_clear im_B_clear se_B_clear ln_W_121 q1c.1.ha rfl rfl (Nat.le_of_ble_eq_true rfl) (Nat.le_of_ble_eq_true rfl) (am_G.mono (w_B_clear (i := 1) (by decide) hT9) ?_)
        intro r h5 hz
        obtain ⟨u1, w5, u2, u3⟩ := hz
        rw [u1]
        clear u1 r
        refine ⟨am_nt0, ?_⟩
        refine g_iload_n (pc := 55) dc_W_page_55 rfl ?_
        rw [show pge L (nI s) P = none by unfold pge; rw [hm]; dsimp only; rw [e6]; dsimp only; rw [if_pos (by omega)]]
        exact g_ireturn dc_W_page_56 rfl ⟨w5, (z1.mo (by decide)).tr (u2.mo (by decide)), hS9.fr u2 (by decide), u3, by rw [(u2.2.1 27 (by decide)).trans (z1.2.1 27 (by decide))]; omega, rfl, (hv.fr z1 (by decide)).fr u2 (by decide), (hp.fr z1 (by decide) (by decide)).fr u2 (by decide) (by decide)⟩
      · refine g_iload_n (pc := 17) dc_W_page_17 rfl ?_
        refine g_sipush (pc := 18) (v := 599) dc_W_page_18 rfl ?_
        refine q_icmp_gt (pc := 21) (tgt := 48) s 599 dc_W_page_21 (by omega) (by omega) rfl (fun hc => absurd hc (by omega)) (fun hc21 => ?_)
        refine g_aload_n (pc := 24) dc_W_page_24 rfl ?_
        refine g_getfield (pc := 25) dc_W_page_25 fl_W_43 hW9.1 rfl ?_
        refine g_aload_n (pc := 28) dc_W_page_28 rfl ?_
        refine g_getfield (pc := 29) dc_W_page_29 fl_W_27 hW9.1 rfl ?_
        refine g_getfield (pc := 32) dc_W_page_32 fl_W_102 hA9.1.1 rfl ?_
        refine g_iload_n (pc := 35) dc_W_page_35 rfl ?_
        refine g_aload_n (pc := 36) dc_W_page_36 rfl ?_
        refine g_getfield (pc := 37) dc_W_page_37 fl_W_12 hW9.1 rfl ?_
        refine g_aload_n (pc := 40) dc_W_page_40 rfl ?_
        refine g_v0 (pc := 41) (M' := mt_W_restFrom) dc_W_page_41 mo_W_restFrom im_W_restFrom se_W_restFrom ln_W_113 hW9.1 rfl rfl (Nat.le_of_ble_eq_true rfl) (Nat.le_of_ble_eq_true rfl) (am_G.mono (c_W_restFrom (d := d + 6) hW9 hT9 h8) ?_)
        intro r h1 hq
        rw [hq.1, hq.2]
        clear hq h1 r
        refine ⟨am_nti _, ?_⟩
        rw [pge_x hm e6 (by omega)]
        refine g_v4 (pc := 44) (M' := mt_V_tellPage) dc_W_page_44 mo_V_tellPage im_V_tellPage se_V_tellPage ln_W_124 hv9.1 rfl rfl (Nat.le_of_ble_eq_true rfl) (Nat.le_of_ble_eq_true rfl) (am_G.mono (w_V_tellPage (d := d + 4) (s := s) (f := bhf L) hv9 hp9 hP60 (bB.e q8) hA9.2.2 (by omega) hT9 ⟨hf1.2.1, hf1.2.2⟩) ?_)
        intro r h2 hz
        rw [show sub L (bhf L) L.length = rst L from rfl] at hz
        cases hd : pgx P (D, s, rst L) with
        | none =>
          rw [hd] at hz
          rw [hz.1, hz.2]
          refine ⟨am_nti _, ?_⟩
          refine g_istore_n (pc := 47) dc_W_page_47 (by decide) ?_
          show am_G X mt_W_page _ 48 [some (.ref 0), some (.int (nI s)), some (.int 1), some (.int (-1))] [] _ _
          refine g_aload_n (pc := 48) dc_W_page_48 rfl ?_
          refine g_getfield (pc := 49) dc_W_page_49 fl_W_12 hW9.1 rfl ?_
          have hT1c := hT9
          obtain ⟨b1c, q1c⟩ := hT1c
          refine g_v0 (pc := 52) (M' := mt_B_clear) dc_W_page_52 mo_B_clear im_B_clear se_B_clear ln_W_121 q1c.1.ha rfl rfl (Nat.le_of_ble_eq_true rfl) (Nat.le_of_ble_eq_true rfl) (am_G.mono (w_B_clear (i := 1) (by decide) hT9) ?_)
          intro r h5 hz
          obtain ⟨u1, w5, u2, u3⟩ := hz
          rw [u1]
          clear u1 r
          refine ⟨am_nt0, ?_⟩
          refine g_iload_n (pc := 55) dc_W_page_55 rfl ?_
          exact g_ireturn dc_W_page_56 rfl ⟨w5, (z1.mo (by decide)).tr (u2.mo (by decide)), hS9.fr u2 (by decide), u3, by rw [(u2.2.1 27 (by decide)).trans (z1.2.1 27 (by decide))]; omega, rfl, (hv.fr z1 (by decide)).fr u2 (by decide), (hp.fr z1 (by decide) (by decide)).fr u2 (by decide) (by decide)⟩
        | some P1 =>
          rw [hd] at hz
          obtain ⟨y1, w2, y2, y3, y4, y5⟩ := hz
          rw [y1]
          refine ⟨am_nti _, ?_⟩
          have hW2 := hW9.fr y2 (by decide)
          have hT2 := hT9.fr y2 (by decide)
          refine g_istore_n (pc := 47) dc_W_page_47 (by decide) ?_
          show am_G X mt_W_page _ 48 [some (.ref 0), some (.int (nI s)), some (.int 1), some (.int (nI P1.length))] [] _ _
          refine g_aload_n (pc := 48) dc_W_page_48 rfl ?_
          refine g_getfield (pc := 49) dc_W_page_49 fl_W_12 hW2.1 rfl ?_
          have hT1c := hT2
          obtain ⟨b1c, q1c⟩ := hT1c
          refine g_v0 (pc := 52) (M' := mt_B_clear) dc_W_page_52 mo_B_clear im_B_clear se_B_clear ln_W_121 q1c.1.ha rfl rfl (Nat.le_of_ble_eq_true rfl) (Nat.le_of_ble_eq_true rfl) (am_G.mono (w_B_clear (i := 1) (by decide) hT2) ?_)
          intro r h5 hz
          obtain ⟨u1, w5, u2, u3⟩ := hz
          rw [u1]
          clear u1 r
          refine ⟨am_nt0, ?_⟩
          refine g_iload_n (pc := 55) dc_W_page_55 rfl ?_
          exact g_ireturn dc_W_page_56 rfl ⟨w5, ((z1.mo (by decide)).tr (y2.mo (by decide))).tr (u2.mo (by decide)), (hS9.fr y2 (by decide)).fr u2 (by decide), u3, by rw [u2.2.1 27 (by decide), y5, z1.2.1 27 (by decide)]; omega, rfl, y3.fr u2 (by decide), y4.fr u2 (by decide) (by decide)⟩
theorem w_W_rules (hW : wO w h) (hT : bE w h 1 1 L) (hS : rdC w h) (h8 : L.length ≤ 8000) (hv : vO w h n Rs.length) (hr : ruC w h Rs Rt) (hrs : rsO Rs) (h12 : Rs.length ≤ 12) (hrt : Rt.length = Rs.length) : am_C X mt_W_rules (d + 10) [.ref 0] h (fun r h1 => ∃ w1, fr w w1 h h1 (1 :: 8 :: 10 :: IR) ∧ rdC w1 h1 ∧ bE w1 h1 1 1 [] ∧ match rle L Rs Rt with | none => r = some (.int (-1)) ∧ vO w1 h1 n Rs.length ∧ ruC w1 h1 Rs Rt | some z => r = some (.int (nI (jgH ((fsa L).getD []) z.1 z.2))) ∧ vO w1 h1 n z.1.length ∧ ruC w1 h1 z.1 z.2) := by
  show am_G X mt_W_rules (d + 10) 0 [some (.ref 0), none] [] h _
  refine g_iconst (pc := 0) (v := (-1)) dc_W_rules_0 rfl ?_
  refine g_istore_n (pc := 1) dc_W_rules_1 (by decide) ?_
  show am_G X mt_W_rules _ 2 [some (.ref 0), some (.int (-1))] [] _ _
  refine g_aload_n (pc := 2) dc_W_rules_2 rfl ?_
  refine g_v0 (pc := 3) (M' := mt_W_resolveLine) dc_W_rules_3 mo_W_resolveLine im_W_resolveLine se_W_resolveLine ln_W_98 hW.1 rfl rfl (Nat.le_of_ble_eq_true rfl) (Nat.le_of_ble_eq_true rfl) (am_G.mono (w_W_resolveLine (d := d + 1) hW hT hS.ar.1 hS.ar.2 h8) ?_)
  intro r h9 hz
  obtain ⟨w9, z1, hA9, z4⟩ := hz
  have hT9 := hT.fr z1 (by decide)
  have hbL := hT.bt
  have hW9 := hW.fr z1 (by decide)
  cases hm : fsa L with
  | none =>
    rw [hm] at z4
    rw [z4.1]
    refine ⟨am_nti _, ?_⟩
    have hS9 := rdC_nw hS z1 hA9 ⟨_, z4.2⟩ (by decide)
    rw [show rle L Rs Rt = none by unfold rle; rw [hm]]
    refine g_if_eq (pc := 6) (tgt := 32) dc_W_rules_6 rfl (fun _ => ?_) (fun hc => absurd hc (by decide))
    refine g_aload_n (pc := 32) dc_W_rules_32 rfl ?_
    refine g_getfield (pc := 33) dc_W_rules_33 fl_W_12 hW9.1 rfl ?_
    have hT1c := hT9
    obtain ⟨b1c, q1c⟩ := hT1c
    refine g_v0 (pc := 36) (M' := mt_B_clear) dc_W_rules_36 mo_B_clear im_B_clear se_B_clear ln_W_121 q1c.1.ha rfl rfl (Nat.le_of_ble_eq_true rfl) (Nat.le_of_ble_eq_true rfl) (am_G.mono (w_B_clear (i := 1) (by decide) hT9) ?_)
    intro r h5 hz
    obtain ⟨u1, w5, u2, u3⟩ := hz
    rw [u1]
    clear u1 r
    refine ⟨am_nt0, ?_⟩
    refine g_iload_n (pc := 39) dc_W_rules_39 rfl ?_
    exact g_ireturn dc_W_rules_40 rfl ⟨w5, (z1.mo (by decide)).tr (u2.mo (by decide)), hS9.fr u2 (by decide), u3, rfl, (hv.fr z1 (by decide)).fr u2 (by decide), (hr.fr z1 (by decide)).fr u2 (by decide)⟩
  | some D =>
    rw [hm] at z4
    rw [z4.1]
    refine ⟨am_nti _, ?_⟩
    have hS9 := rdC_nw hS z1 hA9 ⟨_, z4.2⟩ (by decide)
    have hoD := fsa_ok hbL hm
    have h200 := hoD.2.2.2.2.1
    have z8 := z4.2
    obtain ⟨b8, q8⟩ := z8
    have hv9 := hv.fr z1 (by decide)
    have hr9 := hr.fr z1 (by decide)
    rw [rle_x hm, show (Option.getD (some D) [] : List Int32) = D from rfl]
    refine g_if_eq (pc := 6) (tgt := 32) dc_W_rules_6 rfl (fun hc => absurd hc (by decide)) (fun _ => ?_)
    refine g_aload_n (pc := 9) dc_W_rules_9 rfl ?_
    refine g_getfield (pc := 10) dc_W_rules_10 fl_W_43 hW9.1 rfl ?_
    refine g_aload_n (pc := 13) dc_W_rules_13 rfl ?_
    refine g_getfield (pc := 14) dc_W_rules_14 fl_W_27 hW9.1 rfl ?_
    refine g_getfield (pc := 17) dc_W_rules_17 fl_W_102 hA9.1.1 rfl ?_
    refine g_aload_n (pc := 20) dc_W_rules_20 rfl ?_
    refine g_getfield (pc := 21) dc_W_rules_21 fl_W_12 hW9.1 rfl ?_
    refine g_aload_n (pc := 24) dc_W_rules_24 rfl ?_
    refine g_v0 (pc := 25) (M' := mt_W_restFrom) dc_W_rules_25 mo_W_restFrom im_W_restFrom se_W_restFrom ln_W_113 hW9.1 rfl rfl (Nat.le_of_ble_eq_true rfl) (Nat.le_of_ble_eq_true rfl) (am_G.mono (c_W_restFrom (d := d + 7) hW9 hT9 h8) ?_)
    intro r h1 hq
    rw [hq.1, hq.2]
    clear hq h1 r
    refine ⟨am_nti _, ?_⟩
    refine g_v3 (pc := 28) (M' := mt_V_tellRules) dc_W_rules_28 mo_V_tellRules im_V_tellRules se_V_tellRules ln_W_135 hv9.1 rfl rfl (Nat.le_of_ble_eq_true rfl) (Nat.le_of_ble_eq_true rfl) (am_G.mono (w_V_tellRules (d := d) (f := bhf L) hv9 hr9 hrs h12 hrt (bB.e q8) hoD hT9 h8 bhf_le) ?_)
    intro r h2 hz
    rw [show sub L (bhf L) L.length = rst L from rfl] at hz
    cases hd : rlx Rs Rt D (rst L) with
    | none =>
      rw [hd] at hz
      rw [hz.1, hz.2]
      refine ⟨am_nti _, ?_⟩
      refine g_istore_n (pc := 31) dc_W_rules_31 (by decide) ?_
      show am_G X mt_W_rules _ 32 [some (.ref 0), some (.int (-1))] [] _ _
      refine g_aload_n (pc := 32) dc_W_rules_32 rfl ?_
      refine g_getfield (pc := 33) dc_W_rules_33 fl_W_12 hW9.1 rfl ?_
      have hT1c := hT9
      obtain ⟨b1c, q1c⟩ := hT1c
      refine g_v0 (pc := 36) (M' := mt_B_clear) dc_W_rules_36 mo_B_clear im_B_clear se_B_clear ln_W_121 q1c.1.ha rfl rfl (Nat.le_of_ble_eq_true rfl) (Nat.le_of_ble_eq_true rfl) (am_G.mono (w_B_clear (i := 1) (by decide) hT9) ?_)
      intro r h5 hz
      obtain ⟨u1, w5, u2, u3⟩ := hz
      rw [u1]
      clear u1 r
      refine ⟨am_nt0, ?_⟩
      refine g_iload_n (pc := 39) dc_W_rules_39 rfl ?_
      exact g_ireturn dc_W_rules_40 rfl ⟨w5, (z1.mo (by decide)).tr (u2.mo (by decide)), hS9.fr u2 (by decide), u3, rfl, (hv.fr z1 (by decide)).fr u2 (by decide), (hr.fr z1 (by decide)).fr u2 (by decide)⟩
    | some z =>
      rw [hd] at hz
      obtain ⟨y1, w2, y2, y3, y4⟩ := hz
      rw [y1]
      refine ⟨am_nti _, ?_⟩
      have hW2 := hW9.fr y2 (by decide)
      have hT2 := hT9.fr y2 (by decide)
      refine g_istore_n (pc := 31) dc_W_rules_31 (by decide) ?_
      show am_G X mt_W_rules _ 32 [some (.ref 0), some (.int (nI (jgH D z.1 z.2)))] [] _ _
      refine g_aload_n (pc := 32) dc_W_rules_32 rfl ?_
      refine g_getfield (pc := 33) dc_W_rules_33 fl_W_12 hW2.1 rfl ?_
      have hT1c := hT2
      obtain ⟨b1c, q1c⟩ := hT1c
      refine g_v0 (pc := 36) (M' := mt_B_clear) dc_W_rules_36 mo_B_clear im_B_clear se_B_clear ln_W_121 q1c.1.ha rfl rfl (Nat.le_of_ble_eq_true rfl) (Nat.le_of_ble_eq_true rfl) (am_G.mono (w_B_clear (i := 1) (by decide) hT2) ?_)
      intro r h5 hz
      obtain ⟨u1, w5, u2, u3⟩ := hz
      rw [u1]
      clear u1 r
      refine ⟨am_nt0, ?_⟩
      refine g_iload_n (pc := 39) dc_W_rules_39 rfl ?_
      exact g_ireturn dc_W_rules_40 rfl ⟨w5, ((z1.mo (by decide)).tr (y2.mo (fun x hx => List.mem_cons_of_mem _ (List.mem_cons_of_mem _ (List.mem_cons_of_mem _ hx))))).tr (u2.mo (by decide)), (hS9.fr y2 (by decide)).fr u2 (by decide), u3, rfl, y3.fr u2 (by decide), y4.fr u2 (by decide)⟩
end E4S
