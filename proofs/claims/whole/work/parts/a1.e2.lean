/-! ===== the finder's methods on the crawl ===== -/
def wbC (w : Gw) (h : List va_E) (P : List Pg) (Rs Rt : List (List Int32)) : Prop := vO w h P.length Rs.length ∧ pgC w h P ∧ ruC w h Rs Rt
def wfW (P : List Pg) (Rs Rt : List (List Int32)) : Prop := wfP P ∧ rsO Rs ∧ Rs.length ≤ 12 ∧ Rt.length = Rs.length ∧ ∀ j, j < Rs.length → okQ (rlz (gT Rt j))
def lmO (lim : Nat → Nat) : Prop := lim 0 ≤ 20 ∧ lim 1 ≤ 8 ∧ lim 2 ≤ 1000 ∧ lim 3 ≤ 50
def cqI (lim : Nat → Nat) (q : Cr) : Prop := wfK q.1 ∧ wfC q.1 q.2.1 ∧ ldI q.1 ∧ wl lim q.1 ∧ svR q.1 q.2.2 ∧ q.2.1.sn < lim 3 ∧ wfK q.2.2 ∧ ldI q.2.2 ∧ wl lim q.2.2
def cqD (w : Gw) (h : List va_E) (st9 : Bool) (lim : Nat → Nat) (q : Cr) : Prop := cqC w h st9 lim q.1 q.2.1 q.2.2
section E2S
variable {X : am_X} {d i k n : Nat} {D L E : List Int32} {w w0 w1 : Gw} {h h0 h1 : List va_E} {I : List Nat} {T Rs Rt Sd : List (List Int32)} {p : Int32} {lim sett lim0 : Nat → Nat} {q : Cr} {P : List Pg} {st9 : Bool} {K V : Kn} {c : Cw}
theorem wbC.fr (z : wbC w h P Rs Rt) (f : fr w w1 h h1 TS) : wbC w1 h1 P Rs Rt := ⟨z.1.fr f (by decide), z.2.1.fr f (by decide) (by decide), z.2.2.fr f (by decide)⟩
theorem cqC.fr (z : cqC w h st9 lim K c V) (f : fr w w1 h h1 I) (hi : ∀ x, x ∈ [34, 35, 36, 39, 40, 41, 42, 43, 44, 45, 46, 49, 50, 53, 54, 55, 56, 57, 58, 99] → ¬ x ∈ I) : cqC w1 h1 st9 lim K c V := by
  obtain ⟨a1, ⟨a2, a3⟩, a4, a5, a6, a7, a8, a9, a10⟩ := z
  exact ⟨cO.fr a1 f (hi 34 (by decide)), ⟨a2.fr f (hi 39 (by decide)), a3.fr f (hi 54 (by decide))⟩, a4.fr f (hi 35 (by decide)) (hi 36 (by decide)), a5.fr f (hi 40 (by decide)) (hi 41 (by decide)) (hi 42 (by decide)) (hi 43 (by decide)), a6.fr f (hi 55 (by decide)) (hi 56 (by decide)) (hi 57 (by decide)) (hi 58 (by decide)), a7.fr f (hi 53 (by decide)), a8.fr f (hi 50 (by decide)), a9.fr f (hi 45 (by decide)) (hi 46 (by decide)) (hi 49 (by decide)), a10.fr f (hi 44 (by decide)) (hi 99 (by decide))⟩
theorem stp_I {z : Nat × Cr} (e : stp lim P Rs Rt q = some z) (hm : lmO lim) (h3 : 1 ≤ lim 3) (hP : wfP P) (hI : cqI lim q) (han : q.2.1.an < 128000) : cqI lim z.2 ∧ z.2.2.1.an ≤ q.2.1.an + 1 ∧ z.1 ≤ 5 := by
  obtain ⟨i1, i2, i3, i4, i5, i6, i7, i8, i9⟩ := hI
  have hs := stp_wf e hm.1 hm.2.1 hm.2.2.1 hP i1 i2 han
  refine ⟨?_, hs.2.2.1, hs.2.2.2.2⟩
  have hs1 := hs.1
  have hs2 := hs.2.1
  unfold stp at e
  cases en : nxw q.1 with
  | none => rw [en] at e; cases e
  | some k =>
    rw [en] at e
    have hk := nwf_b _ k (show nwf q.1 q.1.ad.length = some k from en)
    have t1 := tak_inv (lim := lim) (P := P) (Rs := Rs) (Rt := Rt) (c := q.2.1) i1.1 hk.1 i3 i4
    have t2 := i5.tak (lim := lim) (P := P) (Rs := Rs) (Rt := Rt) (c := q.2.1) hk.1 hk.2
    have e9 := Option.some.inj e
    by_cases hif : lim 3 ≤ (tak lim P Rs Rt q.1 q.2.1 k).2.2.sn
    · rw [if_pos hif] at e9
      rw [← e9] at hs1 hs2 ⊢
      exact ⟨hs1, hs2, t1.1, t1.2, ⟨List.prefix_refl _, fun _ _ _ => rfl⟩, (by show 0 < lim 3; omega), hs1, t1.1, t1.2⟩
    · rw [if_neg hif] at e9
      rw [← e9] at hs1 hs2 ⊢
      exact ⟨hs1, hs2, t1.1, t1.2, t2, (by show (tak lim P Rs Rt q.1 q.2.1 k).2.2.sn < lim 3; omega), i7, i8, i9⟩
theorem rn_I (hm : lmO lim) (h3 : 1 ≤ lim 3) (hP : wfP P) : ∀ (n : Nat) (q : Cr), cqI lim q → q.2.1.an + n ≤ 128000 → cqI lim (rn lim P Rs Rt n q).2 ∧ (rn lim P Rs Rt n q).2.2.1.an ≤ q.2.1.an + n ∧ (rn lim P Rs Rt n q).1 ≤ n
  | 0, q, h, _ => ⟨h, Nat.le_refl _, Nat.le_refl _⟩
  | n + 1, q, h, ha => by
    cases e : stp lim P Rs Rt q with
    | none =>
      rw [rn_n e]
      exact ⟨h, (by show q.2.1.an ≤ _; omega), Nat.zero_le _⟩
    | some z =>
      rw [rn_s e]
      have hs := stp_I e hm h3 hP h (by omega)
      have hr := rn_I hm h3 hP n z.2 hs.1 (by omega)
      exact ⟨hr.1, (by show (rn lim P Rs Rt n z.2).2.2.1.an ≤ _; omega), (by show (rn lim P Rs Rt n z.2).1 + 1 ≤ n + 1; omega)⟩
theorem crq_I (h3 : 1 ≤ lim 3) (hI : cqI lim q) : cqI lim (crq q) := by
  obtain ⟨i1, i2, i3, i4, i5, i6, i7, i8, i9⟩ := hI
  have hle := i5.1.length_le
  refine ⟨i7, ⟨fun i z hi hz => i2.1 i z (Nat.lt_of_lt_of_le hi hle) hz, fun z hz => ?_, i2.2.2.1, i2.2.2.2.1, i2.2.2.2.2.1, i2.2.2.2.2.2.1, Nat.zero_le _⟩, i8, i9, ⟨List.prefix_refl _, fun _ _ _ => rfl⟩, h3, i7, i8, i9⟩
  have e9 : some q.2.1.ck = some z := hz
  have e8 := Option.some.inj e9
  show z ≤ q.2.1.ck
  omega
theorem wl00 {lim : Nat → Nat} : ldI K00 ∧ wl lim K00 := ⟨fun i E hi => absurd hi (Nat.not_lt_zero i), fun i hi => absurd hi (Nat.not_lt_zero i)⟩
theorem sta_I (hm : lmO sett) (h3 : 1 ≤ sett 3) (hok : ∀ x, x ∈ Sd → okD x) : cqI sett (sta sett Sd) := by
  have h1 := lkf_at (lim := sett) (dp := 0) (c := c00) hm.1 hm.2.1 (by omega) Sd hok
  have h2 := lkf_inv (lim := sett) (dp := 0) Sd K00 (wl00 (lim := sett)).1 (wl00 (lim := sett)).2
  exact ⟨h1.1, h1.2, h2.1, h2.2, ⟨List.prefix_refl _, fun _ _ _ => rfl⟩, h3, h1.1, h2.1, h2.2⟩
theorem c_W_made (hW : wO w h) (hP : bE w h 3 3 D) : am_C X mt_W_made d [.ref 0] h (fun r h1 => r = some (.int (nI D.length)) ∧ h1 = h) := by
  show am_G X mt_W_made d 0 [some (.ref 0)] [] h _
  obtain ⟨bt1, q3⟩ := hP
  refine g_aload_n (pc := 0) dc_W_made_0 rfl ?_
  refine g_getfield (pc := 1) dc_W_made_1 fl_W_18 hW.1 rfl ?_
  refine g_getfield (pc := 4) dc_W_made_4 fl_W_85 q3.1.ha rfl ?_
  exact g_ireturn dc_W_made_7 rfl ⟨rfl, rfl⟩
theorem c_W_out (hW : wO w h) (hP : bE w h 3 3 D) : am_C X mt_W_out d [.ref 0, .int p] h (fun r h1 => r = some (.int (outA D p)) ∧ h1 = h) := by
  show am_G X mt_W_out d 0 [some (.ref 0), some (.int p)] [] h _
  obtain ⟨bt1, q3⟩ := hP
  obtain ⟨cq, gq, hgh, hgt, hgl, hgb⟩ := q3.1.tt
  cases e : ixo p D.length with
  | none =>
    have hout := ixo_n (by omega) e
    have e5 : outA D p = -1 := by unfold outA; rw [e]
    rw [e5]
    refine g_iload_n (pc := 0) dc_W_out_0 rfl ?_
    refine g_if_lt (pc := 1) (tgt := 15) dc_W_out_1 rfl (fun hc1 => ?_) (fun hc1 => ?_)
    · have hi1 : (p).toInt < (0 : Int) := Int32.lt_iff_toInt_lt.mp hc1
      refine g_iconst (pc := 15) (v := (-1)) dc_W_out_15 rfl ?_
      refine g_goto (pc := 16) (tgt := 32) dc_W_out_16 rfl ?_
      exact g_ireturn dc_W_out_32 rfl ⟨rfl, rfl⟩
    · have hi1 : ¬ ((p).toInt < (0 : Int)) := fun h9 => hc1 (Int32.lt_iff_toInt_lt.mpr h9)
      refine g_iload_n (pc := 4) dc_W_out_4 rfl ?_
      refine g_aload_n (pc := 5) dc_W_out_5 rfl ?_
      refine g_getfield (pc := 6) dc_W_out_6 fl_W_18 hW.1 rfl ?_
      refine g_getfield (pc := 9) dc_W_out_9 fl_W_85 q3.1.ha rfl ?_
      refine g_icmp_lt (pc := 12) (tgt := 19) dc_W_out_12 rfl (fun hc => absurd hc (fun h8 => absurd (hout.resolve_left hc1) (Int32.not_le.mpr h8))) (fun hc12 => ?_)
      refine g_iconst (pc := 15) (v := (-1)) dc_W_out_15 rfl ?_
      refine g_goto (pc := 16) (tgt := 32) dc_W_out_16 rfl ?_
      exact g_ireturn dc_W_out_32 rfl ⟨rfl, rfl⟩
  | some k =>
    obtain ⟨hk, rfl⟩ := ixo_s e
    have e5 : outA D (nI k) = gx D k &&& 255 := by unfold outA; rw [e]
    rw [e5]
    refine g_iload_n (pc := 0) dc_W_out_0 rfl ?_
    refine q_if_lt (pc := 1) (tgt := 15) k dc_W_out_1 (by omega) rfl ?_
    refine g_iload_n (pc := 4) dc_W_out_4 rfl ?_
    refine g_aload_n (pc := 5) dc_W_out_5 rfl ?_
    refine g_getfield (pc := 6) dc_W_out_6 fl_W_18 hW.1 rfl ?_
    refine g_getfield (pc := 9) dc_W_out_9 fl_W_85 q3.1.ha rfl ?_
    refine q_icmp_lt (pc := 12) (tgt := 19) k D.length dc_W_out_12 (by omega) (by omega) rfl (fun hc12 => ?_) (fun hc => absurd hc (by omega))
    refine g_aload_n (pc := 19) dc_W_out_19 rfl ?_
    refine g_getfield (pc := 20) dc_W_out_20 fl_W_18 hW.1 rfl ?_
    refine g_getfield (pc := 23) dc_W_out_23 fl_W_109 q3.1.ha rfl ?_
    refine g_iload_n (pc := 26) dc_W_out_26 rfl ?_
    refine q_tx0 (pc := 27) k dc_W_out_27 hgh hgt (by omega) (by omega) (by omega) ?_
    refine g_sipush (pc := 28) (v := 255) dc_W_out_28 rfl ?_
    refine g_iand (pc := 31) dc_W_out_31 rfl ?_
    exact g_ireturn dc_W_out_32 rfl ⟨rfl, rfl⟩
theorem c_W_clock (hW : wO w h) (hC : cqC w h st9 lim K c V) : am_C X mt_W_clock d [.ref 0] h (fun r h1 => r = some (.int (if st9 = true then nI c.ck else -1)) ∧ h1 = h) := by
  show am_G X mt_W_clock d 0 [some (.ref 0)] [] h _
  cases st9 with
  | false =>
    refine g_aload_n (pc := 0) dc_W_clock_0 rfl ?_
    refine g_getfield (pc := 1) dc_W_clock_1 fl_W_65 hW.1 rfl ?_
    refine g_getfield (pc := 4) dc_W_clock_4 fl_W_183 hC.1.1 rfl ?_
    refine g_if_eq (pc := 7) (tgt := 20) dc_W_clock_7 rfl (fun _ => ?_) (fun hc => absurd hc (by decide))
    refine g_iconst (pc := 20) (v := (-1)) dc_W_clock_20 rfl ?_
    exact g_ireturn dc_W_clock_21 rfl ⟨rfl, rfl⟩
  | true =>
    refine g_aload_n (pc := 0) dc_W_clock_0 rfl ?_
    refine g_getfield (pc := 1) dc_W_clock_1 fl_W_65 hW.1 rfl ?_
    refine g_getfield (pc := 4) dc_W_clock_4 fl_W_183 hC.1.1 rfl ?_
    refine g_if_eq (pc := 7) (tgt := 20) dc_W_clock_7 rfl (fun hc => absurd hc (by decide)) (fun _ => ?_)
    refine g_aload_n (pc := 10) dc_W_clock_10 rfl ?_
    refine g_getfield (pc := 11) dc_W_clock_11 fl_W_65 hW.1 rfl ?_
    refine g_getfield (pc := 14) dc_W_clock_14 fl_W_196 hC.1.1 rfl ?_
    refine g_goto (pc := 17) (tgt := 21) dc_W_clock_17 rfl ?_
    exact g_ireturn dc_W_clock_21 rfl ⟨rfl, rfl⟩
theorem w_W_noSeeds (hW : wO w h) (hS : rE w h 30 31 30 31 Sd []) : am_C X mt_W_noSeeds (d + 3) [.ref 0] h (fun r h1 => r = none ∧ ∃ w1, fr w w1 h h1 [30, 31] ∧ rE w1 h1 30 31 30 31 [] []) := by
  show am_G X mt_W_noSeeds (d + 3) 0 [some (.ref 0)] [] h _
  have hS0 := hS
  obtain ⟨bS, eS, hSr⟩ := hS
  refine g_aload_n (pc := 0) dc_W_noSeeds_0 rfl ?_
  refine g_getfield (pc := 1) dc_W_noSeeds_1 fl_W_56 hW.1 rfl ?_
  refine g_v0 (pc := 4) (M' := mt_R_clear) dc_W_noSeeds_4 mo_R_clear im_R_clear se_R_clear ln_W_156 hSr.1.1 rfl rfl (Nat.le_of_ble_eq_true rfl) (Nat.le_of_ble_eq_true rfl) (am_G.mono (w_R_clear (d := d) (i := 30) (j := 31) (by decide) (by decide) (by decide) hS0) ?_)
  intro r h2 hz
  obtain ⟨y1, w2, y2, y3⟩ := hz
  rw [y1]
  clear y1 r
  refine ⟨am_nt0, ?_⟩
  exact g_return dc_W_noSeeds_7 rfl ⟨rfl, w2, y2, y3⟩
theorem w_W_start (hok : ∀ x, x ∈ Sd → okD x) (hS20 : Sd.length ≤ 20) (hl0 : sett 0 ≤ 20) (hl1 : sett 1 ≤ 8) (hW : wO w h) (hC : cqC w h st9 lim0 K c V) (hse : seC w h sett) (hS : rE w h 30 31 30 31 Sd []) : am_C X mt_W_start (d + 6) [.ref 0] h (fun r h1 => r = some (.int (nI (sta sett Sd).1.ad.length)) ∧ ∃ w1, fr w w1 h h1 [34, 35, 36, 40, 41, 42, 43, 45, 46, 50, 53, 55, 56, 57, 58] ∧ cqD w1 h1 true sett (sta sett Sd)) := by
  show am_G X mt_W_start (d + 6) 0 [some (.ref 0)] [] h _
  refine g_aload_n (pc := 0) dc_W_start_0 rfl ?_
  refine g_getfield (pc := 1) dc_W_start_1 fl_W_65 hW.1 rfl ?_
  refine g_aload_n (pc := 4) dc_W_start_4 rfl ?_
  refine g_getfield (pc := 5) dc_W_start_5 fl_W_56 hW.1 rfl ?_
  refine g_aload_n (pc := 8) dc_W_start_8 rfl ?_
  refine g_getfield (pc := 9) dc_W_start_9 fl_W_47 hW.1 rfl ?_
  refine g_v2 (pc := 12) (M' := mt_C_begin) dc_W_start_12 mo_C_begin im_C_begin se_C_begin ln_W_174 hC.1.1 rfl rfl (Nat.le_of_ble_eq_true rfl) (Nat.le_of_ble_eq_true rfl) (am_G.mono (w_C_begin (d := d) hok hS20 hl0 hl1 hC hse hS) ?_)
  intro r h2 hz
  obtain ⟨y1, w2, y2, y3⟩ := hz
  rw [y1]
  clear y1 r
  have hW2 := hW.fr y2 (by decide)
  have hK2 := y3.2.2.1
  obtain ⟨bK, eK, hKr⟩ := hK2
  refine ⟨am_nt0, ?_⟩
  refine g_aload_n (pc := 15) dc_W_start_15 rfl ?_
  refine g_getfield (pc := 16) dc_W_start_16 fl_W_65 hW2.1 rfl ?_
  refine g_getfield (pc := 19) dc_W_start_19 fl_W_178 y3.1.1 rfl ?_
  refine g_getfield (pc := 22) dc_W_start_22 fl_W_167 hKr.1.1 rfl ?_
  exact g_ireturn dc_W_start_25 rfl ⟨rfl, w2, y2, y3⟩
theorem w_W_step (hW : wO w h) (hC : cqD w h st9 lim q) (hB : eB w h 51 51) (hS : rdC w h) (hv : wbC w h P Rs Rt) (hfw : wfW P Rs Rt) (hm : lmO lim) (hI : cqI lim q) (han : q.2.1.an < 128000) : am_C X mt_W_step (d + 11) [.ref 0] h (fun r h1 => match stp lim P Rs Rt q with | none => r = some (.int (-1)) ∧ h1 = h | some z => r = some (.int (nI z.1)) ∧ ∃ w1, fr w w1 h h1 TS ∧ cqD w1 h1 st9 lim z.2 ∧ eB w1 h1 51 51 ∧ rdC w1 h1) := by
  show am_G X mt_W_step (d + 11) 0 [some (.ref 0)] [] h _
  refine g_aload_n (pc := 0) dc_W_step_0 rfl ?_
  refine g_getfield (pc := 1) dc_W_step_1 fl_W_65 hW.1 rfl ?_
  refine g_v0 (pc := 4) (M' := mt_C_takeStep) dc_W_step_4 mo_C_takeStep im_C_takeStep se_C_takeStep ln_W_180 hC.1.1 rfl rfl (Nat.le_of_ble_eq_true rfl) (Nat.le_of_ble_eq_true rfl) (am_G.mono (w_C_takeStep (d := d) (lim := lim) (P := P) (Rs := Rs) (Rt := Rt) (K := q.1) (c := q.2.1) (V := q.2.2) hC hB hv.1 hv.2.1 hv.2.2 hS hfw.1 hfw.2.1 hfw.2.2.1 hfw.2.2.2.2 hI.1 hI.2.1 han hI.2.2.1 hI.2.2.2.1 hI.2.2.2.2.1 hm.1 hm.2.1 hm.2.2.1 hm.2.2.2 hI.2.2.2.2.2.1) ?_)
  intro r h2 hz
  rw [show (q.1, q.2.1, q.2.2) = q from rfl] at hz
  cases es : stp lim P Rs Rt q with
  | none =>
    rw [es] at hz
    rw [hz.1, hz.2]
    refine ⟨am_nti _, ?_⟩
    exact g_ireturn dc_W_step_7 rfl ⟨rfl, rfl⟩
  | some z =>
    rw [es] at hz
    rw [hz.1]
    refine ⟨am_nti _, ?_⟩
    exact g_ireturn dc_W_step_7 rfl ⟨rfl, hz.2⟩
theorem l_W_run {M : Nat} (hfw : wfW P Rs Rt) (hm : lmO lim) (h3 : 1 ≤ lim 3) (hM : M ≤ 250) : ∀ (n i : Nat) (w : Gw) (h : List va_E) (q : Cr), i + n = M → wO w h → cqD w h st9 lim q → eB w h 51 51 → rdC w h → wbC w h P Rs Rt → cqI lim q → q.2.1.an + n ≤ 127999 → am_G X mt_W_run (d + 11) 26 [some (.ref 0), some (.int p), some (.int (nI M)), some (.int (nI i))] [] h (fun r h1 => r = some (.int (nI (i + (rn lim P Rs Rt n q).1))) ∧ ∃ w1, fr w w1 h h1 TS ∧ cqD w1 h1 st9 lim (rn lim P Rs Rt n q).2 ∧ eB w1 h1 51 51 ∧ rdC w1 h1)
  | 0, i, w, h, q, e, hW, hC, hB, hS, hv, hI, han => by
    refine g_iload_n (pc := 26) dc_W_run_26 rfl ?_
    refine g_iload_n (pc := 27) dc_W_run_27 rfl ?_
    refine q_icmp_ge (pc := 28) (tgt := 48) i M dc_W_run_28 (by omega) (by omega) rfl (fun hc28 => ?_) (fun hc => absurd hc (by omega))
    refine g_iload_n (pc := 48) dc_W_run_48 rfl ?_
    exact g_ireturn dc_W_run_49 rfl ⟨rfl, w, fr.rf, hC, hB, hS⟩
  | n + 1, i, w, h, q, e, hW, hC, hB, hS, hv, hI, han => by
    refine g_iload_n (pc := 26) dc_W_run_26 rfl ?_
    refine g_iload_n (pc := 27) dc_W_run_27 rfl ?_
    refine q_icmp_ge (pc := 28) (tgt := 48) i M dc_W_run_28 (by omega) (by omega) rfl (fun hc => absurd hc (by omega)) (fun hc28 => ?_)
    refine g_aload_n (pc := 31) dc_W_run_31 rfl ?_
    refine g_getfield (pc := 32) dc_W_run_32 fl_W_65 hW.1 rfl ?_
    refine g_v0 (pc := 35) (M' := mt_C_takeStep) dc_W_run_35 mo_C_takeStep im_C_takeStep se_C_takeStep ln_W_180 hC.1.1 rfl rfl (Nat.le_of_ble_eq_true rfl) (Nat.le_of_ble_eq_true rfl) (am_G.mono (w_C_takeStep (d := d) (lim := lim) (P := P) (Rs := Rs) (Rt := Rt) (K := q.1) (c := q.2.1) (V := q.2.2) hC hB hv.1 hv.2.1 hv.2.2 hS hfw.1 hfw.2.1 hfw.2.2.1 hfw.2.2.2.2 hI.1 hI.2.1 (by omega) hI.2.2.1 hI.2.2.2.1 hI.2.2.2.2.1 hm.1 hm.2.1 hm.2.2.1 hm.2.2.2 hI.2.2.2.2.2.1) ?_)
    intro r h2 hz
    rw [show (q.1, q.2.1, q.2.2) = q from rfl] at hz
    cases es : stp lim P Rs Rt q with
    | none =>
      rw [es] at hz
      rw [hz.1, hz.2, rn_n es]
      refine ⟨am_nti _, ?_⟩
      refine g_iconst (pc := 38) (v := (-1)) dc_W_run_38 rfl ?_
      refine g_icmp_eq (pc := 39) (tgt := 48) dc_W_run_39 rfl (fun _ => ?_) (fun hc => absurd hc (by decide))
      refine g_iload_n (pc := 48) dc_W_run_48 rfl ?_
      exact g_ireturn dc_W_run_49 rfl ⟨rfl, w, fr.rf, hC, hB, hS⟩
    | some z =>
      have hs := stp_I es hm h3 hfw.1 hI (by omega)
      have hz5 := hs.2.2
      rw [es] at hz
      obtain ⟨y1, w2, y2, y3, y4, y5⟩ := hz
      rw [y1, rn_s es]
      refine ⟨am_nti _, ?_⟩
      refine g_iconst (pc := 38) (v := (-1)) dc_W_run_38 rfl ?_
      refine g_icmp_eq (pc := 39) (tgt := 48) dc_W_run_39 rfl (fun hc => absurd hc (q_nem1 (by omega))) (fun _ => ?_)
      refine g_iinc (pc := 42) (v := (nI (i + 1))) dc_W_run_42 rfl (nI_add i 1) (by decide) ?_
      show am_G X mt_W_run _ 45 [some (.ref 0), some (.int p), some (.int (nI M)), some (.int (nI (i + 1)))] [] _ _
      refine g_goto (pc := 45) (tgt := 26) dc_W_run_45 rfl ?_
      refine am_G.mono (l_W_run hfw hm h3 hM n (i + 1) w2 h2 z.2 (by omega) (hW.fr y2 (by decide)) y3 y4 y5 (hv.fr y2) hs.1 (by omega)) (fun r h4 hz => ?_)
      obtain ⟨x1, w4, x2, x3⟩ := hz
      exact ⟨by rw [x1, show i + 1 + (rn lim P Rs Rt n z.2).1 = i + ((rn lim P Rs Rt n z.2).1 + 1) by omega], w4, y2.tr x2, x3⟩
theorem w_W_run {M : Nat} (hM : M < 2 ^ 31) (hW : wO w h) (hC : cqD w h true lim q) (hB : eB w h 51 51) (hS : rdC w h) (hv : wbC w h P Rs Rt) (hfw : wfW P Rs Rt) (hm : lmO lim) (h3 : 1 ≤ lim 3) (hI : cqI lim q) (han : q.2.1.an + 250 ≤ 127900) : am_C X mt_W_run (d + 11) [.ref 0, .int (nI M)] h (fun r h1 => r = some (.int (nI (rn lim P Rs Rt M q).1)) ∧ ∃ w1, fr w w1 h h1 TS ∧ cqD w1 h1 true lim (rn lim P Rs Rt M q).2 ∧ eB w1 h1 51 51 ∧ rdC w1 h1) := by
  show am_G X mt_W_run (d + 11) 0 [some (.ref 0), some (.int (nI M)), none, none] [] h _
  have hmm : Nat.min M 250 ≤ 250 := Nat.min_le_right _ _
  have hnw := nw_le hI.1
  have er : rn lim P Rs Rt (Nat.min M 250) q = rn lim P Rs Rt M q := by
    by_cases h9 : M ≤ 250
    · rw [show Nat.min M 250 = M from Nat.min_eq_left h9]
    · rw [show Nat.min M 250 = 250 from Nat.min_eq_right (by omega)]
      exact rn_250 hm.1 hm.2.1 hm.2.2.1 hfw.1 250 250 M q hI.1 hI.2.1 (by omega) (by omega) (Nat.le_refl _) (by omega)
  refine g_aload_n (pc := 0) dc_W_run_0 rfl ?_
  refine g_getfield (pc := 1) dc_W_run_1 fl_W_65 hW.1 rfl ?_
  refine g_getfield (pc := 4) dc_W_run_4 fl_W_183 hC.1.1 rfl ?_
  refine g_if_eq (pc := 7) (tgt := 14) dc_W_run_7 rfl (fun hc => absurd hc (by decide)) (fun _ => ?_)
  refine g_iload_n (pc := 10) dc_W_run_10 rfl ?_
  refine q_if_ge (pc := 11) (tgt := 16) M dc_W_run_11 (by omega) rfl ?_
  refine g_iload_n (pc := 16) dc_W_run_16 rfl ?_
  refine g_sipush (pc := 17) (v := 250) dc_W_run_17 rfl ?_
  refine g_s2 (pc := 20) (M' := mt_JMath_min) dc_W_run_20 mo_JMath_min st_JMath_min ln_W_187 (Nat.le_of_ble_eq_true rfl) (Nat.le_of_ble_eq_true rfl) (am_G.mono (c_JMath_min (x := M) (y := 250) hM (by decide)) ?_)
  intro r h1 hq
  rw [hq.1, hq.2]
  clear hq h1 r
  refine ⟨am_nti _, ?_⟩
  refine g_istore_n (pc := 23) dc_W_run_23 (by decide) ?_
  show am_G X mt_W_run _ 24 [some (.ref 0), some (.int (nI M)), some (.int (nI (Nat.min M 250))), none] [] _ _
  refine g_iconst (pc := 24) (v := 0) dc_W_run_24 rfl ?_
  refine g_istore_n (pc := 25) dc_W_run_25 (by decide) ?_
  show am_G X mt_W_run _ 26 [some (.ref 0), some (.int (nI M)), some (.int (nI (Nat.min M 250))), some (.int 0)] [] _ _
  refine am_G.mono (l_W_run (M := Nat.min M 250) (d := d) (p := nI M) hfw hm h3 hmm (Nat.min M 250) 0 w h q (Nat.zero_add _) hW hC hB hS hv hI (by omega)) (fun r h4 hz => ?_)
  rw [er, Nat.zero_add] at hz
  exact hz
theorem n_W_run (hW : wO w h) (hC : cqC w h st9 lim K c V) (hn : st9 = false ∨ p < 0) : am_C X mt_W_run (d + 11) [.ref 0, .int p] h (fun r h1 => r = some (.int (-1)) ∧ h1 = h) := by
  show am_G X mt_W_run (d + 11) 0 [some (.ref 0), some (.int p), none, none] [] h _
  cases st9 with
  | false =>
    refine g_aload_n (pc := 0) dc_W_run_0 rfl ?_
    refine g_getfield (pc := 1) dc_W_run_1 fl_W_65 hW.1 rfl ?_
    refine g_getfield (pc := 4) dc_W_run_4 fl_W_183 hC.1.1 rfl ?_
    refine g_if_eq (pc := 7) (tgt := 14) dc_W_run_7 rfl (fun _ => ?_) (fun hc => absurd hc (by decide))
    refine g_iconst (pc := 14) (v := (-1)) dc_W_run_14 rfl ?_
    exact g_ireturn dc_W_run_15 rfl ⟨rfl, rfl⟩
  | true =>
    have hp := hn.resolve_left (by decide)
    refine g_aload_n (pc := 0) dc_W_run_0 rfl ?_
    refine g_getfield (pc := 1) dc_W_run_1 fl_W_65 hW.1 rfl ?_
    refine g_getfield (pc := 4) dc_W_run_4 fl_W_183 hC.1.1 rfl ?_
    refine g_if_eq (pc := 7) (tgt := 14) dc_W_run_7 rfl (fun hc => absurd hc (by decide)) (fun _ => ?_)
    refine g_iload_n (pc := 10) dc_W_run_10 rfl ?_
    refine g_if_ge (pc := 11) (tgt := 16) dc_W_run_11 rfl (fun hc => absurd hc (Int32.not_le.mpr hp)) (fun hc11 => ?_)
    refine g_iconst (pc := 14) (v := (-1)) dc_W_run_14 rfl ?_
    exact g_ireturn dc_W_run_15 rfl ⟨rfl, rfl⟩
theorem crq_mk (z : mk4 w h 39 q.2.2) : mk4 w h 39 (crq q).1 := by
  obtain ⟨g0, g1, g2, g3, a1, a2, a3, a4, a5⟩ := z
  exact ⟨g0, g1, g2, g3, a1, a2, a3, a4, a5⟩
theorem crq_at (z : aTC w h q.1) (hle : q.2.2.ad.length ≤ q.1.ad.length) : aTC w h (crq q).1 := by
  obtain ⟨ga, a1, a2⟩ := z
  exact ⟨ga, a1, fun i hi => a2 i (Nat.lt_of_lt_of_le hi hle)⟩
theorem crq_pg (z : pgK w h q.1 q.2.2) : pgK w h (crq q).1 (crq q).2.2 := by
  obtain ⟨gp, a1, a2, a3⟩ := z
  exact ⟨gp, a1, a3, a3⟩
theorem w_W_crash (hW : wO w h) (hC : cqD w h true lim q) (hI : cqI lim q) : am_C X mt_W_crash (d + 3) [.ref 0] h (fun r h1 => r = some (.int 1) ∧ ∃ w1, fr w w1 h h1 [34, 35, 36, 40, 41, 42, 43] ∧ cqD w1 h1 true lim (crq q)) := by
  show am_G X mt_W_crash (d + 3) 0 [some (.ref 0)] [] h _
  have hC0 := hC
  obtain ⟨a1, ⟨a2, a3⟩, a4, a5, a6, a7, a8, a9, a10⟩ := hC0
  have hle := hI.2.2.2.2.1.1.length_le
  refine g_aload_n (pc := 0) dc_W_crash_0 rfl ?_
  refine g_getfield (pc := 1) dc_W_crash_1 fl_W_65 hW.1 rfl ?_
  refine g_getfield (pc := 4) dc_W_crash_4 fl_W_183 a1.1 rfl ?_
  refine g_if_eq (pc := 7) (tgt := 17) dc_W_crash_7 rfl (fun hc => absurd hc (by decide)) (fun _ => ?_)
  refine g_aload_n (pc := 10) dc_W_crash_10 rfl ?_
  refine g_getfield (pc := 11) dc_W_crash_11 fl_W_65 hW.1 rfl ?_
  refine g_v0 (pc := 14) (M' := mt_C_loseMemory) dc_W_crash_14 mo_C_loseMemory im_C_loseMemory se_C_loseMemory ln_W_193 a1.1 rfl rfl (Nat.le_of_ble_eq_true rfl) (Nat.le_of_ble_eq_true rfl) (am_G.mono (w_C_loseMemory (d := d) a1 a2 a3 a4 a5 a6 hI.1.1 (List.prefix_iff_eq_take.mp hI.2.2.2.2.1.1) hI.1.2.2.1 hle) ?_)
  intro r h2 hz
  obtain ⟨y1, w2, y2, y3, y4, y5⟩ := hz
  rw [y1]
  clear y1 r
  have hW2 := hW.fr y2 (by decide)
  refine ⟨am_nt0, ?_⟩
  refine g_aload_n (pc := 17) dc_W_crash_17 rfl ?_
  refine g_getfield (pc := 18) dc_W_crash_18 fl_W_65 hW2.1 rfl ?_
  refine g_getfield (pc := 21) dc_W_crash_21 fl_W_183 y3.1 rfl ?_
  exact g_zreturn dc_W_crash_24 rfl rfl ⟨rfl, w2, y2, y3, ⟨a2.fr y2 (by decide), a3.fr y2 (by decide)⟩, y4, crq_mk y5, a6.fr y2 (by decide) (by decide) (by decide) (by decide), crq_at (a7.fr y2 (by decide)) hle, a8.fr y2 (by decide), a9.fr y2 (by decide) (by decide) (by decide), crq_pg (a10.fr y2 (by decide) (by decide))⟩
theorem n_W_crash (hW : wO w h) (hC : cqC w h false lim K c V) : am_C X mt_W_crash (d + 3) [.ref 0] h (fun r h1 => r = some (.int 0) ∧ h1 = h) := by
  show am_G X mt_W_crash (d + 3) 0 [some (.ref 0)] [] h _
  refine g_aload_n (pc := 0) dc_W_crash_0 rfl ?_
  refine g_getfield (pc := 1) dc_W_crash_1 fl_W_65 hW.1 rfl ?_
  refine g_getfield (pc := 4) dc_W_crash_4 fl_W_183 hC.1.1 rfl ?_
  refine g_if_eq (pc := 7) (tgt := 17) dc_W_crash_7 rfl (fun _ => ?_) (fun hc => absurd hc (by decide))
  refine g_aload_n (pc := 17) dc_W_crash_17 rfl ?_
  refine g_getfield (pc := 18) dc_W_crash_18 fl_W_65 hW.1 rfl ?_
  refine g_getfield (pc := 21) dc_W_crash_21 fl_W_183 hC.1.1 rfl ?_
  exact g_zreturn dc_W_crash_24 rfl rfl ⟨rfl, rfl⟩
end E2S
