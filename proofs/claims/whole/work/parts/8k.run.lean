/-! ===== run, crash, start, and what is asked of the crawl: the model ===== -/
/-- how many of the first n don't wait -/
def nwc (st : Nat → Nat) : Nat → Nat
  | 0 => 0
  | i + 1 => nwc st i + (if st i = 1 then 0 else 1)
/-- how many wait -/
def wtc (st : Nat → Nat) : Nat → Nat
  | 0 => 0
  | i + 1 => if st i = 1 then wtc st i + 1 else wtc st i
def nw (K : Kn) : Nat := nwc K.st K.ad.length
theorem nwc_le {st : Nat → Nat} : ∀ n, nwc st n ≤ n
  | 0 => Nat.le_refl _
  | n + 1 => by
    have := nwc_le (st := st) n
    show nwc st n + (if st n = 1 then 0 else 1) ≤ n + 1
    split <;> omega
theorem nwc_cg {st st2 : Nat → Nat} : ∀ n, (∀ i, i < n → st2 i = st i) → nwc st2 n = nwc st n
  | 0, _ => rfl
  | n + 1, h => by
    show nwc st2 n + (if st2 n = 1 then 0 else 1) = nwc st n + (if st n = 1 then 0 else 1)
    rw [nwc_cg n (fun i hi => h i (by omega)), h n (by omega)]
theorem nwc_up {st : Nat → Nat} {k v : Nat} (h1 : st k = 1) (hv : ¬ v = 1) : ∀ n, k < n → nwc (upf st k v) n = nwc st n + 1
  | 0, h => absurd h (Nat.not_lt_zero k)
  | n + 1, h => by
    show nwc (upf st k v) n + (if upf st k v n = 1 then 0 else 1) = nwc st n + (if st n = 1 then 0 else 1) + 1
    by_cases e : n = k
    · rw [e, upf_s, if_neg hv, h1, if_pos rfl, nwc_cg k (fun i hi => upf_n (by omega))]
    · rw [nwc_up h1 hv n (by omega), upf_n e]; omega
section RUN0
variable {k j i : Nat} {Rs Rt : List (List Int32)} {K V : Kn} {lim : Nat → Nat} {c : Cw} {P : List Pg} {D : List Int32}
theorem nw_mee {dp ch : Nat} : nw (mee lim D dp ch K) = nw K := by
  unfold mee
  cases e : nbr K.ad D with
  | none =>
    dsimp only
    split
    · show nwc (upf K.st K.ad.length 1) (K.ad ++ [D]).length = nwc K.st K.ad.length
      rw [List.length_append]
      show nwc (upf K.st K.ad.length 1) K.ad.length + (if upf K.st K.ad.length 1 K.ad.length = 1 then 0 else 1) = _
      rw [upf_s, if_pos rfl]
      exact nwc_cg _ (fun i hi => upf_n (by omega))
    · rfl
  | some k =>
    dsimp only
    split <;> rfl
theorem nw_lkf {dp : Nat} : ∀ (Ls : List (List Int32)) (K : Kn), nw (lkf lim dp Ls K) = nw K
  | [], K => rfl
  | E :: Ls, K => (nw_lkf Ls (mee lim E dp 0 K)).trans nw_mee
theorem tak_nw (hk : k < K.ad.length) (hs : K.st k = 1) : nw (tak lim P Rs Rt K c k).2.1 = nw K + 1 := by
  have f : ∀ v, ¬ v = 1 → nwc (upf K.st k v) K.ad.length = nw K + 1 := fun v hv => nwc_up hs hv _ hk
  unfold tak
  split
  · cases e : nbr (pad P) (gT K.ad k) with
    | none => exact f 5 (by decide)
    | some j =>
      dsimp only
      split
      · exact (nw_lkf _ _).trans (f 2 (by decide))
      · split
        · cases e2 : ldl (gP P j).2.2 (gT K.ad k) with
          | none => exact f 5 (by decide)
          | some E => exact nw_mee.trans (f 3 (by decide))
        · exact f 5 (by decide)
  · exact f 4 (by decide)
theorem tak_an : (tak lim P Rs Rt K c k).2.2.an ≤ c.an + 1 := by
  unfold tak
  repeat' split
  all_goals first | exact Nat.le_refl _ | exact Nat.le_succ _
theorem stp_wf {q : Cr} {z : Nat × Cr} (h : stp lim P Rs Rt q = some z) (h0 : lim 0 ≤ 20) (h1 : lim 1 ≤ 8) (h2 : lim 2 ≤ 1000) (hP : wfP P) (hw : wfK q.1) (hwc : wfC q.1 q.2.1) (han : q.2.1.an < 128000) : wfK z.2.1 ∧ wfC z.2.1 z.2.2.1 ∧ z.2.2.1.an ≤ q.2.1.an + 1 ∧ nw z.2.1 = nw q.1 + 1 ∧ z.1 ≤ 5 := by
  unfold stp at h
  cases e : nxw q.1 with
  | none => rw [e] at h; cases h
  | some k =>
    rw [e] at h
    injection h with h
    have hk := nwf_b _ k e
    have t1 := tak_wf (Rs := Rs) (Rt := Rt) h0 h1 h2 hP hw hwc hk.1 han
    have t2 := tak_nw (lim := lim) (P := P) (Rs := Rs) (Rt := Rt) (c := q.2.1) hk.1 hk.2
    have t3 := tak_an (lim := lim) (P := P) (Rs := Rs) (Rt := Rt) (K := q.1) (c := q.2.1) (k := k)
    have t4 := tak_st (lim := lim) (P := P) (Rs := Rs) (Rt := Rt) (K := q.1) (c := q.2.1) (k := k) rfl
    rw [← h]
    split
    · exact ⟨t1.1, ⟨t1.2.1, t1.2.2.1, t1.2.2.2.1, t1.2.2.2.2.1, t1.2.2.2.2.2.1, t1.2.2.2.2.2.2.1, Nat.zero_le _⟩, t3, t2, by omega⟩
    · exact ⟨t1.1, t1.2, t3, t2, by omega⟩
/-- at most n steps: how many were made, and the crawl behind them -/
def rn (lim : Nat → Nat) (P : List Pg) (Rs Rt : List (List Int32)) : Nat → Cr → Nat × Cr
  | 0, q => (0, q)
  | n + 1, q => match stp lim P Rs Rt q with
    | none => (0, q)
    | some z => ((rn lim P Rs Rt n z.2).1 + 1, (rn lim P Rs Rt n z.2).2)
theorem rn_s {n : Nat} {q : Cr} {z : Nat × Cr} (h : stp lim P Rs Rt q = some z) : rn lim P Rs Rt (n + 1) q = ((rn lim P Rs Rt n z.2).1 + 1, (rn lim P Rs Rt n z.2).2) := by
  show (match stp lim P Rs Rt q with | none => (0, q) | some z => ((rn lim P Rs Rt n z.2).1 + 1, (rn lim P Rs Rt n z.2).2)) = _
  rw [h]
theorem rn_n {n : Nat} {q : Cr} (h : stp lim P Rs Rt q = none) : rn lim P Rs Rt n q = (0, q) := by
  cases n with
  | zero => rfl
  | succ n =>
    show (match stp lim P Rs Rt q with | none => (0, q) | some z => ((rn lim P Rs Rt n z.2).1 + 1, (rn lim P Rs Rt n z.2).2)) = _
    rw [h]
theorem nw_le {K : Kn} (h : wfK K) : nw K ≤ 250 := Nat.le_trans (nwc_le _) h.1
/-- more than 250 steps are never made -/
theorem rn_250 (h0 : lim 0 ≤ 20) (h1 : lim 1 ≤ 8) (h2 : lim 2 ≤ 1000) (hP : wfP P) : ∀ (n m1 m2 : Nat) (q : Cr), wfK q.1 → wfC q.1 q.2.1 → q.2.1.an + n ≤ 128000 → 250 - nw q.1 ≤ n → n ≤ m1 → n ≤ m2 → rn lim P Rs Rt m1 q = rn lim P Rs Rt m2 q
  | 0, m1, m2, q, hw, hwc, han, hn, _, _ => by
    have hno : stp lim P Rs Rt q = none := by
      cases e : stp lim P Rs Rt q with
      | none => rfl
      | some z =>
        exfalso
        unfold stp at e
        cases e2 : nxw q.1 with
        | none => rw [e2] at e; cases e
        | some k =>
          have hk := nwf_b _ k e2
          have t2 := nwc_up (v := 5) hk.2 (by decide) q.1.ad.length hk.1
          have t3 := nwc_le (st := upf q.1.st k 5) q.1.ad.length
          have := hw.1
          have t4 : nw q.1 = nwc q.1.st q.1.ad.length := rfl
          omega
    rw [rn_n hno, rn_n hno]
  | n + 1, m1, m2, q, hw, hwc, han, hn, a, b => by
    obtain ⟨k1, rfl⟩ : ∃ k1, m1 = k1 + 1 := ⟨m1 - 1, by omega⟩
    obtain ⟨k2, rfl⟩ : ∃ k2, m2 = k2 + 1 := ⟨m2 - 1, by omega⟩
    cases e : stp lim P Rs Rt q with
    | none => rw [rn_n e, rn_n e]
    | some z =>
      have hz := stp_wf e h0 h1 h2 hP hw hwc (by omega)
      rw [rn_s e, rn_s e, rn_250 h0 h1 h2 hP n k1 k2 z.2 hz.1 hz.2.1 (by omega) (by omega) (by omega) (by omega)]
end RUN0
section RUN
variable {X : am_X} {d k ka j i M : Nat} {A B h : List va_E} {S : MS} {T Y U Ls Rs Rt Sd : List (List Int32)} {K V : Kn} {lim sett : Nat → Nat} {c : Cw} {P : List Pg} {D L : List Int32} {q : Cr}
theorem crM.m {S1 : MS} {Z : List Nat} (h : crM S T Y U P Rs Rt lim K c) (e : mA Z S S1) (hz : ∀ x, x ∈ [5, 6, 7, 8, 19, 20, 21, 22, 23, 24, 25, 26, 51, 52, 53, 54, 58, 62, 63, 64, 67, 68, 69, 70, 71, 72, 73, 74] → ¬ x ∈ Z) : crM S1 T Y U P Rs Rt lim K c := by
  obtain ⟨⟨t1, t2, t3, t4⟩, cp, cr, cl, ck, cc, cs⟩ := h
  have n : ∀ x, x ∈ [5, 6, 7, 8, 19, 20, 21, 22, 23, 24, 25, 26, 51, 52, 53, 54, 58, 62, 63, 64, 67, 68, 69, 70, 71, 72, 73, 74] → ¬ x ∈ Z := hz
  exact ⟨⟨t1.m e (n _ (by decide)) (n _ (by decide)) (n _ (by decide)) (n _ (by decide)), t2, t3, t4.m e (n _ (by decide)) (n _ (by decide)) (n _ (by decide)) (n _ (by decide)) (n _ (by decide))⟩, cp.m e (n _ (by decide)) (n _ (by decide)) (n _ (by decide)) (n _ (by decide)), cr.m e (n _ (by decide)) (n _ (by decide)) (n _ (by decide)), cl.m e (n _ (by decide)), ck.m e (n _ (by decide)) (n _ (by decide)), cc.m e (n _ (by decide)) (n _ (by decide)) (n _ (by decide)) (n _ (by decide)) (n _ (by decide)) (n _ (by decide)), cs.m e (n _ (by decide)) (n _ (by decide)) (n _ (by decide))⟩
theorem cqM.m {S1 : MS} {Z : List Nat} (h : cqM S T Y U P Rs Rt lim q) (e : mA Z S S1) (hz : ∀ x, x ∈ [5, 6, 7, 8, 19, 20, 21, 22, 23, 24, 25, 26, 51, 52, 53, 54, 58, 62, 63, 64, 65, 66, 67, 68, 69, 70, 71, 72, 73, 74] → ¬ x ∈ Z) : cqM S1 T Y U P Rs Rt lim q := ⟨h.1.m e (fun x hx => hz x ((by decide : ∀ x, x ∈ [5, 6, 7, 8, 19, 20, 21, 22, 23, 24, 25, 26, 51, 52, 53, 54, 58, 62, 63, 64, 67, 68, 69, 70, 71, 72, 73, 74] → x ∈ [5, 6, 7, 8, 19, 20, 21, 22, 23, 24, 25, 26, 51, 52, 53, 54, 58, 62, 63, 64, 65, 66, 67, 68, 69, 70, 71, 72, 73, 74]) x hx)), h.2.m e (hz 65 (by decide)) (hz 66 (by decide))⟩
theorem l_M_run (hA : A.length = 84) (hUl : U.length < 3500) (hY : yOK Y) (hpU : pgP U P) (hP : wfP P) (hM : M < 2 ^ 31) : ∀ (n : Nat) (q : Cr) (S : MS) (T : List (List Int32)) (u : Nat), 250 - nw q.1 ≤ n → q.2.1.an + n ≤ 127900 → u ≤ 2 ^ 20 - n → n ≤ 250 → u ≤ M → cqM S T Y U P Rs Rt lim q → wfK q.1 → wfC q.1 q.2.1 → S.isStarted = true → am_G X mt_M_run (d + 12) 20 [some (.ref 84), some (.int (nI M)), some (.int (nI u))] [] (mput A S B) (fun r h1 => r = some (.int (nI (u + (rn lim P Rs Rt (M - u) q).1))) ∧ ∃ S1 T1, h1 = mput A S1 B ∧ mA XQ S S1 ∧ T <+: T1 ∧ cqM S1 T1 Y U P Rs Rt lim (rn lim P Rs Rt (M - u) q).2) := by
  intro n
  induction n with
  | zero =>
    intro q S T u hn han hu hn2 huM hC hw hwc hbS
    have hl := hC.1.2.2.2.1
    have hnw := nw_le hw
    refine g_iload_n (pc := 20) dc_M_run_20 rfl ?_
    refine g_iload_n (pc := 21) dc_M_run_21 rfl ?_
    refine q_icmp_ge (pc := 22) (tgt := 38) u M dc_M_run_22 (by omega) (by omega) rfl (fun hc22 => ?_) (fun hc22 => ?_)
    · refine g_iload_n (pc := 38) dc_M_run_38 rfl ?_
      exact g_ireturn dc_M_run_39 rfl ⟨by rw [show M - u = 0 by omega]; rfl, S, T, rfl, mA.rf S, List.prefix_refl T, by rw [show M - u = 0 by omega]; exact hC⟩
    · refine g_aload_n (pc := 25) dc_M_run_25 rfl ?_
      refine g_v0 (pc := 26) (M' := mt_M_step) dc_M_run_26 mo_M_step im_M_step se_M_step ln_M_529 (mp_o hA) rfl rfl (Nat.le_of_ble_eq_true rfl) (Nat.le_of_ble_eq_true rfl) (am_G.mono (c_M_step (d := d) hA hUl hY hpU hC hP (by omega) hw hwc hbS) ?_)
      intro r h9 hz
      cases e : stp lim P Rs Rt q with
      | none =>
        rw [e] at hz
        obtain ⟨hz1, S2, hz2, hz3, hz4⟩ := hz
        rw [hz1, hz2]
        refine ⟨am_nti _, ?_⟩
        refine g_if_lt (pc := 29) (tgt := 38) dc_M_run_29 rfl (fun _ => ?_) (fun hc => absurd hc (by decide))
        refine g_iload_n (pc := 38) dc_M_run_38 rfl ?_
        exact g_ireturn dc_M_run_39 rfl ⟨by rw [rn_n e]; rfl, S2, T, rfl, hz3, List.prefix_refl T, by rw [rn_n e]; exact hz4⟩
      | some z =>
        rw [e] at hz
        obtain ⟨hz1, S2, T1, hz2, hz3, hz4, hz5⟩ := hz
        rw [hz1, hz2]
        refine ⟨am_nti _, ?_⟩
        have hz6 := stp_wf e hl.2.1 hl.2.2.1 hl.2.2.2.1 hP hw hwc (by omega)
        exact absurd (nw_le hz6.1) (by omega)
  | succ n ih =>
    intro q S T u hn han hu hn2 huM hC hw hwc hbS
    have hl := hC.1.2.2.2.1
    have hnw := nw_le hw
    refine g_iload_n (pc := 20) dc_M_run_20 rfl ?_
    refine g_iload_n (pc := 21) dc_M_run_21 rfl ?_
    refine q_icmp_ge (pc := 22) (tgt := 38) u M dc_M_run_22 (by omega) (by omega) rfl (fun hc22 => ?_) (fun hc22 => ?_)
    · refine g_iload_n (pc := 38) dc_M_run_38 rfl ?_
      exact g_ireturn dc_M_run_39 rfl ⟨by rw [show M - u = 0 by omega]; rfl, S, T, rfl, mA.rf S, List.prefix_refl T, by rw [show M - u = 0 by omega]; exact hC⟩
    · refine g_aload_n (pc := 25) dc_M_run_25 rfl ?_
      refine g_v0 (pc := 26) (M' := mt_M_step) dc_M_run_26 mo_M_step im_M_step se_M_step ln_M_529 (mp_o hA) rfl rfl (Nat.le_of_ble_eq_true rfl) (Nat.le_of_ble_eq_true rfl) (am_G.mono (c_M_step (d := d) hA hUl hY hpU hC hP (by omega) hw hwc hbS) ?_)
      intro r h9 hz
      cases e : stp lim P Rs Rt q with
      | none =>
        rw [e] at hz
        obtain ⟨hz1, S2, hz2, hz3, hz4⟩ := hz
        rw [hz1, hz2]
        refine ⟨am_nti _, ?_⟩
        refine g_if_lt (pc := 29) (tgt := 38) dc_M_run_29 rfl (fun _ => ?_) (fun hc => absurd hc (by decide))
        refine g_iload_n (pc := 38) dc_M_run_38 rfl ?_
        exact g_ireturn dc_M_run_39 rfl ⟨by rw [rn_n e]; rfl, S2, T, rfl, hz3, List.prefix_refl T, by rw [rn_n e]; exact hz4⟩
      | some z =>
        rw [e] at hz
        obtain ⟨hz1, S2, T1, hz2, hz3, hz4, hz5⟩ := hz
        rw [hz1, hz2]
        refine ⟨am_nti _, ?_⟩
        have hz6 := stp_wf e hl.2.1 hl.2.2.1 hl.2.2.2.1 hP hw hwc (by omega)
        refine q_if_lt (pc := 29) (tgt := 38) z.1 dc_M_run_29 (by omega) rfl ?_
        refine g_iinc (pc := 32) (v := (nI (u + 1))) dc_M_run_32 rfl (nI_add u 1) (by decide) ?_
        show am_G X mt_M_run _ 35 [some (.ref 84), some (.int (nI M)), some (.int (nI (u + 1)))] [] _ _
        refine g_goto (pc := 35) (tgt := 20) dc_M_run_35 rfl ?_
        refine am_G.mono (ih z.2 S2 T1 (u + 1) (by omega) (by omega) (by omega) (by omega) (by omega) hz5 hz6.1 hz6.2.1 ((hz3.isStarted (by decide)).trans hbS)) (fun r h9 hy9 => ?_)
        obtain ⟨y1, S1, T2, y2, y3, y4, y5⟩ := hy9
        have er : rn lim P Rs Rt (M - u) q = ((rn lim P Rs Rt (M - (u + 1)) z.2).1 + 1, (rn lim P Rs Rt (M - (u + 1)) z.2).2) := by rw [show M - u = (M - (u + 1)) + 1 by omega]; exact rn_s e
        rw [er]
        exact ⟨by rw [y1]; show _ = some (Value.int (nI (u + ((rn lim P Rs Rt (M - (u + 1)) z.2).1 + 1)))); rw [show u + ((rn lim P Rs Rt (M - (u + 1)) z.2).1 + 1) = u + 1 + (rn lim P Rs Rt (M - (u + 1)) z.2).1 by omega], S1, T2, y2, hz3.tr y3, hz4.trans y4, y5⟩
theorem c_M_run (hA : A.length = 84) (hUl : U.length < 3500) (hY : yOK Y) (hpU : pgP U P) (hP : wfP P) (hM : M < 2 ^ 31) (han : q.2.1.an + 250 ≤ 127900) (hC : cqM S T Y U P Rs Rt lim q) (hw : wfK q.1) (hwc : wfC q.1 q.2.1) (hbS : S.isStarted = true) : am_C X mt_M_run (d + 12) [.ref 84, .int (nI M)] (mput A S B) (fun r h1 => r = some (.int (nI (rn lim P Rs Rt M q).1)) ∧ ∃ S1 T1, h1 = mput A S1 B ∧ mA XQ S S1 ∧ T <+: T1 ∧ cqM S1 T1 Y U P Rs Rt lim (rn lim P Rs Rt M q).2) := by
  show am_G X mt_M_run (d + 12) 0 [some (.ref 84), some (.int (nI M)), none] [] (mput A S B) _
  have hm0 : mA [2] S (S.s_fault 0) := (mA.rf S).a_fault _ (by decide)
  have hC0 := hC.m hm0 (by decide)
  refine g_aload_n (pc := 0) dc_M_run_0 rfl ?_
  refine g_iconst (pc := 1) (v := 0) dc_M_run_1 rfl ?_
  refine pf_fault (pc := 2) (v := 0) hA dc_M_run_2 fp_M_run_1 ?_
  refine g_aload_n (pc := 5) dc_M_run_5 rfl ?_
  refine g_getfield (pc := 6) (v := .int 1) dc_M_run_6 fl_M_520 (mp_o hA) (congrArg (fun z => some (Value.int (b1 z))) hbS) ?_
  refine g_if_eq (pc := 9) (tgt := 16) dc_M_run_9 rfl (fun hc => absurd hc (by decide)) (fun _ => ?_)
  refine g_iload_n (pc := 12) dc_M_run_12 rfl ?_
  refine q_if_ge (pc := 13) (tgt := 18) M dc_M_run_13 (by omega) rfl ?_
  refine g_iconst (pc := 18) (v := 0) dc_M_run_18 rfl ?_
  refine g_istore_n (pc := 19) dc_M_run_19 (by decide) ?_
  show am_G X mt_M_run _ 20 [some (.ref 84), some (.int (nI M)), some (.int 0)] [] _ _
  refine am_G.mono (l_M_run hA hUl hY hpU hP hM 250 q (S.s_fault 0) T 0 (by omega) (by omega) (by omega) (by omega) (by omega) hC0 hw hwc hbS) (fun r h9 hz => ?_)
  obtain ⟨y1, S1, T1, y2, y3, y4, y5⟩ := hz
  rw [Nat.zero_add, Nat.sub_zero] at y1
  rw [Nat.sub_zero] at y5
  exact ⟨y1, S1, T1, y2, (hm0.mo (by decide)).tr y3, y4, y5⟩
theorem n_M_run {p : Int32} (hA : A.length = 84) (hn : S.isStarted = false ∨ p < 0) : am_C X mt_M_run (d + 12) [.ref 84, .int p] (mput A S B) (fun r h1 => r = some (.int (-1)) ∧ h1 = mput A (S.s_fault 0) B) := by
  show am_G X mt_M_run (d + 12) 0 [some (.ref 84), some (.int p), none] [] (mput A S B) _
  refine g_aload_n (pc := 0) dc_M_run_0 rfl ?_
  refine g_iconst (pc := 1) (v := 0) dc_M_run_1 rfl ?_
  refine pf_fault (pc := 2) (v := 0) hA dc_M_run_2 fp_M_run_1 ?_
  refine g_aload_n (pc := 5) dc_M_run_5 rfl ?_
  refine g_getfield (pc := 6) dc_M_run_6 fl_M_520 (mp_o hA) rfl ?_
  refine q_ifb_eq (pc := 9) (tgt := 16) dc_M_run_9 rfl (fun hc9 => ?_) (fun hc9 => ?_)
  · refine g_iconst (pc := 16) (v := (-1)) dc_M_run_16 rfl ?_
    exact g_ireturn dc_M_run_17 rfl ⟨rfl, rfl⟩
  · have hn2 : p < 0 := hn.elim (fun h9 => absurd (h9.symm.trans hc9) (by decide)) id
    refine g_iload_n (pc := 12) dc_M_run_12 rfl ?_
    refine g_if_ge (pc := 13) (tgt := 18) dc_M_run_13 rfl (fun hc => absurd hc (fun h8 => absurd hn2 (Int32.not_lt.mpr h8))) (fun hc13 => ?_)
    refine g_iconst (pc := 16) (v := (-1)) dc_M_run_16 rfl ?_
    exact g_ireturn dc_M_run_17 rfl ⟨rfl, rfl⟩
theorem n_M_step (hA : A.length = 84) (hn : S.isStarted = false) : am_C X mt_M_step (d + 11) [.ref 84] (mput A S B) (fun r h1 => r = some (.int (-1)) ∧ h1 = mput A (S.s_fault 0) B) := by
  show am_G X mt_M_step (d + 11) 0 [some (.ref 84), none, none] [] (mput A S B) _
  refine g_aload_n (pc := 0) dc_M_step_0 rfl ?_
  refine g_iconst (pc := 1) (v := 0) dc_M_step_1 rfl ?_
  refine pf_fault (pc := 2) (v := 0) hA dc_M_step_2 fp_M_step_1 ?_
  refine g_aload_n (pc := 5) dc_M_step_5 rfl ?_
  refine g_getfield (pc := 6) (v := .int 0) dc_M_step_6 fl_M_520 (mp_o hA) (congrArg (fun z => some (Value.int (b1 z))) hn) ?_
  refine g_if_eq (pc := 9) (tgt := 19) dc_M_step_9 rfl (fun _ => ?_) (fun hc => absurd hc (by decide))
  refine g_iconst (pc := 19) (v := (-1)) dc_M_step_19 rfl ?_
  refine g_istore_n (pc := 20) dc_M_step_20 (by decide) ?_
  show am_G X mt_M_step _ 21 [some (.ref 84), some (.int (-1)), none] [] _ _
  refine g_iload_n (pc := 21) dc_M_step_21 rfl ?_
  refine g_if_ge (pc := 22) (tgt := 27) dc_M_step_22 rfl (fun hc => absurd hc (by decide)) (fun _ => ?_)
  refine g_iconst (pc := 25) (v := (-1)) dc_M_step_25 rfl ?_
  exact g_ireturn dc_M_step_26 rfl ⟨rfl, rfl⟩
theorem l_M_crash {Q : Option Value → List va_E → Prop} (hA : A.length = 84) (hK : S.savedCount = k) (h250 : k ≤ 250) (KK : ∀ g, (∀ j, j < 6 * k → g j = S.saved j) → am_G X mt_M_crash d 43 [some (.ref 84), none] [] (mput A (S.s_known g) B) Q) : ∀ (n i : Nat) (g : Nat → Int32), i + n = 6 * k → (∀ j, j < i → g j = S.saved j) → am_G X mt_M_crash d 14 [some (.ref 84), some (.int (nI i))] [] (mput A (S.s_known g) B) Q
  | 0, i, g, e, hp => by
    refine g_iload_n (pc := 14) dc_M_crash_14 rfl ?_
    refine g_bipush (pc := 15) (v := 6) dc_M_crash_15 rfl ?_
    refine g_aload_n (pc := 17) dc_M_crash_17 rfl ?_
    refine g_getfield (pc := 18) (v := .int (nI k)) dc_M_crash_18 fl_M_421 (mp_o hA) (congrArg (fun z => some (Value.int (nI z))) hK) ?_
    refine g_imul (pc := 21) (v := (nI (6 * k))) dc_M_crash_21 (pk_mul 6 k) ?_
    refine q_icmp_ge (pc := 22) (tgt := 43) i (6 * k) dc_M_crash_22 (by omega) (by omega) rfl (fun hc22 => ?_) (fun hc => absurd hc (by omega))
    refine am_wk (am_le_s (am_le_n am_le_0)) ?_
    exact KK g (fun j hj => hp j (by omega))
  | n + 1, i, g, e, hp => by
    refine g_iload_n (pc := 14) dc_M_crash_14 rfl ?_
    refine g_bipush (pc := 15) (v := 6) dc_M_crash_15 rfl ?_
    refine g_aload_n (pc := 17) dc_M_crash_17 rfl ?_
    refine g_getfield (pc := 18) (v := .int (nI k)) dc_M_crash_18 fl_M_421 (mp_o hA) (congrArg (fun z => some (Value.int (nI z))) hK) ?_
    refine g_imul (pc := 21) (v := (nI (6 * k))) dc_M_crash_21 (pk_mul 6 k) ?_
    refine q_icmp_ge (pc := 22) (tgt := 43) i (6 * k) dc_M_crash_22 (by omega) (by omega) rfl (fun hc => absurd hc (by omega)) (fun hc22 => ?_)
    refine g_aload_n (pc := 25) dc_M_crash_25 rfl ?_
    refine g_getfield (pc := 26) dc_M_crash_26 fl_M_356 (mp_o hA) rfl ?_
    refine g_iload_n (pc := 29) dc_M_crash_29 rfl ?_
    refine g_aload_n (pc := 30) dc_M_crash_30 rfl ?_
    refine g_getfield (pc := 31) dc_M_crash_31 fl_M_359 (mp_o hA) rfl ?_
    refine g_iload_n (pc := 34) dc_M_crash_34 rfl ?_
    refine q_iaload (pc := 35) i dc_M_crash_35 (mp_a hA 34 rfl) (by omega) (by omega) ?_
    refine asE_known (pc := 36) i (g := upd g i (S.saved i)) hA dc_M_crash_36 (by omega) (rfl) ?_
    rw [MS.ss_known]
    refine g_iinc (pc := 37) (v := (nI (i + 1))) dc_M_crash_37 rfl (nI_add i 1) (by decide) ?_
    show am_G X mt_M_crash _ 40 [some (.ref 84), some (.int (nI (i + 1)))] [] _ _
    refine g_goto (pc := 40) (tgt := 14) dc_M_crash_40 rfl ?_
    exact l_M_crash hA hK h250 KK n (i + 1) _ (by omega) (fun j hj => by
      by_cases e9 : j = i
      · rw [e9, upd_s]
      · rw [upd_n e9]; exact hp j (by omega))
/-- the crawl behind a crash -/
def crq (q : Cr) : Cr := ((q.2.2.ad, q.2.2.st, q.2.2.dp, q.2.2.ch, q.2.2.ld, q.2.2.tx, q.1.at), (q.2.1.ck, q.2.1.an, 0, some q.2.1.ck, q.2.1.aq, q.2.1.ac), q.2.2)
theorem c_M_crash (hA : A.length = 84) (hC : cqM S T Y U P Rs Rt lim q) (hwc : wfC q.1 q.2.1) (h250 : q.2.2.ad.length ≤ q.1.ad.length) (h251 : q.1.ad.length ≤ 250) (hbS : S.isStarted = true) : am_C X mt_M_crash (d + 1) [.ref 84] (mput A S B) (fun r h1 => r = some (.int 1) ∧ ∃ S1, h1 = mput A S1 B ∧ mA [2, 63, 64, 67, 73, 74] S S1 ∧ cqM S1 T Y U P Rs Rt lim (crq q)) := by
  show am_G X mt_M_crash (d + 1) 0 [some (.ref 84), none] [] (mput A S B) _
  obtain ⟨hC1, hV⟩ := hC
  obtain ⟨hM, hp, hr, hl, hK, hc, hs⟩ := hC1
  have hm0 : mA [2] S (S.s_fault 0) := (mA.rf S).a_fault _ (by decide)
  refine g_aload_n (pc := 0) dc_M_crash_0 rfl ?_
  refine g_iconst (pc := 1) (v := 0) dc_M_crash_1 rfl ?_
  refine pf_fault (pc := 2) (v := 0) hA dc_M_crash_2 fp_M_crash_1 ?_
  refine g_aload_n (pc := 5) dc_M_crash_5 rfl ?_
  refine g_getfield (pc := 6) (v := .int 1) dc_M_crash_6 fl_M_520 (mp_o hA) (congrArg (fun z => some (Value.int (b1 z))) hbS) ?_
  refine g_if_eq (pc := 9) (tgt := 69) dc_M_crash_9 rfl (fun hc => absurd hc (by decide)) (fun _ => ?_)
  refine g_iconst (pc := 12) (v := 0) dc_M_crash_12 rfl ?_
  refine g_istore_n (pc := 13) dc_M_crash_13 (by decide) ?_
  show am_G X mt_M_crash _ 14 [some (.ref 84), some (.int 0)] [] _ _
  generalize hS2 : (S.s_fault 0) = S2
  have hm2 : mA [2] S S2 := by rw [← hS2]; exact hm0
  have hS2c : S2.savedCount = q.2.2.ad.length := (hm2.savedCount (by decide)).trans hV.1
  refine l_M_crash (S := S2) (k := q.2.2.ad.length) hA hS2c (by omega) (fun g hg => ?_) (6 * q.2.2.ad.length) 0 S2.known (by omega) (fun j hj => absurd hj (by omega))
  have hm3 : mA [63] S2 (S2.s_known g) := (mA.rf S2).a_known _ (by decide)
  have hg3 : (S2.s_known g).known = g := rfl
  generalize (S2.s_known g) = S3 at hm3 hg3 ⊢
  have hm4 : mA [2, 63] S S3 := (hm2.mo (by decide)).tr (hm3.mo (by decide))
  have hck : S3.clock = q.2.1.ck := (hm4.clock (by decide)).trans hc.1
  have hsv : S3.savedCount = q.2.2.ad.length := (hm4.savedCount (by decide)).trans hV.1
  have hst : S3.isStarted = true := (hm4.isStarted (by decide)).trans hbS
  have hgs : ∀ j, j < 6 * q.2.2.ad.length → S3.known j = S.saved j := fun j hj => by rw [hg3, hg j hj, hm2.saved (by decide)]
  refine g_aload_n (pc := 43) dc_M_crash_43 rfl ?_
  refine g_aload_n (pc := 44) dc_M_crash_44 rfl ?_
  refine g_getfield (pc := 45) (v := .int (nI q.2.2.ad.length)) dc_M_crash_45 fl_M_421 (mp_o hA) (congrArg (fun z => some (Value.int (nI z))) hsv) ?_
  refine pf_knownCount (pc := 48) (v := q.2.2.ad.length) hA dc_M_crash_48 fp_M_crash_412 ?_
  refine g_aload_n (pc := 51) dc_M_crash_51 rfl ?_
  refine g_iconst (pc := 52) (v := 0) dc_M_crash_52 rfl ?_
  refine pf_askedSince (pc := 53) (v := 0) hA dc_M_crash_53 fp_M_crash_424 ?_
  refine g_aload_n (pc := 56) dc_M_crash_56 rfl ?_
  refine g_iconst (pc := 57) (v := 0) dc_M_crash_57 rfl ?_
  refine pf_siteCount (pc := 58) (v := 0) hA dc_M_crash_58 fp_M_crash_427 ?_
  refine g_aload_n (pc := 61) dc_M_crash_61 rfl ?_
  refine g_aload_n (pc := 62) dc_M_crash_62 rfl ?_
  refine g_getfield (pc := 63) (v := .int (nI q.2.1.ck)) dc_M_crash_63 fl_M_433 (mp_o hA) (congrArg (fun z => some (Value.int (nI z))) hck) ?_
  refine pf_otherTime (pc := 66) (v := some q.2.1.ck) hA dc_M_crash_66 fp_M_crash_430 ?_
  have hm5 : mA [64, 67, 73, 74] S3 ((((S3.s_knownCount q.2.2.ad.length).s_askedSince 0).s_siteCount 0).s_otherTime (some q.2.1.ck)) := ((((mA.rf S3).a_knownCount _ (by decide)).a_askedSince _ (by decide)).a_siteCount _ (by decide)).a_otherTime _ (by decide)
  have hf5 : ((((S3.s_knownCount q.2.2.ad.length).s_askedSince 0).s_siteCount 0).s_otherTime (some q.2.1.ck)).knownCount = q.2.2.ad.length ∧ ((((S3.s_knownCount q.2.2.ad.length).s_askedSince 0).s_siteCount 0).s_otherTime (some q.2.1.ck)).askedSince = 0 ∧ ((((S3.s_knownCount q.2.2.ad.length).s_askedSince 0).s_siteCount 0).s_otherTime (some q.2.1.ck)).siteCount = 0 ∧ ((((S3.s_knownCount q.2.2.ad.length).s_askedSince 0).s_siteCount 0).s_otherTime (some q.2.1.ck)).otherTime = some q.2.1.ck := ⟨rfl, rfl, rfl, rfl⟩
  generalize ((((S3.s_knownCount q.2.2.ad.length).s_askedSince 0).s_siteCount 0).s_otherTime (some q.2.1.ck)) = S5 at hm5 hf5 ⊢
  have hm6 : mA [2, 63, 64, 67, 73, 74] S S5 := (hm4.mo (by decide)).tr (hm5.mo (by decide))
  have hst5 : S5.isStarted = true := (hm5.isStarted (by decide)).trans hst
  refine g_aload_n (pc := 69) dc_M_crash_69 rfl ?_
  refine g_getfield (pc := 70) (v := .int 1) dc_M_crash_70 fl_M_520 (mp_o hA) (congrArg (fun z => some (Value.int (b1 z))) hst5) ?_
  have hkn5 : knG S5.known T Y (crq q).1 := by
    rw [hm5.known (by decide)]
    exact hV.2.cg hgs
  have hcw5 : cwM S5 T (crq q).2.1 := ⟨(hm5.clock (by decide)).trans hck, (hm6.asked (by decide)).trans hc.2.1, hf5.2.1, hf5.2.2.2, by rw [hm6.askedClock (by decide), hm6.askedAddress (by decide)]; exact hc.2.2.2.2⟩
  have hsi5 : siM S5 T (crq q).1 (crq q).2.1.cr := ⟨[], fun _ => 0, [], hf5.2.2.1, List.nodup_nil, ⟨Nat.le_refl _, List.nodup_nil, fun x hx => absurd hx List.not_mem_nil⟩, fun s hs9 => absurd hs9 (Nat.not_lt_zero s), fun i hi hlt => by
    have hi2 : i < q.2.2.ad.length := hi
    have hlt2 : q.2.1.ck + 1 < lgv (q.1.at i) := hlt
    cases e9 : q.1.at i with
    | none => rw [e9] at hlt2; exact absurd hlt2 (Nat.not_lt_zero _)
    | some z =>
      rw [e9] at hlt2
      have h8 := hwc.1 i z (by omega) e9
      have h7 : q.2.1.ck + 1 < z + 1 := hlt2
      omega⟩
  exact g_zreturn dc_M_crash_73 rfl rfl ⟨rfl, S5, rfl, hm6, ⟨⟨hM.1.m hm6 (by decide) (by decide) (by decide) (by decide), hM.2.1, hM.2.2.1, hM.2.2.2.m hm6 (by decide) (by decide) (by decide) (by decide) (by decide)⟩, hp.m hm6 (by decide) (by decide) (by decide) (by decide), hr.m hm6 (by decide) (by decide) (by decide), hl.m hm6 (by decide), ⟨hf5.1, hkn5⟩, hcw5, hsi5⟩, hV.m hm6 (by decide) (by decide)⟩
theorem n_M_crash (hA : A.length = 84) (hn : S.isStarted = false) : am_C X mt_M_crash d [.ref 84] (mput A S B) (fun r h1 => r = some (.int 0) ∧ h1 = mput A (S.s_fault 0) B) := by
  show am_G X mt_M_crash d 0 [some (.ref 84), none] [] (mput A S B) _
  refine g_aload_n (pc := 0) dc_M_crash_0 rfl ?_
  refine g_iconst (pc := 1) (v := 0) dc_M_crash_1 rfl ?_
  refine pf_fault (pc := 2) (v := 0) hA dc_M_crash_2 fp_M_crash_1 ?_
  refine g_aload_n (pc := 5) dc_M_crash_5 rfl ?_
  refine g_getfield (pc := 6) (v := .int 0) dc_M_crash_6 fl_M_520 (mp_o hA) (congrArg (fun z => some (Value.int (b1 z))) hn) ?_
  refine g_if_eq (pc := 9) (tgt := 69) dc_M_crash_9 rfl (fun _ => ?_) (fun hc => absurd hc (by decide))
  refine g_aload_n (pc := 69) dc_M_crash_69 rfl ?_
  refine g_getfield (pc := 70) (v := .int 0) dc_M_crash_70 fl_M_520 (mp_o hA) (congrArg (fun z => some (Value.int (b1 z))) hn) ?_
  exact g_zreturn dc_M_crash_73 rfl rfl ⟨rfl, rfl⟩
end RUN
