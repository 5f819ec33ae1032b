/-! ===== the class's foldPath ===== -/
theorem bwd_eq {p : Int32 → Bool} {L : List Int32} {f k : Nat} (h1 : f < k) (h3 : p (gx L (k - 1)) = false) : ∀ n : Nat, k ≤ f + n → (∀ j, k ≤ j → j < f + n → p (gx L j) = true) → bwd p L f n = k
  | 0, hk, _ => absurd hk (by omega)
  | n + 1, hk, hp => by
    show (if p (gx L (f + n)) = true then bwd p L f n else f + (n + 1)) = k
    by_cases e : k = f + (n + 1)
    · have e2 : k - 1 = f + n := by omega
      rw [e2] at h3
      rw [if_neg (by rw [h3]; decide)]
      exact e.symm
    · rw [if_pos (hp (f + n) (by omega) (by omega))]
      exact bwd_eq h1 h3 n (by omega) (fun j a b => hp j a (by omega))
theorem bwd_all {p : Int32 → Bool} {L : List Int32} {f : Nat} : ∀ n : Nat, (∀ j, f ≤ j → j < f + n → p (gx L j) = true) → bwd p L f n = f
  | 0, _ => rfl
  | n + 1, hp => by
    show (if p (gx L (f + n)) = true then bwd p L f n else f + (n + 1)) = f
    rw [if_pos (hp (f + n) (by omega) (by omega))]
    exact bwd_all n (fun j a b => hp j a (by omega))
/-- a piece: a slash, and no other in it -/
def sgO (D : List Int32) : Prop := ∃ w : List Int32, D = 47 :: w ∧ ∀ j, j < w.length → ¬ gx w j = 47
def sgs (Ss : List (List Int32)) : Prop := ∀ k, k < Ss.length → sgO (gT Ss k)
theorem sgs_app {Ss : List (List Int32)} {D : List Int32} (h : sgs Ss) (hD : sgO D) : sgs (Ss ++ [D]) := fun k hk => by
  by_cases e : k < Ss.length
  · rw [gT_app e]; exact h k e
  · have e2 : k = Ss.length := by rw [List.length_append] at hk; have : k < Ss.length + 1 := hk; omega
    rw [e2, gT_new]; exact hD
theorem sgs_dl {Ss : List (List Int32)} (h : sgs Ss) : sgs Ss.dropLast := fun k hk => by
  have hl : Ss.dropLast.length = Ss.length - 1 := List.length_dropLast
  have e : gT Ss.dropLast k = gT Ss k := by
    rw [gT_eq hk, gT_eq (by omega), List.getElem_dropLast]
  rw [e]; exact h k (by omega)
theorem dl_split {Ss : List (List Int32)} (h : 0 < Ss.length) : Ss.flatten = Ss.dropLast.flatten ++ gT Ss (Ss.length - 1) := by
  have e : Ss = Ss.dropLast ++ [gT Ss (Ss.length - 1)] := by
    rw [gT_eq (by omega)]
    have hne : Ss ≠ [] := fun e => by rw [e] at h; exact absurd h (by decide)
    have := List.dropLast_concat_getLast hne
    rw [List.getLast_eq_getElem] at this
    exact this.symm
  have := congrArg List.flatten e
  rw [this]
  simp
/-- behind the last slash of site and pieces -/
theorem bw_seg {Z : List Int32} {Ss : List (List Int32)} (hs : sgs Ss) : Nat.max Z.length (bw (nev 47) (Z ++ Ss.flatten) Z.length (Z ++ Ss.flatten).length - 1) = (Z ++ Ss.dropLast.flatten).length := by
  by_cases h0 : Ss.length = 0
  · have e : Ss = [] := List.length_eq_zero_iff.mp h0
    subst e
    have e1 : bw (nev 47) (Z ++ ([] : List (List Int32)).flatten) Z.length (Z ++ ([] : List (List Int32)).flatten).length = Z.length := bw_0 (by simp)
    rw [e1]
    show Nat.max Z.length (Z.length - 1) = (Z ++ []).length
    rw [List.append_nil]
    have := nmax_bd Z.length (Z.length - 1)
    omega
  · have hsp := dl_split (Ss := Ss) (by omega)
    obtain ⟨w, hw, hn⟩ := hs (Ss.length - 1) (by omega)
    rw [hw] at hsp
    have hl : (Z ++ Ss.flatten).length = Z.length + Ss.dropLast.flatten.length + 1 + w.length := by rw [hsp]; simp; omega
    have e : bw (nev 47) (Z ++ Ss.flatten) Z.length (Z ++ Ss.flatten).length = Z.length + Ss.dropLast.flatten.length + 1 := by
      unfold bw
      refine bwd_eq (by omega) ?_ _ (by omega) (fun j a b => ?_)
      · rw [show Z.length + Ss.dropLast.flatten.length + 1 - 1 = Z.length + Ss.dropLast.flatten.length by omega, hsp, ← List.append_assoc, gx_app_r (by rw [List.length_append]; exact Nat.le_refl _), List.length_append, Nat.sub_self]
        exact nev_f rfl
      · rw [hsp, ← List.append_assoc, gx_app_r (by rw [List.length_append]; omega), List.length_append]
        obtain ⟨q, hq⟩ : ∃ q, j - (Z.length + Ss.dropLast.flatten.length) = q + 1 := ⟨j - (Z.length + Ss.dropLast.flatten.length) - 1, by omega⟩
        rw [hq]
        exact nev_t (hn q (by omega))
    rw [e, List.length_append]
    have := nmax_bd Z.length (Z.length + Ss.dropLast.flatten.length + 1 - 1)
    omega
theorem toB.cut {h : List va_E} {a b cap : Nat} {L M : List Int32} (x : isB h a b cap (L ++ M)) : toB h (h.set a (.inr (1, [.ref b, .int (nI L.length)]))) a b cap L := by
  refine ⟨b, cap, x.cut, ⟨⟨by rw [List.length_set]; exact Nat.le_refl _, fun k _ k1 _ => List.getElem?_set_ne (Ne.symm k1)⟩, Or.inl rfl, ?_, ?_⟩, by omega⟩
  · rw [am_sl_set _ a (.inr (1, [.ref b, .int (nI L.length)])) _ x.ha rfl]; exact Nat.le_refl _
  · rw [List.length_set]; exact Nat.le_refl _
section AFP
variable {X : am_X} {d a r p br cr bp cp : Nat} {h0 h1 : List va_E} {P Z R0 P0 : List Int32} {Ss : List (List Int32)}
theorem c_A_dropSegment (hAr : h0[a]? = some (.inr (2, [.ref r, .ref p]))) (z1 : isB h0 r br cr R0) (z2 : isB h0 p bp cp P0) (hrp : r ≠ p) (Y1 : A2 h0 h1 r br cr p bp cp (Z ++ Ss.flatten) P) (hs : sgs Ss) (hz : 1 ≤ Z.length) (hl : (Z ++ Ss.flatten).length ≤ 9000) : am_C X mt_A_dropSegment (d + 1) [.ref a, .int (nI Z.length)] h1 (fun r9 h9 => r9 = none ∧ A2 h0 h9 r br cr p bp cp (Z ++ Ss.dropLast.flatten) P) := by
  show am_G X mt_A_dropSegment (d + 1) 0 [some (.ref a), some (.int (nI Z.length)), none] [] h1 _
  have ka1 : a ≠ r := fun e => by rw [e, z1.ha] at hAr; cases hAr
  have ka3 : a ≠ p := fun e => by rw [e, z2.ha] at hAr; cases hAr
  have ka2 : a ≠ br := fun e => by obtain ⟨g, q1, q2, -⟩ := z1; rw [e, q2] at hAr; cases hAr
  have ka4 : a ≠ bp := fun e => by obtain ⟨g, q1, q2, -⟩ := z2; rw [e, q2] at hAr; cases hAr
  have B1 := Y1
  obtain ⟨br1, cr1, bp1, cp1, i1, j1, ne1, w1⟩ := B1
  have hZl : Z.length ≤ (Z ++ Ss.flatten).length := by rw [List.length_append]; omega
  have hbb := bw_bd (p := nev 47) (L := Z ++ Ss.flatten) hZl
  have hsg := bw_seg (Z := Z) hs
  refine g_aload_n (pc := 0) dc_A_dropSegment_0 rfl ?_
  refine g_getfield (pc := 1) dc_A_dropSegment_1 fl_A_14 (Y1.kp hAr ka1 ka2 ka3 ka4) rfl ?_
  refine g_getfield (pc := 4) dc_A_dropSegment_4 fl_A_115 i1.ha rfl ?_
  refine g_iload_n (pc := 7) dc_A_dropSegment_7 rfl ?_
  refine g_aload_n (pc := 8) dc_A_dropSegment_8 rfl ?_
  refine g_getfield (pc := 9) dc_A_dropSegment_9 fl_A_14 (Y1.kp hAr ka1 ka2 ka3 ka4) rfl ?_
  refine g_getfield (pc := 12) dc_A_dropSegment_12 fl_A_72 i1.ha rfl ?_
  refine g_s3 (pc := 15) (M' := mt_A_behindLastSlash) dc_A_dropSegment_15 mo_A_behindLastSlash st_A_behindLastSlash ln_A_123 (Nat.le_of_ble_eq_true rfl) (Nat.le_of_ble_eq_true rfl) (am_G.mono (t0_A_behindLastSlash (L := Z ++ Ss.flatten) (f := Z.length) (t := (Z ++ Ss.flatten).length) i1.tt (by omega) (Nat.le_refl _)) ?_)
  intro r h1 hq
  rw [hq.1, hq.2]
  clear hq h1 r
  refine ⟨am_nti _, ?_⟩
  refine g_istore_n (pc := 18) dc_A_dropSegment_18 (by decide) ?_
  show am_G X mt_A_dropSegment _ 19 [some (.ref a), some (.int (nI Z.length)), some (.int (nI (bw (nev 47) (Z ++ Ss.flatten) Z.length (Z ++ Ss.flatten).length)))] [] _ _
  refine g_aload_n (pc := 19) dc_A_dropSegment_19 rfl ?_
  refine g_getfield (pc := 20) dc_A_dropSegment_20 fl_A_14 (Y1.kp hAr ka1 ka2 ka3 ka4) rfl ?_
  refine g_iload_n (pc := 23) dc_A_dropSegment_23 rfl ?_
  refine g_iload_n (pc := 24) dc_A_dropSegment_24 rfl ?_
  refine g_iconst (pc := 25) (v := 1) dc_A_dropSegment_25 rfl ?_
  refine g_isub (pc := 26) (v := (nI (bw (nev 47) (Z ++ Ss.flatten) Z.length (Z ++ Ss.flatten).length - 1))) dc_A_dropSegment_26 (q_sub (a := bw (nev 47) (Z ++ Ss.flatten) Z.length (Z ++ Ss.flatten).length) (b := 1) (by omega)) ?_
  refine g_s2 (pc := 27) (M' := mt_JMath_max) dc_A_dropSegment_27 mo_JMath_max st_JMath_max ln_A_133 (Nat.le_of_ble_eq_true rfl) (Nat.le_of_ble_eq_true rfl) (am_G.mono (c_JMath_max (x := Z.length) (y := bw (nev 47) (Z ++ Ss.flatten) Z.length (Z ++ Ss.flatten).length - 1) (by omega) (by omega)) ?_)
  intro r h1 hq
  rw [hq.1, hq.2]
  clear hq h1 r
  refine ⟨am_nti _, ?_⟩
  rw [hsg]
  refine g_putfield (pc := 30) dc_A_dropSegment_30 fp_A_dropSegment_72 i1.ha (Nat.le_of_ble_eq_true rfl) rfl rfl ?_
  refine g_return dc_A_dropSegment_33 rfl ⟨rfl, ?_⟩
  have hsp : ∃ M, Z ++ Ss.flatten = (Z ++ Ss.dropLast.flatten) ++ M := by
    by_cases h0 : 0 < Ss.length
    · exact ⟨gT Ss (Ss.length - 1), by rw [dl_split h0, List.append_assoc]⟩
    · have e : Ss = [] := List.length_eq_zero_iff.mp (by omega)
      subst e
      exact ⟨[], by simp⟩
  obtain ⟨M, hM⟩ := hsp
  rw [hM] at i1 hl
  rw [hM]
  exact A2.sr hrp (by rw [List.length_append] at hl; omega) i1 j1 ne1 w1 (toB.cut i1)
end AFP
