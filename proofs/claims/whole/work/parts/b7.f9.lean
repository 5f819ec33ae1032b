/-! ===== where a link comes to: the class ===== -/
/-- the document of a known one, over at most so many moves -/
def cmt (K : Kn) : Nat → Nat → Option Nat
  | 0, k => if K.st k = 2 then nbr (txs K (dcs K)) (K.tx k) else none
  | f + 1, k => if K.st k = 2 then nbr (txs K (dcs K)) (K.tx k) else match ldx K k with
    | none => none
    | some k2 => cmt K f k2
def cmo (K : Kn) : Option Nat → Option Nat
  | none => none
  | some k => cmt K 20 k
section F9S
variable {X : am_X} {d i k n x p f m : Nat} {w w0 w1 : Gw} {h h0 h1 : List va_E} {K V : Kn} {ck an sv sn : Nat} {cr : Option Nat} {st9 : Bool} {go : Nat → Int32} {v2 : Int32}
theorem ldx_lt {j : Nat} (e : ldx K i = some j) : j < K.ad.length := by
  unfold ldx at e
  cases e2 : K.ld i with
  | none => rw [e2] at e; cases e
  | some E => rw [e2] at e; exact (nbr_s e).1
theorem cmt_g (h : K.st k = 2) : cmt K f k = nbr (txs K (dcs K)) (K.tx k) := by
  cases f with
  | zero => exact if_pos h
  | succ f => exact if_pos h
theorem cmt_0 (h : ¬ K.st k = 2) : cmt K 0 k = none := if_neg h
theorem cmt_s (h : ¬ K.st k = 2) : cmt K (f + 1) k = match ldx K k with | none => none | some k2 => cmt K f k2 := if_neg h
theorem l5_D_comesTo (hD : dO w h n) (hO : cO w h 34 34 (cr7 st9 ck an sv sn cr)) (hG : gr4 w h 39) (hK : mk4 w h 39 K) (hw : wfK K) (ho : iA w h 75 250 go) (hoN : ∀ i, i ∈ srtK K K.ad.length → go i = er (nbr (txs K (dcs K)) (K.tx i))) : ∀ (f m k : Nat), m + f = 20 → k < K.ad.length → am_G X mt_D_comesTo d 5 [some (.ref 59), some (.ref 34), some (.int v2), some (.int (nI k)), some (.int (nI m))] [] h (fun r h1 => r = some (.int (er (cmt K f k))) ∧ h1 = h)
  | 0, m, k, e, hk => by
    have h250 := hw.1
    have hK0 := hK
    obtain ⟨z0, z1, z2, z3, m0, m1, m2, m3, hmP⟩ := hK
    have hst5 := (hw.2.2.2 k hk).2.1
    refine g_iload_n (pc := 5) dc_D_comesTo_5 rfl ?_
    refine g_iconst (pc := 6) (v := (-1)) dc_D_comesTo_6 rfl ?_
    refine g_icmp_eq (pc := 7) (tgt := 51) dc_D_comesTo_7 rfl (fun hc => absurd hc (q_nem1 (by omega))) (fun _ => ?_)
    refine g_iload (pc := 10) dc_D_comesTo_10 rfl ?_
    refine g_bipush (pc := 12) (v := 20) dc_D_comesTo_12 rfl ?_
    refine q_icmp_gt (pc := 14) (tgt := 51) m 20 dc_D_comesTo_14 (by omega) (by omega) rfl (fun hc => absurd hc (by omega)) (fun hc14 => ?_)
    refine g_aload_n (pc := 17) dc_D_comesTo_17 rfl ?_
    refine g_getfield (pc := 18) dc_D_comesTo_18 fl_D_79 hO.1 rfl ?_
    refine g_iconst (pc := 21) (v := 0) dc_D_comesTo_21 rfl ?_
    refine q_aaloadI (pc := 22) (k := 40) 0 dc_D_comesTo_22 hG.1 (by decide) (by decide) rfl ?_
    refine g_iload_n (pc := 23) dc_D_comesTo_23 rfl ?_
    refine q_ialoadV (pc := 24) k dc_D_comesTo_24 m0.1 (by omega) (by decide) (v := nI (K.st k)) (hmP k hk).1 ?_
    refine g_iconst (pc := 25) (v := 2) dc_D_comesTo_25 rfl ?_
    refine q_icmp_ne (pc := 26) (tgt := 36) (K.st k) 2 dc_D_comesTo_26 (by omega) (by omega) rfl (fun hc26 => ?_) (fun hc26 => ?_)
    · refine g_aload_n (pc := 36) dc_D_comesTo_36 rfl ?_
      refine g_getfield (pc := 37) dc_D_comesTo_37 fl_D_79 hO.1 rfl ?_
      refine g_iconst (pc := 40) (v := 3) dc_D_comesTo_40 rfl ?_
      refine q_aaloadI (pc := 41) (k := 43) 3 dc_D_comesTo_41 hG.1 (by decide) (by decide) rfl ?_
      refine g_iload_n (pc := 42) dc_D_comesTo_42 rfl ?_
      refine q_ialoadV (pc := 43) k dc_D_comesTo_43 m3.1 (by omega) (by decide) (v := er (ldx K k)) (hmP k hk).2.2.2 ?_
      refine g_istore_n (pc := 44) dc_D_comesTo_44 (by decide) ?_
      show am_G X mt_D_comesTo _ 45 [some (.ref 59), some (.ref 34), some (.int v2), some (.int (er (ldx K k))), some (.int (nI m))] [] _ _
      refine g_iinc (pc := 45) (v := (nI (m + 1))) dc_D_comesTo_45 rfl (nI_add m 1) (by decide) ?_
      show am_G X mt_D_comesTo _ 48 [some (.ref 59), some (.ref 34), some (.int v2), some (.int (er (ldx K k))), some (.int (nI (m + 1)))] [] _ _
      refine g_goto (pc := 48) (tgt := 5) dc_D_comesTo_48 rfl ?_
      cases hx : ldx K k with
      | none =>
        show am_G X mt_D_comesTo d 5 [some (.ref 59), some (.ref 34), some (.int v2), some (.int (-1)), some (.int (nI (m + 1)))] [] h _
        refine g_iload_n (pc := 5) dc_D_comesTo_5 rfl ?_
        refine g_iconst (pc := 6) (v := (-1)) dc_D_comesTo_6 rfl ?_
        refine g_icmp_eq (pc := 7) (tgt := 51) dc_D_comesTo_7 rfl (fun _ => ?_) (fun hc => absurd hc (by decide))
        refine g_iconst (pc := 51) (v := (-1)) dc_D_comesTo_51 rfl ?_
        exact g_ireturn dc_D_comesTo_52 rfl ⟨by rw [cmt_0 hc26]; rfl, rfl⟩
      | some k2 =>
        have hk2 := ldx_lt hx
        show am_G X mt_D_comesTo d 5 [some (.ref 59), some (.ref 34), some (.int v2), some (.int (nI k2)), some (.int (nI (m + 1)))] [] h _
        refine g_iload_n (pc := 5) dc_D_comesTo_5 rfl ?_
        refine g_iconst (pc := 6) (v := (-1)) dc_D_comesTo_6 rfl ?_
        refine g_icmp_eq (pc := 7) (tgt := 51) dc_D_comesTo_7 rfl (fun hc => absurd hc (q_nem1 (by omega))) (fun _ => ?_)
        refine g_iload (pc := 10) dc_D_comesTo_10 rfl ?_
        refine g_bipush (pc := 12) (v := 20) dc_D_comesTo_12 rfl ?_
        refine q_icmp_gt (pc := 14) (tgt := 51) (m + 1) 20 dc_D_comesTo_14 (by omega) (by omega) rfl (fun hc14 => ?_) (fun hc => absurd hc (by omega))
        refine g_iconst (pc := 51) (v := (-1)) dc_D_comesTo_51 rfl ?_
        exact g_ireturn dc_D_comesTo_52 rfl ⟨by rw [cmt_0 hc26]; rfl, rfl⟩
    · refine g_aload_n (pc := 29) dc_D_comesTo_29 rfl ?_
      refine g_getfield (pc := 30) dc_D_comesTo_30 fl_D_60 hD.1 rfl ?_
      refine g_iload_n (pc := 33) dc_D_comesTo_33 rfl ?_
      refine q_ialoadV (pc := 34) k dc_D_comesTo_34 ho.1 (by omega) (by decide) (v := er (nbr (txs K (dcs K)) (K.tx k))) (hoN k ((srtK_mem _).mpr ⟨hk, hc26⟩)) ?_
      exact g_ireturn dc_D_comesTo_35 rfl ⟨by rw [cmt_g hc26], rfl⟩
  | f + 1, m, k, e, hk => by
    have h250 := hw.1
    have hK0 := hK
    obtain ⟨z0, z1, z2, z3, m0, m1, m2, m3, hmP⟩ := hK
    have hst5 := (hw.2.2.2 k hk).2.1
    refine g_iload_n (pc := 5) dc_D_comesTo_5 rfl ?_
    refine g_iconst (pc := 6) (v := (-1)) dc_D_comesTo_6 rfl ?_
    refine g_icmp_eq (pc := 7) (tgt := 51) dc_D_comesTo_7 rfl (fun hc => absurd hc (q_nem1 (by omega))) (fun _ => ?_)
    refine g_iload (pc := 10) dc_D_comesTo_10 rfl ?_
    refine g_bipush (pc := 12) (v := 20) dc_D_comesTo_12 rfl ?_
    refine q_icmp_gt (pc := 14) (tgt := 51) m 20 dc_D_comesTo_14 (by omega) (by omega) rfl (fun hc => absurd hc (by omega)) (fun hc14 => ?_)
    refine g_aload_n (pc := 17) dc_D_comesTo_17 rfl ?_
    refine g_getfield (pc := 18) dc_D_comesTo_18 fl_D_79 hO.1 rfl ?_
    refine g_iconst (pc := 21) (v := 0) dc_D_comesTo_21 rfl ?_
    refine q_aaloadI (pc := 22) (k := 40) 0 dc_D_comesTo_22 hG.1 (by decide) (by decide) rfl ?_
    refine g_iload_n (pc := 23) dc_D_comesTo_23 rfl ?_
    refine q_ialoadV (pc := 24) k dc_D_comesTo_24 m0.1 (by omega) (by decide) (v := nI (K.st k)) (hmP k hk).1 ?_
    refine g_iconst (pc := 25) (v := 2) dc_D_comesTo_25 rfl ?_
    refine q_icmp_ne (pc := 26) (tgt := 36) (K.st k) 2 dc_D_comesTo_26 (by omega) (by omega) rfl (fun hc26 => ?_) (fun hc26 => ?_)
    · refine g_aload_n (pc := 36) dc_D_comesTo_36 rfl ?_
      refine g_getfield (pc := 37) dc_D_comesTo_37 fl_D_79 hO.1 rfl ?_
      refine g_iconst (pc := 40) (v := 3) dc_D_comesTo_40 rfl ?_
      refine q_aaloadI (pc := 41) (k := 43) 3 dc_D_comesTo_41 hG.1 (by decide) (by decide) rfl ?_
      refine g_iload_n (pc := 42) dc_D_comesTo_42 rfl ?_
      refine q_ialoadV (pc := 43) k dc_D_comesTo_43 m3.1 (by omega) (by decide) (v := er (ldx K k)) (hmP k hk).2.2.2 ?_
      refine g_istore_n (pc := 44) dc_D_comesTo_44 (by decide) ?_
      show am_G X mt_D_comesTo _ 45 [some (.ref 59), some (.ref 34), some (.int v2), some (.int (er (ldx K k))), some (.int (nI m))] [] _ _
      refine g_iinc (pc := 45) (v := (nI (m + 1))) dc_D_comesTo_45 rfl (nI_add m 1) (by decide) ?_
      show am_G X mt_D_comesTo _ 48 [some (.ref 59), some (.ref 34), some (.int v2), some (.int (er (ldx K k))), some (.int (nI (m + 1)))] [] _ _
      refine g_goto (pc := 48) (tgt := 5) dc_D_comesTo_48 rfl ?_
      cases hx : ldx K k with
      | none =>
        show am_G X mt_D_comesTo d 5 [some (.ref 59), some (.ref 34), some (.int v2), some (.int (-1)), some (.int (nI (m + 1)))] [] h _
        refine g_iload_n (pc := 5) dc_D_comesTo_5 rfl ?_
        refine g_iconst (pc := 6) (v := (-1)) dc_D_comesTo_6 rfl ?_
        refine g_icmp_eq (pc := 7) (tgt := 51) dc_D_comesTo_7 rfl (fun _ => ?_) (fun hc => absurd hc (by decide))
        refine g_iconst (pc := 51) (v := (-1)) dc_D_comesTo_51 rfl ?_
        exact g_ireturn dc_D_comesTo_52 rfl ⟨by rw [cmt_s hc26, hx]; rfl, rfl⟩
      | some k2 =>
        have hk2 := ldx_lt hx
        rw [cmt_s hc26, hx]
        exact l5_D_comesTo hD hO hG hK0 hw ho hoN f (m + 1) k2 (by omega) hk2
    · refine g_aload_n (pc := 29) dc_D_comesTo_29 rfl ?_
      refine g_getfield (pc := 30) dc_D_comesTo_30 fl_D_60 hD.1 rfl ?_
      refine g_iload_n (pc := 33) dc_D_comesTo_33 rfl ?_
      refine q_ialoadV (pc := 34) k dc_D_comesTo_34 ho.1 (by omega) (by decide) (v := er (nbr (txs K (dcs K)) (K.tx k))) (hoN k ((srtK_mem _).mpr ⟨hk, hc26⟩)) ?_
      exact g_ireturn dc_D_comesTo_35 rfl ⟨by rw [cmt_g hc26], rfl⟩
theorem c_D_comesTo (hD : dO w h n) (hO : cO w h 34 34 (cr7 st9 ck an sv sn cr)) (hG : gr4 w h 39) (hK : mk4 w h 39 K) (hw : wfK K) (ho : iA w h 75 250 go) (hoN : ∀ i, i ∈ srtK K K.ad.length → go i = er (nbr (txs K (dcs K)) (K.tx i))) {oo : Option Nat} (hoo : ∀ k, oo = some k → k < K.ad.length) : am_C X mt_D_comesTo d [.ref 59, .ref 34, .int (er oo)] h (fun r h1 => r = some (.int (er (cmo K oo))) ∧ h1 = h) := by
  show am_G X mt_D_comesTo d 0 [some (.ref 59), some (.ref 34), some (.int (er oo)), none, none] [] h _
  cases oo with
  | none =>
    show am_G X mt_D_comesTo d 0 [some (.ref 59), some (.ref 34), some (.int (-1)), none, none] [] h _
    refine g_iload_n (pc := 0) dc_D_comesTo_0 rfl ?_
    refine g_istore_n (pc := 1) dc_D_comesTo_1 (by decide) ?_
    show am_G X mt_D_comesTo _ 2 [some (.ref 59), some (.ref 34), some (.int (-1)), some (.int (-1)), none] [] _ _
    refine g_iconst (pc := 2) (v := 0) dc_D_comesTo_2 rfl ?_
    refine g_istore (pc := 3) dc_D_comesTo_3 (by decide) ?_
    show am_G X mt_D_comesTo _ 5 [some (.ref 59), some (.ref 34), some (.int (-1)), some (.int (-1)), some (.int 0)] [] _ _
    refine g_iload_n (pc := 5) dc_D_comesTo_5 rfl ?_
    refine g_iconst (pc := 6) (v := (-1)) dc_D_comesTo_6 rfl ?_
    refine g_icmp_eq (pc := 7) (tgt := 51) dc_D_comesTo_7 rfl (fun _ => ?_) (fun hc => absurd hc (by decide))
    refine g_iconst (pc := 51) (v := (-1)) dc_D_comesTo_51 rfl ?_
    exact g_ireturn dc_D_comesTo_52 rfl ⟨rfl, rfl⟩
  | some k =>
    have hk := hoo k rfl
    show am_G X mt_D_comesTo d 0 [some (.ref 59), some (.ref 34), some (.int (nI k)), none, none] [] h _
    refine g_iload_n (pc := 0) dc_D_comesTo_0 rfl ?_
    refine g_istore_n (pc := 1) dc_D_comesTo_1 (by decide) ?_
    show am_G X mt_D_comesTo _ 2 [some (.ref 59), some (.ref 34), some (.int (nI k)), some (.int (nI k)), none] [] _ _
    refine g_iconst (pc := 2) (v := 0) dc_D_comesTo_2 rfl ?_
    refine g_istore (pc := 3) dc_D_comesTo_3 (by decide) ?_
    show am_G X mt_D_comesTo _ 5 [some (.ref 59), some (.ref 34), some (.int (nI k)), some (.int (nI k)), some (.int 0)] [] _ _
    exact l5_D_comesTo hD hO hG hK hw ho hoN 20 0 k rfl hk
end F9S
