/-! ===== the class ranks documents ===== -/
/-- leads of all documents, as the arrays have them -/
def lsC (w : Gw) (h : List va_E) (n : Nat) (L : Nat → List Nat) : Prop := ∃ gt gl, iA w h 63 250 gt ∧ iA w h 73 15000 gl ∧ ∀ dd, dd < n → gt dd = nI (L dd).length ∧ (∀ t, t < (L dd).length → gl (dd * 60 + t) = nI (gN (L dd) t)) ∧ (L dd).length ≤ 60 ∧ (L dd).Nodup ∧ ∀ x, x ∈ L dd → x < n
section FES
variable {X : am_X} {d n t dd k N : Nat} {w w0 w1 : Gw} {h h0 h1 : List va_E} {I : List Nat} {L : Nat → List Nat} {Q : Option Value → List va_E → Prop} {v1 v2 : Int32}
theorem lsC.fr (z : lsC w h n L) (f : fr w w1 h h1 I) (i1 : ¬ 63 ∈ I) (i2 : ¬ 73 ∈ I) : lsC w1 h1 n L := by
  obtain ⟨gt, gl, a1, a2, a3⟩ := z
  exact ⟨gt, gl, a1.fr f i1, a2.fr f i2, a3⟩
theorem l2_D_rank (hn : n ≤ 250) : ∀ (n9 t : Nat) (w : Gw) (h : List va_E) (g : Nat → Int32), t + n9 = n → dO w h n → iA w h 62 250 g → (∀ e, e < t → g e = nI (1000000 / n)) → (∀ w1 h1 g1, fr w w1 h h1 [62] → iA w1 h1 62 250 g1 → (∀ e, e < n → g1 e = nI (1000000 / n)) → am_G X mt_D_rank (d + 1) 29 [some (.ref 59), some (.int v1), some (.int (nI n)), none] [] h1 Q) → am_G X mt_D_rank (d + 1) 2 [some (.ref 59), some (.int v1), some (.int (nI t)), none] [] h Q
  | 0, t, w, h, g, e9, hD, hg, hs, KK => by
    refine g_iload_n (pc := 2) dc_D_rank_2 rfl ?_
    refine g_aload_n (pc := 3) dc_D_rank_3 rfl ?_
    refine g_getfield (pc := 4) dc_D_rank_4 fl_D_91 hD.1 rfl ?_
    refine q_icmp_ge (pc := 7) (tgt := 29) t n dc_D_rank_7 (by omega) (by omega) rfl (fun hc7 => ?_) (fun hc => absurd hc (by omega))
    rw [show t = n by omega]
    exact KK w h g fr.rf hg (fun e he => hs e (by omega))
  | n9 + 1, t, w, h, g, e9, hD, hg, hs, KK => by
    refine g_iload_n (pc := 2) dc_D_rank_2 rfl ?_
    refine g_aload_n (pc := 3) dc_D_rank_3 rfl ?_
    refine g_getfield (pc := 4) dc_D_rank_4 fl_D_91 hD.1 rfl ?_
    refine q_icmp_ge (pc := 7) (tgt := 29) t n dc_D_rank_7 (by omega) (by omega) rfl (fun hc => absurd hc (by omega)) (fun hc7 => ?_)
    refine g_aload_n (pc := 10) dc_D_rank_10 rfl ?_
    refine g_getfield (pc := 11) dc_D_rank_11 fl_D_21 hD.1 rfl ?_
    refine g_iload_n (pc := 14) dc_D_rank_14 rfl ?_
    refine g_ldc (pc := 15) dc_D_rank_15 cs_D_148 ?_
    refine g_aload_n (pc := 17) dc_D_rank_17 rfl ?_
    refine g_getfield (pc := 18) dc_D_rank_18 fl_D_91 hD.1 rfl ?_
    refine g_idiv (pc := 21) (v := (nI (1000000 / n))) dc_D_rank_21 (fun h9 => absurd (congrArg Int32.toInt h9) (by rw [nI_toInt (by omega)]; show ¬ ((n : Int) = 0); omega)) (pk_div (a := 1000000) (d := n) (by omega) (by omega) (by omega)) ?_
    refine q_iastore (pc := 22) t dc_D_rank_22 hg.1 (by omega) (by decide) ?_
    have g1 : fr w w h (h.set 62 (.inl (1, 250, .inl (upd g t (nI (1000000 / n)))))) [62] := fr.st hg.1 rfl hg.2
    have hg1 : iA w (h.set 62 (.inl (1, 250, .inl (upd g t (nI (1000000 / n)))))) 62 250 (upd g t (nI (1000000 / n))) := ⟨am_se (am_lt hg.1), hg.2⟩
    generalize (h.set 62 (.inl (1, 250, .inl (upd g t (nI (1000000 / n)))))) = h1 at g1 hg1 ⊢
    refine g_iinc (pc := 23) (v := (nI (t + 1))) dc_D_rank_23 rfl (nI_add t 1) (by decide) ?_
    show am_G X mt_D_rank _ 26 [some (.ref 59), some (.int v1), some (.int (nI (t + 1))), none] [] _ _
    refine g_goto (pc := 26) (tgt := 2) dc_D_rank_26 rfl ?_
    refine l2_D_rank hn n9 (t + 1) w h1 _ (by omega) (hD.fr g1 (by decide)) hg1 (fun e he => ?_) (fun w2 h2 g2 f1 f2 f3 => KK w2 h2 g2 (g1.tr f1) f2 f3)
    by_cases q : e = t
    · rw [q, upd_s]
    · rw [upd_n q]; exact hs e (by omega)
theorem l38_D_rank (hn : n ≤ 250) : ∀ (n9 t : Nat) (w : Gw) (h : List va_E) (g : Nat → Int32), t + n9 = n → dO w h n → iA w h 74 250 g → (∀ e, e < t → g e = nI (150000 / n)) → (∀ w1 h1 g1, fr w w1 h h1 [74] → iA w1 h1 74 250 g1 → (∀ e, e < n → g1 e = nI (150000 / n)) → am_G X mt_D_rank (d + 1) 65 [some (.ref 59), some (.int v1), some (.int v2), some (.int (nI n))] [] h1 Q) → am_G X mt_D_rank (d + 1) 38 [some (.ref 59), some (.int v1), some (.int v2), some (.int (nI t))] [] h Q
  | 0, t, w, h, g, e9, hD, hg, hs, KK => by
    refine g_iload_n (pc := 38) dc_D_rank_38 rfl ?_
    refine g_aload_n (pc := 39) dc_D_rank_39 rfl ?_
    refine g_getfield (pc := 40) dc_D_rank_40 fl_D_91 hD.1 rfl ?_
    refine q_icmp_ge (pc := 43) (tgt := 65) t n dc_D_rank_43 (by omega) (by omega) rfl (fun hc43 => ?_) (fun hc => absurd hc (by omega))
    rw [show t = n by omega]
    exact KK w h g fr.rf hg (fun e he => hs e (by omega))
  | n9 + 1, t, w, h, g, e9, hD, hg, hs, KK => by
    refine g_iload_n (pc := 38) dc_D_rank_38 rfl ?_
    refine g_aload_n (pc := 39) dc_D_rank_39 rfl ?_
    refine g_getfield (pc := 40) dc_D_rank_40 fl_D_91 hD.1 rfl ?_
    refine q_icmp_ge (pc := 43) (tgt := 65) t n dc_D_rank_43 (by omega) (by omega) rfl (fun hc => absurd hc (by omega)) (fun hc43 => ?_)
    refine g_aload_n (pc := 46) dc_D_rank_46 rfl ?_
    refine g_getfield (pc := 47) dc_D_rank_47 fl_D_57 hD.1 rfl ?_
    refine g_iload_n (pc := 50) dc_D_rank_50 rfl ?_
    refine g_ldc (pc := 51) dc_D_rank_51 cs_D_149 ?_
    refine g_aload_n (pc := 53) dc_D_rank_53 rfl ?_
    refine g_getfield (pc := 54) dc_D_rank_54 fl_D_91 hD.1 rfl ?_
    refine g_idiv (pc := 57) (v := (nI (150000 / n))) dc_D_rank_57 (fun h9 => absurd (congrArg Int32.toInt h9) (by rw [nI_toInt (by omega)]; show ¬ ((n : Int) = 0); omega)) (pk_div (a := 150000) (d := n) (by omega) (by omega) (by omega)) ?_
    refine q_iastore (pc := 58) t dc_D_rank_58 hg.1 (by omega) (by decide) ?_
    have g1 : fr w w h (h.set 74 (.inl (1, 250, .inl (upd g t (nI (150000 / n)))))) [74] := fr.st hg.1 rfl hg.2
    have hg1 : iA w (h.set 74 (.inl (1, 250, .inl (upd g t (nI (150000 / n)))))) 74 250 (upd g t (nI (150000 / n))) := ⟨am_se (am_lt hg.1), hg.2⟩
    generalize (h.set 74 (.inl (1, 250, .inl (upd g t (nI (150000 / n)))))) = h1 at g1 hg1 ⊢
    refine g_iinc (pc := 59) (v := (nI (t + 1))) dc_D_rank_59 rfl (nI_add t 1) (by decide) ?_
    show am_G X mt_D_rank _ 62 [some (.ref 59), some (.int v1), some (.int v2), some (.int (nI (t + 1)))] [] _ _
    refine g_goto (pc := 62) (tgt := 38) dc_D_rank_62 rfl ?_
    refine l38_D_rank hn n9 (t + 1) w h1 _ (by omega) (hD.fr g1 (by decide)) hg1 (fun e he => ?_) (fun w2 h2 g2 f1 f2 f3 => KK w2 h2 g2 (g1.tr f1) f2 f3)
    by_cases q : e = t
    · rw [q, upd_s]
    · rw [upd_n q]; exact hs e (by omega)
theorem l67_D_rank {r : Nat → Nat} {gr : Nat → Int32} (hn : n ≤ 250) (hL : ∀ d, d < n → (L d).Nodup ∧ ∀ x, x ∈ L d → x < n) (hr6 : smN r n ≤ 1000000) (hrN : ∀ e, e < n → gr e = nI (r e)) : ∀ (n9 t : Nat) (w : Gw) (h : List va_E) (g : Nat → Int32), t + n9 = n → dO w h n → lsC w h n L → iA w h 62 250 gr → iA w h 74 250 g → (∀ e, e < n → g e = nI (acR L r n t e)) → (∀ w1 h1 g1, fr w w1 h h1 [74] → iA w1 h1 74 250 g1 → (∀ e, e < n → g1 e = nI (acR L r n n e)) → am_G X mt_D_rank (d + 1) 86 [some (.ref 59), some (.int v1), some (.int v2), some (.int (nI n))] [] h1 Q) → am_G X mt_D_rank (d + 1) 67 [some (.ref 59), some (.int v1), some (.int v2), some (.int (nI t))] [] h Q
  | 0, t, w, h, g, e9, hD, hl, hr, hg, hs, KK => by
    have et : t = n := by omega
    refine g_iload_n (pc := 67) dc_D_rank_67 rfl ?_
    refine g_aload_n (pc := 68) dc_D_rank_68 rfl ?_
    refine g_getfield (pc := 69) dc_D_rank_69 fl_D_91 hD.1 rfl ?_
    refine q_icmp_ge (pc := 72) (tgt := 86) t n dc_D_rank_72 (by omega) (by omega) rfl (fun hc72 => ?_) (fun hc => absurd hc (by omega))
    rw [et] at hs ⊢
    exact KK w h g fr.rf hg hs
  | n9 + 1, t, w, h, g, e9, hD, hl, hr, hg, hs, KK => by
    have htn : t < n := by omega
    have hl0 := hl
    obtain ⟨gt, gl, a1, a2, a3⟩ := hl
    obtain ⟨b1x, b2, b3, b4, b5⟩ := a3 t htn
    have hrt : r t ≤ 1000000 := Nat.le_trans (smN_le htn) hr6
    refine g_iload_n (pc := 67) dc_D_rank_67 rfl ?_
    refine g_aload_n (pc := 68) dc_D_rank_68 rfl ?_
    refine g_getfield (pc := 69) dc_D_rank_69 fl_D_91 hD.1 rfl ?_
    refine q_icmp_ge (pc := 72) (tgt := 86) t n dc_D_rank_72 (by omega) (by omega) rfl (fun hc => absurd hc (by omega)) (fun hc72 => ?_)
    refine g_aload_n (pc := 75) dc_D_rank_75 rfl ?_
    refine g_iload_n (pc := 76) dc_D_rank_76 rfl ?_
    refine g_v1 (pc := 77) (M' := mt_D_handOnRank) dc_D_rank_77 mo_D_handOnRank im_D_handOnRank se_D_handOnRank ln_D_150 hD.1 rfl rfl (Nat.le_of_ble_eq_true rfl) (Nat.le_of_ble_eq_true rfl) (am_G.mono (w_D_handOnRank (d := d) (a := acR L r n t) (by omega) b3 b4 b5 hn b1x b2 (hrN t htn) hrt (fun e he => Nat.le_trans (Nat.le_trans (smN_le he) (acR_6 hL hr6 (by omega))) (by omega)) hD a1 a2 hr hg hs) ?_)
    intro r1 h1 hz
    obtain ⟨y1, w1, g1, g2, y2, y3⟩ := hz
    rw [y1]
    clear y1 r1
    refine ⟨am_nt0, ?_⟩
    refine g_iinc (pc := 80) (v := (nI (t + 1))) dc_D_rank_80 rfl (nI_add t 1) (by decide) ?_
    show am_G X mt_D_rank _ 83 [some (.ref 59), some (.int v1), some (.int v2), some (.int (nI (t + 1)))] [] _ _
    refine g_goto (pc := 83) (tgt := 67) dc_D_rank_83 rfl ?_
    exact l67_D_rank hn hL hr6 hrN n9 (t + 1) w1 h1 g2 (by omega) (hD.fr g1 (by decide)) (hl0.fr g1 (by decide) (by decide)) (hr.fr g1 (by decide)) y2 (fun e he => y3 e he) (fun w2 h2 g3 f1 f2 f3 => KK w2 h2 g3 (g1.tr f1) f2 f3)
end FES
