/-! ===== the class ranks documents: the rounds ===== -/
section FFS
variable {X : am_X} {d n t dd k p : Nat} {w w0 w1 : Gw} {h h0 h1 : List va_E} {L : Nat → List Nat}
theorem lsC_nd (z : lsC w h n L) : ∀ d, d < n → (L d).Nodup ∧ ∀ x, x ∈ L d → x < n := by
  obtain ⟨gt, gl, a1, a2, a3⟩ := z
  exact fun d hd => ⟨(a3 d hd).2.2.2.1, (a3 d hd).2.2.2.2⟩
theorem l31_D_rank (hn : n ≤ 250) (hp : p ≤ 50) : ∀ (n9 k : Nat) (w : Gw) (h : List va_E), k + n9 = p → dO w h n → lsC w h n L → (∃ gr, iA w h 62 250 gr ∧ ∀ e, e < n → gr e = nI (rkS L n k e)) → (∃ g, iA w h 74 250 g) → am_G X mt_D_rank (d + 1) 31 [some (.ref 59), some (.int (nI p)), some (.int (nI k)), none] [] h (fun r h1 => r = none ∧ ∃ w1, fr w w1 h h1 [62, 74] ∧ ∃ gr, iA w1 h1 62 250 gr ∧ (∀ e, e < n → gr e = nI (rkS L n p e)) ∧ ∃ g, iA w1 h1 74 250 g)
  | 0, k, w, h, e9, hD, hl, hr, hg => by
    obtain ⟨gr, hr1, hr2⟩ := hr
    refine g_iload_n (pc := 31) dc_D_rank_31 rfl ?_
    refine g_iload_n (pc := 32) dc_D_rank_32 rfl ?_
    refine q_icmp_ge (pc := 33) (tgt := 109) k p dc_D_rank_33 (by omega) (by omega) rfl (fun hc33 => ?_) (fun hc => absurd hc (by omega))
    exact g_return dc_D_rank_109 rfl ⟨rfl, w, fr.rf, gr, hr1, by rw [← show k = p by omega]; exact hr2, hg⟩
  | n9 + 1, k, w, h, e9, hD, hl, hr, hg => by
    obtain ⟨gr, hr1, hr2⟩ := hr
    obtain ⟨g, hg⟩ := hg
    have hL := lsC_nd hl
    refine g_iload_n (pc := 31) dc_D_rank_31 rfl ?_
    refine g_iload_n (pc := 32) dc_D_rank_32 rfl ?_
    refine q_icmp_ge (pc := 33) (tgt := 109) k p dc_D_rank_33 (by omega) (by omega) rfl (fun hc => absurd hc (by omega)) (fun hc33 => ?_)
    refine g_iconst (pc := 36) (v := 0) dc_D_rank_36 rfl ?_
    refine g_istore_n (pc := 37) dc_D_rank_37 (by decide) ?_
    show am_G X mt_D_rank _ 38 [some (.ref 59), some (.int (nI p)), some (.int (nI k)), some (.int 0)] [] _ _
    refine l38_D_rank (v1 := nI p) (v2 := nI k) hn n 0 w h g (Nat.zero_add _) hD hg (fun e he => absurd he (Nat.not_lt_zero e)) (fun w1 h1 g1 f1 f2 f3 => ?_)
    have hD1 := hD.fr f1 (by decide)
    refine g_iconst (pc := 65) (v := 0) dc_D_rank_65 rfl ?_
    refine g_istore_n (pc := 66) dc_D_rank_66 (by decide) ?_
    show am_G X mt_D_rank _ 67 [some (.ref 59), some (.int (nI p)), some (.int (nI k)), some (.int 0)] [] _ _
    refine l67_D_rank (v1 := nI p) (v2 := nI k) (L := L) (r := rkS L n k) (gr := gr) hn hL (rkS_6 hL k) hr2 n 0 w1 h1 g1 (Nat.zero_add _) hD1 (hl.fr f1 (by decide) (by decide)) (hr1.fr f1 (by decide)) f2 f3 (fun w2 h2 g2 e1 e2 e3 => ?_)
    have hD2 := hD1.fr e1 (by decide)
    have hr3 := (hr1.fr f1 (by decide)).fr e1 (by decide)
    refine g_aload_n (pc := 86) dc_D_rank_86 rfl ?_
    refine g_getfield (pc := 87) dc_D_rank_87 fl_D_57 hD2.1 rfl ?_
    refine g_iconst (pc := 90) (v := 0) dc_D_rank_90 rfl ?_
    refine g_aload_n (pc := 91) dc_D_rank_91 rfl ?_
    refine g_getfield (pc := 92) dc_D_rank_92 fl_D_21 hD2.1 rfl ?_
    refine g_iconst (pc := 95) (v := 0) dc_D_rank_95 rfl ?_
    refine g_aload_n (pc := 96) dc_D_rank_96 rfl ?_
    refine g_getfield (pc := 97) dc_D_rank_97 fl_D_91 hD2.1 rfl ?_
    refine g_arraycopy (pc := 100) (a := 74) (b := 62) (t := 1) (sp := 0) (dp := 0) (n := n) (n0 := 250) (n1 := 250) dc_D_rank_100 (am_t6 226 rfl rfl) rfl rfl e2.1 hr3.1 (by omega) (by omega) (by decide) (fun i _ => fits_i _) (Nat.le_of_ble_eq_true rfl) ?_
    have g3 : fr w2 w2 h2 (h2.set 62 (.inl (1, 250, .inl (va_cpy g2 gr 0 0 n)))) [62] := fr.st hr3.1 rfl hr3.2
    have hr4 : iA w2 (h2.set 62 (.inl (1, 250, .inl (va_cpy g2 gr 0 0 n)))) 62 250 (va_cpy g2 gr 0 0 n) := ⟨am_se (am_lt hr3.1), hr3.2⟩
    generalize (h2.set 62 (.inl (1, 250, .inl (va_cpy g2 gr 0 0 n)))) = h3 at g3 hr4 ⊢
    have G3 : fr w w2 h h3 [62, 74] := ((f1.mo (by decide)).tr (e1.mo (by decide))).tr (g3.mo (by decide))
    refine g_iinc (pc := 103) (v := (nI (k + 1))) dc_D_rank_103 rfl (nI_add k 1) (by decide) ?_
    show am_G X mt_D_rank _ 106 [some (.ref 59), some (.int (nI p)), some (.int (nI (k + 1))), some (.int (nI n))] [] _ _
    refine g_goto (pc := 106) (tgt := 31) dc_D_rank_106 rfl ?_
    refine am_wk (am_le_s (am_le_s (am_le_s (am_le_n am_le_0)))) ?_
    refine am_G.mono (l31_D_rank hn hp n9 (k + 1) w2 h3 (by omega) (hD.fr G3 (by decide)) (hl.fr G3 (by decide) (by decide)) ⟨_, hr4, fun e he => (cpy_0 he).trans (e3 e he)⟩ ⟨g2, e2.fr g3 (by decide)⟩) (fun r h9 hz => ?_)
    obtain ⟨y1, w9, y2, y3⟩ := hz
    exact ⟨y1, w9, G3.tr y2, y3⟩
theorem w_D_rank (hn : n ≤ 250) (hp : p ≤ 50) (hD : dO w h n) (hl : lsC w h n L) (hr : ∃ g, iA w h 62 250 g) (hg : ∃ g, iA w h 74 250 g) : am_C X mt_D_rank (d + 1) [.ref 59, .int (nI p)] h (fun r h1 => r = none ∧ ∃ w1, fr w w1 h h1 [62, 74] ∧ ∃ gr, iA w1 h1 62 250 gr ∧ (∀ e, e < n → gr e = nI (rkS L n p e)) ∧ ∃ g, iA w1 h1 74 250 g) := by
  show am_G X mt_D_rank (d + 1) 0 [some (.ref 59), some (.int (nI p)), none, none] [] h _
  obtain ⟨g0, hr⟩ := hr
  refine g_iconst (pc := 0) (v := 0) dc_D_rank_0 rfl ?_
  refine g_istore_n (pc := 1) dc_D_rank_1 (by decide) ?_
  show am_G X mt_D_rank _ 2 [some (.ref 59), some (.int (nI p)), some (.int 0), none] [] _ _
  refine l2_D_rank (v1 := nI p) hn n 0 w h g0 (Nat.zero_add _) hD hr (fun e he => absurd he (Nat.not_lt_zero e)) (fun w1 h1 g1 f1 f2 f3 => ?_)
  have hD1 := hD.fr f1 (by decide)
  refine g_iconst (pc := 29) (v := 0) dc_D_rank_29 rfl ?_
  refine g_istore_n (pc := 30) dc_D_rank_30 (by decide) ?_
  show am_G X mt_D_rank _ 31 [some (.ref 59), some (.int (nI p)), some (.int 0), none] [] _ _
  obtain ⟨g9, hg9⟩ := hg
  refine am_G.mono (l31_D_rank (L := L) hn hp p 0 w1 h1 (Nat.zero_add _) hD1 (hl.fr f1 (by decide) (by decide)) ⟨g1, f2, f3⟩ ⟨g9, hg9.fr f1 (by decide)⟩) (fun r h9 hz => ?_)
  obtain ⟨y1, w9, y2, y3⟩ := hz
  exact ⟨y1, w9, (f1.mo (by decide)).tr y2, y3⟩
end FFS
