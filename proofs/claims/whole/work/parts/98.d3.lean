/-! ===== the class saves and loses; a site rests; an asking is noted ===== -/
theorem cpy_0 {f g : Nat → Int32} {n i : Nat} (h : i < n) : va_cpy f g 0 0 n i = f i := by
  unfold va_cpy
  rw [if_pos ⟨Nat.zero_le _, by omega⟩, Nat.sub_zero, Nat.zero_add]
theorem fits_i (v : Int32) : fits .int (.int v) = true := rfl
section D3S
variable {X : am_X} {d i c k q s f t n : Nat} {M D : List Int32} {K V : Kn} {lim : Nat → Nat} {w0 : Gw} {h0 : List va_E} {st9 : Bool} {ck an sv sn : Nat} {cr : Option Nat}
theorem w_C_copyMarks_39 (hO_0 : cO w0 h0 34 34 (cr7 st9 ck an sv sn cr)) (ga_0 : gr4 w0 h0 39) (gb_0 : gr4 w0 h0 54) (hs : mk4 w0 h0 39 K) (hd : mk4 w0 h0 54 V) (hsv : K.ad.length = sv) (h250 : sv ≤ 250) : am_C X mt_C_copyMarks (d + 1) [.ref 34, .ref 39, .ref 54] h0 (fun r h1 => r = none ∧ ∃ w1, fr w0 w1 h0 h1 [55, 56, 57, 58] ∧ mk4 w1 h1 54 K) := by
  show am_G X mt_C_copyMarks (d + 1) 0 [some (.ref 34), some (.ref 39), some (.ref 54), none] [] h0 _
  obtain ⟨z0, z1, z2, z3, s0_0, s1_0, s2_0, s3_0, hsP⟩ := hs
  obtain ⟨y0, y1, y2, y3, t0_0, t1_0, t2_0, t3_0, -⟩ := hd
  have G0 : fr w0 w0 h0 h0 [55, 56, 57, 58] := fr.rf
  refine g_iconst (pc := 0) (v := 0) dc_C_copyMarks_0 rfl ?_
  refine g_istore_n (pc := 1) dc_C_copyMarks_1 (by decide) ?_
  show am_G X mt_C_copyMarks _ 2 [some (.ref 34), some (.ref 39), some (.ref 54), some (.int 0)] [] _ _
  refine g_iload_n (pc := 2) dc_C_copyMarks_2 rfl ?_
  refine g_iconst (pc := 3) (v := 4) dc_C_copyMarks_3 rfl ?_
  refine g_icmp_ge (pc := 4) (tgt := 28) dc_C_copyMarks_4 rfl (fun hc => absurd hc (by decide)) (fun _ => ?_)
  refine g_aload_n (pc := 7) dc_C_copyMarks_7 rfl ?_
  refine g_iload_n (pc := 8) dc_C_copyMarks_8 rfl ?_
  refine q_aaloadI (pc := 9) (k := 40) 0 dc_C_copyMarks_9 ga_0.1 (by decide) (by decide) rfl ?_
  refine g_iconst (pc := 10) (v := 0) dc_C_copyMarks_10 rfl ?_
  refine g_aload_n (pc := 11) dc_C_copyMarks_11 rfl ?_
  refine g_iload_n (pc := 12) dc_C_copyMarks_12 rfl ?_
  refine q_aaloadI (pc := 13) (k := 55) 0 dc_C_copyMarks_13 gb_0.1 (by decide) (by decide) rfl ?_
  refine g_iconst (pc := 14) (v := 0) dc_C_copyMarks_14 rfl ?_
  refine g_aload_n (pc := 15) dc_C_copyMarks_15 rfl ?_
  refine g_getfield (pc := 16) dc_C_copyMarks_16 fl_C_215 hO_0.1 rfl ?_
  refine g_arraycopy (pc := 19) (a := 40) (b := 55) (t := 1) (sp := 0) (dp := 0) (n := sv) (n0 := 250) (n1 := 250) dc_C_copyMarks_19 (am_t6 61 rfl rfl) rfl rfl s0_0.1 t0_0.1 (by omega) (by omega) (by decide) (fun i _ => fits_i _) (Nat.le_of_ble_eq_true rfl) ?_
  have g1 : fr w0 w0 h0 (h0.set 55 (.inl (1, 250, .inl (va_cpy z0 y0 0 0 sv)))) [55] := fr.st t0_0.1 rfl t0_0.2
  have t0_1 : iA w0 (h0.set 55 (.inl (1, 250, .inl (va_cpy z0 y0 0 0 sv)))) 55 250 (va_cpy z0 y0 0 0 sv) := ⟨am_se (am_lt t0_0.1), t0_0.2⟩
  obtain ⟨w1, hw1⟩ : ∃ w9, w9 = w0 := ⟨_, rfl⟩
  generalize (h0.set 55 (.inl (1, 250, .inl (va_cpy z0 y0 0 0 sv)))) = h1 at g1 t0_1 ⊢
  have g1 : fr w0 w1 h0 h1 [55] := by rw [hw1]; exact g1
  have t0_1 : iA w1 h1 55 250 (va_cpy z0 y0 0 0 sv) := by rw [hw1]; exact t0_1
  have hO_1 := hO_0.fr g1 (by decide)
  have ga_1 := ga_0.fr g1 (by decide)
  have gb_1 := gb_0.fr g1 (by decide)
  have s0_1 := s0_0.fr g1 (by decide)
  have s1_1 := s1_0.fr g1 (by decide)
  have t1_1 := t1_0.fr g1 (by decide)
  have s2_1 := s2_0.fr g1 (by decide)
  have t2_1 := t2_0.fr g1 (by decide)
  have s3_1 := s3_0.fr g1 (by decide)
  have t3_1 := t3_0.fr g1 (by decide)
  have G1 := G0.tr (g1.mo (by decide : ∀ x, x ∈ [55] → x ∈ [55, 56, 57, 58]))
  refine g_iinc (pc := 22) (v := 1) dc_C_copyMarks_22 rfl (by decide) (by decide) ?_
  show am_G X mt_C_copyMarks _ 25 [some (.ref 34), some (.ref 39), some (.ref 54), some (.int 1)] [] _ _
  refine g_goto (pc := 25) (tgt := 2) dc_C_copyMarks_25 rfl ?_
  refine g_iload_n (pc := 2) dc_C_copyMarks_2 rfl ?_
  refine g_iconst (pc := 3) (v := 4) dc_C_copyMarks_3 rfl ?_
  refine g_icmp_ge (pc := 4) (tgt := 28) dc_C_copyMarks_4 rfl (fun hc => absurd hc (by decide)) (fun _ => ?_)
  refine g_aload_n (pc := 7) dc_C_copyMarks_7 rfl ?_
  refine g_iload_n (pc := 8) dc_C_copyMarks_8 rfl ?_
  refine q_aaloadI (pc := 9) (k := 41) 1 dc_C_copyMarks_9 ga_1.1 (by decide) (by decide) rfl ?_
  refine g_iconst (pc := 10) (v := 0) dc_C_copyMarks_10 rfl ?_
  refine g_aload_n (pc := 11) dc_C_copyMarks_11 rfl ?_
  refine g_iload_n (pc := 12) dc_C_copyMarks_12 rfl ?_
  refine q_aaloadI (pc := 13) (k := 56) 1 dc_C_copyMarks_13 gb_1.1 (by decide) (by decide) rfl ?_
  refine g_iconst (pc := 14) (v := 0) dc_C_copyMarks_14 rfl ?_
  refine g_aload_n (pc := 15) dc_C_copyMarks_15 rfl ?_
  refine g_getfield (pc := 16) dc_C_copyMarks_16 fl_C_215 hO_1.1 rfl ?_
  refine g_arraycopy (pc := 19) (a := 41) (b := 56) (t := 1) (sp := 0) (dp := 0) (n := sv) (n0 := 250) (n1 := 250) dc_C_copyMarks_19 (am_t6 61 rfl rfl) rfl rfl s1_1.1 t1_1.1 (by omega) (by omega) (by decide) (fun i _ => fits_i _) (Nat.le_of_ble_eq_true rfl) ?_
  have g2 : fr w1 w1 h1 (h1.set 56 (.inl (1, 250, .inl (va_cpy z1 y1 0 0 sv)))) [56] := fr.st t1_1.1 rfl t1_1.2
  have t1_2 : iA w1 (h1.set 56 (.inl (1, 250, .inl (va_cpy z1 y1 0 0 sv)))) 56 250 (va_cpy z1 y1 0 0 sv) := ⟨am_se (am_lt t1_1.1), t1_1.2⟩
  obtain ⟨w2, hw2⟩ : ∃ w9, w9 = w1 := ⟨_, rfl⟩
  generalize (h1.set 56 (.inl (1, 250, .inl (va_cpy z1 y1 0 0 sv)))) = h2 at g2 t1_2 ⊢
  have g2 : fr w1 w2 h1 h2 [56] := by rw [hw2]; exact g2
  have t1_2 : iA w2 h2 56 250 (va_cpy z1 y1 0 0 sv) := by rw [hw2]; exact t1_2
  have hO_2 := hO_1.fr g2 (by decide)
  have ga_2 := ga_1.fr g2 (by decide)
  have gb_2 := gb_1.fr g2 (by decide)
  have s0_2 := s0_1.fr g2 (by decide)
  have t0_2 := t0_1.fr g2 (by decide)
  have s1_2 := s1_1.fr g2 (by decide)
  have s2_2 := s2_1.fr g2 (by decide)
  have t2_2 := t2_1.fr g2 (by decide)
  have s3_2 := s3_1.fr g2 (by decide)
  have t3_2 := t3_1.fr g2 (by decide)
  have G2 := G1.tr (g2.mo (by decide : ∀ x, x ∈ [56] → x ∈ [55, 56, 57, 58]))
  refine g_iinc (pc := 22) (v := 2) dc_C_copyMarks_22 rfl (by decide) (by decide) ?_
  show am_G X mt_C_copyMarks _ 25 [some (.ref 34), some (.ref 39), some (.ref 54), some (.int 2)] [] _ _
  refine g_goto (pc := 25) (tgt := 2) dc_C_copyMarks_25 rfl ?_
  refine g_iload_n (pc := 2) dc_C_copyMarks_2 rfl ?_
  refine g_iconst (pc := 3) (v := 4) dc_C_copyMarks_3 rfl ?_
  refine g_icmp_ge (pc := 4) (tgt := 28) dc_C_copyMarks_4 rfl (fun hc => absurd hc (by decide)) (fun _ => ?_)
  refine g_aload_n (pc := 7) dc_C_copyMarks_7 rfl ?_
  refine g_iload_n (pc := 8) dc_C_copyMarks_8 rfl ?_
  refine q_aaloadI (pc := 9) (k := 42) 2 dc_C_copyMarks_9 ga_2.1 (by decide) (by decide) rfl ?_
  refine g_iconst (pc := 10) (v := 0) dc_C_copyMarks_10 rfl ?_
  refine g_aload_n (pc := 11) dc_C_copyMarks_11 rfl ?_
  refine g_iload_n (pc := 12) dc_C_copyMarks_12 rfl ?_
  refine q_aaloadI (pc := 13) (k := 57) 2 dc_C_copyMarks_13 gb_2.1 (by decide) (by decide) rfl ?_
  refine g_iconst (pc := 14) (v := 0) dc_C_copyMarks_14 rfl ?_
  refine g_aload_n (pc := 15) dc_C_copyMarks_15 rfl ?_
  refine g_getfield (pc := 16) dc_C_copyMarks_16 fl_C_215 hO_2.1 rfl ?_
  refine g_arraycopy (pc := 19) (a := 42) (b := 57) (t := 1) (sp := 0) (dp := 0) (n := sv) (n0 := 250) (n1 := 250) dc_C_copyMarks_19 (am_t6 61 rfl rfl) rfl rfl s2_2.1 t2_2.1 (by omega) (by omega) (by decide) (fun i _ => fits_i _) (Nat.le_of_ble_eq_true rfl) ?_
  have g3 : fr w2 w2 h2 (h2.set 57 (.inl (1, 250, .inl (va_cpy z2 y2 0 0 sv)))) [57] := fr.st t2_2.1 rfl t2_2.2
  have t2_3 : iA w2 (h2.set 57 (.inl (1, 250, .inl (va_cpy z2 y2 0 0 sv)))) 57 250 (va_cpy z2 y2 0 0 sv) := ⟨am_se (am_lt t2_2.1), t2_2.2⟩
  obtain ⟨w3, hw3⟩ : ∃ w9, w9 = w2 := ⟨_, rfl⟩
  generalize (h2.set 57 (.inl (1, 250, .inl (va_cpy z2 y2 0 0 sv)))) = h3 at g3 t2_3 ⊢
  have g3 : fr w2 w3 h2 h3 [57] := by rw [hw3]; exact g3
  have t2_3 : iA w3 h3 57 250 (va_cpy z2 y2 0 0 sv) := by rw [hw3]; exact t2_3
  have hO_3 := hO_2.fr g3 (by decide)
  have ga_3 := ga_2.fr g3 (by decide)
  have gb_3 := gb_2.fr g3 (by decide)
  have s0_3 := s0_2.fr g3 (by decide)
  have t0_3 := t0_2.fr g3 (by decide)
  have s1_3 := s1_2.fr g3 (by decide)
  have t1_3 := t1_2.fr g3 (by decide)
  have s2_3 := s2_2.fr g3 (by decide)
  have s3_3 := s3_2.fr g3 (by decide)
  have t3_3 := t3_2.fr g3 (by decide)
  have G3 := G2.tr (g3.mo (by decide : ∀ x, x ∈ [57] → x ∈ [55, 56, 57, 58]))
  refine g_iinc (pc := 22) (v := 3) dc_C_copyMarks_22 rfl (by decide) (by decide) ?_
  show am_G X mt_C_copyMarks _ 25 [some (.ref 34), some (.ref 39), some (.ref 54), some (.int 3)] [] _ _
  refine g_goto (pc := 25) (tgt := 2) dc_C_copyMarks_25 rfl ?_
  refine g_iload_n (pc := 2) dc_C_copyMarks_2 rfl ?_
  refine g_iconst (pc := 3) (v := 4) dc_C_copyMarks_3 rfl ?_
  refine g_icmp_ge (pc := 4) (tgt := 28) dc_C_copyMarks_4 rfl (fun hc => absurd hc (by decide)) (fun _ => ?_)
  refine g_aload_n (pc := 7) dc_C_copyMarks_7 rfl ?_
  refine g_iload_n (pc := 8) dc_C_copyMarks_8 rfl ?_
  refine q_aaloadI (pc := 9) (k := 43) 3 dc_C_copyMarks_9 ga_3.1 (by decide) (by decide) rfl ?_
  refine g_iconst (pc := 10) (v := 0) dc_C_copyMarks_10 rfl ?_
  refine g_aload_n (pc := 11) dc_C_copyMarks_11 rfl ?_
  refine g_iload_n (pc := 12) dc_C_copyMarks_12 rfl ?_
  refine q_aaloadI (pc := 13) (k := 58) 3 dc_C_copyMarks_13 gb_3.1 (by decide) (by decide) rfl ?_
  refine g_iconst (pc := 14) (v := 0) dc_C_copyMarks_14 rfl ?_
  refine g_aload_n (pc := 15) dc_C_copyMarks_15 rfl ?_
  refine g_getfield (pc := 16) dc_C_copyMarks_16 fl_C_215 hO_3.1 rfl ?_
  refine g_arraycopy (pc := 19) (a := 43) (b := 58) (t := 1) (sp := 0) (dp := 0) (n := sv) (n0 := 250) (n1 := 250) dc_C_copyMarks_19 (am_t6 61 rfl rfl) rfl rfl s3_3.1 t3_3.1 (by omega) (by omega) (by decide) (fun i _ => fits_i _) (Nat.le_of_ble_eq_true rfl) ?_
  have g4 : fr w3 w3 h3 (h3.set 58 (.inl (1, 250, .inl (va_cpy z3 y3 0 0 sv)))) [58] := fr.st t3_3.1 rfl t3_3.2
  have t3_4 : iA w3 (h3.set 58 (.inl (1, 250, .inl (va_cpy z3 y3 0 0 sv)))) 58 250 (va_cpy z3 y3 0 0 sv) := ⟨am_se (am_lt t3_3.1), t3_3.2⟩
  obtain ⟨w4, hw4⟩ : ∃ w9, w9 = w3 := ⟨_, rfl⟩
  generalize (h3.set 58 (.inl (1, 250, .inl (va_cpy z3 y3 0 0 sv)))) = h4 at g4 t3_4 ⊢
  have g4 : fr w3 w4 h3 h4 [58] := by rw [hw4]; exact g4
  have t3_4 : iA w4 h4 58 250 (va_cpy z3 y3 0 0 sv) := by rw [hw4]; exact t3_4
  have hO_4 := hO_3.fr g4 (by decide)
  have ga_4 := ga_3.fr g4 (by decide)
  have gb_4 := gb_3.fr g4 (by decide)
  have s0_4 := s0_3.fr g4 (by decide)
  have t0_4 := t0_3.fr g4 (by decide)
  have s1_4 := s1_3.fr g4 (by decide)
  have t1_4 := t1_3.fr g4 (by decide)
  have s2_4 := s2_3.fr g4 (by decide)
  have t2_4 := t2_3.fr g4 (by decide)
  have s3_4 := s3_3.fr g4 (by decide)
  have G4 := G3.tr (g4.mo (by decide : ∀ x, x ∈ [58] → x ∈ [55, 56, 57, 58]))
  refine g_iinc (pc := 22) (v := 4) dc_C_copyMarks_22 rfl (by decide) (by decide) ?_
  show am_G X mt_C_copyMarks _ 25 [some (.ref 34), some (.ref 39), some (.ref 54), some (.int 4)] [] _ _
  refine g_goto (pc := 25) (tgt := 2) dc_C_copyMarks_25 rfl ?_
  refine g_iload_n (pc := 2) dc_C_copyMarks_2 rfl ?_
  refine g_iconst (pc := 3) (v := 4) dc_C_copyMarks_3 rfl ?_
  refine g_icmp_ge (pc := 4) (tgt := 28) dc_C_copyMarks_4 rfl (fun _ => ?_) (fun hc => absurd hc (by decide))
  exact g_return dc_C_copyMarks_28 rfl ⟨rfl, w4, G4, _, _, _, _, t0_4, t1_4, t2_4, t3_4, fun i hi => by rw [cpy_0 (by omega), cpy_0 (by omega), cpy_0 (by omega), cpy_0 (by omega)]; exact hsP i hi⟩
theorem w_C_copyMarks_54 (hO_0 : cO w0 h0 34 34 (cr7 st9 ck an sv sn cr)) (ga_0 : gr4 w0 h0 54) (gb_0 : gr4 w0 h0 39) (hs : mk4 w0 h0 54 K) (hd : mk4 w0 h0 39 V) (hsv : K.ad.length = sv) (h250 : sv ≤ 250) : am_C X mt_C_copyMarks (d + 1) [.ref 34, .ref 54, .ref 39] h0 (fun r h1 => r = none ∧ ∃ w1, fr w0 w1 h0 h1 [40, 41, 42, 43] ∧ mk4 w1 h1 39 K) := by
  show am_G X mt_C_copyMarks (d + 1) 0 [some (.ref 34), some (.ref 54), some (.ref 39), none] [] h0 _
  obtain ⟨z0, z1, z2, z3, s0_0, s1_0, s2_0, s3_0, hsP⟩ := hs
  obtain ⟨y0, y1, y2, y3, t0_0, t1_0, t2_0, t3_0, -⟩ := hd
  have G0 : fr w0 w0 h0 h0 [40, 41, 42, 43] := fr.rf
  refine g_iconst (pc := 0) (v := 0) dc_C_copyMarks_0 rfl ?_
  refine g_istore_n (pc := 1) dc_C_copyMarks_1 (by decide) ?_
  show am_G X mt_C_copyMarks _ 2 [some (.ref 34), some (.ref 54), some (.ref 39), some (.int 0)] [] _ _
  refine g_iload_n (pc := 2) dc_C_copyMarks_2 rfl ?_
  refine g_iconst (pc := 3) (v := 4) dc_C_copyMarks_3 rfl ?_
  refine g_icmp_ge (pc := 4) (tgt := 28) dc_C_copyMarks_4 rfl (fun hc => absurd hc (by decide)) (fun _ => ?_)
  refine g_aload_n (pc := 7) dc_C_copyMarks_7 rfl ?_
  refine g_iload_n (pc := 8) dc_C_copyMarks_8 rfl ?_
  refine q_aaloadI (pc := 9) (k := 55) 0 dc_C_copyMarks_9 ga_0.1 (by decide) (by decide) rfl ?_
  refine g_iconst (pc := 10) (v := 0) dc_C_copyMarks_10 rfl ?_
  refine g_aload_n (pc := 11) dc_C_copyMarks_11 rfl ?_
  refine g_iload_n (pc := 12) dc_C_copyMarks_12 rfl ?_
  refine q_aaloadI (pc := 13) (k := 40) 0 dc_C_copyMarks_13 gb_0.1 (by decide) (by decide) rfl ?_
  refine g_iconst (pc := 14) (v := 0) dc_C_copyMarks_14 rfl ?_
  refine g_aload_n (pc := 15) dc_C_copyMarks_15 rfl ?_
  refine g_getfield (pc := 16) dc_C_copyMarks_16 fl_C_215 hO_0.1 rfl ?_
  refine g_arraycopy (pc := 19) (a := 55) (b := 40) (t := 1) (sp := 0) (dp := 0) (n := sv) (n0 := 250) (n1 := 250) dc_C_copyMarks_19 (am_t6 61 rfl rfl) rfl rfl s0_0.1 t0_0.1 (by omega) (by omega) (by decide) (fun i _ => fits_i _) (Nat.le_of_ble_eq_true rfl) ?_
  have g1 : fr w0 w0 h0 (h0.set 40 (.inl (1, 250, .inl (va_cpy z0 y0 0 0 sv)))) [40] := fr.st t0_0.1 rfl t0_0.2
  have t0_1 : iA w0 (h0.set 40 (.inl (1, 250, .inl (va_cpy z0 y0 0 0 sv)))) 40 250 (va_cpy z0 y0 0 0 sv) := ⟨am_se (am_lt t0_0.1), t0_0.2⟩
  obtain ⟨w1, hw1⟩ : ∃ w9, w9 = w0 := ⟨_, rfl⟩
  generalize (h0.set 40 (.inl (1, 250, .inl (va_cpy z0 y0 0 0 sv)))) = h1 at g1 t0_1 ⊢
  have g1 : fr w0 w1 h0 h1 [40] := by rw [hw1]; exact g1
  have t0_1 : iA w1 h1 40 250 (va_cpy z0 y0 0 0 sv) := by rw [hw1]; exact t0_1
  have hO_1 := hO_0.fr g1 (by decide)
  have ga_1 := ga_0.fr g1 (by decide)
  have gb_1 := gb_0.fr g1 (by decide)
  have s0_1 := s0_0.fr g1 (by decide)
  have s1_1 := s1_0.fr g1 (by decide)
  have t1_1 := t1_0.fr g1 (by decide)
  have s2_1 := s2_0.fr g1 (by decide)
  have t2_1 := t2_0.fr g1 (by decide)
  have s3_1 := s3_0.fr g1 (by decide)
  have t3_1 := t3_0.fr g1 (by decide)
  have G1 := G0.tr (g1.mo (by decide : ∀ x, x ∈ [40] → x ∈ [40, 41, 42, 43]))
  refine g_iinc (pc := 22) (v := 1) dc_C_copyMarks_22 rfl (by decide) (by decide) ?_
  show am_G X mt_C_copyMarks _ 25 [some (.ref 34), some (.ref 54), some (.ref 39), some (.int 1)] [] _ _
  refine g_goto (pc := 25) (tgt := 2) dc_C_copyMarks_25 rfl ?_
  refine g_iload_n (pc := 2) dc_C_copyMarks_2 rfl ?_
  refine g_iconst (pc := 3) (v := 4) dc_C_copyMarks_3 rfl ?_
  refine g_icmp_ge (pc := 4) (tgt := 28) dc_C_copyMarks_4 rfl (fun hc => absurd hc (by decide)) (fun _ => ?_)
  refine g_aload_n (pc := 7) dc_C_copyMarks_7 rfl ?_
  refine g_iload_n (pc := 8) dc_C_copyMarks_8 rfl ?_
  refine q_aaloadI (pc := 9) (k := 56) 1 dc_C_copyMarks_9 ga_1.1 (by decide) (by decide) rfl ?_
  refine g_iconst (pc := 10) (v := 0) dc_C_copyMarks_10 rfl ?_
  refine g_aload_n (pc := 11) dc_C_copyMarks_11 rfl ?_
  refine g_iload_n (pc := 12) dc_C_copyMarks_12 rfl ?_
  refine q_aaloadI (pc := 13) (k := 41) 1 dc_C_copyMarks_13 gb_1.1 (by decide) (by decide) rfl ?_
  refine g_iconst (pc := 14) (v := 0) dc_C_copyMarks_14 rfl ?_
  refine g_aload_n (pc := 15) dc_C_copyMarks_15 rfl ?_
  refine g_getfield (pc := 16) dc_C_copyMarks_16 fl_C_215 hO_1.1 rfl ?_
  refine g_arraycopy (pc := 19) (a := 56) (b := 41) (t := 1) (sp := 0) (dp := 0) (n := sv) (n0 := 250) (n1 := 250) dc_C_copyMarks_19 (am_t6 61 rfl rfl) rfl rfl s1_1.1 t1_1.1 (by omega) (by omega) (by decide) (fun i _ => fits_i _) (Nat.le_of_ble_eq_true rfl) ?_
  have g2 : fr w1 w1 h1 (h1.set 41 (.inl (1, 250, .inl (va_cpy z1 y1 0 0 sv)))) [41] := fr.st t1_1.1 rfl t1_1.2
  have t1_2 : iA w1 (h1.set 41 (.inl (1, 250, .inl (va_cpy z1 y1 0 0 sv)))) 41 250 (va_cpy z1 y1 0 0 sv) := ⟨am_se (am_lt t1_1.1), t1_1.2⟩
  obtain ⟨w2, hw2⟩ : ∃ w9, w9 = w1 := ⟨_, rfl⟩
  generalize (h1.set 41 (.inl (1, 250, .inl (va_cpy z1 y1 0 0 sv)))) = h2 at g2 t1_2 ⊢
  have g2 : fr w1 w2 h1 h2 [41] := by rw [hw2]; exact g2
  have t1_2 : iA w2 h2 41 250 (va_cpy z1 y1 0 0 sv) := by rw [hw2]; exact t1_2
  have hO_2 := hO_1.fr g2 (by decide)
  have ga_2 := ga_1.fr g2 (by decide)
  have gb_2 := gb_1.fr g2 (by decide)
  have s0_2 := s0_1.fr g2 (by decide)
  have t0_2 := t0_1.fr g2 (by decide)
  have s1_2 := s1_1.fr g2 (by decide)
  have s2_2 := s2_1.fr g2 (by decide)
  have t2_2 := t2_1.fr g2 (by decide)
  have s3_2 := s3_1.fr g2 (by decide)
  have t3_2 := t3_1.fr g2 (by decide)
  have G2 := G1.tr (g2.mo (by decide : ∀ x, x ∈ [41] → x ∈ [40, 41, 42, 43]))
  refine g_iinc (pc := 22) (v := 2) dc_C_copyMarks_22 rfl (by decide) (by decide) ?_
  show am_G X mt_C_copyMarks _ 25 [some (.ref 34), some (.ref 54), some (.ref 39), some (.int 2)] [] _ _
  refine g_goto (pc := 25) (tgt := 2) dc_C_copyMarks_25 rfl ?_
  refine g_iload_n (pc := 2) dc_C_copyMarks_2 rfl ?_
  refine g_iconst (pc := 3) (v := 4) dc_C_copyMarks_3 rfl ?_
  refine g_icmp_ge (pc := 4) (tgt := 28) dc_C_copyMarks_4 rfl (fun hc => absurd hc (by decide)) (fun _ => ?_)
  refine g_aload_n (pc := 7) dc_C_copyMarks_7 rfl ?_
  refine g_iload_n (pc := 8) dc_C_copyMarks_8 rfl ?_
  refine q_aaloadI (pc := 9) (k := 57) 2 dc_C_copyMarks_9 ga_2.1 (by decide) (by decide) rfl ?_
  refine g_iconst (pc := 10) (v := 0) dc_C_copyMarks_10 rfl ?_
  refine g_aload_n (pc := 11) dc_C_copyMarks_11 rfl ?_
  refine g_iload_n (pc := 12) dc_C_copyMarks_12 rfl ?_
  refine q_aaloadI (pc := 13) (k := 42) 2 dc_C_copyMarks_13 gb_2.1 (by decide) (by decide) rfl ?_
  refine g_iconst (pc := 14) (v := 0) dc_C_copyMarks_14 rfl ?_
  refine g_aload_n (pc := 15) dc_C_copyMarks_15 rfl ?_
  refine g_getfield (pc := 16) dc_C_copyMarks_16 fl_C_215 hO_2.1 rfl ?_
  refine g_arraycopy (pc := 19) (a := 57) (b := 42) (t := 1) (sp := 0) (dp := 0) (n := sv) (n0 := 250) (n1 := 250) dc_C_copyMarks_19 (am_t6 61 rfl rfl) rfl rfl s2_2.1 t2_2.1 (by omega) (by omega) (by decide) (fun i _ => fits_i _) (Nat.le_of_ble_eq_true rfl) ?_
  have g3 : fr w2 w2 h2 (h2.set 42 (.inl (1, 250, .inl (va_cpy z2 y2 0 0 sv)))) [42] := fr.st t2_2.1 rfl t2_2.2
  have t2_3 : iA w2 (h2.set 42 (.inl (1, 250, .inl (va_cpy z2 y2 0 0 sv)))) 42 250 (va_cpy z2 y2 0 0 sv) := ⟨am_se (am_lt t2_2.1), t2_2.2⟩
  obtain ⟨w3, hw3⟩ : ∃ w9, w9 = w2 := ⟨_, rfl⟩
  generalize (h2.set 42 (.inl (1, 250, .inl (va_cpy z2 y2 0 0 sv)))) = h3 at g3 t2_3 ⊢
  have g3 : fr w2 w3 h2 h3 [42] := by rw [hw3]; exact g3
  have t2_3 : iA w3 h3 42 250 (va_cpy z2 y2 0 0 sv) := by rw [hw3]; exact t2_3
  have hO_3 := hO_2.fr g3 (by decide)
  have ga_3 := ga_2.fr g3 (by decide)
  have gb_3 := gb_2.fr g3 (by decide)
  have s0_3 := s0_2.fr g3 (by decide)
  have t0_3 := t0_2.fr g3 (by decide)
  have s1_3 := s1_2.fr g3 (by decide)
  have t1_3 := t1_2.fr g3 (by decide)
  have s2_3 := s2_2.fr g3 (by decide)
  have s3_3 := s3_2.fr g3 (by decide)
  have t3_3 := t3_2.fr g3 (by decide)
  have G3 := G2.tr (g3.mo (by decide : ∀ x, x ∈ [42] → x ∈ [40, 41, 42, 43]))
  refine g_iinc (pc := 22) (v := 3) dc_C_copyMarks_22 rfl (by decide) (by decide) ?_
  show am_G X mt_C_copyMarks _ 25 [some (.ref 34), some (.ref 54), some (.ref 39), some (.int 3)] [] _ _
  refine g_goto (pc := 25) (tgt := 2) dc_C_copyMarks_25 rfl ?_
  refine g_iload_n (pc := 2) dc_C_copyMarks_2 rfl ?_
  refine g_iconst (pc := 3) (v := 4) dc_C_copyMarks_3 rfl ?_
  refine g_icmp_ge (pc := 4) (tgt := 28) dc_C_copyMarks_4 rfl (fun hc => absurd hc (by decide)) (fun _ => ?_)
  refine g_aload_n (pc := 7) dc_C_copyMarks_7 rfl ?_
  refine g_iload_n (pc := 8) dc_C_copyMarks_8 rfl ?_
  refine q_aaloadI (pc := 9) (k := 58) 3 dc_C_copyMarks_9 ga_3.1 (by decide) (by decide) rfl ?_
  refine g_iconst (pc := 10) (v := 0) dc_C_copyMarks_10 rfl ?_
  refine g_aload_n (pc := 11) dc_C_copyMarks_11 rfl ?_
  refine g_iload_n (pc := 12) dc_C_copyMarks_12 rfl ?_
  refine q_aaloadI (pc := 13) (k := 43) 3 dc_C_copyMarks_13 gb_3.1 (by decide) (by decide) rfl ?_
  refine g_iconst (pc := 14) (v := 0) dc_C_copyMarks_14 rfl ?_
  refine g_aload_n (pc := 15) dc_C_copyMarks_15 rfl ?_
  refine g_getfield (pc := 16) dc_C_copyMarks_16 fl_C_215 hO_3.1 rfl ?_
  refine g_arraycopy (pc := 19) (a := 58) (b := 43) (t := 1) (sp := 0) (dp := 0) (n := sv) (n0 := 250) (n1 := 250) dc_C_copyMarks_19 (am_t6 61 rfl rfl) rfl rfl s3_3.1 t3_3.1 (by omega) (by omega) (by decide) (fun i _ => fits_i _) (Nat.le_of_ble_eq_true rfl) ?_
  have g4 : fr w3 w3 h3 (h3.set 43 (.inl (1, 250, .inl (va_cpy z3 y3 0 0 sv)))) [43] := fr.st t3_3.1 rfl t3_3.2
  have t3_4 : iA w3 (h3.set 43 (.inl (1, 250, .inl (va_cpy z3 y3 0 0 sv)))) 43 250 (va_cpy z3 y3 0 0 sv) := ⟨am_se (am_lt t3_3.1), t3_3.2⟩
  obtain ⟨w4, hw4⟩ : ∃ w9, w9 = w3 := ⟨_, rfl⟩
  generalize (h3.set 43 (.inl (1, 250, .inl (va_cpy z3 y3 0 0 sv)))) = h4 at g4 t3_4 ⊢
  have g4 : fr w3 w4 h3 h4 [43] := by rw [hw4]; exact g4
  have t3_4 : iA w4 h4 43 250 (va_cpy z3 y3 0 0 sv) := by rw [hw4]; exact t3_4
  have hO_4 := hO_3.fr g4 (by decide)
  have ga_4 := ga_3.fr g4 (by decide)
  have gb_4 := gb_3.fr g4 (by decide)
  have s0_4 := s0_3.fr g4 (by decide)
  have t0_4 := t0_3.fr g4 (by decide)
  have s1_4 := s1_3.fr g4 (by decide)
  have t1_4 := t1_3.fr g4 (by decide)
  have s2_4 := s2_3.fr g4 (by decide)
  have t2_4 := t2_3.fr g4 (by decide)
  have s3_4 := s3_3.fr g4 (by decide)
  have G4 := G3.tr (g4.mo (by decide : ∀ x, x ∈ [43] → x ∈ [40, 41, 42, 43]))
  refine g_iinc (pc := 22) (v := 4) dc_C_copyMarks_22 rfl (by decide) (by decide) ?_
  show am_G X mt_C_copyMarks _ 25 [some (.ref 34), some (.ref 54), some (.ref 39), some (.int 4)] [] _ _
  refine g_goto (pc := 25) (tgt := 2) dc_C_copyMarks_25 rfl ?_
  refine g_iload_n (pc := 2) dc_C_copyMarks_2 rfl ?_
  refine g_iconst (pc := 3) (v := 4) dc_C_copyMarks_3 rfl ?_
  refine g_icmp_ge (pc := 4) (tgt := 28) dc_C_copyMarks_4 rfl (fun _ => ?_) (fun hc => absurd hc (by decide))
  exact g_return dc_C_copyMarks_28 rfl ⟨rfl, w4, G4, _, _, _, _, t0_4, t1_4, t2_4, t3_4, fun i hi => by rw [cpy_0 (by omega), cpy_0 (by omega), cpy_0 (by omega), cpy_0 (by omega)]; exact hsP i hi⟩
theorem w_C_save (hO_0 : cO w0 h0 34 34 (cr7 st9 ck an sv sn cr)) (ga_0 : gr4 w0 h0 39) (gb_0 : gr4 w0 h0 54) (hR_0 : rE w0 h0 35 36 35 36 K.ad []) (hK_0 : mk4 w0 h0 39 K) (hV_0 : mk4 w0 h0 54 V) (h250 : K.ad.length ≤ 250) : am_C X mt_C_save (d + 2) [.ref 34] h0 (fun r h1 => r = none ∧ ∃ w1, fr w0 w1 h0 h1 [34, 55, 56, 57, 58] ∧ cO w1 h1 34 34 (cr7 st9 ck an K.ad.length 0 cr) ∧ mk4 w1 h1 54 K) := by
  show am_G X mt_C_save (d + 2) 0 [some (.ref 34)] [] h0 _
  have hRo : ∃ e9, h0[35]? = some (.inr (4, [.ref 36, .ref e9, .int (nI K.ad.length)])) := by obtain ⟨b9, e9, q1, -⟩ := hR_0; exact ⟨e9, q1.1⟩
  obtain ⟨e9, hRo⟩ := hRo
  have G0 : fr w0 w0 h0 h0 [34, 55, 56, 57, 58] := fr.rf
  refine g_aload_n (pc := 0) dc_C_save_0 rfl ?_
  refine g_aload_n (pc := 1) dc_C_save_1 rfl ?_
  refine g_getfield (pc := 2) dc_C_save_2 fl_C_14 hO_0.1 rfl ?_
  refine g_getfield (pc := 5) dc_C_save_5 fl_C_91 hRo rfl ?_
  refine g_putfield (pc := 8) dc_C_save_8 fp_C_save_215 hO_0.1 (Nat.le_of_ble_eq_true rfl) rfl rfl ?_
  show am_G X mt_C_save _ 11 _ _ (h0.set 34 (cr7 st9 ck an K.ad.length sn cr)) _
  have g1 : fr w0 w0 h0 (h0.set 34 (cr7 st9 ck an K.ad.length sn cr)) [34] := fr.st hO_0.1 rfl hO_0.2
  have hO_1 : cO w0 (h0.set 34 (cr7 st9 ck an K.ad.length sn cr)) 34 34 (cr7 st9 ck an K.ad.length sn cr) := ⟨am_se (am_lt hO_0.1), hO_0.2⟩
  obtain ⟨w1, hw1⟩ : ∃ w9, w9 = w0 := ⟨_, rfl⟩
  generalize (h0.set 34 (cr7 st9 ck an K.ad.length sn cr)) = h1 at g1 hO_1 ⊢
  have g1 : fr w0 w1 h0 h1 [34] := by rw [hw1]; exact g1
  have hO_1 : cO w1 h1 34 34 (cr7 st9 ck an K.ad.length sn cr) := by rw [hw1]; exact hO_1
  have ga_1 := ga_0.fr g1 (by decide)
  have gb_1 := gb_0.fr g1 (by decide)
  have hR_1 := hR_0.fr g1 (by decide) (by decide)
  have hK_1 := hK_0.fr g1 (by decide) (by decide) (by decide) (by decide)
  have hV_1 := hV_0.fr g1 (by decide) (by decide) (by decide) (by decide)
  have G1 := G0.tr (g1.mo (by decide : ∀ x, x ∈ [34] → x ∈ [34, 55, 56, 57, 58]))
  refine g_aload_n (pc := 11) dc_C_save_11 rfl ?_
  refine g_aload_n (pc := 12) dc_C_save_12 rfl ?_
  refine g_getfield (pc := 13) dc_C_save_13 fl_C_22 hO_1.1 rfl ?_
  refine g_aload_n (pc := 16) dc_C_save_16 rfl ?_
  refine g_getfield (pc := 17) dc_C_save_17 fl_C_53 hO_1.1 rfl ?_
  refine g_v2 (pc := 20) (M' := mt_C_copyMarks) dc_C_save_20 mo_C_copyMarks im_C_copyMarks se_C_copyMarks ln_C_218 hO_1.1 rfl rfl (Nat.le_of_ble_eq_true rfl) (Nat.le_of_ble_eq_true rfl) (am_G.mono (w_C_copyMarks_39 (d := d) hO_1 ga_1 gb_1 hK_1 hV_1 rfl h250) ?_)
  intro r h2 hz
  obtain ⟨hz1, w2, g2, hV_2⟩ := hz
  rw [hz1]
  have hO_2 := hO_1.fr g2 (by decide)
  have ga_2 := ga_1.fr g2 (by decide)
  have gb_2 := gb_1.fr g2 (by decide)
  have hR_2 := hR_1.fr g2 (by decide) (by decide)
  have hK_2 := hK_1.fr g2 (by decide) (by decide) (by decide) (by decide)
  have G2 := G1.tr (g2.mo (by decide : ∀ x, x ∈ [55, 56, 57, 58] → x ∈ [34, 55, 56, 57, 58]))
  clear hz1 r
  refine ⟨am_nt0, ?_⟩
  refine g_aload_n (pc := 23) dc_C_save_23 rfl ?_
  refine g_iconst (pc := 24) (v := 0) dc_C_save_24 rfl ?_
  refine g_putfield (pc := 25) dc_C_save_25 fp_C_save_177 hO_2.1 (Nat.le_of_ble_eq_true rfl) rfl rfl ?_
  show am_G X mt_C_save _ 28 _ _ (h2.set 34 (cr7 st9 ck an K.ad.length 0 cr)) _
  have g3 : fr w2 w2 h2 (h2.set 34 (cr7 st9 ck an K.ad.length 0 cr)) [34] := fr.st hO_2.1 rfl hO_2.2
  have hO_3 : cO w2 (h2.set 34 (cr7 st9 ck an K.ad.length 0 cr)) 34 34 (cr7 st9 ck an K.ad.length 0 cr) := ⟨am_se (am_lt hO_2.1), hO_2.2⟩
  obtain ⟨w3, hw3⟩ : ∃ w9, w9 = w2 := ⟨_, rfl⟩
  generalize (h2.set 34 (cr7 st9 ck an K.ad.length 0 cr)) = h3 at g3 hO_3 ⊢
  have g3 : fr w2 w3 h2 h3 [34] := by rw [hw3]; exact g3
  have hO_3 : cO w3 h3 34 34 (cr7 st9 ck an K.ad.length 0 cr) := by rw [hw3]; exact hO_3
  have ga_3 := ga_2.fr g3 (by decide)
  have gb_3 := gb_2.fr g3 (by decide)
  have hR_3 := hR_2.fr g3 (by decide) (by decide)
  have hK_3 := hK_2.fr g3 (by decide) (by decide) (by decide) (by decide)
  have hV_3 := hV_2.fr g3 (by decide) (by decide) (by decide) (by decide)
  have G3 := G2.tr (g3.mo (by decide : ∀ x, x ∈ [34] → x ∈ [34, 55, 56, 57, 58]))
  exact g_return dc_C_save_28 rfl ⟨rfl, w3, G3, hO_3, hV_3⟩
theorem w_C_loseMemory (hO_0 : cO w0 h0 34 34 (cr7 st9 ck an V.ad.length sn cr)) (ga_0 : gr4 w0 h0 39) (gb_0 : gr4 w0 h0 54) (hR_0 : rE w0 h0 35 36 35 36 K.ad []) (hK_0 : mk4 w0 h0 39 K) (hV_0 : mk4 w0 h0 54 V) (h250 : K.ad.length ≤ 250) (hpre : V.ad = K.ad.take V.ad.length) (hok : ∀ x, x ∈ K.ad → okD x) (hle : V.ad.length ≤ K.ad.length) : am_C X mt_C_loseMemory (d + 2) [.ref 34] h0 (fun r h1 => r = none ∧ ∃ w1, fr w0 w1 h0 h1 [34, 35, 36, 40, 41, 42, 43] ∧ cO w1 h1 34 34 (cr7 st9 ck an V.ad.length 0 (some ck)) ∧ rE w1 h1 35 36 35 36 V.ad [] ∧ mk4 w1 h1 39 V) := by
  show am_G X mt_C_loseMemory (d + 2) 0 [some (.ref 34)] [] h0 _
  have hRo : ∃ e9, h0[35]? = some (.inr (4, [.ref 36, .ref e9, .int (nI K.ad.length)])) := by obtain ⟨b9, e9, q1, -⟩ := hR_0; exact ⟨e9, q1.1⟩
  obtain ⟨e9, hRo⟩ := hRo
  have G0 : fr w0 w0 h0 h0 [34, 35, 36, 40, 41, 42, 43] := fr.rf
  have hfl := ok_fl K.ad hok
  refine g_aload_n (pc := 0) dc_C_loseMemory_0 rfl ?_
  refine g_getfield (pc := 1) dc_C_loseMemory_1 fl_C_14 hO_0.1 rfl ?_
  refine g_aload_n (pc := 4) dc_C_loseMemory_4 rfl ?_
  refine g_getfield (pc := 5) dc_C_loseMemory_5 fl_C_215 hO_0.1 rfl ?_
  refine g_v1 (pc := 8) (M' := mt_R_cut) dc_C_loseMemory_8 mo_R_cut im_R_cut se_R_cut ln_C_222 hRo rfl rfl (Nat.le_of_ble_eq_true rfl) (Nat.le_of_ble_eq_true rfl) (am_G.mono (w_R_cut (d := d) (i := 35) (j := 36) (by decide) (by decide) (by decide) hR_0 hle (by show _ ≤ 100016; omega) (by show _ ≤ 40016; omega)) ?_)
  intro r h1 hz
  obtain ⟨hz1, w1, g1, hR_1⟩ := hz
  rw [hz1]
  have hO_1 := hO_0.fr g1 (by decide)
  have ga_1 := ga_0.fr g1 (by decide)
  have gb_1 := gb_0.fr g1 (by decide)
  have hK_1 := hK_0.fr g1 (by decide) (by decide) (by decide) (by decide)
  have hV_1 := hV_0.fr g1 (by decide) (by decide) (by decide) (by decide)
  have G1 := G0.tr (g1.mo (by decide : ∀ x, x ∈ [35, 36] → x ∈ [34, 35, 36, 40, 41, 42, 43]))
  clear hz1 r
  rw [← hpre] at hR_1
  refine ⟨am_nt0, ?_⟩
  refine g_aload_n (pc := 11) dc_C_loseMemory_11 rfl ?_
  refine g_aload_n (pc := 12) dc_C_loseMemory_12 rfl ?_
  refine g_getfield (pc := 13) dc_C_loseMemory_13 fl_C_53 hO_1.1 rfl ?_
  refine g_aload_n (pc := 16) dc_C_loseMemory_16 rfl ?_
  refine g_getfield (pc := 17) dc_C_loseMemory_17 fl_C_22 hO_1.1 rfl ?_
  refine g_v2 (pc := 20) (M' := mt_C_copyMarks) dc_C_loseMemory_20 mo_C_copyMarks im_C_copyMarks se_C_copyMarks ln_C_218 hO_1.1 rfl rfl (Nat.le_of_ble_eq_true rfl) (Nat.le_of_ble_eq_true rfl) (am_G.mono (w_C_copyMarks_54 (d := d) hO_1 gb_1 ga_1 hV_1 hK_1 rfl (by omega)) ?_)
  intro r h2 hz
  obtain ⟨hz1, w2, g2, hK_2⟩ := hz
  rw [hz1]
  have hO_2 := hO_1.fr g2 (by decide)
  have ga_2 := ga_1.fr g2 (by decide)
  have gb_2 := gb_1.fr g2 (by decide)
  have hR_2 := hR_1.fr g2 (by decide) (by decide)
  have hV_2 := hV_1.fr g2 (by decide) (by decide) (by decide) (by decide)
  have G2 := G1.tr (g2.mo (by decide : ∀ x, x ∈ [40, 41, 42, 43] → x ∈ [34, 35, 36, 40, 41, 42, 43]))
  clear hz1 r
  refine ⟨am_nt0, ?_⟩
  refine g_aload_n (pc := 23) dc_C_loseMemory_23 rfl ?_
  refine g_iconst (pc := 24) (v := 0) dc_C_loseMemory_24 rfl ?_
  refine g_putfield (pc := 25) dc_C_loseMemory_25 fp_C_loseMemory_177 hO_2.1 (Nat.le_of_ble_eq_true rfl) rfl rfl ?_
  show am_G X mt_C_loseMemory _ 28 _ _ (h2.set 34 (cr7 st9 ck an V.ad.length 0 cr)) _
  have g3 : fr w2 w2 h2 (h2.set 34 (cr7 st9 ck an V.ad.length 0 cr)) [34] := fr.st hO_2.1 rfl hO_2.2
  have hO_3 : cO w2 (h2.set 34 (cr7 st9 ck an V.ad.length 0 cr)) 34 34 (cr7 st9 ck an V.ad.length 0 cr) := ⟨am_se (am_lt hO_2.1), hO_2.2⟩
  obtain ⟨w3, hw3⟩ : ∃ w9, w9 = w2 := ⟨_, rfl⟩
  generalize (h2.set 34 (cr7 st9 ck an V.ad.length 0 cr)) = h3 at g3 hO_3 ⊢
  have g3 : fr w2 w3 h2 h3 [34] := by rw [hw3]; exact g3
  have hO_3 : cO w3 h3 34 34 (cr7 st9 ck an V.ad.length 0 cr) := by rw [hw3]; exact hO_3
  have ga_3 := ga_2.fr g3 (by decide)
  have gb_3 := gb_2.fr g3 (by decide)
  have hR_3 := hR_2.fr g3 (by decide) (by decide)
  have hK_3 := hK_2.fr g3 (by decide) (by decide) (by decide) (by decide)
  have hV_3 := hV_2.fr g3 (by decide) (by decide) (by decide) (by decide)
  have G3 := G2.tr (g3.mo (by decide : ∀ x, x ∈ [34] → x ∈ [34, 35, 36, 40, 41, 42, 43]))
  refine g_aload_n (pc := 28) dc_C_loseMemory_28 rfl ?_
  refine g_aload_n (pc := 29) dc_C_loseMemory_29 rfl ?_
  refine g_getfield (pc := 30) dc_C_loseMemory_30 fl_C_78 hO_3.1 rfl ?_
  refine g_putfield (pc := 33) dc_C_loseMemory_33 fp_C_loseMemory_82 hO_3.1 (Nat.le_of_ble_eq_true rfl) rfl rfl ?_
  show am_G X mt_C_loseMemory _ 36 _ _ (h3.set 34 (cr7 st9 ck an V.ad.length 0 (some ck))) _
  have g4 : fr w3 w3 h3 (h3.set 34 (cr7 st9 ck an V.ad.length 0 (some ck))) [34] := fr.st hO_3.1 rfl hO_3.2
  have hO_4 : cO w3 (h3.set 34 (cr7 st9 ck an V.ad.length 0 (some ck))) 34 34 (cr7 st9 ck an V.ad.length 0 (some ck)) := ⟨am_se (am_lt hO_3.1), hO_3.2⟩
  obtain ⟨w4, hw4⟩ : ∃ w9, w9 = w3 := ⟨_, rfl⟩
  generalize (h3.set 34 (cr7 st9 ck an V.ad.length 0 (some ck))) = h4 at g4 hO_4 ⊢
  have g4 : fr w3 w4 h3 h4 [34] := by rw [hw4]; exact g4
  have hO_4 : cO w4 h4 34 34 (cr7 st9 ck an V.ad.length 0 (some ck)) := by rw [hw4]; exact hO_4
  have ga_4 := ga_3.fr g4 (by decide)
  have gb_4 := gb_3.fr g4 (by decide)
  have hR_4 := hR_3.fr g4 (by decide) (by decide)
  have hK_4 := hK_3.fr g4 (by decide) (by decide) (by decide) (by decide)
  have hV_4 := hV_3.fr g4 (by decide) (by decide) (by decide) (by decide)
  have G4 := G3.tr (g4.mo (by decide : ∀ x, x ∈ [34] → x ∈ [34, 35, 36, 40, 41, 42, 43]))
  exact g_return dc_C_loseMemory_36 rfl ⟨rfl, w4, G4, hO_4, hR_4, hK_4⟩
theorem sit1 {D E : List Int32} (hD : okD D) (hE : okD E) : (hen D + 1 ≤ E.length ∧ sub E 0 (hen D + 1) = sub D 0 (hen D + 1)) ↔ sit E = sit D := by
  have d1 := hD.2.1
  have d2 := hD.2.2.1
  have e1 := hE.2.1
  have e2 := hE.2.2.1
  have lE := sit_len (D := E) (by omega)
  have lD := sit_len (D := D) (by omega)
  have sl : ∀ (Z : List Int32), okD Z → gx Z (hen Z) = 47 := fun Z hZ => by
    have h1 := hZ.2.2.1
    have h2 := fw_out (p := nev 47) (L := Z) (f := 7) (t := Z.length) h1
    exact Decidable.not_not.mp (of_decide_eq_false h2)
  have nsl : ∀ (Z : List Int32) (j : Nat), 7 ≤ j → j < hen Z → ¬ gx Z j = 47 := fun Z j h1 h2 h3 => by
    have h4 := fw_in (p := nev 47) (L := Z) (f := 7) (t := Z.length) h1 h2
    exact (of_decide_eq_true h4) h3
  constructor
  · rintro ⟨h1, h2⟩
    have hb : ∀ j, j < hen D + 1 → gx E j = gx D j := fun j hj => by
      have h3 : gx (sub E 0 (hen D + 1)) j = gx (sub D 0 (hen D + 1)) j := by rw [h2]
      rw [gx_sub (by omega) h1, gx_sub (by omega) (by omega), Nat.zero_add] at h3
      exact h3
    have hh : hen E = hen D := by
      rcases Nat.lt_trichotomy (hen E) (hen D) with h | h | h
      · have := hb (hen E) (by omega)
        rw [sl E hE] at this
        exact absurd this.symm (nsl D (hen E) (by omega) h)
      · exact h
      · have := hb (hen D) (by omega)
        rw [sl D hD] at this
        exact absurd this (nsl E (hen D) (by omega) h)
    refine eq_gx.mpr ⟨by omega, fun j hj => ?_⟩
    rw [lD] at hj
    rw [sit_gx (by omega) (by omega), sit_gx (by omega) hj]
    exact hb j (by omega)
  · intro h
    have hh : hen E = hen D := by rw [← lE, ← lD, h]
    refine ⟨by omega, eq_gx.mpr ⟨by rw [sub_len (by omega), sub_len (by omega)], fun j hj => ?_⟩⟩
    rw [sub_len (by omega)] at hj
    rw [gx_sub (by omega) (by omega), gx_sub (by omega) (by omega), Nat.zero_add]
    by_cases q : j = hen D
    · rw [q, sl D hD, ← hh, sl E hE]
    · have h3 : gx (sit E) j = gx (sit D) j := by rw [h]
      rw [sit_gx (by omega) (by omega), sit_gx (by omega) (by omega)] at h3
      exact h3
theorem t_sameBytes0 {h : List va_E} {a c s e n : Nat} {L M : List Int32} {f : Nat} (hx : tt h a s L) (hy : tt h c 0 M) (h1 : f + n ≤ L.length) (h2 : e + n ≤ M.length) (hf : f = 0) : am_C X mt_W_sameBytes d [.ref a, .int (nI s), .ref c, .int (nI e), .int (nI n)] h (fun r h1 => r = some (.int (b1 (decide (sub L 0 (0 + n) = sub M e (e + n))))) ∧ h1 = h) := by
  subst hf
  have h9 := t_sameBytes (X := X) (d := d) (s2 := 0) hx hy h1 h2
  rw [Nat.zero_add] at h9
  exact h9
theorem c_C_beginsAsHere {w : Gw} {h : List va_E} (hO : cO w h 34 34 (cr7 st9 ck an sv sn cr)) (hR : rE w h 35 36 35 36 K.ad []) (hw : wfK K) (hB : bE w h 51 51 D) (ho : okD D) (hi : i < K.ad.length) : am_C X mt_C_beginsAsHere (d + 1) [.ref 34, .int (nI i), .int (nI (hen D + 1))] h (fun r h1 => r = some (.int (b1 (decide (sit (gT K.ad i) = sit D)))) ∧ h1 = h) := by
  show am_G X mt_C_beginsAsHere (d + 1) 0 [some (.ref 34), some (.int (nI i)), some (.int (nI (hen D + 1))), none] [] h _
  obtain ⟨b9, e9, r1, r2, r3, r4⟩ := hR
  have hRo := r1.1
  have hbo := r1.2.1.ha
  have hof := r1.of (k := i + 1) (by omega)
  have hos := ofs_s (T := K.ad) hi
  have htx := r1.tt hi
  obtain ⟨bh, bb1⟩ := hB
  have hhh := bb1.1.ha
  have hth := bb1.1.ttb.tt
  have d1 := ho.2.1
  have d2 := ho.2.2.1
  have d3 := ho.2.2.2.2.1
  have hsi := sit1 ho (hw.2.2.1 _ (gT_mem hi))
  refine g_aload_n (pc := 0) dc_C_beginsAsHere_0 rfl ?_
  refine g_getfield (pc := 1) dc_C_beginsAsHere_1 fl_C_14 hO.1 rfl ?_
  refine g_iload_n (pc := 4) dc_C_beginsAsHere_4 rfl ?_
  refine g_v1 (pc := 5) (M' := mt_R_from) dc_C_beginsAsHere_5 mo_R_from im_R_from se_R_from ln_C_101 hRo rfl rfl (Nat.le_of_ble_eq_true rfl) (Nat.le_of_ble_eq_true rfl) (am_G.mono (c_R_from (d := d) (i := i) r1 (by omega)) ?_)
  intro r h1 hq
  rw [hq.1, hq.2]
  clear hq h1 r
  refine ⟨am_nti _, ?_⟩
  refine g_istore_n (pc := 8) dc_C_beginsAsHere_8 (by decide) ?_
  show am_G X mt_C_beginsAsHere _ 9 [some (.ref 34), some (.int (nI i)), some (.int (nI (hen D + 1))), some (.int (nI (ofs K.ad i)))] [] _ _
  refine g_aload_n (pc := 9) dc_C_beginsAsHere_9 rfl ?_
  refine g_getfield (pc := 10) dc_C_beginsAsHere_10 fl_C_14 hO.1 rfl ?_
  refine g_iload_n (pc := 13) dc_C_beginsAsHere_13 rfl ?_
  refine g_v1 (pc := 14) (M' := mt_R_to) dc_C_beginsAsHere_14 mo_R_to im_R_to se_R_to ln_C_105 hRo rfl rfl (Nat.le_of_ble_eq_true rfl) (Nat.le_of_ble_eq_true rfl) (am_G.mono (c_R_to (d := d) (i := i) r1 hi) ?_)
  intro r h1 hq
  rw [hq.1, hq.2, hos]
  clear hq h1 r
  refine ⟨am_nti _, ?_⟩
  refine g_iload_n (pc := 17) dc_C_beginsAsHere_17 rfl ?_
  refine g_isub (pc := 18) (v := (nI ((gT K.ad i).length))) dc_C_beginsAsHere_18 ((q_sub (a := ofs K.ad i + (gT K.ad i).length) (b := ofs K.ad i) (by omega)).trans (congrArg nI (by omega))) ?_
  refine g_iload_n (pc := 19) dc_C_beginsAsHere_19 rfl ?_
  refine q_icmp_lt (pc := 20) (tgt := 53) ((gT K.ad i).length) (hen D + 1) dc_C_beginsAsHere_20 (by omega) (by omega) rfl (fun hc20 => ?_) (fun hc20 => ?_)
  · refine g_iconst (pc := 53) (v := 0) dc_C_beginsAsHere_53 rfl ?_
    exact g_zreturn dc_C_beginsAsHere_54 rfl rfl ⟨congrArg (fun z => some (Value.int z)) (b1_f (fun h9 => absurd (hsi.mpr h9).1 (by omega))), rfl⟩
  · refine g_aload_n (pc := 23) dc_C_beginsAsHere_23 rfl ?_
    refine g_getfield (pc := 24) dc_C_beginsAsHere_24 fl_C_14 hO.1 rfl ?_
    refine g_getfield (pc := 27) dc_C_beginsAsHere_27 fl_C_94 hRo rfl ?_
    refine g_getfield (pc := 30) dc_C_beginsAsHere_30 fl_C_97 hbo rfl ?_
    refine g_iload_n (pc := 33) dc_C_beginsAsHere_33 rfl ?_
    refine g_aload_n (pc := 34) dc_C_beginsAsHere_34 rfl ?_
    refine g_getfield (pc := 35) dc_C_beginsAsHere_35 fl_C_46 hO.1 rfl ?_
    refine g_getfield (pc := 38) dc_C_beginsAsHere_38 fl_C_97 hhh rfl ?_
    refine g_iconst (pc := 41) (v := 0) dc_C_beginsAsHere_41 rfl ?_
    refine g_iload_n (pc := 42) dc_C_beginsAsHere_42 rfl ?_
    refine g_s5 (pc := 43) (M' := mt_W_sameBytes) dc_C_beginsAsHere_43 mo_W_sameBytes st_W_sameBytes ln_C_204 (Nat.le_of_ble_eq_true rfl) (Nat.le_of_ble_eq_true rfl) (am_G.mono (t_sameBytes0 (f := 0) (e := 0) (n := hen D + 1) (L := gT K.ad i) (M := D) htx hth (by omega) (by omega) rfl) ?_)
    intro r h1 hq
    rw [hq.1, hq.2, Nat.zero_add]
    clear hq h1 r
    refine ⟨am_nti _, ?_⟩
    refine q_ifb_eq (pc := 46) (tgt := 53) dc_C_beginsAsHere_46 rfl (fun hc46 => ?_) (fun hc46 => ?_)
    · refine g_iconst (pc := 53) (v := 0) dc_C_beginsAsHere_53 rfl ?_
      exact g_zreturn dc_C_beginsAsHere_54 rfl rfl ⟨congrArg (fun z => some (Value.int z)) (b1_f (fun h9 => of_decide_eq_false hc46 (hsi.mpr h9).2)), rfl⟩
    · refine g_iconst (pc := 49) (v := 1) dc_C_beginsAsHere_49 rfl ?_
      refine g_goto (pc := 50) (tgt := 54) dc_C_beginsAsHere_50 rfl ?_
      exact g_zreturn dc_C_beginsAsHere_54 rfl rfl ⟨congrArg (fun z => some (Value.int z)) (b1_t (hsi.mp ⟨by omega, of_decide_eq_true hc46⟩)), rfl⟩
end D3S
