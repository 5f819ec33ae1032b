/-! ===== the finder's answers about the crawl, settings and seeds ===== -/
section E3S
variable {X : am_X} {d i k n : Nat} {D L E : List Int32} {w w0 w1 : Gw} {h h0 h1 : List va_E} {I : List Nat} {T Rs Rt Sd : List (List Int32)} {p x : Int32} {lim sett lim0 : Nat → Nat} {P : List Pg} {st9 : Bool} {K V : Kn} {c : Cw}
theorem ixo_t (e : ixo p n = none) : p.toInt < 0 ∨ (n : Int) ≤ p.toInt := by
  unfold ixo at e
  split at e
  · cases e
  · rename_i h9
    omega
theorem c_W_count (hW : wO w h) (hC : cqC w h st9 lim K c V) (hw : wfK K) (hV : vO w h P.length n) (hS : rE w h 30 31 30 31 Sd []) : am_C X mt_W_count (d + 2) [.ref 0, .int p] h (fun r h1 => r = some (.int (cnt5 P Sd K c.an p)) ∧ h1 = h) := by
  show am_G X mt_W_count (d + 2) 0 [some (.ref 0), some (.int p)] [] h _
  have hK9 := hC.2.2.1
  obtain ⟨bK, eK, hKr⟩ := hK9
  obtain ⟨bS, eS, hSr⟩ := hS
  have hC4 := hC.2.2.2.1
  obtain ⟨z0, z1, z2, z3, m0, m1, m2, m3, hmP⟩ := hC4
  refine g_iload_n (pc := 0) dc_W_count_0 rfl ?_
  cases e : ixo p 5 with
  | none =>
    rw [show cnt5 P Sd K c.an p = -1 by unfold cnt5; rw [e]]
    refine g_tableOut (pc := 1) (tgt := 79) dc_W_count_1 (by rcases ixo_t e with h9 | h9; exact Or.inl h9; exact Or.inr (by omega)) rfl ?_
    refine g_iconst (pc := 79) (v := (-1)) dc_W_count_79 rfl ?_
    exact g_ireturn dc_W_count_80 rfl ⟨rfl, rfl⟩
  | some k =>
    obtain ⟨hk, rfl⟩ := ixo_s e
    rcases (by omega : k = 0 ∨ k = 1 ∨ k = 2 ∨ k = 3 ∨ k = 4) with rfl | rfl | rfl | rfl | rfl
    · rw [show cnt5 P Sd K c.an (nI 0) = nI P.length by unfold cnt5; rw [e]]
      refine g_tableIn (pc := 1) (off := 35) (tgt := 36) dc_W_count_1 (by decide) (by decide) rfl rfl ?_
      refine g_aload_n (pc := 36) dc_W_count_36 rfl ?_
      refine g_getfield (pc := 37) dc_W_count_37 fl_W_43 hW.1 rfl ?_
      refine g_getfield (pc := 40) dc_W_count_40 fl_W_199 hV.1 rfl ?_
      exact g_ireturn dc_W_count_43 rfl ⟨rfl, rfl⟩
    · rw [show cnt5 P Sd K c.an (nI 1) = nI Sd.length by unfold cnt5; rw [e]]
      refine g_tableIn (pc := 1) (off := 43) (tgt := 44) dc_W_count_1 (by decide) (by decide) rfl rfl ?_
      refine g_aload_n (pc := 44) dc_W_count_44 rfl ?_
      refine g_getfield (pc := 45) dc_W_count_45 fl_W_56 hW.1 rfl ?_
      refine g_getfield (pc := 48) dc_W_count_48 fl_W_167 hSr.1.1 rfl ?_
      exact g_ireturn dc_W_count_51 rfl ⟨rfl, rfl⟩
    · rw [show cnt5 P Sd K c.an (nI 2) = nI K.ad.length by unfold cnt5; rw [e]]
      refine g_tableIn (pc := 1) (off := 51) (tgt := 52) dc_W_count_1 (by decide) (by decide) rfl rfl ?_
      refine g_aload_n (pc := 52) dc_W_count_52 rfl ?_
      refine g_getfield (pc := 53) dc_W_count_53 fl_W_65 hW.1 rfl ?_
      refine g_getfield (pc := 56) dc_W_count_56 fl_W_178 hC.1.1 rfl ?_
      refine g_getfield (pc := 59) dc_W_count_59 fl_W_167 hKr.1.1 rfl ?_
      exact g_ireturn dc_W_count_62 rfl ⟨rfl, rfl⟩
    · rw [show cnt5 P Sd K c.an (nI 3) = nI (wtc K.st K.ad.length) by unfold cnt5; rw [e]]
      refine g_tableIn (pc := 1) (off := 62) (tgt := 63) dc_W_count_1 (by decide) (by decide) rfl rfl ?_
      refine g_aload_n (pc := 63) dc_W_count_63 rfl ?_
      refine g_getfield (pc := 64) dc_W_count_64 fl_W_65 hW.1 rfl ?_
      refine g_v0 (pc := 67) (M' := mt_C_waiting) dc_W_count_67 mo_C_waiting im_C_waiting se_C_waiting ln_W_202 hC.1.1 rfl rfl (Nat.le_of_ble_eq_true rfl) (Nat.le_of_ble_eq_true rfl) (am_G.mono (c_C_waiting (d := d) hC.1 hC.2.1.1 m0 m1 m2 hmP ⟨bK, eK, hKr⟩ hw) ?_)
      intro r h1 hq
      rw [hq.1, hq.2]
      clear hq h1 r
      refine ⟨am_nti _, ?_⟩
      exact g_ireturn dc_W_count_70 rfl ⟨rfl, rfl⟩
    · rw [show cnt5 P Sd K c.an (nI 4) = nI c.an by unfold cnt5; rw [e]]
      refine g_tableIn (pc := 1) (off := 70) (tgt := 71) dc_W_count_1 (by decide) (by decide) rfl rfl ?_
      refine g_aload_n (pc := 71) dc_W_count_71 rfl ?_
      refine g_getfield (pc := 72) dc_W_count_72 fl_W_65 hW.1 rfl ?_
      refine g_getfield (pc := 75) dc_W_count_75 fl_W_205 hC.1.1 rfl ?_
      exact g_ireturn dc_W_count_78 rfl ⟨rfl, rfl⟩
theorem c_W_known (hW : wO w h) (hC : cqC w h st9 lim K c V) (hw : wfK K) : am_C X mt_W_known d [.ref 0, .int p, .int x] h (fun r h1 => r = some (.int (knoA K p x)) ∧ h1 = h) := by
  show am_G X mt_W_known d 0 [some (.ref 0), some (.int p), some (.int x)] [] h _
  have hK9 := hC.2.2.1
  obtain ⟨bK, eK, hKr⟩ := hK9
  have hC4 := hC.2.2.2.1
  obtain ⟨z0, z1, z2, z3, m0, m1, m2, m3, hmP⟩ := hC4
  have h250 := hw.1
  cases e : ixo p K.ad.length with
  | none =>
    have hout := ixo_n (by omega) e
    rw [show knoA K p x = -1 by unfold knoA; rw [e]]
    refine g_iload_n (pc := 0) dc_W_known_0 rfl ?_
    refine g_if_lt (pc := 1) (tgt := 27) dc_W_known_1 rfl (fun hc1 => ?_) (fun hc1 => ?_)
    · have hi1 : (p).toInt < (0 : Int) := Int32.lt_iff_toInt_lt.mp hc1
      refine g_iconst (pc := 27) (v := (-1)) dc_W_known_27 rfl ?_
      exact g_ireturn dc_W_known_28 rfl ⟨rfl, rfl⟩
    · have hi1 : ¬ ((p).toInt < (0 : Int)) := fun h9 => hc1 (Int32.lt_iff_toInt_lt.mpr h9)
      refine g_iload_n (pc := 4) dc_W_known_4 rfl ?_
      refine g_aload_n (pc := 5) dc_W_known_5 rfl ?_
      refine g_getfield (pc := 6) dc_W_known_6 fl_W_65 hW.1 rfl ?_
      refine g_getfield (pc := 9) dc_W_known_9 fl_W_178 hC.1.1 rfl ?_
      refine g_getfield (pc := 12) dc_W_known_12 fl_W_167 hKr.1.1 rfl ?_
      refine g_icmp_ge (pc := 15) (tgt := 27) dc_W_known_15 rfl (fun hc15 => ?_) (fun hc => absurd hc (fun h8 => h8 (hout.resolve_left hc1)))
      refine g_iconst (pc := 27) (v := (-1)) dc_W_known_27 rfl ?_
      exact g_ireturn dc_W_known_28 rfl ⟨rfl, rfl⟩
  | some k =>
    obtain ⟨hk, rfl⟩ := ixo_s e
    cases e2 : ixo x 4 with
    | none =>
      have hout := ixo_n (by decide) e2
      rw [show knoA K (nI k) x = -1 by unfold knoA; rw [e]; dsimp only; rw [e2]]
      refine g_iload_n (pc := 0) dc_W_known_0 rfl ?_
      refine q_if_lt (pc := 1) (tgt := 27) k dc_W_known_1 (by omega) rfl ?_
      refine g_iload_n (pc := 4) dc_W_known_4 rfl ?_
      refine g_aload_n (pc := 5) dc_W_known_5 rfl ?_
      refine g_getfield (pc := 6) dc_W_known_6 fl_W_65 hW.1 rfl ?_
      refine g_getfield (pc := 9) dc_W_known_9 fl_W_178 hC.1.1 rfl ?_
      refine g_getfield (pc := 12) dc_W_known_12 fl_W_167 hKr.1.1 rfl ?_
      refine q_icmp_ge (pc := 15) (tgt := 27) k K.ad.length dc_W_known_15 (by omega) (by omega) rfl (fun hc => absurd hc (by omega)) (fun hc15 => ?_)
      refine g_iload_n (pc := 18) dc_W_known_18 rfl ?_
      refine g_if_lt (pc := 19) (tgt := 27) dc_W_known_19 rfl (fun hc19 => ?_) (fun hc19 => ?_)
      · have hi19 : (x).toInt < (0 : Int) := Int32.lt_iff_toInt_lt.mp hc19
        refine g_iconst (pc := 27) (v := (-1)) dc_W_known_27 rfl ?_
        exact g_ireturn dc_W_known_28 rfl ⟨rfl, rfl⟩
      · have hi19 : ¬ ((x).toInt < (0 : Int)) := fun h9 => hc19 (Int32.lt_iff_toInt_lt.mpr h9)
        refine g_iload_n (pc := 22) dc_W_known_22 rfl ?_
        refine g_iconst (pc := 23) (v := 4) dc_W_known_23 rfl ?_
        refine g_icmp_lt (pc := 24) (tgt := 29) dc_W_known_24 rfl (fun hc => absurd hc (fun h8 => absurd (hout.resolve_left hc19) (Int32.not_le.mpr h8))) (fun hc24 => ?_)
        refine g_iconst (pc := 27) (v := (-1)) dc_W_known_27 rfl ?_
        exact g_ireturn dc_W_known_28 rfl ⟨rfl, rfl⟩
    | some n =>
      obtain ⟨hn4, rfl⟩ := ixo_s e2
      rcases (by omega : n = 0 ∨ n = 1 ∨ n = 2 ∨ n = 3) with rfl | rfl | rfl | rfl
      · rw [show knoA K (nI k) (nI 0) = nI (K.st k) by unfold knoA; rw [e]; dsimp only; rw [e2]]
        show am_G X mt_W_known d 0 [some (.ref 0), some (.int (nI k)), some (.int 0)] [] h _
        refine g_iload_n (pc := 0) dc_W_known_0 rfl ?_
        refine q_if_lt (pc := 1) (tgt := 27) k dc_W_known_1 (by omega) rfl ?_
        refine g_iload_n (pc := 4) dc_W_known_4 rfl ?_
        refine g_aload_n (pc := 5) dc_W_known_5 rfl ?_
        refine g_getfield (pc := 6) dc_W_known_6 fl_W_65 hW.1 rfl ?_
        refine g_getfield (pc := 9) dc_W_known_9 fl_W_178 hC.1.1 rfl ?_
        refine g_getfield (pc := 12) dc_W_known_12 fl_W_167 hKr.1.1 rfl ?_
        refine q_icmp_ge (pc := 15) (tgt := 27) k K.ad.length dc_W_known_15 (by omega) (by omega) rfl (fun hc => absurd hc (by omega)) (fun hc15 => ?_)
        refine g_iload_n (pc := 18) dc_W_known_18 rfl ?_
        refine g_if_lt (pc := 19) (tgt := 27) dc_W_known_19 rfl (fun hc => absurd hc (by decide)) (fun _ => ?_)
        refine g_iload_n (pc := 22) dc_W_known_22 rfl ?_
        refine g_iconst (pc := 23) (v := 4) dc_W_known_23 rfl ?_
        refine g_icmp_lt (pc := 24) (tgt := 29) dc_W_known_24 rfl (fun _ => ?_) (fun hc => absurd hc (by decide))
        refine g_aload_n (pc := 29) dc_W_known_29 rfl ?_
        refine g_getfield (pc := 30) dc_W_known_30 fl_W_65 hW.1 rfl ?_
        refine g_getfield (pc := 33) dc_W_known_33 fl_W_208 hC.1.1 rfl ?_
        refine g_iload_n (pc := 36) dc_W_known_36 rfl ?_
        refine q_aaloadI (pc := 37) (k := 40) 0 dc_W_known_37 hC.2.1.1.1 (by decide) (by decide) rfl ?_
        refine g_iload_n (pc := 38) dc_W_known_38 rfl ?_
        refine q_ialoadV (pc := 39) k dc_W_known_39 m0.1 (by omega) (by decide) (v := (nI (K.st k))) (hmP k hk).1 ?_
        exact g_ireturn dc_W_known_40 rfl ⟨rfl, rfl⟩
      · rw [show knoA K (nI k) (nI 1) = nI (K.dp k) by unfold knoA; rw [e]; dsimp only; rw [e2]]
        show am_G X mt_W_known d 0 [some (.ref 0), some (.int (nI k)), some (.int 1)] [] h _
        refine g_iload_n (pc := 0) dc_W_known_0 rfl ?_
        refine q_if_lt (pc := 1) (tgt := 27) k dc_W_known_1 (by omega) rfl ?_
        refine g_iload_n (pc := 4) dc_W_known_4 rfl ?_
        refine g_aload_n (pc := 5) dc_W_known_5 rfl ?_
        refine g_getfield (pc := 6) dc_W_known_6 fl_W_65 hW.1 rfl ?_
        refine g_getfield (pc := 9) dc_W_known_9 fl_W_178 hC.1.1 rfl ?_
        refine g_getfield (pc := 12) dc_W_known_12 fl_W_167 hKr.1.1 rfl ?_
        refine q_icmp_ge (pc := 15) (tgt := 27) k K.ad.length dc_W_known_15 (by omega) (by omega) rfl (fun hc => absurd hc (by omega)) (fun hc15 => ?_)
        refine g_iload_n (pc := 18) dc_W_known_18 rfl ?_
        refine g_if_lt (pc := 19) (tgt := 27) dc_W_known_19 rfl (fun hc => absurd hc (by decide)) (fun _ => ?_)
        refine g_iload_n (pc := 22) dc_W_known_22 rfl ?_
        refine g_iconst (pc := 23) (v := 4) dc_W_known_23 rfl ?_
        refine g_icmp_lt (pc := 24) (tgt := 29) dc_W_known_24 rfl (fun _ => ?_) (fun hc => absurd hc (by decide))
        refine g_aload_n (pc := 29) dc_W_known_29 rfl ?_
        refine g_getfield (pc := 30) dc_W_known_30 fl_W_65 hW.1 rfl ?_
        refine g_getfield (pc := 33) dc_W_known_33 fl_W_208 hC.1.1 rfl ?_
        refine g_iload_n (pc := 36) dc_W_known_36 rfl ?_
        refine q_aaloadI (pc := 37) (k := 41) 1 dc_W_known_37 hC.2.1.1.1 (by decide) (by decide) rfl ?_
        refine g_iload_n (pc := 38) dc_W_known_38 rfl ?_
        refine q_ialoadV (pc := 39) k dc_W_known_39 m1.1 (by omega) (by decide) (v := (nI (K.dp k))) (hmP k hk).2.1 ?_
        exact g_ireturn dc_W_known_40 rfl ⟨rfl, rfl⟩
      · rw [show knoA K (nI k) (nI 2) = nI (K.ch k) by unfold knoA; rw [e]; dsimp only; rw [e2]]
        show am_G X mt_W_known d 0 [some (.ref 0), some (.int (nI k)), some (.int 2)] [] h _
        refine g_iload_n (pc := 0) dc_W_known_0 rfl ?_
        refine q_if_lt (pc := 1) (tgt := 27) k dc_W_known_1 (by omega) rfl ?_
        refine g_iload_n (pc := 4) dc_W_known_4 rfl ?_
        refine g_aload_n (pc := 5) dc_W_known_5 rfl ?_
        refine g_getfield (pc := 6) dc_W_known_6 fl_W_65 hW.1 rfl ?_
        refine g_getfield (pc := 9) dc_W_known_9 fl_W_178 hC.1.1 rfl ?_
        refine g_getfield (pc := 12) dc_W_known_12 fl_W_167 hKr.1.1 rfl ?_
        refine q_icmp_ge (pc := 15) (tgt := 27) k K.ad.length dc_W_known_15 (by omega) (by omega) rfl (fun hc => absurd hc (by omega)) (fun hc15 => ?_)
        refine g_iload_n (pc := 18) dc_W_known_18 rfl ?_
        refine g_if_lt (pc := 19) (tgt := 27) dc_W_known_19 rfl (fun hc => absurd hc (by decide)) (fun _ => ?_)
        refine g_iload_n (pc := 22) dc_W_known_22 rfl ?_
        refine g_iconst (pc := 23) (v := 4) dc_W_known_23 rfl ?_
        refine g_icmp_lt (pc := 24) (tgt := 29) dc_W_known_24 rfl (fun _ => ?_) (fun hc => absurd hc (by decide))
        refine g_aload_n (pc := 29) dc_W_known_29 rfl ?_
        refine g_getfield (pc := 30) dc_W_known_30 fl_W_65 hW.1 rfl ?_
        refine g_getfield (pc := 33) dc_W_known_33 fl_W_208 hC.1.1 rfl ?_
        refine g_iload_n (pc := 36) dc_W_known_36 rfl ?_
        refine q_aaloadI (pc := 37) (k := 42) 2 dc_W_known_37 hC.2.1.1.1 (by decide) (by decide) rfl ?_
        refine g_iload_n (pc := 38) dc_W_known_38 rfl ?_
        refine q_ialoadV (pc := 39) k dc_W_known_39 m2.1 (by omega) (by decide) (v := (nI (K.ch k))) (hmP k hk).2.2.1 ?_
        exact g_ireturn dc_W_known_40 rfl ⟨rfl, rfl⟩
      · rw [show knoA K (nI k) (nI 3) = er (ldx K k) by unfold knoA; rw [e]; dsimp only; rw [e2]; unfold ldx; dsimp only; cases K.ld k <;> rfl]
        show am_G X mt_W_known d 0 [some (.ref 0), some (.int (nI k)), some (.int 3)] [] h _
        refine g_iload_n (pc := 0) dc_W_known_0 rfl ?_
        refine q_if_lt (pc := 1) (tgt := 27) k dc_W_known_1 (by omega) rfl ?_
        refine g_iload_n (pc := 4) dc_W_known_4 rfl ?_
        refine g_aload_n (pc := 5) dc_W_known_5 rfl ?_
        refine g_getfield (pc := 6) dc_W_known_6 fl_W_65 hW.1 rfl ?_
        refine g_getfield (pc := 9) dc_W_known_9 fl_W_178 hC.1.1 rfl ?_
        refine g_getfield (pc := 12) dc_W_known_12 fl_W_167 hKr.1.1 rfl ?_
        refine q_icmp_ge (pc := 15) (tgt := 27) k K.ad.length dc_W_known_15 (by omega) (by omega) rfl (fun hc => absurd hc (by omega)) (fun hc15 => ?_)
        refine g_iload_n (pc := 18) dc_W_known_18 rfl ?_
        refine g_if_lt (pc := 19) (tgt := 27) dc_W_known_19 rfl (fun hc => absurd hc (by decide)) (fun _ => ?_)
        refine g_iload_n (pc := 22) dc_W_known_22 rfl ?_
        refine g_iconst (pc := 23) (v := 4) dc_W_known_23 rfl ?_
        refine g_icmp_lt (pc := 24) (tgt := 29) dc_W_known_24 rfl (fun _ => ?_) (fun hc => absurd hc (by decide))
        refine g_aload_n (pc := 29) dc_W_known_29 rfl ?_
        refine g_getfield (pc := 30) dc_W_known_30 fl_W_65 hW.1 rfl ?_
        refine g_getfield (pc := 33) dc_W_known_33 fl_W_208 hC.1.1 rfl ?_
        refine g_iload_n (pc := 36) dc_W_known_36 rfl ?_
        refine q_aaloadI (pc := 37) (k := 43) 3 dc_W_known_37 hC.2.1.1.1 (by decide) (by decide) rfl ?_
        refine g_iload_n (pc := 38) dc_W_known_38 rfl ?_
        refine q_ialoadV (pc := 39) k dc_W_known_39 m3.1 (by omega) (by decide) (v := (er (ldx K k))) (hmP k hk).2.2.2 ?_
        exact g_ireturn dc_W_known_40 rfl ⟨rfl, rfl⟩
theorem c0_W_asking (hW : wO w h) (hC : cqC w h st9 lim K c V) (hwc : wfC K c) (hk : k < c.aq.length) : am_C X mt_W_asking (d + 4) [.ref 0, .int (nI k), .int 0] h (fun r h1 => r = some (.int (nI (c.ac k))) ∧ h1 = h) := by
  show am_G X mt_W_asking (d + 4) 0 [some (.ref 0), some (.int (nI k)), some (.int 0)] [] h _
  have h1 := hwc.2.2.2.1
  have h2 := hwc.2.2.2.2.1
  have hQ9 := hC.2.2.2.2.2.2.2.1
  obtain ⟨hQ0, gc, hgc, hcP⟩ := hQ9
  have hQ1 := hQ0
  obtain ⟨bQ, eQ, hQr⟩ := hQ0
  refine g_iload_n (pc := 0) dc_W_asking_0 rfl ?_
  refine q_if_lt (pc := 1) (tgt := 18) k dc_W_asking_1 (by omega) rfl ?_
  refine g_iload_n (pc := 4) dc_W_asking_4 rfl ?_
  refine g_aload_n (pc := 5) dc_W_asking_5 rfl ?_
  refine g_getfield (pc := 6) dc_W_asking_6 fl_W_65 hW.1 rfl ?_
  refine g_getfield (pc := 9) dc_W_asking_9 fl_W_212 hC.1.1 rfl ?_
  refine g_getfield (pc := 12) dc_W_asking_12 fl_W_167 hQr.1.1 rfl ?_
  refine q_icmp_lt (pc := 15) (tgt := 20) k c.aq.length dc_W_asking_15 (by omega) (by omega) rfl (fun hc15 => ?_) (fun hc => absurd hc (by omega))
  refine g_iload_n (pc := 20) dc_W_asking_20 rfl ?_
  refine g_if_ne (pc := 21) (tgt := 34) dc_W_asking_21 rfl (fun hc => absurd hc (by decide)) (fun _ => ?_)
  refine g_aload_n (pc := 24) dc_W_asking_24 rfl ?_
  refine g_getfield (pc := 25) dc_W_asking_25 fl_W_65 hW.1 rfl ?_
  refine g_getfield (pc := 28) dc_W_asking_28 fl_W_215 hC.1.1 rfl ?_
  refine g_iload_n (pc := 31) dc_W_asking_31 rfl ?_
  refine q_ialoadV (pc := 32) k dc_W_asking_32 hgc.1 (by omega) (by decide) (v := nI (c.ac k)) (hcP k hk) ?_
  exact g_ireturn dc_W_asking_33 rfl ⟨rfl, rfl⟩
theorem c1_W_asking (hW : wO w h) (hP : eB w h 3 3) (hC : cqC w h st9 lim K c V) (hwc : wfC K c) (hk : k < c.aq.length) : am_C X mt_W_asking (d + 4) [.ref 0, .int (nI k), .int 1] h (fun r h1 => r = some (.int (nI (gT c.aq k).length)) ∧ ∃ w1, fr w w1 h h1 [3] ∧ bE w1 h1 3 3 (gT c.aq k)) := by
  show am_G X mt_W_asking (d + 4) 0 [some (.ref 0), some (.int (nI k)), some (.int 1)] [] h _
  have h1 := hwc.2.2.2.1
  have h2 := hwc.2.2.2.2.1
  have hQ9 := hC.2.2.2.2.2.2.2.1
  obtain ⟨hQ0, gc, hgc, hcP⟩ := hQ9
  have hQ1 := hQ0
  obtain ⟨bQ, eQ, hQr⟩ := hQ0
  refine g_iload_n (pc := 0) dc_W_asking_0 rfl ?_
  refine q_if_lt (pc := 1) (tgt := 18) k dc_W_asking_1 (by omega) rfl ?_
  refine g_iload_n (pc := 4) dc_W_asking_4 rfl ?_
  refine g_aload_n (pc := 5) dc_W_asking_5 rfl ?_
  refine g_getfield (pc := 6) dc_W_asking_6 fl_W_65 hW.1 rfl ?_
  refine g_getfield (pc := 9) dc_W_asking_9 fl_W_212 hC.1.1 rfl ?_
  refine g_getfield (pc := 12) dc_W_asking_12 fl_W_167 hQr.1.1 rfl ?_
  refine q_icmp_lt (pc := 15) (tgt := 20) k c.aq.length dc_W_asking_15 (by omega) (by omega) rfl (fun hc15 => ?_) (fun hc => absurd hc (by omega))
  refine g_iload_n (pc := 20) dc_W_asking_20 rfl ?_
  refine g_if_ne (pc := 21) (tgt := 34) dc_W_asking_21 rfl (fun _ => ?_) (fun hc => absurd hc (by decide))
  refine g_iload_n (pc := 34) dc_W_asking_34 rfl ?_
  refine g_iconst (pc := 35) (v := 1) dc_W_asking_35 rfl ?_
  refine g_icmp_ne (pc := 36) (tgt := 54) dc_W_asking_36 rfl (fun hc => absurd hc (by decide)) (fun _ => ?_)
  refine g_aload_n (pc := 39) dc_W_asking_39 rfl ?_
  refine g_aload_n (pc := 40) dc_W_asking_40 rfl ?_
  refine g_getfield (pc := 41) dc_W_asking_41 fl_W_65 hW.1 rfl ?_
  refine g_getfield (pc := 44) dc_W_asking_44 fl_W_212 hC.1.1 rfl ?_
  refine g_iload_n (pc := 47) dc_W_asking_47 rfl ?_
  refine g_v2 (pc := 48) (M' := mt_W_produceRow) dc_W_asking_48 mo_W_produceRow im_W_produceRow se_W_produceRow ln_W_218 hW.1 rfl rfl (Nat.le_of_ble_eq_true rfl) (Nat.le_of_ble_eq_true rfl) (am_G.mono (c_W_produceRow (d := d) hW hP hQ1 hk (by omega) (fun z hz => (hwc.2.2.2.2.2.1 z hz).2.2.2.2.1) (by decide)) ?_)
  intro r h9 hz
  obtain ⟨y1, y2⟩ := hz
  rw [y1]
  clear y1 r
  refine ⟨am_nti _, ?_⟩
  refine g_goto (pc := 51) (tgt := 55) dc_W_asking_51 rfl ?_
  exact g_ireturn dc_W_asking_55 rfl ⟨rfl, y2⟩
theorem n_W_asking (hW : wO w h) (hC : cqC w h st9 lim K c V) (hwc : wfC K c) (hn : ixo p c.aq.length = none ∨ ixo x 2 = none) : am_C X mt_W_asking (d + 4) [.ref 0, .int p, .int x] h (fun r h1 => r = some (.int (-1)) ∧ h1 = h) := by
  show am_G X mt_W_asking (d + 4) 0 [some (.ref 0), some (.int p), some (.int x)] [] h _
  have h1 := hwc.2.2.2.1
  have h2 := hwc.2.2.2.2.1
  have hQ9 := hC.2.2.2.2.2.2.2.1
  obtain ⟨hQ0, gc, hgc, hcP⟩ := hQ9
  have hQ1 := hQ0
  obtain ⟨bQ, eQ, hQr⟩ := hQ0
  cases e : ixo p c.aq.length with
  | none =>
    have hout := ixo_n (by omega) e
    refine g_iload_n (pc := 0) dc_W_asking_0 rfl ?_
    refine g_if_lt (pc := 1) (tgt := 18) dc_W_asking_1 rfl (fun hc1 => ?_) (fun hc1 => ?_)
    · have hi1 : (p).toInt < (0 : Int) := Int32.lt_iff_toInt_lt.mp hc1
      refine g_iconst (pc := 18) (v := (-1)) dc_W_asking_18 rfl ?_
      exact g_ireturn dc_W_asking_19 rfl ⟨rfl, rfl⟩
    · have hi1 : ¬ ((p).toInt < (0 : Int)) := fun h9 => hc1 (Int32.lt_iff_toInt_lt.mpr h9)
      refine g_iload_n (pc := 4) dc_W_asking_4 rfl ?_
      refine g_aload_n (pc := 5) dc_W_asking_5 rfl ?_
      refine g_getfield (pc := 6) dc_W_asking_6 fl_W_65 hW.1 rfl ?_
      refine g_getfield (pc := 9) dc_W_asking_9 fl_W_212 hC.1.1 rfl ?_
      refine g_getfield (pc := 12) dc_W_asking_12 fl_W_167 hQr.1.1 rfl ?_
      refine g_icmp_lt (pc := 15) (tgt := 20) dc_W_asking_15 rfl (fun hc => absurd hc (fun h8 => absurd (hout.resolve_left hc1) (Int32.not_le.mpr h8))) (fun hc15 => ?_)
      refine g_iconst (pc := 18) (v := (-1)) dc_W_asking_18 rfl ?_
      exact g_ireturn dc_W_asking_19 rfl ⟨rfl, rfl⟩
  | some k =>
    obtain ⟨hk, rfl⟩ := ixo_s e
    have e2 := hn.resolve_left (by rw [e]; exact fun h9 => by cases h9)
    have hx0 : ¬ x = 0 := fun h9 => by rw [h9] at e2; exact absurd e2 (by decide)
    have hx1 : ¬ x = 1 := fun h9 => by rw [h9] at e2; exact absurd e2 (by decide)
    refine g_iload_n (pc := 0) dc_W_asking_0 rfl ?_
    refine q_if_lt (pc := 1) (tgt := 18) k dc_W_asking_1 (by omega) rfl ?_
    refine g_iload_n (pc := 4) dc_W_asking_4 rfl ?_
    refine g_aload_n (pc := 5) dc_W_asking_5 rfl ?_
    refine g_getfield (pc := 6) dc_W_asking_6 fl_W_65 hW.1 rfl ?_
    refine g_getfield (pc := 9) dc_W_asking_9 fl_W_212 hC.1.1 rfl ?_
    refine g_getfield (pc := 12) dc_W_asking_12 fl_W_167 hQr.1.1 rfl ?_
    refine q_icmp_lt (pc := 15) (tgt := 20) k c.aq.length dc_W_asking_15 (by omega) (by omega) rfl (fun hc15 => ?_) (fun hc => absurd hc (by omega))
    refine g_iload_n (pc := 20) dc_W_asking_20 rfl ?_
    refine g_if_ne (pc := 21) (tgt := 34) dc_W_asking_21 rfl (fun hc21 => ?_) (fun hc => absurd hc (hx0))
    refine g_iload_n (pc := 34) dc_W_asking_34 rfl ?_
    refine g_iconst (pc := 35) (v := 1) dc_W_asking_35 rfl ?_
    refine g_icmp_ne (pc := 36) (tgt := 54) dc_W_asking_36 rfl (fun hc36 => ?_) (fun hc => absurd hc (hx1))
    refine g_iconst (pc := 54) (v := (-1)) dc_W_asking_54 rfl ?_
    exact g_ireturn dc_W_asking_55 rfl ⟨rfl, rfl⟩
theorem c_W_address (hW : wO w h) (hP : eB w h 3 3) (hC : cqC w h st9 lim K c V) (hw : wfK K) (hk : k < K.ad.length) : am_C X mt_W_address (d + 4) [.ref 0, .int (nI k)] h (fun r h1 => r = some (.int (nI (gT K.ad k).length)) ∧ ∃ w1, fr w w1 h h1 [3] ∧ bE w1 h1 3 3 (gT K.ad k)) := by
  show am_G X mt_W_address (d + 4) 0 [some (.ref 0), some (.int (nI k))] [] h _
  have hK9 := hC.2.2.1
  obtain ⟨bK, eK, hKr⟩ := hK9
  have h250 := hw.1
  refine g_aload_n (pc := 0) dc_W_address_0 rfl ?_
  refine g_aload_n (pc := 1) dc_W_address_1 rfl ?_
  refine g_getfield (pc := 2) dc_W_address_2 fl_W_65 hW.1 rfl ?_
  refine g_getfield (pc := 5) dc_W_address_5 fl_W_178 hC.1.1 rfl ?_
  refine g_iload_n (pc := 8) dc_W_address_8 rfl ?_
  refine g_v2 (pc := 9) (M' := mt_W_produceRow) dc_W_address_9 mo_W_produceRow im_W_produceRow se_W_produceRow ln_W_218 hW.1 rfl rfl (Nat.le_of_ble_eq_true rfl) (Nat.le_of_ble_eq_true rfl) (am_G.mono (c_W_produceRow (d := d) hW hP hC.2.2.1 hk (by omega) (fun z hz => (hw.2.2.1 z hz).2.2.2.2.1) (by decide)) ?_)
  intro r h9 hz
  obtain ⟨y1, y2⟩ := hz
  rw [y1]
  clear y1 r
  refine ⟨am_nti _, ?_⟩
  exact g_ireturn dc_W_address_12 rfl ⟨rfl, y2⟩
theorem n_W_address (hW : wO w h) (hC : cqC w h st9 lim K c V) (hw : wfK K) (hn : ixo p K.ad.length = none) : am_C X mt_W_address (d + 4) [.ref 0, .int p] h (fun r h1 => r = some (.int (-1)) ∧ h1 = h) := by
  show am_G X mt_W_address (d + 4) 0 [some (.ref 0), some (.int p)] [] h _
  have hK9 := hC.2.2.1
  obtain ⟨bK, eK, hKr⟩ := hK9
  have h250 := hw.1
  refine g_aload_n (pc := 0) dc_W_address_0 rfl ?_
  refine g_aload_n (pc := 1) dc_W_address_1 rfl ?_
  refine g_getfield (pc := 2) dc_W_address_2 fl_W_65 hW.1 rfl ?_
  refine g_getfield (pc := 5) dc_W_address_5 fl_W_178 hC.1.1 rfl ?_
  refine g_iload_n (pc := 8) dc_W_address_8 rfl ?_
  refine g_v2 (pc := 9) (M' := mt_W_produceRow) dc_W_address_9 mo_W_produceRow im_W_produceRow se_W_produceRow ln_W_218 hW.1 rfl rfl (Nat.le_of_ble_eq_true rfl) (Nat.le_of_ble_eq_true rfl) (am_G.mono (n_W_produceRow (d := d) hC.2.2.1 hn (by omega)) ?_)
  intro r h1 hq
  rw [hq.1, hq.2]
  clear hq h1 r
  refine ⟨am_nti _, ?_⟩
  exact g_ireturn dc_W_address_12 rfl ⟨rfl, rfl⟩
theorem seC_up {gs : Nat → Int32} {v : Nat} (z : ∀ i, i < 4 → gs i = nI (sett i)) : ∀ i, i < 4 → upd gs k (nI v) i = nI (upf sett k v i) := fun i hi => by
  by_cases e : i = k
  · rw [e, upd_s, upf_s]
  · rw [upd_n e, upf_n e]; exact z i hi
theorem w_W_set (hW : wO w h) (hse : seC w h sett) : am_C X mt_W_set d [.ref 0, .int p, .int x] h (fun r h1 => match stG p x with | none => r = some (.int 0) ∧ h1 = h | some z => r = some (.int 1) ∧ ∃ w1, fr w w1 h h1 [29] ∧ seC w1 h1 (upf sett z.1 z.2)) := by
  show am_G X mt_W_set d 0 [some (.ref 0), some (.int p), some (.int x)] [] h _
  obtain ⟨gs, hs, hsP⟩ := hse
  cases e : ixo p 4 with
  | none =>
    have hout := ixo_n (by decide) e
    rw [show stG p x = none by unfold stG; rw [e]]
    refine g_iload_n (pc := 0) dc_W_set_0 rfl ?_
    refine g_if_lt (pc := 1) (tgt := 13) dc_W_set_1 rfl (fun hc1 => ?_) (fun hc1 => ?_)
    · have hi1 : (p).toInt < (0 : Int) := Int32.lt_iff_toInt_lt.mp hc1
      refine g_iconst (pc := 13) (v := 0) dc_W_set_13 rfl ?_
      exact g_zreturn dc_W_set_14 rfl rfl ⟨rfl, rfl⟩
    · have hi1 : ¬ ((p).toInt < (0 : Int)) := fun h9 => hc1 (Int32.lt_iff_toInt_lt.mpr h9)
      refine g_iload_n (pc := 4) dc_W_set_4 rfl ?_
      refine g_aload_n (pc := 5) dc_W_set_5 rfl ?_
      refine g_getfield (pc := 6) dc_W_set_6 fl_W_47 hW.1 rfl ?_
      refine g_alen (pc := 9) dc_W_set_9 hs.1 (by decide) ?_
      refine g_icmp_lt (pc := 10) (tgt := 15) dc_W_set_10 rfl (fun hc => absurd hc (fun h8 => absurd (hout.resolve_left hc1) (Int32.not_le.mpr h8))) (fun hc10 => ?_)
      refine g_iconst (pc := 13) (v := 0) dc_W_set_13 rfl ?_
      exact g_zreturn dc_W_set_14 rfl rfl ⟨rfl, rfl⟩
  | some k =>
    obtain ⟨hk, rfl⟩ := ixo_s e
    rcases (by omega : k = 0 ∨ k = 1 ∨ k = 2 ∨ k = 3) with rfl | rfl | rfl | rfl
    · cases e2 : ixo x 21 with
      | none =>
        have hout := ixo_n (by decide) e2
        rw [show stG (nI 0) x = none by unfold stG; rw [e]; dsimp only; rw [show stmx 0 + 1 = 21 from rfl, e2]]
        show am_G X mt_W_set d 0 [some (.ref 0), some (.int 0), some (.int x)] [] h _
        refine g_iload_n (pc := 0) dc_W_set_0 rfl ?_
        refine g_if_lt (pc := 1) (tgt := 13) dc_W_set_1 rfl (fun hc => absurd hc (by decide)) (fun _ => ?_)
        refine g_iload_n (pc := 4) dc_W_set_4 rfl ?_
        refine g_aload_n (pc := 5) dc_W_set_5 rfl ?_
        refine g_getfield (pc := 6) dc_W_set_6 fl_W_47 hW.1 rfl ?_
        refine g_alen (pc := 9) dc_W_set_9 hs.1 (by decide) ?_
        refine q_icmp_lt (pc := 10) (tgt := 15) 0 4 dc_W_set_10 (by omega) (by omega) rfl (fun hc10 => ?_) (fun hc => absurd hc (by omega))
        refine g_iload_n (pc := 15) dc_W_set_15 rfl ?_
        refine g_gsLeast (pc := 16) dc_W_set_16 (am_t6 40 rfl rfl) ?_
        refine g_iload_n (pc := 19) dc_W_set_19 rfl ?_
        refine g_leastLoad (pc := 20) (v := 0) dc_W_set_20 (fun h9 => absurd h9 (by decide)) rfl ?_
        refine g_icmp_lt (pc := 21) (tgt := 33) dc_W_set_21 rfl (fun hc21 => ?_) (fun hc21 => ?_)
        · have hi21 : (x).toInt < (0 : Int) := Int32.lt_iff_toInt_lt.mp hc21
          refine g_iconst (pc := 33) (v := 0) dc_W_set_33 rfl ?_
          exact g_zreturn dc_W_set_34 rfl rfl ⟨rfl, rfl⟩
        · have hi21 : ¬ ((x).toInt < (0 : Int)) := fun h9 => hc21 (Int32.lt_iff_toInt_lt.mpr h9)
          refine g_iload_n (pc := 24) dc_W_set_24 rfl ?_
          refine g_gsMost (pc := 25) dc_W_set_25 (am_t6 42 rfl rfl) ?_
          refine g_iload_n (pc := 28) dc_W_set_28 rfl ?_
          refine g_mostLoad (pc := 29) (v := 20) dc_W_set_29 (fun h9 => absurd h9 (by decide)) rfl ?_
          refine g_icmp_le (pc := 30) (tgt := 35) dc_W_set_30 rfl (fun hc => absurd hc (fun h8 => hout.elim (fun h7 => absurd h7 (Int32.not_lt.mpr (Int32.le_trans (by decide) (Int32.not_lt.mp hc21)))) (fun h7 => absurd (Int32.le_trans h7 h8) (by decide)))) (fun hc30 => ?_)
          refine g_iconst (pc := 33) (v := 0) dc_W_set_33 rfl ?_
          exact g_zreturn dc_W_set_34 rfl rfl ⟨rfl, rfl⟩
      | some v =>
        obtain ⟨hv, rfl⟩ := ixo_s e2
        have hst : stG (nI 0) (nI v) = some (0, v) := by unfold stG; rw [e]; dsimp only; rw [show stmx 0 + 1 = 21 from rfl, e2]; dsimp only; rw [if_pos (show stmn 0 ≤ v from Nat.zero_le _)]
        rw [hst]
        show am_G X mt_W_set d 0 [some (.ref 0), some (.int 0), some (.int (nI v))] [] h _
        refine g_iload_n (pc := 0) dc_W_set_0 rfl ?_
        refine g_if_lt (pc := 1) (tgt := 13) dc_W_set_1 rfl (fun hc => absurd hc (by decide)) (fun _ => ?_)
        refine g_iload_n (pc := 4) dc_W_set_4 rfl ?_
        refine g_aload_n (pc := 5) dc_W_set_5 rfl ?_
        refine g_getfield (pc := 6) dc_W_set_6 fl_W_47 hW.1 rfl ?_
        refine g_alen (pc := 9) dc_W_set_9 hs.1 (by decide) ?_
        refine q_icmp_lt (pc := 10) (tgt := 15) 0 4 dc_W_set_10 (by omega) (by omega) rfl (fun hc10 => ?_) (fun hc => absurd hc (by omega))
        refine g_iload_n (pc := 15) dc_W_set_15 rfl ?_
        refine g_gsLeast (pc := 16) dc_W_set_16 (am_t6 40 rfl rfl) ?_
        refine g_iload_n (pc := 19) dc_W_set_19 rfl ?_
        refine g_leastLoad (pc := 20) (v := 0) dc_W_set_20 (fun h9 => absurd h9 (by decide)) rfl ?_
        refine q_icmp_lt (pc := 21) (tgt := 33) v 0 dc_W_set_21 (by omega) (by omega) rfl (fun hc => absurd hc (by omega)) (fun hc21 => ?_)
        refine g_iload_n (pc := 24) dc_W_set_24 rfl ?_
        refine g_gsMost (pc := 25) dc_W_set_25 (am_t6 42 rfl rfl) ?_
        refine g_iload_n (pc := 28) dc_W_set_28 rfl ?_
        refine g_mostLoad (pc := 29) (v := 20) dc_W_set_29 (fun h9 => absurd h9 (by decide)) rfl ?_
        refine q_icmp_le (pc := 30) (tgt := 35) v 20 dc_W_set_30 (by omega) (by omega) rfl (fun hc30 => ?_) (fun hc => absurd hc (by omega))
        refine g_aload_n (pc := 35) dc_W_set_35 rfl ?_
        refine g_getfield (pc := 36) dc_W_set_36 fl_W_47 hW.1 rfl ?_
        refine g_iload_n (pc := 39) dc_W_set_39 rfl ?_
        refine g_iload_n (pc := 40) dc_W_set_40 rfl ?_
        refine q_iastore (pc := 41) 0 dc_W_set_41 hs.1 (by decide) (by decide) ?_
        have g1 : fr w w h (h.set 29 (.inl (1, 4, .inl (upd gs 0 (nI v))))) [29] := fr.st hs.1 rfl hs.2
        have hs1 : iA w (h.set 29 (.inl (1, 4, .inl (upd gs 0 (nI v))))) 29 4 (upd gs 0 (nI v)) := ⟨am_se (am_lt hs.1), hs.2⟩
        refine g_iconst (pc := 42) (v := 1) dc_W_set_42 rfl ?_
        exact g_zreturn dc_W_set_43 rfl rfl ⟨rfl, w, g1, _, hs1, seC_up hsP⟩
    · cases e2 : ixo x 9 with
      | none =>
        have hout := ixo_n (by decide) e2
        rw [show stG (nI 1) x = none by unfold stG; rw [e]; dsimp only; rw [show stmx 1 + 1 = 9 from rfl, e2]]
        show am_G X mt_W_set d 0 [some (.ref 0), some (.int 1), some (.int x)] [] h _
        refine g_iload_n (pc := 0) dc_W_set_0 rfl ?_
        refine g_if_lt (pc := 1) (tgt := 13) dc_W_set_1 rfl (fun hc => absurd hc (by decide)) (fun _ => ?_)
        refine g_iload_n (pc := 4) dc_W_set_4 rfl ?_
        refine g_aload_n (pc := 5) dc_W_set_5 rfl ?_
        refine g_getfield (pc := 6) dc_W_set_6 fl_W_47 hW.1 rfl ?_
        refine g_alen (pc := 9) dc_W_set_9 hs.1 (by decide) ?_
        refine q_icmp_lt (pc := 10) (tgt := 15) 1 4 dc_W_set_10 (by omega) (by omega) rfl (fun hc10 => ?_) (fun hc => absurd hc (by omega))
        refine g_iload_n (pc := 15) dc_W_set_15 rfl ?_
        refine g_gsLeast (pc := 16) dc_W_set_16 (am_t6 40 rfl rfl) ?_
        refine g_iload_n (pc := 19) dc_W_set_19 rfl ?_
        refine g_leastLoad (pc := 20) (v := 0) dc_W_set_20 (fun h9 => absurd h9 (by decide)) rfl ?_
        refine g_icmp_lt (pc := 21) (tgt := 33) dc_W_set_21 rfl (fun hc21 => ?_) (fun hc21 => ?_)
        · have hi21 : (x).toInt < (0 : Int) := Int32.lt_iff_toInt_lt.mp hc21
          refine g_iconst (pc := 33) (v := 0) dc_W_set_33 rfl ?_
          exact g_zreturn dc_W_set_34 rfl rfl ⟨rfl, rfl⟩
        · have hi21 : ¬ ((x).toInt < (0 : Int)) := fun h9 => hc21 (Int32.lt_iff_toInt_lt.mpr h9)
          refine g_iload_n (pc := 24) dc_W_set_24 rfl ?_
          refine g_gsMost (pc := 25) dc_W_set_25 (am_t6 42 rfl rfl) ?_
          refine g_iload_n (pc := 28) dc_W_set_28 rfl ?_
          refine g_mostLoad (pc := 29) (v := 8) dc_W_set_29 (fun h9 => absurd h9 (by decide)) rfl ?_
          refine g_icmp_le (pc := 30) (tgt := 35) dc_W_set_30 rfl (fun hc => absurd hc (fun h8 => hout.elim (fun h7 => absurd h7 (Int32.not_lt.mpr (Int32.le_trans (by decide) (Int32.not_lt.mp hc21)))) (fun h7 => absurd (Int32.le_trans h7 h8) (by decide)))) (fun hc30 => ?_)
          refine g_iconst (pc := 33) (v := 0) dc_W_set_33 rfl ?_
          exact g_zreturn dc_W_set_34 rfl rfl ⟨rfl, rfl⟩
      | some v =>
        obtain ⟨hv, rfl⟩ := ixo_s e2
        have hst : stG (nI 1) (nI v) = some (1, v) := by unfold stG; rw [e]; dsimp only; rw [show stmx 1 + 1 = 9 from rfl, e2]; dsimp only; rw [if_pos (show stmn 1 ≤ v from Nat.zero_le _)]
        rw [hst]
        show am_G X mt_W_set d 0 [some (.ref 0), some (.int 1), some (.int (nI v))] [] h _
        refine g_iload_n (pc := 0) dc_W_set_0 rfl ?_
        refine g_if_lt (pc := 1) (tgt := 13) dc_W_set_1 rfl (fun hc => absurd hc (by decide)) (fun _ => ?_)
        refine g_iload_n (pc := 4) dc_W_set_4 rfl ?_
        refine g_aload_n (pc := 5) dc_W_set_5 rfl ?_
        refine g_getfield (pc := 6) dc_W_set_6 fl_W_47 hW.1 rfl ?_
        refine g_alen (pc := 9) dc_W_set_9 hs.1 (by decide) ?_
        refine q_icmp_lt (pc := 10) (tgt := 15) 1 4 dc_W_set_10 (by omega) (by omega) rfl (fun hc10 => ?_) (fun hc => absurd hc (by omega))
        refine g_iload_n (pc := 15) dc_W_set_15 rfl ?_
        refine g_gsLeast (pc := 16) dc_W_set_16 (am_t6 40 rfl rfl) ?_
        refine g_iload_n (pc := 19) dc_W_set_19 rfl ?_
        refine g_leastLoad (pc := 20) (v := 0) dc_W_set_20 (fun h9 => absurd h9 (by decide)) rfl ?_
        refine q_icmp_lt (pc := 21) (tgt := 33) v 0 dc_W_set_21 (by omega) (by omega) rfl (fun hc => absurd hc (by omega)) (fun hc21 => ?_)
        refine g_iload_n (pc := 24) dc_W_set_24 rfl ?_
        refine g_gsMost (pc := 25) dc_W_set_25 (am_t6 42 rfl rfl) ?_
        refine g_iload_n (pc := 28) dc_W_set_28 rfl ?_
        refine g_mostLoad (pc := 29) (v := 8) dc_W_set_29 (fun h9 => absurd h9 (by decide)) rfl ?_
        refine q_icmp_le (pc := 30) (tgt := 35) v 8 dc_W_set_30 (by omega) (by omega) rfl (fun hc30 => ?_) (fun hc => absurd hc (by omega))
        refine g_aload_n (pc := 35) dc_W_set_35 rfl ?_
        refine g_getfield (pc := 36) dc_W_set_36 fl_W_47 hW.1 rfl ?_
        refine g_iload_n (pc := 39) dc_W_set_39 rfl ?_
        refine g_iload_n (pc := 40) dc_W_set_40 rfl ?_
        refine q_iastore (pc := 41) 1 dc_W_set_41 hs.1 (by decide) (by decide) ?_
        have g1 : fr w w h (h.set 29 (.inl (1, 4, .inl (upd gs 1 (nI v))))) [29] := fr.st hs.1 rfl hs.2
        have hs1 : iA w (h.set 29 (.inl (1, 4, .inl (upd gs 1 (nI v))))) 29 4 (upd gs 1 (nI v)) := ⟨am_se (am_lt hs.1), hs.2⟩
        refine g_iconst (pc := 42) (v := 1) dc_W_set_42 rfl ?_
        exact g_zreturn dc_W_set_43 rfl rfl ⟨rfl, w, g1, _, hs1, seC_up hsP⟩
    · cases e2 : ixo x 1001 with
      | none =>
        have hout := ixo_n (by decide) e2
        rw [show stG (nI 2) x = none by unfold stG; rw [e]; dsimp only; rw [show stmx 2 + 1 = 1001 from rfl, e2]]
        show am_G X mt_W_set d 0 [some (.ref 0), some (.int 2), some (.int x)] [] h _
        refine g_iload_n (pc := 0) dc_W_set_0 rfl ?_
        refine g_if_lt (pc := 1) (tgt := 13) dc_W_set_1 rfl (fun hc => absurd hc (by decide)) (fun _ => ?_)
        refine g_iload_n (pc := 4) dc_W_set_4 rfl ?_
        refine g_aload_n (pc := 5) dc_W_set_5 rfl ?_
        refine g_getfield (pc := 6) dc_W_set_6 fl_W_47 hW.1 rfl ?_
        refine g_alen (pc := 9) dc_W_set_9 hs.1 (by decide) ?_
        refine q_icmp_lt (pc := 10) (tgt := 15) 2 4 dc_W_set_10 (by omega) (by omega) rfl (fun hc10 => ?_) (fun hc => absurd hc (by omega))
        refine g_iload_n (pc := 15) dc_W_set_15 rfl ?_
        refine g_gsLeast (pc := 16) dc_W_set_16 (am_t6 40 rfl rfl) ?_
        refine g_iload_n (pc := 19) dc_W_set_19 rfl ?_
        refine g_leastLoad (pc := 20) (v := 0) dc_W_set_20 (fun h9 => absurd h9 (by decide)) rfl ?_
        refine g_icmp_lt (pc := 21) (tgt := 33) dc_W_set_21 rfl (fun hc21 => ?_) (fun hc21 => ?_)
        · have hi21 : (x).toInt < (0 : Int) := Int32.lt_iff_toInt_lt.mp hc21
          refine g_iconst (pc := 33) (v := 0) dc_W_set_33 rfl ?_
          exact g_zreturn dc_W_set_34 rfl rfl ⟨rfl, rfl⟩
        · have hi21 : ¬ ((x).toInt < (0 : Int)) := fun h9 => hc21 (Int32.lt_iff_toInt_lt.mpr h9)
          refine g_iload_n (pc := 24) dc_W_set_24 rfl ?_
          refine g_gsMost (pc := 25) dc_W_set_25 (am_t6 42 rfl rfl) ?_
          refine g_iload_n (pc := 28) dc_W_set_28 rfl ?_
          refine g_mostLoad (pc := 29) (v := 1000) dc_W_set_29 (fun h9 => absurd h9 (by decide)) rfl ?_
          refine g_icmp_le (pc := 30) (tgt := 35) dc_W_set_30 rfl (fun hc => absurd hc (fun h8 => hout.elim (fun h7 => absurd h7 (Int32.not_lt.mpr (Int32.le_trans (by decide) (Int32.not_lt.mp hc21)))) (fun h7 => absurd (Int32.le_trans h7 h8) (by decide)))) (fun hc30 => ?_)
          refine g_iconst (pc := 33) (v := 0) dc_W_set_33 rfl ?_
          exact g_zreturn dc_W_set_34 rfl rfl ⟨rfl, rfl⟩
      | some v =>
        obtain ⟨hv, rfl⟩ := ixo_s e2
        have hst : stG (nI 2) (nI v) = some (2, v) := by unfold stG; rw [e]; dsimp only; rw [show stmx 2 + 1 = 1001 from rfl, e2]; dsimp only; rw [if_pos (show stmn 2 ≤ v from Nat.zero_le _)]
        rw [hst]
        show am_G X mt_W_set d 0 [some (.ref 0), some (.int 2), some (.int (nI v))] [] h _
        refine g_iload_n (pc := 0) dc_W_set_0 rfl ?_
        refine g_if_lt (pc := 1) (tgt := 13) dc_W_set_1 rfl (fun hc => absurd hc (by decide)) (fun _ => ?_)
        refine g_iload_n (pc := 4) dc_W_set_4 rfl ?_
        refine g_aload_n (pc := 5) dc_W_set_5 rfl ?_
        refine g_getfield (pc := 6) dc_W_set_6 fl_W_47 hW.1 rfl ?_
        refine g_alen (pc := 9) dc_W_set_9 hs.1 (by decide) ?_
        refine q_icmp_lt (pc := 10) (tgt := 15) 2 4 dc_W_set_10 (by omega) (by omega) rfl (fun hc10 => ?_) (fun hc => absurd hc (by omega))
        refine g_iload_n (pc := 15) dc_W_set_15 rfl ?_
        refine g_gsLeast (pc := 16) dc_W_set_16 (am_t6 40 rfl rfl) ?_
        refine g_iload_n (pc := 19) dc_W_set_19 rfl ?_
        refine g_leastLoad (pc := 20) (v := 0) dc_W_set_20 (fun h9 => absurd h9 (by decide)) rfl ?_
        refine q_icmp_lt (pc := 21) (tgt := 33) v 0 dc_W_set_21 (by omega) (by omega) rfl (fun hc => absurd hc (by omega)) (fun hc21 => ?_)
        refine g_iload_n (pc := 24) dc_W_set_24 rfl ?_
        refine g_gsMost (pc := 25) dc_W_set_25 (am_t6 42 rfl rfl) ?_
        refine g_iload_n (pc := 28) dc_W_set_28 rfl ?_
        refine g_mostLoad (pc := 29) (v := 1000) dc_W_set_29 (fun h9 => absurd h9 (by decide)) rfl ?_
        refine q_icmp_le (pc := 30) (tgt := 35) v 1000 dc_W_set_30 (by omega) (by omega) rfl (fun hc30 => ?_) (fun hc => absurd hc (by omega))
        refine g_aload_n (pc := 35) dc_W_set_35 rfl ?_
        refine g_getfield (pc := 36) dc_W_set_36 fl_W_47 hW.1 rfl ?_
        refine g_iload_n (pc := 39) dc_W_set_39 rfl ?_
        refine g_iload_n (pc := 40) dc_W_set_40 rfl ?_
        refine q_iastore (pc := 41) 2 dc_W_set_41 hs.1 (by decide) (by decide) ?_
        have g1 : fr w w h (h.set 29 (.inl (1, 4, .inl (upd gs 2 (nI v))))) [29] := fr.st hs.1 rfl hs.2
        have hs1 : iA w (h.set 29 (.inl (1, 4, .inl (upd gs 2 (nI v))))) 29 4 (upd gs 2 (nI v)) := ⟨am_se (am_lt hs.1), hs.2⟩
        refine g_iconst (pc := 42) (v := 1) dc_W_set_42 rfl ?_
        exact g_zreturn dc_W_set_43 rfl rfl ⟨rfl, w, g1, _, hs1, seC_up hsP⟩
    · cases e2 : ixo x 51 with
      | none =>
        have hout := ixo_n (by decide) e2
        rw [show stG (nI 3) x = none by unfold stG; rw [e]; dsimp only; rw [show stmx 3 + 1 = 51 from rfl, e2]]
        show am_G X mt_W_set d 0 [some (.ref 0), some (.int 3), some (.int x)] [] h _
        refine g_iload_n (pc := 0) dc_W_set_0 rfl ?_
        refine g_if_lt (pc := 1) (tgt := 13) dc_W_set_1 rfl (fun hc => absurd hc (by decide)) (fun _ => ?_)
        refine g_iload_n (pc := 4) dc_W_set_4 rfl ?_
        refine g_aload_n (pc := 5) dc_W_set_5 rfl ?_
        refine g_getfield (pc := 6) dc_W_set_6 fl_W_47 hW.1 rfl ?_
        refine g_alen (pc := 9) dc_W_set_9 hs.1 (by decide) ?_
        refine q_icmp_lt (pc := 10) (tgt := 15) 3 4 dc_W_set_10 (by omega) (by omega) rfl (fun hc10 => ?_) (fun hc => absurd hc (by omega))
        refine g_iload_n (pc := 15) dc_W_set_15 rfl ?_
        refine g_gsLeast (pc := 16) dc_W_set_16 (am_t6 40 rfl rfl) ?_
        refine g_iload_n (pc := 19) dc_W_set_19 rfl ?_
        refine g_leastLoad (pc := 20) (v := 1) dc_W_set_20 (fun h9 => absurd h9 (by decide)) rfl ?_
        refine g_icmp_lt (pc := 21) (tgt := 33) dc_W_set_21 rfl (fun hc21 => ?_) (fun hc21 => ?_)
        · have hi21 : (x).toInt < (1 : Int) := Int32.lt_iff_toInt_lt.mp hc21
          refine g_iconst (pc := 33) (v := 0) dc_W_set_33 rfl ?_
          exact g_zreturn dc_W_set_34 rfl rfl ⟨rfl, rfl⟩
        · have hi21 : ¬ ((x).toInt < (1 : Int)) := fun h9 => hc21 (Int32.lt_iff_toInt_lt.mpr h9)
          refine g_iload_n (pc := 24) dc_W_set_24 rfl ?_
          refine g_gsMost (pc := 25) dc_W_set_25 (am_t6 42 rfl rfl) ?_
          refine g_iload_n (pc := 28) dc_W_set_28 rfl ?_
          refine g_mostLoad (pc := 29) (v := 50) dc_W_set_29 (fun h9 => absurd h9 (by decide)) rfl ?_
          refine g_icmp_le (pc := 30) (tgt := 35) dc_W_set_30 rfl (fun hc => absurd hc (fun h8 => hout.elim (fun h7 => absurd h7 (Int32.not_lt.mpr (Int32.le_trans (by decide) (Int32.not_lt.mp hc21)))) (fun h7 => absurd (Int32.le_trans h7 h8) (by decide)))) (fun hc30 => ?_)
          refine g_iconst (pc := 33) (v := 0) dc_W_set_33 rfl ?_
          exact g_zreturn dc_W_set_34 rfl rfl ⟨rfl, rfl⟩
      | some v =>
        obtain ⟨hv, rfl⟩ := ixo_s e2
        by_cases hv0 : v = 0
        · rw [show stG (nI 3) (nI v) = none by unfold stG; rw [e]; dsimp only; rw [show stmx 3 + 1 = 51 from rfl, e2]; dsimp only; rw [hv0]; rfl]
          rw [hv0]
          show am_G X mt_W_set d 0 [some (.ref 0), some (.int 3), some (.int 0)] [] h _
          refine g_iload_n (pc := 0) dc_W_set_0 rfl ?_
          refine g_if_lt (pc := 1) (tgt := 13) dc_W_set_1 rfl (fun hc => absurd hc (by decide)) (fun _ => ?_)
          refine g_iload_n (pc := 4) dc_W_set_4 rfl ?_
          refine g_aload_n (pc := 5) dc_W_set_5 rfl ?_
          refine g_getfield (pc := 6) dc_W_set_6 fl_W_47 hW.1 rfl ?_
          refine g_alen (pc := 9) dc_W_set_9 hs.1 (by decide) ?_
          refine q_icmp_lt (pc := 10) (tgt := 15) 3 4 dc_W_set_10 (by omega) (by omega) rfl (fun hc10 => ?_) (fun hc => absurd hc (by omega))
          refine g_iload_n (pc := 15) dc_W_set_15 rfl ?_
          refine g_gsLeast (pc := 16) dc_W_set_16 (am_t6 40 rfl rfl) ?_
          refine g_iload_n (pc := 19) dc_W_set_19 rfl ?_
          refine g_leastLoad (pc := 20) (v := 1) dc_W_set_20 (fun h9 => absurd h9 (by decide)) rfl ?_
          refine g_icmp_lt (pc := 21) (tgt := 33) dc_W_set_21 rfl (fun _ => ?_) (fun hc => absurd hc (by decide))
          refine g_iconst (pc := 33) (v := 0) dc_W_set_33 rfl ?_
          exact g_zreturn dc_W_set_34 rfl rfl ⟨rfl, rfl⟩
        · have hst : stG (nI 3) (nI v) = some (3, v) := by unfold stG; rw [e]; dsimp only; rw [show stmx 3 + 1 = 51 from rfl, e2]; dsimp only; rw [if_pos (show stmn 3 ≤ v by show 1 ≤ v; omega)]
          rw [hst]
          show am_G X mt_W_set d 0 [some (.ref 0), some (.int 3), some (.int (nI v))] [] h _
          refine g_iload_n (pc := 0) dc_W_set_0 rfl ?_
          refine g_if_lt (pc := 1) (tgt := 13) dc_W_set_1 rfl (fun hc => absurd hc (by decide)) (fun _ => ?_)
          refine g_iload_n (pc := 4) dc_W_set_4 rfl ?_
          refine g_aload_n (pc := 5) dc_W_set_5 rfl ?_
          refine g_getfield (pc := 6) dc_W_set_6 fl_W_47 hW.1 rfl ?_
          refine g_alen (pc := 9) dc_W_set_9 hs.1 (by decide) ?_
          refine q_icmp_lt (pc := 10) (tgt := 15) 3 4 dc_W_set_10 (by omega) (by omega) rfl (fun hc10 => ?_) (fun hc => absurd hc (by omega))
          refine g_iload_n (pc := 15) dc_W_set_15 rfl ?_
          refine g_gsLeast (pc := 16) dc_W_set_16 (am_t6 40 rfl rfl) ?_
          refine g_iload_n (pc := 19) dc_W_set_19 rfl ?_
          refine g_leastLoad (pc := 20) (v := 1) dc_W_set_20 (fun h9 => absurd h9 (by decide)) rfl ?_
          refine q_icmp_lt (pc := 21) (tgt := 33) v 1 dc_W_set_21 (by omega) (by omega) rfl (fun hc => absurd hc (by omega)) (fun hc21 => ?_)
          refine g_iload_n (pc := 24) dc_W_set_24 rfl ?_
          refine g_gsMost (pc := 25) dc_W_set_25 (am_t6 42 rfl rfl) ?_
          refine g_iload_n (pc := 28) dc_W_set_28 rfl ?_
          refine g_mostLoad (pc := 29) (v := 50) dc_W_set_29 (fun h9 => absurd h9 (by decide)) rfl ?_
          refine q_icmp_le (pc := 30) (tgt := 35) v 50 dc_W_set_30 (by omega) (by omega) rfl (fun hc30 => ?_) (fun hc => absurd hc (by omega))
          refine g_aload_n (pc := 35) dc_W_set_35 rfl ?_
          refine g_getfield (pc := 36) dc_W_set_36 fl_W_47 hW.1 rfl ?_
          refine g_iload_n (pc := 39) dc_W_set_39 rfl ?_
          refine g_iload_n (pc := 40) dc_W_set_40 rfl ?_
          refine q_iastore (pc := 41) 3 dc_W_set_41 hs.1 (by decide) (by decide) ?_
          have g1 : fr w w h (h.set 29 (.inl (1, 4, .inl (upd gs 3 (nI v))))) [29] := fr.st hs.1 rfl hs.2
          have hs1 : iA w (h.set 29 (.inl (1, 4, .inl (upd gs 3 (nI v))))) 29 4 (upd gs 3 (nI v)) := ⟨am_se (am_lt hs.1), hs.2⟩
          refine g_iconst (pc := 42) (v := 1) dc_W_set_42 rfl ?_
          exact g_zreturn dc_W_set_43 rfl rfl ⟨rfl, w, g1, _, hs1, seC_up hsP⟩
end E3S
