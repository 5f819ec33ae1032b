/-! ===== the class's crawl: its cells; who is met ===== -/
def cr7 (st : Bool) (ck an sv sn : Nat) (cr : Option Nat) : va_E := .inr (7, [.int (b1 st), .int (nI ck), .int (nI an), .ref 35, .ref 39, .ref 44, .ref 45, .ref 49, .ref 26, .ref 7, .ref 12, .ref 50, .ref 51, .ref 53, .ref 54, .int (nI sv), .int (nI sn), .int (er cr)])
def gr4 (w : Gw) (h : List va_E) (b : Nat) : Prop := cO w h b b (.inl (6, 4, .inr (.inr (.inr (.inr (fun j => if j < 4 then some (b + 1 + j) else none))))))
def iA (w : Gw) (h : List va_E) (i n : Nat) (g : Nat → Int32) : Prop := cO w h i i (.inl (1, n, .inl g))
/-- where the led-to stands among the known -/
def ldx (K : Kn) (i : Nat) : Option Nat := match K.ld i with
  | none => none
  | some E => nbr K.ad E
/-- the marks as the four arrays have them -/
def mkP (g0 g1 g2 g3 : Nat → Int32) (K : Kn) : Prop := ∀ i, i < K.ad.length → g0 i = nI (K.st i) ∧ g1 i = nI (K.dp i) ∧ g2 i = nI (K.ch i) ∧ g3 i = er (ldx K i)
def mk4 (w : Gw) (h : List va_E) (b : Nat) (K : Kn) : Prop := ∃ g0 g1 g2 g3, iA w h (b + 1) 250 g0 ∧ iA w h (b + 2) 250 g1 ∧ iA w h (b + 3) 250 g2 ∧ iA w h (b + 4) 250 g3 ∧ mkP g0 g1 g2 g3 K
def aTC (w : Gw) (h : List va_E) (K : Kn) : Prop := ∃ ga, iA w h 53 250 ga ∧ ∀ i, i < K.ad.length → ga i = er (K.at i)
def lmC (w : Gw) (h : List va_E) (lim : Nat → Nat) : Prop := ∃ gl, iA w h 50 4 gl ∧ ∀ i, i < 4 → gl i = nI (lim i)
/-- leads lead to known ones, or there is no room for more -/
def ldI (K : Kn) : Prop := ∀ i E, i < K.ad.length → K.ld i = some E → E ∈ K.ad ∨ K.ad.length = 250
section D1S
variable {X : am_X} {d i c k q s f t dp ch : Nat} {w w1 : Gw} {h h1 : List va_E} {M D : List Int32} {I : List Nat} {K : Kn} {lim : Nat → Nat} {g0 g1 g2 g3 : Nat → Int32} {n : Nat} {g : Nat → Int32}
theorem iA.fr (z : iA w h i n g) (f : fr w w1 h h1 I) (hi : ¬ i ∈ I) : iA w1 h1 i n g := cO.fr z f hi
theorem gr4.fr (z : gr4 w h i) (f : fr w w1 h h1 I) (hi : ¬ i ∈ I) : gr4 w1 h1 i := cO.fr z f hi
theorem mk4.fr (z : mk4 w h i K) (f : fr w w1 h h1 I) (j1 : ¬ (i + 1) ∈ I) (j2 : ¬ (i + 2) ∈ I) (j3 : ¬ (i + 3) ∈ I) (j4 : ¬ (i + 4) ∈ I) : mk4 w1 h1 i K := by
  obtain ⟨g0, g1, g2, g3, a0, a1, a2, a3, a4⟩ := z
  exact ⟨g0, g1, g2, g3, a0.fr f j1, a1.fr f j2, a2.fr f j3, a3.fr f j4, a4⟩
theorem aTC.fr (z : aTC w h K) (f : fr w w1 h h1 I) (hi : ¬ 53 ∈ I) : aTC w1 h1 K := by
  obtain ⟨ga, a1, a2⟩ := z
  exact ⟨ga, a1.fr f hi, a2⟩
theorem lmC.fr (z : lmC w h lim) (f : fr w w1 h h1 I) (hi : ¬ 50 ∈ I) : lmC w1 h1 lim := by
  obtain ⟨ga, a1, a2⟩ := z
  exact ⟨ga, a1.fr f hi, a2⟩
theorem nbr_app {T : List (List Int32)} {D E : List Int32} (h : E ∈ T) : nbr (T ++ [D]) E = nbr T E := by
  cases e : nbr T E with
  | none => exact absurd h (nbr_n e)
  | some k =>
    have hk := nbr_s e
    refine nbr_fst (by rw [List.length_append]; omega) (by rw [gT_app hk.1]; exact hk.2) (fun j hj h9 => ?_)
    rw [gT_app (by omega)] at h9
    unfold nbr at e
    split at e
    · injection e with e
      have := fx_in (P := fun j => decide (¬ gT T j = E)) (f := 0) (t := T.length) (j := j) (Nat.zero_le _) (by omega)
      exact (of_decide_eq_true this) h9
    · cases e
theorem c_C_isLess {st9 : Bool} {ck an sv sn : Nat} {cr : Option Nat} (hO : cO w h 34 34 (cr7 st9 ck an sv sn cr)) (hG : gr4 w h 39) (m1 : iA w h 41 250 g1) (m2 : iA w h 42 250 g2) (hK : mkP g0 g1 g2 g3 K) (hw : wfK K) (hi : i < K.ad.length) (hdp : dp ≤ 21) (hch : ch ≤ 9) : am_C X mt_C_isLess d [.ref 34, .int (nI dp), .int (nI ch), .int (nI i)] h (fun r h1 => r = some (.int (b1 (decide (dp < K.dp i ∨ dp = K.dp i ∧ ch < K.ch i)))) ∧ h1 = h) := by
  show am_G X mt_C_isLess d 0 [some (.ref 34), some (.int (nI dp)), some (.int (nI ch)), some (.int (nI i))] [] h _
  have h250 := hw.1
  have hwi := hw.2.2.2 i hi
  refine g_iload_n (pc := 0) dc_C_isLess_0 rfl ?_
  refine g_aload_n (pc := 1) dc_C_isLess_1 rfl ?_
  refine g_getfield (pc := 2) dc_C_isLess_2 fl_C_22 hO.1 rfl ?_
  refine g_iconst (pc := 5) (v := 1) dc_C_isLess_5 rfl ?_
  refine q_aaloadI (pc := 6) 1 dc_C_isLess_6 hG.1 (by decide) (by decide) rfl ?_
  refine g_iload_n (pc := 7) dc_C_isLess_7 rfl ?_
  refine q_ialoadV (pc := 8) i dc_C_isLess_8 m1.1 (by omega) (by decide) (v := nI (K.dp i)) (hK i (by omega)).2.1 ?_
  refine q_icmp_lt (pc := 9) (tgt := 36) dp (K.dp i) dc_C_isLess_9 (by omega) (by omega) rfl (fun hc9 => ?_) (fun hc9 => ?_)
  · refine g_iconst (pc := 36) (v := 1) dc_C_isLess_36 rfl ?_
    refine g_goto (pc := 37) (tgt := 41) dc_C_isLess_37 rfl ?_
    exact g_zreturn dc_C_isLess_41 rfl rfl ⟨congrArg (fun z => some (Value.int z)) (b1_t (by omega)), rfl⟩
  · refine g_iload_n (pc := 12) dc_C_isLess_12 rfl ?_
    refine g_aload_n (pc := 13) dc_C_isLess_13 rfl ?_
    refine g_getfield (pc := 14) dc_C_isLess_14 fl_C_22 hO.1 rfl ?_
    refine g_iconst (pc := 17) (v := 1) dc_C_isLess_17 rfl ?_
    refine q_aaloadI (pc := 18) 1 dc_C_isLess_18 hG.1 (by decide) (by decide) rfl ?_
    refine g_iload_n (pc := 19) dc_C_isLess_19 rfl ?_
    refine q_ialoadV (pc := 20) i dc_C_isLess_20 m1.1 (by omega) (by decide) (v := nI (K.dp i)) (hK i (by omega)).2.1 ?_
    refine q_icmp_ne (pc := 21) (tgt := 40) dp (K.dp i) dc_C_isLess_21 (by omega) (by omega) rfl (fun hc21 => ?_) (fun hc21 => ?_)
    · refine g_iconst (pc := 40) (v := 0) dc_C_isLess_40 rfl ?_
      exact g_zreturn dc_C_isLess_41 rfl rfl ⟨congrArg (fun z => some (Value.int z)) (b1_f (by omega)), rfl⟩
    · refine g_iload_n (pc := 24) dc_C_isLess_24 rfl ?_
      refine g_aload_n (pc := 25) dc_C_isLess_25 rfl ?_
      refine g_getfield (pc := 26) dc_C_isLess_26 fl_C_22 hO.1 rfl ?_
      refine g_iconst (pc := 29) (v := 2) dc_C_isLess_29 rfl ?_
      refine q_aaloadI (pc := 30) 2 dc_C_isLess_30 hG.1 (by decide) (by decide) rfl ?_
      refine g_iload_n (pc := 31) dc_C_isLess_31 rfl ?_
      refine q_ialoadV (pc := 32) i dc_C_isLess_32 m2.1 (by omega) (by decide) (v := nI (K.ch i)) (hK i (by omega)).2.2.1 ?_
      refine q_icmp_ge (pc := 33) (tgt := 40) ch (K.ch i) dc_C_isLess_33 (by omega) (by omega) rfl (fun hc33 => ?_) (fun hc33 => ?_)
      · refine g_iconst (pc := 40) (v := 0) dc_C_isLess_40 rfl ?_
        exact g_zreturn dc_C_isLess_41 rfl rfl ⟨congrArg (fun z => some (Value.int z)) (b1_f (by omega)), rfl⟩
      · refine g_iconst (pc := 36) (v := 1) dc_C_isLess_36 rfl ?_
        refine g_goto (pc := 37) (tgt := 41) dc_C_isLess_37 rfl ?_
        exact g_zreturn dc_C_isLess_41 rfl rfl ⟨congrArg (fun z => some (Value.int z)) (b1_t (by omega)), rfl⟩
theorem l_C_nextWaiting {st9 : Bool} {ck an sv sn : Nat} {cr : Option Nat} (hO : cO w h 34 34 (cr7 st9 ck an sv sn cr)) (hG : gr4 w h 39) (m0 : iA w h 40 250 g0) (m1 : iA w h 41 250 g1) (m2 : iA w h 42 250 g2) (hK : mkP g0 g1 g2 g3 K) (hR : rE w h 35 36 35 36 K.ad []) (hw : wfK K) : ∀ (n k : Nat), k + n = K.ad.length → am_G X mt_C_nextWaiting (d + 1) 4 [some (.ref 34), some (.int (er (nwf K k))), some (.int (nI k))] [] h (fun r h1 => r = some (.int (er (nxw K))) ∧ h1 = h)
  | 0, k, hn => by
    have hRo : ∃ e9, h[35]? = some (.inr (4, [.ref 36, .ref e9, .int (nI K.ad.length)])) := by obtain ⟨b9, e9, q1, -⟩ := hR; exact ⟨e9, q1.1⟩
    obtain ⟨e9, hRo⟩ := hRo
    have h250 := hw.1
    refine g_iload_n (pc := 4) dc_C_nextWaiting_4 rfl ?_
    refine g_aload_n (pc := 5) dc_C_nextWaiting_5 rfl ?_
    refine g_getfield (pc := 6) dc_C_nextWaiting_6 fl_C_14 hO.1 rfl ?_
    refine g_getfield (pc := 9) dc_C_nextWaiting_9 fl_C_91 hRo rfl ?_
    refine q_icmp_ge (pc := 12) (tgt := 64) k K.ad.length dc_C_nextWaiting_12 (by omega) (by omega) rfl (fun hc12 => ?_) (fun hc => absurd hc (by omega))
    refine g_iload_n (pc := 64) dc_C_nextWaiting_64 rfl ?_
    exact g_ireturn dc_C_nextWaiting_65 rfl ⟨by rw [show nxw K = nwf K k from by unfold nxw; rw [show k = K.ad.length by omega]], rfl⟩
  | n + 1, k, hn => by
    have hRo : ∃ e9, h[35]? = some (.inr (4, [.ref 36, .ref e9, .int (nI K.ad.length)])) := by obtain ⟨b9, e9, q1, -⟩ := hR; exact ⟨e9, q1.1⟩
    obtain ⟨e9, hRo⟩ := hRo
    have h250 := hw.1
    have hwk := hw.2.2.2 k (by omega)
    have es : nwf K (k + 1) = if K.st k = 1 ∧ lss K k (nwf K k) = true then some k else nwf K k := rfl
    obtain ⟨oo, hoo⟩ : ∃ oo, oo = nwf K k := ⟨_, rfl⟩
    rw [← hoo]
    have hnb : ∀ j, oo = some j → j < 2 ^ 31 := fun j hj => by have := (nwf_b k j (hoo.symm.trans hj)).1; omega
    refine g_iload_n (pc := 4) dc_C_nextWaiting_4 rfl ?_
    refine g_aload_n (pc := 5) dc_C_nextWaiting_5 rfl ?_
    refine g_getfield (pc := 6) dc_C_nextWaiting_6 fl_C_14 hO.1 rfl ?_
    refine g_getfield (pc := 9) dc_C_nextWaiting_9 fl_C_91 hRo rfl ?_
    refine q_icmp_ge (pc := 12) (tgt := 64) k K.ad.length dc_C_nextWaiting_12 (by omega) (by omega) rfl (fun hc => absurd hc (by omega)) (fun hc12 => ?_)
    refine g_aload_n (pc := 15) dc_C_nextWaiting_15 rfl ?_
    refine g_getfield (pc := 16) dc_C_nextWaiting_16 fl_C_22 hO.1 rfl ?_
    refine g_iconst (pc := 19) (v := 0) dc_C_nextWaiting_19 rfl ?_
    refine q_aaloadI (pc := 20) 0 dc_C_nextWaiting_20 hG.1 (by decide) (by decide) rfl ?_
    refine g_iload_n (pc := 21) dc_C_nextWaiting_21 rfl ?_
    refine q_ialoadV (pc := 22) k dc_C_nextWaiting_22 m0.1 (by omega) (by decide) (v := nI (K.st k)) (hK k (by omega)).1 ?_
    refine g_iconst (pc := 23) (v := 1) dc_C_nextWaiting_23 rfl ?_
    refine q_icmp_ne (pc := 24) (tgt := 58) (K.st k) 1 dc_C_nextWaiting_24 (by omega) (by omega) rfl (fun hc24 => ?_) (fun hc24 => ?_)
    · refine g_iinc (pc := 58) (v := (nI (k + 1))) dc_C_nextWaiting_58 rfl (nI_add k 1) (by decide) ?_
      show am_G X mt_C_nextWaiting _ 61 [some (.ref 34), some (.int (er oo)), some (.int (nI (k + 1)))] [] _ _
      refine g_goto (pc := 61) (tgt := 4) dc_C_nextWaiting_61 rfl ?_
      have e9 : nwf K (k + 1) = oo := by rw [es, if_neg (fun h9 => hc24 h9.1), hoo]
      have h9 := l_C_nextWaiting hO hG m0 m1 m2 hK hR hw n (k + 1) (by omega)
      rw [e9] at h9
      exact h9
    · refine g_iload_n (pc := 27) dc_C_nextWaiting_27 rfl ?_
      refine g_iconst (pc := 28) (v := (-1)) dc_C_nextWaiting_28 rfl ?_
      refine q_o_eq (pc := 29) (tgt := 56) dc_C_nextWaiting_29 hnb rfl (fun hc29 => ?_) (fun k29 hc29 => ?_)
      · rw [hc29]
        refine g_iload_n (pc := 56) dc_C_nextWaiting_56 rfl ?_
        refine g_istore_n (pc := 57) dc_C_nextWaiting_57 (by decide) ?_
        show am_G X mt_C_nextWaiting _ 58 [some (.ref 34), some (.int (nI k)), some (.int (nI k))] [] _ _
        refine g_iinc (pc := 58) (v := (nI (k + 1))) dc_C_nextWaiting_58 rfl (nI_add k 1) (by decide) ?_
        show am_G X mt_C_nextWaiting _ 61 [some (.ref 34), some (.int (nI k)), some (.int (nI (k + 1)))] [] _ _
        refine g_goto (pc := 61) (tgt := 4) dc_C_nextWaiting_61 rfl ?_
        have e9 : nwf K (k + 1) = some k := es.trans (if_pos ⟨hc24, by rw [← hoo, hc29]; rfl⟩)
        have h9 := l_C_nextWaiting hO hG m0 m1 m2 hK hR hw n (k + 1) (by omega)
        rw [e9] at h9
        exact h9
      · rw [hc29]
        rw [show er (some k29) = nI k29 from rfl]
        have hk29 := hnb k29 hc29
        have hk3 := nwf_b k k29 (hoo.symm.trans hc29)
        refine g_aload_n (pc := 32) dc_C_nextWaiting_32 rfl ?_
        refine g_aload_n (pc := 33) dc_C_nextWaiting_33 rfl ?_
        refine g_getfield (pc := 34) dc_C_nextWaiting_34 fl_C_22 hO.1 rfl ?_
        refine g_iconst (pc := 37) (v := 1) dc_C_nextWaiting_37 rfl ?_
        refine q_aaloadI (pc := 38) 1 dc_C_nextWaiting_38 hG.1 (by decide) (by decide) rfl ?_
        refine g_iload_n (pc := 39) dc_C_nextWaiting_39 rfl ?_
        refine q_ialoadV (pc := 40) k dc_C_nextWaiting_40 m1.1 (by omega) (by decide) (v := nI (K.dp k)) (hK k (by omega)).2.1 ?_
        refine g_aload_n (pc := 41) dc_C_nextWaiting_41 rfl ?_
        refine g_getfield (pc := 42) dc_C_nextWaiting_42 fl_C_22 hO.1 rfl ?_
        refine g_iconst (pc := 45) (v := 2) dc_C_nextWaiting_45 rfl ?_
        refine q_aaloadI (pc := 46) 2 dc_C_nextWaiting_46 hG.1 (by decide) (by decide) rfl ?_
        refine g_iload_n (pc := 47) dc_C_nextWaiting_47 rfl ?_
        refine q_ialoadV (pc := 48) k dc_C_nextWaiting_48 m2.1 (by omega) (by decide) (v := nI (K.ch k)) (hK k (by omega)).2.2.1 ?_
        refine g_iload_n (pc := 49) dc_C_nextWaiting_49 rfl ?_
        refine g_v3 (pc := 50) (M' := mt_C_isLess) dc_C_nextWaiting_50 mo_C_isLess im_C_isLess se_C_isLess ln_C_186 hO.1 rfl rfl (Nat.le_of_ble_eq_true rfl) (Nat.le_of_ble_eq_true rfl) (am_G.mono (c_C_isLess (d := d) hO hG m1 m2 hK hw (by omega) (by omega) (by omega)) ?_)
        intro r h1 hq
        rw [hq.1, hq.2]
        clear hq h1 r
        refine ⟨am_nti _, ?_⟩
        refine q_ifb_eq (pc := 53) (tgt := 58) dc_C_nextWaiting_53 rfl (fun hc53 => ?_) (fun hc53 => ?_)
        · refine g_iinc (pc := 58) (v := (nI (k + 1))) dc_C_nextWaiting_58 rfl (nI_add k 1) (by decide) ?_
          show am_G X mt_C_nextWaiting _ 61 [some (.ref 34), some (.int (nI k29)), some (.int (nI (k + 1)))] [] _ _
          refine g_goto (pc := 61) (tgt := 4) dc_C_nextWaiting_61 rfl ?_
          have e9 : nwf K (k + 1) = some k29 := es.trans ((if_neg (fun h9 => by have h8 := h9.2; rw [← hoo, hc29] at h8; exact absurd (of_decide_eq_true h8) (of_decide_eq_false hc53))).trans (hoo.symm.trans hc29))
          have h9 := l_C_nextWaiting hO hG m0 m1 m2 hK hR hw n (k + 1) (by omega)
          rw [e9] at h9
          exact h9
        · refine g_iload_n (pc := 56) dc_C_nextWaiting_56 rfl ?_
          refine g_istore_n (pc := 57) dc_C_nextWaiting_57 (by decide) ?_
          show am_G X mt_C_nextWaiting _ 58 [some (.ref 34), some (.int (nI k)), some (.int (nI k))] [] _ _
          refine g_iinc (pc := 58) (v := (nI (k + 1))) dc_C_nextWaiting_58 rfl (nI_add k 1) (by decide) ?_
          show am_G X mt_C_nextWaiting _ 61 [some (.ref 34), some (.int (nI k)), some (.int (nI (k + 1)))] [] _ _
          refine g_goto (pc := 61) (tgt := 4) dc_C_nextWaiting_61 rfl ?_
          have e9 : nwf K (k + 1) = some k := es.trans (if_pos ⟨hc24, by rw [← hoo, hc29]; exact decide_eq_true (of_decide_eq_true hc53)⟩)
          have h9 := l_C_nextWaiting hO hG m0 m1 m2 hK hR hw n (k + 1) (by omega)
          rw [e9] at h9
          exact h9
theorem c_C_nextWaiting {st9 : Bool} {ck an sv sn : Nat} {cr : Option Nat} (hO : cO w h 34 34 (cr7 st9 ck an sv sn cr)) (hG : gr4 w h 39) (m0 : iA w h 40 250 g0) (m1 : iA w h 41 250 g1) (m2 : iA w h 42 250 g2) (hK : mkP g0 g1 g2 g3 K) (hR : rE w h 35 36 35 36 K.ad []) (hw : wfK K) : am_C X mt_C_nextWaiting (d + 1) [.ref 34] h (fun r h1 => r = some (.int (er (nxw K))) ∧ h1 = h) := by
  show am_G X mt_C_nextWaiting (d + 1) 0 [some (.ref 34), none, none] [] h _
  refine g_iconst (pc := 0) (v := (-1)) dc_C_nextWaiting_0 rfl ?_
  refine g_istore_n (pc := 1) dc_C_nextWaiting_1 (by decide) ?_
  show am_G X mt_C_nextWaiting _ 2 [some (.ref 34), some (.int (-1)), none] [] _ _
  refine g_iconst (pc := 2) (v := 0) dc_C_nextWaiting_2 rfl ?_
  refine g_istore_n (pc := 3) dc_C_nextWaiting_3 (by decide) ?_
  show am_G X mt_C_nextWaiting _ 4 [some (.ref 34), some (.int (-1)), some (.int 0)] [] _ _
  exact l_C_nextWaiting hO hG m0 m1 m2 hK hR hw K.ad.length 0 (by omega)
theorem l_C_waiting {st9 : Bool} {ck an sv sn : Nat} {cr : Option Nat} (hO : cO w h 34 34 (cr7 st9 ck an sv sn cr)) (hG : gr4 w h 39) (m0 : iA w h 40 250 g0) (m1 : iA w h 41 250 g1) (m2 : iA w h 42 250 g2) (hK : mkP g0 g1 g2 g3 K) (hR : rE w h 35 36 35 36 K.ad []) (hw : wfK K) : ∀ (n k : Nat), k + n = K.ad.length → am_G X mt_C_waiting (d + 1) 4 [some (.ref 34), some (.int (nI (wtc K.st k))), some (.int (nI k))] [] h (fun r h1 => r = some (.int (nI (wtc K.st K.ad.length))) ∧ h1 = h)
  | 0, k, hn => by
    have hRo : ∃ e9, h[35]? = some (.inr (4, [.ref 36, .ref e9, .int (nI K.ad.length)])) := by obtain ⟨b9, e9, q1, -⟩ := hR; exact ⟨e9, q1.1⟩
    obtain ⟨e9, hRo⟩ := hRo
    have h250 := hw.1
    refine g_iload_n (pc := 4) dc_C_waiting_4 rfl ?_
    refine g_aload_n (pc := 5) dc_C_waiting_5 rfl ?_
    refine g_getfield (pc := 6) dc_C_waiting_6 fl_C_14 hO.1 rfl ?_
    refine g_getfield (pc := 9) dc_C_waiting_9 fl_C_91 hRo rfl ?_
    refine q_icmp_ge (pc := 12) (tgt := 36) k K.ad.length dc_C_waiting_12 (by omega) (by omega) rfl (fun hc12 => ?_) (fun hc => absurd hc (by omega))
    refine g_iload_n (pc := 36) dc_C_waiting_36 rfl ?_
    exact g_ireturn dc_C_waiting_37 rfl ⟨by rw [show k = K.ad.length by omega], rfl⟩
  | n + 1, k, hn => by
    have hRo : ∃ e9, h[35]? = some (.inr (4, [.ref 36, .ref e9, .int (nI K.ad.length)])) := by obtain ⟨b9, e9, q1, -⟩ := hR; exact ⟨e9, q1.1⟩
    obtain ⟨e9, hRo⟩ := hRo
    have h250 := hw.1
    have hwk := hw.2.2.2 k (by omega)
    have hwl := wtc_le (st := K.st) k
    refine g_iload_n (pc := 4) dc_C_waiting_4 rfl ?_
    refine g_aload_n (pc := 5) dc_C_waiting_5 rfl ?_
    refine g_getfield (pc := 6) dc_C_waiting_6 fl_C_14 hO.1 rfl ?_
    refine g_getfield (pc := 9) dc_C_waiting_9 fl_C_91 hRo rfl ?_
    refine q_icmp_ge (pc := 12) (tgt := 36) k K.ad.length dc_C_waiting_12 (by omega) (by omega) rfl (fun hc => absurd hc (by omega)) (fun hc12 => ?_)
    refine g_aload_n (pc := 15) dc_C_waiting_15 rfl ?_
    refine g_getfield (pc := 16) dc_C_waiting_16 fl_C_22 hO.1 rfl ?_
    refine g_iconst (pc := 19) (v := 0) dc_C_waiting_19 rfl ?_
    refine q_aaloadI (pc := 20) 0 dc_C_waiting_20 hG.1 (by decide) (by decide) rfl ?_
    refine g_iload_n (pc := 21) dc_C_waiting_21 rfl ?_
    refine q_ialoadV (pc := 22) k dc_C_waiting_22 m0.1 (by omega) (by decide) (v := nI (K.st k)) (hK k (by omega)).1 ?_
    refine g_iconst (pc := 23) (v := 1) dc_C_waiting_23 rfl ?_
    refine q_icmp_ne (pc := 24) (tgt := 30) (K.st k) 1 dc_C_waiting_24 (by omega) (by omega) rfl (fun hc24 => ?_) (fun hc24 => ?_)
    · refine g_iinc (pc := 30) (v := (nI (k + 1))) dc_C_waiting_30 rfl (nI_add k 1) (by decide) ?_
      show am_G X mt_C_waiting _ 33 [some (.ref 34), some (.int (nI (wtc K.st k))), some (.int (nI (k + 1)))] [] _ _
      refine g_goto (pc := 33) (tgt := 4) dc_C_waiting_33 rfl ?_
      have e9 : wtc K.st (k + 1) = wtc K.st k := if_neg hc24
      rw [← e9]
      exact l_C_waiting hO hG m0 m1 m2 hK hR hw n (k + 1) (by omega)
    · refine g_iinc (pc := 27) (v := (nI (wtc K.st k + 1))) dc_C_waiting_27 rfl (nI_add (wtc K.st k) 1) (by decide) ?_
      show am_G X mt_C_waiting _ 30 [some (.ref 34), some (.int (nI (wtc K.st k + 1))), some (.int (nI k))] [] _ _
      refine g_iinc (pc := 30) (v := (nI (k + 1))) dc_C_waiting_30 rfl (nI_add k 1) (by decide) ?_
      show am_G X mt_C_waiting _ 33 [some (.ref 34), some (.int (nI (wtc K.st k + 1))), some (.int (nI (k + 1)))] [] _ _
      refine g_goto (pc := 33) (tgt := 4) dc_C_waiting_33 rfl ?_
      have e9 : wtc K.st (k + 1) = wtc K.st k + 1 := if_pos hc24
      rw [← e9]
      exact l_C_waiting hO hG m0 m1 m2 hK hR hw n (k + 1) (by omega)
theorem c_C_waiting {st9 : Bool} {ck an sv sn : Nat} {cr : Option Nat} (hO : cO w h 34 34 (cr7 st9 ck an sv sn cr)) (hG : gr4 w h 39) (m0 : iA w h 40 250 g0) (m1 : iA w h 41 250 g1) (m2 : iA w h 42 250 g2) (hK : mkP g0 g1 g2 g3 K) (hR : rE w h 35 36 35 36 K.ad []) (hw : wfK K) : am_C X mt_C_waiting (d + 1) [.ref 34] h (fun r h1 => r = some (.int (nI (wtc K.st K.ad.length))) ∧ h1 = h) := by
  show am_G X mt_C_waiting (d + 1) 0 [some (.ref 34), none, none] [] h _
  refine g_iconst (pc := 0) (v := 0) dc_C_waiting_0 rfl ?_
  refine g_istore_n (pc := 1) dc_C_waiting_1 (by decide) ?_
  show am_G X mt_C_waiting _ 2 [some (.ref 34), some (.int 0), none] [] _ _
  refine g_iconst (pc := 2) (v := 0) dc_C_waiting_2 rfl ?_
  refine g_istore_n (pc := 3) dc_C_waiting_3 (by decide) ?_
  show am_G X mt_C_waiting _ 4 [some (.ref 34), some (.int 0), some (.int 0)] [] _ _
  exact l_C_waiting hO hG m0 m1 m2 hK hR hw K.ad.length 0 (by omega)
end D1S
