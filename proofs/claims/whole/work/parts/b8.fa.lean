/-! ===== where a link comes to: the model ===== -/
def ldT (K : Kn) : Prop := ∀ i, i < K.ad.length → (K.st i = 3 ↔ ¬ K.ld i = none)
section FAS
variable {X : am_X} {d k ka j i yk : Nat} {A B h : List va_E} {S : MS} {T Y U : List (List Int32)} {K : Kn} {v1 v3 : Int32}
theorem lst_s {Q : List (List Int32)} {x : List Int32} {b : Option Nat} (h : lst Q x j b) (e : gT Q j = x) : lst Q x (j + 1) (some j) := ⟨fun h9 => (by cases h9), fun i hi => by cases hi; exact ⟨Nat.lt_succ_self _, e⟩⟩
theorem lst_k {Q : List (List Int32)} {x : List Int32} {b : Option Nat} (h : lst Q x j b) (e : ¬ gT Q j = x) : lst Q x (j + 1) b := ⟨fun h9 i hi => by
  by_cases q : i = j
  · rw [q]; exact e
  · exact h.1 h9 i (by omega), fun i hi => ⟨Nat.lt_succ_of_lt (h.2 i hi).1, (h.2 i hi).2⟩⟩
theorem l66_M_comesTo (hA : A.length = 84) (hT : adT S T) (hY : txT S Y) (hY1 : Y.length ≤ 1100) (hY2 : ∀ j, j < Y.length → ofs Y (j + 1) ≤ 24000) (hK : knM S T Y K) (hw : wfK K) (hd : S.documents = (dcs K).length) (ha : ar3 S (dcs K) S.known) (hk : k < K.ad.length) (hs : K.st k = 2) : ∀ (n j : Nat) (b : Option Nat), j + n = (dcs K).length → lst (txs K (dcs K)) (K.tx k) j b → am_G X mt_M_comesTo (d + 2) 66 [some (.ref 84), some (.int v1), some (.int (nI k)), some (.int (er b)), some (.int (nI j))] [] (mput A S B) (fun r h1 => r = some (.int (er (nbr (txs K (dcs K)) (K.tx k)))) ∧ h1 = mput A S B)
  | 0, j, b, e, hb => by
    have h250 := hw.1
    have hl250 : (dcs K).length ≤ 250 := Nat.le_trans dfk_len (Nat.le_trans (srtK_len _) hw.1)
    have hnd : (txs K (dcs K)).Nodup := txs_nd hw (List.prefix_refl _)
    have hb2 : ∀ i, b = some i → i < 2 ^ 31 := fun i hi => by have := (hb.2 i hi).1; omega
    have ej : j = (txs K (dcs K)).length := by rw [txs_len]; omega
    rw [ej] at hb
    refine g_iload (pc := 66) dc_M_comesTo_66 rfl ?_
    refine g_aload_n (pc := 68) dc_M_comesTo_68 rfl ?_
    refine g_getfield (pc := 69) (v := .int (nI ((dcs K).length))) dc_M_comesTo_69 fl_M_467 (mp_o hA) (congrArg (fun z => some (Value.int (nI z))) hd) ?_
    refine q_icmp_ge (pc := 72) (tgt := 108) j ((dcs K).length) dc_M_comesTo_72 (by omega) (by omega) rfl (fun hc72 => ?_) (fun hc => absurd hc (by omega))
    refine g_iload_n (pc := 108) dc_M_comesTo_108 rfl ?_
    exact g_ireturn dc_M_comesTo_109 rfl ⟨by rw [lst_end hb hnd], rfl⟩
  | n + 1, j, b, e, hb => by
    have h250 := hw.1
    have hl250 : (dcs K).length ≤ 250 := Nat.le_trans dfk_len (Nat.le_trans (srtK_len _) hw.1)
    have hnd : (txs K (dcs K)).Nodup := txs_nd hw (List.prefix_refl _)
    have hj : j < (dcs K).length := by omega
    have hmm := dcs_mem (gN_mem hj)
    obtain ⟨y0, y1, y2, y3⟩ := (hK.2 _ hmm.1).2.2.2.2.2 hmm.2
    obtain ⟨yk, yk1, yk2, yk3⟩ := (hK.2 k hk).2.2.2.2.2 hs
    have ht : S.documentText j = nI y0 := (ha.2.1 j hj).trans y2
    refine g_iload (pc := 66) dc_M_comesTo_66 rfl ?_
    refine g_aload_n (pc := 68) dc_M_comesTo_68 rfl ?_
    refine g_getfield (pc := 69) (v := .int (nI ((dcs K).length))) dc_M_comesTo_69 fl_M_467 (mp_o hA) (congrArg (fun z => some (Value.int (nI z))) hd) ?_
    refine q_icmp_ge (pc := 72) (tgt := 108) j ((dcs K).length) dc_M_comesTo_72 (by omega) (by omega) rfl (fun hc => absurd hc (by omega)) (fun hc72 => ?_)
    refine g_aload_n (pc := 75) dc_M_comesTo_75 rfl ?_
    refine g_aload_n (pc := 76) dc_M_comesTo_76 rfl ?_
    refine g_getfield (pc := 77) dc_M_comesTo_77 fl_M_377 (mp_o hA) rfl ?_
    refine g_iload (pc := 80) dc_M_comesTo_80 rfl ?_
    refine q_ialoadV (pc := 82) j dc_M_comesTo_82 (mp_a hA 40 rfl) (by omega) (by omega) (v := (nI y0)) ht ?_
    refine g_aload_n (pc := 83) dc_M_comesTo_83 rfl ?_
    refine g_iload_n (pc := 84) dc_M_comesTo_84 rfl ?_
    refine g_iconst (pc := 85) (v := 5) dc_M_comesTo_85 rfl ?_
    refine g_v2 (pc := 86) (M' := mt_M_of) dc_M_comesTo_86 mo_M_of im_M_of se_M_of ln_M_415 (mp_o hA) rfl rfl (Nat.le_of_ble_eq_true rfl) (Nat.le_of_ble_eq_true rfl) (am_G.mono (c_M_of (d := d + 1) (i := k) (w := 5) hA (by omega) (by decide) yk2) ?_)
    intro r h1 hq
    rw [hq.1, hq.2]
    clear hq h1 r
    refine ⟨am_nti _, ?_⟩
    refine g_v2 (pc := 89) (M' := mt_M_isSameText) dc_M_comesTo_89 mo_M_isSameText im_M_isSameText se_M_isSameText ln_M_461 (mp_o hA) rfl rfl (Nat.le_of_ble_eq_true rfl) (Nat.le_of_ble_eq_true rfl) (am_G.mono (c_M_isSameText (d := d + 1) hA hY hY1 hY2 y1 yk1) ?_)
    intro r h1 hq
    rw [hq.1, hq.2]
    clear hq h1 r
    refine ⟨am_nti _, ?_⟩
    refine q_ifb_eq (pc := 92) (tgt := 100) dc_M_comesTo_92 rfl (fun hc92 => ?_) (fun hc92 => ?_)
    · refine g_iload_n (pc := 100) dc_M_comesTo_100 rfl ?_
      refine g_istore_n (pc := 101) dc_M_comesTo_101 (by decide) ?_
      show am_G X mt_M_comesTo _ 102 [some (.ref 84), some (.int v1), some (.int (nI k)), some (.int (er b)), some (.int (nI j))] [] _ _
      refine g_iinc (pc := 102) (v := (nI (j + 1))) dc_M_comesTo_102 rfl (nI_add j 1) (by decide) ?_
      show am_G X mt_M_comesTo _ 105 [some (.ref 84), some (.int v1), some (.int (nI k)), some (.int (er b)), some (.int (nI (j + 1)))] [] _ _
      refine g_goto (pc := 105) (tgt := 66) dc_M_comesTo_105 rfl ?_
      exact l66_M_comesTo hA hT hY hY1 hY2 hK hw hd ha hk hs n (j + 1) b (by omega) (lst_k hb (by rw [txs_g hj]; have h7 := of_decide_eq_false hc92; rw [y3, yk3] at h7; exact h7))
    · refine g_iload (pc := 95) dc_M_comesTo_95 rfl ?_
      refine g_goto (pc := 97) (tgt := 101) dc_M_comesTo_97 rfl ?_
      refine g_istore_n (pc := 101) dc_M_comesTo_101 (by decide) ?_
      show am_G X mt_M_comesTo _ 102 [some (.ref 84), some (.int v1), some (.int (nI k)), some (.int (nI j)), some (.int (nI j))] [] _ _
      refine g_iinc (pc := 102) (v := (nI (j + 1))) dc_M_comesTo_102 rfl (nI_add j 1) (by decide) ?_
      show am_G X mt_M_comesTo _ 105 [some (.ref 84), some (.int v1), some (.int (nI k)), some (.int (nI j)), some (.int (nI (j + 1)))] [] _ _
      refine g_goto (pc := 105) (tgt := 66) dc_M_comesTo_105 rfl ?_
      exact l66_M_comesTo hA hT hY hY1 hY2 hK hw hd ha hk hs n (j + 1) (some j) (by omega) (lst_s hb (by rw [txs_g hj]; have h7 := of_decide_eq_true hc92; rw [y3, yk3] at h7; exact h7))
theorem l45_M_comesTo (hA : A.length = 84) (hT : adT S T) (hY : txT S Y) (hY1 : Y.length ≤ 1100) (hY2 : ∀ j, j < Y.length → ofs Y (j + 1) ≤ 24000) (hK : knM S T Y K) (hw : wfK K) (hd : S.documents = (dcs K).length) (ha : ar3 S (dcs K) S.known) (hk : k < K.ad.length) : am_G X mt_M_comesTo (d + 2) 45 [some (.ref 84), some (.int v1), some (.int (nI k)), some (.int v3), none] [] (mput A S B) (fun r h1 => r = some (.int (er (if K.st k = 2 then nbr (txs K (dcs K)) (K.tx k) else none))) ∧ h1 = mput A S B) := by
  have h250 := hw.1
  have hst5 := (hw.2.2.2 k hk).2.1
  refine g_iload_n (pc := 45) dc_M_comesTo_45 rfl ?_
  refine q_if_lt (pc := 46) (tgt := 59) k dc_M_comesTo_46 (by omega) rfl ?_
  refine g_aload_n (pc := 49) dc_M_comesTo_49 rfl ?_
  refine g_iload_n (pc := 50) dc_M_comesTo_50 rfl ?_
  refine g_iconst (pc := 51) (v := 1) dc_M_comesTo_51 rfl ?_
  refine g_v2 (pc := 52) (M' := mt_M_of) dc_M_comesTo_52 mo_M_of im_M_of se_M_of ln_M_415 (mp_o hA) rfl rfl (Nat.le_of_ble_eq_true rfl) (Nat.le_of_ble_eq_true rfl) (am_G.mono (c1_M_of (d := d + 1) hA hK h250 hk) ?_)
  intro r h1 hq
  rw [hq.1, hq.2]
  clear hq h1 r
  refine ⟨am_nti _, ?_⟩
  refine g_iconst (pc := 55) (v := 2) dc_M_comesTo_55 rfl ?_
  refine q_icmp_eq (pc := 56) (tgt := 61) (K.st k) 2 dc_M_comesTo_56 (by omega) (by omega) rfl (fun hc56 => ?_) (fun hc56 => ?_)
  · refine g_iconst (pc := 61) (v := (-1)) dc_M_comesTo_61 rfl ?_
    refine g_istore_n (pc := 62) dc_M_comesTo_62 (by decide) ?_
    show am_G X mt_M_comesTo _ 63 [some (.ref 84), some (.int v1), some (.int (nI k)), some (.int (-1)), none] [] _ _
    refine g_iconst (pc := 63) (v := 0) dc_M_comesTo_63 rfl ?_
    refine g_istore (pc := 64) dc_M_comesTo_64 (by decide) ?_
    show am_G X mt_M_comesTo _ 66 [some (.ref 84), some (.int v1), some (.int (nI k)), some (.int (-1)), some (.int 0)] [] _ _
    rw [if_pos hc56]
    exact l66_M_comesTo hA hT hY hY1 hY2 hK hw hd ha hk hc56 (dcs K).length 0 none (Nat.zero_add _) ⟨fun _ j hj => absurd hj (Nat.not_lt_zero j), fun i hi => (by cases hi)⟩
  · refine g_iconst (pc := 59) (v := (-1)) dc_M_comesTo_59 rfl ?_
    exact g_ireturn dc_M_comesTo_60 rfl ⟨by rw [if_neg hc56]; rfl, rfl⟩
theorem l8_M_comesTo (hA : A.length = 84) (hT : adT S T) (hY : txT S Y) (hY1 : Y.length ≤ 1100) (hY2 : ∀ j, j < Y.length → ofs Y (j + 1) ≤ 24000) (hK : knM S T Y K) (hw : wfK K) (hd : S.documents = (dcs K).length) (ha : ar3 S (dcs K) S.known) (hlt : ldT K) : ∀ (f m k : Nat), m + f = 20 → k < K.ad.length → am_G X mt_M_comesTo (d + 2) 8 [some (.ref 84), some (.int v1), some (.int (nI k)), some (.int (nI m)), none] [] (mput A S B) (fun r h1 => r = some (.int (er (cmt K f k))) ∧ h1 = mput A S B)
  | 0, m, k, e, hk => by
    refine g_iload_n (pc := 8) dc_M_comesTo_8 rfl ?_
    refine g_bipush (pc := 9) (v := 20) dc_M_comesTo_9 rfl ?_
    refine q_icmp_ge (pc := 11) (tgt := 45) m 20 dc_M_comesTo_11 (by omega) (by omega) rfl (fun hc11 => ?_) (fun hc => absurd hc (by omega))
    exact l45_M_comesTo hA hT hY hY1 hY2 hK hw hd ha hk
  | f + 1, m, k, e, hk => by
    have h250 := hw.1
    have hst5 := (hw.2.2.2 k hk).2.1
    have hl3 := hlt k hk
    refine g_iload_n (pc := 8) dc_M_comesTo_8 rfl ?_
    refine g_bipush (pc := 9) (v := 20) dc_M_comesTo_9 rfl ?_
    refine q_icmp_ge (pc := 11) (tgt := 45) m 20 dc_M_comesTo_11 (by omega) (by omega) rfl (fun hc => absurd hc (by omega)) (fun hc11 => ?_)
    refine g_iload_n (pc := 14) dc_M_comesTo_14 rfl ?_
    refine q_if_lt (pc := 15) (tgt := 45) k dc_M_comesTo_15 (by omega) rfl ?_
    refine g_aload_n (pc := 18) dc_M_comesTo_18 rfl ?_
    refine g_iload_n (pc := 19) dc_M_comesTo_19 rfl ?_
    refine g_iconst (pc := 20) (v := 1) dc_M_comesTo_20 rfl ?_
    refine g_v2 (pc := 21) (M' := mt_M_of) dc_M_comesTo_21 mo_M_of im_M_of se_M_of ln_M_415 (mp_o hA) rfl rfl (Nat.le_of_ble_eq_true rfl) (Nat.le_of_ble_eq_true rfl) (am_G.mono (c1_M_of (d := d + 1) hA hK h250 hk) ?_)
    intro r h1 hq
    rw [hq.1, hq.2]
    clear hq h1 r
    refine ⟨am_nti _, ?_⟩
    refine g_iconst (pc := 24) (v := 3) dc_M_comesTo_24 rfl ?_
    refine q_icmp_ne (pc := 25) (tgt := 45) (K.st k) 3 dc_M_comesTo_25 (by omega) (by omega) rfl (fun hc25 => ?_) (fun hc25 => ?_)
    · have e9 : cmt K (f + 1) k = if K.st k = 2 then nbr (txs K (dcs K)) (K.tx k) else none := by
        by_cases h2 : K.st k = 2
        · rw [cmt_g h2, if_pos h2]
        · rw [cmt_s h2, if_neg h2]
          have h4 : K.ld k = none := Classical.byContradiction (fun h9 => hc25 (hl3.mpr h9))
          unfold ldx
          rw [h4]
      rw [e9]
      exact l45_M_comesTo hA hT hY hY1 hY2 hK hw hd ha hk
    · refine g_aload_n (pc := 28) dc_M_comesTo_28 rfl ?_
      refine g_aload_n (pc := 29) dc_M_comesTo_29 rfl ?_
      refine g_iload_n (pc := 30) dc_M_comesTo_30 rfl ?_
      refine g_iconst (pc := 31) (v := 4) dc_M_comesTo_31 rfl ?_
      have hE9 : ∃ E, K.ld k = some E := by cases hE : K.ld k with | none => exact absurd hE (hl3.mp hc25) | some E => exact ⟨E, rfl⟩
      obtain ⟨E, hE⟩ := hE9
      have hk5 := (hK.2 k hk).2.2.2.2.1
      rw [hE] at hk5
      obtain ⟨kb, kb1, kb2, kb3⟩ := hk5
      refine g_v2 (pc := 32) (M' := mt_M_of) dc_M_comesTo_32 mo_M_of im_M_of se_M_of ln_M_415 (mp_o hA) rfl rfl (Nat.le_of_ble_eq_true rfl) (Nat.le_of_ble_eq_true rfl) (am_G.mono (c_M_of (d := d + 1) (i := k) (w := 4) hA (by omega) (by decide) kb2) ?_)
      intro r h1 hq
      rw [hq.1, hq.2]
      clear hq h1 r
      refine ⟨am_nti _, ?_⟩
      refine g_v1 (pc := 35) (M' := mt_M_numberOf) dc_M_comesTo_35 mo_M_numberOf im_M_numberOf se_M_numberOf ln_M_418 (mp_o hA) rfl rfl (Nat.le_of_ble_eq_true rfl) (Nat.le_of_ble_eq_true rfl) (am_G.mono (c_M_numberOf (d := d) hA hT kb1 hK hw) ?_)
      intro r h9 hq
      rw [hq.1, hq.2, kb3]
      clear hq h9 r
      refine ⟨am_nti _, ?_⟩
      refine g_istore_n (pc := 38) dc_M_comesTo_38 (by decide) ?_
      show am_G X mt_M_comesTo _ 39 [some (.ref 84), some (.int v1), some (.int (er (nbr K.ad E))), some (.int (nI m)), none] [] _ _
      refine g_iinc (pc := 39) (v := (nI (m + 1))) dc_M_comesTo_39 rfl (nI_add m 1) (by decide) ?_
      show am_G X mt_M_comesTo _ 42 [some (.ref 84), some (.int v1), some (.int (er (nbr K.ad E))), some (.int (nI (m + 1))), none] [] _ _
      refine g_goto (pc := 42) (tgt := 8) dc_M_comesTo_42 rfl ?_
      cases hx : nbr K.ad E with
      | none =>
        rw [show cmt K (f + 1) k = none by rw [cmt_s (by rw [hc25]; decide)]; unfold ldx; rw [hE]; dsimp only; rw [hx]]
        show am_G X mt_M_comesTo (d + 2) 8 [some (.ref 84), some (.int v1), some (.int (-1)), some (.int (nI (m + 1))), none] [] (mput A S B) _
        refine g_iload_n (pc := 8) dc_M_comesTo_8 rfl ?_
        refine g_bipush (pc := 9) (v := 20) dc_M_comesTo_9 rfl ?_
        refine q_icmp_ge (pc := 11) (tgt := 45) (m + 1) 20 dc_M_comesTo_11 (by omega) (by omega) rfl (fun hc11 => ?_) (fun hc11 => ?_)
        · refine g_iload_n (pc := 45) dc_M_comesTo_45 rfl ?_
          refine g_if_lt (pc := 46) (tgt := 59) dc_M_comesTo_46 rfl (fun _ => ?_) (fun hc => absurd hc (by decide))
          refine g_iconst (pc := 59) (v := (-1)) dc_M_comesTo_59 rfl ?_
          exact g_ireturn dc_M_comesTo_60 rfl ⟨rfl, rfl⟩
        · refine g_iload_n (pc := 14) dc_M_comesTo_14 rfl ?_
          refine g_if_lt (pc := 15) (tgt := 45) dc_M_comesTo_15 rfl (fun _ => ?_) (fun hc => absurd hc (by decide))
          refine g_iload_n (pc := 45) dc_M_comesTo_45 rfl ?_
          refine g_if_lt (pc := 46) (tgt := 59) dc_M_comesTo_46 rfl (fun _ => ?_) (fun hc => absurd hc (by decide))
          refine g_iconst (pc := 59) (v := (-1)) dc_M_comesTo_59 rfl ?_
          exact g_ireturn dc_M_comesTo_60 rfl ⟨rfl, rfl⟩
      | some k2 =>
        rw [show cmt K (f + 1) k = cmt K f k2 by rw [cmt_s (by rw [hc25]; decide)]; unfold ldx; rw [hE]; dsimp only; rw [hx]]
        exact l8_M_comesTo hA hT hY hY1 hY2 hK hw hd ha hlt f (m + 1) k2 (by omega) (nbr_s hx).1
theorem c_M_comesTo (hA : A.length = 84) (hT : adT S T) (hY : txT S Y) (hY1 : Y.length ≤ 1100) (hY2 : ∀ j, j < Y.length → ofs Y (j + 1) ≤ 24000) (hK : knM S T Y K) (hw : wfK K) (hd : S.documents = (dcs K).length) (ha : ar3 S (dcs K) S.known) (hlt : ldT K) (hka : ka < T.length) : am_C X mt_M_comesTo (d + 2) [.ref 84, .int (nI ka)] (mput A S B) (fun r h1 => r = some (.int (er (cmo K (nbr K.ad (gT T ka))))) ∧ h1 = mput A S B) := by
  show am_G X mt_M_comesTo (d + 2) 0 [some (.ref 84), some (.int (nI ka)), none, none, none] [] (mput A S B) _
  refine g_aload_n (pc := 0) dc_M_comesTo_0 rfl ?_
  refine g_iload_n (pc := 1) dc_M_comesTo_1 rfl ?_
  refine g_v1 (pc := 2) (M' := mt_M_numberOf) dc_M_comesTo_2 mo_M_numberOf im_M_numberOf se_M_numberOf ln_M_418 (mp_o hA) rfl rfl (Nat.le_of_ble_eq_true rfl) (Nat.le_of_ble_eq_true rfl) (am_G.mono (c_M_numberOf (d := d) hA hT hka hK hw) ?_)
  intro r h1 hq
  rw [hq.1, hq.2]
  clear hq h1 r
  refine ⟨am_nti _, ?_⟩
  refine g_istore_n (pc := 5) dc_M_comesTo_5 (by decide) ?_
  show am_G X mt_M_comesTo _ 6 [some (.ref 84), some (.int (nI ka)), some (.int (er (nbr K.ad (gT T ka)))), none, none] [] _ _
  refine g_iconst (pc := 6) (v := 0) dc_M_comesTo_6 rfl ?_
  refine g_istore_n (pc := 7) dc_M_comesTo_7 (by decide) ?_
  show am_G X mt_M_comesTo _ 8 [some (.ref 84), some (.int (nI ka)), some (.int (er (nbr K.ad (gT T ka)))), some (.int 0), none] [] _ _
  cases hx : nbr K.ad (gT T ka) with
  | none =>
    show am_G X mt_M_comesTo (d + 2) 8 [some (.ref 84), some (.int (nI ka)), some (.int (-1)), some (.int 0), none] [] (mput A S B) _
    refine g_iload_n (pc := 8) dc_M_comesTo_8 rfl ?_
    refine g_bipush (pc := 9) (v := 20) dc_M_comesTo_9 rfl ?_
    refine g_icmp_ge (pc := 11) (tgt := 45) dc_M_comesTo_11 rfl (fun hc => absurd hc (by decide)) (fun _ => ?_)
    refine g_iload_n (pc := 14) dc_M_comesTo_14 rfl ?_
    refine g_if_lt (pc := 15) (tgt := 45) dc_M_comesTo_15 rfl (fun _ => ?_) (fun hc => absurd hc (by decide))
    refine g_iload_n (pc := 45) dc_M_comesTo_45 rfl ?_
    refine g_if_lt (pc := 46) (tgt := 59) dc_M_comesTo_46 rfl (fun _ => ?_) (fun hc => absurd hc (by decide))
    refine g_iconst (pc := 59) (v := (-1)) dc_M_comesTo_59 rfl ?_
    exact g_ireturn dc_M_comesTo_60 rfl ⟨rfl, rfl⟩
  | some k2 =>
    exact l8_M_comesTo hA hT hY hY1 hY2 hK hw hd ha hlt 20 0 k2 rfl (nbr_s hx).1
end FAS
