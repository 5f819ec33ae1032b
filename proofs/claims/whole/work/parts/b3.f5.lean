/-! ===== the model: is it the first of its text ===== -/
def ifk (K : Kn) (i j : Nat) : Bool := decide (K.st i = 2 ∧ ∀ y, y < j → K.st y = 2 → ¬ y = i → K.tx y = K.tx i → bfi K i y = true)
section F5S
variable {X : am_X} {d k ka j i : Nat} {A B h : List va_E} {S : MS} {T Y U : List (List Int32)} {K : Kn}
theorem ifk_end : ifk K i K.ad.length = (decide (K.st i = 2) && isF K i) := by
  unfold ifk isF
  rw [Bool.decide_and]
theorem ifk_s (h : ifk K i j = true) (hj : K.st j = 2 → ¬ j = i → K.tx j = K.tx i → bfi K i j = true) : ifk K i (j + 1) = true := by
  have h9 := of_decide_eq_true h
  refine decide_eq_true ⟨h9.1, fun y hy a b c => ?_⟩
  by_cases e : y = j
  · rw [e] at a b c ⊢; exact hj a b c
  · exact h9.2 y (by omega) a b c
theorem ifk_n (hj : j < k) (h1 : K.st j = 2) (h2 : ¬ j = i) (h3 : K.tx j = K.tx i) (h4 : bfi K i j = false) : ifk K i k = false := decide_eq_false (fun h9 => by
  have := h9.2 j hj h1 h2 h3
  rw [h4] at this
  cases this)
theorem l18_M_isFirst (hA : A.length = 84) (hT : adT S T) (hY : txT S Y) (hY1 : Y.length ≤ 1100) (hY2 : ∀ j, j < Y.length → ofs Y (j + 1) ≤ 24000) (hK : knM S T Y K) (hw : wfK K) (hi : i < K.ad.length) (hs : K.st i = 2) : ∀ n j : Nat, j + n = K.ad.length → ifk K i j = true → am_G X mt_M_isFirst (d + 1) 18 [some (.ref 84), some (.int (nI i)), some (.int 1), some (.int (nI j))] [] (mput A S B) (fun r h1 => r = some (.int (b1 (ifk K i K.ad.length))) ∧ h1 = mput A S B)
  | 0, j, e, hf => by
    have h250 := hw.1
    refine g_iload_n (pc := 18) dc_M_isFirst_18 rfl ?_
    refine g_aload_n (pc := 19) dc_M_isFirst_19 rfl ?_
    refine g_getfield (pc := 20) (v := .int (nI K.ad.length)) dc_M_isFirst_20 fl_M_412 (mp_o hA) (congrArg (fun z => some (Value.int (nI z))) hK.1) ?_
    refine q_icmp_ge (pc := 23) (tgt := 95) j K.ad.length dc_M_isFirst_23 (by omega) (by omega) rfl (fun hc23 => ?_) (fun hc => absurd hc (by omega))
    refine g_iload_n (pc := 95) dc_M_isFirst_95 rfl ?_
    exact g_zreturn dc_M_isFirst_96 rfl rfl ⟨by rw [← show j = K.ad.length by omega, hf]; rfl, rfl⟩
  | n + 1, j, e, hf => by
    have h250 := hw.1
    have hj : j < K.ad.length := by omega
    have hst5 := (hw.2.2.2 j hj).2.1
    obtain ⟨kj, kj1, kj2, kj3⟩ := (hK.2 j hj).1
    obtain ⟨ki, ki1, ki2, ki3⟩ := (hK.2 i hi).1
    obtain ⟨yi, yi1, yi2, yi3⟩ := (hK.2 i hi).2.2.2.2.2 hs
    refine g_iload_n (pc := 18) dc_M_isFirst_18 rfl ?_
    refine g_aload_n (pc := 19) dc_M_isFirst_19 rfl ?_
    refine g_getfield (pc := 20) (v := .int (nI K.ad.length)) dc_M_isFirst_20 fl_M_412 (mp_o hA) (congrArg (fun z => some (Value.int (nI z))) hK.1) ?_
    refine q_icmp_ge (pc := 23) (tgt := 95) j K.ad.length dc_M_isFirst_23 (by omega) (by omega) rfl (fun hc => absurd hc (by omega)) (fun hc23 => ?_)
    refine g_iload_n (pc := 26) dc_M_isFirst_26 rfl ?_
    refine g_if_eq (pc := 27) (tgt := 95) dc_M_isFirst_27 rfl (fun hc => absurd hc (by decide)) (fun _ => ?_)
    refine g_iload_n (pc := 30) dc_M_isFirst_30 rfl ?_
    refine g_iload_n (pc := 31) dc_M_isFirst_31 rfl ?_
    refine q_icmp_eq (pc := 32) (tgt := 83) j i dc_M_isFirst_32 (by omega) (by omega) rfl (fun hc32 => ?_) (fun hc32 => ?_)
    · refine g_iconst (pc := 83) (v := 1) dc_M_isFirst_83 rfl ?_
      refine g_goto (pc := 84) (tgt := 88) dc_M_isFirst_84 rfl ?_
      refine g_istore_n (pc := 88) dc_M_isFirst_88 (by decide) ?_
      show am_G X mt_M_isFirst _ 89 [some (.ref 84), some (.int (nI i)), some (.int 1), some (.int (nI j))] [] _ _
      refine g_iinc (pc := 89) (v := (nI (j + 1))) dc_M_isFirst_89 rfl (nI_add j 1) (by decide) ?_
      show am_G X mt_M_isFirst _ 92 [some (.ref 84), some (.int (nI i)), some (.int 1), some (.int (nI (j + 1)))] [] _ _
      refine g_goto (pc := 92) (tgt := 18) dc_M_isFirst_92 rfl ?_
      exact l18_M_isFirst hA hT hY hY1 hY2 hK hw hi hs n (j + 1) (by omega) (ifk_s hf (fun _ h8 => absurd hc32 h8))
    · refine g_aload_n (pc := 35) dc_M_isFirst_35 rfl ?_
      refine g_iload_n (pc := 36) dc_M_isFirst_36 rfl ?_
      refine g_iconst (pc := 37) (v := 1) dc_M_isFirst_37 rfl ?_
      refine g_v2 (pc := 38) (M' := mt_M_of) dc_M_isFirst_38 mo_M_of im_M_of se_M_of ln_M_415 (mp_o hA) rfl rfl (Nat.le_of_ble_eq_true rfl) (Nat.le_of_ble_eq_true rfl) (am_G.mono (c1_M_of (d := d) hA hK h250 hj) ?_)
      intro r h1 hq
      rw [hq.1, hq.2]
      clear hq h1 r
      refine ⟨am_nti _, ?_⟩
      refine g_iconst (pc := 41) (v := 2) dc_M_isFirst_41 rfl ?_
      refine q_icmp_ne (pc := 42) (tgt := 83) (K.st j) 2 dc_M_isFirst_42 (by omega) (by omega) rfl (fun hc42 => ?_) (fun hc42 => ?_)
      · refine g_iconst (pc := 83) (v := 1) dc_M_isFirst_83 rfl ?_
        refine g_goto (pc := 84) (tgt := 88) dc_M_isFirst_84 rfl ?_
        refine g_istore_n (pc := 88) dc_M_isFirst_88 (by decide) ?_
        show am_G X mt_M_isFirst _ 89 [some (.ref 84), some (.int (nI i)), some (.int 1), some (.int (nI j))] [] _ _
        refine g_iinc (pc := 89) (v := (nI (j + 1))) dc_M_isFirst_89 rfl (nI_add j 1) (by decide) ?_
        show am_G X mt_M_isFirst _ 92 [some (.ref 84), some (.int (nI i)), some (.int 1), some (.int (nI (j + 1)))] [] _ _
        refine g_goto (pc := 92) (tgt := 18) dc_M_isFirst_92 rfl ?_
        exact l18_M_isFirst hA hT hY hY1 hY2 hK hw hi hs n (j + 1) (by omega) (ifk_s hf (fun h8 => absurd h8 hc42))
      · refine g_aload_n (pc := 45) dc_M_isFirst_45 rfl ?_
        refine g_aload_n (pc := 46) dc_M_isFirst_46 rfl ?_
        refine g_iload_n (pc := 47) dc_M_isFirst_47 rfl ?_
        refine g_iconst (pc := 48) (v := 5) dc_M_isFirst_48 rfl ?_
        obtain ⟨yj, yj1, yj2, yj3⟩ := (hK.2 j hj).2.2.2.2.2 hc42
        refine g_v2 (pc := 49) (M' := mt_M_of) dc_M_isFirst_49 mo_M_of im_M_of se_M_of ln_M_415 (mp_o hA) rfl rfl (Nat.le_of_ble_eq_true rfl) (Nat.le_of_ble_eq_true rfl) (am_G.mono (c_M_of (d := d) (i := j) (w := 5) hA (by omega) (by decide) yj2) ?_)
        intro r h1 hq
        rw [hq.1, hq.2]
        clear hq h1 r
        refine ⟨am_nti _, ?_⟩
        refine g_aload_n (pc := 52) dc_M_isFirst_52 rfl ?_
        refine g_iload_n (pc := 53) dc_M_isFirst_53 rfl ?_
        refine g_iconst (pc := 54) (v := 5) dc_M_isFirst_54 rfl ?_
        refine g_v2 (pc := 55) (M' := mt_M_of) dc_M_isFirst_55 mo_M_of im_M_of se_M_of ln_M_415 (mp_o hA) rfl rfl (Nat.le_of_ble_eq_true rfl) (Nat.le_of_ble_eq_true rfl) (am_G.mono (c_M_of (d := d) (i := i) (w := 5) hA (by omega) (by decide) yi2) ?_)
        intro r h1 hq
        rw [hq.1, hq.2]
        clear hq h1 r
        refine ⟨am_nti _, ?_⟩
        refine g_v2 (pc := 58) (M' := mt_M_isSameText) dc_M_isFirst_58 mo_M_isSameText im_M_isSameText se_M_isSameText ln_M_461 (mp_o hA) rfl rfl (Nat.le_of_ble_eq_true rfl) (Nat.le_of_ble_eq_true rfl) (am_G.mono (c_M_isSameText (d := d) hA hY hY1 hY2 yj1 yi1) ?_)
        intro r h1 hq
        rw [hq.1, hq.2]
        clear hq h1 r
        refine ⟨am_nti _, ?_⟩
        refine q_ifb_eq (pc := 61) (tgt := 83) dc_M_isFirst_61 rfl (fun hc61 => ?_) (fun hc61 => ?_)
        · refine g_iconst (pc := 83) (v := 1) dc_M_isFirst_83 rfl ?_
          refine g_goto (pc := 84) (tgt := 88) dc_M_isFirst_84 rfl ?_
          refine g_istore_n (pc := 88) dc_M_isFirst_88 (by decide) ?_
          show am_G X mt_M_isFirst _ 89 [some (.ref 84), some (.int (nI i)), some (.int 1), some (.int (nI j))] [] _ _
          refine g_iinc (pc := 89) (v := (nI (j + 1))) dc_M_isFirst_89 rfl (nI_add j 1) (by decide) ?_
          show am_G X mt_M_isFirst _ 92 [some (.ref 84), some (.int (nI i)), some (.int 1), some (.int (nI (j + 1)))] [] _ _
          refine g_goto (pc := 92) (tgt := 18) dc_M_isFirst_92 rfl ?_
          exact l18_M_isFirst hA hT hY hY1 hY2 hK hw hi hs n (j + 1) (by omega) (ifk_s hf (fun _ _ h8 => absurd h8 (by have h7 := of_decide_eq_false hc61; rw [yi3, yj3] at h7; exact h7)))
        · refine g_aload_n (pc := 64) dc_M_isFirst_64 rfl ?_
          refine g_aload_n (pc := 65) dc_M_isFirst_65 rfl ?_
          refine g_iload_n (pc := 66) dc_M_isFirst_66 rfl ?_
          refine g_iconst (pc := 67) (v := 0) dc_M_isFirst_67 rfl ?_
          refine g_v2 (pc := 68) (M' := mt_M_of) dc_M_isFirst_68 mo_M_of im_M_of se_M_of ln_M_415 (mp_o hA) rfl rfl (Nat.le_of_ble_eq_true rfl) (Nat.le_of_ble_eq_true rfl) (am_G.mono (c_M_of (d := d) (i := i) (w := 0) hA (by omega) (by decide) ki2) ?_)
          intro r h1 hq
          rw [hq.1, hq.2]
          clear hq h1 r
          refine ⟨am_nti _, ?_⟩
          refine g_aload_n (pc := 71) dc_M_isFirst_71 rfl ?_
          refine g_iload_n (pc := 72) dc_M_isFirst_72 rfl ?_
          refine g_iconst (pc := 73) (v := 0) dc_M_isFirst_73 rfl ?_
          refine g_v2 (pc := 74) (M' := mt_M_of) dc_M_isFirst_74 mo_M_of im_M_of se_M_of ln_M_415 (mp_o hA) rfl rfl (Nat.le_of_ble_eq_true rfl) (Nat.le_of_ble_eq_true rfl) (am_G.mono (c_M_of (d := d) (i := j) (w := 0) hA (by omega) (by decide) kj2) ?_)
          intro r h1 hq
          rw [hq.1, hq.2]
          clear hq h1 r
          refine ⟨am_nti _, ?_⟩
          refine g_v2 (pc := 77) (M' := mt_M_isBefore) dc_M_isFirst_77 mo_M_isBefore im_M_isBefore se_M_isBefore ln_M_464 (mp_o hA) rfl rfl (Nat.le_of_ble_eq_true rfl) (Nat.le_of_ble_eq_true rfl) (am_G.mono (c_M_isBefore (d := d) hA hT ki1 kj1) ?_)
          intro r h1 hq
          rw [hq.1, hq.2]
          clear hq h1 r
          refine ⟨am_nti _, ?_⟩
          refine q_ifb_eq (pc := 80) (tgt := 87) dc_M_isFirst_80 rfl (fun hc80 => ?_) (fun hc80 => ?_)
          · refine g_iconst (pc := 87) (v := 0) dc_M_isFirst_87 rfl ?_
            refine g_istore_n (pc := 88) dc_M_isFirst_88 (by decide) ?_
            show am_G X mt_M_isFirst _ 89 [some (.ref 84), some (.int (nI i)), some (.int 0), some (.int (nI j))] [] _ _
            refine g_iinc (pc := 89) (v := (nI (j + 1))) dc_M_isFirst_89 rfl (nI_add j 1) (by decide) ?_
            show am_G X mt_M_isFirst _ 92 [some (.ref 84), some (.int (nI i)), some (.int 0), some (.int (nI (j + 1)))] [] _ _
            refine g_goto (pc := 92) (tgt := 18) dc_M_isFirst_92 rfl ?_
            have hz : ifk K i K.ad.length = false := ifk_n hj hc42 hc32 (by have h7 := of_decide_eq_true hc61; rw [yi3, yj3] at h7; exact h7) (by have h7 := hc80; rw [ki3, kj3] at h7; exact h7)
            refine g_iload_n (pc := 18) dc_M_isFirst_18 rfl ?_
            refine g_aload_n (pc := 19) dc_M_isFirst_19 rfl ?_
            refine g_getfield (pc := 20) (v := .int (nI K.ad.length)) dc_M_isFirst_20 fl_M_412 (mp_o hA) (congrArg (fun z => some (Value.int (nI z))) hK.1) ?_
            refine q_icmp_ge (pc := 23) (tgt := 95) (j + 1) K.ad.length dc_M_isFirst_23 (by omega) (by omega) rfl (fun hc23 => ?_) (fun hc23 => ?_)
            · refine g_iload_n (pc := 95) dc_M_isFirst_95 rfl ?_
              exact g_zreturn dc_M_isFirst_96 rfl rfl ⟨by rw [hz]; rfl, rfl⟩
            · refine g_iload_n (pc := 26) dc_M_isFirst_26 rfl ?_
              refine g_if_eq (pc := 27) (tgt := 95) dc_M_isFirst_27 rfl (fun _ => ?_) (fun hc => absurd hc (by decide))
              refine g_iload_n (pc := 95) dc_M_isFirst_95 rfl ?_
              exact g_zreturn dc_M_isFirst_96 rfl rfl ⟨by rw [hz]; rfl, rfl⟩
          · refine g_iconst (pc := 83) (v := 1) dc_M_isFirst_83 rfl ?_
            refine g_goto (pc := 84) (tgt := 88) dc_M_isFirst_84 rfl ?_
            refine g_istore_n (pc := 88) dc_M_isFirst_88 (by decide) ?_
            show am_G X mt_M_isFirst _ 89 [some (.ref 84), some (.int (nI i)), some (.int 1), some (.int (nI j))] [] _ _
            refine g_iinc (pc := 89) (v := (nI (j + 1))) dc_M_isFirst_89 rfl (nI_add j 1) (by decide) ?_
            show am_G X mt_M_isFirst _ 92 [some (.ref 84), some (.int (nI i)), some (.int 1), some (.int (nI (j + 1)))] [] _ _
            refine g_goto (pc := 92) (tgt := 18) dc_M_isFirst_92 rfl ?_
            exact l18_M_isFirst hA hT hY hY1 hY2 hK hw hi hs n (j + 1) (by omega) (ifk_s hf (fun _ _ _ => by have h7 := hc80; rw [ki3, kj3] at h7; exact h7))
theorem c_M_isFirst (hA : A.length = 84) (hT : adT S T) (hY : txT S Y) (hY1 : Y.length ≤ 1100) (hY2 : ∀ j, j < Y.length → ofs Y (j + 1) ≤ 24000) (hK : knM S T Y K) (hw : wfK K) (hi : i < K.ad.length) : am_C X mt_M_isFirst (d + 1) [.ref 84, .int (nI i)] (mput A S B) (fun r h1 => r = some (.int (b1 (ifk K i K.ad.length))) ∧ h1 = mput A S B) := by
  show am_G X mt_M_isFirst (d + 1) 0 [some (.ref 84), some (.int (nI i)), none, none] [] (mput A S B) _
  have h250 := hw.1
  have hst5 := (hw.2.2.2 i hi).2.1
  refine g_aload_n (pc := 0) dc_M_isFirst_0 rfl ?_
  refine g_iload_n (pc := 1) dc_M_isFirst_1 rfl ?_
  refine g_iconst (pc := 2) (v := 1) dc_M_isFirst_2 rfl ?_
  refine g_v2 (pc := 3) (M' := mt_M_of) dc_M_isFirst_3 mo_M_of im_M_of se_M_of ln_M_415 (mp_o hA) rfl rfl (Nat.le_of_ble_eq_true rfl) (Nat.le_of_ble_eq_true rfl) (am_G.mono (c1_M_of (d := d) hA hK h250 hi) ?_)
  intro r h1 hq
  rw [hq.1, hq.2]
  clear hq h1 r
  refine ⟨am_nti _, ?_⟩
  refine g_iconst (pc := 6) (v := 2) dc_M_isFirst_6 rfl ?_
  refine q_icmp_ne (pc := 7) (tgt := 14) (K.st i) 2 dc_M_isFirst_7 (by omega) (by omega) rfl (fun hc7 => ?_) (fun hc7 => ?_)
  · refine g_iconst (pc := 14) (v := 0) dc_M_isFirst_14 rfl ?_
    refine g_istore_n (pc := 15) dc_M_isFirst_15 (by decide) ?_
    show am_G X mt_M_isFirst _ 16 [some (.ref 84), some (.int (nI i)), some (.int 0), none] [] _ _
    refine g_iconst (pc := 16) (v := 0) dc_M_isFirst_16 rfl ?_
    refine g_istore_n (pc := 17) dc_M_isFirst_17 (by decide) ?_
    show am_G X mt_M_isFirst _ 18 [some (.ref 84), some (.int (nI i)), some (.int 0), some (.int 0)] [] _ _
    have hz : ifk K i K.ad.length = false := decide_eq_false (fun h9 => hc7 h9.1)
    refine g_iload_n (pc := 18) dc_M_isFirst_18 rfl ?_
    refine g_aload_n (pc := 19) dc_M_isFirst_19 rfl ?_
    refine g_getfield (pc := 20) (v := .int (nI K.ad.length)) dc_M_isFirst_20 fl_M_412 (mp_o hA) (congrArg (fun z => some (Value.int (nI z))) hK.1) ?_
    refine q_icmp_ge (pc := 23) (tgt := 95) 0 K.ad.length dc_M_isFirst_23 (by omega) (by omega) rfl (fun hc => absurd hc (by omega)) (fun hc23 => ?_)
    refine g_iload_n (pc := 26) dc_M_isFirst_26 rfl ?_
    refine g_if_eq (pc := 27) (tgt := 95) dc_M_isFirst_27 rfl (fun _ => ?_) (fun hc => absurd hc (by decide))
    refine g_iload_n (pc := 95) dc_M_isFirst_95 rfl ?_
    exact g_zreturn dc_M_isFirst_96 rfl rfl ⟨by rw [hz]; rfl, rfl⟩
  · refine g_iconst (pc := 10) (v := 1) dc_M_isFirst_10 rfl ?_
    refine g_goto (pc := 11) (tgt := 15) dc_M_isFirst_11 rfl ?_
    refine g_istore_n (pc := 15) dc_M_isFirst_15 (by decide) ?_
    show am_G X mt_M_isFirst _ 16 [some (.ref 84), some (.int (nI i)), some (.int 1), none] [] _ _
    refine g_iconst (pc := 16) (v := 0) dc_M_isFirst_16 rfl ?_
    refine g_istore_n (pc := 17) dc_M_isFirst_17 (by decide) ?_
    show am_G X mt_M_isFirst _ 18 [some (.ref 84), some (.int (nI i)), some (.int 1), some (.int 0)] [] _ _
    exact l18_M_isFirst hA hT hY hY1 hY2 hK hw hi hc7 K.ad.length 0 (Nat.zero_add _) (decide_eq_true ⟨hc7, fun y hy => absurd hy (Nat.not_lt_zero y)⟩)
end F5S
