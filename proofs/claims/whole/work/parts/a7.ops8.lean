/-! ===== the model looks at a page: the whole ===== -/
abbrev XLk : List Nat := [1, 2, 3, 4, 5, 6, 7, 8, 9, 10, 11, 12, 13, 14, 15, 16, 17, 18, 19, 20, 21, 22, 23, 35, 36, 37, 38, 39, 40, 41, 42, 43, 44, 45, 46, 47, 48, 49, 50, 55, 56]
section OP8
variable {X : am_X} {d k ka j i : Nat} {A B h : List va_E} {S : MS} {T Y U Wd Ls : List (List Int32)} {D L E Dp : List Int32} {p : Int32}
theorem ofs_fl2 (hk : k < T.length) : ofs T k + (gT T k).length ≤ T.flatten.length := by
  rw [← ofs_s hk]
  have h9 := ofs_fl (T := T) (k := k + 1)
  rw [List.length_flatten] at h9
  exact h9
theorem txT.cutl {S1 : MS} (h : txT S (Y ++ [D])) (e : mA [4, 20, 23] S S1) (h1 : S1.textCount = Y.length) (h2 : S1.textsEnd = ofs Y Y.length) : txT S1 Y := by
  refine ⟨h1, h2, ?_, fun k hk j => ?_⟩
  · rw [e.texts (by decide), e.textAt (by decide), e.textEnd (by decide)]
    intro k hk
    have h9 := h.2.2.1 k (by rw [List.length_append]; exact Nat.lt_add_right _ hk)
    rw [ofs_app (by omega), ofs_app (by omega), gT_app hk] at h9
    exact h9
  · have h9 := h.2.2.2 k (by rw [List.length_append]; exact Nat.lt_add_right _ hk) j
    rw [gT_app hk] at h9
    exact h9
theorem nxT_k {p : Nat} (hk : kdA L p = 1) (hq : nxT L p < L.length) : ¬ kdA L (nxT L p) = 1 := by
  have e : nxT L p = fx (fun j => decide (kdA L j = 1)) (p + 1) L.length := by
    unfold nxT
    rw [if_neg (by rw [hk]; decide), if_neg (by rw [hk]; decide)]
  rw [e] at hq ⊢
  exact of_decide_eq_false (fx_out hq)
theorem its_wc : ∀ (n p : Nat), p ≤ L.length → (((its L n p).flatMap (pwd L)).flatten.length + ((its L n p).flatMap (pwd L)).length ≤ L.length - p + 1 ∧ ((p < L.length → ¬ kdA L p = 1) → ((its L n p).flatMap (pwd L)).flatten.length + ((its L n p).flatMap (pwd L)).length ≤ L.length - p)) ∧ ((its L n p).flatMap (pwd L)).length ≤ ((its L n p).flatMap (pwd L)).flatten.length
  | 0, p, _ => ⟨⟨Nat.zero_le _, fun _ => Nat.zero_le _⟩, Nat.zero_le _⟩
  | n + 1, p, hp => by
    by_cases hpl : p < L.length
    · have hnb := nxT_bd hpl
      rw [its_s hpl, List.flatMap_cons, List.flatten_append, List.length_append, List.length_append]
      have ih := its_wc n (nxT L p) hnb.2
      by_cases hk : kdA L p = 1
      · have ih2 := ih.1.2 (fun h9 => nxT_k hk h9)
        have ew : pwd L p = spl (dcd L p (nxT L p)) 0 := by unfold pwd; rw [if_pos hk]
        have h7 := dcd_len (L := L) (t := nxT L p) (nxT L p - p) p (Nat.le_refl _)
        have h8 := spl_len (M := dcd L p (nxT L p)) (dcd L p (nxT L p)).length 0 (by omega) (by omega)
        rw [ew]
        exact ⟨⟨by omega, fun h9 => absurd hk (h9 hpl)⟩, by omega⟩
      · have ew : pwd L p = [] := by unfold pwd; rw [if_neg hk]
        rw [ew]
        have e0 : ([] : List (List Int32)).flatten.length = 0 := rfl
        have e1 : ([] : List (List Int32)).length = 0 := rfl
        exact ⟨⟨by omega, fun _ => by omega⟩, by omega⟩
    · rw [its_out (by omega)]
      exact ⟨⟨Nat.zero_le _, fun _ => Nat.zero_le _⟩, Nat.zero_le _⟩
theorem pgW_cnt : (pgW L).flatten.length + (pgW L).length ≤ L.length + 1 ∧ (pgW L).length ≤ (pgW L).flatten.length := by
  have h := its_wc (L := L) L.length 0 (Nat.zero_le _)
  exact ⟨h.1.1, h.2⟩
theorem c_M_look (hA : A.length = 84) (hM : tbM S T Y U) (hUl : U.length < 3500) (hL : tpM S L) (hpr : prM S Dp) (hU : ∀ D, fsa L = some D → D ∈ U) (hU2 : ∀ D, fsa L = some D → pgU U D (rst L)) (hr : ofs Y Y.length + L.length ≤ 24000) (hc : Y.length < 1100) : am_C X mt_M_look (d + 10) [.ref 84, .int p] (mput A S B) (fun r h1 => ∃ S1 T1, h1 = mput A S1 B ∧ mA XLk S S1 ∧ tbM S1 T1 Y U ∧ T <+: T1 ∧ tpM S1 [] ∧ match lok L p with | none => r = some (.int (-1)) ∧ prM S1 Dp | some Z => r = some (.int (nI Z.length)) ∧ prM S1 (lnR Z)) := by
  show am_G X mt_M_look (d + 10) 0 [some (.ref 84), some (.int p), none, none, none, none, none, none] [] (mput A S B) _
  have hL8 := hL.2.2.1
  have hbL := hL.2.2.2
  have hbh := bhf_bd L
  cases e6 : ixo p 2 with
  | none =>
    have hout := ixo_n (by decide) e6
    have e5 : lok L p = none := by
      unfold lok
      cases fsa L with
      | none => rfl
      | some D => dsimp only; rw [e6]
    rw [e5]
    refine g_aload_n (pc := 0) dc_M_look_0 rfl ?_
    refine g_v0 (pc := 1) (M' := mt_M_use) dc_M_look_1 mo_M_use im_M_use se_M_use ln_M_505 (mp_o hA) rfl rfl (Nat.le_of_ble_eq_true rfl) (Nat.le_of_ble_eq_true rfl) (am_G.mono (c_M_use (d := d + 9) hA hL) ?_)
    intro r h9 hz
    obtain ⟨q1, S1, q2, q3, q4, q5⟩ := hz
    rw [q1, q2]
    clear q1 q2 h9 r
    have hM1 : tbM S1 T Y U := ⟨hM.1.m q3 (by decide) (by decide) (by decide) (by decide), hM.2.1, hM.2.2.1, hM.2.2.2.m q3 (by decide) (by decide) (by decide) (by decide) (by decide)⟩
    have hp1 : prM S1 Dp := ⟨by rw [q3.product (by decide)]; exact hpr.1, by rw [q3.productSize (by decide)]; exact hpr.2.1, hpr.2.2⟩
    refine ⟨am_nti _, ?_⟩
    refine g_istore_n (pc := 4) dc_M_look_4 (by decide) ?_
    show am_G X mt_M_look _ 5 [some (.ref 84), some (.int p), some (.int (nI L.length)), none, none, none, none, none] [] _ _
    refine g_iload_n (pc := 5) dc_M_look_5 rfl ?_
    refine g_if_lt (pc := 6) (tgt := 22) dc_M_look_6 rfl (fun hc6 => ?_) (fun hc6 => ?_)
    · have hi6 : (p).toInt < (0 : Int) := Int32.lt_iff_toInt_lt.mp hc6
      refine g_iconst (pc := 22) (v := (-1)) dc_M_look_22 rfl ?_
      exact g_ireturn dc_M_look_23 rfl ⟨S1, T, rfl, q3.mo (by decide), hM1, List.prefix_refl T, q5, rfl, hp1⟩
    · have hi6 : ¬ ((p).toInt < (0 : Int)) := fun h9 => hc6 (Int32.lt_iff_toInt_lt.mpr h9)
      refine g_iload_n (pc := 9) dc_M_look_9 rfl ?_
      refine g_iconst (pc := 10) (v := 1) dc_M_look_10 rfl ?_
      refine g_icmp_gt (pc := 11) (tgt := 22) dc_M_look_11 rfl (fun hc11 => ?_) (fun hc => absurd hc (fun h8 => h8 (Int32.lt_of_lt_of_le (by decide) (hout.resolve_left hc6))))
      refine g_iconst (pc := 22) (v := (-1)) dc_M_look_22 rfl ?_
      exact g_ireturn dc_M_look_23 rfl ⟨S1, T, rfl, q3.mo (by decide), hM1, List.prefix_refl T, q5, rfl, hp1⟩
  | some k =>
    obtain ⟨hk, rfl⟩ := ixo_s e6
    rcases (by omega : k = 0 ∨ k = 1) with rfl | rfl
    · show am_G X mt_M_look (d + 10) 0 [some (.ref 84), some (.int 0), none, none, none, none, none, none] [] (mput A S B) _
      refine g_aload_n (pc := 0) dc_M_look_0 rfl ?_
      refine g_v0 (pc := 1) (M' := mt_M_use) dc_M_look_1 mo_M_use im_M_use se_M_use ln_M_505 (mp_o hA) rfl rfl (Nat.le_of_ble_eq_true rfl) (Nat.le_of_ble_eq_true rfl) (am_G.mono (c_M_use (d := d + 9) hA hL) ?_)
      intro r h9 hz
      obtain ⟨q1, S1, q2, q3, q4, q5⟩ := hz
      rw [q1, q2]
      clear q1 q2 h9 r
      have hM1 : tbM S1 T Y U := ⟨hM.1.m q3 (by decide) (by decide) (by decide) (by decide), hM.2.1, hM.2.2.1, hM.2.2.2.m q3 (by decide) (by decide) (by decide) (by decide) (by decide)⟩
      have hp1 : prM S1 Dp := ⟨by rw [q3.product (by decide)]; exact hpr.1, by rw [q3.productSize (by decide)]; exact hpr.2.1, hpr.2.2⟩
      refine ⟨am_nti _, ?_⟩
      refine g_istore_n (pc := 4) dc_M_look_4 (by decide) ?_
      show am_G X mt_M_look _ 5 [some (.ref 84), some (.int 0), some (.int (nI L.length)), none, none, none, none, none] [] _ _
      refine g_iload_n (pc := 5) dc_M_look_5 rfl ?_
      refine g_if_lt (pc := 6) (tgt := 22) dc_M_look_6 rfl (fun hc => absurd hc (by decide)) (fun _ => ?_)
      refine g_iload_n (pc := 9) dc_M_look_9 rfl ?_
      refine g_iconst (pc := 10) (v := 1) dc_M_look_10 rfl ?_
      refine g_icmp_gt (pc := 11) (tgt := 22) dc_M_look_11 rfl (fun hc => absurd hc (by decide)) (fun _ => ?_)
      refine g_aload_n (pc := 14) dc_M_look_14 rfl ?_
      refine g_iload_n (pc := 15) dc_M_look_15 rfl ?_
      refine g_v1 (pc := 16) (M' := mt_M_readFirst) dc_M_look_16 mo_M_readFirst im_M_readFirst se_M_readFirst ln_M_508 (mp_o hA) rfl rfl (Nat.le_of_ble_eq_true rfl) (Nat.le_of_ble_eq_true rfl) (am_G.mono (c_M_readFirst (d := d + 3) hA hM1.1 hM1.2.1 q4 hL8 hbL) ?_)
      intro r h9 hz
      obtain ⟨S2, hz2, hz3, hz4⟩ := hz
      rw [hz2]
      clear hz2 h9
      have hM2 := hM1.sc hz3
      have hm2 : mA XP S S2 := (q3.mo (by decide)).tr (hz3.m.mo (by decide))
      have hx2 : tx S2.coming 0 L := by rw [hz3.m.coming (by decide)]; exact q4
      have ht2 : tpM S2 [] := q5.m hz3.m (by decide) (by decide)
      have hpS : mA XR S S2 := (q3.mo (by decide)).tr (hz3.m.mo (by decide))
      have hp2 : prM S2 Dp := ⟨by rw [hz3.m.product (by decide)]; exact hp1.1, by rw [hz3.m.productSize (by decide)]; exact hp1.2.1, hp1.2.2⟩
      cases hm : fsa L with
      | none =>
        rw [hm] at hz4
        rw [hz4]
        refine ⟨am_nti _, ?_⟩
        rw [show lok L (nI 0) = none by unfold lok; rw [hm]]
        refine g_if_ne (pc := 19) (tgt := 24) dc_M_look_19 rfl (fun hc => absurd hc (by decide)) (fun _ => ?_)
        refine g_iconst (pc := 22) (v := (-1)) dc_M_look_22 rfl ?_
        exact g_ireturn dc_M_look_23 rfl ⟨S2, T, rfl, hpS.mo (by decide), hM2, List.prefix_refl T, ht2, rfl, hp2⟩
      | some D =>
        rw [hm] at hz4
        rw [hz4.1]
        refine ⟨am_nti _, ?_⟩
        have hoD := fsa_ok hbL hm
        have huD := hU D hm
        have hpU := hU2 D hm
        have hf1 := fsa_1 hm
        have hrl := rst_len (L := L)
        have hbR : btg (rst L) := btg_sub hbL (Nat.le_refl _)
        have hY9 : (Y ++ [rst L]).length = Y.length + 1 := by rw [List.length_append]; rfl
        have hgn : gT (Y ++ [rst L]) Y.length = rst L := gT_new
        have hon : ofs (Y ++ [rst L]) Y.length = ofs Y Y.length := ofs_app (Nat.le_refl _)
        have hos9 : ofs (Y ++ [rst L]) (Y.length + 1) = ofs Y Y.length + (rst L).length := by rw [ofs_s (by omega), hon, hgn]
        rw [show lok L (nI 0) = some (pgL (rst L) D) by unfold lok; rw [hm]; dsimp only; rw [e6]]
        refine g_if_ne (pc := 19) (tgt := 24) dc_M_look_19 rfl (fun _ => ?_) (fun hc => absurd hc (by decide))
        refine g_aload_n (pc := 24) dc_M_look_24 rfl ?_
        refine g_v0 (pc := 25) (M' := mt_M_keep) dc_M_look_25 mo_M_keep im_M_keep se_M_keep ln_M_300 (mp_o hA) rfl rfl (Nat.le_of_ble_eq_true rfl) (Nat.le_of_ble_eq_true rfl) (am_G.mono (c_M_keep (d := d + 8) (D := D) hA hM2.1 hz4.2 (Or.inr (tb_lt hM2 hUl))) ?_)
        intro r h9 hy9
        obtain ⟨S3, T1, kb, w1, w2, w3⟩ := hy9
        rw [w1, w2]
        clear w1 w2 h9
        have hM3 := hM2.kp w3 hoD huD
        have hm3 : mA XP S S3 := hm2.tr (w3.m.mo (by decide))
        have hpS3 : mA XR S S3 := hpS.tr (w3.m.mo (by decide))
        have hx3 : tx S3.coming 0 L := by rw [w3.m.coming (by decide)]; exact hx2
        have ht3 : tpM S3 [] := ht2.m w3.m (by decide) (by decide)
        have hkb : kb < T1.length ∧ gT T1 kb = D := ⟨w3.2.2.1, w3.2.2.2.1⟩
        refine ⟨am_nti _, ?_⟩
        refine g_istore_n (pc := 28) dc_M_look_28 (by decide) ?_
        show am_G X mt_M_look _ 29 [some (.ref 84), some (.int 0), some (.int (nI L.length)), some (.int (nI kb)), none, none, none, none] [] _ _
        refine g_aload_n (pc := 29) dc_M_look_29 rfl ?_
        refine g_aload_n (pc := 30) dc_M_look_30 rfl ?_
        refine g_iload_n (pc := 31) dc_M_look_31 rfl ?_
        refine g_v1 (pc := 32) (M' := mt_M_behindFirst) dc_M_look_32 mo_M_behindFirst im_M_behindFirst se_M_behindFirst ln_M_511 (mp_o hA) rfl rfl (Nat.le_of_ble_eq_true rfl) (Nat.le_of_ble_eq_true rfl) (am_G.mono (c_M_behindFirst (d := d + 8) (S := S3) hA hx3 hL8) ?_)
        intro r h1 hq
        rw [hq.1, hq.2]
        clear hq h1 r
        refine ⟨am_nti _, ?_⟩
        refine g_iload_n (pc := 35) dc_M_look_35 rfl ?_
        refine g_v2 (pc := 36) (M' := mt_M_tell) dc_M_look_36 mo_M_tell im_M_tell se_M_tell ln_M_514 (mp_o hA) rfl rfl (Nat.le_of_ble_eq_true rfl) (Nat.le_of_ble_eq_true rfl) (am_G.mono (c_M_tell2 (d := d + 9) (S := S3) (f := bhf L) (t := L.length) hA hM3.2.2.2 hx3 hbL hL8 hbh (Nat.le_refl _) (by omega) hc) ?_)
        intro r h9 hz
        obtain ⟨v1, S4, v2, v3, v4⟩ := hz
        rw [v1, v2]
        clear v1 v2 h9 r
        rw [show sub L (bhf L) L.length = rst L from rfl] at v4
        have hT4 := hM3.1.m v3 (by decide) (by decide) (by decide) (by decide)
        refine ⟨am_nti _, ?_⟩
        refine g_istore (pc := 39) dc_M_look_39 (by decide) ?_
        show am_G X mt_M_look _ 41 [some (.ref 84), some (.int 0), some (.int (nI L.length)), some (.int (nI kb)), some (.int (nI Y.length)), none, none, none] [] _ _
        refine g_aload_n (pc := 41) dc_M_look_41 rfl ?_
        refine g_iload (pc := 42) dc_M_look_42 rfl ?_
        refine g_iload_n (pc := 44) dc_M_look_44 rfl ?_
        refine g_v2 (pc := 45) (M' := mt_M_findLinks) dc_M_look_45 mo_M_findLinks im_M_findLinks se_M_findLinks ln_M_449 (mp_o hA) rfl rfl (Nat.le_of_ble_eq_true rfl) (Nat.le_of_ble_eq_true rfl) (am_G.mono (c_M_findLinks (d := d) (S := S4) (Y := Y ++ [rst L]) (j := Y.length) (ka := kb) (D := D) hA hUl v4 (by omega) (by omega) (by omega) (by rw [hgn]; omega) hT4 hM3.2.1 hkb hM3.2.2.1 (by rw [hgn]; exact hpU.1) (by rw [hgn]; exact hpU.2.1)) ?_)
        intro r h9 hz
        obtain ⟨v1, S5, T2, v2, x3, x4, x5, x6, x7⟩ := hz
        rw [v1, v2]
        clear v1 v2 h9 r
        rw [hgn] at x4 x7
        have hY5 : txT S5 (Y ++ [rst L]) := v4.m x3.m (by decide) (by decide) (by decide) (by decide) (by decide)
        have hta := (hY5.2.2.1 Y.length (by omega)).1
        rw [hon] at hta
        refine ⟨am_nt0, ?_⟩
        refine g_aload_n (pc := 48) dc_M_look_48 rfl ?_
        refine g_dup (pc := 49) dc_M_look_49 rfl ?_
        refine g_getfield (pc := 50) (v := .int (nI (Y.length + 1))) dc_M_look_50 fl_M_134 (mp_o hA) (congrArg (fun z => some (Value.int (nI z))) (hY5.1.trans hY9)) ?_
        refine g_iconst (pc := 53) (v := 1) dc_M_look_53 rfl ?_
        refine g_isub (pc := 54) (v := (nI (Y.length + 1 - 1))) dc_M_look_54 (q_sub (a := Y.length + 1) (b := 1) (by omega)) ?_
        refine pf_textCount (pc := 55) (v := Y.length + 1 - 1) hA dc_M_look_55 fp_M_look_134 ?_
        refine g_aload_n (pc := 58) dc_M_look_58 rfl ?_
        refine g_aload_n (pc := 59) dc_M_look_59 rfl ?_
        refine g_getfield (pc := 60) dc_M_look_60 fl_M_131 (mp_o hA) rfl ?_
        refine g_iload (pc := 63) dc_M_look_63 rfl ?_
        refine q_ialoadV (pc := 65) Y.length dc_M_look_65 (mp_a hA 13 rfl) (by omega) (by omega) (v := (nI (ofs Y Y.length))) hta ?_
        refine pf_textsEnd (pc := 66) (v := ofs Y Y.length) hA dc_M_look_66 fp_M_look_137 ?_
        refine g_aload_n (pc := 69) dc_M_look_69 rfl ?_
        refine g_iconst (pc := 70) (v := 0) dc_M_look_70 rfl ?_
        refine pf_productSize (pc := 71) (v := 0) hA dc_M_look_71 fp_M_look_499 ?_
        refine g_iconst (pc := 74) (v := 0) dc_M_look_74 rfl ?_
        refine g_istore (pc := 75) dc_M_look_75 (by decide) ?_
        show am_G X mt_M_look _ 77 [some (.ref 84), some (.int 0), some (.int (nI L.length)), some (.int (nI kb)), some (.int (nI Y.length)), some (.int 0), none, none] [] _ _
        have hma_S6 : mA [4, 20, 23] S5 (((S5.s_textCount (Y.length + 1 - 1)).s_textsEnd (ofs Y Y.length)).s_productSize 0) := ((((mA.rf S5).a_textCount _ (by decide)).a_textsEnd _ (by decide)).a_productSize _ (by decide))
        have hk_S6_textCount : (((S5.s_textCount (Y.length + 1 - 1)).s_textsEnd (ofs Y Y.length)).s_productSize 0).textCount = Y.length := rfl
        have hk_S6_textsEnd : (((S5.s_textCount (Y.length + 1 - 1)).s_textsEnd (ofs Y Y.length)).s_productSize 0).textsEnd = ofs Y Y.length := rfl
        have hk_S6_productSize : (((S5.s_textCount (Y.length + 1 - 1)).s_textsEnd (ofs Y Y.length)).s_productSize 0).productSize = 0 := rfl
        show am_G X mt_M_look _ 77 [some (.ref 84), some (.int 0), some (.int (nI L.length)), some (.int (nI kb)), some (.int (nI Y.length)), some (.int 0), none, none] [] (mput A (((S5.s_textCount (Y.length + 1 - 1)).s_textsEnd (ofs Y Y.length)).s_productSize 0) B) _
        generalize (((S5.s_textCount (Y.length + 1 - 1)).s_textsEnd (ofs Y Y.length)).s_productSize 0) = S6 at hma_S6 hk_S6_textCount hk_S6_textsEnd hk_S6_productSize ⊢
        have hT6 := x4.1.m hma_S6 (by decide) (by decide) (by decide) (by decide)
        have hY6 := hY5.cutl hma_S6 hk_S6_textCount hk_S6_textsEnd
        have hm6 : mA XLk S S6 := (((hpS3.mo (by decide)).tr (v3.mo (by decide))).tr (x3.m.mo (by decide))).tr (hma_S6.mo (by decide))
        have ht6 : tpM S6 [] := ((ht3.m v3 (by decide) (by decide)).m x3.m (by decide) (by decide)).m hma_S6 (by decide) (by decide)
        have hpx : T <+: T2 := w3.pre.trans x5
        have hok := pgL_ok (L := rst L) (D := D) hbR hoD
        have hfl := ok_fl _ hok
        have h60 := lkf_len (L := rst L) (D := D)
        have hlk6 : lkI S6 T2 (pgL (rst L) D) := ⟨by rw [hma_S6.linkCount (by decide)]; exact x7.1, fun i9 h9 => by rw [hma_S6.links (by decide)]; exact x7.2 i9 h9⟩
        refine am_G.mono (l77a_M_look (d := d + 9) hA x4.2.1 h60 (by omega) (pgL (rst L) D).length 0 S6 (Nat.zero_add _) hT6 hlk6 (fun j hj => absurd hj (Nat.not_lt_zero j)) hk_S6_productSize) (fun r h9 hz => ?_)
        obtain ⟨y1, S7, y2, y3, y4⟩ := hz
        exact ⟨S7, T2, y2, hm6.tr (y3.mo (by decide)), ⟨hT6.m y3 (by decide) (by decide) (by decide) (by decide), x4.2.1, x6, hY6.m y3 (by decide) (by decide) (by decide) (by decide) (by decide)⟩, hpx, ht6.m y3 (by decide) (by decide), y1, y4⟩
    · show am_G X mt_M_look (d + 10) 0 [some (.ref 84), some (.int 1), none, none, none, none, none, none] [] (mput A S B) _
      refine g_aload_n (pc := 0) dc_M_look_0 rfl ?_
      refine g_v0 (pc := 1) (M' := mt_M_use) dc_M_look_1 mo_M_use im_M_use se_M_use ln_M_505 (mp_o hA) rfl rfl (Nat.le_of_ble_eq_true rfl) (Nat.le_of_ble_eq_true rfl) (am_G.mono (c_M_use (d := d + 9) hA hL) ?_)
      intro r h9 hz
      obtain ⟨q1, S1, q2, q3, q4, q5⟩ := hz
      rw [q1, q2]
      clear q1 q2 h9 r
      have hM1 : tbM S1 T Y U := ⟨hM.1.m q3 (by decide) (by decide) (by decide) (by decide), hM.2.1, hM.2.2.1, hM.2.2.2.m q3 (by decide) (by decide) (by decide) (by decide) (by decide)⟩
      have hp1 : prM S1 Dp := ⟨by rw [q3.product (by decide)]; exact hpr.1, by rw [q3.productSize (by decide)]; exact hpr.2.1, hpr.2.2⟩
      refine ⟨am_nti _, ?_⟩
      refine g_istore_n (pc := 4) dc_M_look_4 (by decide) ?_
      show am_G X mt_M_look _ 5 [some (.ref 84), some (.int 1), some (.int (nI L.length)), none, none, none, none, none] [] _ _
      refine g_iload_n (pc := 5) dc_M_look_5 rfl ?_
      refine g_if_lt (pc := 6) (tgt := 22) dc_M_look_6 rfl (fun hc => absurd hc (by decide)) (fun _ => ?_)
      refine g_iload_n (pc := 9) dc_M_look_9 rfl ?_
      refine g_iconst (pc := 10) (v := 1) dc_M_look_10 rfl ?_
      refine g_icmp_gt (pc := 11) (tgt := 22) dc_M_look_11 rfl (fun hc => absurd hc (by decide)) (fun _ => ?_)
      refine g_aload_n (pc := 14) dc_M_look_14 rfl ?_
      refine g_iload_n (pc := 15) dc_M_look_15 rfl ?_
      refine g_v1 (pc := 16) (M' := mt_M_readFirst) dc_M_look_16 mo_M_readFirst im_M_readFirst se_M_readFirst ln_M_508 (mp_o hA) rfl rfl (Nat.le_of_ble_eq_true rfl) (Nat.le_of_ble_eq_true rfl) (am_G.mono (c_M_readFirst (d := d + 3) hA hM1.1 hM1.2.1 q4 hL8 hbL) ?_)
      intro r h9 hz
      obtain ⟨S2, hz2, hz3, hz4⟩ := hz
      rw [hz2]
      clear hz2 h9
      have hM2 := hM1.sc hz3
      have hm2 : mA XP S S2 := (q3.mo (by decide)).tr (hz3.m.mo (by decide))
      have hx2 : tx S2.coming 0 L := by rw [hz3.m.coming (by decide)]; exact q4
      have ht2 : tpM S2 [] := q5.m hz3.m (by decide) (by decide)
      have hpS : mA XR S S2 := (q3.mo (by decide)).tr (hz3.m.mo (by decide))
      have hp2 : prM S2 Dp := ⟨by rw [hz3.m.product (by decide)]; exact hp1.1, by rw [hz3.m.productSize (by decide)]; exact hp1.2.1, hp1.2.2⟩
      cases hm : fsa L with
      | none =>
        rw [hm] at hz4
        rw [hz4]
        refine ⟨am_nti _, ?_⟩
        rw [show lok L (nI 1) = none by unfold lok; rw [hm]]
        refine g_if_ne (pc := 19) (tgt := 24) dc_M_look_19 rfl (fun hc => absurd hc (by decide)) (fun _ => ?_)
        refine g_iconst (pc := 22) (v := (-1)) dc_M_look_22 rfl ?_
        exact g_ireturn dc_M_look_23 rfl ⟨S2, T, rfl, hpS.mo (by decide), hM2, List.prefix_refl T, ht2, rfl, hp2⟩
      | some D =>
        rw [hm] at hz4
        rw [hz4.1]
        refine ⟨am_nti _, ?_⟩
        have hoD := fsa_ok hbL hm
        have huD := hU D hm
        have hpU := hU2 D hm
        have hf1 := fsa_1 hm
        have hrl := rst_len (L := L)
        have hbR : btg (rst L) := btg_sub hbL (Nat.le_refl _)
        have hY9 : (Y ++ [rst L]).length = Y.length + 1 := by rw [List.length_append]; rfl
        have hgn : gT (Y ++ [rst L]) Y.length = rst L := gT_new
        have hon : ofs (Y ++ [rst L]) Y.length = ofs Y Y.length := ofs_app (Nat.le_refl _)
        have hos9 : ofs (Y ++ [rst L]) (Y.length + 1) = ofs Y Y.length + (rst L).length := by rw [ofs_s (by omega), hon, hgn]
        rw [show lok L (nI 1) = some (pgW (rst L)) by unfold lok; rw [hm]; dsimp only; rw [e6]]
        refine g_if_ne (pc := 19) (tgt := 24) dc_M_look_19 rfl (fun _ => ?_) (fun hc => absurd hc (by decide))
        refine g_aload_n (pc := 24) dc_M_look_24 rfl ?_
        refine g_v0 (pc := 25) (M' := mt_M_keep) dc_M_look_25 mo_M_keep im_M_keep se_M_keep ln_M_300 (mp_o hA) rfl rfl (Nat.le_of_ble_eq_true rfl) (Nat.le_of_ble_eq_true rfl) (am_G.mono (c_M_keep (d := d + 8) (D := D) hA hM2.1 hz4.2 (Or.inr (tb_lt hM2 hUl))) ?_)
        intro r h9 hy9
        obtain ⟨S3, T1, kb, w1, w2, w3⟩ := hy9
        rw [w1, w2]
        clear w1 w2 h9
        have hM3 := hM2.kp w3 hoD huD
        have hm3 : mA XP S S3 := hm2.tr (w3.m.mo (by decide))
        have hpS3 : mA XR S S3 := hpS.tr (w3.m.mo (by decide))
        have hx3 : tx S3.coming 0 L := by rw [w3.m.coming (by decide)]; exact hx2
        have ht3 : tpM S3 [] := ht2.m w3.m (by decide) (by decide)
        have hkb : kb < T1.length ∧ gT T1 kb = D := ⟨w3.2.2.1, w3.2.2.2.1⟩
        refine ⟨am_nti _, ?_⟩
        refine g_istore_n (pc := 28) dc_M_look_28 (by decide) ?_
        show am_G X mt_M_look _ 29 [some (.ref 84), some (.int 1), some (.int (nI L.length)), some (.int (nI kb)), none, none, none, none] [] _ _
        refine g_aload_n (pc := 29) dc_M_look_29 rfl ?_
        refine g_aload_n (pc := 30) dc_M_look_30 rfl ?_
        refine g_iload_n (pc := 31) dc_M_look_31 rfl ?_
        refine g_v1 (pc := 32) (M' := mt_M_behindFirst) dc_M_look_32 mo_M_behindFirst im_M_behindFirst se_M_behindFirst ln_M_511 (mp_o hA) rfl rfl (Nat.le_of_ble_eq_true rfl) (Nat.le_of_ble_eq_true rfl) (am_G.mono (c_M_behindFirst (d := d + 8) (S := S3) hA hx3 hL8) ?_)
        intro r h1 hq
        rw [hq.1, hq.2]
        clear hq h1 r
        refine ⟨am_nti _, ?_⟩
        refine g_iload_n (pc := 35) dc_M_look_35 rfl ?_
        refine g_v2 (pc := 36) (M' := mt_M_tell) dc_M_look_36 mo_M_tell im_M_tell se_M_tell ln_M_514 (mp_o hA) rfl rfl (Nat.le_of_ble_eq_true rfl) (Nat.le_of_ble_eq_true rfl) (am_G.mono (c_M_tell2 (d := d + 9) (S := S3) (f := bhf L) (t := L.length) hA hM3.2.2.2 hx3 hbL hL8 hbh (Nat.le_refl _) (by omega) hc) ?_)
        intro r h9 hz
        obtain ⟨v1, S4, v2, v3, v4⟩ := hz
        rw [v1, v2]
        clear v1 v2 h9 r
        rw [show sub L (bhf L) L.length = rst L from rfl] at v4
        have hT4 := hM3.1.m v3 (by decide) (by decide) (by decide) (by decide)
        refine ⟨am_nti _, ?_⟩
        refine g_istore (pc := 39) dc_M_look_39 (by decide) ?_
        show am_G X mt_M_look _ 41 [some (.ref 84), some (.int 1), some (.int (nI L.length)), some (.int (nI kb)), some (.int (nI Y.length)), none, none, none] [] _ _
        refine g_aload_n (pc := 41) dc_M_look_41 rfl ?_
        refine g_iload (pc := 42) dc_M_look_42 rfl ?_
        refine g_iload_n (pc := 44) dc_M_look_44 rfl ?_
        refine g_v2 (pc := 45) (M' := mt_M_findLinks) dc_M_look_45 mo_M_findLinks im_M_findLinks se_M_findLinks ln_M_449 (mp_o hA) rfl rfl (Nat.le_of_ble_eq_true rfl) (Nat.le_of_ble_eq_true rfl) (am_G.mono (c_M_findLinks (d := d) (S := S4) (Y := Y ++ [rst L]) (j := Y.length) (ka := kb) (D := D) hA hUl v4 (by omega) (by omega) (by omega) (by rw [hgn]; omega) hT4 hM3.2.1 hkb hM3.2.2.1 (by rw [hgn]; exact hpU.1) (by rw [hgn]; exact hpU.2.1)) ?_)
        intro r h9 hz
        obtain ⟨v1, S5, T2, v2, x3, x4, x5, x6, x7⟩ := hz
        rw [v1, v2]
        clear v1 v2 h9 r
        rw [hgn] at x4 x7
        have hY5 : txT S5 (Y ++ [rst L]) := v4.m x3.m (by decide) (by decide) (by decide) (by decide) (by decide)
        have hta := (hY5.2.2.1 Y.length (by omega)).1
        rw [hon] at hta
        refine ⟨am_nt0, ?_⟩
        refine g_aload_n (pc := 48) dc_M_look_48 rfl ?_
        refine g_dup (pc := 49) dc_M_look_49 rfl ?_
        refine g_getfield (pc := 50) (v := .int (nI (Y.length + 1))) dc_M_look_50 fl_M_134 (mp_o hA) (congrArg (fun z => some (Value.int (nI z))) (hY5.1.trans hY9)) ?_
        refine g_iconst (pc := 53) (v := 1) dc_M_look_53 rfl ?_
        refine g_isub (pc := 54) (v := (nI (Y.length + 1 - 1))) dc_M_look_54 (q_sub (a := Y.length + 1) (b := 1) (by omega)) ?_
        refine pf_textCount (pc := 55) (v := Y.length + 1 - 1) hA dc_M_look_55 fp_M_look_134 ?_
        refine g_aload_n (pc := 58) dc_M_look_58 rfl ?_
        refine g_aload_n (pc := 59) dc_M_look_59 rfl ?_
        refine g_getfield (pc := 60) dc_M_look_60 fl_M_131 (mp_o hA) rfl ?_
        refine g_iload (pc := 63) dc_M_look_63 rfl ?_
        refine q_ialoadV (pc := 65) Y.length dc_M_look_65 (mp_a hA 13 rfl) (by omega) (by omega) (v := (nI (ofs Y Y.length))) hta ?_
        refine pf_textsEnd (pc := 66) (v := ofs Y Y.length) hA dc_M_look_66 fp_M_look_137 ?_
        refine g_aload_n (pc := 69) dc_M_look_69 rfl ?_
        refine g_iconst (pc := 70) (v := 0) dc_M_look_70 rfl ?_
        refine pf_productSize (pc := 71) (v := 0) hA dc_M_look_71 fp_M_look_499 ?_
        refine g_iconst (pc := 74) (v := 0) dc_M_look_74 rfl ?_
        refine g_istore (pc := 75) dc_M_look_75 (by decide) ?_
        show am_G X mt_M_look _ 77 [some (.ref 84), some (.int 1), some (.int (nI L.length)), some (.int (nI kb)), some (.int (nI Y.length)), some (.int 0), none, none] [] _ _
        have hma_S6 : mA [4, 20, 23] S5 (((S5.s_textCount (Y.length + 1 - 1)).s_textsEnd (ofs Y Y.length)).s_productSize 0) := ((((mA.rf S5).a_textCount _ (by decide)).a_textsEnd _ (by decide)).a_productSize _ (by decide))
        have hk_S6_textCount : (((S5.s_textCount (Y.length + 1 - 1)).s_textsEnd (ofs Y Y.length)).s_productSize 0).textCount = Y.length := rfl
        have hk_S6_textsEnd : (((S5.s_textCount (Y.length + 1 - 1)).s_textsEnd (ofs Y Y.length)).s_productSize 0).textsEnd = ofs Y Y.length := rfl
        have hk_S6_productSize : (((S5.s_textCount (Y.length + 1 - 1)).s_textsEnd (ofs Y Y.length)).s_productSize 0).productSize = 0 := rfl
        show am_G X mt_M_look _ 77 [some (.ref 84), some (.int 1), some (.int (nI L.length)), some (.int (nI kb)), some (.int (nI Y.length)), some (.int 0), none, none] [] (mput A (((S5.s_textCount (Y.length + 1 - 1)).s_textsEnd (ofs Y Y.length)).s_productSize 0) B) _
        generalize (((S5.s_textCount (Y.length + 1 - 1)).s_textsEnd (ofs Y Y.length)).s_productSize 0) = S6 at hma_S6 hk_S6_textCount hk_S6_textsEnd hk_S6_productSize ⊢
        have hT6 := x4.1.m hma_S6 (by decide) (by decide) (by decide) (by decide)
        have hY6 := hY5.cutl hma_S6 hk_S6_textCount hk_S6_textsEnd
        have hm6 : mA XLk S S6 := (((hpS3.mo (by decide)).tr (v3.mo (by decide))).tr (x3.m.mo (by decide))).tr (hma_S6.mo (by decide))
        have ht6 : tpM S6 [] := ((ht3.m v3 (by decide) (by decide)).m x3.m (by decide) (by decide)).m hma_S6 (by decide) (by decide)
        have hpx : T <+: T2 := w3.pre.trans x5
        have hwl := pgW_len (L := rst L)
        have hw6 : wdS S6 (pgW (rst L)) := ⟨by rw [hma_S6.wordCount (by decide)]; exact x4.2.2.2.1.1, by rw [hma_S6.words (by decide), hma_S6.wordAt (by decide), hma_S6.wordLength (by decide)]; exact x4.2.2.2.1.2⟩
        have hwc := pgW_cnt (L := rst L)
        refine am_G.mono (l77b_M_look (d := d + 9) hA (pgW_bt hbR) (by omega) (fun i hi => by have h7 := ofs_fl2 hi; omega) (by omega) (pgW (rst L)).length 0 S6 (Nat.zero_add _) hw6 (fun j hj => absurd hj (Nat.not_lt_zero j)) hk_S6_productSize) (fun r h9 hz => ?_)
        obtain ⟨y1, S7, y2, y3, y4⟩ := hz
        exact ⟨S7, T2, y2, hm6.tr (y3.mo (by decide)), ⟨hT6.m y3 (by decide) (by decide) (by decide) (by decide), x4.2.1, x6, hY6.m y3 (by decide) (by decide) (by decide) (by decide) (by decide)⟩, hpx, ht6.m y3 (by decide) (by decide), y1, y4⟩
end OP8
