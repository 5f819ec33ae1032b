/-! ===== the model: rules, drop, allowed, seed, read ===== -/
abbrev XR : List Nat := [1, 2, 5, 6, 7, 8, 9, 10, 11, 12, 13, 14, 15, 16, 17, 18]
abbrev XRu : List Nat := [1, 2, 5, 6, 7, 8, 9, 10, 11, 12, 13, 14, 15, 16, 17, 18, 19, 20, 21, 22, 23, 24, 25, 26, 27, 28, 29, 30, 31, 32, 33, 34]
abbrev XAl : List Nat := [1, 2, 5, 6, 7, 8, 9, 10, 11, 12, 13, 14, 15, 16, 17, 18, 27, 28, 29, 30, 31, 32, 33, 34]
abbrev XDr : List Nat := [1, 2, 5, 6, 7, 8, 9, 10, 11, 12, 13, 14, 15, 16, 17, 18, 19, 20, 21, 22, 23, 51, 52, 53, 54]
abbrev XSe : List Nat := [1, 2, 5, 6, 7, 8, 9, 10, 11, 12, 13, 14, 15, 16, 17, 18, 59, 60]
abbrev XRd : List Nat := [1, 2, 3, 4, 5, 6, 7, 8, 9, 10, 11, 12, 13, 14, 15, 16, 17, 18]
abbrev XO : List Nat := [1, 2, 3, 4, 5, 6, 7, 8, 9, 10, 11, 12, 13, 14, 15, 16, 17, 18, 19, 20, 21, 22, 23, 24, 25, 26, 27, 28, 29, 30, 31, 32, 33, 34, 51, 52, 53, 54, 59, 60]
/-- rules(): the rules behind it, if they are taken -/
def rle (L : List Int32) (Rs Rt : List (List Int32)) : Option (List (List Int32) × List (List Int32)) := match fsa L with
  | none => none
  | some D => match nbr Rs (sit D) with
    | some j => some (Rs, Rt.set j (rst L))
    | none => if Rs.length = 12 then none else some (Rs ++ [sit D], Rt ++ [rst L])
/-- drop(): the pages behind it, if there was one -/
def drp (L : List Int32) (P : List Pg) : Option (List Pg) := match rfa L with
  | none => none
  | some D => match nbr (pad P) D with
    | none => none
    | some j => some ((P.set j (gP P (P.length - 1))).take (P.length - 1))
/-- read() -/
def rdA (L : List Int32) : List Int32 := (mrr L (bhf L) L.length (fsa L)).getD []
theorem gT_set {T : List (List Int32)} {x : List Int32} {j k : Nat} (hj : j < T.length) : gT (T.set j x) k = if k = j then x else gT T k := by
  unfold gT
  rw [List.getD_eq_getElem?_getD, List.getD_eq_getElem?_getD]
  by_cases e : k = j
  · rw [if_pos e, e, List.getElem?_set_self hj]; rfl
  · rw [if_neg e, List.getElem?_set_ne (fun h => e h.symm)]
theorem gP_take {P : List Pg} {n k : Nat} (h : k < n) : gP (P.take n) k = gP P k := by
  unfold gP
  rw [List.getD_eq_getElem?_getD, List.getD_eq_getElem?_getD, List.getElem?_take_of_lt h]
section OP4
variable {X : am_X} {d k ka j i : Nat} {A B h : List va_E} {S : MS} {T Y U Ls Rs Rt Sd : List (List Int32)} {K V : Kn} {lim sett : Nat → Nat} {c : Cw} {P : List Pg} {D L E : List Int32} {q : Cr} {p w : Int32}
theorem rulM.put {y : Nat} (h : rulM S T Y Rs Rt) (hk : ka < T.length) (hy : y < Y.length) {Rs1 Rt1 : List (List Int32)} (hn : k < Rs1.length) (h12 : Rs1.length ≤ 12) (hnd : Rs1.Nodup) (hs : sit (gT T ka) = gT Rs1 k) (ht : gT Y y = gT Rt1 k) (hP2 : ∀ j, j < Rs1.length → ¬ j = k → j < Rs.length ∧ gT Rs1 j = gT Rs j ∧ gT Rt1 j = gT Rt j) {S1 : MS} (e1 : S1.ruleSite = upd S.ruleSite k (nI ka)) (e2 : S1.ruleText = upd S.ruleText k (nI y)) (e4 : S1.ruleCount = Rs1.length) : rulM S1 T Y Rs1 Rt1 := by
  refine ⟨e4, h12, hnd, fun j hj => ?_⟩
  rw [e1, e2]
  by_cases e : j = k
  · rw [e, upd_s, upd_s]
    exact ⟨⟨ka, hk, rfl, hs⟩, y, hy, rfl, ht⟩
  · obtain ⟨a1, a2, a3⟩ := hP2 j hj e
    rw [upd_n e, upd_n e, a2, a3]
    exact h.2.2.2 j a1
theorem yOK_app (hY : yOK Y) (hc : Y.length < 1100) (hr : ofs Y Y.length + L.length ≤ 24000) (hr8 : (rst L).length ≤ 7999) : yOK (Y ++ [rst L]) := by
  have hl : (Y ++ [rst L]).length = Y.length + 1 := by rw [List.length_append]; rfl
  have hrl : (rst L).length ≤ L.length := by unfold rst; rw [sub_len (Nat.le_refl _)]; omega
  refine ⟨by omega, fun j hj => ?_⟩
  by_cases e : j = Y.length
  · rw [e, gT_new, ofs_s (by omega), gT_new, ofs_app (Nat.le_refl _)]
    exact ⟨by omega, hr8⟩
  · rw [gT_app (by omega), ofs_app (by omega)]
    exact hY.2 j (by omega)
theorem c_M_rules (hA : A.length = 84) (hM : tbM S T Y U) (hUl : U.length < 3500) (hL : tpM S L) (hY : yOK Y) (hp : rulM S T Y Rs Rt) (hrt : Rt.length = Rs.length) (hU : ∀ D, fsa L = some D → D ∈ U) (hr : ofs Y Y.length + L.length ≤ 24000) (hc : Y.length < 1100) (hr8 : (rst L).length ≤ 7999) : am_C X mt_M_rules (d + 8) [.ref 84] (mput A S B) (fun r h1 => match rle L Rs Rt with | none => r = some (.int (-1)) ∧ ∃ S1 T1, h1 = mput A S1 B ∧ mA XRu S S1 ∧ tbM S1 T1 Y U ∧ T <+: T1 ∧ rulM S1 T1 Y Rs Rt ∧ tpM S1 [] | some z => r = some (.int (nI (jgH ((fsa L).getD []) z.1 z.2))) ∧ ∃ S1 T1, h1 = mput A S1 B ∧ mA XRu S S1 ∧ tbM S1 T1 (Y ++ [rst L]) U ∧ T <+: T1 ∧ rulM S1 T1 (Y ++ [rst L]) z.1 z.2 ∧ tpM S1 []) := by
  show am_G X mt_M_rules (d + 8) 0 [some (.ref 84), none, none, none] [] (mput A S B) _
  have hL8 := hL.2.2.1
  have hbL := hL.2.2.2
  have h12 := hp.2.1
  have hbh := bhf_bd L
  refine g_aload_n (pc := 0) dc_M_rules_0 rfl ?_
  refine g_v0 (pc := 1) (M' := mt_M_use) dc_M_rules_1 mo_M_use im_M_use se_M_use ln_M_505 (mp_o hA) rfl rfl (Nat.le_of_ble_eq_true rfl) (Nat.le_of_ble_eq_true rfl) (am_G.mono (c_M_use (d := d + 7) hA hL) ?_)
  intro r h9 hz
  obtain ⟨q1, S1, q2, q3, q4, q5⟩ := hz
  rw [q1, q2]
  clear q1 q2 h9 r
  have hM1 : tbM S1 T Y U := ⟨hM.1.m q3 (by decide) (by decide) (by decide) (by decide), hM.2.1, hM.2.2.1, hM.2.2.2.m q3 (by decide) (by decide) (by decide) (by decide) (by decide)⟩
  refine ⟨am_nti _, ?_⟩
  refine g_istore_n (pc := 4) dc_M_rules_4 (by decide) ?_
  show am_G X mt_M_rules _ 5 [some (.ref 84), some (.int (nI L.length)), none, none] [] _ _
  refine g_aload_n (pc := 5) dc_M_rules_5 rfl ?_
  refine g_iload_n (pc := 6) dc_M_rules_6 rfl ?_
  refine g_v1 (pc := 7) (M' := mt_M_readFirst) dc_M_rules_7 mo_M_readFirst im_M_readFirst se_M_readFirst ln_M_508 (mp_o hA) rfl rfl (Nat.le_of_ble_eq_true rfl) (Nat.le_of_ble_eq_true rfl) (am_G.mono (c_M_readFirst (d := d + 1) hA hM1.1 hM1.2.1 q4 hL8 hbL) ?_)
  intro r h9 hz
  obtain ⟨S2, hz2, hz3, hz4⟩ := hz
  rw [hz2]
  clear hz2 h9
  have hM2 := hM1.sc hz3
  have hm2 : mA XP S S2 := (q3.mo (by decide)).tr (hz3.m.mo (by decide))
  have hx2 : tx S2.coming 0 L := by rw [hz3.m.coming (by decide)]; exact q4
  have ht2 : tpM S2 [] := q5.m hz3.m (by decide) (by decide)
  have hpS : mA XR S S2 := (q3.mo (by decide)).tr (hz3.m.mo (by decide))
  cases hm : fsa L with
  | none =>
    rw [hm] at hz4
    rw [hz4]
    refine ⟨am_nti _, ?_⟩
    have e5 : rle L Rs Rt = none := by unfold rle; rw [hm]
    rw [e5]
    refine g_if_ne (pc := 10) (tgt := 15) dc_M_rules_10 rfl (fun hc => absurd hc (by decide)) (fun _ => ?_)
    refine g_iconst (pc := 13) (v := (-1)) dc_M_rules_13 rfl ?_
    exact g_ireturn dc_M_rules_14 rfl ⟨rfl, S2, T, rfl, hpS.mo (by decide), hM2, List.prefix_refl T, hp.m hpS (by decide) (by decide) (by decide), ht2⟩
  | some D =>
    rw [hm] at hz4
    rw [hz4.1]
    refine ⟨am_nti _, ?_⟩
    have hoD := fsa_ok hbL hm
    have huD := hU D hm
    refine g_if_ne (pc := 10) (tgt := 15) dc_M_rules_10 rfl (fun _ => ?_) (fun hc => absurd hc (by decide))
    refine g_aload_n (pc := 15) dc_M_rules_15 rfl ?_
    refine g_v0 (pc := 16) (M' := mt_M_keep) dc_M_rules_16 mo_M_keep im_M_keep se_M_keep ln_M_300 (mp_o hA) rfl rfl (Nat.le_of_ble_eq_true rfl) (Nat.le_of_ble_eq_true rfl) (am_G.mono (c_M_keep (d := d + 6) (D := D) hA hM2.1 hz4.2 (Or.inr (tb_lt hM2 hUl))) ?_)
    intro r h9 hy9
    obtain ⟨S3, T1, kb, w1, w2, w3⟩ := hy9
    rw [w1, w2]
    clear w1 w2 h9
    have hM3 := hM2.kp w3 hoD huD
    have hm3 : mA XP S S3 := hm2.tr (w3.m.mo (by decide))
    have hpS3 : mA XR S S3 := hpS.tr (w3.m.mo (by decide))
    have hx3 : tx S3.coming 0 L := by rw [w3.m.coming (by decide)]; exact hx2
    have ht3 : tpM S3 [] := ht2.m w3.m (by decide) (by decide)
    have hkb : kb < T1.length ∧ gT T1 kb = D := ⟨w3.2.2.1, w3.2.2.2.1⟩
    refine ⟨am_nti _, ?_⟩
    refine g_istore_n (pc := 19) dc_M_rules_19 (by decide) ?_
    show am_G X mt_M_rules _ 20 [some (.ref 84), some (.int (nI L.length)), some (.int (nI kb)), none] [] _ _
    refine g_aload_n (pc := 20) dc_M_rules_20 rfl ?_
    refine g_iload_n (pc := 21) dc_M_rules_21 rfl ?_
    have hp3 : rulM S3 T1 Y Rs Rt := (hp.m hpS3 (by decide) (by decide) (by decide)).pre w3.pre (List.prefix_refl Y)
    have hnp : ∀ j, nbr Rs (sit D) = some j → j < 2 ^ 31 := fun j hj => by have := (nbr_s hj).1; omega
    refine g_v1 (pc := 22) (M' := mt_M_rulesOf) dc_M_rules_22 mo_M_rulesOf im_M_rulesOf se_M_rulesOf ln_M_201 (mp_o hA) rfl rfl (Nat.le_of_ble_eq_true rfl) (Nat.le_of_ble_eq_true rfl) (am_G.mono (c_M_rulesOf (d := d + 4) hA hM3.1 hkb.1 hp3) ?_)
    intro r h9 hq
    rw [hq.1, hq.2, hkb.2]
    clear hq h9 r
    obtain ⟨oo, hoo⟩ : ∃ oo, oo = nbr Rs (sit D) := ⟨_, rfl⟩
    rw [← hoo]
    have hnp2 : ∀ j, oo = some j → j < 2 ^ 31 := fun j hj => hnp j (hoo.symm.trans hj)
    refine ⟨am_nti _, ?_⟩
    refine g_istore_n (pc := 25) dc_M_rules_25 (by decide) ?_
    show am_G X mt_M_rules _ 26 [some (.ref 84), some (.int (nI L.length)), some (.int (nI kb)), some (.int (er oo))] [] _ _
    refine g_iload_n (pc := 26) dc_M_rules_26 rfl ?_
    refine q_o_ge (pc := 27) (tgt := 56) dc_M_rules_27 hnp2 rfl (fun k27 hc27 => ?_) (fun hc27 => ?_)
    · rw [hc27]
      rw [show er (some k27) = nI k27 from rfl]
      have hk27 := hnp2 k27 hc27
      have hj27b := (nbr_s (hoo.symm.trans hc27)).1
      refine g_aload_n (pc := 56) dc_M_rules_56 rfl ?_
      refine g_getfield (pc := 57) dc_M_rules_57 fl_M_152 (mp_o hA) rfl ?_
      refine g_iload_n (pc := 60) dc_M_rules_60 rfl ?_
      refine g_iload_n (pc := 61) dc_M_rules_61 rfl ?_
      refine as_ruleSite (pc := 62) k27 hA dc_M_rules_62 (by omega) ?_
      refine g_aload_n (pc := 63) dc_M_rules_63 rfl ?_
      refine g_getfield (pc := 64) dc_M_rules_64 fl_M_204 (mp_o hA) rfl ?_
      refine g_iload_n (pc := 67) dc_M_rules_67 rfl ?_
      have hma_S4 : mA [24, 26] S3 (S3.s_ruleSite (upd S3.ruleSite k27 (nI kb))) := ((mA.rf S3).a_ruleSite _ (by decide))
      have hk_S4_ruleSite : (S3.s_ruleSite (upd S3.ruleSite k27 (nI kb))).ruleSite = upd S3.ruleSite k27 (nI kb) := rfl
      have hk_S4_ruleCount : (S3.s_ruleSite (upd S3.ruleSite k27 (nI kb))).ruleCount = Rs.length := hp3.1
      have hk_S4_ruleText : (S3.s_ruleSite (upd S3.ruleSite k27 (nI kb))).ruleText = S3.ruleText := rfl
      have hk_S4_coming : (S3.s_ruleSite (upd S3.ruleSite k27 (nI kb))).coming = S3.coming := rfl
      show am_G X mt_M_rules _ 68 [some (.ref 84), some (.int (nI L.length)), some (.int (nI kb)), some (.int (nI k27))] [.int (nI k27), .ref 100] (mput A (S3.s_ruleSite (upd S3.ruleSite k27 (nI kb))) B) _
      generalize (S3.s_ruleSite (upd S3.ruleSite k27 (nI kb))) = S4 at hma_S4 hk_S4_ruleSite hk_S4_ruleCount hk_S4_ruleText hk_S4_coming ⊢
      refine g_aload_n (pc := 68) dc_M_rules_68 rfl ?_
      refine g_aload_n (pc := 69) dc_M_rules_69 rfl ?_
      refine g_iload_n (pc := 70) dc_M_rules_70 rfl ?_
      refine g_v1 (pc := 71) (M' := mt_M_behindFirst) dc_M_rules_71 mo_M_behindFirst im_M_behindFirst se_M_behindFirst ln_M_511 (mp_o hA) rfl rfl (Nat.le_of_ble_eq_true rfl) (Nat.le_of_ble_eq_true rfl) (am_G.mono (c_M_behindFirst (d := d + 6) (S := S4) hA (by rw [hk_S4_coming]; exact hx3) hL8) ?_)
      intro r h1 hq
      rw [hq.1, hq.2]
      clear hq h1 r
      refine ⟨am_nti _, ?_⟩
      refine g_iload_n (pc := 74) dc_M_rules_74 rfl ?_
      refine g_v2 (pc := 75) (M' := mt_M_tell) dc_M_rules_75 mo_M_tell im_M_tell se_M_tell ln_M_514 (mp_o hA) rfl rfl (Nat.le_of_ble_eq_true rfl) (Nat.le_of_ble_eq_true rfl) (am_G.mono (c_M_tell2 (d := d + 7) (S := S4) (f := bhf L) (t := L.length) hA (hM3.2.2.2.m hma_S4 (by decide) (by decide) (by decide) (by decide) (by decide)) (by rw [hk_S4_coming]; exact hx3) hbL hL8 hbh (Nat.le_refl _) (by omega) hc) ?_)
      intro r h9 hz
      obtain ⟨v1, S5, v2, v3, v4⟩ := hz
      rw [v1, v2]
      clear v1 v2 h9 r
      refine ⟨am_nti _, ?_⟩
      refine as_ruleText (pc := 78) k27 hA dc_M_rules_78 (by omega) ?_
      refine g_aload_n (pc := 79) dc_M_rules_79 rfl ?_
      refine g_iload_n (pc := 80) dc_M_rules_80 rfl ?_
      have hm6 : mA [25] S5 (S5.s_ruleText (upd S5.ruleText k27 (nI Y.length))) := (mA.rf S5).a_ruleText _ (by decide)
      have hf6 : (S5.s_ruleText (upd S5.ruleText k27 (nI Y.length))).ruleText = upd S3.ruleText k27 (nI Y.length) := by show upd S5.ruleText _ _ = _; rw [v3.ruleText (by decide), hk_S4_ruleText]
      have hm7 : mA XRu S (S5.s_ruleText (upd S5.ruleText k27 (nI Y.length))) := (((hpS3.mo (by decide)).tr (hma_S4.mo (by decide))).tr (v3.mo (by decide))).tr (hm6.mo (by decide))
      have hpl : Y <+: Y ++ [rst L] := List.prefix_append _ _
      have hM7 : tbM (S5.s_ruleText (upd S5.ruleText k27 (nI Y.length))) T1 (Y ++ [rst L]) U := ⟨((hM3.1.m hma_S4 (by decide) (by decide) (by decide) (by decide)).m v3 (by decide) (by decide) (by decide) (by decide)).m hm6 (by decide) (by decide) (by decide) (by decide), hM3.2.1, hM3.2.2.1, v4.m hm6 (by decide) (by decide) (by decide) (by decide) (by decide)⟩
      have ht7 : tpM (S5.s_ruleText (upd S5.ruleText k27 (nI Y.length))) [] := ((ht3.m hma_S4 (by decide) (by decide)).m v3 (by decide) (by decide)).m hm6 (by decide) (by decide)
      have hyl : Y.length < (Y ++ [rst L]).length := by rw [List.length_append]; exact Nat.lt_succ_self _
      have hY7 : yOK (Y ++ [rst L]) := yOK_app hY hc hr hr8
      have hj27 := (nbr_s (hoo.symm.trans hc27))
      have hp7 : rulM (S5.s_ruleText (upd S5.ruleText k27 (nI Y.length))) T1 (Y ++ [rst L]) Rs (Rt.set k27 (rst L)) := (hp3.pre (List.prefix_refl T1) hpl).put (k := k27) hkb.1 hyl hj27.1 (by omega) hp3.2.2.1 (by rw [hkb.2]; exact hj27.2.symm) (by rw [gT_new, gT_set (by omega), if_pos rfl]) (fun j hj hne => ⟨hj, rfl, by rw [gT_set (by omega), if_neg hne]⟩) ((hm6.ruleSite (by decide)).trans ((v3.ruleSite (by decide)).trans hk_S4_ruleSite)) hf6 ((hm6.ruleCount (by decide)).trans ((v3.ruleCount (by decide)).trans hk_S4_ruleCount))
      have e5 : rle L Rs Rt = some (Rs, (Rt.set k27 (rst L))) := by unfold rle; rw [hm]; dsimp only; rw [← hoo, hc27]
      rw [e5]
      generalize (S5.s_ruleText (upd S5.ruleText k27 (nI Y.length))) = S7 at hm7 hM7 ht7 hp7 ⊢
      refine g_v1 (pc := 81) (M' := mt_M_judge) dc_M_rules_81 mo_M_judge im_M_judge se_M_judge ln_M_439 (mp_o hA) rfl rfl (Nat.le_of_ble_eq_true rfl) (Nat.le_of_ble_eq_true rfl) (am_G.mono (c_M_judge (d := d) (S := S7) (T := T1) (Y := Y ++ [rst L]) hA hM7.1 hkb.1 (by rw [hkb.2]; exact hoD) hM7.2.2.2 hY7.1 (fun j hj => ⟨(hY7.2 j hj).1, by have := (hY7.2 j hj).2; omega⟩) hp7) ?_)
      intro r h9 hz
      obtain ⟨u1, S8, u2, u3, u4, u5⟩ := hz
      rw [u1, u2]
      clear u1 u2 h9 r
      rw [hkb.2] at u4
      have hm8 := u3.m
      refine ⟨am_nt0, ?_⟩
      refine g_aload_n (pc := 84) dc_M_rules_84 rfl ?_
      refine g_getfield (pc := 85) (v := .int (nI (jgH D Rs (Rt.set k27 (rst L))))) dc_M_rules_85 fl_M_194 (mp_o hA) (congrArg (fun z => some (Value.int (nI z))) u4) ?_
      exact g_ireturn dc_M_rules_88 rfl ⟨rfl, S8, T1, rfl, hm7.tr (hm8.mo (by decide)), ⟨hM7.1.m hm8 (by decide) (by decide) (by decide) (by decide), hM7.2.1, hM7.2.2.1, hM7.2.2.2.m hm8 (by decide) (by decide) (by decide) (by decide) (by decide)⟩, w3.pre, hp7.m hm8 (by decide) (by decide) (by decide), ht7.m hm8 (by decide) (by decide)⟩
    · rw [hc27]
      refine g_aload_n (pc := 30) dc_M_rules_30 rfl ?_
      refine g_getfield (pc := 31) (v := .int (nI Rs.length)) dc_M_rules_31 fl_M_149 (mp_o hA) (congrArg (fun z => some (Value.int (nI z))) hp3.1) ?_
      refine g_bipush (pc := 34) (v := 12) dc_M_rules_34 rfl ?_
      refine q_icmp_ne (pc := 36) (tgt := 41) Rs.length 12 dc_M_rules_36 (by omega) (by omega) rfl (fun hc36 => ?_) (fun hc36 => ?_)
      · refine g_aload_n (pc := 41) dc_M_rules_41 rfl ?_
        refine g_getfield (pc := 42) (v := .int (nI Rs.length)) dc_M_rules_42 fl_M_149 (mp_o hA) (congrArg (fun z => some (Value.int (nI z))) hp3.1) ?_
        refine g_istore_n (pc := 45) dc_M_rules_45 (by decide) ?_
        show am_G X mt_M_rules _ 46 [some (.ref 84), some (.int (nI L.length)), some (.int (nI kb)), some (.int (nI Rs.length))] [] _ _
        refine g_aload_n (pc := 46) dc_M_rules_46 rfl ?_
        refine g_dup (pc := 47) dc_M_rules_47 rfl ?_
        refine g_getfield (pc := 48) (v := .int (nI Rs.length)) dc_M_rules_48 fl_M_149 (mp_o hA) (congrArg (fun z => some (Value.int (nI z))) hp3.1) ?_
        refine g_iconst (pc := 51) (v := 1) dc_M_rules_51 rfl ?_
        refine g_iadd (pc := 52) (v := (nI (Rs.length + 1))) dc_M_rules_52 (nI_add Rs.length 1) ?_
        refine pf_ruleCount (pc := 53) (v := Rs.length + 1) hA dc_M_rules_53 fp_M_rules_149 ?_
        refine g_aload_n (pc := 56) dc_M_rules_56 rfl ?_
        refine g_getfield (pc := 57) dc_M_rules_57 fl_M_152 (mp_o hA) rfl ?_
        refine g_iload_n (pc := 60) dc_M_rules_60 rfl ?_
        refine g_iload_n (pc := 61) dc_M_rules_61 rfl ?_
        refine asE_ruleSite (pc := 62) Rs.length (g := upd S3.ruleSite Rs.length (nI kb)) hA dc_M_rules_62 (by omega) (rfl) ?_
        refine g_aload_n (pc := 63) dc_M_rules_63 rfl ?_
        refine g_getfield (pc := 64) dc_M_rules_64 fl_M_204 (mp_o hA) rfl ?_
        refine g_iload_n (pc := 67) dc_M_rules_67 rfl ?_
        have hma_S4 : mA [24, 26] S3 ((S3.s_ruleCount (Rs.length + 1)).s_ruleSite (upd S3.ruleSite Rs.length (nI kb))) := (((mA.rf S3).a_ruleCount _ (by decide)).a_ruleSite _ (by decide))
        have hk_S4_ruleSite : ((S3.s_ruleCount (Rs.length + 1)).s_ruleSite (upd S3.ruleSite Rs.length (nI kb))).ruleSite = upd S3.ruleSite Rs.length (nI kb) := rfl
        have hk_S4_ruleCount : ((S3.s_ruleCount (Rs.length + 1)).s_ruleSite (upd S3.ruleSite Rs.length (nI kb))).ruleCount = Rs.length + 1 := rfl
        have hk_S4_ruleText : ((S3.s_ruleCount (Rs.length + 1)).s_ruleSite (upd S3.ruleSite Rs.length (nI kb))).ruleText = S3.ruleText := rfl
        have hk_S4_coming : ((S3.s_ruleCount (Rs.length + 1)).s_ruleSite (upd S3.ruleSite Rs.length (nI kb))).coming = S3.coming := rfl
        show am_G X mt_M_rules _ 68 [some (.ref 84), some (.int (nI L.length)), some (.int (nI kb)), some (.int (nI Rs.length))] [.int (nI Rs.length), .ref 100] (mput A ((S3.s_ruleCount (Rs.length + 1)).s_ruleSite (upd S3.ruleSite Rs.length (nI kb))) B) _
        generalize ((S3.s_ruleCount (Rs.length + 1)).s_ruleSite (upd S3.ruleSite Rs.length (nI kb))) = S4 at hma_S4 hk_S4_ruleSite hk_S4_ruleCount hk_S4_ruleText hk_S4_coming ⊢
        refine g_aload_n (pc := 68) dc_M_rules_68 rfl ?_
        refine g_aload_n (pc := 69) dc_M_rules_69 rfl ?_
        refine g_iload_n (pc := 70) dc_M_rules_70 rfl ?_
        refine g_v1 (pc := 71) (M' := mt_M_behindFirst) dc_M_rules_71 mo_M_behindFirst im_M_behindFirst se_M_behindFirst ln_M_511 (mp_o hA) rfl rfl (Nat.le_of_ble_eq_true rfl) (Nat.le_of_ble_eq_true rfl) (am_G.mono (c_M_behindFirst (d := d + 6) (S := S4) hA (by rw [hk_S4_coming]; exact hx3) hL8) ?_)
        intro r h1 hq
        rw [hq.1, hq.2]
        clear hq h1 r
        refine ⟨am_nti _, ?_⟩
        refine g_iload_n (pc := 74) dc_M_rules_74 rfl ?_
        refine g_v2 (pc := 75) (M' := mt_M_tell) dc_M_rules_75 mo_M_tell im_M_tell se_M_tell ln_M_514 (mp_o hA) rfl rfl (Nat.le_of_ble_eq_true rfl) (Nat.le_of_ble_eq_true rfl) (am_G.mono (c_M_tell2 (d := d + 7) (S := S4) (f := bhf L) (t := L.length) hA (hM3.2.2.2.m hma_S4 (by decide) (by decide) (by decide) (by decide) (by decide)) (by rw [hk_S4_coming]; exact hx3) hbL hL8 hbh (Nat.le_refl _) (by omega) hc) ?_)
        intro r h9 hz
        obtain ⟨v1, S5, v2, v3, v4⟩ := hz
        rw [v1, v2]
        clear v1 v2 h9 r
        refine ⟨am_nti _, ?_⟩
        refine as_ruleText (pc := 78) Rs.length hA dc_M_rules_78 (by omega) ?_
        refine g_aload_n (pc := 79) dc_M_rules_79 rfl ?_
        refine g_iload_n (pc := 80) dc_M_rules_80 rfl ?_
        have hm6 : mA [25] S5 (S5.s_ruleText (upd S5.ruleText Rs.length (nI Y.length))) := (mA.rf S5).a_ruleText _ (by decide)
        have hf6 : (S5.s_ruleText (upd S5.ruleText Rs.length (nI Y.length))).ruleText = upd S3.ruleText Rs.length (nI Y.length) := by show upd S5.ruleText _ _ = _; rw [v3.ruleText (by decide), hk_S4_ruleText]
        have hm7 : mA XRu S (S5.s_ruleText (upd S5.ruleText Rs.length (nI Y.length))) := (((hpS3.mo (by decide)).tr (hma_S4.mo (by decide))).tr (v3.mo (by decide))).tr (hm6.mo (by decide))
        have hpl : Y <+: Y ++ [rst L] := List.prefix_append _ _
        have hM7 : tbM (S5.s_ruleText (upd S5.ruleText Rs.length (nI Y.length))) T1 (Y ++ [rst L]) U := ⟨((hM3.1.m hma_S4 (by decide) (by decide) (by decide) (by decide)).m v3 (by decide) (by decide) (by decide) (by decide)).m hm6 (by decide) (by decide) (by decide) (by decide), hM3.2.1, hM3.2.2.1, v4.m hm6 (by decide) (by decide) (by decide) (by decide) (by decide)⟩
        have ht7 : tpM (S5.s_ruleText (upd S5.ruleText Rs.length (nI Y.length))) [] := ((ht3.m hma_S4 (by decide) (by decide)).m v3 (by decide) (by decide)).m hm6 (by decide) (by decide)
        have hyl : Y.length < (Y ++ [rst L]).length := by rw [List.length_append]; exact Nat.lt_succ_self _
        have hY7 : yOK (Y ++ [rst L]) := yOK_app hY hc hr hr8
        have hnb := nbr_n (hoo.symm.trans hc27)
        have hlen : (Rs ++ [sit D]).length = Rs.length + 1 := by rw [List.length_append]; rfl
        have hp7 : rulM (S5.s_ruleText (upd S5.ruleText Rs.length (nI Y.length))) T1 (Y ++ [rst L]) (Rs ++ [sit D]) (Rt ++ [rst L]) := (hp3.pre (List.prefix_refl T1) hpl).put (k := Rs.length) hkb.1 hyl (by omega) (by omega) (nd_snoc hp3.2.2.1 hnb) (by rw [hkb.2, gT_new]) (by rw [gT_new, ← hrt, gT_new]) (fun j hj hne => ⟨by omega, gT_app (by omega), gT_app (by omega)⟩) ((hm6.ruleSite (by decide)).trans ((v3.ruleSite (by decide)).trans hk_S4_ruleSite)) hf6 (by rw [hlen]; exact (hm6.ruleCount (by decide)).trans ((v3.ruleCount (by decide)).trans hk_S4_ruleCount))
        have e5 : rle L Rs Rt = some ((Rs ++ [sit D]), (Rt ++ [rst L])) := by unfold rle; rw [hm]; dsimp only; rw [← hoo, hc27]; dsimp only; rw [if_neg hc36]
        rw [e5]
        generalize (S5.s_ruleText (upd S5.ruleText Rs.length (nI Y.length))) = S7 at hm7 hM7 ht7 hp7 ⊢
        refine g_v1 (pc := 81) (M' := mt_M_judge) dc_M_rules_81 mo_M_judge im_M_judge se_M_judge ln_M_439 (mp_o hA) rfl rfl (Nat.le_of_ble_eq_true rfl) (Nat.le_of_ble_eq_true rfl) (am_G.mono (c_M_judge (d := d) (S := S7) (T := T1) (Y := Y ++ [rst L]) hA hM7.1 hkb.1 (by rw [hkb.2]; exact hoD) hM7.2.2.2 hY7.1 (fun j hj => ⟨(hY7.2 j hj).1, by have := (hY7.2 j hj).2; omega⟩) hp7) ?_)
        intro r h9 hz
        obtain ⟨u1, S8, u2, u3, u4, u5⟩ := hz
        rw [u1, u2]
        clear u1 u2 h9 r
        rw [hkb.2] at u4
        have hm8 := u3.m
        refine ⟨am_nt0, ?_⟩
        refine g_aload_n (pc := 84) dc_M_rules_84 rfl ?_
        refine g_getfield (pc := 85) (v := .int (nI (jgH D (Rs ++ [sit D]) (Rt ++ [rst L])))) dc_M_rules_85 fl_M_194 (mp_o hA) (congrArg (fun z => some (Value.int (nI z))) u4) ?_
        exact g_ireturn dc_M_rules_88 rfl ⟨rfl, S8, T1, rfl, hm7.tr (hm8.mo (by decide)), ⟨hM7.1.m hm8 (by decide) (by decide) (by decide) (by decide), hM7.2.1, hM7.2.2.1, hM7.2.2.2.m hm8 (by decide) (by decide) (by decide) (by decide) (by decide)⟩, w3.pre, hp7.m hm8 (by decide) (by decide) (by decide), ht7.m hm8 (by decide) (by decide)⟩
      · refine g_iconst (pc := 39) (v := (-1)) dc_M_rules_39 rfl ?_
        have e5 : rle L Rs Rt = none := by unfold rle; rw [hm]; dsimp only; rw [← hoo, hc27]; dsimp only; rw [if_pos hc36]
        rw [e5]
        exact g_ireturn dc_M_rules_40 rfl ⟨rfl, S3, T1, rfl, hpS3.mo (by decide), hM3, w3.pre, hp3, ht3⟩
theorem c_M_allowed (hA : A.length = 84) (hM : tbM S T Y U) (hUl : U.length < 3500) (hL : tpM S L) (hY : yOK Y) (hp : rulM S T Y Rs Rt) (hU : ∀ D, rfa L = some D → D ∈ U) : am_C X mt_M_allowed (d + 8) [.ref 84] (mput A S B) (fun r h1 => r = some (.int (match rfa L with | none => -1 | some D => b1 (jgL D Rs Rt))) ∧ ∃ S1 T1, h1 = mput A S1 B ∧ mA XAl S S1 ∧ tbM S1 T1 Y U ∧ T <+: T1 ∧ tpM S1 []) := by
  show am_G X mt_M_allowed (d + 8) 0 [some (.ref 84), none] [] (mput A S B) _
  have hL8 := hL.2.2.1
  have hbL := hL.2.2.2
  refine g_aload_n (pc := 0) dc_M_allowed_0 rfl ?_
  refine g_v0 (pc := 1) (M' := mt_M_use) dc_M_allowed_1 mo_M_use im_M_use se_M_use ln_M_505 (mp_o hA) rfl rfl (Nat.le_of_ble_eq_true rfl) (Nat.le_of_ble_eq_true rfl) (am_G.mono (c_M_use (d := d + 7) hA hL) ?_)
  intro r h9 hz
  obtain ⟨q1, S1, q2, q3, q4, q5⟩ := hz
  rw [q1, q2]
  clear q1 q2 h9 r
  have hM1 : tbM S1 T Y U := ⟨hM.1.m q3 (by decide) (by decide) (by decide) (by decide), hM.2.1, hM.2.2.1, hM.2.2.2.m q3 (by decide) (by decide) (by decide) (by decide) (by decide)⟩
  refine ⟨am_nti _, ?_⟩
  refine g_istore_n (pc := 4) dc_M_allowed_4 (by decide) ?_
  show am_G X mt_M_allowed _ 5 [some (.ref 84), some (.int (nI L.length))] [] _ _
  refine g_aload_n (pc := 5) dc_M_allowed_5 rfl ?_
  refine g_aload_n (pc := 6) dc_M_allowed_6 rfl ?_
  refine g_getfield (pc := 7) dc_M_allowed_7 fl_M_143 (mp_o hA) rfl ?_
  refine g_iconst (pc := 10) (v := 0) dc_M_allowed_10 rfl ?_
  refine g_iload_n (pc := 11) dc_M_allowed_11 rfl ?_
  rw [show nI L.length = nI (0 + L.length) from congrArg nI (Nat.zero_add _).symm]
  refine g_iconst (pc := 12) (v := (-1)) dc_M_allowed_12 rfl ?_
  refine g_v4 (pc := 13) (M' := mt_M_readReference) dc_M_allowed_13 mo_M_readReference im_M_readReference se_M_readReference ln_M_297 (mp_o hA) rfl rfl (Nat.le_of_ble_eq_true rfl) (Nat.le_of_ble_eq_true rfl) (am_G.mono (c_M_readReference (d := d + 2) (s := 0) (L := L) (f0 := 0) (t0 := L.length) (bo := none) (ca := 85) hA hM1.1 (okT_of hM1.2.1) (txO_coming hA q4 (by omega)) (by decide) hbL (by omega) (by omega) (by omega) (fun q hq => by cases hq)) ?_)
  intro r h9 hz
  obtain ⟨S2, hz2, hz3, hz4⟩ := hz
  rw [hz2]
  clear hz2 h9
  have hM2 := hM1.sc hz3
  have hm2 : mA XP S S2 := (q3.mo (by decide)).tr (hz3.m.mo (by decide))
  have hx2 : tx S2.coming 0 L := by rw [hz3.m.coming (by decide)]; exact q4
  have ht2 : tpM S2 [] := q5.m hz3.m (by decide) (by decide)
  have hpS : mA XR S S2 := (q3.mo (by decide)).tr (hz3.m.mo (by decide))
  rw [show Option.map (gT T) (none : Option Nat) = none from rfl, show mrr L 0 L.length none = rfa L from rfl] at hz4
  cases hm : rfa L with
  | none =>
    rw [hm] at hz4
    rw [hz4]
    refine ⟨am_nti _, ?_⟩
    refine g_if_ne (pc := 16) (tgt := 21) dc_M_allowed_16 rfl (fun hc => absurd hc (by decide)) (fun _ => ?_)
    refine g_iconst (pc := 19) (v := (-1)) dc_M_allowed_19 rfl ?_
    exact g_ireturn dc_M_allowed_20 rfl ⟨rfl, S2, T, rfl, hpS.mo (by decide), hM2, List.prefix_refl T, ht2⟩
  | some D =>
    rw [hm] at hz4
    rw [hz4.1]
    refine ⟨am_nti _, ?_⟩
    have hoD := rfa_ok hbL hm
    have huD := hU D hm
    refine g_if_ne (pc := 16) (tgt := 21) dc_M_allowed_16 rfl (fun _ => ?_) (fun hc => absurd hc (by decide))
    refine g_aload_n (pc := 21) dc_M_allowed_21 rfl ?_
    refine g_aload_n (pc := 22) dc_M_allowed_22 rfl ?_
    refine g_v0 (pc := 23) (M' := mt_M_keep) dc_M_allowed_23 mo_M_keep im_M_keep se_M_keep ln_M_300 (mp_o hA) rfl rfl (Nat.le_of_ble_eq_true rfl) (Nat.le_of_ble_eq_true rfl) (am_G.mono (c_M_keep (d := d + 6) (D := D) hA hM2.1 hz4.2 (Or.inr (tb_lt hM2 hUl))) ?_)
    intro r h9 hy9
    obtain ⟨S3, T1, kb, w1, w2, w3⟩ := hy9
    rw [w1, w2]
    clear w1 w2 h9
    have hM3 := hM2.kp w3 hoD huD
    have hm3 : mA XP S S3 := hm2.tr (w3.m.mo (by decide))
    have hpS3 : mA XR S S3 := hpS.tr (w3.m.mo (by decide))
    have hx3 : tx S3.coming 0 L := by rw [w3.m.coming (by decide)]; exact hx2
    have ht3 : tpM S3 [] := ht2.m w3.m (by decide) (by decide)
    have hkb : kb < T1.length ∧ gT T1 kb = D := ⟨w3.2.2.1, w3.2.2.2.1⟩
    refine ⟨am_nti _, ?_⟩
    have hp3 : rulM S3 T1 Y Rs Rt := (hp.m hpS3 (by decide) (by decide) (by decide)).pre w3.pre (List.prefix_refl Y)
    refine g_v1 (pc := 26) (M' := mt_M_judge) dc_M_allowed_26 mo_M_judge im_M_judge se_M_judge ln_M_439 (mp_o hA) rfl rfl (Nat.le_of_ble_eq_true rfl) (Nat.le_of_ble_eq_true rfl) (am_G.mono (c_M_judge (d := d) (S := S3) (T := T1) (Y := Y) hA hM3.1 hkb.1 (by rw [hkb.2]; exact hoD) hM3.2.2.2 hY.1 (fun j hj => ⟨(hY.2 j hj).1, by have := (hY.2 j hj).2; omega⟩) hp3) ?_)
    intro r h9 hz
    obtain ⟨u1, S8, u2, u3, u4, u5⟩ := hz
    rw [u1, u2]
    clear u1 u2 h9 r
    rw [hkb.2] at u5
    have hm8 := u3.m
    refine ⟨am_nt0, ?_⟩
    refine g_aload_n (pc := 29) dc_M_allowed_29 rfl ?_
    refine g_getfield (pc := 30) (v := .int (b1 (jgL D Rs Rt))) dc_M_allowed_30 fl_M_197 (mp_o hA) (congrArg (fun z => some (Value.int (b1 z))) u5) ?_
    refine q_ifb_eq (pc := 33) (tgt := 40) dc_M_allowed_33 rfl (fun hc33 => ?_) (fun hc33 => ?_)
    · refine g_iconst (pc := 40) (v := 0) dc_M_allowed_40 rfl ?_
      exact g_ireturn dc_M_allowed_41 rfl ⟨by show some (Value.int _) = some (Value.int (b1 (jgL D Rs Rt))); rw [hc33]; rfl, S8, T1, rfl, (hpS3.mo (by decide)).tr (hm8.mo (by decide)), ⟨hM3.1.m hm8 (by decide) (by decide) (by decide) (by decide), hM3.2.1, hM3.2.2.1, hM3.2.2.2.m hm8 (by decide) (by decide) (by decide) (by decide) (by decide)⟩, w3.pre, ht3.m hm8 (by decide) (by decide)⟩
    · refine g_iconst (pc := 36) (v := 1) dc_M_allowed_36 rfl ?_
      refine g_goto (pc := 37) (tgt := 41) dc_M_allowed_37 rfl ?_
      exact g_ireturn dc_M_allowed_41 rfl ⟨by show some (Value.int _) = some (Value.int (b1 (jgL D Rs Rt))); rw [hc33]; rfl, S8, T1, rfl, (hpS3.mo (by decide)).tr (hm8.mo (by decide)), ⟨hM3.1.m hm8 (by decide) (by decide) (by decide) (by decide), hM3.2.1, hM3.2.2.1, hM3.2.2.2.m hm8 (by decide) (by decide) (by decide) (by decide) (by decide)⟩, w3.pre, ht3.m hm8 (by decide) (by decide)⟩
theorem pad_swap {j : Nat} (hn : (pad P).Nodup) (hj : j < P.length) : (pad ((P.set j (gP P (P.length - 1))).take (P.length - 1))).Nodup := by
  rw [List.nodup_iff_pairwise_ne, List.pairwise_iff_getElem]
  have hpl : (pad ((P.set j (gP P (P.length - 1))).take (P.length - 1))).length = P.length - 1 := by rw [pad_len, List.length_take, List.length_set]; omega
  have hval : ∀ (i : Nat) (hi : i < (pad ((P.set j (gP P (P.length - 1))).take (P.length - 1))).length), (pad ((P.set j (gP P (P.length - 1))).take (P.length - 1)))[i] = gT (pad P) (if i = j then P.length - 1 else i) := fun i hi => by
    rw [← gT_eq hi, pad_g (by rw [← pad_len]; exact hi), gP_take (by omega), gP_set hj]
    split
    · rw [pad_g (by omega)]
    · rw [pad_g (by omega)]
  intro a b ha hb hab
  rw [hval a ha, hval b hb]
  rw [hpl] at ha hb
  intro e
  have h1 := gT_inj hn (i := if a = j then P.length - 1 else a) (j := if b = j then P.length - 1 else b) (by rw [pad_len]; split <;> omega) (by rw [pad_len]; split <;> omega) e
  split at h1 <;> split at h1 <;> omega
theorem pagM_drop {S1 : MS} {kc y9 : Nat} (h : pagM S T Y P) (hj : j < P.length) (hc1 : kc < T.length) (hc3 : gT T kc = (gP P (P.length - 1)).1) (hs : (gP P (P.length - 1)).2.1 ≤ 599) (hy1 : y9 < Y.length) (hy3 : gT Y y9 = (gP P (P.length - 1)).2.2) (e : S1.pageAddress = upd S.pageAddress j (nI kc) ∧ S1.pageStatus = upd S.pageStatus j (nI (gP P (P.length - 1)).2.1) ∧ S1.pageText = upd S.pageText j (nI y9) ∧ S1.pageCount = P.length - 1) : pagM S1 T Y ((P.set j (gP P (P.length - 1))).take (P.length - 1)) := by
  have hl : ((P.set j (gP P (P.length - 1))).take (P.length - 1)).length = P.length - 1 := by rw [List.length_take, List.length_set]; omega
  refine ⟨by rw [hl]; exact e.2.2.2, by rw [hl]; have := h.2.1; omega, pad_swap h.2.2.1 hj, fun k hk => ?_⟩
  rw [hl] at hk
  rw [e.1, e.2.1, e.2.2.1, gP_take hk, gP_set hj]
  by_cases q : k = j
  · rw [q, upd_s, upd_s, upd_s, if_pos rfl]
    exact ⟨⟨kc, hc1, rfl, hc3⟩, ⟨rfl, hs⟩, y9, hy1, rfl, hy3⟩
  · rw [upd_n q, upd_n q, upd_n q, if_neg q]
    exact h.2.2.2 k (by omega)
theorem c_M_drop (hA : A.length = 84) (hM : tbM S T Y U) (hUl : U.length < 3500) (hL : tpM S L) (hp : pagM S T Y P) (hU : ∀ D, rfa L = some D → D ∈ U) : am_C X mt_M_drop (d + 7) [.ref 84] (mput A S B) (fun r h1 => match drp L P with | none => r = some (.int 0) ∧ ∃ S1 T1, h1 = mput A S1 B ∧ mA XDr S S1 ∧ tbM S1 T1 Y U ∧ T <+: T1 ∧ tpM S1 [] ∧ pagM S1 T1 Y P | some P1 => r = some (.int 1) ∧ ∃ S1 T1, h1 = mput A S1 B ∧ mA XDr S S1 ∧ tbM S1 T1 Y U ∧ T <+: T1 ∧ tpM S1 [] ∧ pagM S1 T1 Y P1) := by
  show am_G X mt_M_drop (d + 7) 0 [some (.ref 84), none, none] [] (mput A S B) _
  have hL8 := hL.2.2.1
  have hbL := hL.2.2.2
  have h60 := hp.2.1
  refine g_aload_n (pc := 0) dc_M_drop_0 rfl ?_
  refine g_v0 (pc := 1) (M' := mt_M_use) dc_M_drop_1 mo_M_use im_M_use se_M_use ln_M_505 (mp_o hA) rfl rfl (Nat.le_of_ble_eq_true rfl) (Nat.le_of_ble_eq_true rfl) (am_G.mono (c_M_use (d := d + 6) hA hL) ?_)
  intro r h9 hz
  obtain ⟨q1, S1, q2, q3, q4, q5⟩ := hz
  rw [q1, q2]
  clear q1 q2 h9 r
  have hM1 : tbM S1 T Y U := ⟨hM.1.m q3 (by decide) (by decide) (by decide) (by decide), hM.2.1, hM.2.2.1, hM.2.2.2.m q3 (by decide) (by decide) (by decide) (by decide) (by decide)⟩
  refine ⟨am_nti _, ?_⟩
  refine g_istore_n (pc := 4) dc_M_drop_4 (by decide) ?_
  show am_G X mt_M_drop _ 5 [some (.ref 84), some (.int (nI L.length)), none] [] _ _
  refine g_aload_n (pc := 5) dc_M_drop_5 rfl ?_
  refine g_aload_n (pc := 6) dc_M_drop_6 rfl ?_
  refine g_getfield (pc := 7) dc_M_drop_7 fl_M_143 (mp_o hA) rfl ?_
  refine g_iconst (pc := 10) (v := 0) dc_M_drop_10 rfl ?_
  refine g_iload_n (pc := 11) dc_M_drop_11 rfl ?_
  rw [show nI L.length = nI (0 + L.length) from congrArg nI (Nat.zero_add _).symm]
  refine g_iconst (pc := 12) (v := (-1)) dc_M_drop_12 rfl ?_
  refine g_v4 (pc := 13) (M' := mt_M_readReference) dc_M_drop_13 mo_M_readReference im_M_readReference se_M_readReference ln_M_297 (mp_o hA) rfl rfl (Nat.le_of_ble_eq_true rfl) (Nat.le_of_ble_eq_true rfl) (am_G.mono (c_M_readReference (d := d + 1) (s := 0) (L := L) (f0 := 0) (t0 := L.length) (bo := none) (ca := 85) hA hM1.1 (okT_of hM1.2.1) (txO_coming hA q4 (by omega)) (by decide) hbL (by omega) (by omega) (by omega) (fun q hq => by cases hq)) ?_)
  intro r h9 hz
  obtain ⟨S2, hz2, hz3, hz4⟩ := hz
  rw [hz2]
  clear hz2 h9
  have hM2 := hM1.sc hz3
  have hm2 : mA XP S S2 := (q3.mo (by decide)).tr (hz3.m.mo (by decide))
  have hx2 : tx S2.coming 0 L := by rw [hz3.m.coming (by decide)]; exact q4
  have ht2 : tpM S2 [] := q5.m hz3.m (by decide) (by decide)
  have hpS : mA XR S S2 := (q3.mo (by decide)).tr (hz3.m.mo (by decide))
  rw [show Option.map (gT T) (none : Option Nat) = none from rfl, show mrr L 0 L.length none = rfa L from rfl] at hz4
  cases hm : rfa L with
  | none =>
    rw [hm] at hz4
    rw [hz4]
    refine ⟨am_nti _, ?_⟩
    have e5 : drp L P = none := by unfold drp; rw [hm]
    rw [e5]
    refine g_if_eq (pc := 16) (tgt := 30) dc_M_drop_16 rfl (fun _ => ?_) (fun hc => absurd hc (by decide))
    refine g_iconst (pc := 30) (v := (-1)) dc_M_drop_30 rfl ?_
    refine g_istore_n (pc := 31) dc_M_drop_31 (by decide) ?_
    show am_G X mt_M_drop _ 32 [some (.ref 84), some (.int (nI (0 + L.length))), some (.int (-1))] [] _ _
    refine g_iload_n (pc := 32) dc_M_drop_32 rfl ?_
    refine g_if_ge (pc := 33) (tgt := 38) dc_M_drop_33 rfl (fun hc => absurd hc (by decide)) (fun _ => ?_)
    refine g_iconst (pc := 36) (v := 0) dc_M_drop_36 rfl ?_
    exact g_zreturn dc_M_drop_37 rfl rfl ⟨rfl, S2, T, rfl, hpS.mo (by decide), hM2, List.prefix_refl T, ht2, hp.m hpS (by decide) (by decide) (by decide) (by decide)⟩
  | some D =>
    rw [hm] at hz4
    rw [hz4.1]
    refine ⟨am_nti _, ?_⟩
    have hoD := rfa_ok hbL hm
    have huD := hU D hm
    refine g_if_eq (pc := 16) (tgt := 30) dc_M_drop_16 rfl (fun hc => absurd hc (by decide)) (fun _ => ?_)
    refine g_aload_n (pc := 19) dc_M_drop_19 rfl ?_
    refine g_aload_n (pc := 20) dc_M_drop_20 rfl ?_
    refine g_v0 (pc := 21) (M' := mt_M_keep) dc_M_drop_21 mo_M_keep im_M_keep se_M_keep ln_M_300 (mp_o hA) rfl rfl (Nat.le_of_ble_eq_true rfl) (Nat.le_of_ble_eq_true rfl) (am_G.mono (c_M_keep (d := d + 5) (D := D) hA hM2.1 hz4.2 (Or.inr (tb_lt hM2 hUl))) ?_)
    intro r h9 hy9
    obtain ⟨S3, T1, kb, w1, w2, w3⟩ := hy9
    rw [w1, w2]
    clear w1 w2 h9
    have hM3 := hM2.kp w3 hoD huD
    have hm3 : mA XP S S3 := hm2.tr (w3.m.mo (by decide))
    have hpS3 : mA XR S S3 := hpS.tr (w3.m.mo (by decide))
    have hx3 : tx S3.coming 0 L := by rw [w3.m.coming (by decide)]; exact hx2
    have ht3 : tpM S3 [] := ht2.m w3.m (by decide) (by decide)
    have hkb : kb < T1.length ∧ gT T1 kb = D := ⟨w3.2.2.1, w3.2.2.2.1⟩
    refine ⟨am_nti _, ?_⟩
    have hp3 : pagM S3 T1 Y P := (hp.m hpS3 (by decide) (by decide) (by decide) (by decide)).pre w3.pre (List.prefix_refl Y)
    have hnp : ∀ j, nbr (pad P) D = some j → j < 2 ^ 31 := fun j hj => by have := (nbr_s hj).1; rw [pad_len] at this; omega
    refine g_v1 (pc := 24) (M' := mt_M_pageOf) dc_M_drop_24 mo_M_pageOf im_M_pageOf se_M_pageOf ln_M_446 (mp_o hA) rfl rfl (Nat.le_of_ble_eq_true rfl) (Nat.le_of_ble_eq_true rfl) (am_G.mono (c_M_pageOf (d := d + 6) hA hM3.1 hkb.1 hp3) ?_)
    intro r h9 hq
    rw [hq.1, hq.2, hkb.2]
    clear hq h9 r
    obtain ⟨oo, hoo⟩ : ∃ oo, oo = nbr (pad P) D := ⟨_, rfl⟩
    rw [← hoo]
    have hnp2 : ∀ j, oo = some j → j < 2 ^ 31 := fun j hj => hnp j (hoo.symm.trans hj)
    refine ⟨am_nti _, ?_⟩
    refine g_goto (pc := 27) (tgt := 31) dc_M_drop_27 rfl ?_
    refine g_istore_n (pc := 31) dc_M_drop_31 (by decide) ?_
    show am_G X mt_M_drop _ 32 [some (.ref 84), some (.int (nI (0 + L.length))), some (.int (er oo))] [] _ _
    refine g_iload_n (pc := 32) dc_M_drop_32 rfl ?_
    refine q_o_ge (pc := 33) (tgt := 38) dc_M_drop_33 hnp2 rfl (fun k33 hc33 => ?_) (fun hc33 => ?_)
    · rw [hc33]
      rw [show er (some k33) = nI k33 from rfl]
      have hk33 := hnp2 k33 hc33
      have hj33 : k33 < P.length := by have := (nbr_s (hoo.symm.trans hc33)).1; rw [pad_len] at this; exact this
      refine g_aload_n (pc := 38) dc_M_drop_38 rfl ?_
      refine g_dup (pc := 39) dc_M_drop_39 rfl ?_
      refine g_getfield (pc := 40) (v := .int (nI P.length)) dc_M_drop_40 fl_M_312 (mp_o hA) (congrArg (fun z => some (Value.int (nI z))) hp3.1) ?_
      refine g_iconst (pc := 43) (v := 1) dc_M_drop_43 rfl ?_
      refine g_isub (pc := 44) (v := (nI (P.length - 1))) dc_M_drop_44 (q_sub (a := P.length) (b := 1) (by omega)) ?_
      refine pf_pageCount (pc := 45) (v := P.length - 1) hA dc_M_drop_45 fp_M_drop_312 ?_
      have hma_S4 : mA [54] S3 (S3.s_pageCount (P.length - 1)) := ((mA.rf S3).a_pageCount _ (by decide))
      have hk_S4_pageCount : (S3.s_pageCount (P.length - 1)).pageCount = P.length - 1 := rfl
      have hk_S4_pageAddress : (S3.s_pageCount (P.length - 1)).pageAddress = S3.pageAddress := rfl
      have hk_S4_pageStatus : (S3.s_pageCount (P.length - 1)).pageStatus = S3.pageStatus := rfl
      have hk_S4_pageText : (S3.s_pageCount (P.length - 1)).pageText = S3.pageText := rfl
      show am_G X mt_M_drop _ 48 [some (.ref 84), some (.int (nI (0 + L.length))), some (.int (nI k33))] [] (mput A (S3.s_pageCount (P.length - 1)) B) _
      generalize (S3.s_pageCount (P.length - 1)) = S4 at hma_S4 hk_S4_pageCount hk_S4_pageAddress hk_S4_pageStatus hk_S4_pageText ⊢
      have hp4 := hp3.2.2.2 (P.length - 1) (by omega)
      obtain ⟨⟨kc, hc1, hc2, hc3⟩, hc4, y9, hy1, hy2, hy3⟩ := hp4
      rw [← hk_S4_pageAddress] at hc2
      have hc5 := hc4.1
      rw [← hk_S4_pageStatus] at hc5
      rw [← hk_S4_pageText] at hy2
      refine g_aload_n (pc := 48) dc_M_drop_48 rfl ?_
      refine g_getfield (pc := 49) dc_M_drop_49 fl_M_315 (mp_o hA) rfl ?_
      refine g_iload_n (pc := 52) dc_M_drop_52 rfl ?_
      refine g_aload_n (pc := 53) dc_M_drop_53 rfl ?_
      refine g_getfield (pc := 54) dc_M_drop_54 fl_M_315 (mp_o hA) rfl ?_
      refine g_aload_n (pc := 57) dc_M_drop_57 rfl ?_
      refine g_getfield (pc := 58) (v := .int (nI (P.length - 1))) dc_M_drop_58 fl_M_312 (mp_o hA) (congrArg (fun z => some (Value.int (nI z))) hk_S4_pageCount) ?_
      refine q_ialoadV (pc := 61) (P.length - 1) dc_M_drop_61 (mp_a hA 26 rfl) (by omega) (by omega) (v := (nI kc)) hc2 ?_
      refine as_pageAddress (pc := 62) k33 hA dc_M_drop_62 (by omega) ?_
      refine g_aload_n (pc := 63) dc_M_drop_63 rfl ?_
      refine g_getfield (pc := 64) dc_M_drop_64 fl_M_341 (mp_o hA) rfl ?_
      refine g_iload_n (pc := 67) dc_M_drop_67 rfl ?_
      refine g_aload_n (pc := 68) dc_M_drop_68 rfl ?_
      refine g_getfield (pc := 69) dc_M_drop_69 fl_M_341 (mp_o hA) rfl ?_
      refine g_aload_n (pc := 72) dc_M_drop_72 rfl ?_
      refine g_getfield (pc := 73) (v := .int (nI (P.length - 1))) dc_M_drop_73 fl_M_312 (mp_o hA) (congrArg (fun z => some (Value.int (nI z))) hk_S4_pageCount) ?_
      refine q_ialoadV (pc := 76) (P.length - 1) dc_M_drop_76 (mp_a hA 27 rfl) (by omega) (by omega) (v := (nI ((gP P (P.length - 1)).2.1))) hc5 ?_
      refine asE_pageStatus (pc := 77) k33 (g := upd S4.pageStatus k33 (nI ((gP P (P.length - 1)).2.1))) hA dc_M_drop_77 (by omega) (rfl) ?_
      refine g_aload_n (pc := 78) dc_M_drop_78 rfl ?_
      refine g_getfield (pc := 79) dc_M_drop_79 fl_M_344 (mp_o hA) rfl ?_
      refine g_iload_n (pc := 82) dc_M_drop_82 rfl ?_
      refine g_aload_n (pc := 83) dc_M_drop_83 rfl ?_
      refine g_getfield (pc := 84) dc_M_drop_84 fl_M_344 (mp_o hA) rfl ?_
      refine g_aload_n (pc := 87) dc_M_drop_87 rfl ?_
      refine g_getfield (pc := 88) (v := .int (nI (P.length - 1))) dc_M_drop_88 fl_M_312 (mp_o hA) (congrArg (fun z => some (Value.int (nI z))) hk_S4_pageCount) ?_
      refine q_ialoadV (pc := 91) (P.length - 1) dc_M_drop_91 (mp_a hA 28 rfl) (by omega) (by omega) (v := (nI y9)) hy2 ?_
      refine asE_pageText (pc := 92) k33 (g := upd S4.pageText k33 (nI y9)) hA dc_M_drop_92 (by omega) (rfl) ?_
      refine g_iconst (pc := 93) (v := 1) dc_M_drop_93 rfl ?_
      have hm5 : mA [51, 52, 53] S4 (((S4.s_pageAddress (upd S4.pageAddress k33 (nI kc))).s_pageStatus (upd S4.pageStatus k33 (nI ((gP P (P.length - 1)).2.1)))).s_pageText (upd S4.pageText k33 (nI y9))) := (((mA.rf S4).a_pageAddress _ (by decide)).a_pageStatus _ (by decide)).a_pageText _ (by decide)
      have hf5 : (((S4.s_pageAddress (upd S4.pageAddress k33 (nI kc))).s_pageStatus (upd S4.pageStatus k33 (nI ((gP P (P.length - 1)).2.1)))).s_pageText (upd S4.pageText k33 (nI y9))).pageAddress = upd S3.pageAddress k33 (nI kc) ∧ (((S4.s_pageAddress (upd S4.pageAddress k33 (nI kc))).s_pageStatus (upd S4.pageStatus k33 (nI ((gP P (P.length - 1)).2.1)))).s_pageText (upd S4.pageText k33 (nI y9))).pageStatus = upd S3.pageStatus k33 (nI (gP P (P.length - 1)).2.1) ∧ (((S4.s_pageAddress (upd S4.pageAddress k33 (nI kc))).s_pageStatus (upd S4.pageStatus k33 (nI ((gP P (P.length - 1)).2.1)))).s_pageText (upd S4.pageText k33 (nI y9))).pageText = upd S3.pageText k33 (nI y9) ∧ (((S4.s_pageAddress (upd S4.pageAddress k33 (nI kc))).s_pageStatus (upd S4.pageStatus k33 (nI ((gP P (P.length - 1)).2.1)))).s_pageText (upd S4.pageText k33 (nI y9))).pageCount = P.length - 1 := ⟨by show upd S4.pageAddress _ _ = _; rw [hk_S4_pageAddress], by show upd S4.pageStatus _ _ = _; rw [hk_S4_pageStatus], by show upd S4.pageText _ _ = _; rw [hk_S4_pageText], hk_S4_pageCount⟩
      generalize (((S4.s_pageAddress (upd S4.pageAddress k33 (nI kc))).s_pageStatus (upd S4.pageStatus k33 (nI ((gP P (P.length - 1)).2.1)))).s_pageText (upd S4.pageText k33 (nI y9))) = S5 at hm5 hf5 ⊢
      have hm6 : mA [51, 52, 53, 54] S3 S5 := (hma_S4.mo (by decide)).tr (hm5.mo (by decide))
      have e5 : drp L P = some ((P.set k33 (gP P (P.length - 1))).take (P.length - 1)) := by unfold drp; rw [hm]; dsimp only; rw [← hoo, hc33]
      rw [e5]
      have hpD : pagM S5 T1 Y ((P.set k33 (gP P (P.length - 1))).take (P.length - 1)) := pagM_drop hp3 hj33 hc1 hc3 hc4.2 hy1 hy3 hf5
      exact g_zreturn dc_M_drop_94 rfl rfl ⟨rfl, S5, T1, rfl, (hpS3.mo (by decide)).tr (hm6.mo (by decide)), ⟨hM3.1.m hm6 (by decide) (by decide) (by decide) (by decide), hM3.2.1, hM3.2.2.1, hM3.2.2.2.m hm6 (by decide) (by decide) (by decide) (by decide) (by decide)⟩, w3.pre, ht3.m hm6 (by decide) (by decide), hpD⟩
    · rw [hc33]
      refine g_iconst (pc := 36) (v := 0) dc_M_drop_36 rfl ?_
      have e5 : drp L P = none := by unfold drp; rw [hm]; dsimp only; rw [← hoo, hc33]
      rw [e5]
      exact g_zreturn dc_M_drop_37 rfl rfl ⟨rfl, S3, T1, rfl, hpS3.mo (by decide), hM3, w3.pre, ht3, hp3⟩
end OP4
