/-! ===== the model gathers documents ===== -/
def arF (g : Nat → Int32) (l : List Nat) (f : Nat → Int32) : Prop := ∀ j, j < l.length → g j = f (gN l j)
def shF (g : Nat → Int32) (l : List Nat) (p : Nat) (f : Nat → Int32) : Prop := (∀ j, j < p → g j = f (gN l j)) ∧ ∀ j, p < j → j ≤ l.length → g j = f (gN l (j - 1))
/-- the three arrays, with a gap -/
def sh3 (S : MS) (l : List Nat) (p : Nat) (kn : Nat → Int32) : Prop := shF S.documentAddress l p (fun i => kn (6 * i)) ∧ shF S.documentText l p (fun i => kn (6 * i + 5)) ∧ shF S.documentNumber l p nI
def ar3 (S : MS) (l : List Nat) (kn : Nat → Int32) : Prop := arF S.documentAddress l (fun i => kn (6 * i)) ∧ arF S.documentText l (fun i => kn (6 * i + 5)) ∧ arF S.documentNumber l nI
section F6S
variable {X : am_X} {d k ka j i x p : Nat} {A B h : List va_E} {S : MS} {T Y U : List (List Int32)} {K : Kn} {l : List Nat} {g f : Nat → Int32}
theorem shF_0 (z : arF g l f) : shF g l l.length f := ⟨z, fun j h1 h2 => absurd h1 (by omega)⟩
theorem shF_s (z : shF g l (p + 1) f) (hp : p < l.length) : shF (upd g (p + 1) (g p)) l p f := by
  refine ⟨fun j hj => ?_, fun j h1 h2 => ?_⟩
  · rw [upd_n (by omega)]; exact z.1 j (by omega)
  · by_cases e : j = p + 1
    · rw [e, upd_s]; exact z.1 p (by omega)
    · rw [upd_n e]; exact z.2 j (by omega) h2
theorem shF_e (z : shF g l p f) (hp : p ≤ l.length) : arF (upd g p (f x)) (l.take p ++ x :: l.drop p) f := by
  intro j hj
  have hl : (l.take p ++ x :: l.drop p).length = l.length + 1 := by rw [List.length_append, List.length_cons, List.length_take, List.length_drop]; omega
  rw [gN_ins hp]
  by_cases h1 : j < p
  · rw [if_pos h1, upd_n (by omega)]; exact z.1 j h1
  · rw [if_neg h1]
    by_cases h2 : j = p
    · rw [if_pos h2, h2, upd_s]
    · rw [if_neg h2, upd_n h2]; exact z.2 j (by omega) (by omega)
/-- an order falls apart at any place -/
theorem srd_two : ∀ l : List Nat, srd K l → l.filter (fun e => !bfi K x e) ++ l.filter (fun e => bfi K x e) = l
  | [], _ => rfl
  | a :: l, h => by
    have h9 := List.pairwise_cons.mp h
    rw [List.filter_cons, List.filter_cons]
    cases e : bfi K x a with
    | false =>
      rw [if_pos (show (!false) = true from rfl), if_neg (by decide), List.cons_append, srd_two l h9.2]
    | true =>
      have ha : ∀ b, b ∈ l → bfi K x b = true := fun b hb => bef_tr e (h9.1 b hb)
      rw [if_neg (show ¬ (!true) = true by decide), if_pos rfl, List.filter_eq_nil_iff.mpr (fun b hb => by rw [ha b hb]; decide), List.filter_eq_self.mpr ha, List.nil_append]
theorem dfk_s (hw : wfK K) (hi : i < K.ad.length) : dfk K (srtK K (i + 1)) = if ifk K i K.ad.length = true then insK K i (dfk K (srtK K i)) else dfk K (srtK K i) := by
  rw [ifk_end]
  show dfk K (if K.st i = 2 then insK K i (srtK K i) else srtK K i) = _
  by_cases h2 : K.st i = 2
  · rw [if_pos h2, decide_eq_true h2, Bool.true_and]
    unfold dfk
    cases hf : isF K i with
    | true => rw [if_pos rfl, insK_fil hf]
    | false => rw [if_neg (by decide), insK_fil0 hf]; exact srd_two _ ((srtK_srd hw i (by omega)).filter _)
  · rw [if_neg h2, decide_eq_false h2, Bool.false_and, if_neg (by decide)]
theorem l28_M_gather {Q : Option Value → List va_E → Prop} (hA : A.length = 84) (hi : i < K.ad.length) (hw : wfK K) (hl : l.length < 250) (hlm : ∀ e, e ∈ l → e < K.ad.length) : ∀ (p : Nat) (S : MS), p ≤ l.length → adT S T → knM S T Y K → sh3 S l p S.known → (∀ j, p ≤ j → j < l.length → bfi K i (gN l j) = true) → (∀ S1 p1, mA [76, 77, 78] S S1 → sh3 S1 l p1 S1.known → p1 ≤ l.length → (∀ j, p1 ≤ j → j < l.length → bfi K i (gN l j) = true) → (p1 = 0 ∨ bfi K i (gN l (p1 - 1)) = false) → am_G X mt_M_gather (d + 2) 101 [some (.ref 84), some (.int (nI i)), some (.int (nI p1)), none] [] (mput A S1 B) Q) → am_G X mt_M_gather (d + 2) 28 [some (.ref 84), some (.int (nI i)), some (.int (nI p)), none] [] (mput A S B) Q
  | 0, S, hp, hT, hK, hs, hb, KK => by
    refine g_iload_n (pc := 28) dc_M_gather_28 rfl ?_
    refine q_if_le (pc := 29) (tgt := 101) 0 dc_M_gather_29 (by omega) rfl (fun hc29 => ?_) (fun hc => absurd hc (by omega))
    exact KK S 0 (mA.rf S) hs hp hb (Or.inl rfl)
  | p + 1, S, hp, hT, hK, hs, hb, KK => by
    have h250 := hw.1
    have hpl : p < l.length := by omega
    have hlp := hlm _ (gN_mem hpl)
    obtain ⟨ki, ki1, ki2, ki3⟩ := (hK.2 i hi).1
    obtain ⟨kj, kj1, kj2, kj3⟩ := (hK.2 _ hlp).1
    have hda : S.documentAddress p = nI kj := (hs.1.1 p (by omega)).trans kj2
    refine g_iload_n (pc := 28) dc_M_gather_28 rfl ?_
    refine q_if_le (pc := 29) (tgt := 101) (p + 1) dc_M_gather_29 (by omega) rfl (fun hc => absurd hc (by omega)) (fun hc29 => ?_)
    refine g_aload_n (pc := 32) dc_M_gather_32 rfl ?_
    refine g_aload_n (pc := 33) dc_M_gather_33 rfl ?_
    refine g_iload_n (pc := 34) dc_M_gather_34 rfl ?_
    refine g_iconst (pc := 35) (v := 0) dc_M_gather_35 rfl ?_
    refine g_v2 (pc := 36) (M' := mt_M_of) dc_M_gather_36 mo_M_of im_M_of se_M_of ln_M_415 (mp_o hA) rfl rfl (Nat.le_of_ble_eq_true rfl) (Nat.le_of_ble_eq_true rfl) (am_G.mono (c_M_of (d := d + 1) (i := i) (w := 0) hA (by omega) (by decide) ki2) ?_)
    intro r h1 hq
    rw [hq.1, hq.2]
    clear hq h1 r
    refine ⟨am_nti _, ?_⟩
    refine g_aload_n (pc := 39) dc_M_gather_39 rfl ?_
    refine g_getfield (pc := 40) dc_M_gather_40 fl_M_374 (mp_o hA) rfl ?_
    refine g_iload_n (pc := 43) dc_M_gather_43 rfl ?_
    refine g_iconst (pc := 44) (v := 1) dc_M_gather_44 rfl ?_
    refine g_isub (pc := 45) (v := (nI p)) dc_M_gather_45 (q_sub (a := p + 1) (b := 1) (by omega)) ?_
    refine q_iaload (pc := 46) p dc_M_gather_46 (mp_a hA 39 rfl) (by omega) (by decide) ?_
    rw [hda]
    refine g_v2 (pc := 47) (M' := mt_M_isBefore) dc_M_gather_47 mo_M_isBefore im_M_isBefore se_M_isBefore ln_M_464 (mp_o hA) rfl rfl (Nat.le_of_ble_eq_true rfl) (Nat.le_of_ble_eq_true rfl) (am_G.mono (c_M_isBefore (d := d + 1) hA hT ki1 kj1) ?_)
    intro r h1 hq
    rw [hq.1, hq.2]
    clear hq h1 r
    refine ⟨am_nti _, ?_⟩
    refine q_ifb_eq (pc := 50) (tgt := 101) dc_M_gather_50 rfl (fun hc50 => ?_) (fun hc50 => ?_)
    · exact KK S (p + 1) (mA.rf S) hs hp hb (Or.inr (by have h7 := hc50; rw [ki3, kj3] at h7; exact h7))
    · refine g_aload_n (pc := 53) dc_M_gather_53 rfl ?_
      refine g_getfield (pc := 54) dc_M_gather_54 fl_M_374 (mp_o hA) rfl ?_
      refine g_iload_n (pc := 57) dc_M_gather_57 rfl ?_
      refine g_aload_n (pc := 58) dc_M_gather_58 rfl ?_
      refine g_getfield (pc := 59) dc_M_gather_59 fl_M_374 (mp_o hA) rfl ?_
      refine g_iload_n (pc := 62) dc_M_gather_62 rfl ?_
      refine g_iconst (pc := 63) (v := 1) dc_M_gather_63 rfl ?_
      refine g_isub (pc := 64) (v := (nI p)) dc_M_gather_64 (q_sub (a := p + 1) (b := 1) (by omega)) ?_
      refine q_iaload (pc := 65) p dc_M_gather_65 (mp_a hA 39 rfl) (by omega) (by omega) ?_
      refine as_documentAddress (pc := 66) (p + 1) hA dc_M_gather_66 (by omega) ?_
      refine g_aload_n (pc := 67) dc_M_gather_67 rfl ?_
      refine g_getfield (pc := 68) dc_M_gather_68 fl_M_377 (mp_o hA) rfl ?_
      refine g_iload_n (pc := 71) dc_M_gather_71 rfl ?_
      refine g_aload_n (pc := 72) dc_M_gather_72 rfl ?_
      refine g_getfield (pc := 73) dc_M_gather_73 fl_M_377 (mp_o hA) rfl ?_
      refine g_iload_n (pc := 76) dc_M_gather_76 rfl ?_
      refine g_iconst (pc := 77) (v := 1) dc_M_gather_77 rfl ?_
      refine g_isub (pc := 78) (v := (nI p)) dc_M_gather_78 (q_sub (a := p + 1) (b := 1) (by omega)) ?_
      refine q_iaload (pc := 79) p dc_M_gather_79 (mp_a hA 40 rfl) (by omega) (by omega) ?_
      refine asE_documentText (pc := 80) (p + 1) (g := upd S.documentText (p + 1) (S.documentText p)) hA dc_M_gather_80 (by omega) (rfl) ?_
      refine g_aload_n (pc := 81) dc_M_gather_81 rfl ?_
      refine g_getfield (pc := 82) dc_M_gather_82 fl_M_380 (mp_o hA) rfl ?_
      refine g_iload_n (pc := 85) dc_M_gather_85 rfl ?_
      refine g_aload_n (pc := 86) dc_M_gather_86 rfl ?_
      refine g_getfield (pc := 87) dc_M_gather_87 fl_M_380 (mp_o hA) rfl ?_
      refine g_iload_n (pc := 90) dc_M_gather_90 rfl ?_
      refine g_iconst (pc := 91) (v := 1) dc_M_gather_91 rfl ?_
      refine g_isub (pc := 92) (v := (nI p)) dc_M_gather_92 (q_sub (a := p + 1) (b := 1) (by omega)) ?_
      refine q_iaload (pc := 93) p dc_M_gather_93 (mp_a hA 41 rfl) (by omega) (by omega) ?_
      refine asE_documentNumber (pc := 94) (p + 1) (g := upd S.documentNumber (p + 1) (S.documentNumber p)) hA dc_M_gather_94 (by omega) (rfl) ?_
      refine g_iinc (pc := 95) (v := (nI p)) dc_M_gather_95 rfl (q_m1 (x := p + 1) (by omega)) (by decide) ?_
      show am_G X mt_M_gather _ 98 [some (.ref 84), some (.int (nI i)), some (.int (nI p)), none] [] _ _
      refine g_goto (pc := 98) (tgt := 28) dc_M_gather_98 rfl ?_
      have hma_S2 : mA [76, 77, 78] S (((S.s_documentAddress (upd S.documentAddress (p + 1) (S.documentAddress p))).s_documentText (upd S.documentText (p + 1) (S.documentText p))).s_documentNumber (upd S.documentNumber (p + 1) (S.documentNumber p))) := ((((mA.rf S).a_documentAddress _ (by decide)).a_documentText _ (by decide)).a_documentNumber _ (by decide))
      have hk_S2_documentAddress : (((S.s_documentAddress (upd S.documentAddress (p + 1) (S.documentAddress p))).s_documentText (upd S.documentText (p + 1) (S.documentText p))).s_documentNumber (upd S.documentNumber (p + 1) (S.documentNumber p))).documentAddress = (upd S.documentAddress (p + 1) (S.documentAddress p)) := rfl
      have hk_S2_documentText : (((S.s_documentAddress (upd S.documentAddress (p + 1) (S.documentAddress p))).s_documentText (upd S.documentText (p + 1) (S.documentText p))).s_documentNumber (upd S.documentNumber (p + 1) (S.documentNumber p))).documentText = (upd S.documentText (p + 1) (S.documentText p)) := rfl
      have hk_S2_documentNumber : (((S.s_documentAddress (upd S.documentAddress (p + 1) (S.documentAddress p))).s_documentText (upd S.documentText (p + 1) (S.documentText p))).s_documentNumber (upd S.documentNumber (p + 1) (S.documentNumber p))).documentNumber = (upd S.documentNumber (p + 1) (S.documentNumber p)) := rfl
      have hk_S2_known : (((S.s_documentAddress (upd S.documentAddress (p + 1) (S.documentAddress p))).s_documentText (upd S.documentText (p + 1) (S.documentText p))).s_documentNumber (upd S.documentNumber (p + 1) (S.documentNumber p))).known = S.known := rfl
      show am_G X mt_M_gather _ 28 [some (.ref 84), some (.int (nI i)), some (.int (nI p)), none] [] (mput A (((S.s_documentAddress (upd S.documentAddress (p + 1) (S.documentAddress p))).s_documentText (upd S.documentText (p + 1) (S.documentText p))).s_documentNumber (upd S.documentNumber (p + 1) (S.documentNumber p))) B) _
      generalize (((S.s_documentAddress (upd S.documentAddress (p + 1) (S.documentAddress p))).s_documentText (upd S.documentText (p + 1) (S.documentText p))).s_documentNumber (upd S.documentNumber (p + 1) (S.documentNumber p))) = S2 at hma_S2 hk_S2_documentAddress hk_S2_documentText hk_S2_documentNumber hk_S2_known ⊢
      refine l28_M_gather hA hi hw hl hlm p S2 (by omega) (hT.m hma_S2 (by decide) (by decide) (by decide) (by decide)) (hK.m hma_S2 (by decide) (by decide)) ⟨by rw [hk_S2_documentAddress, hk_S2_known]; exact shF_s hs.1 hpl, by rw [hk_S2_documentText, hk_S2_known]; exact shF_s hs.2.1 hpl, by rw [hk_S2_documentNumber]; exact shF_s hs.2.2 hpl⟩ (fun j h1 h2 => ?_) (fun S3 p1 f1 f2 f3 f4 f5 => KK S3 p1 (hma_S2.tr f1) f2 f3 f4 f5)
      by_cases e : j = p
      · rw [e]; have h7 := hc50; rw [ki3, kj3] at h7; exact h7
      · exact hb j (by omega) h2
end F6S
