/-! ===== the model gathers documents: the loops ===== -/
section F7S
variable {X : am_X} {d k ka j i x p dd : Nat} {A B h : List va_E} {S : MS} {T Y U : List (List Int32)} {K : Kn} {l : List Nat} {g f : Nat → Int32} {t : List Int32}
theorem ar3.m {S1 : MS} {Z : List Nat} (z : ar3 S l S.known) (e : mA Z S S1) (h1 : ¬ 76 ∈ Z) (h2 : ¬ 77 ∈ Z) (h3 : ¬ 78 ∈ Z) (h4 : ¬ 63 ∈ Z) : ar3 S1 l S1.known := by
  unfold ar3 at z ⊢
  rw [e.documentAddress h1, e.documentText h2, e.documentNumber h3, e.known h4]
  exact z
theorem dcs_mem (h : i ∈ dfk K (srtK K k)) : i < k ∧ K.st i = 2 := (srtK_mem k).mp (dfk_sub h)
theorem l7_M_gather {Q : Option Value → List va_E → Prop} (hA : A.length = 84) (hY1 : Y.length ≤ 1100) (hY2 : ∀ j, j < Y.length → ofs Y (j + 1) ≤ 24000) (hw : wfK K) : ∀ (n i : Nat) (S : MS), i + n = K.ad.length → adT S T → txT S Y → knM S T Y K → S.documents = (dfk K (srtK K i)).length → ar3 S (dfk K (srtK K i)) S.known → (∀ S1, mA [75, 76, 77, 78] S S1 → S1.documents = (dcs K).length → ar3 S1 (dcs K) S1.known → am_G X mt_M_gather (d + 2) 148 [some (.ref 84), some (.int (nI K.ad.length)), none, none] [] (mput A S1 B) Q) → am_G X mt_M_gather (d + 2) 7 [some (.ref 84), some (.int (nI i)), none, none] [] (mput A S B) Q
  | 0, i, S, e, hT, hY, hK, hd, ha, KK => by
    have h250 := hw.1
    have ei : i = K.ad.length := by omega
    refine g_iload_n (pc := 7) dc_M_gather_7 rfl ?_
    refine g_aload_n (pc := 8) dc_M_gather_8 rfl ?_
    refine g_getfield (pc := 9) (v := .int (nI K.ad.length)) dc_M_gather_9 fl_M_412 (mp_o hA) (congrArg (fun z => some (Value.int (nI z))) hK.1) ?_
    refine q_icmp_ge (pc := 12) (tgt := 148) i K.ad.length dc_M_gather_12 (by omega) (by omega) rfl (fun hc12 => ?_) (fun hc => absurd hc (by omega))
    rw [ei] at hd ha
    rw [ei]
    exact KK S (mA.rf S) hd ha
  | n + 1, i, S, e, hT, hY, hK, hd, ha, KK => by
    have h250 := hw.1
    have hi : i < K.ad.length := by omega
    have hds := dfk_s (i := i) hw hi
    have hdl : (dfk K (srtK K i)).length ≤ i := Nat.le_trans dfk_len (srtK_len i)
    refine g_iload_n (pc := 7) dc_M_gather_7 rfl ?_
    refine g_aload_n (pc := 8) dc_M_gather_8 rfl ?_
    refine g_getfield (pc := 9) (v := .int (nI K.ad.length)) dc_M_gather_9 fl_M_412 (mp_o hA) (congrArg (fun z => some (Value.int (nI z))) hK.1) ?_
    refine q_icmp_ge (pc := 12) (tgt := 148) i K.ad.length dc_M_gather_12 (by omega) (by omega) rfl (fun hc => absurd hc (by omega)) (fun hc12 => ?_)
    refine g_aload_n (pc := 15) dc_M_gather_15 rfl ?_
    refine g_iload_n (pc := 16) dc_M_gather_16 rfl ?_
    refine g_v1 (pc := 17) (M' := mt_M_isFirst) dc_M_gather_17 mo_M_isFirst im_M_isFirst se_M_isFirst ln_M_470 (mp_o hA) rfl rfl (Nat.le_of_ble_eq_true rfl) (Nat.le_of_ble_eq_true rfl) (am_G.mono (c_M_isFirst (d := d) hA hT hY hY1 hY2 hK hw hi) ?_)
    intro r h1 hq
    rw [hq.1, hq.2]
    clear hq h1 r
    refine ⟨am_nti _, ?_⟩
    refine q_ifb_eq (pc := 20) (tgt := 142) dc_M_gather_20 rfl (fun hc20 => ?_) (fun hc20 => ?_)
    · refine g_iinc (pc := 142) (v := (nI (i + 1))) dc_M_gather_142 rfl (nI_add i 1) (by decide) ?_
      show am_G X mt_M_gather _ 145 [some (.ref 84), some (.int (nI (i + 1))), none, none] [] _ _
      refine g_goto (pc := 145) (tgt := 7) dc_M_gather_145 rfl ?_
      rw [if_neg (by rw [hc20]; decide)] at hds
      exact l7_M_gather hA hY1 hY2 hw n (i + 1) S (by omega) hT hY hK (by rw [hds]; exact hd) (by rw [hds]; exact ha) KK
    · refine g_aload_n (pc := 23) dc_M_gather_23 rfl ?_
      refine g_getfield (pc := 24) (v := .int (nI ((dfk K (srtK K i)).length))) dc_M_gather_24 fl_M_467 (mp_o hA) (congrArg (fun z => some (Value.int (nI z))) hd) ?_
      refine g_istore_n (pc := 27) dc_M_gather_27 (by decide) ?_
      show am_G X mt_M_gather _ 28 [some (.ref 84), some (.int (nI i)), some (.int (nI ((dfk K (srtK K i)).length))), none] [] _ _
      rw [if_pos hc20] at hds
      have hml : ∀ e, e ∈ (dfk K (srtK K i)) → e < K.ad.length := fun e he => by have := (dcs_mem he).1; omega
      refine l28_M_gather (T := T) (Y := Y) hA hi hw (by omega) hml (dfk K (srtK K i)).length S (Nat.le_refl _) hT hK ⟨shF_0 ha.1, shF_0 ha.2.1, shF_0 ha.2.2⟩ (fun j h1 h2 => absurd h1 (by omega)) (fun S1 p1 f1 f2 f3 f4 f5 => ?_)
      have hia : insK K i (dfk K (srtK K i)) = (dfk K (srtK K i)).take p1 ++ i :: (dfk K (srtK K i)).drop p1 := insK_at f3 f4 (pl_no ((srtK_srd hw i (by omega)).filter _) f3 f5)
      have hd1 : S1.documents = (dfk K (srtK K i)).length := (f1.documents (by decide)).trans hd
      refine g_aload_n (pc := 101) dc_M_gather_101 rfl ?_
      refine g_getfield (pc := 102) dc_M_gather_102 fl_M_374 (mp_o hA) rfl ?_
      refine g_iload_n (pc := 105) dc_M_gather_105 rfl ?_
      refine g_aload_n (pc := 106) dc_M_gather_106 rfl ?_
      refine g_iload_n (pc := 107) dc_M_gather_107 rfl ?_
      refine g_iconst (pc := 108) (v := 0) dc_M_gather_108 rfl ?_
      refine g_v2 (pc := 109) (M' := mt_M_of) dc_M_gather_109 mo_M_of im_M_of se_M_of ln_M_415 (mp_o hA) rfl rfl (Nat.le_of_ble_eq_true rfl) (Nat.le_of_ble_eq_true rfl) (am_G.mono (c_M_of (d := d + 1) (S := S1) (i := i) (w := 0) (v := S1.known (6 * i)) hA (by omega) (by decide) rfl) ?_)
      intro r h1 hq
      rw [hq.1, hq.2]
      clear hq h1 r
      refine ⟨am_nti _, ?_⟩
      refine as_documentAddress (pc := 112) p1 hA dc_M_gather_112 (by omega) ?_
      refine g_aload_n (pc := 113) dc_M_gather_113 rfl ?_
      refine g_getfield (pc := 114) dc_M_gather_114 fl_M_377 (mp_o hA) rfl ?_
      refine g_iload_n (pc := 117) dc_M_gather_117 rfl ?_
      refine g_aload_n (pc := 118) dc_M_gather_118 rfl ?_
      refine g_iload_n (pc := 119) dc_M_gather_119 rfl ?_
      refine g_iconst (pc := 120) (v := 5) dc_M_gather_120 rfl ?_
      refine g_v2 (pc := 121) (M' := mt_M_of) dc_M_gather_121 mo_M_of im_M_of se_M_of ln_M_415 (mp_o hA) rfl rfl (Nat.le_of_ble_eq_true rfl) (Nat.le_of_ble_eq_true rfl) (am_G.mono (c_M_of (d := d + 1) (S := (S1.s_documentAddress (upd S1.documentAddress p1 (S1.known (6 * i))))) (i := i) (w := 5) (v := S1.known (6 * i + 5)) hA (by omega) (by decide) rfl) ?_)
      intro r h1 hq
      rw [hq.1, hq.2]
      clear hq h1 r
      refine ⟨am_nti _, ?_⟩
      refine asE_documentText (pc := 124) p1 (g := upd S1.documentText p1 (S1.known (6 * i + 5))) hA dc_M_gather_124 (by omega) (rfl) ?_
      refine g_aload_n (pc := 125) dc_M_gather_125 rfl ?_
      refine g_getfield (pc := 126) dc_M_gather_126 fl_M_380 (mp_o hA) rfl ?_
      refine g_iload_n (pc := 129) dc_M_gather_129 rfl ?_
      refine g_iload_n (pc := 130) dc_M_gather_130 rfl ?_
      refine asE_documentNumber (pc := 131) p1 (g := upd S1.documentNumber p1 (nI i)) hA dc_M_gather_131 (by omega) (rfl) ?_
      have hma_S2 : mA [76, 77, 78] S1 (((S1.s_documentAddress (upd S1.documentAddress p1 (S1.known (6 * i)))).s_documentText (upd S1.documentText p1 (S1.known (6 * i + 5)))).s_documentNumber (upd S1.documentNumber p1 (nI i))) := ((((mA.rf S1).a_documentAddress _ (by decide)).a_documentText _ (by decide)).a_documentNumber _ (by decide))
      have hk_S2_documentAddress : (((S1.s_documentAddress (upd S1.documentAddress p1 (S1.known (6 * i)))).s_documentText (upd S1.documentText p1 (S1.known (6 * i + 5)))).s_documentNumber (upd S1.documentNumber p1 (nI i))).documentAddress = (upd S1.documentAddress p1 (S1.known (6 * i))) := rfl
      have hk_S2_documentText : (((S1.s_documentAddress (upd S1.documentAddress p1 (S1.known (6 * i)))).s_documentText (upd S1.documentText p1 (S1.known (6 * i + 5)))).s_documentNumber (upd S1.documentNumber p1 (nI i))).documentText = (upd S1.documentText p1 (S1.known (6 * i + 5))) := rfl
      have hk_S2_documentNumber : (((S1.s_documentAddress (upd S1.documentAddress p1 (S1.known (6 * i)))).s_documentText (upd S1.documentText p1 (S1.known (6 * i + 5)))).s_documentNumber (upd S1.documentNumber p1 (nI i))).documentNumber = (upd S1.documentNumber p1 (nI i)) := rfl
      have hk_S2_known : (((S1.s_documentAddress (upd S1.documentAddress p1 (S1.known (6 * i)))).s_documentText (upd S1.documentText p1 (S1.known (6 * i + 5)))).s_documentNumber (upd S1.documentNumber p1 (nI i))).known = S1.known := rfl
      have hk_S2_documents : (((S1.s_documentAddress (upd S1.documentAddress p1 (S1.known (6 * i)))).s_documentText (upd S1.documentText p1 (S1.known (6 * i + 5)))).s_documentNumber (upd S1.documentNumber p1 (nI i))).documents = (dfk K (srtK K i)).length := hd1
      show am_G X mt_M_gather _ 132 [some (.ref 84), some (.int (nI i)), some (.int (nI p1)), none] [] (mput A (((S1.s_documentAddress (upd S1.documentAddress p1 (S1.known (6 * i)))).s_documentText (upd S1.documentText p1 (S1.known (6 * i + 5)))).s_documentNumber (upd S1.documentNumber p1 (nI i))) B) _
      generalize (((S1.s_documentAddress (upd S1.documentAddress p1 (S1.known (6 * i)))).s_documentText (upd S1.documentText p1 (S1.known (6 * i + 5)))).s_documentNumber (upd S1.documentNumber p1 (nI i))) = S2 at hma_S2 hk_S2_documentAddress hk_S2_documentText hk_S2_documentNumber hk_S2_known hk_S2_documents ⊢
      refine g_aload_n (pc := 132) dc_M_gather_132 rfl ?_
      refine g_dup (pc := 133) dc_M_gather_133 rfl ?_
      refine g_getfield (pc := 134) (v := .int (nI ((dfk K (srtK K i)).length))) dc_M_gather_134 fl_M_467 (mp_o hA) (congrArg (fun z => some (Value.int (nI z))) hk_S2_documents) ?_
      refine g_iconst (pc := 137) (v := 1) dc_M_gather_137 rfl ?_
      refine g_iadd (pc := 138) (v := (nI ((dfk K (srtK K i)).length + 1))) dc_M_gather_138 (nI_add ((dfk K (srtK K i)).length) 1) ?_
      refine pf_documents (pc := 139) (v := (dfk K (srtK K i)).length + 1) hA dc_M_gather_139 fp_M_gather_467 ?_
      refine g_iinc (pc := 142) (v := (nI (i + 1))) dc_M_gather_142 rfl (nI_add i 1) (by decide) ?_
      show am_G X mt_M_gather _ 145 [some (.ref 84), some (.int (nI (i + 1))), some (.int (nI p1)), none] [] _ _
      refine g_goto (pc := 145) (tgt := 7) dc_M_gather_145 rfl ?_
      have hma_S3 : mA [75] S2 (S2.s_documents ((dfk K (srtK K i)).length + 1)) := ((mA.rf S2).a_documents _ (by decide))
      have hk_S3_documents : (S2.s_documents ((dfk K (srtK K i)).length + 1)).documents = (dfk K (srtK K i)).length + 1 := rfl
      show am_G X mt_M_gather _ 7 [some (.ref 84), some (.int (nI (i + 1))), some (.int (nI p1)), none] [] (mput A (S2.s_documents ((dfk K (srtK K i)).length + 1)) B) _
      generalize (S2.s_documents ((dfk K (srtK K i)).length + 1)) = S3 at hma_S3 hk_S3_documents ⊢
      refine am_wk (am_le_s (am_le_s (am_le_n (am_le_n am_le_0)))) ?_
      have hm3 : mA [75, 76, 77, 78] S S3 := ((f1.mo (by decide)).tr (hma_S2.mo (by decide))).tr (hma_S3.mo (by decide))
      have ha2 : ar3 S2 (insK K i (dfk K (srtK K i))) S2.known := by rw [hia]; exact ⟨by rw [hk_S2_documentAddress, hk_S2_known]; exact shF_e (f := fun i => S1.known (6 * i)) f2.1 f3, by rw [hk_S2_documentText, hk_S2_known]; exact shF_e (f := fun i => S1.known (6 * i + 5)) f2.2.1 f3, by rw [hk_S2_documentNumber]; exact shF_e f2.2.2 f3⟩
      refine l7_M_gather hA hY1 hY2 hw n (i + 1) S3 (by omega) (hT.m hm3 (by decide) (by decide) (by decide) (by decide)) (hY.m hm3 (by decide) (by decide) (by decide) (by decide) (by decide)) (hK.m hm3 (by decide) (by decide)) (by rw [hds, insK_len]; exact hk_S3_documents) (by rw [hds]; exact ha2.m hma_S3 (by decide) (by decide) (by decide) (by decide)) (fun S4 y1 y2 y3 => KK S4 (hm3.tr y1) y2 y3)
end F7S
