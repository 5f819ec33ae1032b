/-! ===== the model gathers documents: copies ===== -/
section F8S
variable {X : am_X} {d k ka j i x p dd i0 y0 : Nat} {A B h : List va_E} {S : MS} {T Y U : List (List Int32)} {K : Kn} {l : List Nat} {g f : Nat → Int32} {t : List Int32}
theorem cnL_ins : cnL K (insK K x l) t = cnL K l t + (if K.tx x = t then 1 else 0) := by
  unfold cnL insK
  rw [List.filter_append, List.filter_cons, List.length_append]
  have h9 : ∀ (l : List Nat), ((l.filter (fun e => !bfi K x e)).filter (fun j => decide (K.tx j = t))).length + ((l.filter (fun e => bfi K x e)).filter (fun j => decide (K.tx j = t))).length = (l.filter (fun j => decide (K.tx j = t))).length := by
    intro l
    induction l with
    | nil => rfl
    | cons a l ih =>
      rw [List.filter_cons, List.filter_cons]
      cases bfi K x a with
      | false =>
        rw [if_pos (show (!false) = true from rfl), if_neg (by decide), List.filter_cons, List.filter_cons (xs := l)]
        by_cases e : K.tx a = t
        · rw [if_pos (decide_eq_true e), if_pos (decide_eq_true e), List.length_cons, List.length_cons]; omega
        · rw [if_neg (by rw [decide_eq_false e]; decide), if_neg (by rw [decide_eq_false e]; decide)]; exact ih
      | true =>
        rw [if_neg (show ¬ (!true) = true by decide), if_pos rfl, List.filter_cons, List.filter_cons (xs := l)]
        by_cases e : K.tx a = t
        · rw [if_pos (decide_eq_true e), if_pos (decide_eq_true e), List.length_cons, List.length_cons]; omega
        · rw [if_neg (by rw [decide_eq_false e]; decide), if_neg (by rw [decide_eq_false e]; decide)]; exact ih
  have h8 := h9 l
  by_cases e : K.tx x = t
  · rw [if_pos e, if_pos (decide_eq_true e), List.length_cons]; omega
  · rw [if_neg e, if_neg (by rw [decide_eq_false e]; decide)]; omega
theorem cnL_srt : cnL K (srtK K (j + 1)) t = cnL K (srtK K j) t + (if K.st j = 2 ∧ K.tx j = t then 1 else 0) := by
  show cnL K (if K.st j = 2 then insK K j (srtK K j) else srtK K j) t = _
  by_cases h : K.st j = 2
  · rw [if_pos h, cnL_ins]
    by_cases e : K.tx j = t
    · rw [if_pos e, if_pos ⟨h, e⟩]
    · rw [if_neg e, if_neg (fun h9 => e h9.2)]
  · rw [if_neg h, if_neg (fun h9 => h h9.1)]; rfl
theorem m1_up (a : Int32) : a - 1 + 1 = a + 1 - 1 := by rw [Int32.sub_add_cancel, Int32.add_sub_cancel]
theorem l167_M_gather {Q : Option Value → List va_E → Prop} (hA : A.length = 84) (hY1 : Y.length ≤ 1100) (hY2 : ∀ j, j < Y.length → ofs Y (j + 1) ≤ 24000) (hw : wfK K) (hdd : dd < 250) (hy0 : y0 < Y.length) : ∀ (n j : Nat) (S : MS), j + n = K.ad.length → txT S Y → knM S T Y K → S.documentText dd = nI y0 → S.documentCopies dd = nI (cnL K (srtK K j) (gT Y y0)) - 1 → (∀ S1, mA [79] S S1 → S1.documentCopies dd = nI (cnL K (srtK K K.ad.length) (gT Y y0)) - 1 → (∀ e, ¬ e = dd → S1.documentCopies e = S.documentCopies e) → am_G X mt_M_gather (d + 2) 234 [some (.ref 84), some (.int (nI dd)), none, none] [] (mput A S1 B) Q) → am_G X mt_M_gather (d + 2) 167 [some (.ref 84), some (.int (nI dd)), some (.int (nI j)), none] [] (mput A S B) Q
  | 0, j, S, e, hY, hK, ht, hc, KK => by
    have h250 := hw.1
    have ej : j = K.ad.length := by omega
    refine g_iload_n (pc := 167) dc_M_gather_167 rfl ?_
    refine g_aload_n (pc := 168) dc_M_gather_168 rfl ?_
    refine g_getfield (pc := 169) (v := .int (nI K.ad.length)) dc_M_gather_169 fl_M_412 (mp_o hA) (congrArg (fun z => some (Value.int (nI z))) hK.1) ?_
    refine q_icmp_ge (pc := 172) (tgt := 234) j K.ad.length dc_M_gather_172 (by omega) (by omega) rfl (fun hc172 => ?_) (fun hc => absurd hc (by omega))
    refine am_wk (am_le_s (am_le_s (am_le_n (am_le_n am_le_0)))) ?_
    rw [ej] at hc
    exact KK S (mA.rf S) hc (fun _ _ => rfl)
  | n + 1, j, S, e, hY, hK, ht, hc, KK => by
    have h250 := hw.1
    have hj : j < K.ad.length := by omega
    have hst5 := (hw.2.2.2 j hj).2.1
    have hcs := cnL_srt (K := K) (j := j) (t := gT Y y0)
    refine g_iload_n (pc := 167) dc_M_gather_167 rfl ?_
    refine g_aload_n (pc := 168) dc_M_gather_168 rfl ?_
    refine g_getfield (pc := 169) (v := .int (nI K.ad.length)) dc_M_gather_169 fl_M_412 (mp_o hA) (congrArg (fun z => some (Value.int (nI z))) hK.1) ?_
    refine q_icmp_ge (pc := 172) (tgt := 234) j K.ad.length dc_M_gather_172 (by omega) (by omega) rfl (fun hc => absurd hc (by omega)) (fun hc172 => ?_)
    refine g_aload_n (pc := 175) dc_M_gather_175 rfl ?_
    refine g_iload_n (pc := 176) dc_M_gather_176 rfl ?_
    refine g_iconst (pc := 177) (v := 1) dc_M_gather_177 rfl ?_
    refine g_v2 (pc := 178) (M' := mt_M_of) dc_M_gather_178 mo_M_of im_M_of se_M_of ln_M_415 (mp_o hA) rfl rfl (Nat.le_of_ble_eq_true rfl) (Nat.le_of_ble_eq_true rfl) (am_G.mono (c1_M_of (d := d + 1) hA hK h250 hj) ?_)
    intro r h1 hq
    rw [hq.1, hq.2]
    clear hq h1 r
    refine ⟨am_nti _, ?_⟩
    refine g_iconst (pc := 181) (v := 2) dc_M_gather_181 rfl ?_
    refine q_icmp_ne (pc := 182) (tgt := 208) (K.st j) 2 dc_M_gather_182 (by omega) (by omega) rfl (fun hc182 => ?_) (fun hc182 => ?_)
    · refine g_iconst (pc := 208) (v := 0) dc_M_gather_208 rfl ?_
      refine g_istore_n (pc := 209) dc_M_gather_209 (by decide) ?_
      show am_G X mt_M_gather _ 210 [some (.ref 84), some (.int (nI dd)), some (.int (nI j)), some (.int 0)] [] _ _
      refine g_aload_n (pc := 210) dc_M_gather_210 rfl ?_
      refine g_getfield (pc := 211) dc_M_gather_211 fl_M_383 (mp_o hA) rfl ?_
      refine g_iload_n (pc := 214) dc_M_gather_214 rfl ?_
      refine g_dup2 (pc := 215) dc_M_gather_215 rfl rfl ?_
      refine q_ialoadV (pc := 216) dd dc_M_gather_216 (mp_a hA 42 rfl) (by omega) (by omega) (v := (nI (cnL K (srtK K j) (gT Y y0)) - 1)) hc ?_
      refine g_iload_n (pc := 217) dc_M_gather_217 rfl ?_
      refine g_if_eq (pc := 218) (tgt := 225) dc_M_gather_218 rfl (fun _ => ?_) (fun hc => absurd hc (by decide))
      refine g_iconst (pc := 225) (v := 0) dc_M_gather_225 rfl ?_
      refine g_iadd (pc := 226) (v := ((nI (cnL K (srtK K j) (gT Y y0)) - 1) + 0)) dc_M_gather_226 rfl ?_
      refine as_documentCopies (pc := 227) dd hA dc_M_gather_227 (by omega) ?_
      refine g_iinc (pc := 228) (v := (nI (j + 1))) dc_M_gather_228 rfl (nI_add j 1) (by decide) ?_
      show am_G X mt_M_gather _ 231 [some (.ref 84), some (.int (nI dd)), some (.int (nI (j + 1))), some (.int 0)] [] _ _
      refine g_goto (pc := 231) (tgt := 167) dc_M_gather_231 rfl ?_
      have hma_S2 : mA [79] S (S.s_documentCopies (upd S.documentCopies dd ((nI (cnL K (srtK K j) (gT Y y0)) - 1) + 0))) := ((mA.rf S).a_documentCopies _ (by decide))
      have hk_S2_documentCopies : (S.s_documentCopies (upd S.documentCopies dd ((nI (cnL K (srtK K j) (gT Y y0)) - 1) + 0))).documentCopies = (upd S.documentCopies dd (nI (cnL K (srtK K j) (gT Y y0)) - 1 + 0)) := rfl
      show am_G X mt_M_gather _ 167 [some (.ref 84), some (.int (nI dd)), some (.int (nI (j + 1))), some (.int 0)] [] (mput A (S.s_documentCopies (upd S.documentCopies dd ((nI (cnL K (srtK K j) (gT Y y0)) - 1) + 0))) B) _
      generalize (S.s_documentCopies (upd S.documentCopies dd ((nI (cnL K (srtK K j) (gT Y y0)) - 1) + 0))) = S2 at hma_S2 hk_S2_documentCopies ⊢
      refine am_wk (am_le_s (am_le_s (am_le_s (am_le_n am_le_0)))) ?_
      have hn9 : S2.documentCopies dd = nI (cnL K (srtK K (j + 1)) (gT Y y0)) - 1 := by rw [hcs, if_neg (fun h9 => hc182 h9.1), hk_S2_documentCopies, upd_s]; exact Int32.add_zero _
      exact l167_M_gather hA hY1 hY2 hw hdd hy0 n (j + 1) S2 (by omega) (hY.m hma_S2 (by decide) (by decide) (by decide) (by decide) (by decide)) (hK.m hma_S2 (by decide) (by decide)) (by rw [hma_S2.documentText (by decide)]; exact ht) hn9 (fun S1 y1 y2 y3 => KK S1 (hma_S2.tr y1) y2 (fun e he => (y3 e he).trans (by rw [hk_S2_documentCopies, upd_n he])))
    · refine g_aload_n (pc := 185) dc_M_gather_185 rfl ?_
      refine g_aload_n (pc := 186) dc_M_gather_186 rfl ?_
      refine g_iload_n (pc := 187) dc_M_gather_187 rfl ?_
      refine g_iconst (pc := 188) (v := 5) dc_M_gather_188 rfl ?_
      obtain ⟨yj, yj1, yj2, yj3⟩ := (hK.2 j hj).2.2.2.2.2 hc182
      refine g_v2 (pc := 189) (M' := mt_M_of) dc_M_gather_189 mo_M_of im_M_of se_M_of ln_M_415 (mp_o hA) rfl rfl (Nat.le_of_ble_eq_true rfl) (Nat.le_of_ble_eq_true rfl) (am_G.mono (c_M_of (d := d + 1) (i := j) (w := 5) hA (by omega) (by decide) yj2) ?_)
      intro r h1 hq
      rw [hq.1, hq.2]
      clear hq h1 r
      refine ⟨am_nti _, ?_⟩
      refine g_aload_n (pc := 192) dc_M_gather_192 rfl ?_
      refine g_getfield (pc := 193) dc_M_gather_193 fl_M_377 (mp_o hA) rfl ?_
      refine g_iload_n (pc := 196) dc_M_gather_196 rfl ?_
      refine q_ialoadV (pc := 197) dd dc_M_gather_197 (mp_a hA 40 rfl) (by omega) (by omega) (v := (nI y0)) ht ?_
      refine g_v2 (pc := 198) (M' := mt_M_isSameText) dc_M_gather_198 mo_M_isSameText im_M_isSameText se_M_isSameText ln_M_461 (mp_o hA) rfl rfl (Nat.le_of_ble_eq_true rfl) (Nat.le_of_ble_eq_true rfl) (am_G.mono (c_M_isSameText (d := d + 1) hA hY hY1 hY2 yj1 hy0) ?_)
      intro r h1 hq
      rw [hq.1, hq.2]
      clear hq h1 r
      refine ⟨am_nti _, ?_⟩
      refine q_ifb_eq (pc := 201) (tgt := 208) dc_M_gather_201 rfl (fun hc201 => ?_) (fun hc201 => ?_)
      · refine g_iconst (pc := 208) (v := 0) dc_M_gather_208 rfl ?_
        refine g_istore_n (pc := 209) dc_M_gather_209 (by decide) ?_
        show am_G X mt_M_gather _ 210 [some (.ref 84), some (.int (nI dd)), some (.int (nI j)), some (.int 0)] [] _ _
        refine g_aload_n (pc := 210) dc_M_gather_210 rfl ?_
        refine g_getfield (pc := 211) dc_M_gather_211 fl_M_383 (mp_o hA) rfl ?_
        refine g_iload_n (pc := 214) dc_M_gather_214 rfl ?_
        refine g_dup2 (pc := 215) dc_M_gather_215 rfl rfl ?_
        refine q_ialoadV (pc := 216) dd dc_M_gather_216 (mp_a hA 42 rfl) (by omega) (by omega) (v := (nI (cnL K (srtK K j) (gT Y y0)) - 1)) hc ?_
        refine g_iload_n (pc := 217) dc_M_gather_217 rfl ?_
        refine g_if_eq (pc := 218) (tgt := 225) dc_M_gather_218 rfl (fun _ => ?_) (fun hc => absurd hc (by decide))
        refine g_iconst (pc := 225) (v := 0) dc_M_gather_225 rfl ?_
        refine g_iadd (pc := 226) (v := ((nI (cnL K (srtK K j) (gT Y y0)) - 1) + 0)) dc_M_gather_226 rfl ?_
        refine as_documentCopies (pc := 227) dd hA dc_M_gather_227 (by omega) ?_
        refine g_iinc (pc := 228) (v := (nI (j + 1))) dc_M_gather_228 rfl (nI_add j 1) (by decide) ?_
        show am_G X mt_M_gather _ 231 [some (.ref 84), some (.int (nI dd)), some (.int (nI (j + 1))), some (.int 0)] [] _ _
        refine g_goto (pc := 231) (tgt := 167) dc_M_gather_231 rfl ?_
        have hma_S2 : mA [79] S (S.s_documentCopies (upd S.documentCopies dd ((nI (cnL K (srtK K j) (gT Y y0)) - 1) + 0))) := ((mA.rf S).a_documentCopies _ (by decide))
        have hk_S2_documentCopies : (S.s_documentCopies (upd S.documentCopies dd ((nI (cnL K (srtK K j) (gT Y y0)) - 1) + 0))).documentCopies = (upd S.documentCopies dd (nI (cnL K (srtK K j) (gT Y y0)) - 1 + 0)) := rfl
        show am_G X mt_M_gather _ 167 [some (.ref 84), some (.int (nI dd)), some (.int (nI (j + 1))), some (.int 0)] [] (mput A (S.s_documentCopies (upd S.documentCopies dd ((nI (cnL K (srtK K j) (gT Y y0)) - 1) + 0))) B) _
        generalize (S.s_documentCopies (upd S.documentCopies dd ((nI (cnL K (srtK K j) (gT Y y0)) - 1) + 0))) = S2 at hma_S2 hk_S2_documentCopies ⊢
        refine am_wk (am_le_s (am_le_s (am_le_s (am_le_n am_le_0)))) ?_
        have hn9 : S2.documentCopies dd = nI (cnL K (srtK K (j + 1)) (gT Y y0)) - 1 := by rw [hcs, if_neg (fun h9 => of_decide_eq_false hc201 (yj3.trans h9.2)), hk_S2_documentCopies, upd_s]; exact Int32.add_zero _
        exact l167_M_gather hA hY1 hY2 hw hdd hy0 n (j + 1) S2 (by omega) (hY.m hma_S2 (by decide) (by decide) (by decide) (by decide) (by decide)) (hK.m hma_S2 (by decide) (by decide)) (by rw [hma_S2.documentText (by decide)]; exact ht) hn9 (fun S1 y1 y2 y3 => KK S1 (hma_S2.tr y1) y2 (fun e he => (y3 e he).trans (by rw [hk_S2_documentCopies, upd_n he])))
      · refine g_iconst (pc := 204) (v := 1) dc_M_gather_204 rfl ?_
        refine g_goto (pc := 205) (tgt := 209) dc_M_gather_205 rfl ?_
        refine g_istore_n (pc := 209) dc_M_gather_209 (by decide) ?_
        show am_G X mt_M_gather _ 210 [some (.ref 84), some (.int (nI dd)), some (.int (nI j)), some (.int 1)] [] _ _
        refine g_aload_n (pc := 210) dc_M_gather_210 rfl ?_
        refine g_getfield (pc := 211) dc_M_gather_211 fl_M_383 (mp_o hA) rfl ?_
        refine g_iload_n (pc := 214) dc_M_gather_214 rfl ?_
        refine g_dup2 (pc := 215) dc_M_gather_215 rfl rfl ?_
        refine q_ialoadV (pc := 216) dd dc_M_gather_216 (mp_a hA 42 rfl) (by omega) (by omega) (v := (nI (cnL K (srtK K j) (gT Y y0)) - 1)) hc ?_
        refine g_iload_n (pc := 217) dc_M_gather_217 rfl ?_
        refine g_if_eq (pc := 218) (tgt := 225) dc_M_gather_218 rfl (fun hc => absurd hc (by decide)) (fun _ => ?_)
        refine g_iconst (pc := 221) (v := 1) dc_M_gather_221 rfl ?_
        refine g_goto (pc := 222) (tgt := 226) dc_M_gather_222 rfl ?_
        refine g_iadd (pc := 226) (v := ((nI (cnL K (srtK K j) (gT Y y0)) - 1) + 1)) dc_M_gather_226 rfl ?_
        refine as_documentCopies (pc := 227) dd hA dc_M_gather_227 (by omega) ?_
        refine g_iinc (pc := 228) (v := (nI (j + 1))) dc_M_gather_228 rfl (nI_add j 1) (by decide) ?_
        show am_G X mt_M_gather _ 231 [some (.ref 84), some (.int (nI dd)), some (.int (nI (j + 1))), some (.int 1)] [] _ _
        refine g_goto (pc := 231) (tgt := 167) dc_M_gather_231 rfl ?_
        have hma_S2 : mA [79] S (S.s_documentCopies (upd S.documentCopies dd ((nI (cnL K (srtK K j) (gT Y y0)) - 1) + 1))) := ((mA.rf S).a_documentCopies _ (by decide))
        have hk_S2_documentCopies : (S.s_documentCopies (upd S.documentCopies dd ((nI (cnL K (srtK K j) (gT Y y0)) - 1) + 1))).documentCopies = (upd S.documentCopies dd (nI (cnL K (srtK K j) (gT Y y0)) - 1 + 1)) := rfl
        show am_G X mt_M_gather _ 167 [some (.ref 84), some (.int (nI dd)), some (.int (nI (j + 1))), some (.int 1)] [] (mput A (S.s_documentCopies (upd S.documentCopies dd ((nI (cnL K (srtK K j) (gT Y y0)) - 1) + 1))) B) _
        generalize (S.s_documentCopies (upd S.documentCopies dd ((nI (cnL K (srtK K j) (gT Y y0)) - 1) + 1))) = S2 at hma_S2 hk_S2_documentCopies ⊢
        refine am_wk (am_le_s (am_le_s (am_le_s (am_le_n am_le_0)))) ?_
        have hn9 : S2.documentCopies dd = nI (cnL K (srtK K (j + 1)) (gT Y y0)) - 1 := by rw [hcs, if_pos ⟨hc182, yj3.symm.trans (of_decide_eq_true hc201)⟩, hk_S2_documentCopies, upd_s, m1_up]; exact congrArg (fun z : Int32 => z - 1) (nI_add _ 1)
        exact l167_M_gather hA hY1 hY2 hw hdd hy0 n (j + 1) S2 (by omega) (hY.m hma_S2 (by decide) (by decide) (by decide) (by decide) (by decide)) (hK.m hma_S2 (by decide) (by decide)) (by rw [hma_S2.documentText (by decide)]; exact ht) hn9 (fun S1 y1 y2 y3 => KK S1 (hma_S2.tr y1) y2 (fun e he => (y3 e he).trans (by rw [hk_S2_documentCopies, upd_n he])))
theorem l150_M_gather (hA : A.length = 84) (hY1 : Y.length ≤ 1100) (hY2 : ∀ j, j < Y.length → ofs Y (j + 1) ≤ 24000) (hw : wfK K) (hl250 : (dcs K).length ≤ 250) : ∀ (n dd : Nat) (S : MS), dd + n = (dcs K).length → txT S Y → knM S T Y K → S.documents = (dcs K).length → ar3 S (dcs K) S.known → (∀ e, e < dd → S.documentCopies e = nI (cnL K (srtK K K.ad.length) (K.tx (gN (dcs K) e)) - 1)) → am_G X mt_M_gather (d + 2) 150 [some (.ref 84), some (.int (nI dd)), none, none] [] (mput A S B) (fun r h1 => r = none ∧ ∃ S1, h1 = mput A S1 B ∧ mA [79] S S1 ∧ ∀ e, e < (dcs K).length → S1.documentCopies e = nI (cnL K (srtK K K.ad.length) (K.tx (gN (dcs K) e)) - 1))
  | 0, dd, S, e, hY, hK, hd, ha, hc => by
    refine g_iload_n (pc := 150) dc_M_gather_150 rfl ?_
    refine g_aload_n (pc := 151) dc_M_gather_151 rfl ?_
    refine g_getfield (pc := 152) (v := .int (nI ((dcs K).length))) dc_M_gather_152 fl_M_467 (mp_o hA) (congrArg (fun z => some (Value.int (nI z))) hd) ?_
    refine q_icmp_ge (pc := 155) (tgt := 240) dd ((dcs K).length) dc_M_gather_155 (by omega) (by omega) rfl (fun hc155 => ?_) (fun hc => absurd hc (by omega))
    exact g_return dc_M_gather_240 rfl ⟨rfl, S, rfl, mA.rf S, fun e he => hc e (by omega)⟩
  | n + 1, dd, S, e, hY, hK, hd, ha, hc => by
    have hdd : dd < (dcs K).length := by omega
    have hmm := dcs_mem (gN_mem hdd)
    obtain ⟨y0, y1, y2, y3⟩ := (hK.2 _ hmm.1).2.2.2.2.2 hmm.2
    have ht : S.documentText dd = nI y0 := (ha.2.1 dd hdd).trans y2
    have h1c := cnL_1 (K := K) (l := srtK K K.ad.length) (t := gT Y y0) ((srtK_mem _).mpr hmm) y3.symm
    refine g_iload_n (pc := 150) dc_M_gather_150 rfl ?_
    refine g_aload_n (pc := 151) dc_M_gather_151 rfl ?_
    refine g_getfield (pc := 152) (v := .int (nI ((dcs K).length))) dc_M_gather_152 fl_M_467 (mp_o hA) (congrArg (fun z => some (Value.int (nI z))) hd) ?_
    refine q_icmp_ge (pc := 155) (tgt := 240) dd ((dcs K).length) dc_M_gather_155 (by omega) (by omega) rfl (fun hc => absurd hc (by omega)) (fun hc155 => ?_)
    refine g_aload_n (pc := 158) dc_M_gather_158 rfl ?_
    refine g_getfield (pc := 159) dc_M_gather_159 fl_M_383 (mp_o hA) rfl ?_
    refine g_iload_n (pc := 162) dc_M_gather_162 rfl ?_
    refine g_iconst (pc := 163) (v := (-1)) dc_M_gather_163 rfl ?_
    refine as_documentCopies (pc := 164) dd hA dc_M_gather_164 (by omega) ?_
    refine g_iconst (pc := 165) (v := 0) dc_M_gather_165 rfl ?_
    refine g_istore_n (pc := 166) dc_M_gather_166 (by decide) ?_
    show am_G X mt_M_gather _ 167 [some (.ref 84), some (.int (nI dd)), some (.int 0), none] [] _ _
    have hma_S2 : mA [79] S (S.s_documentCopies (upd S.documentCopies dd (-1))) := ((mA.rf S).a_documentCopies _ (by decide))
    have hk_S2_documentCopies : (S.s_documentCopies (upd S.documentCopies dd (-1))).documentCopies = (upd S.documentCopies dd (-1)) := rfl
    show am_G X mt_M_gather _ 167 [some (.ref 84), some (.int (nI dd)), some (.int 0), none] [] (mput A (S.s_documentCopies (upd S.documentCopies dd (-1))) B) _
    generalize (S.s_documentCopies (upd S.documentCopies dd (-1))) = S2 at hma_S2 hk_S2_documentCopies ⊢
    refine l167_M_gather (T := T) (Y := Y) (y0 := y0) hA hY1 hY2 hw (by omega) y1 K.ad.length 0 S2 (Nat.zero_add _) (hY.m hma_S2 (by decide) (by decide) (by decide) (by decide) (by decide)) (hK.m hma_S2 (by decide) (by decide)) (by rw [hma_S2.documentText (by decide)]; exact ht) (by rw [hk_S2_documentCopies, upd_s]; rfl) (fun S3 f1 f2 f3 => ?_)
    have hm3 := hma_S2.tr f1
    refine g_iinc (pc := 234) (v := (nI (dd + 1))) dc_M_gather_234 rfl (nI_add dd 1) (by decide) ?_
    show am_G X mt_M_gather _ 237 [some (.ref 84), some (.int (nI (dd + 1))), none, none] [] _ _
    refine g_goto (pc := 237) (tgt := 150) dc_M_gather_237 rfl ?_
    refine am_G.mono (l150_M_gather hA hY1 hY2 hw hl250 n (dd + 1) S3 (by omega) (hY.m hm3 (by decide) (by decide) (by decide) (by decide) (by decide)) (hK.m hm3 (by decide) (by decide)) ((hm3.documents (by decide)).trans hd) (ha.m hm3 (by decide) (by decide) (by decide) (by decide)) (fun e he => ?_)) (fun r h9 hz => ?_)
    · by_cases q : e = dd
      · rw [q, f2, y3]
        exact q_sub (a := cnL K (srtK K K.ad.length) (K.tx (gN (dcs K) dd))) (b := 1) (by have h7 := h1c; rw [y3] at h7; exact h7)
      · rw [f3 e q, hk_S2_documentCopies, upd_n q]; exact hc e (by omega)
    · obtain ⟨u1, S4, u2, u3, u4⟩ := hz
      exact ⟨u1, S4, u2, hm3.tr u3, u4⟩
theorem c_M_gather (hA : A.length = 84) (hT : adT S T) (hY : txT S Y) (hY1 : Y.length ≤ 1100) (hY2 : ∀ j, j < Y.length → ofs Y (j + 1) ≤ 24000) (hK : knM S T Y K) (hw : wfK K) : am_C X mt_M_gather (d + 2) [.ref 84] (mput A S B) (fun r h1 => r = none ∧ ∃ S1, h1 = mput A S1 B ∧ mA [75, 76, 77, 78, 79] S S1 ∧ S1.documents = (dcs K).length ∧ ar3 S1 (dcs K) S1.known ∧ ∀ e, e < (dcs K).length → S1.documentCopies e = nI (cnL K (srtK K K.ad.length) (K.tx (gN (dcs K) e)) - 1)) := by
  show am_G X mt_M_gather (d + 2) 0 [some (.ref 84), none, none, none] [] (mput A S B) _
  have hl250 : (dcs K).length ≤ 250 := Nat.le_trans dfk_len (Nat.le_trans (srtK_len _) hw.1)
  refine g_aload_n (pc := 0) dc_M_gather_0 rfl ?_
  refine g_iconst (pc := 1) (v := 0) dc_M_gather_1 rfl ?_
  refine pf_documents (pc := 2) (v := 0) hA dc_M_gather_2 fp_M_gather_467 ?_
  refine g_iconst (pc := 5) (v := 0) dc_M_gather_5 rfl ?_
  refine g_istore_n (pc := 6) dc_M_gather_6 (by decide) ?_
  show am_G X mt_M_gather _ 7 [some (.ref 84), some (.int 0), none, none] [] _ _
  have hma_S2 : mA [75] S (S.s_documents 0) := ((mA.rf S).a_documents _ (by decide))
  have hk_S2_documents : (S.s_documents 0).documents = 0 := rfl
  show am_G X mt_M_gather _ 7 [some (.ref 84), some (.int 0), none, none] [] (mput A (S.s_documents 0) B) _
  generalize (S.s_documents 0) = S2 at hma_S2 hk_S2_documents ⊢
  refine l7_M_gather hA hY1 hY2 hw K.ad.length 0 S2 (Nat.zero_add _) (hT.m hma_S2 (by decide) (by decide) (by decide) (by decide)) (hY.m hma_S2 (by decide) (by decide) (by decide) (by decide) (by decide)) (hK.m hma_S2 (by decide) (by decide)) hk_S2_documents ⟨fun j hj => absurd hj (Nat.not_lt_zero j), fun j hj => absurd hj (Nat.not_lt_zero j), fun j hj => absurd hj (Nat.not_lt_zero j)⟩ (fun S3 f1 f2 f3 => ?_)
  have hm3 : mA [75, 76, 77, 78] S S3 := (hma_S2.mo (by decide)).tr f1
  refine g_iconst (pc := 148) (v := 0) dc_M_gather_148 rfl ?_
  refine g_istore_n (pc := 149) dc_M_gather_149 (by decide) ?_
  show am_G X mt_M_gather _ 150 [some (.ref 84), some (.int 0), none, none] [] _ _
  refine am_G.mono (l150_M_gather (T := T) (Y := Y) hA hY1 hY2 hw hl250 (dcs K).length 0 S3 (Nat.zero_add _) (hY.m hm3 (by decide) (by decide) (by decide) (by decide) (by decide)) (hK.m hm3 (by decide) (by decide)) f2 f3 (fun e he => absurd he (Nat.not_lt_zero e))) (fun r h9 hz => ?_)
  obtain ⟨u1, S4, u2, u3, u4⟩ := hz
  exact ⟨u1, S4, u2, (hm3.mo (by decide)).tr (u3.mo (by decide)), (u3.documents (by decide)).trans f2, f3.m u3 (by decide) (by decide) (by decide) (by decide), u4⟩
end F8S
