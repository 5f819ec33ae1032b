/-! ===== the model looks at a page ===== -/
theorem spl_bt {M : List Int32} (hb : btg M) : ∀ (n k : Nat), M.length - k ≤ n → ∀ x, x ∈ spl M k → btg x
  | 0, k, hn, x, hx => by rw [spl_e (by omega)] at hx; cases hx
  | n + 1, k, hn, x, hx => by
    by_cases hk : k < M.length
    · by_cases hw : wdB (gx M k) = true
      · rw [spl_w hk hw] at hx
        have h9 := fw_gt hk hw
        rcases List.mem_cons.mp hx with e | e
        · rw [e]
          refine btg_map (btg_sub hb ?_)
          have := (fw_bd (p := wdB) (L := M) (f := k) (t := M.length) (by omega)).2
          exact Nat.le_trans (Nat.min_le_left _ _) this
        · exact spl_bt hb n _ (by omega) x e
      · rw [spl_n hk hw] at hx
        exact spl_bt hb n (k + 1) (by omega) x hx
    · rw [spl_e (by omega)] at hx; cases hx
theorem pgW_bt {L : List Int32} (hb : btg L) : ∀ x, x ∈ pgW L → btg x := fun x hx => by
  obtain ⟨p, -, h2⟩ := List.mem_flatMap.mp hx
  unfold pwd at h2
  split at h2
  · exact spl_bt (btg_dcd hb _ _ (Nat.le_refl _)) _ 0 (Nat.le_refl _) x h2
  · cases h2
theorem tx_up {g : Nat → Int32} {D : List Int32} {x v : Int32} {i : Nat} (h : tx g 0 D) (hv : vp_nar .byte x = v) (hi : i = D.length) : tx (upd g i (vp_nar .byte x)) 0 (D ++ [v]) := by
  have h9 := wrt_put (g := g) (n := D.length) (i := i) (D := []) hv (by rw [hi]; rfl)
  rw [wrt_nil] at h9
  rw [h9]
  exact tx_snoc h
section OP7
variable {X : am_X} {d k ka j i : Nat} {A B h : List va_E} {S : MS} {T Y U Wd Ls : List (List Int32)} {D L E : List Int32} {p : Int32} {v2 v3 v4 : Int32}
theorem dr_s {R : List Int32} (h : j < R.length) : R.drop j = gx R j :: R.drop (j + 1) := by
  unfold gx
  rw [List.getD_eq_getElem?_getD, List.getElem?_eq_getElem h]
  exact List.drop_eq_getElem_cons h
theorem l128a_M_look {Q : Option Value → List va_E → Prop} (hA : A.length = 84) (hka : ka < T.length) (hi : i < 60) (hbR : btg (gT T ka)) : ∀ (n j : Nat) (S : MS) (Dp : List Int32), j + n = (gT T ka).length → adT S T → S.links i = nI ka → tx S.product 0 Dp → S.productSize = Dp.length → Dp.length + n + 1 ≤ 20000 → (∀ S1 v6, mA [3, 4] S S1 → tx S1.product 0 (Dp ++ (gT T ka).drop j) → S1.productSize = (Dp ++ (gT T ka).drop j).length → am_G X mt_M_look (d + 1) 202 [some (.ref 84), some (.int 0), some (.int v2), some (.int v3), some (.int v4), some (.int (nI i)), some (.int (nI (gT T ka).length)), some (.int v6)] [] (mput A S1 B) Q) → am_G X mt_M_look (d + 1) 128 [some (.ref 84), some (.int 0), some (.int v2), some (.int v3), some (.int v4), some (.int (nI i)), some (.int (nI (gT T ka).length)), some (.int (nI j))] [] (mput A S B) Q
  | 0, j, S, Dp, e, hT, hl, hx, hs, hb, KK => by
    have hof := adT.of hT ka (by omega)
    have h35 := hT.2.2.1
    have hl20 := (hT.2.2.2.1 ka hka).2
    have h9 := KK S (nI j) (mA.rf S)
    rw [List.drop_eq_nil_of_le (by omega), List.append_nil] at h9
    refine g_iload (pc := 128) dc_M_look_128 rfl ?_
    refine g_iload (pc := 130) dc_M_look_130 rfl ?_
    refine q_icmp_ge (pc := 132) (tgt := 202) j ((gT T ka).length) dc_M_look_132 (by omega) (by omega) rfl (fun hc132 => ?_) (fun hc => absurd hc (by omega))
    exact h9 hx hs
  | n + 1, j, S, Dp, e, hT, hl, hx, hs, hb, KK => by
    have hof := adT.of hT ka (by omega)
    have h35 := hT.2.2.1
    have hl20 := (hT.2.2.2.1 ka hka).2
    have hj : j < (gT T ka).length := by omega
    have h9b := nar_bt (hbR j)
    refine g_iload (pc := 128) dc_M_look_128 rfl ?_
    refine g_iload (pc := 130) dc_M_look_130 rfl ?_
    refine q_icmp_ge (pc := 132) (tgt := 202) j ((gT T ka).length) dc_M_look_132 (by omega) (by omega) rfl (fun hc => absurd hc (by omega)) (fun hc132 => ?_)
    refine g_aload_n (pc := 135) dc_M_look_135 rfl ?_
    refine g_getfield (pc := 136) dc_M_look_136 fl_M_337 (mp_o hA) rfl ?_
    refine g_aload_n (pc := 139) dc_M_look_139 rfl ?_
    refine g_getfield (pc := 140) (v := .int (nI Dp.length)) dc_M_look_140 fl_M_499 (mp_o hA) (congrArg (fun z => some (Value.int (nI z))) hs) ?_
    refine g_iload_n (pc := 143) dc_M_look_143 rfl ?_
    refine g_if_ne (pc := 144) (tgt := 170) dc_M_look_144 rfl (fun hc => absurd hc (by decide)) (fun _ => ?_)
    refine g_aload_n (pc := 147) dc_M_look_147 rfl ?_
    refine g_getfield (pc := 148) dc_M_look_148 fl_M_41 (mp_o hA) rfl ?_
    refine g_aload_n (pc := 151) dc_M_look_151 rfl ?_
    refine g_getfield (pc := 152) dc_M_look_152 fl_M_31 (mp_o hA) rfl ?_
    refine g_aload_n (pc := 155) dc_M_look_155 rfl ?_
    refine g_getfield (pc := 156) dc_M_look_156 fl_M_328 (mp_o hA) rfl ?_
    refine g_iload (pc := 159) dc_M_look_159 rfl ?_
    refine q_ialoadV (pc := 161) i dc_M_look_161 (mp_a hA 29 rfl) (by omega) (by omega) (v := (nI ka)) hl ?_
    refine q_ialoadV (pc := 162) ka dc_M_look_162 (mp_a hA 4 rfl) (by omega) (by omega) (v := (nI (ofs T ka))) (hT.2.1 ka hka).1 ?_
    refine g_iload (pc := 163) dc_M_look_163 rfl ?_
    refine g_iadd (pc := 165) (v := (nI (ofs T ka + j))) dc_M_look_165 (nI_add (ofs T ka) j) ?_
    refine q_tx (pc := 166) j dc_M_look_166 (mp_a hA 3 rfl) (hT.2.1 ka hka).2.2 (by omega) (by omega) (by omega) ?_
    refine g_goto (pc := 167) (tgt := 185) dc_M_look_167 rfl ?_
    refine as_product (pc := 185) Dp.length hA dc_M_look_185 (by omega) ?_
    refine g_aload_n (pc := 186) dc_M_look_186 rfl ?_
    refine g_dup (pc := 187) dc_M_look_187 rfl ?_
    refine g_getfield (pc := 188) (v := .int (nI Dp.length)) dc_M_look_188 fl_M_499 (mp_o hA) (congrArg (fun z => some (Value.int (nI z))) hs) ?_
    refine g_iconst (pc := 191) (v := 1) dc_M_look_191 rfl ?_
    refine g_iadd (pc := 192) (v := (nI (Dp.length + 1))) dc_M_look_192 (nI_add Dp.length 1) ?_
    refine pf_productSize (pc := 193) (v := Dp.length + 1) hA dc_M_look_193 fp_M_look_499 ?_
    refine g_iinc (pc := 196) (v := (nI (j + 1))) dc_M_look_196 rfl (nI_add j 1) (by decide) ?_
    show am_G X mt_M_look _ 199 [some (.ref 84), some (.int 0), some (.int v2), some (.int v3), some (.int v4), some (.int (nI i)), some (.int (nI ((gT T ka).length))), some (.int (nI (j + 1)))] [] _ _
    refine g_goto (pc := 199) (tgt := 128) dc_M_look_199 rfl ?_
    have hma_S2 : mA [3, 4] S ((S.s_product (upd S.product Dp.length (vp_nar .byte (gx (gT T ka) j)))).s_productSize (Dp.length + 1)) := (((mA.rf S).a_product _ (by decide)).a_productSize _ (by decide))
    have hk_S2_product : ((S.s_product (upd S.product Dp.length (vp_nar .byte (gx (gT T ka) j)))).s_productSize (Dp.length + 1)).product = (upd S.product Dp.length (vp_nar .byte (gx (gT T ka) j))) := rfl
    have hk_S2_productSize : ((S.s_product (upd S.product Dp.length (vp_nar .byte (gx (gT T ka) j)))).s_productSize (Dp.length + 1)).productSize = Dp.length + 1 := rfl
    show am_G X mt_M_look _ 128 [some (.ref 84), some (.int 0), some (.int v2), some (.int v3), some (.int v4), some (.int (nI i)), some (.int (nI ((gT T ka).length))), some (.int (nI (j + 1)))] [] (mput A ((S.s_product (upd S.product Dp.length (vp_nar .byte (gx (gT T ka) j)))).s_productSize (Dp.length + 1)) B) _
    generalize ((S.s_product (upd S.product Dp.length (vp_nar .byte (gx (gT T ka) j)))).s_productSize (Dp.length + 1)) = S2 at hma_S2 hk_S2_product hk_S2_productSize ⊢
    refine l128a_M_look hA hka hi hbR n (j + 1) S2 (Dp ++ [gx (gT T ka) j]) (by omega) (hT.m hma_S2 (by decide) (by decide) (by decide) (by decide)) (by rw [hma_S2.links (by decide)]; exact hl) (by rw [hk_S2_product]; exact tx_up hx h9b rfl) (by rw [hk_S2_productSize, List.length_append]; rfl) (by rw [List.length_append]; show Dp.length + 1 + n + 1 ≤ 20000; omega) (fun S1 v6 hm hx1 hs1 => ?_)
    rw [List.append_assoc, show [gx (gT T ka) j] ++ (gT T ka).drop (j + 1) = (gT T ka).drop j from (dr_s hj).symm] at hx1 hs1
    exact KK S1 v6 (hma_S2.tr hm) hx1 hs1
theorem l128b_M_look {Q : Option Value → List va_E → Prop} (hA : A.length = 84) (hi : i < Wd.length) (hw4 : Wd.length ≤ 4000) (hbR : btg (gT Wd i)) (how : ofs Wd i + (gT Wd i).length ≤ 8000) : ∀ (n j : Nat) (S : MS) (Dp : List Int32), j + n = (gT Wd i).length → wdS S Wd → tx S.product 0 Dp → S.productSize = Dp.length → Dp.length + n + 1 ≤ 20000 → (∀ S1 v6, mA [3, 4] S S1 → tx S1.product 0 (Dp ++ (gT Wd i).drop j) → S1.productSize = (Dp ++ (gT Wd i).drop j).length → am_G X mt_M_look (d + 1) 202 [some (.ref 84), some (.int 1), some (.int v2), some (.int v3), some (.int v4), some (.int (nI i)), some (.int (nI (gT Wd i).length)), some (.int v6)] [] (mput A S1 B) Q) → am_G X mt_M_look (d + 1) 128 [some (.ref 84), some (.int 1), some (.int v2), some (.int v3), some (.int v4), some (.int (nI i)), some (.int (nI (gT Wd i).length)), some (.int (nI j))] [] (mput A S B) Q
  | 0, j, S, Dp, e, hw, hx, hs, hb, KK => by
    have h9 := KK S (nI j) (mA.rf S)
    rw [List.drop_eq_nil_of_le (by omega), List.append_nil] at h9
    refine g_iload (pc := 128) dc_M_look_128 rfl ?_
    refine g_iload (pc := 130) dc_M_look_130 rfl ?_
    refine q_icmp_ge (pc := 132) (tgt := 202) j ((gT Wd i).length) dc_M_look_132 (by omega) (by omega) rfl (fun hc132 => ?_) (fun hc => absurd hc (by omega))
    exact h9 hx hs
  | n + 1, j, S, Dp, e, hw, hx, hs, hb, KK => by
    have hj : j < (gT Wd i).length := by omega
    have h9b := nar_bt (hbR j)
    refine g_iload (pc := 128) dc_M_look_128 rfl ?_
    refine g_iload (pc := 130) dc_M_look_130 rfl ?_
    refine q_icmp_ge (pc := 132) (tgt := 202) j ((gT Wd i).length) dc_M_look_132 (by omega) (by omega) rfl (fun hc => absurd hc (by omega)) (fun hc132 => ?_)
    refine g_aload_n (pc := 135) dc_M_look_135 rfl ?_
    refine g_getfield (pc := 136) dc_M_look_136 fl_M_337 (mp_o hA) rfl ?_
    refine g_aload_n (pc := 139) dc_M_look_139 rfl ?_
    refine g_getfield (pc := 140) (v := .int (nI Dp.length)) dc_M_look_140 fl_M_499 (mp_o hA) (congrArg (fun z => some (Value.int (nI z))) hs) ?_
    refine g_iload_n (pc := 143) dc_M_look_143 rfl ?_
    refine g_if_ne (pc := 144) (tgt := 170) dc_M_look_144 rfl (fun _ => ?_) (fun hc => absurd hc (by decide))
    refine g_aload_n (pc := 170) dc_M_look_170 rfl ?_
    refine g_getfield (pc := 171) dc_M_look_171 fl_M_232 (mp_o hA) rfl ?_
    refine g_aload_n (pc := 174) dc_M_look_174 rfl ?_
    refine g_getfield (pc := 175) dc_M_look_175 fl_M_226 (mp_o hA) rfl ?_
    refine g_iload (pc := 178) dc_M_look_178 rfl ?_
    refine q_ialoadV (pc := 180) i dc_M_look_180 (mp_a hA 21 rfl) (by omega) (by omega) (v := (nI (ofs Wd i))) (hw.2 i hi).1 ?_
    refine g_iload (pc := 181) dc_M_look_181 rfl ?_
    refine g_iadd (pc := 183) (v := (nI (ofs Wd i + j))) dc_M_look_183 (nI_add (ofs Wd i) j) ?_
    refine q_tx (pc := 184) j dc_M_look_184 (mp_a hA 20 rfl) (hw.2 i hi).2.2 (by omega) (by omega) (by omega) ?_
    refine as_product (pc := 185) Dp.length hA dc_M_look_185 (by omega) ?_
    refine g_aload_n (pc := 186) dc_M_look_186 rfl ?_
    refine g_dup (pc := 187) dc_M_look_187 rfl ?_
    refine g_getfield (pc := 188) (v := .int (nI Dp.length)) dc_M_look_188 fl_M_499 (mp_o hA) (congrArg (fun z => some (Value.int (nI z))) hs) ?_
    refine g_iconst (pc := 191) (v := 1) dc_M_look_191 rfl ?_
    refine g_iadd (pc := 192) (v := (nI (Dp.length + 1))) dc_M_look_192 (nI_add Dp.length 1) ?_
    refine pf_productSize (pc := 193) (v := Dp.length + 1) hA dc_M_look_193 fp_M_look_499 ?_
    refine g_iinc (pc := 196) (v := (nI (j + 1))) dc_M_look_196 rfl (nI_add j 1) (by decide) ?_
    show am_G X mt_M_look _ 199 [some (.ref 84), some (.int 1), some (.int v2), some (.int v3), some (.int v4), some (.int (nI i)), some (.int (nI ((gT Wd i).length))), some (.int (nI (j + 1)))] [] _ _
    refine g_goto (pc := 199) (tgt := 128) dc_M_look_199 rfl ?_
    have hma_S2 : mA [3, 4] S ((S.s_product (upd S.product Dp.length (vp_nar .byte (gx (gT Wd i) j)))).s_productSize (Dp.length + 1)) := (((mA.rf S).a_product _ (by decide)).a_productSize _ (by decide))
    have hk_S2_product : ((S.s_product (upd S.product Dp.length (vp_nar .byte (gx (gT Wd i) j)))).s_productSize (Dp.length + 1)).product = (upd S.product Dp.length (vp_nar .byte (gx (gT Wd i) j))) := rfl
    have hk_S2_productSize : ((S.s_product (upd S.product Dp.length (vp_nar .byte (gx (gT Wd i) j)))).s_productSize (Dp.length + 1)).productSize = Dp.length + 1 := rfl
    show am_G X mt_M_look _ 128 [some (.ref 84), some (.int 1), some (.int v2), some (.int v3), some (.int v4), some (.int (nI i)), some (.int (nI ((gT Wd i).length))), some (.int (nI (j + 1)))] [] (mput A ((S.s_product (upd S.product Dp.length (vp_nar .byte (gx (gT Wd i) j)))).s_productSize (Dp.length + 1)) B) _
    generalize ((S.s_product (upd S.product Dp.length (vp_nar .byte (gx (gT Wd i) j)))).s_productSize (Dp.length + 1)) = S2 at hma_S2 hk_S2_product hk_S2_productSize ⊢
    refine l128b_M_look hA hi hw4 hbR how n (j + 1) S2 (Dp ++ [gx (gT Wd i) j]) (by omega) ⟨by rw [hma_S2.wordCount (by decide)]; exact hw.1, by rw [hma_S2.words (by decide), hma_S2.wordAt (by decide), hma_S2.wordLength (by decide)]; exact hw.2⟩ (by rw [hk_S2_product]; exact tx_up hx h9b rfl) (by rw [hk_S2_productSize, List.length_append]; rfl) (by rw [List.length_append]; show Dp.length + 1 + n + 1 ≤ 20000; omega) (fun S1 v6 hm hx1 hs1 => ?_)
    rw [List.append_assoc, show [gx (gT Wd i) j] ++ (gT Wd i).drop (j + 1) = (gT Wd i).drop j from (dr_s hj).symm] at hx1 hs1
    exact KK S1 v6 (hma_S2.tr hm) hx1 hs1
theorem lnR_tk (hk : k < T.length) : (lnR (T.take k)).length + (gT T k).length + 1 ≤ T.flatten.length + T.length := by
  have e1 : (lnR (T.take (k + 1))).length ≤ (lnR T).length := by
    rw [lnR_len, lnR_len, List.length_take]
    have e3 := congrArg (fun z : List (List Int32) => z.flatten.length) (List.take_append_drop (k + 1) T)
    rw [List.flatten_append, List.length_append] at e3
    omega
  rw [tk_s hk, lnR_app, List.length_append, List.length_append, lnR_len (T := T)] at e1
  have e2 : ([10] : List Int32).length = 1 := rfl
  omega
theorem l77a_M_look (hA : A.length = 84) (hok : ∀ x, x ∈ T → okD x) (h60 : Ls.length ≤ 60) (h19 : Ls.flatten.length + Ls.length ≤ 19000) : ∀ (n i : Nat) (S : MS), i + n = Ls.length → adT S T → lkI S T Ls → tx S.product 0 (lnR (Ls.take i)) → S.productSize = (lnR (Ls.take i)).length → am_G X mt_M_look (d + 1) 77 [some (.ref 84), some (.int 0), some (.int v2), some (.int v3), some (.int v4), some (.int (nI i)), none, none] [] (mput A S B) (fun r h1 => r = some (.int (nI Ls.length)) ∧ ∃ S1, h1 = mput A S1 B ∧ mA [3, 4] S S1 ∧ prM S1 (lnR Ls))
  | 0, i, S, e, hT, hlk, hx, hs => by
    rw [show Ls.take i = Ls from List.take_of_length_le (by omega)] at hx hs
    refine g_iload (pc := 77) dc_M_look_77 rfl ?_
    refine g_iload_n (pc := 79) dc_M_look_79 rfl ?_
    refine g_if_ne (pc := 80) (tgt := 90) dc_M_look_80 rfl (fun hc => absurd hc (by decide)) (fun _ => ?_)
    refine g_aload_n (pc := 83) dc_M_look_83 rfl ?_
    refine g_getfield (pc := 84) (v := .int (nI Ls.length)) dc_M_look_84 fl_M_322 (mp_o hA) (congrArg (fun z => some (Value.int (nI z))) hlk.1) ?_
    refine g_goto (pc := 87) (tgt := 94) dc_M_look_87 rfl ?_
    refine q_icmp_ge (pc := 94) (tgt := 229) i Ls.length dc_M_look_94 (by omega) (by omega) rfl (fun hc94 => ?_) (fun hc => absurd hc (by omega))
    refine g_iload_n (pc := 229) dc_M_look_229 rfl ?_
    refine g_if_ne (pc := 230) (tgt := 240) dc_M_look_230 rfl (fun hc => absurd hc (by decide)) (fun _ => ?_)
    refine g_aload_n (pc := 233) dc_M_look_233 rfl ?_
    refine g_getfield (pc := 234) (v := .int (nI Ls.length)) dc_M_look_234 fl_M_322 (mp_o hA) (congrArg (fun z => some (Value.int (nI z))) hlk.1) ?_
    refine g_goto (pc := 237) (tgt := 244) dc_M_look_237 rfl ?_
    exact g_ireturn dc_M_look_244 rfl ⟨rfl, S, rfl, mA.rf S, hx, hs, by rw [lnR_len]; omega⟩
  | n + 1, i, S, e, hT, hlk, hx, hs => by
    have hi : i < Ls.length := by omega
    obtain ⟨ka, hka, hl, hg⟩ := hlk.2 i hi
    have h35 := hT.2.2.1
    have hoK := hok _ (gT_mem hka)
    have hlk9 := lnR_tk (T := Ls) hi
    rw [← hg] at hlk9
    refine g_iload (pc := 77) dc_M_look_77 rfl ?_
    refine g_iload_n (pc := 79) dc_M_look_79 rfl ?_
    refine g_if_ne (pc := 80) (tgt := 90) dc_M_look_80 rfl (fun hc => absurd hc (by decide)) (fun _ => ?_)
    refine g_aload_n (pc := 83) dc_M_look_83 rfl ?_
    refine g_getfield (pc := 84) (v := .int (nI Ls.length)) dc_M_look_84 fl_M_322 (mp_o hA) (congrArg (fun z => some (Value.int (nI z))) hlk.1) ?_
    refine g_goto (pc := 87) (tgt := 94) dc_M_look_87 rfl ?_
    refine q_icmp_ge (pc := 94) (tgt := 229) i Ls.length dc_M_look_94 (by omega) (by omega) rfl (fun hc => absurd hc (by omega)) (fun hc94 => ?_)
    refine g_iload_n (pc := 97) dc_M_look_97 rfl ?_
    refine g_if_ne (pc := 98) (tgt := 116) dc_M_look_98 rfl (fun hc => absurd hc (by decide)) (fun _ => ?_)
    refine g_aload_n (pc := 101) dc_M_look_101 rfl ?_
    refine g_getfield (pc := 102) dc_M_look_102 fl_M_35 (mp_o hA) rfl ?_
    refine g_aload_n (pc := 105) dc_M_look_105 rfl ?_
    refine g_getfield (pc := 106) dc_M_look_106 fl_M_328 (mp_o hA) rfl ?_
    refine g_iload (pc := 109) dc_M_look_109 rfl ?_
    refine q_ialoadV (pc := 111) i dc_M_look_111 (mp_a hA 29 rfl) (by omega) (by omega) (v := (nI ka)) hl ?_
    refine q_ialoadV (pc := 112) ka dc_M_look_112 (mp_a hA 5 rfl) (by omega) (by omega) (v := (nI ((gT T ka).length))) (hT.2.1 ka hka).2.1 ?_
    refine g_goto (pc := 113) (tgt := 123) dc_M_look_113 rfl ?_
    refine g_istore (pc := 123) dc_M_look_123 (by decide) ?_
    show am_G X mt_M_look _ 125 [some (.ref 84), some (.int 0), some (.int v2), some (.int v3), some (.int v4), some (.int (nI i)), some (.int (nI ((gT T ka).length))), none] [] _ _
    refine g_iconst (pc := 125) (v := 0) dc_M_look_125 rfl ?_
    refine g_istore (pc := 126) dc_M_look_126 (by decide) ?_
    show am_G X mt_M_look _ 128 [some (.ref 84), some (.int 0), some (.int v2), some (.int v3), some (.int v4), some (.int (nI i)), some (.int (nI ((gT T ka).length))), some (.int 0)] [] _ _
    refine l128a_M_look hA hka (by omega) hoK.2.2.2.2.2.1 (gT T ka).length 0 S (lnR (Ls.take i)) (Nat.zero_add _) (hT) hl hx hs (by omega) (fun S2 v6 hm2 hx2 hs2 => ?_)
    rw [List.drop_zero, hg] at hx2 hs2
    have hlp : (lnR (Ls.take i) ++ gT Ls i).length + 1 ≤ 19000 := by rw [List.length_append, ← hg]; omega
    refine g_aload_n (pc := 202) dc_M_look_202 rfl ?_
    refine g_getfield (pc := 203) dc_M_look_203 fl_M_337 (mp_o hA) rfl ?_
    refine g_aload_n (pc := 206) dc_M_look_206 rfl ?_
    refine g_getfield (pc := 207) (v := .int (nI ((lnR (Ls.take i) ++ gT Ls i).length))) dc_M_look_207 fl_M_499 (mp_o hA) (congrArg (fun z => some (Value.int (nI z))) hs2) ?_
    refine g_bipush (pc := 210) (v := 10) dc_M_look_210 rfl ?_
    refine as_product (pc := 212) ((lnR (Ls.take i) ++ gT Ls i).length) hA dc_M_look_212 (by omega) ?_
    refine g_aload_n (pc := 213) dc_M_look_213 rfl ?_
    refine g_dup (pc := 214) dc_M_look_214 rfl ?_
    refine g_getfield (pc := 215) (v := .int (nI ((lnR (Ls.take i) ++ gT Ls i).length))) dc_M_look_215 fl_M_499 (mp_o hA) (congrArg (fun z => some (Value.int (nI z))) hs2) ?_
    refine g_iconst (pc := 218) (v := 1) dc_M_look_218 rfl ?_
    refine g_iadd (pc := 219) (v := (nI ((lnR (Ls.take i) ++ gT Ls i).length + 1))) dc_M_look_219 (nI_add ((lnR (Ls.take i) ++ gT Ls i).length) 1) ?_
    refine pf_productSize (pc := 220) (v := (lnR (Ls.take i) ++ gT Ls i).length + 1) hA dc_M_look_220 fp_M_look_499 ?_
    refine g_iinc (pc := 223) (v := (nI (i + 1))) dc_M_look_223 rfl (nI_add i 1) (by decide) ?_
    show am_G X mt_M_look _ 226 [some (.ref 84), some (.int 0), some (.int v2), some (.int v3), some (.int v4), some (.int (nI (i + 1))), some (.int (nI ((gT T ka).length))), some (.int v6)] [] _ _
    refine g_goto (pc := 226) (tgt := 77) dc_M_look_226 rfl ?_
    have hma_S3 : mA [3, 4] S2 ((S2.s_product (upd S2.product ((lnR (Ls.take i) ++ gT Ls i).length) (vp_nar .byte 10))).s_productSize ((lnR (Ls.take i) ++ gT Ls i).length + 1)) := (((mA.rf S2).a_product _ (by decide)).a_productSize _ (by decide))
    have hk_S3_product : ((S2.s_product (upd S2.product ((lnR (Ls.take i) ++ gT Ls i).length) (vp_nar .byte 10))).s_productSize ((lnR (Ls.take i) ++ gT Ls i).length + 1)).product = (upd S2.product (lnR (Ls.take i) ++ gT Ls i).length (vp_nar .byte 10)) := rfl
    have hk_S3_productSize : ((S2.s_product (upd S2.product ((lnR (Ls.take i) ++ gT Ls i).length) (vp_nar .byte 10))).s_productSize ((lnR (Ls.take i) ++ gT Ls i).length + 1)).productSize = (lnR (Ls.take i) ++ gT Ls i).length + 1 := rfl
    show am_G X mt_M_look _ 77 [some (.ref 84), some (.int 0), some (.int v2), some (.int v3), some (.int v4), some (.int (nI (i + 1))), some (.int (nI ((gT T ka).length))), some (.int v6)] [] (mput A ((S2.s_product (upd S2.product ((lnR (Ls.take i) ++ gT Ls i).length) (vp_nar .byte 10))).s_productSize ((lnR (Ls.take i) ++ gT Ls i).length + 1)) B) _
    generalize ((S2.s_product (upd S2.product ((lnR (Ls.take i) ++ gT Ls i).length) (vp_nar .byte 10))).s_productSize ((lnR (Ls.take i) ++ gT Ls i).length + 1)) = S3 at hma_S3 hk_S3_product hk_S3_productSize ⊢
    refine am_wk (am_le_s (am_le_s (am_le_s (am_le_s (am_le_s (am_le_s (am_le_n (am_le_n am_le_0)))))))) ?_
    have hm3 : mA [3, 4] S S3 := hm2.tr hma_S3
    refine am_G.mono (l77a_M_look hA hok h60 h19 n (i + 1) S3 (by omega) (hT.m hm3 (by decide) (by decide) (by decide) (by decide)) ⟨by rw [hm3.linkCount (by decide)]; exact hlk.1, fun i9 h9 => by rw [hm3.links (by decide)]; exact hlk.2 i9 h9⟩ (by rw [hk_S3_product, tk_s hi, lnR_app]; exact tx_up hx2 rfl rfl) (by rw [hk_S3_productSize, tk_s hi, lnR_app, List.length_append (bs := [10])]; rfl)) (fun r h9 hz => ?_)
    obtain ⟨y1, S4, y2, y3, y4⟩ := hz
    exact ⟨y1, S4, y2, hm3.tr y3, y4⟩
theorem l77b_M_look (hA : A.length = 84) (hbW : ∀ x, x ∈ Wd → btg x) (hw4 : Wd.length ≤ 4000) (how : ∀ i, i < Wd.length → ofs Wd i + (gT Wd i).length ≤ 8000) (h19 : Wd.flatten.length + Wd.length ≤ 19000) : ∀ (n i : Nat) (S : MS), i + n = Wd.length → wdS S Wd → tx S.product 0 (lnR (Wd.take i)) → S.productSize = (lnR (Wd.take i)).length → am_G X mt_M_look (d + 1) 77 [some (.ref 84), some (.int 1), some (.int v2), some (.int v3), some (.int v4), some (.int (nI i)), none, none] [] (mput A S B) (fun r h1 => r = some (.int (nI Wd.length)) ∧ ∃ S1, h1 = mput A S1 B ∧ mA [3, 4] S S1 ∧ prM S1 (lnR Wd))
  | 0, i, S, e, hw, hx, hs => by
    rw [show Wd.take i = Wd from List.take_of_length_le (by omega)] at hx hs
    refine g_iload (pc := 77) dc_M_look_77 rfl ?_
    refine g_iload_n (pc := 79) dc_M_look_79 rfl ?_
    refine g_if_ne (pc := 80) (tgt := 90) dc_M_look_80 rfl (fun _ => ?_) (fun hc => absurd hc (by decide))
    refine g_aload_n (pc := 90) dc_M_look_90 rfl ?_
    refine g_getfield (pc := 91) (v := .int (nI Wd.length)) dc_M_look_91 fl_M_223 (mp_o hA) (congrArg (fun z => some (Value.int (nI z))) hw.1) ?_
    refine q_icmp_ge (pc := 94) (tgt := 229) i Wd.length dc_M_look_94 (by omega) (by omega) rfl (fun hc94 => ?_) (fun hc => absurd hc (by omega))
    refine g_iload_n (pc := 229) dc_M_look_229 rfl ?_
    refine g_if_ne (pc := 230) (tgt := 240) dc_M_look_230 rfl (fun _ => ?_) (fun hc => absurd hc (by decide))
    refine g_aload_n (pc := 240) dc_M_look_240 rfl ?_
    refine g_getfield (pc := 241) (v := .int (nI Wd.length)) dc_M_look_241 fl_M_223 (mp_o hA) (congrArg (fun z => some (Value.int (nI z))) hw.1) ?_
    exact g_ireturn dc_M_look_244 rfl ⟨rfl, S, rfl, mA.rf S, hx, hs, by rw [lnR_len]; omega⟩
  | n + 1, i, S, e, hw, hx, hs => by
    have hi : i < Wd.length := by omega
    have hg : gT Wd i = gT Wd i := rfl
    have how1 := how i hi
    have hlk9 := lnR_tk (T := Wd) hi
    rw [← hg] at hlk9
    refine g_iload (pc := 77) dc_M_look_77 rfl ?_
    refine g_iload_n (pc := 79) dc_M_look_79 rfl ?_
    refine g_if_ne (pc := 80) (tgt := 90) dc_M_look_80 rfl (fun _ => ?_) (fun hc => absurd hc (by decide))
    refine g_aload_n (pc := 90) dc_M_look_90 rfl ?_
    refine g_getfield (pc := 91) (v := .int (nI Wd.length)) dc_M_look_91 fl_M_223 (mp_o hA) (congrArg (fun z => some (Value.int (nI z))) hw.1) ?_
    refine q_icmp_ge (pc := 94) (tgt := 229) i Wd.length dc_M_look_94 (by omega) (by omega) rfl (fun hc => absurd hc (by omega)) (fun hc94 => ?_)
    refine g_iload_n (pc := 97) dc_M_look_97 rfl ?_
    refine g_if_ne (pc := 98) (tgt := 116) dc_M_look_98 rfl (fun _ => ?_) (fun hc => absurd hc (by decide))
    refine g_aload_n (pc := 116) dc_M_look_116 rfl ?_
    refine g_getfield (pc := 117) dc_M_look_117 fl_M_229 (mp_o hA) rfl ?_
    refine g_iload (pc := 120) dc_M_look_120 rfl ?_
    refine q_ialoadV (pc := 122) i dc_M_look_122 (mp_a hA 22 rfl) (by omega) (by omega) (v := (nI ((gT Wd i).length))) (hw.2 i hi).2.1 ?_
    refine g_istore (pc := 123) dc_M_look_123 (by decide) ?_
    show am_G X mt_M_look _ 125 [some (.ref 84), some (.int 1), some (.int v2), some (.int v3), some (.int v4), some (.int (nI i)), some (.int (nI ((gT Wd i).length))), none] [] _ _
    refine g_iconst (pc := 125) (v := 0) dc_M_look_125 rfl ?_
    refine g_istore (pc := 126) dc_M_look_126 (by decide) ?_
    show am_G X mt_M_look _ 128 [some (.ref 84), some (.int 1), some (.int v2), some (.int v3), some (.int v4), some (.int (nI i)), some (.int (nI ((gT Wd i).length))), some (.int 0)] [] _ _
    refine l128b_M_look hA hi hw4 (hbW _ (gT_mem hi)) (how i hi) (gT Wd i).length 0 S (lnR (Wd.take i)) (Nat.zero_add _) hw hx hs (by omega) (fun S2 v6 hm2 hx2 hs2 => ?_)
    rw [List.drop_zero, hg] at hx2 hs2
    have hlp : (lnR (Wd.take i) ++ gT Wd i).length + 1 ≤ 19000 := by rw [List.length_append, ← hg]; omega
    refine g_aload_n (pc := 202) dc_M_look_202 rfl ?_
    refine g_getfield (pc := 203) dc_M_look_203 fl_M_337 (mp_o hA) rfl ?_
    refine g_aload_n (pc := 206) dc_M_look_206 rfl ?_
    refine g_getfield (pc := 207) (v := .int (nI ((lnR (Wd.take i) ++ gT Wd i).length))) dc_M_look_207 fl_M_499 (mp_o hA) (congrArg (fun z => some (Value.int (nI z))) hs2) ?_
    refine g_bipush (pc := 210) (v := 10) dc_M_look_210 rfl ?_
    refine as_product (pc := 212) ((lnR (Wd.take i) ++ gT Wd i).length) hA dc_M_look_212 (by omega) ?_
    refine g_aload_n (pc := 213) dc_M_look_213 rfl ?_
    refine g_dup (pc := 214) dc_M_look_214 rfl ?_
    refine g_getfield (pc := 215) (v := .int (nI ((lnR (Wd.take i) ++ gT Wd i).length))) dc_M_look_215 fl_M_499 (mp_o hA) (congrArg (fun z => some (Value.int (nI z))) hs2) ?_
    refine g_iconst (pc := 218) (v := 1) dc_M_look_218 rfl ?_
    refine g_iadd (pc := 219) (v := (nI ((lnR (Wd.take i) ++ gT Wd i).length + 1))) dc_M_look_219 (nI_add ((lnR (Wd.take i) ++ gT Wd i).length) 1) ?_
    refine pf_productSize (pc := 220) (v := (lnR (Wd.take i) ++ gT Wd i).length + 1) hA dc_M_look_220 fp_M_look_499 ?_
    refine g_iinc (pc := 223) (v := (nI (i + 1))) dc_M_look_223 rfl (nI_add i 1) (by decide) ?_
    show am_G X mt_M_look _ 226 [some (.ref 84), some (.int 1), some (.int v2), some (.int v3), some (.int v4), some (.int (nI (i + 1))), some (.int (nI ((gT Wd i).length))), some (.int v6)] [] _ _
    refine g_goto (pc := 226) (tgt := 77) dc_M_look_226 rfl ?_
    have hma_S3 : mA [3, 4] S2 ((S2.s_product (upd S2.product ((lnR (Wd.take i) ++ gT Wd i).length) (vp_nar .byte 10))).s_productSize ((lnR (Wd.take i) ++ gT Wd i).length + 1)) := (((mA.rf S2).a_product _ (by decide)).a_productSize _ (by decide))
    have hk_S3_product : ((S2.s_product (upd S2.product ((lnR (Wd.take i) ++ gT Wd i).length) (vp_nar .byte 10))).s_productSize ((lnR (Wd.take i) ++ gT Wd i).length + 1)).product = (upd S2.product (lnR (Wd.take i) ++ gT Wd i).length (vp_nar .byte 10)) := rfl
    have hk_S3_productSize : ((S2.s_product (upd S2.product ((lnR (Wd.take i) ++ gT Wd i).length) (vp_nar .byte 10))).s_productSize ((lnR (Wd.take i) ++ gT Wd i).length + 1)).productSize = (lnR (Wd.take i) ++ gT Wd i).length + 1 := rfl
    show am_G X mt_M_look _ 77 [some (.ref 84), some (.int 1), some (.int v2), some (.int v3), some (.int v4), some (.int (nI (i + 1))), some (.int (nI ((gT Wd i).length))), some (.int v6)] [] (mput A ((S2.s_product (upd S2.product ((lnR (Wd.take i) ++ gT Wd i).length) (vp_nar .byte 10))).s_productSize ((lnR (Wd.take i) ++ gT Wd i).length + 1)) B) _
    generalize ((S2.s_product (upd S2.product ((lnR (Wd.take i) ++ gT Wd i).length) (vp_nar .byte 10))).s_productSize ((lnR (Wd.take i) ++ gT Wd i).length + 1)) = S3 at hma_S3 hk_S3_product hk_S3_productSize ⊢
    refine am_wk (am_le_s (am_le_s (am_le_s (am_le_s (am_le_s (am_le_s (am_le_n (am_le_n am_le_0)))))))) ?_
    have hm3 : mA [3, 4] S S3 := hm2.tr hma_S3
    refine am_G.mono (l77b_M_look hA hbW hw4 how h19 n (i + 1) S3 (by omega) ⟨by rw [hm3.wordCount (by decide)]; exact hw.1, by rw [hm3.words (by decide), hm3.wordAt (by decide), hm3.wordLength (by decide)]; exact hw.2⟩ (by rw [hk_S3_product, tk_s hi, lnR_app]; exact tx_up hx2 rfl rfl) (by rw [hk_S3_productSize, tk_s hi, lnR_app, List.length_append (bs := [10])]; rfl)) (fun r h9 hz => ?_)
    obtain ⟨y1, S4, y2, y3, y4⟩ := hz
    exact ⟨y1, S4, y2, hm3.tr y3, y4⟩
end OP7
