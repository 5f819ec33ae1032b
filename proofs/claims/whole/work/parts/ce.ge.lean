/-! ===== the model answers a question ===== -/
abbrev XAs : List Nat := [1, 2, 5, 6, 7, 8, 9, 10, 11, 12, 13, 14, 15, 16, 17, 18, 35, 36, 37, 38, 39, 40, 41, 42, 43, 44, 45, 46, 47, 48, 49, 50, 55, 56, 84, 85, 86, 87, 88, 89]
abbrev XAs0 : List Nat := [5, 6, 7, 8, 9, 10, 11, 12, 13, 14, 15, 16, 17, 18, 35, 36, 37, 38, 39, 40, 41, 42, 43, 44, 45, 46, 47, 48, 49, 50, 55, 56, 84, 85, 86, 87, 88, 89]
section GES
variable {X : am_X} {d n k j i a pn md : Nat} {A B h : List va_E} {S S1 : MS} {T Y U Wd Qs : List (List Int32)} {K : Kn} {L : List Int32} {p : Int32} {Q : Option Value → List va_E → Prop} {qi : Nat} {v2 : Int32}
theorem qsQ_len : (qsQ L).length = Nat.min (spl L 0).length 8 := by
  unfold qsQ
  rw [List.length_take]
  exact Nat.min_eq_left (Nat.min_le_left _ _)
theorem qsQ_g (h : k < (qsQ L).length) : gT (qsQ L) k = gT (spl L 0) k := by
  rw [qsQ_len] at h
  unfold qsQ gT
  rw [List.getD_eq_getElem?_getD, List.getElem?_take_of_lt h, List.getD_eq_getElem?_getD]
theorem l78_M_ask (hA : A.length = 84) (hq8 : qi < 8) (hi : qi < Wd.length) (h8 : Wd.flatten.length ≤ 8000) (hw1 : Wd.length ≤ 4000) (hbt : btg (gT Wd qi)) (h20 : (gT Wd qi).length ≤ 20) : ∀ (n9 t : Nat) (S : MS), t + n9 = (gT Wd qi).length → wdS S Wd → (∀ e, e < t → S.question (20 * qi + e) = gx (gT Wd qi) e) → (∀ S2, mA [87] S S2 → (∀ e, e < 20 * qi → S2.question e = S.question e) → tx S2.question (20 * qi) (gT Wd qi) → am_G X mt_M_ask d 121 [some (.ref 84), some (.int (nI md)), none, some (.int (nI qi)), none] [] (mput A S2 B) Q) → am_G X mt_M_ask d 78 [some (.ref 84), some (.int (nI md)), none, some (.int (nI qi)), some (.int (nI t))] [] (mput A S B) Q
  | 0, t, S, e9, hW, hz, KK => by
    have hwx := hW.2 qi hi
    have hof := wd_of hW.2 h8 hi
    refine g_iload (pc := 78) dc_M_ask_78 rfl ?_
    refine g_aload_n (pc := 80) dc_M_ask_80 rfl ?_
    refine g_getfield (pc := 81) dc_M_ask_81 fl_M_229 (mp_o hA) rfl ?_
    refine g_iload_n (pc := 84) dc_M_ask_84 rfl ?_
    refine q_ialoadV (pc := 85) qi dc_M_ask_85 (mp_a hA 22 rfl) (by omega) (by omega) (v := (nI ((gT Wd qi).length))) hwx.2.1 ?_
    refine q_icmp_ge (pc := 86) (tgt := 121) t ((gT Wd qi).length) dc_M_ask_86 (by omega) (by omega) rfl (fun hc86 => ?_) (fun hc => absurd hc (by omega))
    refine am_wk (am_le_s (am_le_s (am_le_n (am_le_s (am_le_n am_le_0))))) ?_
    exact KK S (mA.rf S) (fun _ _ => rfl) (fun e he => hz e (by omega))
  | n9 + 1, t, S, e9, hW, hz, KK => by
    have hwx := hW.2 qi hi
    have hof := wd_of hW.2 h8 hi
    refine g_iload (pc := 78) dc_M_ask_78 rfl ?_
    refine g_aload_n (pc := 80) dc_M_ask_80 rfl ?_
    refine g_getfield (pc := 81) dc_M_ask_81 fl_M_229 (mp_o hA) rfl ?_
    refine g_iload_n (pc := 84) dc_M_ask_84 rfl ?_
    refine q_ialoadV (pc := 85) qi dc_M_ask_85 (mp_a hA 22 rfl) (by omega) (by omega) (v := (nI ((gT Wd qi).length))) hwx.2.1 ?_
    refine q_icmp_ge (pc := 86) (tgt := 121) t ((gT Wd qi).length) dc_M_ask_86 (by omega) (by omega) rfl (fun hc => absurd hc (by omega)) (fun hc86 => ?_)
    refine g_aload_n (pc := 89) dc_M_ask_89 rfl ?_
    refine g_getfield (pc := 90) dc_M_ask_90 fl_M_406 (mp_o hA) rfl ?_
    refine g_bipush (pc := 93) (v := 20) dc_M_ask_93 rfl ?_
    refine g_iload_n (pc := 95) dc_M_ask_95 rfl ?_
    refine g_imul (pc := 96) (v := (nI (20 * qi))) dc_M_ask_96 (pk_mul 20 qi) ?_
    refine g_iload (pc := 97) dc_M_ask_97 rfl ?_
    refine g_iadd (pc := 99) (v := (nI (20 * qi + t))) dc_M_ask_99 (nI_add (20 * qi) t) ?_
    refine g_aload_n (pc := 100) dc_M_ask_100 rfl ?_
    refine g_getfield (pc := 101) dc_M_ask_101 fl_M_232 (mp_o hA) rfl ?_
    refine g_aload_n (pc := 104) dc_M_ask_104 rfl ?_
    refine g_getfield (pc := 105) dc_M_ask_105 fl_M_226 (mp_o hA) rfl ?_
    refine g_iload_n (pc := 108) dc_M_ask_108 rfl ?_
    refine q_ialoadV (pc := 109) qi dc_M_ask_109 (mp_a hA 21 rfl) (by omega) (by omega) (v := (nI (ofs Wd qi))) hwx.1 ?_
    refine g_iload (pc := 110) dc_M_ask_110 rfl ?_
    refine g_iadd (pc := 112) (v := (nI (ofs Wd qi + t))) dc_M_ask_112 (nI_add (ofs Wd qi) t) ?_
    refine q_baloadV (pc := 113) (ofs Wd qi + t) dc_M_ask_113 (mp_a hA 20 rfl) (by omega) (by omega) (v := (gx (gT Wd qi) t)) (hwx.2.2 t (by omega)) ?_
    refine asE_question (pc := 114) (20 * qi + t) (g := upd S.question (20 * qi + t) (gx (gT Wd qi) t)) hA dc_M_ask_114 (by omega) (congrArg (upd S.question (20 * qi + t)) (nar_bt (hbt t))) ?_
    refine g_iinc (pc := 115) (v := (nI (t + 1))) dc_M_ask_115 rfl (nI_add t 1) (by decide) ?_
    show am_G X mt_M_ask _ 118 [some (.ref 84), some (.int (nI md)), none, some (.int (nI qi)), some (.int (nI (t + 1)))] [] _ _
    refine g_goto (pc := 118) (tgt := 78) dc_M_ask_118 rfl ?_
    have hm1 : mA [87] S (S.s_question (upd S.question (20 * qi + t) (gx (gT Wd qi) t))) := (mA.rf S).a_question _ (by decide)
    refine l78_M_ask hA hq8 hi h8 hw1 hbt h20 n9 (t + 1) _ (by omega) hW (fun e he => ?_) (fun S2 e2 z1 z2 => KK S2 (hm1.tr e2) (fun e he => (z1 e he).trans ?_) z2)
    · show upd S.question (20 * qi + t) (gx (gT Wd qi) t) (20 * qi + e) = gx (gT Wd qi) e
      by_cases q9 : e = t
      · rw [q9, upd_s]
      · rw [upd_n (by omega)]; exact hz e (by omega)
    · show upd S.question (20 * qi + t) (gx (gT Wd qi) t) e = _
      exact upd_n (by omega)
theorem l55_M_ask (hA : A.length = 84) (hq8 : Qs.length ≤ 8) (hqw : Qs.length ≤ Wd.length) (hqg : ∀ q, q < Qs.length → gT Wd q = gT Qs q) (h8 : Wd.flatten.length ≤ 8000) (hw1 : Wd.length ≤ 4000) (hbt : ∀ y, y ∈ Wd → btg y) (h20 : ∀ y, y ∈ Wd → y.length ≤ 20) : ∀ (n9 qi : Nat) (S : MS), qi + n9 = Qs.length → S.questionCount = Qs.length → wdS S Wd → (∀ q, q < qi → S.questionLength q = nI (gT Qs q).length ∧ tx S.question (20 * q) (gT Qs q)) → (∀ S2, mA [87, 88] S S2 → quM S2 Qs → am_G X mt_M_ask d 127 [some (.ref 84), some (.int (nI md)), none, none, none] [] (mput A S2 B) Q) → am_G X mt_M_ask d 55 [some (.ref 84), some (.int (nI md)), none, some (.int (nI qi)), none] [] (mput A S B) Q
  | 0, qi, S, e9, hc, hW, hz, KK => by
    refine g_iload_n (pc := 55) dc_M_ask_55 rfl ?_
    refine g_aload_n (pc := 56) dc_M_ask_56 rfl ?_
    refine g_getfield (pc := 57) (v := .int (nI Qs.length)) dc_M_ask_57 fl_M_487 (mp_o hA) (congrArg (fun z => some (Value.int (nI z))) hc) ?_
    refine q_icmp_ge (pc := 60) (tgt := 127) qi Qs.length dc_M_ask_60 (by omega) (by omega) rfl (fun hc60 => ?_) (fun hc => absurd hc (by omega))
    refine am_wk (am_le_s (am_le_s (am_le_n (am_le_n (am_le_n am_le_0))))) ?_
    exact KK S (mA.rf S) ⟨hc, fun q hq => hz q (by omega)⟩
  | n9 + 1, qi, S, e9, hc, hW, hz, KK => by
    have hi : qi < Wd.length := by omega
    have hwx := hW.2 qi hi
    have hge := hqg qi (by omega)
    refine g_iload_n (pc := 55) dc_M_ask_55 rfl ?_
    refine g_aload_n (pc := 56) dc_M_ask_56 rfl ?_
    refine g_getfield (pc := 57) (v := .int (nI Qs.length)) dc_M_ask_57 fl_M_487 (mp_o hA) (congrArg (fun z => some (Value.int (nI z))) hc) ?_
    refine q_icmp_ge (pc := 60) (tgt := 127) qi Qs.length dc_M_ask_60 (by omega) (by omega) rfl (fun hc => absurd hc (by omega)) (fun hc60 => ?_)
    refine g_aload_n (pc := 63) dc_M_ask_63 rfl ?_
    refine g_getfield (pc := 64) dc_M_ask_64 fl_M_409 (mp_o hA) rfl ?_
    refine g_iload_n (pc := 67) dc_M_ask_67 rfl ?_
    refine g_aload_n (pc := 68) dc_M_ask_68 rfl ?_
    refine g_getfield (pc := 69) dc_M_ask_69 fl_M_229 (mp_o hA) rfl ?_
    refine g_iload_n (pc := 72) dc_M_ask_72 rfl ?_
    refine q_ialoadV (pc := 73) qi dc_M_ask_73 (mp_a hA 22 rfl) (by omega) (by omega) (v := (nI ((gT Wd qi).length))) hwx.2.1 ?_
    refine as_questionLength (pc := 74) qi hA dc_M_ask_74 (by omega) ?_
    refine g_iconst (pc := 75) (v := 0) dc_M_ask_75 rfl ?_
    refine g_istore (pc := 76) dc_M_ask_76 (by decide) ?_
    show am_G X mt_M_ask _ 78 [some (.ref 84), some (.int (nI md)), none, some (.int (nI qi)), some (.int 0)] [] _ _
    have hm1 : mA [88] S (S.s_questionLength (upd S.questionLength qi (nI ((gT Wd qi).length)))) := (mA.rf S).a_questionLength _ (by decide)
    refine l78_M_ask hA (by omega) hi h8 hw1 (hbt _ (gT_mem hi)) (h20 _ (gT_mem hi)) (gT Wd qi).length 0 _ (Nat.zero_add _) hW (fun e he => absurd he (Nat.not_lt_zero e)) (fun S2 e2 z1 z2 => ?_)
    have hm2 : mA [87, 88] S S2 := (hm1.mo (by decide)).tr (e2.mo (by decide))
    have hz2 : ∀ q, q < qi + 1 → S2.questionLength q = nI (gT Qs q).length ∧ tx S2.question (20 * q) (gT Qs q) := fun q hq => by
      rw [e2.questionLength (by decide)]
      show upd S.questionLength qi (nI (gT Wd qi).length) q = _ ∧ _
      by_cases q9 : q = qi
      · rw [q9, upd_s, ← hge]; exact ⟨rfl, z2⟩
      · rw [upd_n q9]
        have h9 := hz q (by omega)
        refine ⟨h9.1, fun e he => ?_⟩
        have h20q := h20 _ (gT_mem (show q < Wd.length by omega))
        rw [hqg q (by omega)] at h20q
        rw [z1 _ (by omega)]
        exact h9.2 e he
    have hW2 : wdS S2 Wd := ⟨(e2.wordCount (by decide)).trans hW.1, by rw [e2.words (by decide), e2.wordAt (by decide), e2.wordLength (by decide)]; exact hW.2⟩
    have hc2 := (e2.questionCount (by decide)).trans hc
    refine g_iinc (pc := 121) (v := (nI (qi + 1))) dc_M_ask_121 rfl (nI_add qi 1) (by decide) ?_
    show am_G X mt_M_ask _ 124 [some (.ref 84), some (.int (nI md)), none, some (.int (nI (qi + 1))), none] [] _ _
    refine g_goto (pc := 124) (tgt := 55) dc_M_ask_124 rfl ?_
    exact l55_M_ask hA hq8 hqw hqg h8 hw1 hbt h20 n9 (qi + 1) S2 (by omega) hc2 hW2 hz2 (fun S3 e3 z3 => KK S3 (hm2.tr e3) z3)
theorem l134_M_ask (hA : A.length = 84) (hUl : U.length < 3500) (hY : yOK Y) (hw : wfK K) (hgU : ∀ i, i ∈ dcs K → pgU U (gT K.ad i) (K.tx i)) (hmd : md ≤ 2) (hq8 : Qs.length ≤ 8) (hq20 : ∀ y, y ∈ Qs → y.length ≤ 20) : ∀ (n9 j : Nat) (S : MS) (T : List (List Int32)), j + n9 = (dcs K).length → tbM S T Y U → dcM S T Y K pn → quM S Qs → hitM S (ansQ K pn md Qs j) → am_G X mt_M_ask (d + 9) 134 [some (.ref 84), some (.int (nI md)), none, some (.int (nI j)), none] [] (mput A S B) (fun r h1 => r = some (.int (nI (ansQ K pn md Qs (dcs K).length).length)) ∧ ∃ S1 T1, h1 = mput A S1 B ∧ mA XAs0 S S1 ∧ tbM S1 T1 Y U ∧ T <+: T1 ∧ dcM S1 T1 Y K pn ∧ hitM S1 (ansQ K pn md Qs (dcs K).length))
  | 0, j, S, T, e9, hM, hX, hU, hH => by
    have h250 := dcs_250 hw
    have ej : j = (dcs K).length := by omega
    rw [ej] at hH
    refine g_iload_n (pc := 134) dc_M_ask_134 rfl ?_
    refine g_aload_n (pc := 135) dc_M_ask_135 rfl ?_
    refine g_getfield (pc := 136) (v := .int (nI ((dcs K).length))) dc_M_ask_136 fl_M_467 (mp_o hA) (congrArg (fun z => some (Value.int (nI z))) hX.1) ?_
    refine q_icmp_ge (pc := 139) (tgt := 207) j ((dcs K).length) dc_M_ask_139 (by omega) (by omega) rfl (fun hc139 => ?_) (fun hc => absurd hc (by omega))
    refine g_aload_n (pc := 207) dc_M_ask_207 rfl ?_
    refine g_getfield (pc := 208) (v := .int (nI ((ansQ K pn md Qs (dcs K).length).length))) dc_M_ask_208 fl_M_547 (mp_o hA) (congrArg (fun z => some (Value.int (nI z))) hH.1) ?_
    exact g_ireturn dc_M_ask_211 rfl ⟨rfl, S, T, rfl, mA.rf S, hM, List.prefix_refl T, hX, hH⟩
  | n9 + 1, j, S, T, e9, hM, hX, hU, hH => by
    have h250 := dcs_250 hw
    have hj : j < (dcs K).length := by omega
    obtain ⟨⟨ka, ka1, ka2, ka3⟩, ⟨y0, u1, u2, u3⟩, -, -, -, hrk9⟩ := hX.2.1 j hj
    have hyy := hY.2 y0 u1
    have hY1 := hY.1
    have hrow := hM.2.2.2.2.2.1 y0 u1
    have hos := ofs_s (T := Y) u1
    have hbt : btg (gT Y y0) := hM.2.2.2.2.2.2 y0 u1
    have h3500 := tb_lt hM hUl
    have hpU := hgU _ (gN_mem hj)
    rw [u3] at hos
    have ht1 : S.textAt y0 = nI (ofs Y y0) := hrow.1
    have ht2 : S.textEnd y0 = nI (ofs Y y0 + (K.tx (gN (dcs K) j)).length) := hrow.2.1.trans (congrArg nI hos)
    have htx : tx S.texts (ofs Y y0) (K.tx (gN (dcs K) j)) := by rw [← u3]; exact hrow.2.2
    have hT8 : (K.tx (gN (dcs K) j)).length ≤ 7999 := by rw [← u3]; exact hyy.2
    have hlen := ansQ_len (K := K) (pn := pn) (mode := md) (Qs := Qs) j
    have hT8a : ∀ i, i ∈ dcs K → (K.tx i).length ≤ 7999 := fun i hi => by
      obtain ⟨j9, j1, j2⟩ := mem_gN hi
      obtain ⟨-, ⟨y9, v1, v2, v3⟩, -⟩ := hX.2.1 j9 j1
      rw [← j2, ← v3]
      exact (hY.2 y9 v1).2
    have hsc := ansQ_s (pn := pn) (mode := md) (Qs := Qs) hw hT8a j (by omega)
    have hcle := cntQ_le (mode := md) (Wd := (pgW (K.tx (gN (dcs K) j)))) (Qs := Qs)
    have hpw := pgW_cnt (L := (K.tx (gN (dcs K) j)))
    have hrk : rkS (ldd K) (dcs K).length pn j ≤ 1000000 := rkS_le (fun a _ => ⟨(ldd_inv hw).1, fun x hx => ((ldd_inv hw).2.1 x hx).1⟩) hj
    have hxs : cntQ md (pgW (K.tx (gN (dcs K) j))) Qs * rkS (ldd K) (dcs K).length pn j ≤ 8000000000 := Nat.le_trans (Nat.mul_le_mul (show cntQ md (pgW (K.tx (gN (dcs K) j))) Qs ≤ 8000 by omega) hrk) (by decide)
    refine g_iload_n (pc := 134) dc_M_ask_134 rfl ?_
    refine g_aload_n (pc := 135) dc_M_ask_135 rfl ?_
    refine g_getfield (pc := 136) (v := .int (nI ((dcs K).length))) dc_M_ask_136 fl_M_467 (mp_o hA) (congrArg (fun z => some (Value.int (nI z))) hX.1) ?_
    refine q_icmp_ge (pc := 139) (tgt := 207) j ((dcs K).length) dc_M_ask_139 (by omega) (by omega) rfl (fun hc => absurd hc (by omega)) (fun hc139 => ?_)
    refine g_aload_n (pc := 142) dc_M_ask_142 rfl ?_
    refine g_aload_n (pc := 143) dc_M_ask_143 rfl ?_
    refine g_getfield (pc := 144) dc_M_ask_144 fl_M_131 (mp_o hA) rfl ?_
    refine g_aload_n (pc := 147) dc_M_ask_147 rfl ?_
    refine g_getfield (pc := 148) dc_M_ask_148 fl_M_377 (mp_o hA) rfl ?_
    refine g_iload_n (pc := 151) dc_M_ask_151 rfl ?_
    refine q_ialoadV (pc := 152) j dc_M_ask_152 (mp_a hA 40 rfl) (by omega) (by omega) (v := (nI y0)) u2 ?_
    refine q_ialoadV (pc := 153) y0 dc_M_ask_153 (mp_a hA 13 rfl) (by omega) (by omega) (v := (nI (ofs Y y0))) ht1 ?_
    refine g_aload_n (pc := 154) dc_M_ask_154 rfl ?_
    refine g_getfield (pc := 155) dc_M_ask_155 fl_M_146 (mp_o hA) rfl ?_
    refine g_aload_n (pc := 158) dc_M_ask_158 rfl ?_
    refine g_getfield (pc := 159) dc_M_ask_159 fl_M_377 (mp_o hA) rfl ?_
    refine g_iload_n (pc := 162) dc_M_ask_162 rfl ?_
    refine q_ialoadV (pc := 163) j dc_M_ask_163 (mp_a hA 40 rfl) (by omega) (by omega) (v := (nI y0)) u2 ?_
    refine q_ialoadV (pc := 164) y0 dc_M_ask_164 (mp_a hA 14 rfl) (by omega) (by omega) (v := (nI (ofs Y y0 + (K.tx (gN (dcs K) j)).length))) ht2 ?_
    refine g_aload_n (pc := 165) dc_M_ask_165 rfl ?_
    refine g_getfield (pc := 166) dc_M_ask_166 fl_M_374 (mp_o hA) rfl ?_
    refine g_iload_n (pc := 169) dc_M_ask_169 rfl ?_
    refine q_ialoadV (pc := 170) j dc_M_ask_170 (mp_a hA 39 rfl) (by omega) (by omega) (v := (nI ka)) ka2 ?_
    refine g_v3 (pc := 171) (M' := mt_M_readPage) dc_M_ask_171 mo_M_readPage im_M_readPage se_M_readPage ln_M_318 (mp_o hA) rfl rfl (Nat.le_of_ble_eq_true rfl) (Nat.le_of_ble_eq_true rfl) (am_G.mono (c_M_readPage (d := d) (L := (K.tx (gN (dcs K) j))) (D := (gT K.ad (gN (dcs K) j))) (s := ofs Y y0) (ka := ka) (T := T) (U := U) hA (by rw [← u3]; exact hbt) hT8 (by omega) hUl htx hM.1 hM.2.1 ⟨ka1, ka3⟩ hM.2.2.1 hpU.1) ?_)
    intro r h9 hz
    obtain ⟨x1, S2, T1, x2, x3, x4, x5, x6⟩ := hz
    rw [x1, x2]
    clear x1 x2 h9 r
    have hm2 : mA [5, 6, 7, 8, 9, 10, 11, 12, 13, 14, 15, 16, 17, 18, 35, 36, 37, 38, 39, 40, 41, 42, 43, 44, 45, 46, 47, 48, 49, 50, 55, 56] S S2 := x3.lk.m
    have hM2 : tbM S2 T1 Y U := ⟨x4.1, x4.2.1, x6, hM.2.2.2.m hm2 (by decide) (by decide) (by decide) (by decide) (by decide)⟩
    have hX2 := (hX.m hm2 (by decide)).pre x5 (List.prefix_refl Y)
    have hU2 := hU.m hm2 (by decide) (by decide) (by decide)
    have hH2 := hH.m hm2 (by decide) (by decide) (by decide)
    have hr2 : S2.ranks j = lN (rkS (ldd K) (dcs K).length pn j) := by rw [hm2.ranks (by decide)]; exact hrk9
    refine ⟨am_nt0, ?_⟩
    refine g_aload_n (pc := 174) dc_M_ask_174 rfl ?_
    refine g_iload_n (pc := 175) dc_M_ask_175 rfl ?_
    refine g_v1 (pc := 176) (M' := mt_M_countOf) dc_M_ask_176 mo_M_countOf im_M_countOf se_M_countOf ln_M_556 (mp_o hA) rfl rfl (Nat.le_of_ble_eq_true rfl) (Nat.le_of_ble_eq_true rfl) (am_G.mono (c_M_countOf (d := d + 7) (md := md) (Wd := (pgW (K.tx (gN (dcs K) j)))) (Qs := Qs) hA x4.2.2.2.1 hU2 (by omega) (by omega) hq8 hq20 hmd) ?_)
    intro r h1 hq
    rw [hq.1, hq.2]
    clear hq h1 r
    refine ⟨am_nti _, ?_⟩
    refine g_istore (pc := 179) dc_M_ask_179 (by decide) ?_
    show am_G X mt_M_ask _ 181 [some (.ref 84), some (.int (nI md)), none, some (.int (nI j)), some (.int (nI (cntQ md (pgW (K.tx (gN (dcs K) j))) Qs)))] [] _ _
    refine g_iload (pc := 181) dc_M_ask_181 rfl ?_
    refine q_if_le (pc := 183) (tgt := 201) (cntQ md (pgW (K.tx (gN (dcs K) j))) Qs) dc_M_ask_183 (by omega) rfl (fun hc183 => ?_) (fun hc183 => ?_)
    · refine g_iinc (pc := 201) (v := (nI (j + 1))) dc_M_ask_201 rfl (nI_add j 1) (by decide) ?_
      show am_G X mt_M_ask _ 204 [some (.ref 84), some (.int (nI md)), none, some (.int (nI (j + 1))), some (.int (nI (cntQ md (pgW (K.tx (gN (dcs K) j))) Qs)))] [] _ _
      refine g_goto (pc := 204) (tgt := 134) dc_M_ask_204 rfl ?_
      refine am_wk (am_le_s (am_le_s (am_le_n (am_le_s (am_le_n am_le_0))))) ?_
      have ea : ansQ K pn md Qs (j + 1) = ansQ K pn md Qs j := if_neg (by omega)
      have hm3 : mA XAs0 S S2 := hm2.mo (by decide)
      refine am_G.mono (l134_M_ask hA hUl hY hw hgU hmd hq8 hq20 n9 (j + 1) S2 T1 (by omega) hM2 hX2 hU2 (by rw [ea]; exact hH2)) (fun r h9 hz => ?_)
      obtain ⟨z1, S5, T5, z2, z3, z4, z5, z6⟩ := hz
      exact ⟨z1, S5, T5, z2, hm3.tr z3, z4, x5.trans z5, z6⟩
    · refine g_aload_n (pc := 186) dc_M_ask_186 rfl ?_
      refine g_iload_n (pc := 187) dc_M_ask_187 rfl ?_
      refine g_iload (pc := 188) dc_M_ask_188 rfl ?_
      refine g_i2l (pc := 190) dc_M_ask_190 (nI_l (n := cntQ md (pgW (K.tx (gN (dcs K) j))) Qs) (by omega)) ?_
      refine g_aload_n (pc := 191) dc_M_ask_191 rfl ?_
      refine g_getfield (pc := 192) dc_M_ask_192 fl_M_389 (mp_o hA) rfl ?_
      refine g_iload_n (pc := 195) dc_M_ask_195 rfl ?_
      refine q_laloadV (pc := 196) j dc_M_ask_196 (mp_a hA 44 rfl) (by omega) (by omega) (v :=  (lN (rkS (ldd K) (dcs K).length pn j))) hr2 ?_
      refine g_lmul (pc := 197) dc_M_ask_197 (lN_mul _ _) ?_
      refine g_v2 (pc := 198) (M' := mt_M_place) dc_M_ask_198 mo_M_place im_M_place se_M_place ln_M_559 (mp_o hA) rfl rfl (Nat.le_of_ble_eq_true rfl) (Nat.le_of_ble_eq_true rfl) (am_G.mono (c_M_place (d := d + 8) (x := (j, cntQ md (pgW (K.tx (gN (dcs K) j))) Qs * rkS (ldd K) (dcs K).length pn j)) hA (by omega) hxs (fun y hy => (hsc y hy).2) hH2) ?_)
      intro r h9 hz
      obtain ⟨y1, S3, y2, y3, y4⟩ := hz
      rw [y1, y2]
      clear y1 y2 h9 r
      have ea : ansQ K pn md Qs (j + 1) = insH (ansQ K pn md Qs j) (j, cntQ md (pgW (K.tx (gN (dcs K) j))) Qs * rkS (ldd K) (dcs K).length pn j) := if_pos (by omega)
      rw [← ea] at y4
      refine ⟨am_nt0, ?_⟩
      refine g_iinc (pc := 201) (v := (nI (j + 1))) dc_M_ask_201 rfl (nI_add j 1) (by decide) ?_
      show am_G X mt_M_ask _ 204 [some (.ref 84), some (.int (nI md)), none, some (.int (nI (j + 1))), some (.int (nI (cntQ md (pgW (K.tx (gN (dcs K) j))) Qs)))] [] _ _
      refine g_goto (pc := 204) (tgt := 134) dc_M_ask_204 rfl ?_
      refine am_wk (am_le_s (am_le_s (am_le_n (am_le_s (am_le_n am_le_0))))) ?_
      have hM3 : tbM S3 T1 Y U := ⟨hM2.1.m y3 (by decide) (by decide) (by decide) (by decide), hM2.2.1, hM2.2.2.1, hM2.2.2.2.m y3 (by decide) (by decide) (by decide) (by decide) (by decide)⟩
      have hm3 : mA XAs0 S S3 := (hm2.mo (by decide)).tr (y3.mo (by decide))
      refine am_G.mono (l134_M_ask hA hUl hY hw hgU hmd hq8 hq20 n9 (j + 1) S3 T1 (by omega) hM3 (hX2.m y3 (by decide)) (hU2.m y3 (by decide) (by decide) (by decide)) y4) (fun r h9 hz => ?_)
      obtain ⟨z1, S5, T5, z2, z3, z4, z5, z6⟩ := hz
      exact ⟨z1, S5, T5, z2, hm3.tr z3, z4, x5.trans z5, z6⟩
theorem t53_M_ask (hA : A.length = 84) (hUl : U.length < 3500) (hY : yOK Y) (hw : wfK K) (hgU : ∀ i, i ∈ dcs K → pgU U (gT K.ad i) (K.tx i)) (hmd : md ≤ 2) (hL8 : L.length ≤ 8000) (hbL : btg L) (hM : tbM S T Y U) (hX : dcM S T Y K pn) (hW : wdS S (spl L 0)) (hc : S.questionCount = (qsQ L).length) : am_G X mt_M_ask (d + 9) 53 [some (.ref 84), some (.int (nI md)), some (.int v2), none, none] [] (mput A S B) (fun r h1 => r = some (.int (nI (ansQ K pn md (qsQ L) (dcs K).length).length)) ∧ ∃ S1 T1, h1 = mput A S1 B ∧ mA XAs0 S S1 ∧ tbM S1 T1 Y U ∧ T <+: T1 ∧ dcM S1 T1 Y K pn ∧ hitM S1 (ansQ K pn md (qsQ L) (dcs K).length)) := by
  have hsl := spl_len (M := L) L.length 0 (Nat.le_refl _) (Nat.zero_le _)
  have hfl := spl_fl L
  have hql := qsQ_len (L := L)
  have hqm : Nat.min (spl L 0).length 8 ≤ (spl L 0).length := Nat.min_le_left _ _
  have h20 : ∀ y, y ∈ spl L 0 → y.length ≤ 20 := spl_20 L.length 0 (Nat.le_refl _)
  refine g_iconst (pc := 53) (v := 0) dc_M_ask_53 rfl ?_
  refine g_istore_n (pc := 54) dc_M_ask_54 (by decide) ?_
  show am_G X mt_M_ask _ 55 [some (.ref 84), some (.int (nI md)), some (.int v2), some (.int 0), none] [] _ _
  refine am_wk (am_le_s (am_le_s (am_le_n (am_le_s (am_le_n am_le_0))))) ?_
  refine l55_M_ask (Qs := qsQ L) (Wd := spl L 0) hA qsQ_8 (by omega) (fun q hq => (qsQ_g hq).symm) (by omega) (by omega) (spl_bt hbL L.length 0 (Nat.le_refl _)) h20 (qsQ L).length 0 S (Nat.zero_add _) hc hW (fun q hq => absurd hq (Nat.not_lt_zero q)) (fun S2 e2 z2 => ?_)
  refine g_aload_n (pc := 127) dc_M_ask_127 rfl ?_
  refine g_iconst (pc := 128) (v := 0) dc_M_ask_128 rfl ?_
  refine pf_hits (pc := 129) (v := 0) hA dc_M_ask_129 fp_M_ask_547 ?_
  refine g_iconst (pc := 132) (v := 0) dc_M_ask_132 rfl ?_
  refine g_istore_n (pc := 133) dc_M_ask_133 (by decide) ?_
  show am_G X mt_M_ask _ 134 [some (.ref 84), some (.int (nI md)), none, some (.int 0), none] [] _ _
  have hm9 : mA [84, 87, 88] S (S2.s_hits 0) := (e2.mo (by decide)).a_hits _ (by decide)
  have hx9 : mA [84] S2 (S2.s_hits 0) := (mA.rf S2).a_hits _ (by decide)
  have hM9 : tbM (S2.s_hits 0) T Y U := ⟨hM.1.m hm9 (by decide) (by decide) (by decide) (by decide), hM.2.1, hM.2.2.1, hM.2.2.2.m hm9 (by decide) (by decide) (by decide) (by decide) (by decide)⟩
  refine am_G.mono (l134_M_ask hA hUl hY hw hgU hmd qsQ_8 (fun y hy => h20 y (qsQ_sub hy)) (dcs K).length 0 _ T (Nat.zero_add _) hM9 (hX.m hm9 (by decide)) (z2.m hx9 (by decide) (by decide) (by decide)) ⟨rfl, fun j hj => absurd hj (Nat.not_lt_zero j)⟩) (fun r h9 hz => ?_)
  obtain ⟨z1, S5, T5, z2, z3, z4, z5, z6⟩ := hz
  exact ⟨z1, S5, T5, z2, (hm9.mo (by decide)).tr z3, z4, z5, z6⟩
theorem n_M_ask (hA : A.length = 84) (hL : tpM S L) (e : ixo p 3 = none) : am_C X mt_M_ask (d + 9) [.ref 84, .int p] (mput A S B) (fun r h1 => r = some (.int (-1)) ∧ ∃ S1, h1 = mput A S1 B ∧ mA [1, 2] S S1 ∧ tpM S1 []) := by
  show am_G X mt_M_ask (d + 9) 0 [some (.ref 84), some (.int p), none, none, none] [] (mput A S B) _
  have hout := ixo_t e
  have hL8 := hL.2.2.1
  refine g_aload_n (pc := 0) dc_M_ask_0 rfl ?_
  refine g_v0 (pc := 1) (M' := mt_M_use) dc_M_ask_1 mo_M_use im_M_use se_M_use ln_M_505 (mp_o hA) rfl rfl (Nat.le_of_ble_eq_true rfl) (Nat.le_of_ble_eq_true rfl) (am_G.mono (c_M_use (d := d + 8) hA hL) ?_)
  intro r h9 hz
  obtain ⟨q1, S1, q2, q3, q4, q5⟩ := hz
  rw [q1, q2]
  clear q1 q2 h9 r
  refine ⟨am_nti _, ?_⟩
  refine g_istore_n (pc := 4) dc_M_ask_4 (by decide) ?_
  show am_G X mt_M_ask _ 5 [some (.ref 84), some (.int p), some (.int (nI L.length)), none, none] [] _ _
  refine g_iload_n (pc := 5) dc_M_ask_5 rfl ?_
  refine g_if_lt (pc := 6) (tgt := 14) dc_M_ask_6 rfl (fun hc6 => ?_) (fun hc6 => ?_)
  · have hi6 : (p).toInt < (0 : Int) := Int32.lt_iff_toInt_lt.mp hc6
    refine g_iconst (pc := 14) (v := (-1)) dc_M_ask_14 rfl ?_
    exact g_ireturn dc_M_ask_15 rfl ⟨rfl, S1, rfl, q3, q5⟩
  · have hi6 : ¬ ((p).toInt < (0 : Int)) := fun h9 => hc6 (Int32.lt_iff_toInt_lt.mpr h9)
    refine g_iload_n (pc := 9) dc_M_ask_9 rfl ?_
    refine g_iconst (pc := 10) (v := 2) dc_M_ask_10 rfl ?_
    refine g_icmp_le (pc := 11) (tgt := 16) dc_M_ask_11 rfl (fun hc => absurd hc (fun h9 => by have h8 := Int32.le_iff_toInt_le.mp h9; have h5 : (2 : Int32).toInt = 2 := rfl; omega)) (fun hc11 => ?_)
    refine g_iconst (pc := 14) (v := (-1)) dc_M_ask_14 rfl ?_
    exact g_ireturn dc_M_ask_15 rfl ⟨rfl, S1, rfl, q3, q5⟩
theorem w_M_ask (hA : A.length = 84) (hUl : U.length < 3500) (hY : yOK Y) (hw : wfK K) (hgU : ∀ i, i ∈ dcs K → pgU U (gT K.ad i) (K.tx i)) (hmd : md < 3) (hL : tpM S L) (hM : tbM S T Y U) (hX : dcM S T Y K pn) : am_C X mt_M_ask (d + 9) [.ref 84, .int (nI md)] (mput A S B) (fun r h1 => r = some (.int (nI (ansQ K pn md (qsQ L) (dcs K).length).length)) ∧ ∃ S1 T1, h1 = mput A S1 B ∧ mA XAs S S1 ∧ tbM S1 T1 Y U ∧ T <+: T1 ∧ tpM S1 [] ∧ dcM S1 T1 Y K pn ∧ hitM S1 (ansQ K pn md (qsQ L) (dcs K).length)) := by
  show am_G X mt_M_ask (d + 9) 0 [some (.ref 84), some (.int (nI md)), none, none, none] [] (mput A S B) _
  have hL8 := hL.2.2.1
  have hbL := hL.2.2.2
  have hsl := spl_len (M := L) L.length 0 (Nat.le_refl _) (Nat.zero_le _)
  refine g_aload_n (pc := 0) dc_M_ask_0 rfl ?_
  refine g_v0 (pc := 1) (M' := mt_M_use) dc_M_ask_1 mo_M_use im_M_use se_M_use ln_M_505 (mp_o hA) rfl rfl (Nat.le_of_ble_eq_true rfl) (Nat.le_of_ble_eq_true rfl) (am_G.mono (c_M_use (d := d + 8) hA hL) ?_)
  intro r h9 hz
  obtain ⟨q1, S1, q2, q3, q4, q5⟩ := hz
  rw [q1, q2]
  clear q1 q2 h9 r
  have hM1 : tbM S1 T Y U := ⟨hM.1.m q3 (by decide) (by decide) (by decide) (by decide), hM.2.1, hM.2.2.1, hM.2.2.2.m q3 (by decide) (by decide) (by decide) (by decide) (by decide)⟩
  have hX1 := hX.m q3 (by decide)
  refine ⟨am_nti _, ?_⟩
  refine g_istore_n (pc := 4) dc_M_ask_4 (by decide) ?_
  show am_G X mt_M_ask _ 5 [some (.ref 84), some (.int (nI md)), some (.int (nI L.length)), none, none] [] _ _
  refine g_iload_n (pc := 5) dc_M_ask_5 rfl ?_
  refine q_if_lt (pc := 6) (tgt := 14) md dc_M_ask_6 (by omega) rfl ?_
  refine g_iload_n (pc := 9) dc_M_ask_9 rfl ?_
  refine g_iconst (pc := 10) (v := 2) dc_M_ask_10 rfl ?_
  refine q_icmp_le (pc := 11) (tgt := 16) md 2 dc_M_ask_11 (by omega) (by omega) rfl (fun hc11 => ?_) (fun hc => absurd hc (by omega))
  refine g_aload_n (pc := 16) dc_M_ask_16 rfl ?_
  refine g_iconst (pc := 17) (v := 0) dc_M_ask_17 rfl ?_
  refine pf_wordCount (pc := 18) (v := 0) hA dc_M_ask_18 fp_M_ask_223 ?_
  refine g_aload_n (pc := 21) dc_M_ask_21 rfl ?_
  refine g_aload_n (pc := 22) dc_M_ask_22 rfl ?_
  refine g_getfield (pc := 23) dc_M_ask_23 fl_M_143 (mp_o hA) rfl ?_
  refine g_iconst (pc := 26) (v := 0) dc_M_ask_26 rfl ?_
  refine g_iload_n (pc := 27) dc_M_ask_27 rfl ?_
  have hm0 : mA [40] S1 (S1.s_wordCount 0) := (mA.rf S1).a_wordCount _ (by decide)
  have hW0 : wdS (S1.s_wordCount 0) [] := ⟨rfl, fun k hk => absurd hk (Nat.not_lt_zero k)⟩
  refine g_v3 (pc := 28) (M' := mt_M_split) dc_M_ask_28 mo_M_split im_M_split se_M_split ln_M_244 (mp_o hA) rfl rfl (Nat.le_of_ble_eq_true rfl) (Nat.le_of_ble_eq_true rfl) (am_G.mono (c_M_split (d := d + 7) (S := (S1.s_wordCount 0)) (ca := 85) (M := L) (Wd := []) hA hbL (by omega) (txO_coming hA q4 (by omega)) hW0 (Nat.le_refl _) (by show 0 + 0 + _ ≤ _; omega)) ?_)
  intro r h9 hz
  obtain ⟨x1, S2, x2, x3, x4⟩ := hz
  rw [x1, x2]
  clear x1 x2 h9 r
  rw [List.nil_append] at x4
  have hm2 : mA [5, 6, 7, 8, 9, 10, 11, 12, 13, 14, 15, 16, 17, 18, 35, 36, 37, 38, 39, 40, 41, 42, 43, 44, 45, 46, 47, 48, 49, 50, 55, 56] S1 S2 := (hm0.mo (by decide)).tr x3.pg.lk.m
  have hT2 : adT S2 T := (hM1.1.m hm0 (by decide) (by decide) (by decide) (by decide)).k x3.2.2.1
  have hM2 : tbM S2 T Y U := ⟨hT2, hM1.2.1, hM1.2.2.1, hM1.2.2.2.m hm2 (by decide) (by decide) (by decide) (by decide) (by decide)⟩
  have hX2 := hX1.m hm2 (by decide)
  have ht2 : tpM S2 [] := q5.m hm2 (by decide) (by decide)
  refine ⟨am_nt0, ?_⟩
  refine g_aload_n (pc := 31) dc_M_ask_31 rfl ?_
  refine g_aload_n (pc := 32) dc_M_ask_32 rfl ?_
  refine g_getfield (pc := 33) (v := .int (nI ((spl L 0).length))) dc_M_ask_33 fl_M_223 (mp_o hA) (congrArg (fun z => some (Value.int (nI z))) x4.1) ?_
  refine g_bipush (pc := 36) (v := 8) dc_M_ask_36 rfl ?_
  refine q_icmp_ge (pc := 38) (tgt := 48) ((spl L 0).length) 8 dc_M_ask_38 (by omega) (by omega) rfl (fun hc38 => ?_) (fun hc38 => ?_)
  · refine g_bipush (pc := 48) (v := 8) dc_M_ask_48 rfl ?_
    refine pf_questionCount (pc := 50) (v := 8) hA dc_M_ask_50 fp_M_ask_487 ?_
    have hm9 : mA [89] S2 (S2.s_questionCount 8) := (mA.rf S2).a_questionCount _ (by decide)
    have hM9 : tbM (S2.s_questionCount 8) T Y U := ⟨hM2.1.m hm9 (by decide) (by decide) (by decide) (by decide), hM2.2.1, hM2.2.2.1, hM2.2.2.2.m hm9 (by decide) (by decide) (by decide) (by decide) (by decide)⟩
    have hc9 : (S2.s_questionCount 8).questionCount = (qsQ L).length := by show 8 = _; rw [qsQ_len]; exact (Nat.min_eq_right (by omega)).symm
    have hW9 : wdS (S2.s_questionCount 8) (spl L 0) := ⟨x4.1, x4.2⟩
    have hX9 := hX2.m hm9 (by decide)
    have ht9 : tpM (S2.s_questionCount 8) [] := ht2.m hm9 (by decide) (by decide)
    generalize (S2.s_questionCount 8) = S9 at hm9 hM9 hc9 hW9 hX9 ht9 ⊢
    refine am_G.mono (t53_M_ask (d := d) hA hUl hY hw hgU (by omega) hL8 hbL hM9 hX9 hW9 hc9) (fun r h9 hz => ?_)
    obtain ⟨z1, S5, T5, z2, z3, z4, z5, z6⟩ := hz
    refine ⟨z1, S5, T5, z2, (((q3.mo (by decide)).tr (hm2.mo (by decide))).tr (hm9.mo (by decide))).tr (z3.mo (by decide)), z4, z5, ht9.m z3 (by decide) (by decide), z6⟩
  · refine g_aload_n (pc := 41) dc_M_ask_41 rfl ?_
    refine g_getfield (pc := 42) (v := .int (nI ((spl L 0).length))) dc_M_ask_42 fl_M_223 (mp_o hA) (congrArg (fun z => some (Value.int (nI z))) x4.1) ?_
    refine g_goto (pc := 45) (tgt := 50) dc_M_ask_45 rfl ?_
    refine pf_questionCount (pc := 50) (v := (spl L 0).length) hA dc_M_ask_50 fp_M_ask_487 ?_
    have hm9 : mA [89] S2 (S2.s_questionCount ((spl L 0).length)) := (mA.rf S2).a_questionCount _ (by decide)
    have hM9 : tbM (S2.s_questionCount ((spl L 0).length)) T Y U := ⟨hM2.1.m hm9 (by decide) (by decide) (by decide) (by decide), hM2.2.1, hM2.2.2.1, hM2.2.2.2.m hm9 (by decide) (by decide) (by decide) (by decide) (by decide)⟩
    have hc9 : (S2.s_questionCount ((spl L 0).length)).questionCount = (qsQ L).length := by show (spl L 0).length = _; rw [qsQ_len]; exact (Nat.min_eq_left (by omega)).symm
    have hW9 : wdS (S2.s_questionCount ((spl L 0).length)) (spl L 0) := ⟨x4.1, x4.2⟩
    have hX9 := hX2.m hm9 (by decide)
    have ht9 : tpM (S2.s_questionCount ((spl L 0).length)) [] := ht2.m hm9 (by decide) (by decide)
    generalize (S2.s_questionCount ((spl L 0).length)) = S9 at hm9 hM9 hc9 hW9 hX9 ht9 ⊢
    refine am_G.mono (t53_M_ask (d := d) hA hUl hY hw hgU (by omega) hL8 hbL hM9 hX9 hW9 hc9) (fun r h9 hz => ?_)
    obtain ⟨z1, S5, T5, z2, z3, z4, z5, z6⟩ := hz
    refine ⟨z1, S5, T5, z2, (((q3.mo (by decide)).tr (hm2.mo (by decide))).tr (hm9.mo (by decide))).tr (z3.mo (by decide)), z4, z5, ht9.m z3 (by decide) (by decide), z6⟩
end GES
