/-! ===== feed and end ===== -/
section OP6L
variable {w w1 : Gw} {Y U : List (List Int32)} {L L1 : List Int32} {P : List Pg} {Rs Rt : List (List Int32)} {sett lim : Nat → Nat} {Sd : List (List Int32)} {st9 : Bool} {q : Cr} {K0 : Kn} {j : Nat} {H : List (Nat × Nat)}
theorem PU.ex (z : PU j w Y U L P Rt Rs sett Sd st9 lim q K0 H) (h27 : w1.2 27 = w.2 27) (h98 : w1.2 98 = w.2 98 + 16) : PU (j + 1) w1 Y U L P Rt Rs sett Sd st9 lim q K0 H := by
  obtain ⟨a1, a2, ⟨c1, c2⟩, a4, a5, a6, a7, a8, a9, a10⟩ := z
  exact ⟨a1, a2, ⟨fun h9 => ⟨(c1 h9).1, (c1 h9).2.1, (c1 h9).2.2.1, (c1 h9).2.2.2.1, Nat.le_succ_of_le (c1 h9).2.2.2.2⟩, c2⟩, by omega, by omega, by omega, by omega, by omega, by omega, by omega⟩
theorem PU.fd (z : PU j w Y U L P Rt Rs sett Sd st9 lim q K0 H) (h27 : w1.2 27 = w.2 27) (h98 : w1.2 98 = w.2 98) (hl : L1.length ≤ L.length + 20) : PU (j + 1) w1 Y U L1 P Rt Rs sett Sd st9 lim q K0 H := by
  obtain ⟨a1, a2, ⟨c1, c2⟩, a4, a5, a6, a7, a8, a9, a10⟩ := z
  exact ⟨a1, a2, ⟨fun h9 => ⟨(c1 h9).1, (c1 h9).2.1, (c1 h9).2.2.1, (c1 h9).2.2.2.1, Nat.le_succ_of_le (c1 h9).2.2.2.2⟩, c2⟩, by omega, by omega, by omega, by omega, by omega, by omega, by omega⟩
end OP6L
theorem op_0 {X : am_X} {Q : Option Value → List va_E → Prop} {j : Nat} {h : List va_E} (hl9 : X.1.stackTraces = false) (hj : j < 512) (hk : 6 * j + 6 ≤ X.2.2.2.2.2.1) (hN : X.2.2.2.2.2.1 ≤ 3072) (hI : INV j h) (KK : ∀ h1, INV (j + 1) h1 → am_G X mt_L_law 60 873 (LO j) [] h1 Q) : am_G X mt_L_law 60 168 (LO j) [] h Q := by
  obtain ⟨w, A, S, B, T, Y, U, L, D, P, Rs, Rt, sett, Sd, st9, lim, q, K0, pn, H, ⟨hA, rfl, ho⟩, ⟨c1, c2, c3, c4, c5⟩, ⟨m1, m2, m3, m4, hM⟩, hp, hr⟩ := hI
  have hb := hp.bd hj
  have hL8 := m1.1.2.2.1
  have hqe := hp.qe
  have hqw := hp.qw
  obtain ⟨p1, e1⟩ : ∃ p, X.2.2.2.2.2.2 (6 * j + 1) = p := ⟨_, rfl⟩
  obtain ⟨p2, e2⟩ : ∃ p, X.2.2.2.2.2.2 (6 * j + 2) = p := ⟨_, rfl⟩
  obtain ⟨p3, e3⟩ : ∃ p, X.2.2.2.2.2.2 (6 * j + 3) = p := ⟨_, rfl⟩
  obtain ⟨p4, e4⟩ : ∃ p, X.2.2.2.2.2.2 (6 * j + 4) = p := ⟨_, rfl⟩
  obtain ⟨p5, e5⟩ : ∃ p, X.2.2.2.2.2.2 (6 * j + 5) = p := ⟨_, rfl⟩
  show am_G X mt_L_law 60 168 [some (.retAddr 300), some (.ref 0), some (.ref 84), some (.ref 135), some (.int (nI (6 * j))), none, none] [] (mput A S B) Q
  refine g_aload_n (pc := 168) dc_L_law_168 rfl ?_
  refine g_xload_n (pc := 169) dc_L_law_169 rfl ?_
  refine g_iload (pc := 170) dc_L_law_170 rfl ?_
  refine g_iconst (pc := 172) (v := 1) dc_L_law_172 rfl ?_
  refine g_iadd (pc := 173) (v := (nI (6 * j + 1))) dc_L_law_173 (nI_add (6 * j) 1) ?_
  refine g_scr (pc := 174) (6 * j + 1) dc_L_law_174 (by omega) hN e1 ?_
  refine g_xload_n (pc := 175) dc_L_law_175 rfl ?_
  refine g_iload (pc := 176) dc_L_law_176 rfl ?_
  refine g_iconst (pc := 178) (v := 2) dc_L_law_178 rfl ?_
  refine g_iadd (pc := 179) (v := (nI (6 * j + 2))) dc_L_law_179 (nI_add (6 * j) 2) ?_
  refine g_scr (pc := 180) (6 * j + 2) dc_L_law_180 (by omega) hN e2 ?_
  refine g_xload_n (pc := 181) dc_L_law_181 rfl ?_
  refine g_iload (pc := 182) dc_L_law_182 rfl ?_
  refine g_iconst (pc := 184) (v := 3) dc_L_law_184 rfl ?_
  refine g_iadd (pc := 185) (v := (nI (6 * j + 3))) dc_L_law_185 (nI_add (6 * j) 3) ?_
  refine g_scr (pc := 186) (6 * j + 3) dc_L_law_186 (by omega) hN e3 ?_
  refine g_xload_n (pc := 187) dc_L_law_187 rfl ?_
  refine g_iload (pc := 188) dc_L_law_188 rfl ?_
  refine g_iconst (pc := 190) (v := 4) dc_L_law_190 rfl ?_
  refine g_iadd (pc := 191) (v := (nI (6 * j + 4))) dc_L_law_191 (nI_add (6 * j) 4) ?_
  refine g_scr (pc := 192) (6 * j + 4) dc_L_law_192 (by omega) hN e4 ?_
  refine g_xload_n (pc := 193) dc_L_law_193 rfl ?_
  refine g_iload (pc := 194) dc_L_law_194 rfl ?_
  refine g_iconst (pc := 196) (v := 5) dc_L_law_196 rfl ?_
  refine g_iadd (pc := 197) (v := (nI (6 * j + 5))) dc_L_law_197 (nI_add (6 * j) 5) ?_
  refine g_scr (pc := 198) (6 * j + 5) dc_L_law_198 (by omega) hN e5 ?_
  refine sw_feed (d := 59) (st := []) (Nat.le_of_ble_eq_true rfl) (Nat.le_of_ble_eq_true rfl) ?_
  refine g_aload_n (pc := 0) dc_L_feed_0 rfl ?_
  refine g_iload_n (pc := 1) dc_L_feed_1 rfl ?_
  refine g_iload_n (pc := 2) dc_L_feed_2 rfl ?_
  refine g_iload_n (pc := 3) dc_L_feed_3 rfl ?_
  refine g_iload (pc := 4) dc_L_feed_4 rfl ?_
  refine g_iload (pc := 6) dc_L_feed_6 rfl ?_
  refine ct_feed (d := 58) c1.1.1 (Nat.le_of_ble_eq_true rfl) ?_
  by_cases h20 : L.length + 20 ≤ 8000
  · refine am_G.mono (w_W_feed (d := 52) c1.1 c1.2.1 h20) (fun r h1 hz => ?_)
    obtain ⟨y1, w1, g1, s2⟩ := hz
    rw [y1]
    clear y1 r
    obtain ⟨A1, B1, hA1, rfl, ho1⟩ := af_W g1 hA ho (by decide)
    refine Or.inl ⟨am_nt0, ?_⟩
    refine g_goto (pc := 11) (tgt := 18) dc_L_feed_11 rfl ?_
    refine g_iconst (pc := 18) (v := 0) dc_L_feed_18 rfl ?_
    refine g_iretC (pc := 19) dc_L_feed_19 rfl ?_
    show am_G X mt_L_law 60 202 [some (.retAddr 300), some (.ref 0), some (.ref 84), some (.ref 135), some (.int (nI (6 * j))), none, none] [.int 0] (mput A1 S B1) Q
    refine g_istore (pc := 202) dc_L_law_202 (by decide) ?_
    show am_G X mt_L_law _ 204 [some (.retAddr 300), some (.ref 0), some (.ref 84), some (.ref 135), some (.int (nI (6 * j))), some (.int 0), none] [] _ _
    refine g_aload_n (pc := 204) dc_L_law_204 rfl ?_
    refine g_xload_n (pc := 205) dc_L_law_205 rfl ?_
    refine g_iload (pc := 206) dc_L_law_206 rfl ?_
    refine g_iconst (pc := 208) (v := 1) dc_L_law_208 rfl ?_
    refine g_iadd (pc := 209) (v := (nI (6 * j + 1))) dc_L_law_209 (nI_add (6 * j) 1) ?_
    refine g_scr (pc := 210) (6 * j + 1) dc_L_law_210 (by omega) hN e1 ?_
    refine g_xload_n (pc := 211) dc_L_law_211 rfl ?_
    refine g_iload (pc := 212) dc_L_law_212 rfl ?_
    refine g_iconst (pc := 214) (v := 2) dc_L_law_214 rfl ?_
    refine g_iadd (pc := 215) (v := (nI (6 * j + 2))) dc_L_law_215 (nI_add (6 * j) 2) ?_
    refine g_scr (pc := 216) (6 * j + 2) dc_L_law_216 (by omega) hN e2 ?_
    refine g_xload_n (pc := 217) dc_L_law_217 rfl ?_
    refine g_iload (pc := 218) dc_L_law_218 rfl ?_
    refine g_iconst (pc := 220) (v := 3) dc_L_law_220 rfl ?_
    refine g_iadd (pc := 221) (v := (nI (6 * j + 3))) dc_L_law_221 (nI_add (6 * j) 3) ?_
    refine g_scr (pc := 222) (6 * j + 3) dc_L_law_222 (by omega) hN e3 ?_
    refine g_xload_n (pc := 223) dc_L_law_223 rfl ?_
    refine g_iload (pc := 224) dc_L_law_224 rfl ?_
    refine g_iconst (pc := 226) (v := 4) dc_L_law_226 rfl ?_
    refine g_iadd (pc := 227) (v := (nI (6 * j + 4))) dc_L_law_227 (nI_add (6 * j) 4) ?_
    refine g_scr (pc := 228) (6 * j + 4) dc_L_law_228 (by omega) hN e4 ?_
    refine g_xload_n (pc := 229) dc_L_law_229 rfl ?_
    refine g_iload (pc := 230) dc_L_law_230 rfl ?_
    refine g_iconst (pc := 232) (v := 5) dc_L_law_232 rfl ?_
    refine g_iadd (pc := 233) (v := (nI (6 * j + 5))) dc_L_law_233 (nI_add (6 * j) 5) ?_
    refine g_scr (pc := 234) (6 * j + 5) dc_L_law_234 (by omega) hN e5 ?_
    refine g_v5 (pc := 235) (M' := mt_M_feed) dc_L_law_235 mo_M_feed im_M_feed se_M_feed ln_L_30 (mp_o hA1) rfl rfl (Nat.le_of_ble_eq_true rfl) (Nat.le_of_ble_eq_true rfl) (am_G.mono (f_M_feed (d := 58) hA1 m1.1 h20) ?_)
    intro r h9 hz
    obtain ⟨y1, S1, y2, em, ef, tp⟩ := hz
    rw [y1, y2]
    clear y1 y2 h9 r
    refine ⟨am_nt0, ?_⟩
    refine g_aload_n (pc := 238) dc_L_law_238 rfl ?_
    refine g_v0 (pc := 239) (M' := mt_M_thrown) dc_L_law_239 mo_M_thrown im_M_thrown se_M_thrown ln_L_31 (mp_o hA1) rfl rfl (Nat.le_of_ble_eq_true rfl) (Nat.le_of_ble_eq_true rfl) (am_G.mono (c_M_thrown (d := 59) hA1) ?_)
    intro r h9 hq
    rw [hq.1, hq.2, ef]
    clear hq h9 r
    refine ⟨am_nti _, ?_⟩
    refine g_iload (pc := 242) dc_L_law_242 rfl ?_
    refine g_icmp_eq (pc := 244) (tgt := 249) dc_L_law_244 rfl (fun _ => ?_) (fun hc => absurd hc (by decide))
    refine g_goto (pc := 249) (tgt := 873) dc_L_law_249 rfl ?_
    refine am_wk (am_le_s (am_le_s (am_le_s (am_le_s (am_le_s (am_le_n (am_le_n am_le_0))))))) ?_
    have c11 : C1 w1 (mput A1 S B1) (L ++ by20 p1 p2 p3 p4 p5) D := ⟨c1.1.fr g1 (by decide), s2, c1.2.2.1.fr g1 (by decide), c1.2.2.2.1.fr g1 (by decide), c1.2.2.2.2.1.fr g1 (by decide), by obtain ⟨Tx, hTx⟩ := c1.2.2.2.2.2; exact ⟨Tx, hTx.fr g1 (by decide) (by decide)⟩⟩
    have hlen : (L ++ by20 p1 p2 p3 p4 p5).length ≤ L.length + 20 := by rw [List.length_append]; exact Nat.le_refl _
    exact KK _ (inv_mk hA1 ho1 c11 (c2.fr g1 (by decide) (by decide)) (c3.fr g1 (by decide)) (c4.fr g1 (by decide)) (c5.fr g1 (by decide)) ⟨tp, m1.2.m em (by decide) (by decide)⟩ (m2.m em (by decide)) (m3.m em (by decide)) (m4.m em (by decide)) (hM.m em (by decide)) (hp.fd (g1.2.1 27 (by decide)) (g1.2.1 98 (by decide)) hlen) (hr.fr g1))
  · refine am_G.mono (n_W_feed (d := 52) hl9 c1.1 c1.2.1 hL8 h20) (fun r h1 hz => ?_)
    obtain ⟨y1, y2⟩ := hz
    rw [y1, y2]
    clear y1 y2 r h1
    obtain ⟨w1, g1, h98⟩ := ex_fr (w := w) (h := mput A S B) (n := 13) hp.2.2.2.2.2.2.2.2.2 (by have := hp.2.2.2.2.2.2.2.2.1; omega)
    obtain ⟨A1, B1, hA1, eh, ho1⟩ := af_W g1 hA ho (by decide)
    rw [eh]
    rw [eh] at g1
    refine Or.inr ⟨rfl, by rw [mp_len]; omega, ?_⟩
    refine g_astore (pc := 14) dc_L_feed_14 (by decide) ?_
    refine g_iconst (pc := 16) (v := 1) dc_L_feed_16 rfl ?_
    refine g_iretC (pc := 17) dc_L_feed_17 rfl ?_
    show am_G X mt_L_law 60 202 [some (.retAddr 300), some (.ref 0), some (.ref 84), some (.ref 135), some (.int (nI (6 * j))), none, none] [.int 1] (mput A1 S B1) Q
    refine g_istore (pc := 202) dc_L_law_202 (by decide) ?_
    show am_G X mt_L_law _ 204 [some (.retAddr 300), some (.ref 0), some (.ref 84), some (.ref 135), some (.int (nI (6 * j))), some (.int 1), none] [] _ _
    refine g_aload_n (pc := 204) dc_L_law_204 rfl ?_
    refine g_xload_n (pc := 205) dc_L_law_205 rfl ?_
    refine g_iload (pc := 206) dc_L_law_206 rfl ?_
    refine g_iconst (pc := 208) (v := 1) dc_L_law_208 rfl ?_
    refine g_iadd (pc := 209) (v := (nI (6 * j + 1))) dc_L_law_209 (nI_add (6 * j) 1) ?_
    refine g_scr (pc := 210) (6 * j + 1) dc_L_law_210 (by omega) hN e1 ?_
    refine g_xload_n (pc := 211) dc_L_law_211 rfl ?_
    refine g_iload (pc := 212) dc_L_law_212 rfl ?_
    refine g_iconst (pc := 214) (v := 2) dc_L_law_214 rfl ?_
    refine g_iadd (pc := 215) (v := (nI (6 * j + 2))) dc_L_law_215 (nI_add (6 * j) 2) ?_
    refine g_scr (pc := 216) (6 * j + 2) dc_L_law_216 (by omega) hN e2 ?_
    refine g_xload_n (pc := 217) dc_L_law_217 rfl ?_
    refine g_iload (pc := 218) dc_L_law_218 rfl ?_
    refine g_iconst (pc := 220) (v := 3) dc_L_law_220 rfl ?_
    refine g_iadd (pc := 221) (v := (nI (6 * j + 3))) dc_L_law_221 (nI_add (6 * j) 3) ?_
    refine g_scr (pc := 222) (6 * j + 3) dc_L_law_222 (by omega) hN e3 ?_
    refine g_xload_n (pc := 223) dc_L_law_223 rfl ?_
    refine g_iload (pc := 224) dc_L_law_224 rfl ?_
    refine g_iconst (pc := 226) (v := 4) dc_L_law_226 rfl ?_
    refine g_iadd (pc := 227) (v := (nI (6 * j + 4))) dc_L_law_227 (nI_add (6 * j) 4) ?_
    refine g_scr (pc := 228) (6 * j + 4) dc_L_law_228 (by omega) hN e4 ?_
    refine g_xload_n (pc := 229) dc_L_law_229 rfl ?_
    refine g_iload (pc := 230) dc_L_law_230 rfl ?_
    refine g_iconst (pc := 232) (v := 5) dc_L_law_232 rfl ?_
    refine g_iadd (pc := 233) (v := (nI (6 * j + 5))) dc_L_law_233 (nI_add (6 * j) 5) ?_
    refine g_scr (pc := 234) (6 * j + 5) dc_L_law_234 (by omega) hN e5 ?_
    refine g_v5 (pc := 235) (M' := mt_M_feed) dc_L_law_235 mo_M_feed im_M_feed se_M_feed ln_L_30 (mp_o hA1) rfl rfl (Nat.le_of_ble_eq_true rfl) (Nat.le_of_ble_eq_true rfl) (am_G.mono (n_M_feed (d := 58) hA1 m1.1 h20) ?_)
    intro r h1 hq
    rw [hq.1, hq.2]
    clear hq h1 r
    refine ⟨am_nt0, ?_⟩
    refine g_aload_n (pc := 238) dc_L_law_238 rfl ?_
    refine g_v0 (pc := 239) (M' := mt_M_thrown) dc_L_law_239 mo_M_thrown im_M_thrown se_M_thrown ln_L_31 (mp_o hA1) rfl rfl (Nat.le_of_ble_eq_true rfl) (Nat.le_of_ble_eq_true rfl) (am_G.mono (c_M_thrown (d := 59) (S := S.s_fault 1) hA1) ?_)
    intro r h9 hq
    rw [hq.1, hq.2, show nI (S.s_fault 1).fault = 1 from rfl]
    clear hq h9 r
    refine ⟨am_nti _, ?_⟩
    refine g_iload (pc := 242) dc_L_law_242 rfl ?_
    refine g_icmp_eq (pc := 244) (tgt := 249) dc_L_law_244 rfl (fun _ => ?_) (fun hc => absurd hc (by decide))
    refine g_goto (pc := 249) (tgt := 873) dc_L_law_249 rfl ?_
    refine am_wk (am_le_s (am_le_s (am_le_s (am_le_s (am_le_s (am_le_n (am_le_n am_le_0))))))) ?_
    have em : mA [2] S (S.s_fault 1) := (mA.rf S).a_fault _ (by decide)
    exact KK _ (inv_mk hA1 ho1 (c1.fr g1 (by decide)) (c2.fr g1 (by decide) (by decide)) (c3.fr g1 (by decide)) (c4.fr g1 (by decide)) (c5.fr g1 (by decide)) (m1.m em (by decide)) (m2.m em (by decide)) (m3.m em (by decide)) (m4.m em (by decide)) (hM.m em (by decide)) (hp.ex (g1.2.1 27 (by decide)) h98) (hr.fr g1))
theorem mp_c7 {w : Gw} {A B : List va_E} {S S1 : MS} {x : va_E} (hA : A.length = 84) (ho : OW w) (c7 : cO w (mput A S B) 97 135 x) : (mput A S1 B)[135]? = some x := (cO.fr c7 (af_M (S := S) (S1 := S1) (B := B) hA ho) (by decide)).1
theorem op_1 {X : am_X} {Q : Option Value → List va_E → Prop} {j : Nat} {h : List va_E} (hl9 : X.1.stackTraces = false) (hj : j < 512) (hk : 6 * j + 6 ≤ X.2.2.2.2.2.1) (hN : X.2.2.2.2.2.1 ≤ 3072) (hI : INV j h) (KK : ∀ h1, INV (j + 1) h1 → am_G X mt_L_law 60 873 (LO j) [] h1 Q) : am_G X mt_L_law 60 252 (LO j) [] h Q := by
  obtain ⟨w, A, S, B, T, Y, U, L, D, P, Rs, Rt, sett, Sd, st9, lim, q, K0, pn, H, ⟨hA, rfl, ho⟩, ⟨c1, c2, c3, c4, c5⟩, ⟨m1, m2, m3, m4, hM⟩, hp, hr⟩ := hI
  have hb := hp.bd hj
  have hL8 := m1.1.2.2.1
  have hqe := hp.qe
  have hqw := hp.qw
  obtain ⟨p1, e1⟩ : ∃ p, X.2.2.2.2.2.2 (6 * j + 1) = p := ⟨_, rfl⟩
  show am_G X mt_L_law 60 252 [some (.retAddr 300), some (.ref 0), some (.ref 84), some (.ref 135), some (.int (nI (6 * j))), none, none] [] (mput A S B) Q
  refine g_aload_n (pc := 252) dc_L_law_252 rfl ?_
  refine g_xload_n (pc := 253) dc_L_law_253 rfl ?_
  refine g_iload (pc := 254) dc_L_law_254 rfl ?_
  refine g_iconst (pc := 256) (v := 1) dc_L_law_256 rfl ?_
  refine g_iadd (pc := 257) (v := (nI (6 * j + 1))) dc_L_law_257 (nI_add (6 * j) 1) ?_
  refine g_scr (pc := 258) (6 * j + 1) dc_L_law_258 (by omega) hN e1 ?_
  refine g_aload_n (pc := 259) dc_L_law_259 rfl ?_
  refine sw_end (d := 59) (st := []) (Nat.le_of_ble_eq_true rfl) (Nat.le_of_ble_eq_true rfl) ?_
  refine g_aload_n (pc := 0) dc_L_end_0 rfl ?_
  refine g_iconst (pc := 1) (v := 0) dc_L_end_1 rfl ?_
  refine g_aload_n (pc := 2) dc_L_end_2 rfl ?_
  refine g_iload_n (pc := 3) dc_L_end_3 rfl ?_
  refine ct_end (d := 58) (Nat.le_of_ble_eq_true rfl) c1.1.1 (Nat.le_of_ble_eq_true rfl) ?_
  refine am_G.mono (w_W_end (d := 52) hl9 c1.1 c1.2.1 hL8) (fun r h1 hz => ?_)
  cases e : ixo p1 (L.length + 1) with
  | none =>
    rw [e] at hz
    obtain ⟨y1, y2⟩ := hz
    rw [y1, y2]
    clear y1 y2 r h1
    obtain ⟨w1, g1, h98⟩ := ex_fr (w := w) (h := mput A S B) (n := 14) hp.2.2.2.2.2.2.2.2.2 (by have := hp.2.2.2.2.2.2.2.2.1; omega)
    obtain ⟨A1, B1, hA1, eh, ho1⟩ := af_W g1 hA ho (by decide)
    rw [eh]
    rw [eh] at g1
    refine Or.inr ⟨rfl, by rw [mp_len]; omega, ?_⟩
    refine g_astore_n (pc := 12) dc_L_end_12 (by decide) ?_
    refine g_iconst (pc := 13) (v := 1) dc_L_end_13 rfl ?_
    refine g_iretC (pc := 14) dc_L_end_14 rfl ?_
    show am_G X mt_L_law 60 263 [some (.retAddr 300), some (.ref 0), some (.ref 84), some (.ref 135), some (.int (nI (6 * j))), none, none] [.int 1] (mput A1 S B1) Q
    refine g_istore (pc := 263) dc_L_law_263 (by decide) ?_
    show am_G X mt_L_law _ 265 [some (.retAddr 300), some (.ref 0), some (.ref 84), some (.ref 135), some (.int (nI (6 * j))), some (.int 1), none] [] _ _
    refine g_aload_n (pc := 265) dc_L_law_265 rfl ?_
    refine g_xload_n (pc := 266) dc_L_law_266 rfl ?_
    refine g_iload (pc := 267) dc_L_law_267 rfl ?_
    refine g_iconst (pc := 269) (v := 1) dc_L_law_269 rfl ?_
    refine g_iadd (pc := 270) (v := (nI (6 * j + 1))) dc_L_law_270 (nI_add (6 * j) 1) ?_
    refine g_scr (pc := 271) (6 * j + 1) dc_L_law_271 (by omega) hN e1 ?_
    refine g_v1 (pc := 272) (M' := mt_M_end) dc_L_law_272 mo_M_end im_M_end se_M_end ln_L_38 (mp_o hA1) rfl rfl (Nat.le_of_ble_eq_true rfl) (Nat.le_of_ble_eq_true rfl) (am_G.mono (c_M_end (d := 59) hA1 m1.1) ?_)
    intro r h9 hz
    rw [e] at hz
    rw [hz.1, hz.2]
    clear hz h9 r
    refine ⟨am_nti _, ?_⟩
    refine g_istore (pc := 275) dc_L_law_275 (by decide) ?_
    show am_G X mt_L_law _ 277 [some (.retAddr 300), some (.ref 0), some (.ref 84), some (.ref 135), some (.int (nI (6 * j))), some (.int 1), some (.int 0)] [] _ _
    refine g_aload_n (pc := 277) dc_L_law_277 rfl ?_
    refine g_v0 (pc := 278) (M' := mt_M_thrown) dc_L_law_278 mo_M_thrown im_M_thrown se_M_thrown ln_L_31 (mp_o hA1) rfl rfl (Nat.le_of_ble_eq_true rfl) (Nat.le_of_ble_eq_true rfl) (am_G.mono (c_M_thrown (d := 59) (S := S.s_fault 1) hA1) ?_)
    intro r h9 hq
    rw [hq.1, hq.2, show nI (S.s_fault 1).fault = 1 from rfl]
    clear hq h9 r
    refine ⟨am_nti _, ?_⟩
    refine g_iload (pc := 281) dc_L_law_281 rfl ?_
    refine g_icmp_eq (pc := 283) (tgt := 288) dc_L_law_283 rfl (fun _ => ?_) (fun hc => absurd hc (by decide))
    refine g_iload (pc := 288) dc_L_law_288 rfl ?_
    refine g_if_ne (pc := 290) (tgt := 305) dc_L_law_290 rfl (fun _ => ?_) (fun hc => absurd hc (by decide))
    refine g_goto (pc := 305) (tgt := 873) dc_L_law_305 rfl ?_
    refine am_wk (am_le_s (am_le_s (am_le_s (am_le_s (am_le_s (am_le_n (am_le_n am_le_0))))))) ?_
    have em : mA [2] S (S.s_fault 1) := (mA.rf S).a_fault _ (by decide)
    exact KK _ (inv_mk hA1 ho1 (c1.fr g1 (by decide)) (c2.fr g1 (by decide) (by decide)) (c3.fr g1 (by decide)) (c4.fr g1 (by decide)) (c5.fr g1 (by decide)) (m1.m em (by decide)) (m2.m em (by decide)) (m3.m em (by decide)) (m4.m em (by decide)) (hM.m em (by decide)) (hp.ex (g1.2.1 27 (by decide)) h98) (hr.fr g1))
  | some n =>
    rw [e] at hz
    obtain ⟨y1, w1, g1, s2⟩ := hz
    rw [y1]
    clear y1 r
    obtain ⟨A1, B1, hA1, rfl, ho1⟩ := af_W g1 hA ho (by decide)
    obtain ⟨hn9, hn8⟩ := ixo_s e
    refine Or.inl ⟨am_nti _, ?_⟩
    obtain ⟨g5, c6⟩ := c5.fr g1 (by decide)
    refine g_i2l (pc := 7) (v := lN L.length) dc_L_end_7 (nI_l (by omega)) ?_
    refine q_lastore (pc := 8) 0 dc_L_end_8 c6.1 (by decide) (by decide) ?_
    have g2 : fr w1 w1 (mput A1 S B1) ((mput A1 S B1).set 135 (.inl (2, 1, .inr (.inl (vp_updL g5 0 (lN L.length)))))) [97] := fr.st c6.1 rfl c6.2
    have c7 : cO w1 ((mput A1 S B1).set 135 (.inl (2, 1, .inr (.inl (vp_updL g5 0 (lN L.length)))))) 97 135 (.inl (2, 1, .inr (.inl (vp_updL g5 0 (lN L.length))))) := ⟨am_se (am_lt c6.1), c6.2⟩
    show am_G X mt_L_end 59 9 _ _ ((mput A1 S B1).set 135 (.inl (2, 1, .inr (.inl (vp_updL g5 0 (lN L.length)))))) _
    generalize ((mput A1 S B1).set 135 (.inl (2, 1, .inr (.inl (vp_updL g5 0 (lN L.length)))))) = h5 at g2 c7 ⊢
    obtain ⟨A2, B2, hA2, rfl, ho2⟩ := af_W g2 hA1 ho1 (by decide)
    refine g_goto (pc := 9) (tgt := 15) dc_L_end_9 rfl ?_
    refine g_iconst (pc := 15) (v := 0) dc_L_end_15 rfl ?_
    refine g_iretC (pc := 16) dc_L_end_16 rfl ?_
    show am_G X mt_L_law 60 263 [some (.retAddr 300), some (.ref 0), some (.ref 84), some (.ref 135), some (.int (nI (6 * j))), none, none] [.int 0] (mput A2 S B2) Q
    refine g_istore (pc := 263) dc_L_law_263 (by decide) ?_
    show am_G X mt_L_law _ 265 [some (.retAddr 300), some (.ref 0), some (.ref 84), some (.ref 135), some (.int (nI (6 * j))), some (.int 0), none] [] _ _
    refine g_aload_n (pc := 265) dc_L_law_265 rfl ?_
    refine g_xload_n (pc := 266) dc_L_law_266 rfl ?_
    refine g_iload (pc := 267) dc_L_law_267 rfl ?_
    refine g_iconst (pc := 269) (v := 1) dc_L_law_269 rfl ?_
    refine g_iadd (pc := 270) (v := (nI (6 * j + 1))) dc_L_law_270 (nI_add (6 * j) 1) ?_
    refine g_scr (pc := 271) (6 * j + 1) dc_L_law_271 (by omega) hN e1 ?_
    refine g_v1 (pc := 272) (M' := mt_M_end) dc_L_law_272 mo_M_end im_M_end se_M_end ln_L_38 (mp_o hA2) rfl rfl (Nat.le_of_ble_eq_true rfl) (Nat.le_of_ble_eq_true rfl) (am_G.mono (c_M_end (d := 59) hA2 m1.1) ?_)
    intro r h9 hz
    rw [e] at hz
    obtain ⟨y1, S1, y2, em, ef, tp⟩ := hz
    rw [y1, y2]
    clear y1 y2 h9 r
    refine ⟨am_nti _, ?_⟩
    refine g_istore (pc := 275) dc_L_law_275 (by decide) ?_
    show am_G X mt_L_law _ 277 [some (.retAddr 300), some (.ref 0), some (.ref 84), some (.ref 135), some (.int (nI (6 * j))), some (.int 0), some (.int (nI L.length))] [] _ _
    refine g_aload_n (pc := 277) dc_L_law_277 rfl ?_
    refine g_v0 (pc := 278) (M' := mt_M_thrown) dc_L_law_278 mo_M_thrown im_M_thrown se_M_thrown ln_L_31 (mp_o hA2) rfl rfl (Nat.le_of_ble_eq_true rfl) (Nat.le_of_ble_eq_true rfl) (am_G.mono (c_M_thrown (d := 59) hA2) ?_)
    intro r h9 hq
    rw [hq.1, hq.2, ef]
    clear hq h9 r
    refine ⟨am_nti _, ?_⟩
    refine g_iload (pc := 281) dc_L_law_281 rfl ?_
    refine g_icmp_eq (pc := 283) (tgt := 288) dc_L_law_283 rfl (fun _ => ?_) (fun hc => absurd hc (by decide))
    refine g_iload (pc := 288) dc_L_law_288 rfl ?_
    refine g_if_ne (pc := 290) (tgt := 305) dc_L_law_290 rfl (fun hc => absurd hc (by decide)) (fun _ => ?_)
    refine g_aload_n (pc := 293) dc_L_law_293 rfl ?_
    refine g_iconst (pc := 294) (v := 0) dc_L_law_294 rfl ?_
    refine q_laloadV (pc := 295) 0 dc_L_law_295 (mp_c7 (S1 := S1) hA2 ho2 c7) (by decide) (by decide) (v := lN L.length) rfl ?_
    refine g_iload (pc := 296) dc_L_law_296 rfl ?_
    refine g_i2l (pc := 298) dc_L_law_298 (nI_l (n := L.length) (by omega)) ?_
    refine g_lcmp (pc := 299) dc_L_law_299 (lg_self _) ?_
    refine g_if_eq (pc := 300) (tgt := 305) dc_L_law_300 rfl (fun _ => ?_) (fun hc => absurd hc (by decide))
    refine g_goto (pc := 305) (tgt := 873) dc_L_law_305 rfl ?_
    refine am_wk (am_le_s (am_le_s (am_le_s (am_le_s (am_le_s (am_le_n (am_le_n am_le_0))))))) ?_
    have c11 : C1 w1 (mput A2 S B2) (L.take n) D := C1.fr ⟨c1.1.fr g1 (by decide), s2, c1.2.2.1.fr g1 (by decide), c1.2.2.2.1.fr g1 (by decide), c1.2.2.2.2.1.fr g1 (by decide), by obtain ⟨Tx, hTx⟩ := c1.2.2.2.2.2; exact ⟨Tx, hTx.fr g1 (by decide) (by decide)⟩⟩ g2 (by decide)
    exact KK _ (inv_mk hA2 ho2 c11 ((c2.fr g1 (by decide) (by decide)).fr g2 (by decide) (by decide)) ((c3.fr g1 (by decide)).fr g2 (by decide)) ((c4.fr g1 (by decide)).fr g2 (by decide)) ⟨_, c7⟩ ⟨tp, m1.2.m em (by decide) (by decide)⟩ (m2.m em (by decide)) (m3.m em (by decide)) (m4.m em (by decide)) (hM.m em (by decide)) (hp.fd (g1.2.1 27 (by decide)) (g1.2.1 98 (by decide)) (by rw [List.length_take]; omega)) ((hr.fr g1).fr g2))
