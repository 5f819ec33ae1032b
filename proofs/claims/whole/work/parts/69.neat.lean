/-! ===== the model's neaten ===== -/
def btg (L : List Int32) : Prop := ∀ j, bt (gx L j)
theorem btg_nil : btg [] := fun j => by
  have : gx [] j = 0 := rfl
  rw [this]; exact bt_0
theorem gx_out {L : List Int32} {j : Nat} (h : L.length ≤ j) : gx L j = 0 := by
  show L.getD j 0 = 0
  rw [List.getD_eq_getElem?_getD, List.getElem?_eq_none h]
  rfl
theorem btg_app {D E : List Int32} (h1 : btg D) (h2 : btg E) : btg (D ++ E) := fun j => by
  by_cases h : j < D.length
  · rw [gx_app_l h]; exact h1 j
  · rw [gx_app_r (by omega)]; exact h2 _
theorem btg_l {D E : List Int32} (h : btg (D ++ E)) : btg D := fun j => by
  by_cases hj : j < D.length
  · rw [← gx_app_l (E := E) hj]; exact h j
  · rw [gx_out (by omega)]; exact bt_0
theorem btg_sub {L : List Int32} {f t : Nat} (h : btg L) (ht : t ≤ L.length) : btg (sub L f t) := fun j => by
  by_cases hj : j < t - f
  · rw [gx_sub hj ht]; exact h _
  · rw [gx_out (by rw [sub_len ht]; omega)]; exact bt_0
theorem wrt_app (g : Nat → Int32) (n : Nat) (D E : List Int32) {m : Nat} (hm : m = n + D.length) : wrt (wrt g n D) m E = wrt g n (D ++ E) := by
  funext j
  subst hm
  unfold wrt
  rw [List.length_append]
  by_cases h1 : n + D.length ≤ j ∧ j < n + D.length + E.length
  · rw [if_pos h1, if_pos (by omega), gx_app_r (by omega)]
    congr 1
    omega
  · rw [if_neg h1]
    by_cases h2 : n ≤ j ∧ j < n + D.length
    · rw [if_pos h2, if_pos (by omega), gx_app_l (by omega)]
    · rw [if_neg h2, if_neg (by omega)]
/-- what the reading of a reference may leave changed -/
def sc10 (S : MS) (m : Nat → Int32) (ml : Nat) (h : Nat → Int32) (hl : Nat) (p : Nat → Int32) (pl : Nat) (q : Nat → Int32) (ql : Option Nat) (nt mk : Nat → Int32) : MS := (((((((((S.s_made m).s_madeLength ml).s_host h).s_hostLength hl).s_path p).s_pathLength pl).s_query q).s_queryLength ql).s_neat nt).s_marks mk
def scA (S S1 : MS) : Prop := ∃ m ml h hl p pl q ql nt mk, S1 = sc10 S m ml h hl p pl q ql nt mk
theorem scA.rf (S : MS) : scA S S := ⟨S.made, S.madeLength, S.host, S.hostLength, S.path, S.pathLength, S.query, S.queryLength, S.neat, S.marks, rfl⟩
theorem scA.md (S : MS) (a : Nat → Int32) (b : Nat) : scA S ((S.s_made a).s_madeLength b) := ⟨a, b, S.host, S.hostLength, S.path, S.pathLength, S.query, S.queryLength, S.neat, S.marks, rfl⟩
theorem scA.md2 (S : MS) (a : Nat → Int32) (b c : Nat) : scA S (((S.s_madeLength c).s_made a).s_madeLength b) := ⟨a, b, S.host, S.hostLength, S.path, S.pathLength, S.query, S.queryLength, S.neat, S.marks, rfl⟩
theorem scA.tr {S S1 S2 : MS} (h1 : scA S S1) (h2 : scA S1 S2) : scA S S2 := by
  obtain ⟨m, ml, h, hl, p, pl, q, ql, nt, mk, rfl⟩ := h1
  obtain ⟨m2, ml2, h2, hl2, p2, pl2, q2, ql2, nt2, mk2, rfl⟩ := h2
  exact ⟨m2, ml2, h2, hl2, p2, pl2, q2, ql2, nt2, mk2, rfl⟩
def dts (L : List Int32) (k f e : Nat) : Bool := decide (e - f = k) && alp (fun j => decide (gx L j = 46)) f e
/-- the path's pieces, with . and .. taken out -/
def nst (L : List Int32) : Nat → Nat → List (List Int32) → Bool → List (List Int32) × Bool
  | 0, _, Ss, b => (Ss, b)
  | n + 1, f, Ss, b => if f ≤ L.length then (if dts L 2 f (fw (nev 47) L f L.length) = true then nst L n (fw (nev 47) L f L.length + 1) Ss.dropLast true else if dts L 1 f (fw (nev 47) L f L.length) = true then nst L n (fw (nev 47) L f L.length + 1) Ss true else nst L n (fw (nev 47) L f L.length + 1) (Ss ++ [sub L (f - 1) (fw (nev 47) L f L.length)]) false) else (Ss, b)
def nty (q : List (List Int32) × Bool) : List Int32 := q.1.flatten ++ (if q.2 = true then [47] else [])
def ntx (L : List Int32) : List Int32 := nty (nst L L.length 1 [] false)
def h7 : List Int32 := [104, 116, 116, 112, 58, 47, 47]
section NEA
variable {X : am_X} {d : Nat} {A B : List va_E} {S : MS} {L H Qy N : List Int32} {qo : Option Nat}
theorem y3_M_neaten (hA : A.length = 84) (hH1 : S.hostLength = H.length) (hH2 : tx S.host 0 H) (hH3 : H.length ≤ 80) (hHb : btg H) (hq1 : S.queryLength = qo) (hq2 : ∀ k, qo = some k → k = Qy.length) (hq3 : qo = none → Qy = []) (hq4 : tx S.query 0 Qy) (hq5 : Qy.length ≤ 8400) (hqb : btg Qy) (hN1 : tx S.neat 0 N) (hN2 : N.length ≤ 8400) (hNb : btg N) (g0 : Nat → Int32) (hM : S.made = wrt g0 0 (h7 ++ H ++ N)) (hl : S.madeLength = 7 + H.length + N.length) (h200 : 7 + H.length + N.length + Qy.length ≤ 200) : am_G X mt_M_neaten (d + 4) 312 [some (.ref 84), some (.int (nI N.length)), none, none, none, some (.int (nI Qy.length)), none, none] [] (mput A S B) (fun r h1 => ∃ S1, h1 = mput A S1 B ∧ scA S S1 ∧ r = some (.int 1) ∧ S1.madeLength = (h7 ++ H ++ N ++ Qy).length ∧ tx S1.made 0 (h7 ++ H ++ N ++ Qy)) := by
  refine g_aload_n (pc := 312) dc_M_neaten_312 rfl ?_
  refine g_aload_n (pc := 313) dc_M_neaten_313 rfl ?_
  refine g_getfield (pc := 314) dc_M_neaten_314 fl_M_101 (mp_o hA) rfl ?_
  refine g_iload (pc := 317) dc_M_neaten_317 rfl ?_
  refine g_v2 (pc := 319) (M' := mt_M_append) dc_M_neaten_319 mo_M_append im_M_append se_M_append ln_M_127 (mp_o hA) rfl rfl (Nat.le_of_ble_eq_true rfl) (Nat.le_of_ble_eq_true rfl) (am_G.mono (c_M_append_query (S := S) (R := Qy) (m0 := 7 + H.length + N.length) hA hq4 hqb (by omega) (by omega) hl) ?_)
  intro r h1 hq
  rw [hq.1, hq.2]
  clear hq h1 r
  refine ⟨am_nt0, ?_⟩
  refine g_iconst (pc := 322) (v := 1) dc_M_neaten_322 rfl ?_
  exact g_zreturn dc_M_neaten_323 rfl rfl ⟨((S.s_made (wrt S.made (7 + H.length + N.length) Qy)).s_madeLength (7 + H.length + N.length + Qy.length)), rfl, scA.md _ _ _, rfl, by show 7 + H.length + N.length + Qy.length = _; simp [h7]; omega, by show tx (wrt S.made (7 + H.length + N.length) Qy) 0 _; rw [hM, wrt_app g0 0 (h7 ++ H ++ N) Qy (by simp [h7] <;> omega)]; exact wrt_tx _ _ _⟩
theorem y2_M_neaten (hA : A.length = 84) (hH1 : S.hostLength = H.length) (hH2 : tx S.host 0 H) (hH3 : H.length ≤ 80) (hHb : btg H) (hq1 : S.queryLength = qo) (hq2 : ∀ k, qo = some k → k = Qy.length) (hq3 : qo = none → Qy = []) (hq4 : tx S.query 0 Qy) (hq5 : Qy.length ≤ 8400) (hqb : btg Qy) (hN1 : tx S.neat 0 N) (hN2 : N.length ≤ 8400) (hNb : btg N) (g0 : Nat → Int32) (hM : S.made = wrt g0 0 (h7 ++ H)) (hl : S.madeLength = 7 + H.length) (h200 : 7 + H.length + N.length + Qy.length ≤ 200) : am_G X mt_M_neaten (d + 4) 303 [some (.ref 84), some (.int (nI N.length)), none, none, none, some (.int (nI Qy.length)), none, none] [] (mput A S B) (fun r h1 => ∃ S1, h1 = mput A S1 B ∧ scA S S1 ∧ r = some (.int 1) ∧ S1.madeLength = (h7 ++ H ++ N ++ Qy).length ∧ tx S1.made 0 (h7 ++ H ++ N ++ Qy)) := by
  refine g_aload_n (pc := 303) dc_M_neaten_303 rfl ?_
  refine g_aload_n (pc := 304) dc_M_neaten_304 rfl ?_
  refine g_getfield (pc := 305) dc_M_neaten_305 fl_M_122 (mp_o hA) rfl ?_
  refine g_iload_n (pc := 308) dc_M_neaten_308 rfl ?_
  refine g_v2 (pc := 309) (M' := mt_M_append) dc_M_neaten_309 mo_M_append im_M_append se_M_append ln_M_127 (mp_o hA) rfl rfl (Nat.le_of_ble_eq_true rfl) (Nat.le_of_ble_eq_true rfl) (am_G.mono (c_M_append_neat (S := S) (R := N) (m0 := 7 + H.length) hA hN1 hNb (by omega) (by omega) hl) ?_)
  intro r h1 hq
  rw [hq.1, hq.2]
  clear hq h1 r
  refine ⟨am_nt0, ?_⟩
  refine am_G.mono (y3_M_neaten (S := ((S.s_made (wrt S.made (7 + H.length) N)).s_madeLength (7 + H.length + N.length))) hA hH1 hH2 hH3 hHb hq1 hq2 hq3 hq4 hq5 hqb hN1 hN2 hNb g0 (by show wrt S.made (7 + H.length) N = _; rw [hM]; exact wrt_app g0 0 (h7 ++ H) N (by simp [h7] <;> omega)) (by show 7 + H.length + N.length = _; omega) h200) (fun r h1 hq => ?_)
  obtain ⟨S1, q1, q2, q3⟩ := hq
  exact ⟨S1, q1, scA.tr (scA.md _ _ _) q2, q3⟩
theorem y1_M_neaten (hA : A.length = 84) (hH1 : S.hostLength = H.length) (hH2 : tx S.host 0 H) (hH3 : H.length ≤ 80) (hHb : btg H) (hq1 : S.queryLength = qo) (hq2 : ∀ k, qo = some k → k = Qy.length) (hq3 : qo = none → Qy = []) (hq4 : tx S.query 0 Qy) (hq5 : Qy.length ≤ 8400) (hqb : btg Qy) (hN1 : tx S.neat 0 N) (hN2 : N.length ≤ 8400) (hNb : btg N) (g0 : Nat → Int32) (hM : S.made = wrt g0 0 (h7)) (hl : S.madeLength = 7) (h200 : 7 + H.length + N.length + Qy.length ≤ 200) : am_G X mt_M_neaten (d + 4) 291 [some (.ref 84), some (.int (nI N.length)), none, none, none, some (.int (nI Qy.length)), none, none] [] (mput A S B) (fun r h1 => ∃ S1, h1 = mput A S1 B ∧ scA S S1 ∧ r = some (.int 1) ∧ S1.madeLength = (h7 ++ H ++ N ++ Qy).length ∧ tx S1.made 0 (h7 ++ H ++ N ++ Qy)) := by
  refine g_aload_n (pc := 291) dc_M_neaten_291 rfl ?_
  refine g_aload_n (pc := 292) dc_M_neaten_292 rfl ?_
  refine g_getfield (pc := 293) dc_M_neaten_293 fl_M_67 (mp_o hA) rfl ?_
  refine g_aload_n (pc := 296) dc_M_neaten_296 rfl ?_
  refine g_getfield (pc := 297) (v := .int (nI H.length)) dc_M_neaten_297 fl_M_64 (mp_o hA) (congrArg (fun z => some (Value.int (nI z))) hH1) ?_
  refine g_v2 (pc := 300) (M' := mt_M_append) dc_M_neaten_300 mo_M_append im_M_append se_M_append ln_M_127 (mp_o hA) rfl rfl (Nat.le_of_ble_eq_true rfl) (Nat.le_of_ble_eq_true rfl) (am_G.mono (c_M_append_host (S := S) (R := H) (m0 := 7) hA hH2 hHb (by omega) (by omega) hl) ?_)
  intro r h1 hq
  rw [hq.1, hq.2]
  clear hq h1 r
  refine ⟨am_nt0, ?_⟩
  refine am_G.mono (y2_M_neaten (S := ((S.s_made (wrt S.made (7) H)).s_madeLength (7 + H.length))) hA hH1 hH2 hH3 hHb hq1 hq2 hq3 hq4 hq5 hqb hN1 hN2 hNb g0 (by show wrt S.made (7) H = _; rw [hM]; exact wrt_app g0 0 (h7) H (by simp [h7] <;> omega)) (by show 7 + H.length = _; omega) h200) (fun r h1 hq => ?_)
  obtain ⟨S1, q1, q2, q3⟩ := hq
  exact ⟨S1, q1, scA.tr (scA.md _ _ _) q2, q3⟩
theorem uu_M_neaten (hA : A.length = 84) (hH1 : S.hostLength = H.length) (hH2 : tx S.host 0 H) (hH3 : H.length ≤ 80) (hHb : btg H) (hq1 : S.queryLength = qo) (hq2 : ∀ k, qo = some k → k = Qy.length) (hq3 : qo = none → Qy = []) (hq4 : tx S.query 0 Qy) (hq5 : Qy.length ≤ 8400) (hqb : btg Qy) (hN1 : tx S.neat 0 N) (hN2 : N.length ≤ 8400) (hNb : btg N) : am_G X mt_M_neaten (d + 4) 223 [some (.ref 84), some (.int (nI N.length)), none, none, none, none, none, none] [.int (nI Qy.length)] (mput A S B) (fun r h1 => ∃ S1, h1 = mput A S1 B ∧ scA S S1 ∧ if 7 + H.length + (N).length + Qy.length ≤ 200 then r = some (.int 1) ∧ S1.madeLength = (h7 ++ H ++ N ++ Qy).length ∧ tx S1.made 0 (h7 ++ H ++ N ++ Qy) else r = some (.int 0)) := by
  refine g_istore (pc := 223) dc_M_neaten_223 (by decide) ?_
  show am_G X mt_M_neaten _ 225 [some (.ref 84), some (.int (nI N.length)), none, none, none, some (.int (nI Qy.length)), none, none] [] _ _
  refine g_bipush (pc := 225) (v := 7) dc_M_neaten_225 rfl ?_
  refine g_aload_n (pc := 227) dc_M_neaten_227 rfl ?_
  refine g_getfield (pc := 228) (v := .int (nI H.length)) dc_M_neaten_228 fl_M_64 (mp_o hA) (congrArg (fun z => some (Value.int (nI z))) hH1) ?_
  refine g_iadd (pc := 231) (v := (nI (7 + H.length))) dc_M_neaten_231 (nI_add 7 H.length) ?_
  refine g_iload_n (pc := 232) dc_M_neaten_232 rfl ?_
  refine g_iadd (pc := 233) (v := (nI (7 + H.length + N.length))) dc_M_neaten_233 (nI_add (7 + H.length) N.length) ?_
  refine g_iload (pc := 234) dc_M_neaten_234 rfl ?_
  refine g_iadd (pc := 236) (v := (nI (7 + H.length + N.length + Qy.length))) dc_M_neaten_236 (nI_add (7 + H.length + N.length) Qy.length) ?_
  refine g_sipush (pc := 237) (v := 200) dc_M_neaten_237 rfl ?_
  refine q_icmp_le (pc := 240) (tgt := 245) (7 + H.length + N.length + Qy.length) 200 dc_M_neaten_240 (by omega) (by omega) rfl (fun hc240 => ?_) (fun hc240 => ?_)
  · refine g_aload_n (pc := 245) dc_M_neaten_245 rfl ?_
    refine g_iconst (pc := 246) (v := 0) dc_M_neaten_246 rfl ?_
    refine pf_madeLength (pc := 247) (v := 0) hA dc_M_neaten_247 fp_M_neaten_38 ?_
    refine g_ldcS (pc := 250) 30 dc_M_neaten_250 (by decide) rfl rfl ?_
    refine g_xstore (pc := 252) dc_M_neaten_252 (by decide) ?_
    show am_G X mt_M_neaten _ 254 [some (.ref 84), some (.int (nI N.length)), none, none, none, some (.int (nI Qy.length)), some (.retAddr 30), none] [] _ _
    refine g_iconst (pc := 254) (v := 0) dc_M_neaten_254 rfl ?_
    refine g_istore (pc := 255) dc_M_neaten_255 (by decide) ?_
    show am_G X mt_M_neaten _ 257 [some (.ref 84), some (.int (nI N.length)), none, none, none, some (.int (nI Qy.length)), some (.retAddr 30), some (.int 0)] [] _ _
    refine g_iload (pc := 257) dc_M_neaten_257 rfl ?_
    refine g_bipush (pc := 259) (v := 7) dc_M_neaten_259 rfl ?_
    refine g_icmp_ge (pc := 261) (tgt := 285) dc_M_neaten_261 rfl (fun hc => absurd hc (by decide)) (fun _ => ?_)
    refine g_aload_n (pc := 264) dc_M_neaten_264 rfl ?_
    refine g_getfield (pc := 265) dc_M_neaten_265 fl_M_45 (mp_o hA) rfl ?_
    refine g_iload (pc := 268) dc_M_neaten_268 rfl ?_
    refine g_xload (pc := 270) dc_M_neaten_270 rfl ?_
    refine g_iload (pc := 272) dc_M_neaten_272 rfl ?_
    refine g_x1 (pc := 274) (M' := mt_JString_charAt) dc_M_neaten_274 mo_JString_charAt im_JString_charAt se_JString_charAt (am_t8 197 rfl rfl) (by decide) (Nat.le_of_ble_eq_true rfl) (Nat.le_of_ble_eq_true rfl) (am_G.mono (c_charAt (i := 30) (k := 0) (by decide) (by decide)) ?_)
    intro r h1 hq
    rw [hq.1, hq.2]
    clear hq h1 r
    refine ⟨am_nti _, ?_⟩
    rw [show ch 30 0 = 104 from rfl]
    refine g_i2b (pc := 277) dc_M_neaten_277 rfl ?_
    refine asE_made (pc := 278) 0 (g := wrt S.made 0 [104]) hA dc_M_neaten_278 (by omega) (by have h9 := wrt_put (g := S.made) (n := 0) (i := 0) (D := []) (x := 104) (v := 104) rfl rfl; rw [wrt_nil] at h9; exact h9) ?_
    refine g_iinc (pc := 279) (v := 1) dc_M_neaten_279 rfl (by decide) (by decide) ?_
    show am_G X mt_M_neaten _ 282 [some (.ref 84), some (.int (nI N.length)), none, none, none, some (.int (nI Qy.length)), some (.retAddr 30), some (.int 1)] [] _ _
    refine g_goto (pc := 282) (tgt := 257) dc_M_neaten_282 rfl ?_
    refine g_iload (pc := 257) dc_M_neaten_257 rfl ?_
    refine g_bipush (pc := 259) (v := 7) dc_M_neaten_259 rfl ?_
    refine g_icmp_ge (pc := 261) (tgt := 285) dc_M_neaten_261 rfl (fun hc => absurd hc (by decide)) (fun _ => ?_)
    refine g_aload_n (pc := 264) dc_M_neaten_264 rfl ?_
    refine g_getfield (pc := 265) dc_M_neaten_265 fl_M_45 (mp_o hA) rfl ?_
    refine g_iload (pc := 268) dc_M_neaten_268 rfl ?_
    refine g_xload (pc := 270) dc_M_neaten_270 rfl ?_
    refine g_iload (pc := 272) dc_M_neaten_272 rfl ?_
    refine g_x1 (pc := 274) (M' := mt_JString_charAt) dc_M_neaten_274 mo_JString_charAt im_JString_charAt se_JString_charAt (am_t8 197 rfl rfl) (by decide) (Nat.le_of_ble_eq_true rfl) (Nat.le_of_ble_eq_true rfl) (am_G.mono (c_charAt (i := 30) (k := 1) (by decide) (by decide)) ?_)
    intro r h1 hq
    rw [hq.1, hq.2]
    clear hq h1 r
    refine ⟨am_nti _, ?_⟩
    rw [show ch 30 1 = 116 from rfl]
    refine g_i2b (pc := 277) dc_M_neaten_277 rfl ?_
    refine asE_made (pc := 278) 1 (g := wrt S.made 0 [104, 116]) hA dc_M_neaten_278 (by omega) (wrt_put (g := S.made) (n := 0) (D := [104]) rfl rfl) ?_
    rw [MS.ss_made]
    refine g_iinc (pc := 279) (v := 2) dc_M_neaten_279 rfl (by decide) (by decide) ?_
    show am_G X mt_M_neaten _ 282 [some (.ref 84), some (.int (nI N.length)), none, none, none, some (.int (nI Qy.length)), some (.retAddr 30), some (.int 2)] [] _ _
    refine g_goto (pc := 282) (tgt := 257) dc_M_neaten_282 rfl ?_
    refine g_iload (pc := 257) dc_M_neaten_257 rfl ?_
    refine g_bipush (pc := 259) (v := 7) dc_M_neaten_259 rfl ?_
    refine g_icmp_ge (pc := 261) (tgt := 285) dc_M_neaten_261 rfl (fun hc => absurd hc (by decide)) (fun _ => ?_)
    refine g_aload_n (pc := 264) dc_M_neaten_264 rfl ?_
    refine g_getfield (pc := 265) dc_M_neaten_265 fl_M_45 (mp_o hA) rfl ?_
    refine g_iload (pc := 268) dc_M_neaten_268 rfl ?_
    refine g_xload (pc := 270) dc_M_neaten_270 rfl ?_
    refine g_iload (pc := 272) dc_M_neaten_272 rfl ?_
    refine g_x1 (pc := 274) (M' := mt_JString_charAt) dc_M_neaten_274 mo_JString_charAt im_JString_charAt se_JString_charAt (am_t8 197 rfl rfl) (by decide) (Nat.le_of_ble_eq_true rfl) (Nat.le_of_ble_eq_true rfl) (am_G.mono (c_charAt (i := 30) (k := 2) (by decide) (by decide)) ?_)
    intro r h1 hq
    rw [hq.1, hq.2]
    clear hq h1 r
    refine ⟨am_nti _, ?_⟩
    rw [show ch 30 2 = 116 from rfl]
    refine g_i2b (pc := 277) dc_M_neaten_277 rfl ?_
    refine asE_made (pc := 278) 2 (g := wrt S.made 0 [104, 116, 116]) hA dc_M_neaten_278 (by omega) (wrt_put (g := S.made) (n := 0) (D := [104, 116]) rfl rfl) ?_
    rw [MS.ss_made]
    refine g_iinc (pc := 279) (v := 3) dc_M_neaten_279 rfl (by decide) (by decide) ?_
    show am_G X mt_M_neaten _ 282 [some (.ref 84), some (.int (nI N.length)), none, none, none, some (.int (nI Qy.length)), some (.retAddr 30), some (.int 3)] [] _ _
    refine g_goto (pc := 282) (tgt := 257) dc_M_neaten_282 rfl ?_
    refine g_iload (pc := 257) dc_M_neaten_257 rfl ?_
    refine g_bipush (pc := 259) (v := 7) dc_M_neaten_259 rfl ?_
    refine g_icmp_ge (pc := 261) (tgt := 285) dc_M_neaten_261 rfl (fun hc => absurd hc (by decide)) (fun _ => ?_)
    refine g_aload_n (pc := 264) dc_M_neaten_264 rfl ?_
    refine g_getfield (pc := 265) dc_M_neaten_265 fl_M_45 (mp_o hA) rfl ?_
    refine g_iload (pc := 268) dc_M_neaten_268 rfl ?_
    refine g_xload (pc := 270) dc_M_neaten_270 rfl ?_
    refine g_iload (pc := 272) dc_M_neaten_272 rfl ?_
    refine g_x1 (pc := 274) (M' := mt_JString_charAt) dc_M_neaten_274 mo_JString_charAt im_JString_charAt se_JString_charAt (am_t8 197 rfl rfl) (by decide) (Nat.le_of_ble_eq_true rfl) (Nat.le_of_ble_eq_true rfl) (am_G.mono (c_charAt (i := 30) (k := 3) (by decide) (by decide)) ?_)
    intro r h1 hq
    rw [hq.1, hq.2]
    clear hq h1 r
    refine ⟨am_nti _, ?_⟩
    rw [show ch 30 3 = 112 from rfl]
    refine g_i2b (pc := 277) dc_M_neaten_277 rfl ?_
    refine asE_made (pc := 278) 3 (g := wrt S.made 0 [104, 116, 116, 112]) hA dc_M_neaten_278 (by omega) (wrt_put (g := S.made) (n := 0) (D := [104, 116, 116]) rfl rfl) ?_
    rw [MS.ss_made]
    refine g_iinc (pc := 279) (v := 4) dc_M_neaten_279 rfl (by decide) (by decide) ?_
    show am_G X mt_M_neaten _ 282 [some (.ref 84), some (.int (nI N.length)), none, none, none, some (.int (nI Qy.length)), some (.retAddr 30), some (.int 4)] [] _ _
    refine g_goto (pc := 282) (tgt := 257) dc_M_neaten_282 rfl ?_
    refine g_iload (pc := 257) dc_M_neaten_257 rfl ?_
    refine g_bipush (pc := 259) (v := 7) dc_M_neaten_259 rfl ?_
    refine g_icmp_ge (pc := 261) (tgt := 285) dc_M_neaten_261 rfl (fun hc => absurd hc (by decide)) (fun _ => ?_)
    refine g_aload_n (pc := 264) dc_M_neaten_264 rfl ?_
    refine g_getfield (pc := 265) dc_M_neaten_265 fl_M_45 (mp_o hA) rfl ?_
    refine g_iload (pc := 268) dc_M_neaten_268 rfl ?_
    refine g_xload (pc := 270) dc_M_neaten_270 rfl ?_
    refine g_iload (pc := 272) dc_M_neaten_272 rfl ?_
    refine g_x1 (pc := 274) (M' := mt_JString_charAt) dc_M_neaten_274 mo_JString_charAt im_JString_charAt se_JString_charAt (am_t8 197 rfl rfl) (by decide) (Nat.le_of_ble_eq_true rfl) (Nat.le_of_ble_eq_true rfl) (am_G.mono (c_charAt (i := 30) (k := 4) (by decide) (by decide)) ?_)
    intro r h1 hq
    rw [hq.1, hq.2]
    clear hq h1 r
    refine ⟨am_nti _, ?_⟩
    rw [show ch 30 4 = 58 from rfl]
    refine g_i2b (pc := 277) dc_M_neaten_277 rfl ?_
    refine asE_made (pc := 278) 4 (g := wrt S.made 0 [104, 116, 116, 112, 58]) hA dc_M_neaten_278 (by omega) (wrt_put (g := S.made) (n := 0) (D := [104, 116, 116, 112]) rfl rfl) ?_
    rw [MS.ss_made]
    refine g_iinc (pc := 279) (v := 5) dc_M_neaten_279 rfl (by decide) (by decide) ?_
    show am_G X mt_M_neaten _ 282 [some (.ref 84), some (.int (nI N.length)), none, none, none, some (.int (nI Qy.length)), some (.retAddr 30), some (.int 5)] [] _ _
    refine g_goto (pc := 282) (tgt := 257) dc_M_neaten_282 rfl ?_
    refine g_iload (pc := 257) dc_M_neaten_257 rfl ?_
    refine g_bipush (pc := 259) (v := 7) dc_M_neaten_259 rfl ?_
    refine g_icmp_ge (pc := 261) (tgt := 285) dc_M_neaten_261 rfl (fun hc => absurd hc (by decide)) (fun _ => ?_)
    refine g_aload_n (pc := 264) dc_M_neaten_264 rfl ?_
    refine g_getfield (pc := 265) dc_M_neaten_265 fl_M_45 (mp_o hA) rfl ?_
    refine g_iload (pc := 268) dc_M_neaten_268 rfl ?_
    refine g_xload (pc := 270) dc_M_neaten_270 rfl ?_
    refine g_iload (pc := 272) dc_M_neaten_272 rfl ?_
    refine g_x1 (pc := 274) (M' := mt_JString_charAt) dc_M_neaten_274 mo_JString_charAt im_JString_charAt se_JString_charAt (am_t8 197 rfl rfl) (by decide) (Nat.le_of_ble_eq_true rfl) (Nat.le_of_ble_eq_true rfl) (am_G.mono (c_charAt (i := 30) (k := 5) (by decide) (by decide)) ?_)
    intro r h1 hq
    rw [hq.1, hq.2]
    clear hq h1 r
    refine ⟨am_nti _, ?_⟩
    rw [show ch 30 5 = 47 from rfl]
    refine g_i2b (pc := 277) dc_M_neaten_277 rfl ?_
    refine asE_made (pc := 278) 5 (g := wrt S.made 0 [104, 116, 116, 112, 58, 47]) hA dc_M_neaten_278 (by omega) (wrt_put (g := S.made) (n := 0) (D := [104, 116, 116, 112, 58]) rfl rfl) ?_
    rw [MS.ss_made]
    refine g_iinc (pc := 279) (v := 6) dc_M_neaten_279 rfl (by decide) (by decide) ?_
    show am_G X mt_M_neaten _ 282 [some (.ref 84), some (.int (nI N.length)), none, none, none, some (.int (nI Qy.length)), some (.retAddr 30), some (.int 6)] [] _ _
    refine g_goto (pc := 282) (tgt := 257) dc_M_neaten_282 rfl ?_
    refine g_iload (pc := 257) dc_M_neaten_257 rfl ?_
    refine g_bipush (pc := 259) (v := 7) dc_M_neaten_259 rfl ?_
    refine g_icmp_ge (pc := 261) (tgt := 285) dc_M_neaten_261 rfl (fun hc => absurd hc (by decide)) (fun _ => ?_)
    refine g_aload_n (pc := 264) dc_M_neaten_264 rfl ?_
    refine g_getfield (pc := 265) dc_M_neaten_265 fl_M_45 (mp_o hA) rfl ?_
    refine g_iload (pc := 268) dc_M_neaten_268 rfl ?_
    refine g_xload (pc := 270) dc_M_neaten_270 rfl ?_
    refine g_iload (pc := 272) dc_M_neaten_272 rfl ?_
    refine g_x1 (pc := 274) (M' := mt_JString_charAt) dc_M_neaten_274 mo_JString_charAt im_JString_charAt se_JString_charAt (am_t8 197 rfl rfl) (by decide) (Nat.le_of_ble_eq_true rfl) (Nat.le_of_ble_eq_true rfl) (am_G.mono (c_charAt (i := 30) (k := 6) (by decide) (by decide)) ?_)
    intro r h1 hq
    rw [hq.1, hq.2]
    clear hq h1 r
    refine ⟨am_nti _, ?_⟩
    rw [show ch 30 6 = 47 from rfl]
    refine g_i2b (pc := 277) dc_M_neaten_277 rfl ?_
    refine asE_made (pc := 278) 6 (g := wrt S.made 0 [104, 116, 116, 112, 58, 47, 47]) hA dc_M_neaten_278 (by omega) (wrt_put (g := S.made) (n := 0) (D := [104, 116, 116, 112, 58, 47]) rfl rfl) ?_
    rw [MS.ss_made]
    refine g_iinc (pc := 279) (v := 7) dc_M_neaten_279 rfl (by decide) (by decide) ?_
    show am_G X mt_M_neaten _ 282 [some (.ref 84), some (.int (nI N.length)), none, none, none, some (.int (nI Qy.length)), some (.retAddr 30), some (.int 7)] [] _ _
    refine g_goto (pc := 282) (tgt := 257) dc_M_neaten_282 rfl ?_
    refine g_iload (pc := 257) dc_M_neaten_257 rfl ?_
    refine g_bipush (pc := 259) (v := 7) dc_M_neaten_259 rfl ?_
    refine g_icmp_ge (pc := 261) (tgt := 285) dc_M_neaten_261 rfl (fun _ => ?_) (fun hc => absurd hc (by decide))
    refine g_aload_n (pc := 285) dc_M_neaten_285 rfl ?_
    refine g_bipush (pc := 286) (v := 7) dc_M_neaten_286 rfl ?_
    refine pf_madeLength (pc := 288) (v := 7) hA dc_M_neaten_288 fp_M_neaten_38 ?_
    refine am_wk (am_le_s (am_le_s (am_le_n (am_le_n (am_le_n (am_le_s (am_le_n (am_le_n am_le_0)))))))) ?_
    refine am_G.mono (y1_M_neaten (S := (((S.s_madeLength 0).s_made (wrt S.made 0 [104, 116, 116, 112, 58, 47, 47])).s_madeLength 7)) hA hH1 hH2 hH3 hHb hq1 hq2 hq3 hq4 hq5 hqb hN1 hN2 hNb S.made rfl rfl (by omega)) (fun r h1 hq => ?_)
    obtain ⟨S1, q1, q2, q3, q4, q5⟩ := hq
    exact ⟨S1, q1, scA.tr (scA.md2 _ _ _ _) q2, by rw [if_pos (by omega)]; exact ⟨q3, q4, q5⟩⟩
  · refine g_iconst (pc := 243) (v := 0) dc_M_neaten_243 rfl ?_
    exact g_zreturn dc_M_neaten_244 rfl rfl ⟨S, rfl, scA.rf S, by rw [if_neg (by omega)]⟩
theorem u_M_neaten (hA : A.length = 84) (hH1 : S.hostLength = H.length) (hH2 : tx S.host 0 H) (hH3 : H.length ≤ 80) (hHb : btg H) (hq1 : S.queryLength = qo) (hq2 : ∀ k, qo = some k → k = Qy.length) (hq3 : qo = none → Qy = []) (hq4 : tx S.query 0 Qy) (hq5 : Qy.length ≤ 8400) (hqb : btg Qy) (hN1 : tx S.neat 0 N) (hN2 : N.length ≤ 8400) (hNb : btg N) : am_G X mt_M_neaten (d + 4) 208 [some (.ref 84), some (.int (nI N.length)), none, none, none, none, none, none] [] (mput A S B) (fun r h1 => ∃ S1, h1 = mput A S1 B ∧ scA S S1 ∧ if 7 + H.length + (N).length + Qy.length ≤ 200 then r = some (.int 1) ∧ S1.madeLength = (h7 ++ H ++ N ++ Qy).length ∧ tx S1.made 0 (h7 ++ H ++ N ++ Qy) else r = some (.int 0)) := by
  have hqob : ∀ k, qo = some k → k < 2 ^ 31 := fun k hk => by have := hq2 k hk; omega
  refine g_aload_n (pc := 208) dc_M_neaten_208 rfl ?_
  refine g_getfield (pc := 209) (v := .int (er qo)) dc_M_neaten_209 fl_M_104 (mp_o hA) (congrArg (fun z => some (Value.int (er z))) hq1) ?_
  refine q_o_ge (pc := 212) (tgt := 219) dc_M_neaten_212 hqob rfl (fun k212 hc212 => ?_) (fun hc212 => ?_)
  · have hk212 := hqob k212 hc212
    refine g_aload_n (pc := 219) dc_M_neaten_219 rfl ?_
    refine g_getfield (pc := 220) (v := .int (er qo)) dc_M_neaten_220 fl_M_104 (mp_o hA) (congrArg (fun z => some (Value.int (er z))) hq1) ?_
    have hQ : k212 = Qy.length := hq2 k212 hc212
    rw [hc212, hQ]
    exact uu_M_neaten hA hH1 hH2 hH3 hHb hq1 hq2 hq3 hq4 hq5 hqb hN1 hN2 hNb
  · refine g_iconst (pc := 215) (v := 0) dc_M_neaten_215 rfl ?_
    refine g_goto (pc := 216) (tgt := 223) dc_M_neaten_216 rfl ?_
    have hQ : Qy = [] := hq3 hc212
    have h9 := uu_M_neaten (X := X) (d := d) (B := B) hA hH1 hH2 hH3 hHb hq1 hq2 hq3 hq4 hq5 hqb hN1 hN2 hNb
    rw [show Qy.length = 0 by rw [hQ]; rfl] at h9
    rw [show Qy.length = 0 by rw [hQ]; rfl]
    exact h9
end NEA
section NEB
variable {L : List Int32}
theorem nst_more : ∀ (n m f : Nat) (Ss : List (List Int32)) (b : Bool), L.length + 1 - f ≤ n → L.length + 1 - f ≤ m → nst L n f Ss b = nst L m f Ss b
  | 0, 0, f, Ss, b, _, _ => rfl
  | 0, m + 1, f, Ss, b, h1, h2 => by
    show (Ss, b) = (if f ≤ L.length then _ else (Ss, b))
    rw [if_neg (by omega)]
  | n + 1, 0, f, Ss, b, h1, h2 => by
    show (if f ≤ L.length then _ else (Ss, b)) = (Ss, b)
    rw [if_neg (by omega)]
  | n + 1, m + 1, f, Ss, b, h1, h2 => by
    have hb := fw_ge (p := nev 47) (L := L) f L.length
    unfold nst
    by_cases h : f ≤ L.length
    · rw [if_pos h, if_pos h, nst_more n m _ Ss.dropLast true (by omega) (by omega), nst_more n m _ Ss true (by omega) (by omega), nst_more n m _ _ false (by omega) (by omega)]
    · rw [if_neg h, if_neg h]
end NEB
section NEC
variable {X : am_X} {d : Nat} {A B : List va_E} {L H Qy : List Int32} {qo : Option Nat}
theorem w_M_neaten {Q : Option Value → List va_E → Prop} {S : MS} {p a e sg f : Nat} {bb : Option Value} {g0 : Nat → Int32} (hA : A.length = 84) (hP : tx S.path 0 L) (hLl : L.length ≤ 8400) (hLb : btg L) (he : e ≤ L.length) (hpa : p + (e - a) ≤ 8400) : ∀ q k : Nat, k + q = e → a ≤ k → am_G X mt_M_neaten (d + 4) 155 [some (.ref 84), some (.int (nI (p + (e - a)))), some (.int (nI sg)), bb, some (.int (nI f)), some (.int (nI e)), some (.int (nI e)), none] [] (mput A (S.s_neat (wrt g0 p (sub L a e))) B) Q → am_G X mt_M_neaten (d + 4) 155 [some (.ref 84), some (.int (nI (p + (k - a)))), some (.int (nI sg)), bb, some (.int (nI f)), some (.int (nI e)), some (.int (nI k)), none] [] (mput A (S.s_neat (wrt g0 p (sub L a k))) B) Q
  | 0, k, e9, hk, K => by
    obtain rfl : k = e := by omega
    exact K
  | q + 1, k, e9, hk, K => by
    refine g_iload (pc := 155) dc_M_neaten_155 rfl ?_
    refine g_iload (pc := 157) dc_M_neaten_157 rfl ?_
    refine q_icmp_ge (pc := 159) (tgt := 184) k e dc_M_neaten_159 (by omega) (by omega) rfl (fun hc => absurd hc (by omega)) (fun hc159 => ?_)
    refine g_aload_n (pc := 162) dc_M_neaten_162 rfl ?_
    refine g_getfield (pc := 163) dc_M_neaten_163 fl_M_122 (mp_o hA) rfl ?_
    refine g_iload_n (pc := 166) dc_M_neaten_166 rfl ?_
    refine g_aload_n (pc := 167) dc_M_neaten_167 rfl ?_
    refine g_getfield (pc := 168) dc_M_neaten_168 fl_M_91 (mp_o hA) rfl ?_
    refine g_iload (pc := 171) dc_M_neaten_171 rfl ?_
    refine q_tx0 (pc := 173) k dc_M_neaten_173 (mp_a hA 8 rfl) hP (by omega) (by omega) (by omega) ?_
    refine asE_neat (pc := 174) (p + (k - a)) (g := wrt g0 p (sub L a (k + 1))) hA dc_M_neaten_174 (by omega) (by rw [sub_snoc hk (by omega)]; exact wrt_put (nar_bt (hLb k)) (by rw [sub_len (by omega)])) ?_
    rw [MS.ss_neat]
    refine g_iinc (pc := 175) (v := (nI (p + (k + 1 - a)))) dc_M_neaten_175 rfl ((nI_add (p + (k - a)) 1).trans (congrArg nI (by omega))) (by decide) ?_
    refine g_iinc (pc := 178) (v := (nI (k + 1))) dc_M_neaten_178 rfl (nI_add k 1) (by decide) ?_
    refine g_goto (pc := 181) (tgt := 155) dc_M_neaten_181 rfl ?_
    exact w_M_neaten hA hP hLl hLb he hpa q (k + 1) (by omega) (by omega) K
end NEC
