/-! ===== the model's readReference, behind the scheme ===== -/
def okT (T : List (List Int32)) : Prop := ∀ k, k < T.length → btg (gT T k) ∧ 8 ≤ hen (gT T k) ∧ hen (gT T k) < (gT T k).length ∧ hen (gT T k) ≤ 80
theorem bmk_bd {D : List Int32} (h : hen D ≤ D.length) : hen D ≤ bmk D ∧ bmk D ≤ D.length := fw_bd h
theorem bsP_i {L D : List Int32} {f t : Nat} (hL : btg L) (hD : btg D) (hft : f ≤ t) (ht : t ≤ L.length) (hh : hen D ≤ D.length) : btg (bsP L f t D) ∧ (bsP L f t D).length ≤ D.length + (t - f) := by
  have hm := fw_bd (p := nev 63) (L := L) hft
  have hb := bmk_bd hh
  have hw := bw_bd (p := nev 47) (L := D) hb.1
  have u1 := uf_len (L := D) (t := bmk D) (bmk D - hen D) (hen D) (Nat.le_refl _)
  have u2 := uf_len (L := L) (t := fw (nev 63) L f t) (fw (nev 63) L f t - f) f (Nat.le_refl _)
  have u3 := uf_len (L := D) (t := bw (nev 47) D (hen D) (bmk D)) (bw (nev 47) D (hen D) (bmk D) - hen D) (hen D) (Nat.le_refl _)
  unfold bsP
  split
  · exact ⟨btg_uf hD _ _ (Nat.le_refl _), by omega⟩
  · split
    · exact ⟨btg_uf hL _ _ (Nat.le_refl _), by omega⟩
    · exact ⟨btg_app (btg_uf hD _ _ (Nat.le_refl _)) (btg_uf hL _ _ (Nat.le_refl _)), by rw [List.length_append]; omega⟩
theorem bsQ_i {L D : List Int32} {f t : Nat} (hL : btg L) (hD : btg D) (hft : f ≤ t) (hh : hen D ≤ D.length) : btg ((bsQ L f t D).getD []) ∧ ((bsQ L f t D).getD []).length ≤ D.length + (t - f) := by
  have hm := fw_bd (p := nev 63) (L := L) hft
  have hb := bmk_bd hh
  have u1 := uf_len (L := D) (t := D.length) (D.length - bmk D) (bmk D) (Nat.le_refl _)
  have u2 := uf_len (L := L) (t := t) (t - fw (nev 63) L f t) (fw (nev 63) L f t) (Nat.le_refl _)
  unfold bsQ
  split
  · exact ⟨btg_uf hL _ _ (Nat.le_refl _), by show (uf L _ t).length ≤ _; omega⟩
  · split
    · exact ⟨btg_uf hD _ _ (Nat.le_refl _), by show (uf D _ D.length).length ≤ _; omega⟩
    · exact ⟨btg_nil, Nat.zero_le _⟩
theorem mrs_n {L : List Int32} {f t : Nat} (h : ¬ (f + 1 < t ∧ gx L f = 47 ∧ gx L (f + 1) = 47)) : mrs L f t none = none := by unfold mrs; rw [if_neg h]
theorem mrs_s {L D : List Int32} {f t : Nat} (h : ¬ (f + 1 < t ∧ gx L f = 47 ∧ gx L (f + 1) = 47)) : mrs L f t (some D) = fin (sub D 7 (hen D)) (bsP L f t D) (bsQ L f t D) := by unfold mrs; rw [if_neg h]
section MRS
variable {X : am_X} {d s t ca f k : Nat} {A B : List va_E} {S : MS} {L : List Int32} {T : List (List Int32)} {bo : Option Nat}
theorem h_M_readReference (hA : A.length = 84) (hT : adT S T) (hO : okT T) (hX : txO A B S ca s L) (hca : ca ≠ 92 ∧ ca ≠ 93) (hbL : btg L) (hft : f ≤ t) (ht : t ≤ L.length) (hL8 : L.length ≤ 8000) (hbo : ∀ k, bo = some k → k < T.length) {H : List Int32} (hm : mho L (f + 2) t = some H) (h1 : f + 1 < t) (h2 : gx L f = 47) (h3 : gx L (f + 1) = 47) (hS1 : S.hostLength = H.length) (hS2 : tx S.host 0 H) : am_G X mt_M_readReference (d + 5) 238 [some (.ref 84), some (.ref ca), none, none, none, some (.int (nI (s + f))), some (.int (nI (s + t))), none, none, none, none] [.int (nI (s + hst L (f + 2) t))] (mput A S B) (fun r h1 => ∃ S1, h1 = mput A S1 B ∧ scA S S1 ∧ match mrs L f t (bo.map (gT T)) with | some D => r = some (.int 1) ∧ mad S1 D | none => r = some (.int 0)) := by
  have hst1 := hst_bd (L := L) (f := f + 2) (t := t) (by omega)
  have hmk := fw_bd (p := nev 63) (L := L) (f := hst L (f + 2) t) (t := t) hst1.2
  have hH := mho_i hbL (by omega) ht hm
  have hbs : s + L.length < 2 ^ 30 := by obtain ⟨cp, g, -, -, q1, q2⟩ := hX.tt; omega
  have u1 := uf_len (L := L) (t := fw (nev 63) L (hst L (f + 2) t) t) (fw (nev 63) L (hst L (f + 2) t) t - hst L (f + 2) t) (hst L (f + 2) t) (Nat.le_refl _)
  have u2 := uf_len (L := L) (t := t) (t - fw (nev 63) L (hst L (f + 2) t) t) (fw (nev 63) L (hst L (f + 2) t) t) (Nat.le_refl _)
  have hms : mrs L f t (bo.map (gT T)) = fin H (uf L (hst L (f + 2) t) (fw (nev 63) L (hst L (f + 2) t) t)) (if fw (nev 63) L (hst L (f + 2) t) t < t then some (uf L (fw (nev 63) L (hst L (f + 2) t) t) t) else none) := by
    unfold mrs
    rw [if_pos ⟨h1, h2, h3⟩, hm]
  rw [hms]
  refine g_istore (pc := 238) dc_M_readReference_238 (by decide) ?_
  show am_G X mt_M_readReference _ 240 [some (.ref 84), some (.ref ca), none, none, none, some (.int (nI (s + f))), some (.int (nI (s + t))), none, none, none, some (.int (nI (s + (hst L (f + 2) t))))] [] _ _
  refine g_iload (pc := 240) dc_M_readReference_240 rfl ?_
  refine q_if_ge (pc := 242) (tgt := 247) (s + (hst L (f + 2) t)) dc_M_readReference_242 (by omega) rfl ?_
  refine g_aload_n (pc := 247) dc_M_readReference_247 rfl ?_
  refine g_iload (pc := 248) dc_M_readReference_248 rfl ?_
  refine g_iload (pc := 250) dc_M_readReference_250 rfl ?_
  refine g_bipush (pc := 252) (v := 63) dc_M_readReference_252 rfl ?_
  refine g_s4 (pc := 254) (M' := mt_M_seek) dc_M_readReference_254 mo_M_seek st_M_seek ln_M_48 (Nat.le_of_ble_eq_true rfl) (Nat.le_of_ble_eq_true rfl) (am_G.mono (t_M_seek (v := 63) (f := hst L (f + 2) t) (t := t) hX.tt (by omega) (by omega)) ?_)
  intro r h1 hq
  rw [hq.1, hq.2]
  clear hq h1 r
  refine ⟨am_nti _, ?_⟩
  have hb254 := fw_bd (p := nev 63) (L := L) (f := hst L (f + 2) t) (t := t) (by omega)
  refine g_istore (pc := 257) dc_M_readReference_257 (by decide) ?_
  show am_G X mt_M_readReference _ 259 [some (.ref 84), some (.ref ca), none, none, none, some (.int (nI (s + f))), some (.int (nI (s + t))), none, none, some (.int (nI (s + (fw (nev 63) L (hst L (f + 2) t) t)))), some (.int (nI (s + (hst L (f + 2) t))))] [] _ _
  refine g_aload_n (pc := 259) dc_M_readReference_259 rfl ?_
  refine g_aload_n (pc := 260) dc_M_readReference_260 rfl ?_
  refine g_iload (pc := 261) dc_M_readReference_261 rfl ?_
  refine g_iload (pc := 263) dc_M_readReference_263 rfl ?_
  refine g_aload_n (pc := 265) dc_M_readReference_265 rfl ?_
  refine g_getfield (pc := 266) dc_M_readReference_266 fl_M_91 (mp_o hA) rfl ?_
  refine g_iconst (pc := 269) (v := 0) dc_M_readReference_269 rfl ?_
  refine g_s5 (pc := 270) (M' := mt_M_unfold) dc_M_readReference_270 mo_M_unfold st_M_unfold ln_M_94 (Nat.le_of_ble_eq_true rfl) (Nat.le_of_ble_eq_true rfl) (am_G.mono (c_M_unfold_path (d := d + 2) (S := S) (L := L) (f := hst L (f + 2) t) (t := fw (nev 63) L (hst L (f + 2) t) t) (n := 0) (a := ca) (s := s) hA hbL (by omega) (by omega) (by omega) hX.tt (by omega)) ?_)
  intro r h1 hq
  rw [hq.1, hq.2]
  clear hq h1 r
  refine ⟨am_nti _, ?_⟩
  rw [Nat.zero_add]
  refine pf_pathLength (pc := 273) (v := (uf L (hst L (f + 2) t) (fw (nev 63) L (hst L (f + 2) t) t)).length) hA dc_M_readReference_273 fp_M_readReference_98 ?_
  refine g_aload_n (pc := 276) dc_M_readReference_276 rfl ?_
  refine g_iload (pc := 277) dc_M_readReference_277 rfl ?_
  refine g_iload (pc := 279) dc_M_readReference_279 rfl ?_
  refine q_icmp_ge (pc := 281) (tgt := 300) (s + (fw (nev 63) L (hst L (f + 2) t) t)) (s + t) dc_M_readReference_281 (by omega) (by omega) rfl (fun hc281 => ?_) (fun hc281 => ?_)
  · refine g_iconst (pc := 300) (v := (-1)) dc_M_readReference_300 rfl ?_
    refine pf_queryLength (pc := 301) (v := none) hA dc_M_readReference_301 fp_M_readReference_104 ?_
    refine g_goto (pc := 304) (tgt := 325) dc_M_readReference_304 rfl ?_
    rw [if_neg (by omega)]
    have hsc : scA S (((S.s_path (wrt S.path 0 (uf L (hst L (f + 2) t) (fw (nev 63) L (hst L (f + 2) t) t)))).s_pathLength (uf L (hst L (f + 2) t) (fw (nev 63) L (hst L (f + 2) t) t)).length).s_queryLength none) := scA.tr (S1 := ((S.s_path (wrt S.path 0 (uf L (hst L (f + 2) t) (fw (nev 63) L (hst L (f + 2) t) t)))).s_pathLength (uf L (hst L (f + 2) t) (fw (nev 63) L (hst L (f + 2) t) t)).length)) (scA.pa S _ _) (scA.ql ((S.s_path (wrt S.path 0 (uf L (hst L (f + 2) t) (fw (nev 63) L (hst L (f + 2) t) t)))).s_pathLength (uf L (hst L (f + 2) t) (fw (nev 63) L (hst L (f + 2) t) t)).length) _)
    have k1 : (((S.s_path (wrt S.path 0 (uf L (hst L (f + 2) t) (fw (nev 63) L (hst L (f + 2) t) t)))).s_pathLength (uf L (hst L (f + 2) t) (fw (nev 63) L (hst L (f + 2) t) t)).length).s_queryLength none).hostLength = H.length := ((MS.g_hostLength_queryLength _ _).trans ((MS.g_hostLength_pathLength _ _).trans ((MS.g_hostLength_path _ _).trans hS1)))
    have k2 : tx (((S.s_path (wrt S.path 0 (uf L (hst L (f + 2) t) (fw (nev 63) L (hst L (f + 2) t) t)))).s_pathLength (uf L (hst L (f + 2) t) (fw (nev 63) L (hst L (f + 2) t) t)).length).s_queryLength none).host 0 H := tx_eq ((MS.g_host_queryLength _ _).trans ((MS.g_host_pathLength _ _).trans ((MS.g_host_path _ _).trans rfl))) hS2
    have k3 : (((S.s_path (wrt S.path 0 (uf L (hst L (f + 2) t) (fw (nev 63) L (hst L (f + 2) t) t)))).s_pathLength (uf L (hst L (f + 2) t) (fw (nev 63) L (hst L (f + 2) t) t)).length).s_queryLength none).pathLength = (uf L (hst L (f + 2) t) (fw (nev 63) L (hst L (f + 2) t) t)).length := ((MS.g_pathLength_queryLength _ _).trans (MS.g_pathLength_pathLength _ _))
    have k4 : tx (((S.s_path (wrt S.path 0 (uf L (hst L (f + 2) t) (fw (nev 63) L (hst L (f + 2) t) t)))).s_pathLength (uf L (hst L (f + 2) t) (fw (nev 63) L (hst L (f + 2) t) t)).length).s_queryLength none).path 0 (uf L (hst L (f + 2) t) (fw (nev 63) L (hst L (f + 2) t) t)) := tx_eq ((MS.g_path_queryLength _ _).trans ((MS.g_path_pathLength _ _).trans (MS.g_path_path _ _))) (wrt_tx _ _ _)
    have k5 : (((S.s_path (wrt S.path 0 (uf L (hst L (f + 2) t) (fw (nev 63) L (hst L (f + 2) t) t)))).s_pathLength (uf L (hst L (f + 2) t) (fw (nev 63) L (hst L (f + 2) t) t)).length).s_queryLength none).queryLength = (none : Option (List Int32)).map List.length := MS.g_queryLength_queryLength _ _
    have k6 : tx (((S.s_path (wrt S.path 0 (uf L (hst L (f + 2) t) (fw (nev 63) L (hst L (f + 2) t) t)))).s_pathLength (uf L (hst L (f + 2) t) (fw (nev 63) L (hst L (f + 2) t) t)).length).s_queryLength none).query 0 ((none : Option (List Int32)).getD []) := (fun j hj => absurd hj (Nat.not_lt_zero j))
    refine am_wk (am_le_s (am_le_n (am_le_n (am_le_n (am_le_n (am_le_n (am_le_n (am_le_n (am_le_n (am_le_n (am_le_n am_le_0))))))))))) ?_
    refine am_G.mono (f_M_readReference (d := d) (S := (((S.s_path (wrt S.path 0 (uf L (hst L (f + 2) t) (fw (nev 63) L (hst L (f + 2) t) t)))).s_pathLength (uf L (hst L (f + 2) t) (fw (nev 63) L (hst L (f + 2) t) t)).length).s_queryLength none)) (H := H) (P := uf L (hst L (f + 2) t) (fw (nev 63) L (hst L (f + 2) t) t)) (q := none) hA k1 k2 ⟨hH.1, by omega⟩ hH.2.2 k3 k4 (by omega) (btg_uf hbL _ _ (Nat.le_refl _)) k5 k6 (Nat.zero_le _) (btg_nil)) (fun r h1 hq => ?_)
    obtain ⟨S1, q1, q2, q3⟩ := hq
    exact ⟨S1, q1, scA.tr hsc q2, q3⟩
  · refine g_aload_n (pc := 284) dc_M_readReference_284 rfl ?_
    refine g_iload (pc := 285) dc_M_readReference_285 rfl ?_
    refine g_iload (pc := 287) dc_M_readReference_287 rfl ?_
    refine g_aload_n (pc := 289) dc_M_readReference_289 rfl ?_
    refine g_getfield (pc := 290) dc_M_readReference_290 fl_M_101 (mp_o hA) rfl ?_
    refine g_iconst (pc := 293) (v := 0) dc_M_readReference_293 rfl ?_
    refine g_s5 (pc := 294) (M' := mt_M_unfold) dc_M_readReference_294 mo_M_unfold st_M_unfold ln_M_94 (Nat.le_of_ble_eq_true rfl) (Nat.le_of_ble_eq_true rfl) (am_G.mono (c_M_unfold_query (d := d + 2) (S := ((S.s_path (wrt S.path 0 (uf L (hst L (f + 2) t) (fw (nev 63) L (hst L (f + 2) t) t)))).s_pathLength (uf L (hst L (f + 2) t) (fw (nev 63) L (hst L (f + 2) t) t)).length)) (L := L) (f := fw (nev 63) L (hst L (f + 2) t) t) (t := t) (n := 0) (a := ca) (s := s) hA hbL (by omega) (by omega) (by omega) (hX.sc (scA.pa _ _ _)).tt (by omega)) ?_)
    intro r h1 hq
    rw [hq.1, hq.2]
    clear hq h1 r
    refine ⟨am_nti _, ?_⟩
    rw [Nat.zero_add]
    refine g_goto (pc := 297) (tgt := 301) dc_M_readReference_297 rfl ?_
    refine pf_queryLength (pc := 301) (v := some ((uf L (fw (nev 63) L (hst L (f + 2) t) t) t).length)) hA dc_M_readReference_301 fp_M_readReference_104 ?_
    refine g_goto (pc := 304) (tgt := 325) dc_M_readReference_304 rfl ?_
    rw [if_pos (by omega)]
    have hsc : scA S ((((S.s_path (wrt S.path 0 (uf L (hst L (f + 2) t) (fw (nev 63) L (hst L (f + 2) t) t)))).s_pathLength (uf L (hst L (f + 2) t) (fw (nev 63) L (hst L (f + 2) t) t)).length).s_query (wrt ((S.s_path (wrt S.path 0 (uf L (hst L (f + 2) t) (fw (nev 63) L (hst L (f + 2) t) t)))).s_pathLength (uf L (hst L (f + 2) t) (fw (nev 63) L (hst L (f + 2) t) t)).length).query 0 (uf L (fw (nev 63) L (hst L (f + 2) t) t) t))).s_queryLength (some (uf L (fw (nev 63) L (hst L (f + 2) t) t) t).length)) := scA.tr (S1 := ((S.s_path (wrt S.path 0 (uf L (hst L (f + 2) t) (fw (nev 63) L (hst L (f + 2) t) t)))).s_pathLength (uf L (hst L (f + 2) t) (fw (nev 63) L (hst L (f + 2) t) t)).length)) (scA.pa S _ _) (scA.qq ((S.s_path (wrt S.path 0 (uf L (hst L (f + 2) t) (fw (nev 63) L (hst L (f + 2) t) t)))).s_pathLength (uf L (hst L (f + 2) t) (fw (nev 63) L (hst L (f + 2) t) t)).length) _ _)
    have k1 : ((((S.s_path (wrt S.path 0 (uf L (hst L (f + 2) t) (fw (nev 63) L (hst L (f + 2) t) t)))).s_pathLength (uf L (hst L (f + 2) t) (fw (nev 63) L (hst L (f + 2) t) t)).length).s_query (wrt ((S.s_path (wrt S.path 0 (uf L (hst L (f + 2) t) (fw (nev 63) L (hst L (f + 2) t) t)))).s_pathLength (uf L (hst L (f + 2) t) (fw (nev 63) L (hst L (f + 2) t) t)).length).query 0 (uf L (fw (nev 63) L (hst L (f + 2) t) t) t))).s_queryLength (some (uf L (fw (nev 63) L (hst L (f + 2) t) t) t).length)).hostLength = H.length := ((MS.g_hostLength_queryLength _ _).trans ((MS.g_hostLength_query _ _).trans ((MS.g_hostLength_pathLength _ _).trans ((MS.g_hostLength_path _ _).trans hS1))))
    have k2 : tx ((((S.s_path (wrt S.path 0 (uf L (hst L (f + 2) t) (fw (nev 63) L (hst L (f + 2) t) t)))).s_pathLength (uf L (hst L (f + 2) t) (fw (nev 63) L (hst L (f + 2) t) t)).length).s_query (wrt ((S.s_path (wrt S.path 0 (uf L (hst L (f + 2) t) (fw (nev 63) L (hst L (f + 2) t) t)))).s_pathLength (uf L (hst L (f + 2) t) (fw (nev 63) L (hst L (f + 2) t) t)).length).query 0 (uf L (fw (nev 63) L (hst L (f + 2) t) t) t))).s_queryLength (some (uf L (fw (nev 63) L (hst L (f + 2) t) t) t).length)).host 0 H := tx_eq ((MS.g_host_queryLength _ _).trans ((MS.g_host_query _ _).trans ((MS.g_host_pathLength _ _).trans ((MS.g_host_path _ _).trans rfl)))) hS2
    have k3 : ((((S.s_path (wrt S.path 0 (uf L (hst L (f + 2) t) (fw (nev 63) L (hst L (f + 2) t) t)))).s_pathLength (uf L (hst L (f + 2) t) (fw (nev 63) L (hst L (f + 2) t) t)).length).s_query (wrt ((S.s_path (wrt S.path 0 (uf L (hst L (f + 2) t) (fw (nev 63) L (hst L (f + 2) t) t)))).s_pathLength (uf L (hst L (f + 2) t) (fw (nev 63) L (hst L (f + 2) t) t)).length).query 0 (uf L (fw (nev 63) L (hst L (f + 2) t) t) t))).s_queryLength (some (uf L (fw (nev 63) L (hst L (f + 2) t) t) t).length)).pathLength = (uf L (hst L (f + 2) t) (fw (nev 63) L (hst L (f + 2) t) t)).length := ((MS.g_pathLength_queryLength _ _).trans ((MS.g_pathLength_query _ _).trans (MS.g_pathLength_pathLength _ _)))
    have k4 : tx ((((S.s_path (wrt S.path 0 (uf L (hst L (f + 2) t) (fw (nev 63) L (hst L (f + 2) t) t)))).s_pathLength (uf L (hst L (f + 2) t) (fw (nev 63) L (hst L (f + 2) t) t)).length).s_query (wrt ((S.s_path (wrt S.path 0 (uf L (hst L (f + 2) t) (fw (nev 63) L (hst L (f + 2) t) t)))).s_pathLength (uf L (hst L (f + 2) t) (fw (nev 63) L (hst L (f + 2) t) t)).length).query 0 (uf L (fw (nev 63) L (hst L (f + 2) t) t) t))).s_queryLength (some (uf L (fw (nev 63) L (hst L (f + 2) t) t) t).length)).path 0 (uf L (hst L (f + 2) t) (fw (nev 63) L (hst L (f + 2) t) t)) := tx_eq ((MS.g_path_queryLength _ _).trans ((MS.g_path_query _ _).trans ((MS.g_path_pathLength _ _).trans (MS.g_path_path _ _)))) (wrt_tx _ _ _)
    have k5 : ((((S.s_path (wrt S.path 0 (uf L (hst L (f + 2) t) (fw (nev 63) L (hst L (f + 2) t) t)))).s_pathLength (uf L (hst L (f + 2) t) (fw (nev 63) L (hst L (f + 2) t) t)).length).s_query (wrt ((S.s_path (wrt S.path 0 (uf L (hst L (f + 2) t) (fw (nev 63) L (hst L (f + 2) t) t)))).s_pathLength (uf L (hst L (f + 2) t) (fw (nev 63) L (hst L (f + 2) t) t)).length).query 0 (uf L (fw (nev 63) L (hst L (f + 2) t) t) t))).s_queryLength (some (uf L (fw (nev 63) L (hst L (f + 2) t) t) t).length)).queryLength = (some (uf L (fw (nev 63) L (hst L (f + 2) t) t) t) : Option (List Int32)).map List.length := MS.g_queryLength_queryLength _ _
    have k6 : tx ((((S.s_path (wrt S.path 0 (uf L (hst L (f + 2) t) (fw (nev 63) L (hst L (f + 2) t) t)))).s_pathLength (uf L (hst L (f + 2) t) (fw (nev 63) L (hst L (f + 2) t) t)).length).s_query (wrt ((S.s_path (wrt S.path 0 (uf L (hst L (f + 2) t) (fw (nev 63) L (hst L (f + 2) t) t)))).s_pathLength (uf L (hst L (f + 2) t) (fw (nev 63) L (hst L (f + 2) t) t)).length).query 0 (uf L (fw (nev 63) L (hst L (f + 2) t) t) t))).s_queryLength (some (uf L (fw (nev 63) L (hst L (f + 2) t) t) t).length)).query 0 ((some (uf L (fw (nev 63) L (hst L (f + 2) t) t) t) : Option (List Int32)).getD []) := tx_eq ((MS.g_query_queryLength _ _).trans (MS.g_query_query _ _)) (wrt_tx _ _ _)
    refine am_wk (am_le_s (am_le_n (am_le_n (am_le_n (am_le_n (am_le_n (am_le_n (am_le_n (am_le_n (am_le_n (am_le_n am_le_0))))))))))) ?_
    refine am_G.mono (f_M_readReference (d := d) (S := ((((S.s_path (wrt S.path 0 (uf L (hst L (f + 2) t) (fw (nev 63) L (hst L (f + 2) t) t)))).s_pathLength (uf L (hst L (f + 2) t) (fw (nev 63) L (hst L (f + 2) t) t)).length).s_query (wrt ((S.s_path (wrt S.path 0 (uf L (hst L (f + 2) t) (fw (nev 63) L (hst L (f + 2) t) t)))).s_pathLength (uf L (hst L (f + 2) t) (fw (nev 63) L (hst L (f + 2) t) t)).length).query 0 (uf L (fw (nev 63) L (hst L (f + 2) t) t) t))).s_queryLength (some (uf L (fw (nev 63) L (hst L (f + 2) t) t) t).length))) (H := H) (P := uf L (hst L (f + 2) t) (fw (nev 63) L (hst L (f + 2) t) t)) (q := some (uf L (fw (nev 63) L (hst L (f + 2) t) t) t)) hA k1 k2 ⟨hH.1, by omega⟩ hH.2.2 k3 k4 (by omega) (btg_uf hbL _ _ (Nat.le_refl _)) k5 k6 (by show (uf L (fw (nev 63) L (hst L (f + 2) t) t) t).length ≤ 8400; omega) (btg_uf hbL _ _ (Nat.le_refl _))) (fun r h1 hq => ?_)
    obtain ⟨S1, q1, q2, q3⟩ := hq
    exact ⟨S1, q1, scA.tr hsc q2, q3⟩
theorem s_M_readReference (hA : A.length = 84) (hT : adT S T) (hO : okT T) (hX : txO A B S ca s L) (hca : ca ≠ 92 ∧ ca ≠ 93) (hbL : btg L) (hft : f ≤ t) (ht : t ≤ L.length) (hL8 : L.length ≤ 8000) (hbo : ∀ k, bo = some k → k < T.length) : am_G X mt_M_readReference (d + 5) 198 [some (.ref 84), some (.ref ca), none, none, some (.int (er bo)), some (.int (nI (s + f))), some (.int (nI (s + t))), none, none, none, none] [] (mput A S B) (fun r h1 => ∃ S1, h1 = mput A S1 B ∧ scA S S1 ∧ match mrs L f t (bo.map (gT T)) with | some D => r = some (.int 1) ∧ mad S1 D | none => r = some (.int 0)) := by
  have hbb : ∀ k, bo = some k → k < 2 ^ 31 := fun k hk => by have h9 := hbo k hk; have h8 := hT.2.2.1; omega
  have ha9 := hX.tt
  obtain ⟨cap, g, ha, hTx, hs, hc⟩ := ha9
  refine g_iload (pc := 198) dc_M_readReference_198 rfl ?_
  refine g_iconst (pc := 200) (v := 1) dc_M_readReference_200 rfl ?_
  refine g_iadd (pc := 201) (v := (nI (s + (f + 1)))) dc_M_readReference_201 (q_as s f 1) ?_
  refine g_iload (pc := 202) dc_M_readReference_202 rfl ?_
  refine q_icmp_ge (pc := 204) (tgt := 307) (s + (f + 1)) (s + t) dc_M_readReference_204 (by omega) (by omega) rfl (fun hc204 => ?_) (fun hc204 => ?_)
  · have hneg : ¬ (f + 1 < t ∧ gx L f = 47 ∧ gx L (f + 1) = 47) := fun h9 => by omega
    refine g_iload (pc := 307) dc_M_readReference_307 rfl ?_
    refine q_o_ge (pc := 309) (tgt := 314) dc_M_readReference_309 hbb rfl (fun k309 hc309 => ?_) (fun hc309 => ?_)
    · rw [hc309]
      rw [show er (some k309) = nI k309 from rfl]
      have hk309 := hbb k309 hc309
      refine g_aload_n (pc := 314) dc_M_readReference_314 rfl ?_
      refine g_aload_n (pc := 315) dc_M_readReference_315 rfl ?_
      refine g_iload (pc := 316) dc_M_readReference_316 rfl ?_
      refine g_iload (pc := 318) dc_M_readReference_318 rfl ?_
      refine g_iload (pc := 320) dc_M_readReference_320 rfl ?_
      refine g_v4 (pc := 322) (M' := mt_M_readBeside) dc_M_readReference_322 mo_M_readBeside im_M_readBeside se_M_readBeside ln_M_107 (mp_o hA) rfl rfl (Nat.le_of_ble_eq_true rfl) (Nat.le_of_ble_eq_true rfl) (am_G.mono (c_M_readBeside (d := d + 1) (S := S) (k := k309) hA hT (hbo k309 hc309) hX hca hbL (hO k309 (hbo k309 hc309)).1 hft ht hL8 ⟨(hO k309 (hbo k309 hc309)).2.2.1, (hO k309 (hbo k309 hc309)).2.2.2⟩) ?_)
      intro r h1 hq
      obtain ⟨S1, e0, e1, e2, e3, e4, e5, e6, e7, e8⟩ := hq
      rw [e0, e1]
      refine ⟨am_nt0, ?_⟩
      rw [show mrs L f t (Option.map (gT T) (some k309)) = fin (sub (gT T k309) 7 (hen (gT T k309))) (bsP L f t (gT T k309)) (bsQ L f t (gT T k309)) from mrs_s hneg]
      have hk9 := hbo k309 hc309
      have hok := hO k309 hk9
      have h8 := hT.2.2.2.1 k309 hk9
      have hBP := bsP_i hbL hok.1 hft ht (Nat.le_of_lt hok.2.2.1)
      have hBQ := bsQ_i hbL hok.1 hft (Nat.le_of_lt hok.2.2.1)
      have hsl := sub_len (L := gT T k309) (f := 7) (t := hen (gT T k309)) (Nat.le_of_lt hok.2.2.1)
      refine am_wk (am_le_s (am_le_n (am_le_n (am_le_n (am_le_n (am_le_n (am_le_n (am_le_n (am_le_n (am_le_n (am_le_n am_le_0))))))))))) ?_
      refine am_G.mono (f_M_readReference (d := d) (S := S1) (H := sub (gT T k309) 7 (hen (gT T k309))) (P := bsP L f t (gT T k309)) (q := bsQ L f t (gT T k309)) hA e3 e4 ⟨by omega, by omega⟩ (btg_sub hok.1 (Nat.le_of_lt hok.2.2.1)) e5 e6 (by omega) hBP.1 e7 e8 (by omega) hBQ.1) (fun r h1 hq => ?_)
      obtain ⟨S2, q1, q2, q3⟩ := hq
      exact ⟨S2, q1, scA.tr e2 q2, q3⟩
    · rw [hc309]
      refine g_iconst (pc := 312) (v := 0) dc_M_readReference_312 rfl ?_
      exact g_zreturn dc_M_readReference_313 rfl rfl ⟨S, rfl, scA.rf S, by rw [show mrs L f t (Option.map (gT T) none) = none from mrs_n hneg]⟩
  · refine g_aload_n (pc := 207) dc_M_readReference_207 rfl ?_
    refine g_iload (pc := 208) dc_M_readReference_208 rfl ?_
    refine q_tx (pc := 210) f dc_M_readReference_210 ha hTx hs (by omega) hc ?_
    refine g_bipush (pc := 211) (v := 47) dc_M_readReference_211 rfl ?_
    refine g_icmp_ne (pc := 213) (tgt := 307) dc_M_readReference_213 rfl (fun hc213 => ?_) (fun hc213 => ?_)
    · have hneg : ¬ (f + 1 < t ∧ gx L f = 47 ∧ gx L (f + 1) = 47) := fun h9 => hc213 h9.2.1
      refine g_iload (pc := 307) dc_M_readReference_307 rfl ?_
      refine q_o_ge (pc := 309) (tgt := 314) dc_M_readReference_309 hbb rfl (fun k309 hc309 => ?_) (fun hc309 => ?_)
      · rw [hc309]
        rw [show er (some k309) = nI k309 from rfl]
        have hk309 := hbb k309 hc309
        refine g_aload_n (pc := 314) dc_M_readReference_314 rfl ?_
        refine g_aload_n (pc := 315) dc_M_readReference_315 rfl ?_
        refine g_iload (pc := 316) dc_M_readReference_316 rfl ?_
        refine g_iload (pc := 318) dc_M_readReference_318 rfl ?_
        refine g_iload (pc := 320) dc_M_readReference_320 rfl ?_
        refine g_v4 (pc := 322) (M' := mt_M_readBeside) dc_M_readReference_322 mo_M_readBeside im_M_readBeside se_M_readBeside ln_M_107 (mp_o hA) rfl rfl (Nat.le_of_ble_eq_true rfl) (Nat.le_of_ble_eq_true rfl) (am_G.mono (c_M_readBeside (d := d + 1) (S := S) (k := k309) hA hT (hbo k309 hc309) hX hca hbL (hO k309 (hbo k309 hc309)).1 hft ht hL8 ⟨(hO k309 (hbo k309 hc309)).2.2.1, (hO k309 (hbo k309 hc309)).2.2.2⟩) ?_)
        intro r h1 hq
        obtain ⟨S1, e0, e1, e2, e3, e4, e5, e6, e7, e8⟩ := hq
        rw [e0, e1]
        refine ⟨am_nt0, ?_⟩
        rw [show mrs L f t (Option.map (gT T) (some k309)) = fin (sub (gT T k309) 7 (hen (gT T k309))) (bsP L f t (gT T k309)) (bsQ L f t (gT T k309)) from mrs_s hneg]
        have hk9 := hbo k309 hc309
        have hok := hO k309 hk9
        have h8 := hT.2.2.2.1 k309 hk9
        have hBP := bsP_i hbL hok.1 hft ht (Nat.le_of_lt hok.2.2.1)
        have hBQ := bsQ_i hbL hok.1 hft (Nat.le_of_lt hok.2.2.1)
        have hsl := sub_len (L := gT T k309) (f := 7) (t := hen (gT T k309)) (Nat.le_of_lt hok.2.2.1)
        refine am_wk (am_le_s (am_le_n (am_le_n (am_le_n (am_le_n (am_le_n (am_le_n (am_le_n (am_le_n (am_le_n (am_le_n am_le_0))))))))))) ?_
        refine am_G.mono (f_M_readReference (d := d) (S := S1) (H := sub (gT T k309) 7 (hen (gT T k309))) (P := bsP L f t (gT T k309)) (q := bsQ L f t (gT T k309)) hA e3 e4 ⟨by omega, by omega⟩ (btg_sub hok.1 (Nat.le_of_lt hok.2.2.1)) e5 e6 (by omega) hBP.1 e7 e8 (by omega) hBQ.1) (fun r h1 hq => ?_)
        obtain ⟨S2, q1, q2, q3⟩ := hq
        exact ⟨S2, q1, scA.tr e2 q2, q3⟩
      · rw [hc309]
        refine g_iconst (pc := 312) (v := 0) dc_M_readReference_312 rfl ?_
        exact g_zreturn dc_M_readReference_313 rfl rfl ⟨S, rfl, scA.rf S, by rw [show mrs L f t (Option.map (gT T) none) = none from mrs_n hneg]⟩
    · refine g_aload_n (pc := 216) dc_M_readReference_216 rfl ?_
      refine g_iload (pc := 217) dc_M_readReference_217 rfl ?_
      refine g_iconst (pc := 219) (v := 1) dc_M_readReference_219 rfl ?_
      refine g_iadd (pc := 220) (v := (nI (s + (f + 1)))) dc_M_readReference_220 (q_as s f 1) ?_
      refine q_tx (pc := 221) (f + 1) dc_M_readReference_221 ha hTx hs (by omega) hc ?_
      refine g_bipush (pc := 222) (v := 47) dc_M_readReference_222 rfl ?_
      refine g_icmp_ne (pc := 224) (tgt := 307) dc_M_readReference_224 rfl (fun hc224 => ?_) (fun hc224 => ?_)
      · have hneg : ¬ (f + 1 < t ∧ gx L f = 47 ∧ gx L (f + 1) = 47) := fun h9 => hc224 h9.2.2
        refine g_iload (pc := 307) dc_M_readReference_307 rfl ?_
        refine q_o_ge (pc := 309) (tgt := 314) dc_M_readReference_309 hbb rfl (fun k309 hc309 => ?_) (fun hc309 => ?_)
        · rw [hc309]
          rw [show er (some k309) = nI k309 from rfl]
          have hk309 := hbb k309 hc309
          refine g_aload_n (pc := 314) dc_M_readReference_314 rfl ?_
          refine g_aload_n (pc := 315) dc_M_readReference_315 rfl ?_
          refine g_iload (pc := 316) dc_M_readReference_316 rfl ?_
          refine g_iload (pc := 318) dc_M_readReference_318 rfl ?_
          refine g_iload (pc := 320) dc_M_readReference_320 rfl ?_
          refine g_v4 (pc := 322) (M' := mt_M_readBeside) dc_M_readReference_322 mo_M_readBeside im_M_readBeside se_M_readBeside ln_M_107 (mp_o hA) rfl rfl (Nat.le_of_ble_eq_true rfl) (Nat.le_of_ble_eq_true rfl) (am_G.mono (c_M_readBeside (d := d + 1) (S := S) (k := k309) hA hT (hbo k309 hc309) hX hca hbL (hO k309 (hbo k309 hc309)).1 hft ht hL8 ⟨(hO k309 (hbo k309 hc309)).2.2.1, (hO k309 (hbo k309 hc309)).2.2.2⟩) ?_)
          intro r h1 hq
          obtain ⟨S1, e0, e1, e2, e3, e4, e5, e6, e7, e8⟩ := hq
          rw [e0, e1]
          refine ⟨am_nt0, ?_⟩
          rw [show mrs L f t (Option.map (gT T) (some k309)) = fin (sub (gT T k309) 7 (hen (gT T k309))) (bsP L f t (gT T k309)) (bsQ L f t (gT T k309)) from mrs_s hneg]
          have hk9 := hbo k309 hc309
          have hok := hO k309 hk9
          have h8 := hT.2.2.2.1 k309 hk9
          have hBP := bsP_i hbL hok.1 hft ht (Nat.le_of_lt hok.2.2.1)
          have hBQ := bsQ_i hbL hok.1 hft (Nat.le_of_lt hok.2.2.1)
          have hsl := sub_len (L := gT T k309) (f := 7) (t := hen (gT T k309)) (Nat.le_of_lt hok.2.2.1)
          refine am_wk (am_le_s (am_le_n (am_le_n (am_le_n (am_le_n (am_le_n (am_le_n (am_le_n (am_le_n (am_le_n (am_le_n am_le_0))))))))))) ?_
          refine am_G.mono (f_M_readReference (d := d) (S := S1) (H := sub (gT T k309) 7 (hen (gT T k309))) (P := bsP L f t (gT T k309)) (q := bsQ L f t (gT T k309)) hA e3 e4 ⟨by omega, by omega⟩ (btg_sub hok.1 (Nat.le_of_lt hok.2.2.1)) e5 e6 (by omega) hBP.1 e7 e8 (by omega) hBQ.1) (fun r h1 hq => ?_)
          obtain ⟨S2, q1, q2, q3⟩ := hq
          exact ⟨S2, q1, scA.tr e2 q2, q3⟩
        · rw [hc309]
          refine g_iconst (pc := 312) (v := 0) dc_M_readReference_312 rfl ?_
          exact g_zreturn dc_M_readReference_313 rfl rfl ⟨S, rfl, scA.rf S, by rw [show mrs L f t (Option.map (gT T) none) = none from mrs_n hneg]⟩
      · refine g_aload_n (pc := 227) dc_M_readReference_227 rfl ?_
        refine g_aload_n (pc := 228) dc_M_readReference_228 rfl ?_
        refine g_iload (pc := 229) dc_M_readReference_229 rfl ?_
        refine g_iconst (pc := 231) (v := 2) dc_M_readReference_231 rfl ?_
        refine g_iadd (pc := 232) (v := (nI (s + (f + 2)))) dc_M_readReference_232 (q_as s f 2) ?_
        refine g_iload (pc := 233) dc_M_readReference_233 rfl ?_
        refine g_v3 (pc := 235) (M' := mt_M_readHost) dc_M_readReference_235 mo_M_readHost im_M_readHost se_M_readHost ln_M_87 (mp_o hA) rfl rfl (Nat.le_of_ble_eq_true rfl) (Nat.le_of_ble_eq_true rfl) (am_G.mono (c_M_readHost (d := d + 2) (S := S) (f := f + 2) (t := t) hA hX hbL (by omega) ht) ?_)
        intro r h1 hq
        obtain ⟨g9, n9, e1, e2⟩ := hq
        rw [e1]
        cases hm : mho L (f + 2) t with
        | none =>
          rw [hm] at e2
          rw [e2]
          refine ⟨am_nti _, ?_⟩
          refine g_istore (pc := 238) dc_M_readReference_238 (by decide) ?_
          show am_G X mt_M_readReference _ 240 [some (.ref 84), some (.ref ca), none, none, some (.int (er bo)), some (.int (nI (s + f))), some (.int (nI (s + t))), none, none, none, some (.int (-1))] [] _ _
          refine g_iload (pc := 240) dc_M_readReference_240 rfl ?_
          refine g_if_ge (pc := 242) (tgt := 247) dc_M_readReference_242 rfl (fun hc => absurd hc (by decide)) (fun _ => ?_)
          refine g_iconst (pc := 245) (v := 0) dc_M_readReference_245 rfl ?_
          exact g_zreturn dc_M_readReference_246 rfl rfl ⟨_, rfl, scA.h2 _ _ _, by rw [show mrs L f t (bo.map (gT T)) = none by unfold mrs; rw [if_pos ⟨by omega, hc213, hc224⟩, hm]]⟩
        | some H =>
          rw [hm] at e2
          obtain ⟨e2, e3, e4⟩ := e2
          rw [e2]
          refine ⟨am_nti _, ?_⟩
          refine am_wk (am_le_s (am_le_s (am_le_n (am_le_n (am_le_n (am_le_s (am_le_s (am_le_n (am_le_n (am_le_n (am_le_n am_le_0))))))))))) ?_
          refine am_G.mono (h_M_readReference (S := (S.s_host g9).s_hostLength n9) (bo := bo) hA (hT.sc (scA.h2 _ _ _)) hO (hX.sc (scA.h2 _ _ _)) hca hbL hft ht hL8 hbo hm (by omega) hc213 hc224 e3 e4) (fun r h1 hq => ?_)
          obtain ⟨S1, q1, q2, q3⟩ := hq
          exact ⟨S1, q1, scA.tr (scA.h2 _ _ _) q2, q3⟩
end MRS
