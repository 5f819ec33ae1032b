/-! ===== neaten as a whole ===== -/
/-- an empty path is / -/
def pz (L : List Int32) : List Int32 := if L.length = 0 then [47] else L
theorem scA.pa (S : MS) (a : Nat → Int32) (b : Nat) : scA S ((S.s_path a).s_pathLength b) := ⟨S.made, S.madeLength, S.host, S.hostLength, a, b, S.query, S.queryLength, S.neat, S.marks, rfl⟩
section NEE
variable {X : am_X} {d : Nat} {A B : List va_E} {S : MS} {L H Qy : List Int32} {qo : Option Nat}
theorem z_M_neaten (hA : A.length = 84) (hH1 : S.hostLength = H.length) (hH2 : tx S.host 0 H) (hH3 : H.length ≤ 80) (hHb : btg H) (hq1 : S.queryLength = qo) (hq2 : ∀ k, qo = some k → k = Qy.length) (hq3 : qo = none → Qy = []) (hq4 : tx S.query 0 Qy) (hq5 : Qy.length ≤ 8400) (hqb : btg Qy) (hP1 : S.pathLength = L.length) (hP2 : tx S.path 0 L) (hLl : L.length ≤ 8400) (hLb : btg L) (h0 : 0 < L.length) : am_G X mt_M_neaten (d + 4) 20 [some (.ref 84), none, none, none, none, none, none, none] [] (mput A S B) (fun r h1 => ∃ S1, h1 = mput A S1 B ∧ scA S S1 ∧ if 7 + H.length + (ntx L).length + Qy.length ≤ 200 then r = some (.int 1) ∧ S1.madeLength = (h7 ++ H ++ ntx L ++ Qy).length ∧ tx S1.made 0 (h7 ++ H ++ ntx L ++ Qy) else r = some (.int 0)) := by
  refine g_iconst (pc := 20) (v := 0) dc_M_neaten_20 rfl ?_
  refine g_istore_n (pc := 21) dc_M_neaten_21 (by decide) ?_
  show am_G X mt_M_neaten _ 22 [some (.ref 84), some (.int 0), none, none, none, none, none, none] [] _ _
  refine g_iconst (pc := 22) (v := 0) dc_M_neaten_22 rfl ?_
  refine g_istore_n (pc := 23) dc_M_neaten_23 (by decide) ?_
  show am_G X mt_M_neaten _ 24 [some (.ref 84), some (.int 0), some (.int 0), none, none, none, none, none] [] _ _
  refine g_iconst (pc := 24) (v := 0) dc_M_neaten_24 rfl ?_
  refine g_istore_n (pc := 25) dc_M_neaten_25 (by decide) ?_
  show am_G X mt_M_neaten _ 26 [some (.ref 84), some (.int 0), some (.int 0), some (.int 0), none, none, none, none] [] _ _
  refine g_iconst (pc := 26) (v := 1) dc_M_neaten_26 rfl ?_
  refine g_istore (pc := 27) dc_M_neaten_27 (by decide) ?_
  show am_G X mt_M_neaten _ 29 [some (.ref 84), some (.int 0), some (.int 0), some (.int 0), some (.int 1), none, none, none] [] _ _
  exact l_M_neaten hA hH3 hHb hq2 hq3 hq5 hqb hLl hLb L.length 1 [] false S (by omega) hH1 hH2 hq1 hq4 hP2 hP1 (fun j hj => absurd hj (Nat.not_lt_zero j)) (fun k hk => absurd hk (Nat.not_lt_zero k)) btg_nil (by decide) (by decide) (fun h9 => by cases h9) (by omega) (by omega)
theorem c_M_neaten (hA : A.length = 84) (hH1 : S.hostLength = H.length) (hH2 : tx S.host 0 H) (hH3 : H.length ≤ 80) (hHb : btg H) (hq1 : S.queryLength = qo) (hq2 : ∀ k, qo = some k → k = Qy.length) (hq3 : qo = none → Qy = []) (hq4 : tx S.query 0 Qy) (hq5 : Qy.length ≤ 8400) (hqb : btg Qy) (hP1 : S.pathLength = L.length) (hP2 : tx S.path 0 L) (hLl : L.length ≤ 8400) (hLb : btg L) : am_C X mt_M_neaten (d + 4) [.ref 84] (mput A S B) (fun r h1 => ∃ S1, h1 = mput A S1 B ∧ scA S S1 ∧ if 7 + H.length + (ntx (pz L)).length + Qy.length ≤ 200 then r = some (.int 1) ∧ S1.madeLength = (h7 ++ H ++ ntx (pz L) ++ Qy).length ∧ tx S1.made 0 (h7 ++ H ++ ntx (pz L) ++ Qy) else r = some (.int 0)) := by
  show am_G X mt_M_neaten (d + 4) 0 [some (.ref 84), none, none, none, none, none, none, none] [] (mput A S B) _
  refine g_aload_n (pc := 0) dc_M_neaten_0 rfl ?_
  refine g_getfield (pc := 1) (v := .int (nI L.length)) dc_M_neaten_1 fl_M_98 (mp_o hA) (congrArg (fun z => some (Value.int (nI z))) hP1) ?_
  refine q_if_ne (pc := 4) (tgt := 20) L.length dc_M_neaten_4 (by omega) rfl (fun hc4 => ?_) (fun hc4 => ?_)
  · have e9 : pz L = L := if_neg (by omega)
    rw [e9]
    exact z_M_neaten hA hH1 hH2 hH3 hHb hq1 hq2 hq3 hq4 hq5 hqb hP1 hP2 hLl hLb (by omega)
  · refine g_aload_n (pc := 7) dc_M_neaten_7 rfl ?_
    refine g_getfield (pc := 8) dc_M_neaten_8 fl_M_91 (mp_o hA) rfl ?_
    refine g_iconst (pc := 11) (v := 0) dc_M_neaten_11 rfl ?_
    refine g_bipush (pc := 12) (v := 47) dc_M_neaten_12 rfl ?_
    refine asE_path (pc := 14) 0 (g := upd S.path 0 47) hA dc_M_neaten_14 (by omega) (rfl) ?_
    refine g_aload_n (pc := 15) dc_M_neaten_15 rfl ?_
    refine g_iconst (pc := 16) (v := 1) dc_M_neaten_16 rfl ?_
    refine pf_pathLength (pc := 17) (v := 1) hA dc_M_neaten_17 fp_M_neaten_98 ?_
    have e9 : pz L = [47] := if_pos hc4
    rw [e9]
    refine am_G.mono (z_M_neaten (S := (S.s_path (upd S.path 0 47)).s_pathLength 1) (L := [47]) hA hH1 hH2 hH3 hHb hq1 hq2 hq3 hq4 hq5 hqb rfl (fun j hj => ?_) (by decide) (fun j => ?_) (by decide)) (fun r h1 hq => ?_)
    · have hj0 : j = 0 := by have h8 : j < 1 := hj; omega
      subst hj0
      rfl
    · cases j with
      | zero => exact bt_nI (j := 47) (by omega)
      | succ j => exact bt_0
    · obtain ⟨S1, q1, q2, q3⟩ := hq
      exact ⟨S1, q1, scA.tr (scA.pa _ _ _) q2, q3⟩
end NEE
