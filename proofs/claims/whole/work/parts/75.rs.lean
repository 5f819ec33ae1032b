/-! ===== the class's resolve ===== -/
def cpt (P : List Int32) : Nat := fw (nev 63) P 0 P.length
def cpn (P : List Int32) : List Int32 := nty (cst P (cpt P) (cpt P) 1 [] (decide (cpt P = 0)))
def cfn (Z P : List Int32) : Option (List Int32) := if (Z ++ cpn P ++ sub P (cpt P) P.length).length ≤ 200 then some (Z ++ cpn P ++ sub P (cpt P) P.length) else none
def crs (L : List Int32) (f t : Nat) (bo : Option (List Int32)) : Option (List Int32) := if bgw 2 L f t = true then (match cho L (f + 2) t with | none => none | some H => cfn (h7 ++ H) (uf L (hst L (f + 2) t) t)) else match bo with | none => none | some D => cfn (sub D 0 (hen D)) (cbP L f t D ++ uf L f t)
def crt (L : List Int32) (f t : Nat) (bo : Option (List Int32)) : Option (List Int32) := if alp (fun j => isRef L j t) f t = true then (if fw (nev 58) L f t < Nat.min (fw (nev 47) L f t) (fw (nev 63) L f t) then (if isw 1 L f (fw (nev 58) L f t) = true ∧ bgw 2 L (fw (nev 58) L f t + 1) t = true then crs L (fw (nev 58) L f t + 1) t bo else none) else crs L f t bo) else none
def crr (L : List Int32) (f t : Nat) (bo : Option (List Int32)) : Option (List Int32) := crt L (fw isBl L f t) (fw (nev 35) L (fw isBl L f t) (bw isBl L (fw isBl L f t) t)) bo
theorem isB.len {h : List va_E} {a b cap : Nat} {L : List Int32} (x : isB h a b cap L) : L.length ≤ 33554432 := by
  obtain ⟨g, -, -, -, h4, h5, -⟩ := x
  omega
section ARS
variable {X : am_X} {d a r p c s br cr bp cp f t : Nat} {h0 h1 : List va_E} {L P Z R0 P0 : List Int32}
theorem c_A_foldPath (hAr : h0[a]? = some (.inr (2, [.ref r, .ref p]))) (z1 : isB h0 r br cr R0) (z2 : isB h0 p bp cp P0) (hrp : r ≠ p) (Y1 : A2 h0 h1 r br cr p bp cp Z P) (hP9 : P.length ≤ 8300) (hz : 1 ≤ Z.length) (hz2 : Z.length ≤ 100) : am_C X mt_A_foldPath (d + 6) [.ref a] h1 (fun r9 h9 => r9 = none ∧ A2 h0 h9 r br cr p bp cp (Z ++ cpn P ++ sub P (cpt P) P.length) P) := by
  show am_G X mt_A_foldPath (d + 6) 0 [some (.ref a), none, none, none, none, none, none, none] [] h1 _
  have ka1 : a ≠ r := fun e => by rw [e, z1.ha] at hAr; cases hAr
  have ka3 : a ≠ p := fun e => by rw [e, z2.ha] at hAr; cases hAr
  have ka2 : a ≠ br := fun e => by obtain ⟨g, q1, q2, -⟩ := z1; rw [e, q2] at hAr; cases hAr
  have ka4 : a ≠ bp := fun e => by obtain ⟨g, q1, q2, -⟩ := z2; rw [e, q2] at hAr; cases hAr
  have B1 := Y1
  obtain ⟨br1, cr1, bp1, cp1, i1, j1, ne1, w1⟩ := B1
  have hpb := fw_bd (p := nev 63) (L := P) (f := 0) (t := P.length) (Nat.zero_le _)
  rw [show fw (nev 63) P 0 P.length = cpt P from rfl] at hpb
  refine g_aload_n (pc := 0) dc_A_foldPath_0 rfl ?_
  refine g_getfield (pc := 1) dc_A_foldPath_1 fl_A_14 (Y1.kp hAr ka1 ka2 ka3 ka4) rfl ?_
  refine g_getfield (pc := 4) dc_A_foldPath_4 fl_A_72 i1.ha rfl ?_
  refine g_istore_n (pc := 7) dc_A_foldPath_7 (by decide) ?_
  show am_G X mt_A_foldPath _ 8 [some (.ref a), some (.int (nI ((Z).length))), none, none, none, none, none, none] [] _ _
  refine g_aload_n (pc := 8) dc_A_foldPath_8 rfl ?_
  refine g_getfield (pc := 9) dc_A_foldPath_9 fl_A_20 (Y1.kp hAr ka1 ka2 ka3 ka4) rfl ?_
  refine g_getfield (pc := 12) dc_A_foldPath_12 fl_A_115 j1.ha rfl ?_
  refine g_bipush (pc := 15) (v := 63) dc_A_foldPath_15 rfl ?_
  refine g_iconst (pc := 17) (v := 0) dc_A_foldPath_17 rfl ?_
  refine g_aload_n (pc := 18) dc_A_foldPath_18 rfl ?_
  refine g_getfield (pc := 19) dc_A_foldPath_19 fl_A_20 (Y1.kp hAr ka1 ka2 ka3 ka4) rfl ?_
  refine g_getfield (pc := 22) dc_A_foldPath_22 fl_A_72 j1.ha rfl ?_
  refine g_s4 (pc := 25) (M' := mt_W_indexOf) dc_A_foldPath_25 mo_W_indexOf st_W_indexOf ln_A_33 (Nat.le_of_ble_eq_true rfl) (Nat.le_of_ble_eq_true rfl) (am_G.mono (t0_W_indexOf (v := 63) (f := 0) (t := P.length) j1.tt (by omega) (Nat.le_refl _)) ?_)
  intro r h1 hq
  rw [hq.1, hq.2]
  clear hq h1 r
  refine ⟨am_nti _, ?_⟩
  refine g_istore_n (pc := 28) dc_A_foldPath_28 (by decide) ?_
  show am_G X mt_A_foldPath _ 29 [some (.ref a), some (.int (nI ((Z).length))), some (.int (nI (cpt P))), none, none, none, none, none] [] _ _
  refine g_iload_n (pc := 29) dc_A_foldPath_29 rfl ?_
  refine q_if_ne (pc := 30) (tgt := 37) (cpt P) dc_A_foldPath_30 (by omega) rfl (fun hc30 => ?_) (fun hc30 => ?_)
  · refine g_iconst (pc := 37) (v := 0) dc_A_foldPath_37 rfl ?_
    refine g_istore_n (pc := 38) dc_A_foldPath_38 (by decide) ?_
    show am_G X mt_A_foldPath _ 39 [some (.ref a), some (.int (nI ((Z).length))), some (.int (nI (cpt P))), some (.int 0), none, none, none, none] [] _ _
    refine g_iconst (pc := 39) (v := 1) dc_A_foldPath_39 rfl ?_
    refine g_istore (pc := 40) dc_A_foldPath_40 (by decide) ?_
    show am_G X mt_A_foldPath _ 42 [some (.ref a), some (.int (nI ((Z).length))), some (.int (nI (cpt P))), some (.int 0), some (.int 1), none, none, none] [] _ _
    have hcp9 : cpn P = nty (cst P (cpt P) (cpt P) 1 [] false) := by unfold cpn; rw [decide_eq_false (by omega)]
    rw [hcp9]
    have hY : A2 h0 h1 r br cr p bp cp (Z ++ ([] : List (List Int32)).flatten) P := by rw [show ([] : List (List Int32)).flatten = [] from rfl, List.append_nil]; exact Y1
    exact l_A_foldPath hAr z1 z2 hrp hpb.2 hP9 hz hz2 (cpt P) 1 [] false h1 (by omega) (by omega) (by omega) (fun k hk => absurd hk (Nat.not_lt_zero k)) (by decide) hY
  · refine g_iconst (pc := 33) (v := 1) dc_A_foldPath_33 rfl ?_
    refine g_goto (pc := 34) (tgt := 38) dc_A_foldPath_34 rfl ?_
    refine g_istore_n (pc := 38) dc_A_foldPath_38 (by decide) ?_
    show am_G X mt_A_foldPath _ 39 [some (.ref a), some (.int (nI ((Z).length))), some (.int (nI (cpt P))), some (.int 1), none, none, none, none] [] _ _
    refine g_iconst (pc := 39) (v := 1) dc_A_foldPath_39 rfl ?_
    refine g_istore (pc := 40) dc_A_foldPath_40 (by decide) ?_
    show am_G X mt_A_foldPath _ 42 [some (.ref a), some (.int (nI ((Z).length))), some (.int (nI (cpt P))), some (.int 1), some (.int 1), none, none, none] [] _ _
    have hcp9 : cpn P = nty (cst P (cpt P) (cpt P) 1 [] true) := by unfold cpn; rw [decide_eq_true hc30]
    rw [hcp9]
    have hY : A2 h0 h1 r br cr p bp cp (Z ++ ([] : List (List Int32)).flatten) P := by rw [show ([] : List (List Int32)).flatten = [] from rfl, List.append_nil]; exact Y1
    exact l_A_foldPath hAr z1 z2 hrp hpb.2 hP9 hz hz2 (cpt P) 1 [] true h1 (by omega) (by omega) (by omega) (fun k hk => absurd hk (Nat.not_lt_zero k)) (by decide) hY
theorem u_A_resolve (hAr : h0[a]? = some (.inr (2, [.ref r, .ref p]))) (z1 : isB h0 r br cr R0) (z2 : isB h0 p bp cp P0) (hrp : r ≠ p) (Y1 : A2 h0 h1 r br cr p bp cp Z P) (hx : ttb h0 c s L) (hcr : c ≠ br) (hcp : c ≠ bp) (hft : f ≤ t) (ht : t ≤ L.length) (hL8 : L.length ≤ 8000) (hP2 : P.length ≤ 200) (hz : 1 ≤ Z.length) (hz2 : Z.length ≤ 100) : am_G X mt_A_resolve (d + 7) 176 [some (.ref a), some (.ref c), none, none, none, none, some (.int (nI (s + t))), none, some (.int (nI (s + f)))] [] h1 (fun r9 h9 => ∃ P9, P9.length ≤ 8300 ∧ match cfn Z (P ++ uf L f t) with | some D => r9 = some (.int 1) ∧ A2 h0 h9 r br cr p bp cp D P9 | none => r9 = some (.int 0) ∧ A2 h0 h9 r br cr p bp cp [] P9) := by
  have ka1 : a ≠ r := fun e => by rw [e, z1.ha] at hAr; cases hAr
  have ka3 : a ≠ p := fun e => by rw [e, z2.ha] at hAr; cases hAr
  have ka2 : a ≠ br := fun e => by obtain ⟨g, q1, q2, -⟩ := z1; rw [e, q2] at hAr; cases hAr
  have ka4 : a ≠ bp := fun e => by obtain ⟨g, q1, q2, -⟩ := z2; rw [e, q2] at hAr; cases hAr
  have B1 := Y1
  obtain ⟨br1, cr1, bp1, cp1, i1, j1, ne1, w1⟩ := B1
  have hul := uf_len (L := L) (t := t) (t - f) f (Nat.le_refl _)
  have hPl : (P ++ uf L f t).length = P.length + (uf L f t).length := List.length_append
  have hbs : s + L.length < 2 ^ 30 := by obtain ⟨cq, g, -, -, q1, q2⟩ := hx.tt; omega
  have hDz : 1 ≤ (Z ++ cpn (P ++ uf L f t) ++ sub (P ++ uf L f t) (cpt (P ++ uf L f t)) (P ++ uf L f t).length).length := by rw [List.length_append, List.length_append]; omega
  refine g_aload_n (pc := 176) dc_A_resolve_176 rfl ?_
  refine g_getfield (pc := 177) dc_A_resolve_177 fl_A_20 (Y1.kp hAr ka1 ka2 ka3 ka4) rfl ?_
  refine g_aload_n (pc := 180) dc_A_resolve_180 rfl ?_
  refine g_iload (pc := 181) dc_A_resolve_181 rfl ?_
  refine g_iload (pc := 183) dc_A_resolve_183 rfl ?_
  refine g_v3 (pc := 185) (M' := mt_B_putUnescaped) dc_A_resolve_185 mo_B_putUnescaped im_B_putUnescaped se_B_putUnescaped ln_A_65 j1.ha rfl rfl (Nat.le_of_ble_eq_true rfl) (Nat.le_of_ble_eq_true rfl) (am_G.mono (c_B_putUnescaped (d := d + 1) (f := f) (t := t) hx.btg ht hft j1 (Y1.tx hx hcr hcp z1 z2).tt (w1.np hx.lt hcp) (by omega)) ?_)
  intro r9 h2 hq
  obtain ⟨q0, hq⟩ := hq
  rw [q0]
  have Y2 : A2 h0 h2 r br cr p bp cp (Z) (P ++ uf L f t) := A2.sp hrp (by omega) i1 j1 ne1 w1 hq
  clear hq q0 r9 i1 j1 ne1 w1 Y1
  have B2 := Y2
  obtain ⟨br2, cr2, bp2, cp2, i2, j2, ne2, w2⟩ := B2
  refine ⟨am_nt0, ?_⟩
  refine g_aload_n (pc := 188) dc_A_resolve_188 rfl ?_
  refine g_v0 (pc := 189) (M' := mt_A_foldPath) dc_A_resolve_189 mo_A_foldPath im_A_foldPath se_A_foldPath ln_A_69 (Y2.kp hAr ka1 ka2 ka3 ka4) rfl rfl (Nat.le_of_ble_eq_true rfl) (Nat.le_of_ble_eq_true rfl) (am_G.mono (c_A_foldPath (d := d) hAr z1 z2 hrp Y2 (by omega) hz hz2) ?_)
  intro r9 h3 hq
  obtain ⟨q0, Y3⟩ := hq
  rw [q0]
  clear q0 r9 i2 j2 ne2 w2 Y2
  have B3 := Y3
  obtain ⟨br3, cr3, bp3, cp3, i3, j3, ne3, w3⟩ := B3
  have hDl := i3.len
  refine ⟨am_nt0, ?_⟩
  refine g_aload_n (pc := 192) dc_A_resolve_192 rfl ?_
  refine g_getfield (pc := 193) dc_A_resolve_193 fl_A_14 (Y3.kp hAr ka1 ka2 ka3 ka4) rfl ?_
  refine g_getfield (pc := 196) dc_A_resolve_196 fl_A_72 i3.ha rfl ?_
  refine g_sipush (pc := 199) (v := 200) dc_A_resolve_199 rfl ?_
  refine q_icmp_le (pc := 202) (tgt := 212) ((Z ++ cpn (P ++ uf L f t) ++ sub (P ++ uf L f t) (cpt (P ++ uf L f t)) (P ++ uf L f t).length).length) 200 dc_A_resolve_202 (by omega) (by omega) rfl (fun hc202 => ?_) (fun hc202 => ?_)
  · refine g_aload_n (pc := 212) dc_A_resolve_212 rfl ?_
    refine g_getfield (pc := 213) dc_A_resolve_213 fl_A_14 (Y3.kp hAr ka1 ka2 ka3 ka4) rfl ?_
    refine g_getfield (pc := 216) dc_A_resolve_216 fl_A_72 i3.ha rfl ?_
    refine q_if_le (pc := 219) (tgt := 226) ((Z ++ cpn (P ++ uf L f t) ++ sub (P ++ uf L f t) (cpt (P ++ uf L f t)) (P ++ uf L f t).length).length) dc_A_resolve_219 (by omega) rfl (fun hc => absurd hc (by omega)) (fun hc219 => ?_)
    refine g_iconst (pc := 222) (v := 1) dc_A_resolve_222 rfl ?_
    refine g_goto (pc := 223) (tgt := 227) dc_A_resolve_223 rfl ?_
    exact g_zreturn dc_A_resolve_227 rfl rfl ⟨P ++ uf L f t, by omega, by rw [show cfn Z (P ++ uf L f t) = some (Z ++ cpn (P ++ uf L f t) ++ sub (P ++ uf L f t) (cpt (P ++ uf L f t)) (P ++ uf L f t).length) from if_pos (by omega)]; exact ⟨rfl, Y3⟩⟩
  · refine g_aload_n (pc := 205) dc_A_resolve_205 rfl ?_
    refine g_getfield (pc := 206) dc_A_resolve_206 fl_A_14 (Y3.kp hAr ka1 ka2 ka3 ka4) rfl ?_
    refine g_v0 (pc := 209) (M' := mt_B_clear) dc_A_resolve_209 mo_B_clear im_B_clear se_B_clear ln_A_23 i3.ha rfl rfl (Nat.le_of_ble_eq_true rfl) (Nat.le_of_ble_eq_true rfl) (am_G.mono (c_B_clear i3) ?_)
    intro r9 h4 hq
    obtain ⟨q0, hq⟩ := hq
    rw [q0]
    have Y4 : A2 h0 h4 r br cr p bp cp ([]) (P ++ uf L f t) := A2.sr hrp (by decide) i3 j3 ne3 w3 hq
    clear hq q0 r9 i3 j3 ne3 w3 Y3
    have B4 := Y4
    obtain ⟨br4, cr4, bp4, cp4, i4, j4, ne4, w4⟩ := B4
    refine ⟨am_nt0, ?_⟩
    refine g_aload_n (pc := 212) dc_A_resolve_212 rfl ?_
    refine g_getfield (pc := 213) dc_A_resolve_213 fl_A_14 (Y4.kp hAr ka1 ka2 ka3 ka4) rfl ?_
    refine g_getfield (pc := 216) dc_A_resolve_216 fl_A_72 i4.ha rfl ?_
    refine g_if_le (pc := 219) (tgt := 226) dc_A_resolve_219 rfl (fun _ => ?_) (fun hc => absurd hc (by decide))
    refine g_iconst (pc := 226) (v := 0) dc_A_resolve_226 rfl ?_
    exact g_zreturn dc_A_resolve_227 rfl rfl ⟨P ++ uf L f t, by omega, by rw [show cfn Z (P ++ uf L f t) = none from if_neg (by omega)]; exact ⟨rfl, Y4⟩⟩
end ARS
