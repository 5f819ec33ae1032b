/-! ===== the class's resolve, behind the scheme ===== -/
theorem prt_5 {L : List Int32} {f t q : Nat} (h : prt L f t = some q) : t - f ≤ 5 := by
  unfold prt at h
  split at h
  · cases h
  · omega
theorem cho_len {L H : List Int32} {f t : Nat} (hft : f ≤ t) (ht : t ≤ L.length) (h : cho L f t = some H) : H.length ≤ 90 := by
  have hsb := hst_bd (L := L) hft
  have hcb := fw_bd (p := nev 58) (L := L) (f := f) (t := hst L f t) hsb.1
  have hmb := nmin_bd (fw (nev 58) L f (hst L f t) + 1) (hst L f t)
  rw [show Nat.min (fw (nev 58) L f (hst L f t) + 1) (hst L f t) = cpf L f t from rfl] at hmb
  unfold cho at h
  split at h
  · rename_i hh
    unfold isHo at hh
    rw [Bool.and_eq_true, decide_eq_true_eq] at hh
    split at h
    · cases h
    · rename_i q hq
      cases h
      have h5 := prt_5 hq
      rw [List.length_append, List.length_map, sub_len (by omega)]
      split
      · show _ + 0 ≤ 90
        omega
      · have hz := fw_ge (p := zB) (L := L) (cpf L f t) (hst L f t - 1)
        rw [List.length_cons, sub_len (Nat.le_trans hsb.2 ht)]
        omega
  · cases h
theorem cbP_len {L D : List Int32} {f t : Nat} (hh : hen D ≤ D.length) : (cbP L f t D).length ≤ D.length := by
  have hb := bmk_bd hh
  have hw := bw_bd (p := nev 47) (L := D) hb.1
  unfold cbP
  split
  · split
    · rw [sub_len (Nat.le_refl _)]; omega
    · rw [sub_len hb.2]; omega
  · split
    · exact Nat.zero_le _
    · rw [sub_len (by omega)]; omega
section ART
variable {X : am_X} {d a r p c s br cr bp cp f t : Nat} {h0 h1 : List va_E} {L R0 P0 : List Int32}
theorem sD_A_resolve {bb bbb cbb : Nat} {D : List Int32} (hAr : h0[a]? = some (.inr (2, [.ref r, .ref p]))) (z1 : isB h0 r br cr R0) (z2 : isB h0 p bp cp P0) (hrp : r ≠ p) (z3 : isB h0 bb bbb cbb D) (kb1 : bb ≠ r) (kb3 : bb ≠ p) (kb5 : bbb ≠ br) (kb6 : bbb ≠ bp) (hD8 : 8 ≤ D.length) (hD9 : D.length ≤ 200) (hDh : 1 ≤ hen D ∧ hen D ≤ 100) (Y1 : A2 h0 h1 r br cr p bp cp [] []) (hx : ttb h0 c s L) (hcr : c ≠ br) (hcp : c ≠ bp) (hft : f ≤ t) (ht : t ≤ L.length) (hL8 : L.length ≤ 8000) : am_G X mt_A_resolve (d + 7) 128 [some (.ref a), some (.ref c), none, none, some (.ref bb), some (.int (nI (s + f))), some (.int (nI (s + t))), none, none] [] h1 (fun r9 h9 => ∃ P9, P9.length ≤ 8300 ∧ match crs L f t (some D) with | some D => r9 = some (.int 1) ∧ A2 h0 h9 r br cr p bp cp D P9 | none => r9 = some (.int 0) ∧ A2 h0 h9 r br cr p bp cp [] P9) := by
  have ka1 : a ≠ r := fun e => by rw [e, z1.ha] at hAr; cases hAr
  have ka3 : a ≠ p := fun e => by rw [e, z2.ha] at hAr; cases hAr
  have ka2 : a ≠ br := fun e => by obtain ⟨g, q1, q2, -⟩ := z1; rw [e, q2] at hAr; cases hAr
  have ka4 : a ≠ bp := fun e => by obtain ⟨g, q1, q2, -⟩ := z2; rw [e, q2] at hAr; cases hAr
  have B1 := Y1
  obtain ⟨br1, cr1, bp1, cp1, i1, j1, ne1, w1⟩ := B1
  have hbs : s + L.length < 2 ^ 30 := by obtain ⟨cq, g, -, -, q1, q2⟩ := hx.tt; omega
  refine g_aload_n (pc := 128) dc_A_resolve_128 rfl ?_
  refine g_iload (pc := 129) dc_A_resolve_129 rfl ?_
  refine g_iload (pc := 131) dc_A_resolve_131 rfl ?_
  refine g_ldcS (pc := 133) 2 dc_A_resolve_133 (by decide) rfl rfl ?_
  refine g_s4 (pc := 135) (M' := mt_W_beginsWith) dc_A_resolve_135 mo_W_beginsWith st_W_beginsWith ln_A_55 (Nat.le_of_ble_eq_true rfl) (Nat.le_of_ble_eq_true rfl) (am_G.mono (t_W_beginsWith (f := f) (t := t) (i := 2) (Y1.tx hx hcr hcp z1 z2).tt (by decide) (by omega) (by omega)) ?_)
  intro r h1 hq
  rw [hq.1, hq.2]
  clear hq h1 r
  refine ⟨am_nti _, ?_⟩
  refine q_ifb_eq (pc := 138) (tgt := 155) dc_A_resolve_138 rfl (fun hc138 => ?_) (fun hc138 => ?_)
  · refine g_aload_n (pc := 155) dc_A_resolve_155 rfl ?_
    refine g_aload_n (pc := 156) dc_A_resolve_156 rfl ?_
    refine g_iload (pc := 157) dc_A_resolve_157 rfl ?_
    refine g_iload (pc := 159) dc_A_resolve_159 rfl ?_
    refine g_aload (pc := 161) dc_A_resolve_161 rfl ?_
    refine g_v4 (pc := 163) (M' := mt_A_joinBase) dc_A_resolve_163 mo_A_joinBase im_A_joinBase se_A_joinBase ln_A_61 (Y1.kp hAr ka1 ka2 ka3 ka4) rfl rfl (Nat.le_of_ble_eq_true rfl) (Nat.le_of_ble_eq_true rfl) (am_G.mono (c_A_joinBase (d := d + 3) hAr z1 z2 hrp z3 kb1 kb3 kb5 kb6 Y1 hx hcr hcp hft ht hL8 hD8 hD9) ?_)
    intro r9 h2 hq
    obtain ⟨q0, Y2⟩ := hq
    rw [q0]
    refine ⟨am_nti _, ?_⟩
    rw [show crs L f t (some D) = cfn (sub D 0 (hen D)) (cbP L f t D ++ uf L f t) from by unfold crs; rw [if_neg (by rw [hc138]; decide)]]
    have hh := hen_bd hD8
    have hsl := sub_len (L := D) (f := 0) (t := hen D) hh.2
    have hcl := cbP_len (L := L) (f := f) (t := t) hh.2
    refine g_istore (pc := 166) dc_A_resolve_166 (by decide) ?_
    show am_G X mt_A_resolve _ 168 [some (.ref a), some (.ref c), none, none, some (.ref bb), some (.int (nI (s + f))), some (.int (nI (s + t))), none, some (.int (nI (s + f)))] [] _ _
    refine g_iload (pc := 168) dc_A_resolve_168 rfl ?_
    refine g_iconst (pc := 170) (v := (-1)) dc_A_resolve_170 rfl ?_
    refine g_icmp_ne (pc := 171) (tgt := 176) dc_A_resolve_171 rfl (fun _ => ?_) (fun hc => absurd hc (q_nem1 (by omega)))
    refine am_wk (am_le_s (am_le_s (am_le_n (am_le_n (am_le_n (am_le_n (am_le_s (am_le_n (am_le_s am_le_0))))))))) ?_
    exact u_A_resolve hAr z1 z2 hrp Y2 hx hcr hcp hft ht hL8 (by omega) (by omega) (by omega)
  · have hsl2 : f + 2 ≤ t := bgw_le (i := 2) hc138
    refine g_aload_n (pc := 141) dc_A_resolve_141 rfl ?_
    refine g_aload_n (pc := 142) dc_A_resolve_142 rfl ?_
    refine g_iload (pc := 143) dc_A_resolve_143 rfl ?_
    refine g_iconst (pc := 145) (v := 2) dc_A_resolve_145 rfl ?_
    refine g_iadd (pc := 146) (v := (nI (s + (f + 2)))) dc_A_resolve_146 (q_as s f 2) ?_
    refine g_iload (pc := 147) dc_A_resolve_147 rfl ?_
    refine g_v3 (pc := 149) (M' := mt_A_joinHost) dc_A_resolve_149 mo_A_joinHost im_A_joinHost se_A_joinHost ln_A_58 (Y1.kp hAr ka1 ka2 ka3 ka4) rfl rfl (Nat.le_of_ble_eq_true rfl) (Nat.le_of_ble_eq_true rfl) (am_G.mono (c_A_joinHost (d := d + 1) (P := []) (f := f + 2) (t := t) hAr z1 z2 hrp Y1 hx hcr hcp (by omega) ht hL8) ?_)
    intro r9 h2 hq
    cases hm : cho L (f + 2) t with
    | none =>
      rw [hm] at hq
      obtain ⟨q0, q1⟩ := hq
      rw [q0, q1]
      refine ⟨am_nti _, ?_⟩
      refine g_goto (pc := 152) (tgt := 166) dc_A_resolve_152 rfl ?_
      refine g_istore (pc := 166) dc_A_resolve_166 (by decide) ?_
      show am_G X mt_A_resolve _ 168 [some (.ref a), some (.ref c), none, none, some (.ref bb), some (.int (nI (s + f))), some (.int (nI (s + t))), none, some (.int (-1))] [] _ _
      refine g_iload (pc := 168) dc_A_resolve_168 rfl ?_
      refine g_iconst (pc := 170) (v := (-1)) dc_A_resolve_170 rfl ?_
      refine g_icmp_ne (pc := 171) (tgt := 176) dc_A_resolve_171 rfl (fun hc => absurd hc (by decide)) (fun _ => ?_)
      refine g_iconst (pc := 174) (v := 0) dc_A_resolve_174 rfl ?_
      exact g_zreturn dc_A_resolve_175 rfl rfl ⟨[], by decide, by rw [show crs L f t (some D) = none from by unfold crs; rw [if_pos hc138, hm]]; exact ⟨rfl, Y1⟩⟩
    | some H =>
      rw [hm] at hq
      obtain ⟨q0, Y2⟩ := hq
      rw [q0]
      refine ⟨am_nti _, ?_⟩
      have hsb := hst_bd (L := L) (f := f + 2) (t := t) (by omega)
      have hHl := cho_len (by omega) ht hm
      rw [show crs L f t (some D) = cfn (h7 ++ H) (uf L (hst L (f + 2) t) t) from by unfold crs; rw [if_pos hc138, hm]]
      refine g_goto (pc := 152) (tgt := 166) dc_A_resolve_152 rfl ?_
      refine g_istore (pc := 166) dc_A_resolve_166 (by decide) ?_
      show am_G X mt_A_resolve _ 168 [some (.ref a), some (.ref c), none, none, some (.ref bb), some (.int (nI (s + f))), some (.int (nI (s + t))), none, some (.int (nI (s + (hst L (f + 2) t))))] [] _ _
      refine g_iload (pc := 168) dc_A_resolve_168 rfl ?_
      refine g_iconst (pc := 170) (v := (-1)) dc_A_resolve_170 rfl ?_
      refine g_icmp_ne (pc := 171) (tgt := 176) dc_A_resolve_171 rfl (fun _ => ?_) (fun hc => absurd hc (q_nem1 (by omega)))
      refine am_wk (am_le_s (am_le_s (am_le_n (am_le_n (am_le_n (am_le_n (am_le_s (am_le_n (am_le_s am_le_0))))))))) ?_
      have h9 := u_A_resolve (X := X) (d := d) (Z := h7 ++ H) (P := []) (f := hst L (f + 2) t) (t := t) hAr z1 z2 hrp Y2 hx hcr hcp (by omega) ht hL8 (by decide) (by rw [List.length_append]; show 1 ≤ 7 + _; omega) (by rw [List.length_append]; show 7 + _ ≤ _; omega)
      rw [List.nil_append] at h9
      exact h9
theorem sE_A_resolve {bb bbb cbb : Nat} (hAr : h0[a]? = some (.inr (2, [.ref r, .ref p]))) (z1 : isB h0 r br cr R0) (z2 : isB h0 p bp cp P0) (hrp : r ≠ p) (z3 : isB h0 bb bbb cbb []) (kb1 : bb ≠ r) (kb3 : bb ≠ p) (Y1 : A2 h0 h1 r br cr p bp cp [] []) (hx : ttb h0 c s L) (hcr : c ≠ br) (hcp : c ≠ bp) (hft : f ≤ t) (ht : t ≤ L.length) (hL8 : L.length ≤ 8000) : am_G X mt_A_resolve (d + 7) 128 [some (.ref a), some (.ref c), none, none, some (.ref bb), some (.int (nI (s + f))), some (.int (nI (s + t))), none, none] [] h1 (fun r9 h9 => ∃ P9, P9.length ≤ 8300 ∧ match crs L f t none with | some D => r9 = some (.int 1) ∧ A2 h0 h9 r br cr p bp cp D P9 | none => r9 = some (.int 0) ∧ A2 h0 h9 r br cr p bp cp [] P9) := by
  have ka1 : a ≠ r := fun e => by rw [e, z1.ha] at hAr; cases hAr
  have ka3 : a ≠ p := fun e => by rw [e, z2.ha] at hAr; cases hAr
  have ka2 : a ≠ br := fun e => by obtain ⟨g, q1, q2, -⟩ := z1; rw [e, q2] at hAr; cases hAr
  have ka4 : a ≠ bp := fun e => by obtain ⟨g, q1, q2, -⟩ := z2; rw [e, q2] at hAr; cases hAr
  have B1 := Y1
  obtain ⟨br1, cr1, bp1, cp1, i1, j1, ne1, w1⟩ := B1
  have hbs : s + L.length < 2 ^ 30 := by obtain ⟨cq, g, -, -, q1, q2⟩ := hx.tt; omega
  have kb2 : bb ≠ br := fun e => by obtain ⟨g, q1, q2, -⟩ := z1; have q3 := z3.ha; rw [e, q2] at q3; cases q3
  have kb4 : bb ≠ bp := fun e => by obtain ⟨g, q1, q2, -⟩ := z2; have q3 := z3.ha; rw [e, q2] at q3; cases q3
  refine g_aload_n (pc := 128) dc_A_resolve_128 rfl ?_
  refine g_iload (pc := 129) dc_A_resolve_129 rfl ?_
  refine g_iload (pc := 131) dc_A_resolve_131 rfl ?_
  refine g_ldcS (pc := 133) 2 dc_A_resolve_133 (by decide) rfl rfl ?_
  refine g_s4 (pc := 135) (M' := mt_W_beginsWith) dc_A_resolve_135 mo_W_beginsWith st_W_beginsWith ln_A_55 (Nat.le_of_ble_eq_true rfl) (Nat.le_of_ble_eq_true rfl) (am_G.mono (t_W_beginsWith (f := f) (t := t) (i := 2) (Y1.tx hx hcr hcp z1 z2).tt (by decide) (by omega) (by omega)) ?_)
  intro r h1 hq
  rw [hq.1, hq.2]
  clear hq h1 r
  refine ⟨am_nti _, ?_⟩
  refine q_ifb_eq (pc := 138) (tgt := 155) dc_A_resolve_138 rfl (fun hc138 => ?_) (fun hc138 => ?_)
  · refine g_aload_n (pc := 155) dc_A_resolve_155 rfl ?_
    refine g_aload_n (pc := 156) dc_A_resolve_156 rfl ?_
    refine g_iload (pc := 157) dc_A_resolve_157 rfl ?_
    refine g_iload (pc := 159) dc_A_resolve_159 rfl ?_
    refine g_aload (pc := 161) dc_A_resolve_161 rfl ?_
    refine g_v4 (pc := 163) (M' := mt_A_joinBase) dc_A_resolve_163 mo_A_joinBase im_A_joinBase se_A_joinBase ln_A_61 (Y1.kp hAr ka1 ka2 ka3 ka4) rfl rfl (Nat.le_of_ble_eq_true rfl) (Nat.le_of_ble_eq_true rfl) (am_G.mono (c_A_joinBaseE (d := d + 3) (bbb := bbb) (Y1.kp z3.ha kb1 kb2 kb3 kb4)) ?_)
    intro r9 h2 hq
    rw [hq.1, hq.2]
    refine ⟨am_nti _, ?_⟩
    refine g_istore (pc := 166) dc_A_resolve_166 (by decide) ?_
    show am_G X mt_A_resolve _ 168 [some (.ref a), some (.ref c), none, none, some (.ref bb), some (.int (nI (s + f))), some (.int (nI (s + t))), none, some (.int (-1))] [] _ _
    refine g_iload (pc := 168) dc_A_resolve_168 rfl ?_
    refine g_iconst (pc := 170) (v := (-1)) dc_A_resolve_170 rfl ?_
    refine g_icmp_ne (pc := 171) (tgt := 176) dc_A_resolve_171 rfl (fun hc => absurd hc (by decide)) (fun _ => ?_)
    refine g_iconst (pc := 174) (v := 0) dc_A_resolve_174 rfl ?_
    exact g_zreturn dc_A_resolve_175 rfl rfl ⟨[], by decide, by rw [show crs L f t none = none from by unfold crs; rw [if_neg (by rw [hc138]; decide)]]; exact ⟨rfl, Y1⟩⟩
  · have hsl2 : f + 2 ≤ t := bgw_le (i := 2) hc138
    refine g_aload_n (pc := 141) dc_A_resolve_141 rfl ?_
    refine g_aload_n (pc := 142) dc_A_resolve_142 rfl ?_
    refine g_iload (pc := 143) dc_A_resolve_143 rfl ?_
    refine g_iconst (pc := 145) (v := 2) dc_A_resolve_145 rfl ?_
    refine g_iadd (pc := 146) (v := (nI (s + (f + 2)))) dc_A_resolve_146 (q_as s f 2) ?_
    refine g_iload (pc := 147) dc_A_resolve_147 rfl ?_
    refine g_v3 (pc := 149) (M' := mt_A_joinHost) dc_A_resolve_149 mo_A_joinHost im_A_joinHost se_A_joinHost ln_A_58 (Y1.kp hAr ka1 ka2 ka3 ka4) rfl rfl (Nat.le_of_ble_eq_true rfl) (Nat.le_of_ble_eq_true rfl) (am_G.mono (c_A_joinHost (d := d + 1) (P := []) (f := f + 2) (t := t) hAr z1 z2 hrp Y1 hx hcr hcp (by omega) ht hL8) ?_)
    intro r9 h2 hq
    cases hm : cho L (f + 2) t with
    | none =>
      rw [hm] at hq
      obtain ⟨q0, q1⟩ := hq
      rw [q0, q1]
      refine ⟨am_nti _, ?_⟩
      refine g_goto (pc := 152) (tgt := 166) dc_A_resolve_152 rfl ?_
      refine g_istore (pc := 166) dc_A_resolve_166 (by decide) ?_
      show am_G X mt_A_resolve _ 168 [some (.ref a), some (.ref c), none, none, some (.ref bb), some (.int (nI (s + f))), some (.int (nI (s + t))), none, some (.int (-1))] [] _ _
      refine g_iload (pc := 168) dc_A_resolve_168 rfl ?_
      refine g_iconst (pc := 170) (v := (-1)) dc_A_resolve_170 rfl ?_
      refine g_icmp_ne (pc := 171) (tgt := 176) dc_A_resolve_171 rfl (fun hc => absurd hc (by decide)) (fun _ => ?_)
      refine g_iconst (pc := 174) (v := 0) dc_A_resolve_174 rfl ?_
      exact g_zreturn dc_A_resolve_175 rfl rfl ⟨[], by decide, by rw [show crs L f t none = none from by unfold crs; rw [if_pos hc138, hm]]; exact ⟨rfl, Y1⟩⟩
    | some H =>
      rw [hm] at hq
      obtain ⟨q0, Y2⟩ := hq
      rw [q0]
      refine ⟨am_nti _, ?_⟩
      have hsb := hst_bd (L := L) (f := f + 2) (t := t) (by omega)
      have hHl := cho_len (by omega) ht hm
      rw [show crs L f t none = cfn (h7 ++ H) (uf L (hst L (f + 2) t) t) from by unfold crs; rw [if_pos hc138, hm]]
      refine g_goto (pc := 152) (tgt := 166) dc_A_resolve_152 rfl ?_
      refine g_istore (pc := 166) dc_A_resolve_166 (by decide) ?_
      show am_G X mt_A_resolve _ 168 [some (.ref a), some (.ref c), none, none, some (.ref bb), some (.int (nI (s + f))), some (.int (nI (s + t))), none, some (.int (nI (s + (hst L (f + 2) t))))] [] _ _
      refine g_iload (pc := 168) dc_A_resolve_168 rfl ?_
      refine g_iconst (pc := 170) (v := (-1)) dc_A_resolve_170 rfl ?_
      refine g_icmp_ne (pc := 171) (tgt := 176) dc_A_resolve_171 rfl (fun _ => ?_) (fun hc => absurd hc (q_nem1 (by omega)))
      refine am_wk (am_le_s (am_le_s (am_le_n (am_le_n (am_le_n (am_le_n (am_le_s (am_le_n (am_le_s am_le_0))))))))) ?_
      have h9 := u_A_resolve (X := X) (d := d) (Z := h7 ++ H) (P := []) (f := hst L (f + 2) t) (t := t) hAr z1 z2 hrp Y2 hx hcr hcp (by omega) ht hL8 (by decide) (by rw [List.length_append]; show 1 ≤ 7 + _; omega) (by rw [List.length_append]; show 7 + _ ≤ _; omega)
      rw [List.nil_append] at h9
      exact h9
theorem sN_A_resolve  (hAr : h0[a]? = some (.inr (2, [.ref r, .ref p]))) (z1 : isB h0 r br cr R0) (z2 : isB h0 p bp cp P0) (hrp : r ≠ p)  (Y1 : A2 h0 h1 r br cr p bp cp [] []) (hx : ttb h0 c s L) (hcr : c ≠ br) (hcp : c ≠ bp) (hft : f ≤ t) (ht : t ≤ L.length) (hL8 : L.length ≤ 8000) : am_G X mt_A_resolve (d + 7) 128 [some (.ref a), some (.ref c), none, none, some (.null), some (.int (nI (s + f))), some (.int (nI (s + t))), none, none] [] h1 (fun r9 h9 => ∃ P9, P9.length ≤ 8300 ∧ match crs L f t none with | some D => r9 = some (.int 1) ∧ A2 h0 h9 r br cr p bp cp D P9 | none => r9 = some (.int 0) ∧ A2 h0 h9 r br cr p bp cp [] P9) := by
  have ka1 : a ≠ r := fun e => by rw [e, z1.ha] at hAr; cases hAr
  have ka3 : a ≠ p := fun e => by rw [e, z2.ha] at hAr; cases hAr
  have ka2 : a ≠ br := fun e => by obtain ⟨g, q1, q2, -⟩ := z1; rw [e, q2] at hAr; cases hAr
  have ka4 : a ≠ bp := fun e => by obtain ⟨g, q1, q2, -⟩ := z2; rw [e, q2] at hAr; cases hAr
  have B1 := Y1
  obtain ⟨br1, cr1, bp1, cp1, i1, j1, ne1, w1⟩ := B1
  have hbs : s + L.length < 2 ^ 30 := by obtain ⟨cq, g, -, -, q1, q2⟩ := hx.tt; omega
  refine g_aload_n (pc := 128) dc_A_resolve_128 rfl ?_
  refine g_iload (pc := 129) dc_A_resolve_129 rfl ?_
  refine g_iload (pc := 131) dc_A_resolve_131 rfl ?_
  refine g_ldcS (pc := 133) 2 dc_A_resolve_133 (by decide) rfl rfl ?_
  refine g_s4 (pc := 135) (M' := mt_W_beginsWith) dc_A_resolve_135 mo_W_beginsWith st_W_beginsWith ln_A_55 (Nat.le_of_ble_eq_true rfl) (Nat.le_of_ble_eq_true rfl) (am_G.mono (t_W_beginsWith (f := f) (t := t) (i := 2) (Y1.tx hx hcr hcp z1 z2).tt (by decide) (by omega) (by omega)) ?_)
  intro r h1 hq
  rw [hq.1, hq.2]
  clear hq h1 r
  refine ⟨am_nti _, ?_⟩
  refine q_ifb_eq (pc := 138) (tgt := 155) dc_A_resolve_138 rfl (fun hc138 => ?_) (fun hc138 => ?_)
  · refine g_aload_n (pc := 155) dc_A_resolve_155 rfl ?_
    refine g_aload_n (pc := 156) dc_A_resolve_156 rfl ?_
    refine g_iload (pc := 157) dc_A_resolve_157 rfl ?_
    refine g_iload (pc := 159) dc_A_resolve_159 rfl ?_
    refine g_aloadN (pc := 161) dc_A_resolve_161 rfl ?_
    refine g_v4 (pc := 163) (M' := mt_A_joinBase) dc_A_resolve_163 mo_A_joinBase im_A_joinBase se_A_joinBase ln_A_61 (Y1.kp hAr ka1 ka2 ka3 ka4) rfl rfl (Nat.le_of_ble_eq_true rfl) (Nat.le_of_ble_eq_true rfl) (am_G.mono (c_A_joinBase0 (d := d + 3) (bb := 0) (fun _ => trivial)) ?_)
    intro r9 h2 hq
    rw [hq.1, hq.2]
    refine ⟨am_nti _, ?_⟩
    refine g_istore (pc := 166) dc_A_resolve_166 (by decide) ?_
    show am_G X mt_A_resolve _ 168 [some (.ref a), some (.ref c), none, none, some (.null), some (.int (nI (s + f))), some (.int (nI (s + t))), none, some (.int (-1))] [] _ _
    refine g_iload (pc := 168) dc_A_resolve_168 rfl ?_
    refine g_iconst (pc := 170) (v := (-1)) dc_A_resolve_170 rfl ?_
    refine g_icmp_ne (pc := 171) (tgt := 176) dc_A_resolve_171 rfl (fun hc => absurd hc (by decide)) (fun _ => ?_)
    refine g_iconst (pc := 174) (v := 0) dc_A_resolve_174 rfl ?_
    exact g_zreturn dc_A_resolve_175 rfl rfl ⟨[], by decide, by rw [show crs L f t none = none from by unfold crs; rw [if_neg (by rw [hc138]; decide)]]; exact ⟨rfl, Y1⟩⟩
  · have hsl2 : f + 2 ≤ t := bgw_le (i := 2) hc138
    refine g_aload_n (pc := 141) dc_A_resolve_141 rfl ?_
    refine g_aload_n (pc := 142) dc_A_resolve_142 rfl ?_
    refine g_iload (pc := 143) dc_A_resolve_143 rfl ?_
    refine g_iconst (pc := 145) (v := 2) dc_A_resolve_145 rfl ?_
    refine g_iadd (pc := 146) (v := (nI (s + (f + 2)))) dc_A_resolve_146 (q_as s f 2) ?_
    refine g_iload (pc := 147) dc_A_resolve_147 rfl ?_
    refine g_v3 (pc := 149) (M' := mt_A_joinHost) dc_A_resolve_149 mo_A_joinHost im_A_joinHost se_A_joinHost ln_A_58 (Y1.kp hAr ka1 ka2 ka3 ka4) rfl rfl (Nat.le_of_ble_eq_true rfl) (Nat.le_of_ble_eq_true rfl) (am_G.mono (c_A_joinHost (d := d + 1) (P := []) (f := f + 2) (t := t) hAr z1 z2 hrp Y1 hx hcr hcp (by omega) ht hL8) ?_)
    intro r9 h2 hq
    cases hm : cho L (f + 2) t with
    | none =>
      rw [hm] at hq
      obtain ⟨q0, q1⟩ := hq
      rw [q0, q1]
      refine ⟨am_nti _, ?_⟩
      refine g_goto (pc := 152) (tgt := 166) dc_A_resolve_152 rfl ?_
      refine g_istore (pc := 166) dc_A_resolve_166 (by decide) ?_
      show am_G X mt_A_resolve _ 168 [some (.ref a), some (.ref c), none, none, some (.null), some (.int (nI (s + f))), some (.int (nI (s + t))), none, some (.int (-1))] [] _ _
      refine g_iload (pc := 168) dc_A_resolve_168 rfl ?_
      refine g_iconst (pc := 170) (v := (-1)) dc_A_resolve_170 rfl ?_
      refine g_icmp_ne (pc := 171) (tgt := 176) dc_A_resolve_171 rfl (fun hc => absurd hc (by decide)) (fun _ => ?_)
      refine g_iconst (pc := 174) (v := 0) dc_A_resolve_174 rfl ?_
      exact g_zreturn dc_A_resolve_175 rfl rfl ⟨[], by decide, by rw [show crs L f t none = none from by unfold crs; rw [if_pos hc138, hm]]; exact ⟨rfl, Y1⟩⟩
    | some H =>
      rw [hm] at hq
      obtain ⟨q0, Y2⟩ := hq
      rw [q0]
      refine ⟨am_nti _, ?_⟩
      have hsb := hst_bd (L := L) (f := f + 2) (t := t) (by omega)
      have hHl := cho_len (by omega) ht hm
      rw [show crs L f t none = cfn (h7 ++ H) (uf L (hst L (f + 2) t) t) from by unfold crs; rw [if_pos hc138, hm]]
      refine g_goto (pc := 152) (tgt := 166) dc_A_resolve_152 rfl ?_
      refine g_istore (pc := 166) dc_A_resolve_166 (by decide) ?_
      show am_G X mt_A_resolve _ 168 [some (.ref a), some (.ref c), none, none, some (.null), some (.int (nI (s + f))), some (.int (nI (s + t))), none, some (.int (nI (s + (hst L (f + 2) t))))] [] _ _
      refine g_iload (pc := 168) dc_A_resolve_168 rfl ?_
      refine g_iconst (pc := 170) (v := (-1)) dc_A_resolve_170 rfl ?_
      refine g_icmp_ne (pc := 171) (tgt := 176) dc_A_resolve_171 rfl (fun _ => ?_) (fun hc => absurd hc (q_nem1 (by omega)))
      refine am_wk (am_le_s (am_le_s (am_le_n (am_le_n (am_le_n (am_le_n (am_le_s (am_le_n (am_le_s am_le_0))))))))) ?_
      have h9 := u_A_resolve (X := X) (d := d) (Z := h7 ++ H) (P := []) (f := hst L (f + 2) t) (t := t) hAr z1 z2 hrp Y2 hx hcr hcp (by omega) ht hL8 (by decide) (by rw [List.length_append]; show 1 ≤ 7 + _; omega) (by rw [List.length_append]; show 7 + _ ≤ _; omega)
      rw [List.nil_append] at h9
      exact h9
end ART
