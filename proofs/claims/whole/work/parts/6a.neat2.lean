/-! ===== the model's neaten: its loop ===== -/
theorem tx_l {g : Nat → Int32} {s : Nat} {D E : List Int32} (h : tx g s (D ++ E)) : tx g s D := fun j hj => by
  rw [h j (by rw [List.length_append]; omega), gx_app_l hj]
theorem dts_12 {L : List Int32} {f e : Nat} (h : dts L 1 f e = true) : ¬ dts L 2 f e = true := fun h2 => by
  unfold dts at h h2
  rw [Bool.and_eq_true, decide_eq_true_eq] at h h2
  omega
theorem dts_l {L : List Int32} {k f e : Nat} (h : dts L k f e = true) : e - f = k := by
  unfold dts at h
  rw [Bool.and_eq_true, decide_eq_true_eq] at h
  exact h.1
theorem t0_M_isDots {X : am_X} {d : Nat} {h : List va_E} {a f t k : Nat} {L : List Int32} (hx : tt h a 0 L) (hft : f ≤ t) (hk : k < 2 ^ 30) (ht : t ≤ L.length) : am_C X mt_M_isDots d [.ref a, .int (nI f), .int (nI t), .int (nI k)] h (fun r h1 => r = some (.int (b1 (dts L k f t))) ∧ h1 = h) := by
  have h9 := t_M_isDots (X := X) (d := d) hx hft hk ht
  simp only [Nat.zero_add] at h9
  exact h9
theorem tt_path {A B : List va_E} {S : MS} {L : List Int32} (hA : A.length = 84) (hX : tx S.path 0 L) (hs : L.length ≤ 8400) : tt (mput A S B) 92 0 L := ⟨8400, S.path, mp_a hA 8 rfl, hX, by omega, by omega⟩
theorem scA.mk (S : MS) (a : Nat → Int32) : scA S (S.s_marks a) := ⟨S.made, S.madeLength, S.host, S.hostLength, S.path, S.pathLength, S.query, S.queryLength, S.neat, a, rfl⟩
theorem scA.nt (S : MS) (a : Nat → Int32) : scA S (S.s_neat a) := ⟨S.made, S.madeLength, S.host, S.hostLength, S.path, S.pathLength, S.query, S.queryLength, a, S.marks, rfl⟩
theorem tx_snoc {g : Nat → Int32} {D : List Int32} {v : Int32} (h : tx g 0 D) : tx (wrt g D.length [v]) 0 (D ++ [v]) := fun j hj => by
  rw [List.length_append] at hj
  have hj2 : j < D.length + 1 := hj
  unfold wrt
  by_cases h1 : j < D.length
  · rw [if_neg (by omega), gx_app_l h1]; exact h j h1
  · rw [if_pos ⟨by omega, by show 0 + j < D.length + 1; omega⟩, gx_app_r (by omega), Nat.zero_add]
theorem wrt_ap2 {g : Nat → Int32} {D : List Int32} (h : tx g 0 D) (E : List Int32) : tx (wrt g D.length E) 0 (D ++ E) := fun j hj => by
  rw [List.length_append] at hj
  unfold wrt
  by_cases h1 : j < D.length
  · rw [if_neg (by omega), gx_app_l h1]; exact h j h1
  · rw [if_pos (by omega), gx_app_r (by omega), Nat.zero_add]
theorem am_cg {X : am_X} {M : am_Mt} {d pc : Nat} {x y : Nat} {l : List (Option Value)} {st : List Value} {h : List va_E} {Q : Option Value → List va_E → Prop} {v : Value} (k : am_G X M d pc (some v :: some (.int (nI x)) :: l) st h Q) (e : x = y) : am_G X M d pc (some v :: some (.int (nI y)) :: l) st h Q := by rw [← e]; exact k
section NED
variable {X : am_X} {d : Nat} {A B : List va_E} {L H Qy : List Int32} {qo : Option Nat}
theorem l_M_neaten (hA : A.length = 84) (hH3 : H.length ≤ 80) (hHb : btg H) (hq2 : ∀ k, qo = some k → k = Qy.length) (hq3 : qo = none → Qy = []) (hq5 : Qy.length ≤ 8400) (hqb : btg Qy) (hLl : L.length ≤ 8400) (hLb : btg L) : ∀ (n f : Nat) (Ss : List (List Int32)) (b : Bool) (S : MS), L.length + 1 - f ≤ n → S.hostLength = H.length → tx S.host 0 H → S.queryLength = qo → tx S.query 0 Qy → tx S.path 0 L → S.pathLength = L.length → tx S.neat 0 Ss.flatten → (∀ k, k < Ss.length → S.marks k = nI (ofs Ss k)) → btg Ss.flatten → Ss.flatten.length + 1 ≤ f → Ss.length + 1 ≤ f → (b = true → Ss.flatten.length + 3 ≤ f) → 1 ≤ f → f ≤ L.length + 1 → am_G X mt_M_neaten (d + 4) 29 [some (.ref 84), some (.int (nI Ss.flatten.length)), some (.int (nI Ss.length)), some (.int (b1 b)), some (.int (nI f)), none, none, none] [] (mput A S B) (fun r h1 => ∃ S1, h1 = mput A S1 B ∧ scA S S1 ∧ if 7 + H.length + (nty (nst L n f Ss b)).length + Qy.length ≤ 200 then r = some (.int 1) ∧ S1.madeLength = (h7 ++ H ++ nty (nst L n f Ss b) ++ Qy).length ∧ tx S1.made 0 (h7 ++ H ++ nty (nst L n f Ss b) ++ Qy) else r = some (.int 0))
  | 0, f, Ss, b, S, hm, c1, c2, c3, c4, c5, c6, c7, c8, c9, c10, c11, c12, c13, c14 => by
    refine g_iload (pc := 29) dc_M_neaten_29 rfl ?_
    refine g_aload_n (pc := 31) dc_M_neaten_31 rfl ?_
    refine g_getfield (pc := 32) (v := .int (nI L.length)) dc_M_neaten_32 fl_M_98 (mp_o hA) (congrArg (fun z => some (Value.int (nI z))) c6) ?_
    refine q_icmp_gt (pc := 35) (tgt := 193) f L.length dc_M_neaten_35 (by omega) (by omega) rfl (fun hc35 => ?_) (fun hc => absurd hc (by omega))
    refine g_iload_n (pc := 193) dc_M_neaten_193 rfl ?_
    refine q_ifb_eq (pc := 194) (tgt := 208) dc_M_neaten_194 rfl (fun hc194 => ?_) (fun hc194 => ?_)
    · rw [show nst L 0 f Ss b = (Ss, b) from rfl]
      rw [show nty (Ss, b) = Ss.flatten by unfold nty; rw [hc194]; exact List.append_nil _]
      refine am_wk (am_le_s (am_le_s (am_le_n (am_le_n (am_le_n (am_le_n (am_le_n (am_le_n am_le_0)))))))) ?_
      exact u_M_neaten hA c1 c2 hH3 hHb c3 hq2 hq3 c4 hq5 hqb c7 (by omega) c9
    · refine g_aload_n (pc := 197) dc_M_neaten_197 rfl ?_
      refine g_getfield (pc := 198) dc_M_neaten_198 fl_M_122 (mp_o hA) rfl ?_
      refine g_iload_n (pc := 201) dc_M_neaten_201 rfl ?_
      refine g_bipush (pc := 202) (v := 47) dc_M_neaten_202 rfl ?_
      refine asE_neat (pc := 204) Ss.flatten.length (g := wrt S.neat Ss.flatten.length [47]) hA dc_M_neaten_204 (by have := c12 hc194; omega) (by have h9 := wrt_put (g := S.neat) (n := Ss.flatten.length) (i := Ss.flatten.length) (D := []) (x := 47) (v := 47) rfl rfl; rw [wrt_nil] at h9; exact h9) ?_
      refine g_iinc (pc := 205) (v := (nI (Ss.flatten.length + 1))) dc_M_neaten_205 rfl (nI_add Ss.flatten.length 1) (by decide) ?_
      show am_G X mt_M_neaten _ 208 [some (.ref 84), some (.int (nI (Ss.flatten.length + 1))), some (.int (nI Ss.length)), some (.int (b1 b)), some (.int (nI f)), none, none, none] [] _ _
      rw [show nst L 0 f Ss b = (Ss, b) from rfl]
      rw [show nty (Ss, b) = Ss.flatten ++ [47] by unfold nty; rw [if_pos hc194]]
      refine am_wk (am_le_s (am_le_s (am_le_n (am_le_n (am_le_n (am_le_n (am_le_n (am_le_n am_le_0)))))))) ?_
      have h9 := u_M_neaten (X := X) (d := d) (B := B) (S := S.s_neat (wrt S.neat Ss.flatten.length [47])) (N := Ss.flatten ++ [47]) hA c1 c2 hH3 hHb c3 hq2 hq3 c4 hq5 hqb (tx_snoc c7) (by rw [List.length_append]; show Ss.flatten.length + 1 ≤ 8400; have := c12 hc194; omega) (btg_app c9 (fun j => by cases j with | zero => exact bt_nI (j := 47) (by omega) | succ j => exact bt_0))
      refine am_G.mono (am_cg h9 (by rw [List.length_append]; rfl)) (fun r h1 hq => ?_)
      obtain ⟨S1, q1, q2, q3⟩ := hq
      exact ⟨S1, q1, scA.tr (scA.nt _ _) q2, q3⟩
  | n + 1, f, Ss, b, S, hm, c1, c2, c3, c4, c5, c6, c7, c8, c9, c10, c11, c12, c13, c14 => by
    by_cases hfl : f ≤ L.length
    · have hb := fw_bd (p := nev 47) (L := L) hfl
      refine g_iload (pc := 29) dc_M_neaten_29 rfl ?_
      refine g_aload_n (pc := 31) dc_M_neaten_31 rfl ?_
      refine g_getfield (pc := 32) (v := .int (nI L.length)) dc_M_neaten_32 fl_M_98 (mp_o hA) (congrArg (fun z => some (Value.int (nI z))) c6) ?_
      refine q_icmp_gt (pc := 35) (tgt := 193) f L.length dc_M_neaten_35 (by omega) (by omega) rfl (fun hc => absurd hc (by omega)) (fun hc35 => ?_)
      refine g_aload_n (pc := 38) dc_M_neaten_38 rfl ?_
      refine g_getfield (pc := 39) dc_M_neaten_39 fl_M_91 (mp_o hA) rfl ?_
      refine g_iload (pc := 42) dc_M_neaten_42 rfl ?_
      refine g_aload_n (pc := 44) dc_M_neaten_44 rfl ?_
      refine g_getfield (pc := 45) (v := .int (nI L.length)) dc_M_neaten_45 fl_M_98 (mp_o hA) (congrArg (fun z => some (Value.int (nI z))) c6) ?_
      refine g_bipush (pc := 48) (v := 47) dc_M_neaten_48 rfl ?_
      refine g_s4 (pc := 50) (M' := mt_M_seek) dc_M_neaten_50 mo_M_seek st_M_seek ln_M_48 (Nat.le_of_ble_eq_true rfl) (Nat.le_of_ble_eq_true rfl) (am_G.mono (t0_M_seek (v := 47) (f := f) (t := L.length) (tt_path hA c5 hLl) (by omega) (by omega)) ?_)
      intro r h1 hq
      rw [hq.1, hq.2]
      clear hq h1 r
      refine ⟨am_nti _, ?_⟩
      have hb50 := fw_bd (p := nev 47) (L := L) (f := f) (t := L.length) (by omega)
      refine g_istore (pc := 53) dc_M_neaten_53 (by decide) ?_
      show am_G X mt_M_neaten _ 55 [some (.ref 84), some (.int (nI Ss.flatten.length)), some (.int (nI Ss.length)), some (.int (b1 b)), some (.int (nI f)), some (.int (nI (fw (nev 47) L f L.length))), none, none] [] _ _
      refine g_aload_n (pc := 55) dc_M_neaten_55 rfl ?_
      refine g_getfield (pc := 56) dc_M_neaten_56 fl_M_91 (mp_o hA) rfl ?_
      refine g_iload (pc := 59) dc_M_neaten_59 rfl ?_
      refine g_iload (pc := 61) dc_M_neaten_61 rfl ?_
      refine g_iconst (pc := 63) (v := 1) dc_M_neaten_63 rfl ?_
      refine g_s4 (pc := 64) (M' := mt_M_isDots) dc_M_neaten_64 mo_M_isDots st_M_isDots ln_M_115 (Nat.le_of_ble_eq_true rfl) (Nat.le_of_ble_eq_true rfl) (am_G.mono (t0_M_isDots (f := f) (t := fw (nev 47) L f L.length) (k := 1) (tt_path hA c5 hLl) (by omega) (by omega) (by omega)) ?_)
      intro r h1 hq
      rw [hq.1, hq.2]
      clear hq h1 r
      refine ⟨am_nti _, ?_⟩
      refine q_ifb_ne (pc := 67) (tgt := 85) dc_M_neaten_67 rfl (fun hc67 => ?_) (fun hc67 => ?_)
      · refine g_iconst (pc := 85) (v := 1) dc_M_neaten_85 rfl ?_
        refine g_goto (pc := 86) (tgt := 90) dc_M_neaten_86 rfl ?_
        refine g_istore_n (pc := 90) dc_M_neaten_90 (by decide) ?_
        show am_G X mt_M_neaten _ 91 [some (.ref 84), some (.int (nI Ss.flatten.length)), some (.int (nI Ss.length)), some (.int 1), some (.int (nI f)), some (.int (nI (fw (nev 47) L f L.length))), none, none] [] _ _
        refine g_aload_n (pc := 91) dc_M_neaten_91 rfl ?_
        refine g_getfield (pc := 92) dc_M_neaten_92 fl_M_91 (mp_o hA) rfl ?_
        refine g_iload (pc := 95) dc_M_neaten_95 rfl ?_
        refine g_iload (pc := 97) dc_M_neaten_97 rfl ?_
        refine g_iconst (pc := 99) (v := 2) dc_M_neaten_99 rfl ?_
        refine g_s4 (pc := 100) (M' := mt_M_isDots) dc_M_neaten_100 mo_M_isDots st_M_isDots ln_M_115 (Nat.le_of_ble_eq_true rfl) (Nat.le_of_ble_eq_true rfl) (am_G.mono (t0_M_isDots (f := f) (t := fw (nev 47) L f L.length) (k := 2) (tt_path hA c5 hLl) (by omega) (by omega) (by omega)) ?_)
        intro r h1 hq
        rw [hq.1, hq.2]
        clear hq h1 r
        refine ⟨am_nti _, ?_⟩
        refine q_ifb_eq (pc := 103) (tgt := 135) dc_M_neaten_103 rfl (fun hc103 => ?_) (fun hc => absurd hc (dts_12 hc67))
        refine g_iload_n (pc := 135) dc_M_neaten_135 rfl ?_
        refine g_if_ne (pc := 136) (tgt := 184) dc_M_neaten_136 rfl (fun _ => ?_) (fun hc => absurd hc (by decide))
        refine g_iload (pc := 184) dc_M_neaten_184 rfl ?_
        refine g_iconst (pc := 186) (v := 1) dc_M_neaten_186 rfl ?_
        refine g_iadd (pc := 187) (v := (nI (fw (nev 47) L f L.length + 1))) dc_M_neaten_187 (nI_add (fw (nev 47) L f L.length) 1) ?_
        refine g_istore (pc := 188) dc_M_neaten_188 (by decide) ?_
        show am_G X mt_M_neaten _ 190 [some (.ref 84), some (.int (nI Ss.flatten.length)), some (.int (nI Ss.length)), some (.int 1), some (.int (nI (fw (nev 47) L f L.length + 1))), some (.int (nI (fw (nev 47) L f L.length))), none, none] [] _ _
        refine g_goto (pc := 190) (tgt := 29) dc_M_neaten_190 rfl ?_
        have hns : nst L (n + 1) f Ss b = nst L n (fw (nev 47) L f L.length + 1) Ss true := by
          show (if f ≤ L.length then _ else _) = _
          rw [if_pos hfl, if_neg (dts_12 hc67), if_pos hc67]
        rw [hns]
        have hd := dts_l hc67
        refine am_wk (am_le_s (am_le_s (am_le_s (am_le_s (am_le_s (am_le_n (am_le_n (am_le_n am_le_0)))))))) ?_
        exact l_M_neaten hA hH3 hHb hq2 hq3 hq5 hqb hLl hLb n (fw (nev 47) L f L.length + 1) Ss true S (by omega) c1 c2 c3 c4 c5 c6 c7 c8 c9 (by omega) (by omega) (fun _ => by omega) (by omega) (by omega)
      · refine g_aload_n (pc := 70) dc_M_neaten_70 rfl ?_
        refine g_getfield (pc := 71) dc_M_neaten_71 fl_M_91 (mp_o hA) rfl ?_
        refine g_iload (pc := 74) dc_M_neaten_74 rfl ?_
        refine g_iload (pc := 76) dc_M_neaten_76 rfl ?_
        refine g_iconst (pc := 78) (v := 2) dc_M_neaten_78 rfl ?_
        refine g_s4 (pc := 79) (M' := mt_M_isDots) dc_M_neaten_79 mo_M_isDots st_M_isDots ln_M_115 (Nat.le_of_ble_eq_true rfl) (Nat.le_of_ble_eq_true rfl) (am_G.mono (t0_M_isDots (f := f) (t := fw (nev 47) L f L.length) (k := 2) (tt_path hA c5 hLl) (by omega) (by omega) (by omega)) ?_)
        intro r h1 hq
        rw [hq.1, hq.2]
        clear hq h1 r
        refine ⟨am_nti _, ?_⟩
        refine q_ifb_eq (pc := 82) (tgt := 89) dc_M_neaten_82 rfl (fun hc82 => ?_) (fun hc82 => ?_)
        · refine g_iconst (pc := 89) (v := 0) dc_M_neaten_89 rfl ?_
          refine g_istore_n (pc := 90) dc_M_neaten_90 (by decide) ?_
          show am_G X mt_M_neaten _ 91 [some (.ref 84), some (.int (nI Ss.flatten.length)), some (.int (nI Ss.length)), some (.int 0), some (.int (nI f)), some (.int (nI (fw (nev 47) L f L.length))), none, none] [] _ _
          refine g_aload_n (pc := 91) dc_M_neaten_91 rfl ?_
          refine g_getfield (pc := 92) dc_M_neaten_92 fl_M_91 (mp_o hA) rfl ?_
          refine g_iload (pc := 95) dc_M_neaten_95 rfl ?_
          refine g_iload (pc := 97) dc_M_neaten_97 rfl ?_
          refine g_iconst (pc := 99) (v := 2) dc_M_neaten_99 rfl ?_
          refine g_s4 (pc := 100) (M' := mt_M_isDots) dc_M_neaten_100 mo_M_isDots st_M_isDots ln_M_115 (Nat.le_of_ble_eq_true rfl) (Nat.le_of_ble_eq_true rfl) (am_G.mono (t0_M_isDots (f := f) (t := fw (nev 47) L f L.length) (k := 2) (tt_path hA c5 hLl) (by omega) (by omega) (by omega)) ?_)
          intro r h1 hq
          rw [hq.1, hq.2]
          clear hq h1 r
          refine ⟨am_nti _, ?_⟩
          refine q_ifb_eq (pc := 103) (tgt := 135) dc_M_neaten_103 rfl (fun hc103 => ?_) (fun hc => absurd hc (by rw [hc82]; decide))
          refine g_iload_n (pc := 135) dc_M_neaten_135 rfl ?_
          refine g_if_ne (pc := 136) (tgt := 184) dc_M_neaten_136 rfl (fun hc => absurd hc (by decide)) (fun _ => ?_)
          refine g_aload_n (pc := 139) dc_M_neaten_139 rfl ?_
          refine g_getfield (pc := 140) dc_M_neaten_140 fl_M_119 (mp_o hA) rfl ?_
          refine g_iload_n (pc := 143) dc_M_neaten_143 rfl ?_
          refine g_iload_n (pc := 144) dc_M_neaten_144 rfl ?_
          refine as_marks (pc := 145) Ss.length hA dc_M_neaten_145 (by omega) ?_
          refine g_iinc (pc := 146) (v := (nI (Ss.length + 1))) dc_M_neaten_146 rfl (nI_add Ss.length 1) (by decide) ?_
          show am_G X mt_M_neaten _ 149 [some (.ref 84), some (.int (nI Ss.flatten.length)), some (.int (nI (Ss.length + 1))), some (.int 0), some (.int (nI f)), some (.int (nI (fw (nev 47) L f L.length))), none, none] [] _ _
          refine g_iload (pc := 149) dc_M_neaten_149 rfl ?_
          refine g_iconst (pc := 151) (v := 1) dc_M_neaten_151 rfl ?_
          refine g_isub (pc := 152) (v := (nI (f - 1))) dc_M_neaten_152 (q_sub (a := f) (b := 1) (by omega)) ?_
          refine g_istore (pc := 153) dc_M_neaten_153 (by decide) ?_
          show am_G X mt_M_neaten _ 155 [some (.ref 84), some (.int (nI Ss.flatten.length)), some (.int (nI (Ss.length + 1))), some (.int 0), some (.int (nI f)), some (.int (nI (fw (nev 47) L f L.length))), some (.int (nI (f - 1))), none] [] _ _
          have hns : nst L (n + 1) f Ss b = nst L n (fw (nev 47) L f L.length + 1) (Ss ++ [sub L (f - 1) (fw (nev 47) L f L.length)]) false := by
            show (if f ≤ L.length then _ else _) = _
            rw [if_pos hfl, if_neg (by rw [hc82]; decide), if_neg (by rw [hc67]; decide)]
          rw [hns]
          have hsl := sub_len (L := L) (f := f - 1) (t := fw (nev 47) L f L.length) (by omega)
          have hfa : (Ss ++ [sub L (f - 1) (fw (nev 47) L f L.length)]).flatten = Ss.flatten ++ sub L (f - 1) (fw (nev 47) L f L.length) := by simp
          have hfn : (Ss ++ [sub L (f - 1) (fw (nev 47) L f L.length)]).flatten.length = Ss.flatten.length + (fw (nev 47) L f L.length - (f - 1)) := by rw [hfa, List.length_append, hsl]
          have hln : (Ss ++ [sub L (f - 1) (fw (nev 47) L f L.length)]).length = Ss.length + 1 := by rw [List.length_append]; rfl
          have h9 := l_M_neaten hA hH3 hHb hq2 hq3 hq5 hqb hLl hLb n (fw (nev 47) L f L.length + 1) (Ss ++ [sub L (f - 1) (fw (nev 47) L f L.length)]) false ((S.s_marks (upd S.marks Ss.length (nI Ss.flatten.length))).s_neat (wrt S.neat Ss.flatten.length (sub L (f - 1) (fw (nev 47) L f L.length)))) (by omega) c1 c2 c3 c4 c5 c6 (by rw [hfa]; exact wrt_ap2 c7 _) (fun k hk => ?_) (by rw [hfa]; exact btg_app c9 (btg_sub hLb (by omega))) (by omega) (by omega) (fun h8 => by cases h8) (by omega) (by omega)
          · have hK := w_M_neaten (X := X) (d := d) (B := B) (Q := (fun r h1 => ∃ S1, h1 = mput A S1 B ∧ scA S S1 ∧ if 7 + H.length + (nty (nst L n (fw (nev 47) L f L.length + 1) (Ss ++ [sub L (f - 1) (fw (nev 47) L f L.length)]) false)).length + Qy.length ≤ 200 then r = some (.int 1) ∧ S1.madeLength = (h7 ++ H ++ nty (nst L n (fw (nev 47) L f L.length + 1) (Ss ++ [sub L (f - 1) (fw (nev 47) L f L.length)]) false) ++ Qy).length ∧ tx S1.made 0 (h7 ++ H ++ nty (nst L n (fw (nev 47) L f L.length + 1) (Ss ++ [sub L (f - 1) (fw (nev 47) L f L.length)]) false) ++ Qy) else r = some (.int 0))) (S := (S.s_marks (upd S.marks Ss.length (nI Ss.flatten.length)))) (p := Ss.flatten.length) (a := f - 1) (e := fw (nev 47) L f L.length) (sg := Ss.length + 1) (f := f) (bb := some (.int 0)) (g0 := S.neat) hA c5 hLl hLb (by omega) (by omega) (fw (nev 47) L f L.length - (f - 1)) (f - 1) (by omega) (Nat.le_refl _) ?_
            · rw [Nat.sub_self, Nat.add_zero, sub_nil (Nat.le_refl _), wrt_nil] at hK
              exact am_wk (am_le_s (am_le_s (am_le_s (am_le_s (am_le_s (am_le_s (am_le_s (am_le_n am_le_0)))))))) hK
            · refine g_iload (pc := 155) dc_M_neaten_155 rfl ?_
              refine g_iload (pc := 157) dc_M_neaten_157 rfl ?_
              refine q_icmp_ge (pc := 159) (tgt := 184) (fw (nev 47) L f L.length) (fw (nev 47) L f L.length) dc_M_neaten_159 (by omega) (by omega) rfl (fun hc159 => ?_) (fun hc => absurd hc (by omega))
              refine g_iload (pc := 184) dc_M_neaten_184 rfl ?_
              refine g_iconst (pc := 186) (v := 1) dc_M_neaten_186 rfl ?_
              refine g_iadd (pc := 187) (v := (nI (fw (nev 47) L f L.length + 1))) dc_M_neaten_187 (nI_add (fw (nev 47) L f L.length) 1) ?_
              refine g_istore (pc := 188) dc_M_neaten_188 (by decide) ?_
              show am_G X mt_M_neaten _ 190 [some (.ref 84), some (.int (nI (Ss.flatten.length + (fw (nev 47) L f L.length - (f - 1))))), some (.int (nI (Ss.length + 1))), some (.int 0), some (.int (nI (fw (nev 47) L f L.length + 1))), some (.int (nI (fw (nev 47) L f L.length))), some (.int (nI (fw (nev 47) L f L.length))), none] [] _ _
              refine g_goto (pc := 190) (tgt := 29) dc_M_neaten_190 rfl ?_
              rw [hfn, hln] at h9
              refine am_wk (am_le_s (am_le_s (am_le_s (am_le_s (am_le_s (am_le_n (am_le_n (am_le_n am_le_0)))))))) ?_
              refine am_G.mono h9 (fun r h1 hq => ?_)
              obtain ⟨S1, q1, q2, q3⟩ := hq
              exact ⟨S1, q1, scA.tr (scA.tr (scA.mk _ _) (scA.nt _ _)) q2, q3⟩
          · show upd S.marks Ss.length (nI Ss.flatten.length) k = _
            unfold upd
            by_cases hk2 : k = Ss.length
            · rw [if_pos hk2, hk2, ofs_app (Nat.le_refl _), flat_len]
            · rw [if_neg hk2, ofs_app (by omega)]; exact c8 k (by omega)
        · refine g_iconst (pc := 85) (v := 1) dc_M_neaten_85 rfl ?_
          refine g_goto (pc := 86) (tgt := 90) dc_M_neaten_86 rfl ?_
          refine g_istore_n (pc := 90) dc_M_neaten_90 (by decide) ?_
          show am_G X mt_M_neaten _ 91 [some (.ref 84), some (.int (nI Ss.flatten.length)), some (.int (nI Ss.length)), some (.int 1), some (.int (nI f)), some (.int (nI (fw (nev 47) L f L.length))), none, none] [] _ _
          refine g_aload_n (pc := 91) dc_M_neaten_91 rfl ?_
          refine g_getfield (pc := 92) dc_M_neaten_92 fl_M_91 (mp_o hA) rfl ?_
          refine g_iload (pc := 95) dc_M_neaten_95 rfl ?_
          refine g_iload (pc := 97) dc_M_neaten_97 rfl ?_
          refine g_iconst (pc := 99) (v := 2) dc_M_neaten_99 rfl ?_
          refine g_s4 (pc := 100) (M' := mt_M_isDots) dc_M_neaten_100 mo_M_isDots st_M_isDots ln_M_115 (Nat.le_of_ble_eq_true rfl) (Nat.le_of_ble_eq_true rfl) (am_G.mono (t0_M_isDots (f := f) (t := fw (nev 47) L f L.length) (k := 2) (tt_path hA c5 hLl) (by omega) (by omega) (by omega)) ?_)
          intro r h1 hq
          rw [hq.1, hq.2]
          clear hq h1 r
          refine ⟨am_nti _, ?_⟩
          refine q_ifb_eq (pc := 103) (tgt := 135) dc_M_neaten_103 rfl (fun hc => absurd hc (by rw [hc82]; decide)) (fun hc103 => ?_)
          refine g_iload_n (pc := 106) dc_M_neaten_106 rfl ?_
          refine q_if_le (pc := 107) (tgt := 121) Ss.length dc_M_neaten_107 (by omega) rfl (fun hc107 => ?_) (fun hc107 => ?_)
          · refine g_iconst (pc := 121) (v := 0) dc_M_neaten_121 rfl ?_
            refine g_istore_n (pc := 122) dc_M_neaten_122 (by decide) ?_
            show am_G X mt_M_neaten _ 123 [some (.ref 84), some (.int 0), some (.int (nI Ss.length)), some (.int 1), some (.int (nI f)), some (.int (nI (fw (nev 47) L f L.length))), none, none] [] _ _
            refine g_iload_n (pc := 123) dc_M_neaten_123 rfl ?_
            refine q_if_le (pc := 124) (tgt := 133) Ss.length dc_M_neaten_124 (by omega) rfl (fun hc124 => ?_) (fun hc => absurd hc (by omega))
            refine g_iconst (pc := 133) (v := 0) dc_M_neaten_133 rfl ?_
            refine g_istore_n (pc := 134) dc_M_neaten_134 (by decide) ?_
            show am_G X mt_M_neaten _ 135 [some (.ref 84), some (.int 0), some (.int 0), some (.int 1), some (.int (nI f)), some (.int (nI (fw (nev 47) L f L.length))), none, none] [] _ _
            refine g_iload_n (pc := 135) dc_M_neaten_135 rfl ?_
            refine g_if_ne (pc := 136) (tgt := 184) dc_M_neaten_136 rfl (fun _ => ?_) (fun hc => absurd hc (by decide))
            refine g_iload (pc := 184) dc_M_neaten_184 rfl ?_
            refine g_iconst (pc := 186) (v := 1) dc_M_neaten_186 rfl ?_
            refine g_iadd (pc := 187) (v := (nI (fw (nev 47) L f L.length + 1))) dc_M_neaten_187 (nI_add (fw (nev 47) L f L.length) 1) ?_
            refine g_istore (pc := 188) dc_M_neaten_188 (by decide) ?_
            show am_G X mt_M_neaten _ 190 [some (.ref 84), some (.int 0), some (.int 0), some (.int 1), some (.int (nI (fw (nev 47) L f L.length + 1))), some (.int (nI (fw (nev 47) L f L.length))), none, none] [] _ _
            refine g_goto (pc := 190) (tgt := 29) dc_M_neaten_190 rfl ?_
            have hns : nst L (n + 1) f Ss b = nst L n (fw (nev 47) L f L.length + 1) Ss.dropLast true := by
              show (if f ≤ L.length then _ else _) = _
              rw [if_pos hfl, if_pos hc82]
            rw [hns]
            have hd := dts_l hc82
            have hdl : Ss.dropLast = Ss.take (Ss.length - 1) := List.dropLast_eq_take
            have hfl2 : Ss.dropLast.flatten.length = ofs Ss (Ss.length - 1) := by rw [flat_len, hdl, tk_len (by omega), tk_ofs (Nat.le_refl _)]
            have hll2 : Ss.dropLast.length = Ss.length - 1 := List.length_dropLast
            have hap : Ss.dropLast.flatten ++ ((Ss.drop (Ss.length - 1)).flatten ++ []) = Ss.flatten ++ [] := by rw [hdl]; exact tk_flat
            rw [List.append_nil, List.append_nil] at hap
            have hle : Ss.dropLast.flatten.length ≤ Ss.flatten.length := by rw [← hap, List.length_append]; omega
            refine am_wk (am_le_s (am_le_s (am_le_s (am_le_s (am_le_s (am_le_n (am_le_n (am_le_n am_le_0)))))))) ?_
            have h9 := l_M_neaten hA hH3 hHb hq2 hq3 hq5 hqb hLl hLb n (fw (nev 47) L f L.length + 1) Ss.dropLast true S (by omega) c1 c2 c3 c4 c5 c6 (tx_l (by rw [hap]; exact c7)) (fun k hk => by rw [hdl, tk_ofs (by omega)]; exact c8 k (by omega)) (btg_l (by rw [hap]; exact c9)) (by omega) (by omega) (fun _ => by omega) (by omega) (by omega)
            rw [hfl2, hll2, show Ss.length = 0 by omega, show ofs Ss (0 - 1) = 0 from rfl] at h9
            exact h9
          · refine g_aload_n (pc := 110) dc_M_neaten_110 rfl ?_
            refine g_getfield (pc := 111) dc_M_neaten_111 fl_M_119 (mp_o hA) rfl ?_
            refine g_iload_n (pc := 114) dc_M_neaten_114 rfl ?_
            refine g_iconst (pc := 115) (v := 1) dc_M_neaten_115 rfl ?_
            refine g_isub (pc := 116) (v := (nI (Ss.length - 1))) dc_M_neaten_116 (q_sub (a := Ss.length) (b := 1) (by omega)) ?_
            refine q_ialoadV (pc := 117) (Ss.length - 1) dc_M_neaten_117 (mp_a hA 11 rfl) (by omega) (by omega) (v := (nI (ofs Ss (Ss.length - 1)))) (c8 (Ss.length - 1) (by omega)) ?_
            refine g_goto (pc := 118) (tgt := 122) dc_M_neaten_118 rfl ?_
            refine g_istore_n (pc := 122) dc_M_neaten_122 (by decide) ?_
            show am_G X mt_M_neaten _ 123 [some (.ref 84), some (.int (nI (ofs Ss (Ss.length - 1)))), some (.int (nI Ss.length)), some (.int 1), some (.int (nI f)), some (.int (nI (fw (nev 47) L f L.length))), none, none] [] _ _
            refine g_iload_n (pc := 123) dc_M_neaten_123 rfl ?_
            refine q_if_le (pc := 124) (tgt := 133) Ss.length dc_M_neaten_124 (by omega) rfl (fun hc => absurd hc (by omega)) (fun hc124 => ?_)
            refine g_iload_n (pc := 127) dc_M_neaten_127 rfl ?_
            refine g_iconst (pc := 128) (v := 1) dc_M_neaten_128 rfl ?_
            refine g_isub (pc := 129) (v := (nI (Ss.length - 1))) dc_M_neaten_129 (q_sub (a := Ss.length) (b := 1) (by omega)) ?_
            refine g_goto (pc := 130) (tgt := 134) dc_M_neaten_130 rfl ?_
            refine g_istore_n (pc := 134) dc_M_neaten_134 (by decide) ?_
            show am_G X mt_M_neaten _ 135 [some (.ref 84), some (.int (nI (ofs Ss (Ss.length - 1)))), some (.int (nI (Ss.length - 1))), some (.int 1), some (.int (nI f)), some (.int (nI (fw (nev 47) L f L.length))), none, none] [] _ _
            refine g_iload_n (pc := 135) dc_M_neaten_135 rfl ?_
            refine g_if_ne (pc := 136) (tgt := 184) dc_M_neaten_136 rfl (fun _ => ?_) (fun hc => absurd hc (by decide))
            refine g_iload (pc := 184) dc_M_neaten_184 rfl ?_
            refine g_iconst (pc := 186) (v := 1) dc_M_neaten_186 rfl ?_
            refine g_iadd (pc := 187) (v := (nI (fw (nev 47) L f L.length + 1))) dc_M_neaten_187 (nI_add (fw (nev 47) L f L.length) 1) ?_
            refine g_istore (pc := 188) dc_M_neaten_188 (by decide) ?_
            show am_G X mt_M_neaten _ 190 [some (.ref 84), some (.int (nI (ofs Ss (Ss.length - 1)))), some (.int (nI (Ss.length - 1))), some (.int 1), some (.int (nI (fw (nev 47) L f L.length + 1))), some (.int (nI (fw (nev 47) L f L.length))), none, none] [] _ _
            refine g_goto (pc := 190) (tgt := 29) dc_M_neaten_190 rfl ?_
            have hns : nst L (n + 1) f Ss b = nst L n (fw (nev 47) L f L.length + 1) Ss.dropLast true := by
              show (if f ≤ L.length then _ else _) = _
              rw [if_pos hfl, if_pos hc82]
            rw [hns]
            have hd := dts_l hc82
            have hdl : Ss.dropLast = Ss.take (Ss.length - 1) := List.dropLast_eq_take
            have hfl2 : Ss.dropLast.flatten.length = ofs Ss (Ss.length - 1) := by rw [flat_len, hdl, tk_len (by omega), tk_ofs (Nat.le_refl _)]
            have hll2 : Ss.dropLast.length = Ss.length - 1 := List.length_dropLast
            have hap : Ss.dropLast.flatten ++ ((Ss.drop (Ss.length - 1)).flatten ++ []) = Ss.flatten ++ [] := by rw [hdl]; exact tk_flat
            rw [List.append_nil, List.append_nil] at hap
            have hle : Ss.dropLast.flatten.length ≤ Ss.flatten.length := by rw [← hap, List.length_append]; omega
            refine am_wk (am_le_s (am_le_s (am_le_s (am_le_s (am_le_s (am_le_n (am_le_n (am_le_n am_le_0)))))))) ?_
            have h9 := l_M_neaten hA hH3 hHb hq2 hq3 hq5 hqb hLl hLb n (fw (nev 47) L f L.length + 1) Ss.dropLast true S (by omega) c1 c2 c3 c4 c5 c6 (tx_l (by rw [hap]; exact c7)) (fun k hk => by rw [hdl, tk_ofs (by omega)]; exact c8 k (by omega)) (btg_l (by rw [hap]; exact c9)) (by omega) (by omega) (fun _ => by omega) (by omega) (by omega)
            rw [hfl2, hll2] at h9
            exact h9
    · have hns : nst L (n + 1) f Ss b = (Ss, b) := by
        show (if f ≤ L.length then _ else _) = _
        rw [if_neg hfl]
      refine g_iload (pc := 29) dc_M_neaten_29 rfl ?_
      refine g_aload_n (pc := 31) dc_M_neaten_31 rfl ?_
      refine g_getfield (pc := 32) (v := .int (nI L.length)) dc_M_neaten_32 fl_M_98 (mp_o hA) (congrArg (fun z => some (Value.int (nI z))) c6) ?_
      refine q_icmp_gt (pc := 35) (tgt := 193) f L.length dc_M_neaten_35 (by omega) (by omega) rfl (fun hc35 => ?_) (fun hc => absurd hc (by omega))
      refine g_iload_n (pc := 193) dc_M_neaten_193 rfl ?_
      refine q_ifb_eq (pc := 194) (tgt := 208) dc_M_neaten_194 rfl (fun hc194 => ?_) (fun hc194 => ?_)
      · rw [hns]
        rw [show nty (Ss, b) = Ss.flatten by unfold nty; rw [hc194]; exact List.append_nil _]
        refine am_wk (am_le_s (am_le_s (am_le_n (am_le_n (am_le_n (am_le_n (am_le_n (am_le_n am_le_0)))))))) ?_
        exact u_M_neaten hA c1 c2 hH3 hHb c3 hq2 hq3 c4 hq5 hqb c7 (by omega) c9
      · refine g_aload_n (pc := 197) dc_M_neaten_197 rfl ?_
        refine g_getfield (pc := 198) dc_M_neaten_198 fl_M_122 (mp_o hA) rfl ?_
        refine g_iload_n (pc := 201) dc_M_neaten_201 rfl ?_
        refine g_bipush (pc := 202) (v := 47) dc_M_neaten_202 rfl ?_
        refine asE_neat (pc := 204) Ss.flatten.length (g := wrt S.neat Ss.flatten.length [47]) hA dc_M_neaten_204 (by have := c12 hc194; omega) (by have h9 := wrt_put (g := S.neat) (n := Ss.flatten.length) (i := Ss.flatten.length) (D := []) (x := 47) (v := 47) rfl rfl; rw [wrt_nil] at h9; exact h9) ?_
        refine g_iinc (pc := 205) (v := (nI (Ss.flatten.length + 1))) dc_M_neaten_205 rfl (nI_add Ss.flatten.length 1) (by decide) ?_
        show am_G X mt_M_neaten _ 208 [some (.ref 84), some (.int (nI (Ss.flatten.length + 1))), some (.int (nI Ss.length)), some (.int (b1 b)), some (.int (nI f)), none, none, none] [] _ _
        rw [hns]
        rw [show nty (Ss, b) = Ss.flatten ++ [47] by unfold nty; rw [if_pos hc194]]
        refine am_wk (am_le_s (am_le_s (am_le_n (am_le_n (am_le_n (am_le_n (am_le_n (am_le_n am_le_0)))))))) ?_
        have h9 := u_M_neaten (X := X) (d := d) (B := B) (S := S.s_neat (wrt S.neat Ss.flatten.length [47])) (N := Ss.flatten ++ [47]) hA c1 c2 hH3 hHb c3 hq2 hq3 c4 hq5 hqb (tx_snoc c7) (by rw [List.length_append]; show Ss.flatten.length + 1 ≤ 8400; have := c12 hc194; omega) (btg_app c9 (fun j => by cases j with | zero => exact bt_nI (j := 47) (by omega) | succ j => exact bt_0))
        refine am_G.mono (am_cg h9 (by rw [List.length_append]; rfl)) (fun r h1 hq => ?_)
        obtain ⟨S1, q1, q2, q3⟩ := hq
        exact ⟨S1, q1, scA.tr (scA.nt _ _) q2, q3⟩
end NED
